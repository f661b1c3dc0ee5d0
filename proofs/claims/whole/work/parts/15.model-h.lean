/-! a day -/
def sD1 (v : Nat → Int32) : Nat → Nat × (Nat → Int32)
  | 0 => (0, v)
  | i + 1 => match sD1 v i with
    | (n, u) => if sLeft u i = 0 then (n + (sLapses u i).1, (sLapses u i).2) else (n, u)
def sD2 (v : Nat → Int32) : Nat → (Nat → Int32)
  | 0 => v
  | i + 1 => if sLeft (sD2 v i) i = sD2 v i 3 then (sCov i (sOf (sD2 v i) i (nI 0) (nI 1)) (nI 0) (sD2 v i)).2 else sD2 v i
def sD3 (v : Nat → Int32) : Nat → (Nat → Int32)
  | 0 => v
  | i + 1 => sLB i (zn (sD3 v i (27 + 12 * i + 5))) (sD3 v i)
def sDay0 (v : Nat → Int32) : Nat → Int32 := upd v 0 (v 0 + nI 1)
def sDayA (v : Nat → Int32) : Nat × (Nat → Int32) := sD1 (sDay0 v) (nD v)
def sDayB (v : Nat → Int32) : Nat → Int32 := sD2 (sDayA v).2 (nD v)
def sDayC (v : Nat → Int32) : Nat → Int32 := sD3 (sDayB v) (nD v)
theorem sD1_nn {v : Nat → Int32} (hK : zK v) : ∀ (i n : Nat) (u : Nat → Int32), i ≤ 10 → sD1 v i = (n, u) → zK u ∧ u 2 = v 2 ∧ u 1 = v 1
  | 0, n, u, _, h => by cases h; exact ⟨hK, rfl, rfl⟩
  | i + 1, n, u, hi, h => by
    unfold sD1 at h
    cases hq : sD1 v i with
    | mk n1 u1 =>
      rw [hq] at h
      obtain ⟨a, b, c⟩ := sD1_nn hK i n1 u1 (by omega) hq
      by_cases q : sLeft u1 i = 0
      · simp only [if_pos q] at h
        cases h
        obtain ⟨z1, z2, z3⟩ := sLapses_nn (d := i) a (by omega)
        exact ⟨z1, z2.trans b, z3.trans c⟩
      · simp only [if_neg q] at h
        cases h
        exact ⟨a, b, c⟩
theorem sD2_nn {v : Nat → Int32} (hK : zK v) : ∀ (i : Nat), zK (sD2 v i) ∧ sD2 v i 1 = v 1
  | 0 => ⟨hK, rfl⟩
  | i + 1 => by
    obtain ⟨a, c⟩ := sD2_nn hK i
    unfold sD2
    by_cases q : sLeft (sD2 v i) i = sD2 v i 3
    · rw [if_pos q]
      obtain ⟨z1, z2, -⟩ := sCov_nn (d := i) (sOf (sD2 v i) i (nI 0) (nI 1)) (nI 0) _ a
      exact ⟨z1, z2.trans c⟩
    · rw [if_neg q]; exact ⟨a, c⟩
theorem sD3_nn {v : Nat → Int32} (hK : zK v) : ∀ (i : Nat), i ≤ nD v → zK (sD3 v i) ∧ sD3 v i 1 = v 1
  | 0, _ => ⟨hK, rfl⟩
  | i + 1, hi => by
    obtain ⟨a, c⟩ := sD3_nn hK i (by omega)
    unfold sD3
    have h10 := hK.1.2
    obtain ⟨w, hw, h5, -⟩ := a.2.2.1 i (by omega)
    rw [h5, zn_nI (by omega)]
    obtain ⟨z1, z2⟩ := sLB_nn w _ a (by rw [nD_of c]; omega) h5 hw
    exact ⟨z1, z2.trans c⟩
theorem zK.day0 {v : Nat → Int32} (hK : zK v) : zK (sDay0 v) := hK.of (upd_ne (by omega)) (upd_ne (by omega)) (fun d k hd hk h12 => upd_ne (by omega)) (fun r k hr hk => upd_ne (by omega))
theorem nD_day0 (v : Nat → Int32) : nD (sDay0 v) = nD v := nD_of (upd_ne (by omega))
theorem sDayA_nn {v : Nat → Int32} (hK : zK v) : zK (sDayA v).2 ∧ nD (sDayA v).2 = nD v := by
  obtain ⟨a, b, c⟩ := sD1_nn hK.day0 (nD v) (sDayA v).1 (sDayA v).2 hK.1.2 rfl
  exact ⟨a, (nD_of c).trans (nD_day0 v)⟩
theorem sDayB_nn {v : Nat → Int32} (hK : zK v) : zK (sDayB v) ∧ nD (sDayB v) = nD v := by
  obtain ⟨a, c⟩ := sDayA_nn hK
  obtain ⟨z1, z2⟩ := sD2_nn a (nD v)
  exact ⟨z1, (nD_of z2).trans c⟩
theorem sDayC_nn {v : Nat → Int32} (hK : zK v) : zK (sDayC v) ∧ nD (sDayC v) = nD v := by
  obtain ⟨a, c⟩ := sDayB_nn hK
  obtain ⟨z1, z2⟩ := sD3_nn a (nD v) (by omega)
  exact ⟨z1, (nD_of z2).trans c⟩
set_option maxRecDepth 4000 in
theorem l_X7_oneDay_c {l : Launch} {G : zG} {A : Nat → Nat} {m0 : zM} {v : Nat → Int32} {S : Nat → Nat → Int32} (hK : zK v) : ∀ i, i ≤ nD v → ∀ (mm : zM) (hp : zMP G A m0 (sD3 (sDayB v) i) S mm), zV l G (yX7_oneDay, cX7_oneDay, 3, (some .int)) 8 (some (.int (nI (sDayA v).1))) (fun m' => zMP G A m0 (sDayC v) S m') 90 [some (.ref (A 0)), some (.int (nI (sDayA v).1)), some (.int (nI i))] [] mm := by
  refine z_loop (nD v) (fun i hi ih mm hp => ?_)
  have h10 := hK.1.2
  have hB := sDayB_nn hK
  obtain ⟨hKi, e1⟩ := sD3_nn hB.1 i (by rw [hB.2]; exact hi)
  refine z_iload_n 2 rfl rfl dX7_oneDay_90 ?_
  refine z_aload_n 0 rfl rfl dX7_oneDay_91 ?_
  refine zM_ref 0 1 hp (by decide) rfl (by decide) rfl rfl zf_X7_7 dX7_oneDay_92 ?_
  refine z_iconst (nI 1) dX7_oneDay_95 rfl ?_
  refine zM_vld hp (by omega) dX7_oneDay_96 ?_
  rw [show sD3 (sDayB v) i 1 = nI (nD v) by rw [e1, hB.1.1.1, hB.2]]
  refine z_icmp_ge 111 dX7_oneDay_97 rfl (fun c97 => ?_) (fun c97 => ?_)
  · have e : i = nD v := by have := (nI_leI (by omega) (by omega)).mp c97; omega
    subst e
    refine z_iload_n 1 rfl rfl dX7_oneDay_111 ?_
    exact z_iret dX7_oneDay_112 rfl hp
  · have hl : i < nD v := Nat.lt_of_not_le (fun q => c97 ((nI_leI (by omega) (by omega)).mpr (by omega)))
    obtain ⟨w, hw, h5, -⟩ := hKi.2.2.1 i (by omega)
    refine z_aload_n 0 rfl rfl dX7_oneDay_100 ?_
    refine z_iload_n 2 rfl rfl dX7_oneDay_101 ?_
    refine zM_v1 zm_X7_listBuys (c_X7_listBuys hp i w hKi (by rw [nD_of e1]; omega) h5 hw) hp rfl rfl zl_X7_111 (by decide) (Nat.le_of_ble_eq_true rfl) dX7_oneDay_102 (fun mm hp => ?_)
    have e9 : sD3 (sDayB v) (i + 1) = sLB i w (sD3 (sDayB v) i) := by rw [sD3, h5, zn_nI (by omega)]
    rw [← e9] at hp
    refine z_iincN (n := 1) 2 rfl rfl dX7_oneDay_105 ?_
    refine z_goto 90 dX7_oneDay_108 rfl ?_
    exact ih hl _ hp
set_option maxRecDepth 4000 in
theorem l_X7_oneDay_b {l : Launch} {G : zG} {A : Nat → Nat} {m0 : zM} {v : Nat → Int32} {S : Nat → Nat → Int32} (hK : zK v) : ∀ i, i ≤ nD v → ∀ (mm : zM) (hp : zMP G A m0 (sD2 (sDayA v).2 i) S mm), zV l G (yX7_oneDay, cX7_oneDay, 3, (some .int)) 8 (some (.int (nI (sDayA v).1))) (fun m' => zMP G A m0 (sDayC v) S m') 52 [some (.ref (A 0)), some (.int (nI (sDayA v).1)), some (.int (nI i))] [] mm := by
  refine z_loop (nD v) (fun i hi ih mm hp => ?_)
  have h10 := hK.1.2
  have hB := sDayA_nn hK
  obtain ⟨hKi, e1⟩ := sD2_nn hB.1 i
  refine z_iload_n 2 rfl rfl dX7_oneDay_52 ?_
  refine z_aload_n 0 rfl rfl dX7_oneDay_53 ?_
  refine zM_ref 0 1 hp (by decide) rfl (by decide) rfl rfl zf_X7_7 dX7_oneDay_54 ?_
  refine z_iconst (nI 1) dX7_oneDay_57 rfl ?_
  refine zM_vld hp (by omega) dX7_oneDay_58 ?_
  rw [show sD2 (sDayA v).2 i 1 = nI (nD v) by rw [e1, hB.1.1.1, hB.2]]
  refine z_icmp_ge 88 dX7_oneDay_59 rfl (fun c59 => ?_) (fun c59 => ?_)
  · have e : i = nD v := by have := (nI_leI (by omega) (by omega)).mp c59; omega
    subst e
    refine z_iconst (nI 0) dX7_oneDay_88 rfl ?_
    refine z_istore_n 2 rfl (Nat.le_of_ble_eq_true rfl) rfl dX7_oneDay_89 ?_
    exact l_X7_oneDay_c hK 0 (by omega) _ hp
  · have hl : i < nD v := Nat.lt_of_not_le (fun q => c59 ((nI_leI (by omega) (by omega)).mpr (by omega)))
    refine z_aload_n 0 rfl rfl dX7_oneDay_62 ?_
    refine z_iload_n 2 rfl rfl dX7_oneDay_63 ?_
    refine zM_p1 zm_X7_daysLeft (c_X7_daysLeft hp _ (by omega)) hp rfl rfl zl_X7_49 (by decide) (Nat.le_of_ble_eq_true rfl) dX7_oneDay_64 ?_
    refine z_aload_n 0 rfl rfl dX7_oneDay_67 ?_
    refine zM_ref 0 1 hp (by decide) rfl (by decide) rfl rfl zf_X7_7 dX7_oneDay_68 ?_
    refine z_iconst (nI 3) dX7_oneDay_71 rfl ?_
    refine zM_vld hp (by omega) dX7_oneDay_72 ?_
    refine z_icmp_ne 82 dX7_oneDay_73 rfl (fun c73 => ?_) (fun c73 => ?_)
    · refine z_iincN (n := 1) 2 rfl rfl dX7_oneDay_82 ?_
      refine z_goto 52 dX7_oneDay_85 rfl ?_
      first | exact ih hl _ (by unfold sD2; rw [if_pos c73]; exact hp) | exact ih hl _ (by unfold sD2; rw [if_neg c73]; exact hp)
    · refine z_aload_n 0 rfl rfl dX7_oneDay_76 ?_
      refine z_iload_n 2 rfl rfl dX7_oneDay_77 ?_
      refine zM_u1 zm_X7_covers (c_X7_covers hp i _ hKi (by rw [nD_of e1, hB.2]; omega) (Nat.le_refl _)) hp rfl rfl zl_X7_121 (by decide) (Nat.le_of_ble_eq_true rfl) dX7_oneDay_78 (fun mm hp => ?_)
      refine z_pop dX7_oneDay_81 rfl ?_
      refine z_iincN (n := 1) 2 rfl rfl dX7_oneDay_82 ?_
      refine z_goto 52 dX7_oneDay_85 rfl ?_
      first | exact ih hl _ (by unfold sD2; rw [if_pos c73]; exact hp) | exact ih hl _ (by unfold sD2; rw [if_neg c73]; exact hp)
set_option maxRecDepth 4000 in
theorem l_X7_oneDay_a {l : Launch} {G : zG} {A : Nat → Nat} {m0 : zM} {v : Nat → Int32} {S : Nat → Nat → Int32} (hK : zK v) : ∀ i, i ≤ nD v → ∀ (n : Nat) (u : Nat → Int32) (hu : sD1 (sDay0 v) i = (n, u)) (mm : zM) (hp : zMP G A m0 u S mm), zV l G (yX7_oneDay, cX7_oneDay, 3, (some .int)) 8 (some (.int (nI (sDayA v).1))) (fun m' => zMP G A m0 (sDayC v) S m') 14 [some (.ref (A 0)), some (.int (nI n)), some (.int (nI i))] [] mm := by
  refine z_loop (nD v) (fun i hi ih n u hu mm hp => ?_)
  have h10 := hK.1.2
  obtain ⟨hKu, e2, e1⟩ := sD1_nn hK.day0 i n u (by omega) hu
  refine z_iload_n 2 rfl rfl dX7_oneDay_14 ?_
  refine z_aload_n 0 rfl rfl dX7_oneDay_15 ?_
  refine zM_ref 0 1 hp (by decide) rfl (by decide) rfl rfl zf_X7_7 dX7_oneDay_16 ?_
  refine z_iconst (nI 1) dX7_oneDay_19 rfl ?_
  refine zM_vld hp (by omega) dX7_oneDay_20 ?_
  rw [show u 1 = nI (nD v) by rw [e1, hK.day0.1.1, nD_day0]]
  refine z_icmp_ge 50 dX7_oneDay_21 rfl (fun c21 => ?_) (fun c21 => ?_)
  · have e : i = nD v := by have := (nI_leI (by omega) (by omega)).mp c21; omega
    subst e
    have e8 : sDayA v = (n, u) := hu
    have e7 : n = (sDayA v).1 := by rw [e8]
    rw [e7]
    refine z_iconst (nI 0) dX7_oneDay_50 rfl ?_
    refine z_istore_n 2 rfl (Nat.le_of_ble_eq_true rfl) rfl dX7_oneDay_51 ?_
    exact l_X7_oneDay_b hK 0 (by omega) _ (by rw [show (sDayA v).2 = u by rw [e8]]; exact hp)
  · have hl : i < nD v := Nat.lt_of_not_le (fun q => c21 ((nI_leI (by omega) (by omega)).mpr (by omega)))
    refine z_iload_n 1 rfl rfl dX7_oneDay_24 ?_
    refine z_aload_n 0 rfl rfl dX7_oneDay_25 ?_
    refine z_iload_n 2 rfl rfl dX7_oneDay_26 ?_
    refine zM_p1 zm_X7_daysLeft (c_X7_daysLeft hp _ (by omega)) hp rfl rfl zl_X7_49 (by decide) (Nat.le_of_ble_eq_true rfl) dX7_oneDay_27 ?_
    refine z_if_ne 41 dX7_oneDay_30 rfl (fun c30 => ?_) (fun c30 => ?_)
    · refine z_iconst (nI 0) dX7_oneDay_41 rfl ?_
      refine z_iaddN dX7_oneDay_42 ?_
      refine z_istore_n 1 rfl (Nat.le_of_ble_eq_true rfl) rfl dX7_oneDay_43 ?_
      refine z_iincN (n := 1) 2 rfl rfl dX7_oneDay_44 ?_
      refine z_goto 14 dX7_oneDay_47 rfl ?_
      first | exact ih hl _ _ (by simp only [sD1, hu]; exact if_pos c30) _ hp | exact ih hl _ _ (by simp only [sD1, hu]; exact if_neg c30) _ hp
    · refine z_aload_n 0 rfl rfl dX7_oneDay_33 ?_
      refine z_iload_n 2 rfl rfl dX7_oneDay_34 ?_
      refine zM_u1 zm_X7_lapses (c_X7_lapses hp i hKu (by omega)) hp rfl rfl zl_X7_118 (by decide) (Nat.le_of_ble_eq_true rfl) dX7_oneDay_35 (fun mm hp => ?_)
      refine z_goto 42 dX7_oneDay_38 rfl ?_
      refine z_iaddN dX7_oneDay_42 ?_
      refine z_istore_n 1 rfl (Nat.le_of_ble_eq_true rfl) rfl dX7_oneDay_43 ?_
      refine z_iincN (n := 1) 2 rfl rfl dX7_oneDay_44 ?_
      refine z_goto 14 dX7_oneDay_47 rfl ?_
      first | exact ih hl _ _ (by simp only [sD1, hu]; exact if_pos c30) _ hp | exact ih hl _ _ (by simp only [sD1, hu]; exact if_neg c30) _ hp
set_option maxRecDepth 4000 in
theorem c_X7_oneDay {l : Launch} {G : zG} {A : Nat → Nat} {m0 mm : zM} {v : Nat → Int32} {S : Nat → Nat → Int32} (hp : zMP G A m0 v S mm) (hK : zK v) : zSem l G (yX7_oneDay, cX7_oneDay, 3, (some .int)) 8 [.ref (A 0)] mm (some (.int (nI (sDayA v).1))) (fun m' => zMP G A m0 (sDayC v) S m') := by
  refine z_met [some (.ref (A 0)), none, none] rfl (zc1 (by rfl)) (Nat.le_of_ble_eq_true rfl) rfl ?_
  refine z_aload_n 0 rfl rfl dX7_oneDay_0 ?_
  refine zM_ref 0 1 hp (by decide) rfl (by decide) rfl rfl zf_X7_7 dX7_oneDay_1 ?_
  refine z_iconst (nI 0) dX7_oneDay_4 rfl ?_
  refine z_dup2 dX7_oneDay_5 rfl rfl ?_
  refine zM_vld hp (by omega) dX7_oneDay_6 ?_
  refine z_iconst (nI 1) dX7_oneDay_7 rfl ?_
  refine z_iadd dX7_oneDay_8 ?_
  refine zM_vst hp (by omega) dX7_oneDay_9 (fun mm hp => ?_)
  refine z_iconst (nI 0) dX7_oneDay_10 rfl ?_
  refine z_istore_n 1 rfl (Nat.le_of_ble_eq_true rfl) rfl dX7_oneDay_11 ?_
  refine z_iconst (nI 0) dX7_oneDay_12 rfl ?_
  refine z_istore_n 2 rfl (Nat.le_of_ble_eq_true rfl) rfl dX7_oneDay_13 ?_
  exact l_X7_oneDay_a hK 0 (by omega) 0 _ rfl _ hp
def sDays (v : Nat → Int32) : Nat → Nat × (Nat → Int32)
  | 0 => (0, v)
  | i + 1 => match sDays v i with
    | (n, u) => (n + (sDayA u).1, sDayC u)
theorem sDays_nn {v : Nat → Int32} (hK : zK v) : ∀ (i n : Nat) (u : Nat → Int32), sDays v i = (n, u) → zK u
  | 0, n, u, h => by cases h; exact hK
  | i + 1, n, u, h => by
    unfold sDays at h
    cases hq : sDays v i with
    | mk n1 u1 =>
      rw [hq] at h
      have a := sDays_nn hK i n1 u1 hq
      cases h
      exact (sDayC_nn a).1
def sPass (v : Nat → Int32) (x : Int32) : Int32 × (Nat → Int32) × Bool :=
  if zIn x (nI 1) (nI 60) = true then (if v 0 + x ≤ nI 9999 then (nI (sDays v (zn x)).1, (sDays v (zn x)).2, true) else (-4, v, false)) else (-2, v, false)
def sTk (v : Nat → Int32) (x : Int32) : Int32 × (Nat → Int32) × Bool :=
  if zIn x (nI 0) (v 2 - nI 1) = true then (if v (147 + 7 * zn x + 3) = nI 1 then (v (147 + 7 * zn x + 4), sBec v (zn x) (nI 0), true) else (-4, v, false)) else (-1, v, false)
def sAw1 (v : Nat → Int32) (d w : Nat) (x : Int32) : Nat → Int32 := upd (upd v (27 + 12 * d + (6 + w)) x) (27 + 12 * d + 5) (nI (w + 1))
def sAw (v : Nat → Int32) (x y : Int32) : Int32 × (Nat → Int32) × Bool :=
  if zIn x (nI 0) (nI 9) = true ∧ zIn y (nI 0) (v 1 - nI 1) = true then
    if sOpen v (zn y) = true ∧ sPl v (zn y) x (zn (v (27 + 12 * zn y + 5))) < 0 then
      if v (27 + 12 * zn y + 5) = nI 6 then (-3, v, false) else (nI (zn (v (27 + 12 * zn y + 5)) + 1), sAw1 v (zn y) (zn (v (27 + 12 * zn y + 5))) x, true)
    else (-4, v, false)
  else (-1, v, false)
def sLv (v : Nat → Int32) (x y : Int32) : Int32 × (Nat → Int32) × Bool :=
  if zIn x (nI 0) (nI 9) = true ∧ zIn y (nI 0) (v 1 - nI 1) = true then
    if sPl v (zn y) x (zn (v (27 + 12 * zn y + 5))) < 0 then (sPl v (zn y) x (zn (v (27 + 12 * zn y + 5))), v, false)
    else (sPl v (zn y) x (zn (v (27 + 12 * zn y + 5))), sDrop v (zn y) (zn (sPl v (zn y) x (zn (v (27 + 12 * zn y + 5))))) (zn (v (27 + 12 * zn y + 5))), true)
  else (-1, v, false)
theorem sPl_nn {v : Nat → Int32} {d : Nat} {h : Int32} : ∀ {n : Nat}, ¬ sPl v d h n < 0 → n ≤ 6 → ∃ p, p < n ∧ sPl v d h n = nI p
  | 0, q, _ => absurd (show (-5 : Int32) < 0 by decide) q
  | n + 1, q, hn => by
    unfold sPl at q ⊢
    split
    · exact ⟨n, by omega, rfl⟩
    · rename_i c
      rw [if_neg c] at q
      obtain ⟨p, h1, h2⟩ := sPl_nn q (by omega)
      exact ⟨p, by omega, h2⟩
def sSet (v : Nat → Int32) (x y : Int32) : Int32 × (Nat → Int32) × Bool :=
  if zIn x (nI 0) (nI 3) = true then
    if zIn y (zLow (zn x)) (zHigh (zn x)) = true then (if v (3 + zn x) = y then (-5, v, false) else (v (3 + zn x), upd v (3 + zn x) y, true))
    else (-2, v, false)
  else (-2, v, false)
def sLo (v : Nat → Int32) (k : Nat) : Int32 := if k = 3 then nI 0 else v (9 + 2 * k + 2) + nI 1
def sHi (v : Nat → Int32) (k : Nat) : Int32 := if k = 3 then nI 0 else if k = 0 then nI 99 else v (9 + 2 * k - 2) - nI 1
def sSt (v : Nat → Int32) (x y z : Int32) : Int32 × (Nat → Int32) × Bool :=
  if zIn x (nI 0) (nI 3) = true then
    if zIn y (sLo v (zn x)) (sHi v (zn x)) = true ∧ zIn z (nI 0) (nI 100) = true then
      if v (9 + 2 * zn x) = y ∧ v (9 + 2 * zn x + 1) = z then (-5, v, false) else (v (9 + 2 * zn x + 1), upd (upd v (9 + 2 * zn x) y) (9 + 2 * zn x + 1) z, true)
    else (-2, v, false)
  else (-1, v, false)
def sAdd1 (v : Nat → Int32) (d : Nat) (a b c e f : Int32) : Nat → Int32 :=
  upd (upd (upd (upd (upd (upd v (27 + 12 * d + 0) a) (27 + 12 * d + 1) b) (27 + 12 * d + 2) c) (27 + 12 * d + 3) e) (27 + 12 * d + 4) f) (27 + 12 * d + 5) (nI 0)
def sAddOk (v : Nat → Int32) (a b c e f : Int32) : Bool := zIn a (v 0 + nI 1) (nI 999) && (zIn b (nI 1) (nI 20) && (zIn c (nI 0) (nI 5) && (zIn e (nI 1) (nI 9999) && zIn f (nI 0) (nI 2))))
def sAdd (v : Nat → Int32) (a b c e f : Int32) : Int32 × (Nat → Int32) × Bool :=
  if sAddOk v a b c e f = true then (if v 1 = nI 10 then (-3, v, false) else (nI (nD v), upd (sAdd1 v (nD v) a b c e f) 1 (sAdd1 v (nD v) a b c e f 1 + nI 1), true)) else (-2, v, false)
set_option maxRecDepth 4000 in
theorem l_X7_pass {l : Launch} {G : zG} {A : Nat → Nat} {m0 : zM} {v : Nat → Int32} {S : Nat → Nat → Int32} (j : Nat) (hj : j ≤ 60) (hK : zK v) : ∀ i, i ≤ j → ∀ (n : Nat) (u : Nat → Int32) (hu : sDays v i = (n, u)) (mm : zM) (hp : zMP G A m0 u S mm), zV l G (yX7_pass, cX7_pass, 4, (some .int)) 9 (some (.int (nI (sDays v j).1))) (fun m' => zMP G A m0 (sDays v j).2 S m') 38 [some (.ref (A 0)), some (.int (nI j)), some (.int (nI n)), some (.int (nI i))] [] mm := by
  refine z_loop (j) (fun i hi ih n u hu mm hp => ?_)
  have hKu := sDays_nn hK i n u hu
  refine z_iload_n 3 rfl rfl dX7_pass_38 ?_
  refine z_iload_n 1 rfl rfl dX7_pass_39 ?_
  refine z_icmp_ge 56 dX7_pass_40 rfl (fun c40 => ?_) (fun c40 => ?_)
  · have e : i = j := by have := (nI_leI (by omega) (by omega)).mp c40; omega
    subst e
    refine z_iload_n 2 rfl rfl dX7_pass_56 ?_
    exact z_iret dX7_pass_57 (by rw [hu]) (by rw [hu]; exact hp)
  · have hl : i < j := Nat.lt_of_not_le (fun q => c40 ((nI_leI (by omega) (by omega)).mpr (by omega)))
    refine z_iload_n 2 rfl rfl dX7_pass_43 ?_
    refine z_aload_n 0 rfl rfl dX7_pass_44 ?_
    refine zM_u0 zm_X7_oneDay (c_X7_oneDay hp hKu) hp rfl rfl zl_X7_154 (by decide) (Nat.le_of_ble_eq_true rfl) dX7_pass_45 (fun mm hp => ?_)
    refine z_iaddN dX7_pass_48 ?_
    refine z_istore_n 2 rfl (Nat.le_of_ble_eq_true rfl) rfl dX7_pass_49 ?_
    refine z_iincN (n := 1) 3 rfl rfl dX7_pass_50 ?_
    refine z_goto 38 dX7_pass_53 rfl ?_
    exact ih hl _ _ (by simp only [sDays, hu]) _ hp
set_option maxRecDepth 4000 in
theorem c_X7_pass {l : Launch} {G : zG} {A : Nat → Nat} {m0 mm : zM} {v : Nat → Int32} {S : Nat → Nat → Int32} (hp : zMP G A m0 v S mm) (x : Int32) (hK : zK v) (n : Nat) (hn : n ≤ 4) (hS : S 0 3 = nI n) : zSem l G (yX7_pass, cX7_pass, 4, (some .int)) 9 [.ref (A 0), .int x] mm (some (.int (sPass v x).1)) (fun m' => zMP G A m0 (sPass v x).2.1 (if (sPass v x).2.2 = true then sRec v S n else S) m') := by
  have hJ := hK.2.1
  have hJ2 := hK.2.1.2
  have hD2 := hK.1.2
  refine z_met [some (.ref (A 0)), some (.int x), none, none] rfl (zc1 (by rfl)) (Nat.le_of_ble_eq_true rfl) rfl ?_
  refine z_iload_n 1 rfl rfl dX7_pass_0 ?_
  refine z_iconst (nI 1) dX7_pass_1 rfl ?_
  refine z_bipush (nI 60) dX7_pass_2 rfl ?_
  refine z_pS3 zm_X7_in (c_X7_in _ _ _) rfl zl_X7_35 (by decide) (Nat.le_of_ble_eq_true rfl) dX7_pass_4 ?_
  refine z_if_neB 13 dX7_pass_7 rfl (fun c7 => ?_) (fun c7 => ?_)
  · obtain ⟨j, hj, hj60, rfl⟩ : ∃ j, 1 ≤ j ∧ j ≤ 60 ∧ x = nI j := by
      have h1 : zIn x (nI 0) (nI 60) = true := by
        unfold zIn at c7 ⊢
        rw [Bool.and_eq_true, decide_eq_true_eq, decide_eq_true_eq] at c7 ⊢
        exact ⟨Int32.le_trans (by decide) c7.1, c7.2⟩
      obtain ⟨j, hj, rfl⟩ := zIn_nI (by decide) h1
      unfold zIn at c7
      rw [Bool.and_eq_true, decide_eq_true_eq, decide_eq_true_eq] at c7
      exact ⟨j, (nI_leI (by omega) (by omega)).mp c7.1, hj, rfl⟩
    refine z_aload_n 0 rfl rfl dX7_pass_13 ?_
    refine zM_ref 0 1 hp (by decide) rfl (by decide) rfl rfl zf_X7_7 dX7_pass_14 ?_
    refine z_iconst (nI 0) dX7_pass_17 rfl ?_
    refine zM_vld hp (by omega) dX7_pass_18 ?_
    refine z_iload_n 1 rfl rfl dX7_pass_19 ?_
    refine z_iadd dX7_pass_20 ?_
    refine z_sipush (nI 9999) dX7_pass_21 rfl ?_
    refine z_icmp_le 30 dX7_pass_24 rfl (fun c24 => ?_) (fun c24 => ?_)
    · refine z_aload_n 0 rfl rfl dX7_pass_30 ?_
      refine zM_v0 zm_X7_record (c_X7_record hp n hn hS) hp rfl rfl zl_X7_124 (by decide) (Nat.le_of_ble_eq_true rfl) dX7_pass_31 (fun mm hp => ?_)
      refine z_iconst (nI 0) dX7_pass_34 rfl ?_
      refine z_istore_n 2 rfl (Nat.le_of_ble_eq_true rfl) rfl dX7_pass_35 ?_
      refine z_iconst (nI 0) dX7_pass_36 rfl ?_
      refine z_istore_n 3 rfl (Nat.le_of_ble_eq_true rfl) rfl dX7_pass_37 ?_
      have e9 : sPass v (nI j) = (nI (sDays v j).1, (sDays v j).2, true) := by simp only [sPass, c7, zn_nI (show j < 2 ^ 31 by omega), and_self, and_true, true_and, and_false, false_and, reduceIte, Bool.false_eq_true, reduceCtorEq]; rw [if_pos c24]
      rw [e9]
      exact l_X7_pass j hj60 hK 0 (by omega) 0 v rfl _ hp
    · refine z_bipush (-4) dX7_pass_27 (by decide) ?_
      have e9 : sPass v (nI j) = (-4, v, false) := by simp only [sPass, c7, and_self, and_true, true_and, and_false, false_and, reduceIte, Bool.false_eq_true, reduceCtorEq]; rw [if_neg c24]
      exact z_iret dX7_pass_29 (by rw [e9]) (by rw [e9]; exact hp)
  · refine z_bipush (-2) dX7_pass_10 (by decide) ?_
    have e9 : sPass v x = (-2, v, false) := by simp only [sPass, c7, and_self, and_true, true_and, and_false, false_and, reduceIte, Bool.false_eq_true, reduceCtorEq]
    exact z_iret dX7_pass_12 (by rw [e9]) (by rw [e9]; exact hp)
set_option maxRecDepth 4000 in
theorem c_X7_takeBack {l : Launch} {G : zG} {A : Nat → Nat} {m0 mm : zM} {v : Nat → Int32} {S : Nat → Nat → Int32} (hp : zMP G A m0 v S mm) (x : Int32) (hK : zK v) (n : Nat) (hn : n ≤ 4) (hS : S 0 3 = nI n) : zSem l G (yX7_takeBack, cX7_takeBack, 3, (some .int)) 3 [.ref (A 0), .int x] mm (some (.int (sTk v x).1)) (fun m' => zMP G A m0 (sTk v x).2.1 (if (sTk v x).2.2 = true then sRec v S n else S) m') := by
  have hJ := hK.2.1
  have hJ2 := hK.2.1.2
  have hD2 := hK.1.2
  refine z_met [some (.ref (A 0)), some (.int x), none] rfl (zc1 (by rfl)) (Nat.le_of_ble_eq_true rfl) rfl ?_
  refine z_aload_n 0 rfl rfl dX7_takeBack_0 ?_
  refine z_iload_n 1 rfl rfl dX7_takeBack_1 ?_
  refine zM_p1 zm_X7_isRight (c_X7_isRight hp _) hp rfl rfl zl_X7_102 (by decide) (Nat.le_of_ble_eq_true rfl) dX7_takeBack_2 ?_
  refine z_if_neB 10 dX7_takeBack_5 rfl (fun c5 => ?_) (fun c5 => ?_)
  · obtain ⟨r, d, g, hr, rfl, hd, e0, hg, e1⟩ := zRt hK c5
    refine z_aload_n 0 rfl rfl dX7_takeBack_10 ?_
    refine z_iload_n 1 rfl rfl dX7_takeBack_11 ?_
    refine z_iconst (nI 3) dX7_takeBack_12 rfl ?_
    refine zM_p2 zm_X7_of (c_X7_of hp _ _ (by omega) (by omega)) hp rfl rfl zl_X7_53 (by decide) (Nat.le_of_ble_eq_true rfl) dX7_takeBack_13 ?_
    refine z_iconst (nI 1) dX7_takeBack_16 rfl ?_
    refine z_icmp_eq 23 dX7_takeBack_17 rfl (fun c17 => ?_) (fun c17 => ?_)
    · refine z_aload_n 0 rfl rfl dX7_takeBack_23 ?_
      refine zM_v0 zm_X7_record (c_X7_record hp n hn hS) hp rfl rfl zl_X7_124 (by decide) (Nat.le_of_ble_eq_true rfl) dX7_takeBack_24 (fun mm hp => ?_)
      refine z_aload_n 0 rfl rfl dX7_takeBack_27 ?_
      refine z_iload_n 1 rfl rfl dX7_takeBack_28 ?_
      refine z_iconst (nI 4) dX7_takeBack_29 rfl ?_
      refine zM_p2 zm_X7_of (c_X7_of hp _ _ (by omega) (by omega)) hp rfl rfl zl_X7_53 (by decide) (Nat.le_of_ble_eq_true rfl) dX7_takeBack_30 ?_
      refine z_istore_n 2 rfl (Nat.le_of_ble_eq_true rfl) rfl dX7_takeBack_33 ?_
      refine z_aload_n 0 rfl rfl dX7_takeBack_34 ?_
      refine z_iload_n 1 rfl rfl dX7_takeBack_35 ?_
      refine z_iconst (nI 0) dX7_takeBack_36 rfl ?_
      refine zM_v2 zm_X7_becomes (c_X7_becomes hp _ _ (by omega)) hp rfl rfl zl_X7_99 (by decide) (Nat.le_of_ble_eq_true rfl) dX7_takeBack_37 (fun mm hp => ?_)
      refine z_iload_n 2 rfl rfl dX7_takeBack_40 ?_
      have e9 : sTk v (nI r) = (v (147 + 7 * r + 4), sBec v r (nI 0), true) := by simp only [sTk, c5, zn_nI (show r < 2 ^ 31 by omega), and_self, and_true, true_and, and_false, false_and, reduceIte, Bool.false_eq_true, reduceCtorEq]; rw [if_pos c17]
      exact z_iret dX7_takeBack_41 (by rw [e9]) (by rw [e9]; exact hp)
    · refine z_bipush (-4) dX7_takeBack_20 (by decide) ?_
      have e9 : sTk v (nI r) = (-4, v, false) := by simp only [sTk, c5, zn_nI (show r < 2 ^ 31 by omega), and_self, and_true, true_and, and_false, false_and, reduceIte, Bool.false_eq_true, reduceCtorEq]; rw [if_neg c17]
      exact z_iret dX7_takeBack_22 (by rw [e9]) (by rw [e9]; exact hp)
  · refine z_iconst (-1) dX7_takeBack_8 (by decide) ?_
    have e9 : sTk v x = (-1, v, false) := by simp only [sTk, c5, and_self, and_true, true_and, and_false, false_and, reduceIte, Bool.false_eq_true, reduceCtorEq]
    exact z_iret dX7_takeBack_9 (by rw [e9]) (by rw [e9]; exact hp)
set_option maxRecDepth 4000 in
theorem c_X7_await {l : Launch} {G : zG} {A : Nat → Nat} {m0 mm : zM} {v : Nat → Int32} {S : Nat → Nat → Int32} (hp : zMP G A m0 v S mm) (x y : Int32) (hK : zK v) (n : Nat) (hn : n ≤ 4) (hS : S 0 3 = nI n) : zSem l G (yX7_await, cX7_await, 3, (some .int)) 5 [.ref (A 0), .int x, .int y] mm (some (.int (sAw v x y).1)) (fun m' => zMP G A m0 (sAw v x y).2.1 (if (sAw v x y).2.2 = true then sRec v S n else S) m') := by
  have hJ := hK.2.1
  have hJ2 := hK.2.1.2
  have hD2 := hK.1.2
  refine z_met [some (.ref (A 0)), some (.int x), some (.int y)] rfl (zc1 (by rfl)) (Nat.le_of_ble_eq_true rfl) rfl ?_
  refine z_iload_n 1 rfl rfl dX7_await_0 ?_
  refine z_pS1 zm_X7_isHolder (c_X7_isHolder _) rfl zl_X7_90 (by decide) (Nat.le_of_ble_eq_true rfl) dX7_await_1 ?_
  refine z_if_eqB 15 dX7_await_4 rfl (fun c4 => ?_) (fun c4 => ?_)
  · refine z_iconst (-1) dX7_await_15 (by decide) ?_
    have e9 : sAw v x y = (-1, v, false) := by simp only [sAw, c4, and_self, and_true, true_and, and_false, false_and, reduceIte, Bool.false_eq_true, reduceCtorEq]
    exact z_iret dX7_await_16 (by rw [e9]) (by rw [e9]; exact hp)
  · obtain ⟨h, hh, rfl⟩ := zIn_nI (by decide) c4
    refine z_aload_n 0 rfl rfl dX7_await_7 ?_
    refine z_iload_n 2 rfl rfl dX7_await_8 ?_
    refine zM_p1 zm_X7_isDate (c_X7_isDate hp _) hp rfl rfl zl_X7_93 (by decide) (Nat.le_of_ble_eq_true rfl) dX7_await_9 ?_
    refine z_if_neB 17 dX7_await_12 rfl (fun c12 => ?_) (fun c12 => ?_)
    · obtain ⟨d, hd, rfl⟩ := zDt hK c12
      obtain ⟨w, hw, h5, -⟩ := hK.2.2.1 d (by omega)
      have znw := zn_nI (show w < 2 ^ 31 by omega)
      have znd := zn_nI (show d < 2 ^ 31 by omega)
      refine z_aload_n 0 rfl rfl dX7_await_17 ?_
      refine z_iload_n 2 rfl rfl dX7_await_18 ?_
      refine zM_p1 zm_X7_isOpen (c_X7_isOpen hp _ (by omega)) hp rfl rfl zl_X7_63 (by decide) (Nat.le_of_ble_eq_true rfl) dX7_await_19 ?_
      refine z_if_eqB 34 dX7_await_22 rfl (fun c22 => ?_) (fun c22 => ?_)
      · refine z_bipush (-4) dX7_await_34 (by decide) ?_
        have e9 : sAw v (nI h) (nI d) = (-4, v, false) := by first | (simp only [sAw, c4, c12, znd, c22, and_self, and_true, true_and, and_false, false_and, reduceIte, Bool.false_eq_true, reduceCtorEq]; done) | (simp only [sAw, c4, c12, znd, c22, h5, znw, and_self, and_true, true_and, and_false, false_and, reduceIte, Bool.false_eq_true, reduceCtorEq]; rw [if_neg c31])
        exact z_iret dX7_await_36 (by rw [e9]) (by rw [e9]; exact hp)
      · refine z_aload_n 0 rfl rfl dX7_await_25 ?_
        refine z_iload_n 1 rfl rfl dX7_await_26 ?_
        refine z_iload_n 2 rfl rfl dX7_await_27 ?_
        refine zM_p2 zm_X7_placeOf (c_X7_placeOf hp d w _ (by omega) h5 hw) hp rfl rfl zl_X7_151 (by decide) (Nat.le_of_ble_eq_true rfl) dX7_await_28 ?_
        refine z_if_lt 37 dX7_await_31 rfl (fun c31 => ?_) (fun c31 => ?_)
        · refine z_aload_n 0 rfl rfl dX7_await_37 ?_
          refine z_iload_n 2 rfl rfl dX7_await_38 ?_
          refine z_iconst (nI 5) dX7_await_39 rfl ?_
          refine zM_p2 zm_X7_ofDate (c_X7_ofDate hp _ _ (by omega) (by omega)) hp rfl rfl zl_X7_46 (by decide) (Nat.le_of_ble_eq_true rfl) dX7_await_40 ?_
          rw [h5]
          refine z_bipush (nI 6) dX7_await_43 rfl ?_
          refine z_icmp_ne 51 dX7_await_45 rfl (fun c45 => ?_) (fun c45 => ?_)
          · have hw6 : w < 6 := by rcases Nat.lt_or_ge w 6 with q | q; exact q; exact absurd (by rw [show w = 6 by omega]) c45
            refine z_aload_n 0 rfl rfl dX7_await_51 ?_
            refine zM_v0 zm_X7_record (c_X7_record hp n hn hS) hp rfl rfl zl_X7_124 (by decide) (Nat.le_of_ble_eq_true rfl) dX7_await_52 (fun mm hp => ?_)
            refine z_aload_n 0 rfl rfl dX7_await_55 ?_
            refine zM_ref 0 1 hp (by decide) rfl (by decide) rfl rfl zf_X7_7 dX7_await_56 ?_
            refine z_iload_n 2 rfl rfl dX7_await_59 ?_
            refine z_bipush (nI 6) dX7_await_60 rfl ?_
            refine z_aload_n 0 rfl rfl dX7_await_62 ?_
            refine z_iload_n 2 rfl rfl dX7_await_63 ?_
            refine z_iconst (nI 5) dX7_await_64 rfl ?_
            refine zM_p2 zm_X7_ofDate (c_X7_ofDate hp _ _ (by omega) (by omega)) hp rfl rfl zl_X7_46 (by decide) (Nat.le_of_ble_eq_true rfl) dX7_await_65 ?_
            rw [h5]
            refine z_iaddN dX7_await_68 ?_
            refine z_pS2 zm_X7_dateAt (c_X7_dateAt _ _) rfl zl_X7_39 (by decide) (Nat.le_of_ble_eq_true rfl) dX7_await_69 ?_
            refine z_iload_n 1 rfl rfl dX7_await_72 ?_
            refine zM_vst hp (by omega) dX7_await_73 (fun mm hp => ?_)
            refine z_aload_n 0 rfl rfl dX7_await_74 ?_
            refine zM_ref 0 1 hp (by decide) rfl (by decide) rfl rfl zf_X7_7 dX7_await_75 ?_
            refine z_iload_n 2 rfl rfl dX7_await_78 ?_
            refine z_iconst (nI 5) dX7_await_79 rfl ?_
            refine z_pS2 zm_X7_dateAt (c_X7_dateAt _ _) rfl zl_X7_39 (by decide) (Nat.le_of_ble_eq_true rfl) dX7_await_80 ?_
            refine z_dup2 dX7_await_83 rfl rfl ?_
            refine zM_vld hp (by omega) dX7_await_84 ?_
            rw [show upd v (27 + 12 * d + (6 + w)) (nI h) (27 + 12 * d + 5) = nI w by rw [upd_ne (by omega)]; exact h5]
            refine z_iconst (nI 1) dX7_await_85 rfl ?_
            refine z_iaddN dX7_await_86 ?_
            refine zM_vst hp (by omega) dX7_await_87 (fun mm hp => ?_)
            refine z_aload_n 0 rfl rfl dX7_await_88 ?_
            refine z_iload_n 2 rfl rfl dX7_await_89 ?_
            refine z_iconst (nI 5) dX7_await_90 rfl ?_
            refine zM_p2 zm_X7_ofDate (c_X7_ofDate hp _ _ (by omega) (by omega)) hp rfl rfl zl_X7_46 (by decide) (Nat.le_of_ble_eq_true rfl) dX7_await_91 ?_
            rw [upd_eq]
            have e9 : sAw v (nI h) (nI d) = (nI (w + 1), sAw1 v d w (nI h), true) := by simp only [sAw, c4, c12, znd, c22, h5, znw, and_self, and_true, true_and, and_false, false_and, reduceIte, Bool.false_eq_true, reduceCtorEq]; rw [if_pos c31, if_neg c45]
            exact z_iret dX7_await_94 (by rw [e9]) (by rw [e9]; exact hp)
          · refine z_bipush (-3) dX7_await_48 (by decide) ?_
            have e9 : sAw v (nI h) (nI d) = (-3, v, false) := by simp only [sAw, c4, c12, znd, c22, h5, znw, and_self, and_true, true_and, and_false, false_and, reduceIte, Bool.false_eq_true, reduceCtorEq]; rw [if_pos c31, if_pos c45]
            exact z_iret dX7_await_50 (by rw [e9]) (by rw [e9]; exact hp)
        · refine z_bipush (-4) dX7_await_34 (by decide) ?_
          have e9 : sAw v (nI h) (nI d) = (-4, v, false) := by first | (simp only [sAw, c4, c12, znd, c22, and_self, and_true, true_and, and_false, false_and, reduceIte, Bool.false_eq_true, reduceCtorEq]; done) | (simp only [sAw, c4, c12, znd, c22, h5, znw, and_self, and_true, true_and, and_false, false_and, reduceIte, Bool.false_eq_true, reduceCtorEq]; rw [if_neg c31])
          exact z_iret dX7_await_36 (by rw [e9]) (by rw [e9]; exact hp)
    · refine z_iconst (-1) dX7_await_15 (by decide) ?_
      have e9 : sAw v (nI h) y = (-1, v, false) := by simp only [sAw, c4, c12, and_self, and_true, true_and, and_false, false_and, reduceIte, Bool.false_eq_true, reduceCtorEq]
      exact z_iret dX7_await_16 (by rw [e9]) (by rw [e9]; exact hp)
set_option maxRecDepth 4000 in
theorem c_X7_leave {l : Launch} {G : zG} {A : Nat → Nat} {m0 mm : zM} {v : Nat → Int32} {S : Nat → Nat → Int32} (hp : zMP G A m0 v S mm) (x y : Int32) (hK : zK v) (n : Nat) (hn : n ≤ 4) (hS : S 0 3 = nI n) : zSem l G (yX7_leave, cX7_leave, 4, (some .int)) 4 [.ref (A 0), .int x, .int y] mm (some (.int (sLv v x y).1)) (fun m' => zMP G A m0 (sLv v x y).2.1 (if (sLv v x y).2.2 = true then sRec v S n else S) m') := by
  have hJ := hK.2.1
  have hJ2 := hK.2.1.2
  have hD2 := hK.1.2
  refine z_met [some (.ref (A 0)), some (.int x), some (.int y), none] rfl (zc1 (by rfl)) (Nat.le_of_ble_eq_true rfl) rfl ?_
  refine z_iload_n 1 rfl rfl dX7_leave_0 ?_
  refine z_pS1 zm_X7_isHolder (c_X7_isHolder _) rfl zl_X7_90 (by decide) (Nat.le_of_ble_eq_true rfl) dX7_leave_1 ?_
  refine z_if_eqB 15 dX7_leave_4 rfl (fun c4 => ?_) (fun c4 => ?_)
  · refine z_iconst (-1) dX7_leave_15 (by decide) ?_
    have e9 : sLv v x y = (-1, v, false) := by simp only [sLv, c4, and_self, and_true, true_and, and_false, false_and, reduceIte, Bool.false_eq_true, reduceCtorEq]
    exact z_iret dX7_leave_16 (by rw [e9]) (by rw [e9]; exact hp)
  · obtain ⟨h, hh, rfl⟩ := zIn_nI (by decide) c4
    refine z_aload_n 0 rfl rfl dX7_leave_7 ?_
    refine z_iload_n 2 rfl rfl dX7_leave_8 ?_
    refine zM_p1 zm_X7_isDate (c_X7_isDate hp _) hp rfl rfl zl_X7_93 (by decide) (Nat.le_of_ble_eq_true rfl) dX7_leave_9 ?_
    refine z_if_neB 17 dX7_leave_12 rfl (fun c12 => ?_) (fun c12 => ?_)
    · obtain ⟨d, hd, rfl⟩ := zDt hK c12
      obtain ⟨w, hw, h5, -⟩ := hK.2.2.1 d (by omega)
      have znw := zn_nI (show w < 2 ^ 31 by omega)
      have znd := zn_nI (show d < 2 ^ 31 by omega)
      refine z_aload_n 0 rfl rfl dX7_leave_17 ?_
      refine z_iload_n 1 rfl rfl dX7_leave_18 ?_
      refine z_iload_n 2 rfl rfl dX7_leave_19 ?_
      refine zM_p2 zm_X7_placeOf (c_X7_placeOf hp d w _ (by omega) h5 hw) hp rfl rfl zl_X7_151 (by decide) (Nat.le_of_ble_eq_true rfl) dX7_leave_20 ?_
      refine z_istore_n 3 rfl (Nat.le_of_ble_eq_true rfl) rfl dX7_leave_23 ?_
      refine z_iload_n 3 rfl rfl dX7_leave_24 ?_
      refine z_if_lt 38 dX7_leave_25 rfl (fun c25 => ?_) (fun c25 => ?_)
      · refine z_iload_n 3 rfl rfl dX7_leave_38 ?_
        have e9 : sLv v (nI h) (nI d) = (sPl v d (nI h) w, v, false) := by simp only [sLv, c4, c12, znd, h5, znw, and_self, and_true, true_and, and_false, false_and, reduceIte, Bool.false_eq_true, reduceCtorEq]; rw [if_pos c25]
        exact z_iret dX7_leave_39 (by rw [e9]) (by rw [e9]; exact hp)
      · obtain ⟨p, hpw, ep⟩ := sPl_nn c25 hw
        have znp := zn_nI (show p < 2 ^ 31 by omega)
        have c25b := c25
        rw [ep] at c25b
        rw [ep]
        refine z_aload_n 0 rfl rfl dX7_leave_28 ?_
        refine zM_v0 zm_X7_record (c_X7_record hp n hn hS) hp rfl rfl zl_X7_124 (by decide) (Nat.le_of_ble_eq_true rfl) dX7_leave_29 (fun mm hp => ?_)
        refine z_aload_n 0 rfl rfl dX7_leave_32 ?_
        refine z_iload_n 2 rfl rfl dX7_leave_33 ?_
        refine z_iload_n 3 rfl rfl dX7_leave_34 ?_
        refine zM_v2 zm_X7_dropFirst (c_X7_dropFirst hp _ _ w (by omega) hw hpw h5) hp rfl rfl zl_X7_81 (by decide) (Nat.le_of_ble_eq_true rfl) dX7_leave_35 (fun mm hp => ?_)
        refine z_iload_n 3 rfl rfl dX7_leave_38 ?_
        have e9 : sLv v (nI h) (nI d) = (nI p, sDrop v d p w, true) := by simp only [sLv, c4, c12, znd, h5, znw, ep, znp, and_self, and_true, true_and, and_false, false_and, reduceIte, Bool.false_eq_true, reduceCtorEq]; rw [if_neg c25b]
        exact z_iret dX7_leave_39 (by rw [e9]) (by rw [e9]; exact hp)
    · refine z_iconst (-1) dX7_leave_15 (by decide) ?_
      have e9 : sLv v (nI h) y = (-1, v, false) := by simp only [sLv, c4, c12, and_self, and_true, true_and, and_false, false_and, reduceIte, Bool.false_eq_true, reduceCtorEq]
      exact z_iret dX7_leave_16 (by rw [e9]) (by rw [e9]; exact hp)
set_option maxRecDepth 4000 in
theorem c_X7_set {l : Launch} {G : zG} {A : Nat → Nat} {m0 mm : zM} {v : Nat → Int32} {S : Nat → Nat → Int32} (hp : zMP G A m0 v S mm) (x y : Int32) (hK : zK v) (n : Nat) (hn : n ≤ 4) (hS : S 0 3 = nI n) : zSem l G (yX7_set, cX7_set, 4, (some .int)) 2 [.ref (A 0), .int x, .int y] mm (some (.int (sSet v x y).1)) (fun m' => zMP G A m0 (sSet v x y).2.1 (if (sSet v x y).2.2 = true then sRec v S n else S) m') := by
  have hJ := hK.2.1
  have hJ2 := hK.2.1.2
  have hD2 := hK.1.2
  refine z_met [some (.ref (A 0)), some (.int x), some (.int y), none] rfl (zc1 (by rfl)) (Nat.le_of_ble_eq_true rfl) rfl ?_
  refine z_iload_n 1 rfl rfl dX7_set_0 ?_
  refine z_iconst (nI 0) dX7_set_1 rfl ?_
  refine z_iconst (nI 3) dX7_set_2 rfl ?_
  refine z_pS3 zm_X7_in (c_X7_in _ _ _) rfl zl_X7_35 (by decide) (Nat.le_of_ble_eq_true rfl) dX7_set_3 ?_
  refine z_if_eqB 28 dX7_set_6 rfl (fun c6 => ?_) (fun c6 => ?_)
  · refine z_bipush (-2) dX7_set_28 (by decide) ?_
    have e9 : sSet v x y = (-2, v, false) := by simp only [sSet, c6, and_self, and_true, true_and, and_false, false_and, reduceIte, Bool.false_eq_true, reduceCtorEq]
    exact z_iret dX7_set_30 (by rw [e9]) (by rw [e9]; exact hp)
  · obtain ⟨k, hk, rfl⟩ := zIn_nI (by decide) c6
    have znk := zn_nI (show k < 2 ^ 31 by omega)
    refine z_iload_n 2 rfl rfl dX7_set_9 ?_
    refine z_aload_n 0 rfl rfl dX7_set_10 ?_
    refine zM_ref 8 6 hp (by decide) rfl (by decide) rfl rfl zf_X7_25 dX7_set_11 ?_
    refine z_iload_n 1 rfl rfl dX7_set_14 ?_
    refine zM_lold hp (by omega) dX7_set_15 ?_
    refine z_aload_n 0 rfl rfl dX7_set_16 ?_
    refine zM_ref 9 7 hp (by decide) rfl (by decide) rfl rfl zf_X7_28 dX7_set_17 ?_
    refine z_iload_n 1 rfl rfl dX7_set_20 ?_
    refine zM_hild hp (by omega) dX7_set_21 ?_
    refine z_pS3 zm_X7_in (c_X7_in _ _ _) rfl zl_X7_35 (by decide) (Nat.le_of_ble_eq_true rfl) dX7_set_22 ?_
    refine z_if_neB 31 dX7_set_25 rfl (fun c25 => ?_) (fun c25 => ?_)
    · refine z_aload_n 0 rfl rfl dX7_set_31 ?_
      refine zM_ref 0 1 hp (by decide) rfl (by decide) rfl rfl zf_X7_7 dX7_set_32 ?_
      refine z_iconst (nI 3) dX7_set_35 rfl ?_
      refine z_iload_n 1 rfl rfl dX7_set_36 ?_
      refine z_iaddN dX7_set_37 ?_
      refine zM_vld hp (by omega) dX7_set_38 ?_
      refine z_istore_n 3 rfl (Nat.le_of_ble_eq_true rfl) rfl dX7_set_39 ?_
      refine z_iload_n 3 rfl rfl dX7_set_40 ?_
      refine z_iload_n 2 rfl rfl dX7_set_41 ?_
      refine z_icmp_ne 48 dX7_set_42 rfl (fun c42 => ?_) (fun c42 => ?_)
      · refine z_aload_n 0 rfl rfl dX7_set_48 ?_
        refine zM_v0 zm_X7_record (c_X7_record hp n hn hS) hp rfl rfl zl_X7_124 (by decide) (Nat.le_of_ble_eq_true rfl) dX7_set_49 (fun mm hp => ?_)
        refine z_aload_n 0 rfl rfl dX7_set_52 ?_
        refine zM_ref 0 1 hp (by decide) rfl (by decide) rfl rfl zf_X7_7 dX7_set_53 ?_
        refine z_iconst (nI 3) dX7_set_56 rfl ?_
        refine z_iload_n 1 rfl rfl dX7_set_57 ?_
        refine z_iaddN dX7_set_58 ?_
        refine z_iload_n 2 rfl rfl dX7_set_59 ?_
        refine zM_vst hp (by omega) dX7_set_60 (fun mm hp => ?_)
        refine z_iload_n 3 rfl rfl dX7_set_61 ?_
        have e9 : sSet v (nI k) y = (v (3 + k), upd v (3 + k) y, true) := by simp only [sSet, c6, znk, c25, and_self, and_true, true_and, and_false, false_and, reduceIte, Bool.false_eq_true, reduceCtorEq]; rw [if_neg c42]
        exact z_iret dX7_set_62 (by rw [e9]) (by rw [e9]; exact hp)
      · refine z_bipush (-5) dX7_set_45 (by decide) ?_
        have e9 : sSet v (nI k) y = (-5, v, false) := by simp only [sSet, c6, znk, c25, and_self, and_true, true_and, and_false, false_and, reduceIte, Bool.false_eq_true, reduceCtorEq]; rw [if_pos c42]
        exact z_iret dX7_set_47 (by rw [e9]) (by rw [e9]; exact hp)
    · refine z_bipush (-2) dX7_set_28 (by decide) ?_
      have e9 : sSet v (nI k) y = (-2, v, false) := by simp only [sSet, c6, znk, c25, and_self, and_true, true_and, and_false, false_and, reduceIte, Bool.false_eq_true, reduceCtorEq]
      exact z_iret dX7_set_30 (by rw [e9]) (by rw [e9]; exact hp)
set_option maxRecDepth 4000 in
theorem c_X7_setStage {l : Launch} {G : zG} {A : Nat → Nat} {m0 mm : zM} {v : Nat → Int32} {S : Nat → Nat → Int32} (hp : zMP G A m0 v S mm) (x y z : Int32) (hK : zK v) (n : Nat) (hn : n ≤ 4) (hS : S 0 3 = nI n) : zSem l G (yX7_setStage, cX7_setStage, 8, (some .int)) 2 [.ref (A 0), .int x, .int y, .int z] mm (some (.int (sSt v x y z).1)) (fun m' => zMP G A m0 (sSt v x y z).2.1 (if (sSt v x y z).2.2 = true then sRec v S n else S) m') := by
  have hJ := hK.2.1
  have hJ2 := hK.2.1.2
  have hD2 := hK.1.2
  refine z_met [some (.ref (A 0)), some (.int x), some (.int y), some (.int z), none, none, none, none] rfl (zc1 (by rfl)) (Nat.le_of_ble_eq_true rfl) rfl ?_
  refine z_iload_n 1 rfl rfl dX7_setStage_0 ?_
  refine z_iconst (nI 0) dX7_setStage_1 rfl ?_
  refine z_iconst (nI 3) dX7_setStage_2 rfl ?_
  refine z_pS3 zm_X7_in (c_X7_in _ _ _) rfl zl_X7_35 (by decide) (Nat.le_of_ble_eq_true rfl) dX7_setStage_3 ?_
  refine z_if_neB 11 dX7_setStage_6 rfl (fun c6 => ?_) (fun c6 => ?_)
  · obtain ⟨k, hk, rfl⟩ := zIn_nI (by decide) c6
    have znk := zn_nI (show k < 2 ^ 31 by omega)
    refine z_bipush (nI 9) dX7_setStage_11 rfl ?_
    refine z_iconst (nI 2) dX7_setStage_13 rfl ?_
    refine z_iload_n 1 rfl rfl dX7_setStage_14 ?_
    refine z_imulN dX7_setStage_15 ?_
    refine z_iaddN dX7_setStage_16 ?_
    refine z_istore 4 (Nat.le_of_ble_eq_true rfl) rfl dX7_setStage_17 ?_
    refine z_iload_n 1 rfl rfl dX7_setStage_19 ?_
    refine z_iconst (nI 3) dX7_setStage_20 rfl ?_
    refine z_icmp_ne 28 dX7_setStage_21 rfl (fun c21 => ?_) (fun c21 => ?_)
    · have hk3 : k ≠ 3 := fun q => c21 (by rw [q])
      have eL : v (9 + 2 * k + 2) + nI 1 = sLo v k := (if_neg hk3).symm
      refine z_aload_n 0 rfl rfl dX7_setStage_28 ?_
      refine zM_ref 0 1 hp (by decide) rfl (by decide) rfl rfl zf_X7_7 dX7_setStage_29 ?_
      refine z_iload 4 rfl dX7_setStage_32 ?_
      refine z_iconst (nI 2) dX7_setStage_34 rfl ?_
      refine z_iaddN dX7_setStage_35 ?_
      refine zM_vld hp (by omega) dX7_setStage_36 ?_
      refine z_iconst (nI 1) dX7_setStage_37 rfl ?_
      refine z_iadd dX7_setStage_38 ?_
      rw [eL]
      refine z_istore 5 (Nat.le_of_ble_eq_true rfl) rfl dX7_setStage_39 ?_
      refine z_iload_n 1 rfl rfl dX7_setStage_41 ?_
      refine z_iconst (nI 3) dX7_setStage_42 rfl ?_
      refine z_icmp_ne 50 dX7_setStage_43 rfl (fun c43 => ?_) (fun c43 => ?_)
      · have hk3b : k ≠ 3 := fun q => c43 (by rw [q])
        refine z_iload_n 1 rfl rfl dX7_setStage_50 ?_
        refine z_if_ne 59 dX7_setStage_51 rfl (fun c51 => ?_) (fun c51 => ?_)
        · have hk0 : k ≠ 0 := fun q => c51 (by rw [q]; rfl)
          have eH : v (9 + 2 * k - 2) - nI 1 = sHi v k := by unfold sHi; rw [if_neg hk3b, if_neg hk0]
          refine z_aload_n 0 rfl rfl dX7_setStage_59 ?_
          refine zM_ref 0 1 hp (by decide) rfl (by decide) rfl rfl zf_X7_7 dX7_setStage_60 ?_
          refine z_iload 4 rfl dX7_setStage_63 ?_
          refine z_iconst (nI 2) dX7_setStage_65 rfl ?_
          refine z_isubN (by omega) dX7_setStage_66 ?_
          refine zM_vld hp (by omega) dX7_setStage_67 ?_
          refine z_iconst (nI 1) dX7_setStage_68 rfl ?_
          refine z_isub dX7_setStage_69 ?_
          rw [eH]
          refine z_istore 6 (Nat.le_of_ble_eq_true rfl) rfl dX7_setStage_70 ?_
          refine z_iload_n 2 rfl rfl dX7_setStage_72 ?_
          refine z_iload 5 rfl dX7_setStage_73 ?_
          refine z_iload 6 rfl dX7_setStage_75 ?_
          refine z_pS3 zm_X7_in (c_X7_in _ _ _) rfl zl_X7_35 (by decide) (Nat.le_of_ble_eq_true rfl) dX7_setStage_77 ?_
          refine z_if_eqB 93 dX7_setStage_80 rfl (fun c80 => ?_) (fun c80 => ?_)
          · refine z_bipush (-2) dX7_setStage_93 (by decide) ?_
            have e9 : sSt v (nI k) y z = (-2, v, false) := by first | (simp only [sSt, c6, znk, c80, and_self, and_true, true_and, and_false, false_and, reduceIte, Bool.false_eq_true, reduceCtorEq]; done) | (simp only [sSt, c6, znk, c80, c90, and_self, and_true, true_and, and_false, false_and, reduceIte, Bool.false_eq_true, reduceCtorEq]; done)
            exact z_iret dX7_setStage_95 (by rw [e9]) (by rw [e9]; exact hp)
          · refine z_iload_n 3 rfl rfl dX7_setStage_83 ?_
            refine z_iconst (nI 0) dX7_setStage_84 rfl ?_
            refine z_bipush (nI 100) dX7_setStage_85 rfl ?_
            refine z_pS3 zm_X7_in (c_X7_in _ _ _) rfl zl_X7_35 (by decide) (Nat.le_of_ble_eq_true rfl) dX7_setStage_87 ?_
            refine z_if_neB 96 dX7_setStage_90 rfl (fun c90 => ?_) (fun c90 => ?_)
            · refine z_aload_n 0 rfl rfl dX7_setStage_96 ?_
              refine zM_ref 0 1 hp (by decide) rfl (by decide) rfl rfl zf_X7_7 dX7_setStage_97 ?_
              refine z_iload 4 rfl dX7_setStage_100 ?_
              refine z_iconst (nI 1) dX7_setStage_102 rfl ?_
              refine z_iaddN dX7_setStage_103 ?_
              refine zM_vld hp (by omega) dX7_setStage_104 ?_
              refine z_istore 7 (Nat.le_of_ble_eq_true rfl) rfl dX7_setStage_105 ?_
              refine z_aload_n 0 rfl rfl dX7_setStage_107 ?_
              refine zM_ref 0 1 hp (by decide) rfl (by decide) rfl rfl zf_X7_7 dX7_setStage_108 ?_
              refine z_iload 4 rfl dX7_setStage_111 ?_
              refine zM_vld hp (by omega) dX7_setStage_113 ?_
              refine z_iload_n 2 rfl rfl dX7_setStage_114 ?_
              refine z_icmp_ne 127 dX7_setStage_115 rfl (fun c115 => ?_) (fun c115 => ?_)
              · refine z_aload_n 0 rfl rfl dX7_setStage_127 ?_
                refine zM_v0 zm_X7_record (c_X7_record hp n hn hS) hp rfl rfl zl_X7_124 (by decide) (Nat.le_of_ble_eq_true rfl) dX7_setStage_128 (fun mm hp => ?_)
                refine z_aload_n 0 rfl rfl dX7_setStage_131 ?_
                refine zM_ref 0 1 hp (by decide) rfl (by decide) rfl rfl zf_X7_7 dX7_setStage_132 ?_
                refine z_iload 4 rfl dX7_setStage_135 ?_
                refine z_iload_n 2 rfl rfl dX7_setStage_137 ?_
                refine zM_vst hp (by omega) dX7_setStage_138 (fun mm hp => ?_)
                refine z_aload_n 0 rfl rfl dX7_setStage_139 ?_
                refine zM_ref 0 1 hp (by decide) rfl (by decide) rfl rfl zf_X7_7 dX7_setStage_140 ?_
                refine z_iload 4 rfl dX7_setStage_143 ?_
                refine z_iconst (nI 1) dX7_setStage_145 rfl ?_
                refine z_iaddN dX7_setStage_146 ?_
                refine z_iload_n 3 rfl rfl dX7_setStage_147 ?_
                refine zM_vst hp (by omega) dX7_setStage_148 (fun mm hp => ?_)
                refine z_iload 7 rfl dX7_setStage_149 ?_
                have e9 : sSt v (nI k) y z = (v (9 + 2 * k + 1), upd (upd v (9 + 2 * k) y) (9 + 2 * k + 1) z, true) := by simp only [sSt, c6, znk, c80, c90, and_self, and_true, true_and, and_false, false_and, reduceIte, Bool.false_eq_true, reduceCtorEq]; first | rw [if_neg (fun q => c115 q.1)] | rw [if_neg (fun q => c121 q.2)]
                exact z_iret dX7_setStage_151 (by rw [e9]) (by rw [e9]; exact hp)
              · refine z_iload 7 rfl dX7_setStage_118 ?_
                refine z_iload_n 3 rfl rfl dX7_setStage_120 ?_
                refine z_icmp_ne 127 dX7_setStage_121 rfl (fun c121 => ?_) (fun c121 => ?_)
                · refine z_aload_n 0 rfl rfl dX7_setStage_127 ?_
                  refine zM_v0 zm_X7_record (c_X7_record hp n hn hS) hp rfl rfl zl_X7_124 (by decide) (Nat.le_of_ble_eq_true rfl) dX7_setStage_128 (fun mm hp => ?_)
                  refine z_aload_n 0 rfl rfl dX7_setStage_131 ?_
                  refine zM_ref 0 1 hp (by decide) rfl (by decide) rfl rfl zf_X7_7 dX7_setStage_132 ?_
                  refine z_iload 4 rfl dX7_setStage_135 ?_
                  refine z_iload_n 2 rfl rfl dX7_setStage_137 ?_
                  refine zM_vst hp (by omega) dX7_setStage_138 (fun mm hp => ?_)
                  refine z_aload_n 0 rfl rfl dX7_setStage_139 ?_
                  refine zM_ref 0 1 hp (by decide) rfl (by decide) rfl rfl zf_X7_7 dX7_setStage_140 ?_
                  refine z_iload 4 rfl dX7_setStage_143 ?_
                  refine z_iconst (nI 1) dX7_setStage_145 rfl ?_
                  refine z_iaddN dX7_setStage_146 ?_
                  refine z_iload_n 3 rfl rfl dX7_setStage_147 ?_
                  refine zM_vst hp (by omega) dX7_setStage_148 (fun mm hp => ?_)
                  refine z_iload 7 rfl dX7_setStage_149 ?_
                  have e9 : sSt v (nI k) y z = (v (9 + 2 * k + 1), upd (upd v (9 + 2 * k) y) (9 + 2 * k + 1) z, true) := by simp only [sSt, c6, znk, c80, c90, and_self, and_true, true_and, and_false, false_and, reduceIte, Bool.false_eq_true, reduceCtorEq]; first | rw [if_neg (fun q => c115 q.1)] | rw [if_neg (fun q => c121 q.2)]
                  exact z_iret dX7_setStage_151 (by rw [e9]) (by rw [e9]; exact hp)
                · refine z_bipush (-5) dX7_setStage_124 (by decide) ?_
                  have e9 : sSt v (nI k) y z = (-5, v, false) := by simp only [sSt, c6, znk, c80, c90, and_self, and_true, true_and, and_false, false_and, reduceIte, Bool.false_eq_true, reduceCtorEq]; rw [if_pos (And.intro c115 c121)]
                  exact z_iret dX7_setStage_126 (by rw [e9]) (by rw [e9]; exact hp)
            · refine z_bipush (-2) dX7_setStage_93 (by decide) ?_
              have e9 : sSt v (nI k) y z = (-2, v, false) := by first | (simp only [sSt, c6, znk, c80, and_self, and_true, true_and, and_false, false_and, reduceIte, Bool.false_eq_true, reduceCtorEq]; done) | (simp only [sSt, c6, znk, c80, c90, and_self, and_true, true_and, and_false, false_and, reduceIte, Bool.false_eq_true, reduceCtorEq]; done)
              exact z_iret dX7_setStage_95 (by rw [e9]) (by rw [e9]; exact hp)
        · have hk0 : k = 0 := (nI_eq (by omega) (by omega)).mp c51
          have eH : nI 99 = sHi v k := by unfold sHi; rw [if_neg hk3b, if_pos hk0]
          refine z_bipush (nI 99) dX7_setStage_54 rfl ?_
          refine z_goto 70 dX7_setStage_56 rfl ?_
          rw [eH]
          refine z_istore 6 (Nat.le_of_ble_eq_true rfl) rfl dX7_setStage_70 ?_
          refine z_iload_n 2 rfl rfl dX7_setStage_72 ?_
          refine z_iload 5 rfl dX7_setStage_73 ?_
          refine z_iload 6 rfl dX7_setStage_75 ?_
          refine z_pS3 zm_X7_in (c_X7_in _ _ _) rfl zl_X7_35 (by decide) (Nat.le_of_ble_eq_true rfl) dX7_setStage_77 ?_
          refine z_if_eqB 93 dX7_setStage_80 rfl (fun c80 => ?_) (fun c80 => ?_)
          · refine z_bipush (-2) dX7_setStage_93 (by decide) ?_
            have e9 : sSt v (nI k) y z = (-2, v, false) := by first | (simp only [sSt, c6, znk, c80, and_self, and_true, true_and, and_false, false_and, reduceIte, Bool.false_eq_true, reduceCtorEq]; done) | (simp only [sSt, c6, znk, c80, c90, and_self, and_true, true_and, and_false, false_and, reduceIte, Bool.false_eq_true, reduceCtorEq]; done)
            exact z_iret dX7_setStage_95 (by rw [e9]) (by rw [e9]; exact hp)
          · refine z_iload_n 3 rfl rfl dX7_setStage_83 ?_
            refine z_iconst (nI 0) dX7_setStage_84 rfl ?_
            refine z_bipush (nI 100) dX7_setStage_85 rfl ?_
            refine z_pS3 zm_X7_in (c_X7_in _ _ _) rfl zl_X7_35 (by decide) (Nat.le_of_ble_eq_true rfl) dX7_setStage_87 ?_
            refine z_if_neB 96 dX7_setStage_90 rfl (fun c90 => ?_) (fun c90 => ?_)
            · refine z_aload_n 0 rfl rfl dX7_setStage_96 ?_
              refine zM_ref 0 1 hp (by decide) rfl (by decide) rfl rfl zf_X7_7 dX7_setStage_97 ?_
              refine z_iload 4 rfl dX7_setStage_100 ?_
              refine z_iconst (nI 1) dX7_setStage_102 rfl ?_
              refine z_iaddN dX7_setStage_103 ?_
              refine zM_vld hp (by omega) dX7_setStage_104 ?_
              refine z_istore 7 (Nat.le_of_ble_eq_true rfl) rfl dX7_setStage_105 ?_
              refine z_aload_n 0 rfl rfl dX7_setStage_107 ?_
              refine zM_ref 0 1 hp (by decide) rfl (by decide) rfl rfl zf_X7_7 dX7_setStage_108 ?_
              refine z_iload 4 rfl dX7_setStage_111 ?_
              refine zM_vld hp (by omega) dX7_setStage_113 ?_
              refine z_iload_n 2 rfl rfl dX7_setStage_114 ?_
              refine z_icmp_ne 127 dX7_setStage_115 rfl (fun c115 => ?_) (fun c115 => ?_)
              · refine z_aload_n 0 rfl rfl dX7_setStage_127 ?_
                refine zM_v0 zm_X7_record (c_X7_record hp n hn hS) hp rfl rfl zl_X7_124 (by decide) (Nat.le_of_ble_eq_true rfl) dX7_setStage_128 (fun mm hp => ?_)
                refine z_aload_n 0 rfl rfl dX7_setStage_131 ?_
                refine zM_ref 0 1 hp (by decide) rfl (by decide) rfl rfl zf_X7_7 dX7_setStage_132 ?_
                refine z_iload 4 rfl dX7_setStage_135 ?_
                refine z_iload_n 2 rfl rfl dX7_setStage_137 ?_
                refine zM_vst hp (by omega) dX7_setStage_138 (fun mm hp => ?_)
                refine z_aload_n 0 rfl rfl dX7_setStage_139 ?_
                refine zM_ref 0 1 hp (by decide) rfl (by decide) rfl rfl zf_X7_7 dX7_setStage_140 ?_
                refine z_iload 4 rfl dX7_setStage_143 ?_
                refine z_iconst (nI 1) dX7_setStage_145 rfl ?_
                refine z_iaddN dX7_setStage_146 ?_
                refine z_iload_n 3 rfl rfl dX7_setStage_147 ?_
                refine zM_vst hp (by omega) dX7_setStage_148 (fun mm hp => ?_)
                refine z_iload 7 rfl dX7_setStage_149 ?_
                have e9 : sSt v (nI k) y z = (v (9 + 2 * k + 1), upd (upd v (9 + 2 * k) y) (9 + 2 * k + 1) z, true) := by simp only [sSt, c6, znk, c80, c90, and_self, and_true, true_and, and_false, false_and, reduceIte, Bool.false_eq_true, reduceCtorEq]; first | rw [if_neg (fun q => c115 q.1)] | rw [if_neg (fun q => c121 q.2)]
                exact z_iret dX7_setStage_151 (by rw [e9]) (by rw [e9]; exact hp)
              · refine z_iload 7 rfl dX7_setStage_118 ?_
                refine z_iload_n 3 rfl rfl dX7_setStage_120 ?_
                refine z_icmp_ne 127 dX7_setStage_121 rfl (fun c121 => ?_) (fun c121 => ?_)
                · refine z_aload_n 0 rfl rfl dX7_setStage_127 ?_
                  refine zM_v0 zm_X7_record (c_X7_record hp n hn hS) hp rfl rfl zl_X7_124 (by decide) (Nat.le_of_ble_eq_true rfl) dX7_setStage_128 (fun mm hp => ?_)
                  refine z_aload_n 0 rfl rfl dX7_setStage_131 ?_
                  refine zM_ref 0 1 hp (by decide) rfl (by decide) rfl rfl zf_X7_7 dX7_setStage_132 ?_
                  refine z_iload 4 rfl dX7_setStage_135 ?_
                  refine z_iload_n 2 rfl rfl dX7_setStage_137 ?_
                  refine zM_vst hp (by omega) dX7_setStage_138 (fun mm hp => ?_)
                  refine z_aload_n 0 rfl rfl dX7_setStage_139 ?_
                  refine zM_ref 0 1 hp (by decide) rfl (by decide) rfl rfl zf_X7_7 dX7_setStage_140 ?_
                  refine z_iload 4 rfl dX7_setStage_143 ?_
                  refine z_iconst (nI 1) dX7_setStage_145 rfl ?_
                  refine z_iaddN dX7_setStage_146 ?_
                  refine z_iload_n 3 rfl rfl dX7_setStage_147 ?_
                  refine zM_vst hp (by omega) dX7_setStage_148 (fun mm hp => ?_)
                  refine z_iload 7 rfl dX7_setStage_149 ?_
                  have e9 : sSt v (nI k) y z = (v (9 + 2 * k + 1), upd (upd v (9 + 2 * k) y) (9 + 2 * k + 1) z, true) := by simp only [sSt, c6, znk, c80, c90, and_self, and_true, true_and, and_false, false_and, reduceIte, Bool.false_eq_true, reduceCtorEq]; first | rw [if_neg (fun q => c115 q.1)] | rw [if_neg (fun q => c121 q.2)]
                  exact z_iret dX7_setStage_151 (by rw [e9]) (by rw [e9]; exact hp)
                · refine z_bipush (-5) dX7_setStage_124 (by decide) ?_
                  have e9 : sSt v (nI k) y z = (-5, v, false) := by simp only [sSt, c6, znk, c80, c90, and_self, and_true, true_and, and_false, false_and, reduceIte, Bool.false_eq_true, reduceCtorEq]; rw [if_pos (And.intro c115 c121)]
                  exact z_iret dX7_setStage_126 (by rw [e9]) (by rw [e9]; exact hp)
            · refine z_bipush (-2) dX7_setStage_93 (by decide) ?_
              have e9 : sSt v (nI k) y z = (-2, v, false) := by first | (simp only [sSt, c6, znk, c80, and_self, and_true, true_and, and_false, false_and, reduceIte, Bool.false_eq_true, reduceCtorEq]; done) | (simp only [sSt, c6, znk, c80, c90, and_self, and_true, true_and, and_false, false_and, reduceIte, Bool.false_eq_true, reduceCtorEq]; done)
              exact z_iret dX7_setStage_95 (by rw [e9]) (by rw [e9]; exact hp)
      · have hk3b : k = 3 := (nI_eq (by omega) (by omega)).mp c43
        have eH : nI 0 = sHi v k := (if_pos hk3b).symm
        refine z_iconst (nI 0) dX7_setStage_46 rfl ?_
        refine z_goto 70 dX7_setStage_47 rfl ?_
        rw [eH]
        refine z_istore 6 (Nat.le_of_ble_eq_true rfl) rfl dX7_setStage_70 ?_
        refine z_iload_n 2 rfl rfl dX7_setStage_72 ?_
        refine z_iload 5 rfl dX7_setStage_73 ?_
        refine z_iload 6 rfl dX7_setStage_75 ?_
        refine z_pS3 zm_X7_in (c_X7_in _ _ _) rfl zl_X7_35 (by decide) (Nat.le_of_ble_eq_true rfl) dX7_setStage_77 ?_
        refine z_if_eqB 93 dX7_setStage_80 rfl (fun c80 => ?_) (fun c80 => ?_)
        · refine z_bipush (-2) dX7_setStage_93 (by decide) ?_
          have e9 : sSt v (nI k) y z = (-2, v, false) := by first | (simp only [sSt, c6, znk, c80, and_self, and_true, true_and, and_false, false_and, reduceIte, Bool.false_eq_true, reduceCtorEq]; done) | (simp only [sSt, c6, znk, c80, c90, and_self, and_true, true_and, and_false, false_and, reduceIte, Bool.false_eq_true, reduceCtorEq]; done)
          exact z_iret dX7_setStage_95 (by rw [e9]) (by rw [e9]; exact hp)
        · refine z_iload_n 3 rfl rfl dX7_setStage_83 ?_
          refine z_iconst (nI 0) dX7_setStage_84 rfl ?_
          refine z_bipush (nI 100) dX7_setStage_85 rfl ?_
          refine z_pS3 zm_X7_in (c_X7_in _ _ _) rfl zl_X7_35 (by decide) (Nat.le_of_ble_eq_true rfl) dX7_setStage_87 ?_
          refine z_if_neB 96 dX7_setStage_90 rfl (fun c90 => ?_) (fun c90 => ?_)
          · refine z_aload_n 0 rfl rfl dX7_setStage_96 ?_
            refine zM_ref 0 1 hp (by decide) rfl (by decide) rfl rfl zf_X7_7 dX7_setStage_97 ?_
            refine z_iload 4 rfl dX7_setStage_100 ?_
            refine z_iconst (nI 1) dX7_setStage_102 rfl ?_
            refine z_iaddN dX7_setStage_103 ?_
            refine zM_vld hp (by omega) dX7_setStage_104 ?_
            refine z_istore 7 (Nat.le_of_ble_eq_true rfl) rfl dX7_setStage_105 ?_
            refine z_aload_n 0 rfl rfl dX7_setStage_107 ?_
            refine zM_ref 0 1 hp (by decide) rfl (by decide) rfl rfl zf_X7_7 dX7_setStage_108 ?_
            refine z_iload 4 rfl dX7_setStage_111 ?_
            refine zM_vld hp (by omega) dX7_setStage_113 ?_
            refine z_iload_n 2 rfl rfl dX7_setStage_114 ?_
            refine z_icmp_ne 127 dX7_setStage_115 rfl (fun c115 => ?_) (fun c115 => ?_)
            · refine z_aload_n 0 rfl rfl dX7_setStage_127 ?_
              refine zM_v0 zm_X7_record (c_X7_record hp n hn hS) hp rfl rfl zl_X7_124 (by decide) (Nat.le_of_ble_eq_true rfl) dX7_setStage_128 (fun mm hp => ?_)
              refine z_aload_n 0 rfl rfl dX7_setStage_131 ?_
              refine zM_ref 0 1 hp (by decide) rfl (by decide) rfl rfl zf_X7_7 dX7_setStage_132 ?_
              refine z_iload 4 rfl dX7_setStage_135 ?_
              refine z_iload_n 2 rfl rfl dX7_setStage_137 ?_
              refine zM_vst hp (by omega) dX7_setStage_138 (fun mm hp => ?_)
              refine z_aload_n 0 rfl rfl dX7_setStage_139 ?_
              refine zM_ref 0 1 hp (by decide) rfl (by decide) rfl rfl zf_X7_7 dX7_setStage_140 ?_
              refine z_iload 4 rfl dX7_setStage_143 ?_
              refine z_iconst (nI 1) dX7_setStage_145 rfl ?_
              refine z_iaddN dX7_setStage_146 ?_
              refine z_iload_n 3 rfl rfl dX7_setStage_147 ?_
              refine zM_vst hp (by omega) dX7_setStage_148 (fun mm hp => ?_)
              refine z_iload 7 rfl dX7_setStage_149 ?_
              have e9 : sSt v (nI k) y z = (v (9 + 2 * k + 1), upd (upd v (9 + 2 * k) y) (9 + 2 * k + 1) z, true) := by simp only [sSt, c6, znk, c80, c90, and_self, and_true, true_and, and_false, false_and, reduceIte, Bool.false_eq_true, reduceCtorEq]; first | rw [if_neg (fun q => c115 q.1)] | rw [if_neg (fun q => c121 q.2)]
              exact z_iret dX7_setStage_151 (by rw [e9]) (by rw [e9]; exact hp)
            · refine z_iload 7 rfl dX7_setStage_118 ?_
              refine z_iload_n 3 rfl rfl dX7_setStage_120 ?_
              refine z_icmp_ne 127 dX7_setStage_121 rfl (fun c121 => ?_) (fun c121 => ?_)
              · refine z_aload_n 0 rfl rfl dX7_setStage_127 ?_
                refine zM_v0 zm_X7_record (c_X7_record hp n hn hS) hp rfl rfl zl_X7_124 (by decide) (Nat.le_of_ble_eq_true rfl) dX7_setStage_128 (fun mm hp => ?_)
                refine z_aload_n 0 rfl rfl dX7_setStage_131 ?_
                refine zM_ref 0 1 hp (by decide) rfl (by decide) rfl rfl zf_X7_7 dX7_setStage_132 ?_
                refine z_iload 4 rfl dX7_setStage_135 ?_
                refine z_iload_n 2 rfl rfl dX7_setStage_137 ?_
                refine zM_vst hp (by omega) dX7_setStage_138 (fun mm hp => ?_)
                refine z_aload_n 0 rfl rfl dX7_setStage_139 ?_
                refine zM_ref 0 1 hp (by decide) rfl (by decide) rfl rfl zf_X7_7 dX7_setStage_140 ?_
                refine z_iload 4 rfl dX7_setStage_143 ?_
                refine z_iconst (nI 1) dX7_setStage_145 rfl ?_
                refine z_iaddN dX7_setStage_146 ?_
                refine z_iload_n 3 rfl rfl dX7_setStage_147 ?_
                refine zM_vst hp (by omega) dX7_setStage_148 (fun mm hp => ?_)
                refine z_iload 7 rfl dX7_setStage_149 ?_
                have e9 : sSt v (nI k) y z = (v (9 + 2 * k + 1), upd (upd v (9 + 2 * k) y) (9 + 2 * k + 1) z, true) := by simp only [sSt, c6, znk, c80, c90, and_self, and_true, true_and, and_false, false_and, reduceIte, Bool.false_eq_true, reduceCtorEq]; first | rw [if_neg (fun q => c115 q.1)] | rw [if_neg (fun q => c121 q.2)]
                exact z_iret dX7_setStage_151 (by rw [e9]) (by rw [e9]; exact hp)
              · refine z_bipush (-5) dX7_setStage_124 (by decide) ?_
                have e9 : sSt v (nI k) y z = (-5, v, false) := by simp only [sSt, c6, znk, c80, c90, and_self, and_true, true_and, and_false, false_and, reduceIte, Bool.false_eq_true, reduceCtorEq]; rw [if_pos (And.intro c115 c121)]
                exact z_iret dX7_setStage_126 (by rw [e9]) (by rw [e9]; exact hp)
          · refine z_bipush (-2) dX7_setStage_93 (by decide) ?_
            have e9 : sSt v (nI k) y z = (-2, v, false) := by first | (simp only [sSt, c6, znk, c80, and_self, and_true, true_and, and_false, false_and, reduceIte, Bool.false_eq_true, reduceCtorEq]; done) | (simp only [sSt, c6, znk, c80, c90, and_self, and_true, true_and, and_false, false_and, reduceIte, Bool.false_eq_true, reduceCtorEq]; done)
            exact z_iret dX7_setStage_95 (by rw [e9]) (by rw [e9]; exact hp)
    · have hk3 : k = 3 := (nI_eq (by omega) (by omega)).mp c21
      have eL : nI 0 = sLo v k := (if_pos hk3).symm
      refine z_iconst (nI 0) dX7_setStage_24 rfl ?_
      refine z_goto 39 dX7_setStage_25 rfl ?_
      rw [eL]
      refine z_istore 5 (Nat.le_of_ble_eq_true rfl) rfl dX7_setStage_39 ?_
      refine z_iload_n 1 rfl rfl dX7_setStage_41 ?_
      refine z_iconst (nI 3) dX7_setStage_42 rfl ?_
      refine z_icmp_ne 50 dX7_setStage_43 rfl (fun c43 => ?_) (fun c43 => ?_)
      · have hk3b : k ≠ 3 := fun q => c43 (by rw [q])
        refine z_iload_n 1 rfl rfl dX7_setStage_50 ?_
        refine z_if_ne 59 dX7_setStage_51 rfl (fun c51 => ?_) (fun c51 => ?_)
        · have hk0 : k ≠ 0 := fun q => c51 (by rw [q]; rfl)
          have eH : v (9 + 2 * k - 2) - nI 1 = sHi v k := by unfold sHi; rw [if_neg hk3b, if_neg hk0]
          refine z_aload_n 0 rfl rfl dX7_setStage_59 ?_
          refine zM_ref 0 1 hp (by decide) rfl (by decide) rfl rfl zf_X7_7 dX7_setStage_60 ?_
          refine z_iload 4 rfl dX7_setStage_63 ?_
          refine z_iconst (nI 2) dX7_setStage_65 rfl ?_
          refine z_isubN (by omega) dX7_setStage_66 ?_
          refine zM_vld hp (by omega) dX7_setStage_67 ?_
          refine z_iconst (nI 1) dX7_setStage_68 rfl ?_
          refine z_isub dX7_setStage_69 ?_
          rw [eH]
          refine z_istore 6 (Nat.le_of_ble_eq_true rfl) rfl dX7_setStage_70 ?_
          refine z_iload_n 2 rfl rfl dX7_setStage_72 ?_
          refine z_iload 5 rfl dX7_setStage_73 ?_
          refine z_iload 6 rfl dX7_setStage_75 ?_
          refine z_pS3 zm_X7_in (c_X7_in _ _ _) rfl zl_X7_35 (by decide) (Nat.le_of_ble_eq_true rfl) dX7_setStage_77 ?_
          refine z_if_eqB 93 dX7_setStage_80 rfl (fun c80 => ?_) (fun c80 => ?_)
          · refine z_bipush (-2) dX7_setStage_93 (by decide) ?_
            have e9 : sSt v (nI k) y z = (-2, v, false) := by first | (simp only [sSt, c6, znk, c80, and_self, and_true, true_and, and_false, false_and, reduceIte, Bool.false_eq_true, reduceCtorEq]; done) | (simp only [sSt, c6, znk, c80, c90, and_self, and_true, true_and, and_false, false_and, reduceIte, Bool.false_eq_true, reduceCtorEq]; done)
            exact z_iret dX7_setStage_95 (by rw [e9]) (by rw [e9]; exact hp)
          · refine z_iload_n 3 rfl rfl dX7_setStage_83 ?_
            refine z_iconst (nI 0) dX7_setStage_84 rfl ?_
            refine z_bipush (nI 100) dX7_setStage_85 rfl ?_
            refine z_pS3 zm_X7_in (c_X7_in _ _ _) rfl zl_X7_35 (by decide) (Nat.le_of_ble_eq_true rfl) dX7_setStage_87 ?_
            refine z_if_neB 96 dX7_setStage_90 rfl (fun c90 => ?_) (fun c90 => ?_)
            · refine z_aload_n 0 rfl rfl dX7_setStage_96 ?_
              refine zM_ref 0 1 hp (by decide) rfl (by decide) rfl rfl zf_X7_7 dX7_setStage_97 ?_
              refine z_iload 4 rfl dX7_setStage_100 ?_
              refine z_iconst (nI 1) dX7_setStage_102 rfl ?_
              refine z_iaddN dX7_setStage_103 ?_
              refine zM_vld hp (by omega) dX7_setStage_104 ?_
              refine z_istore 7 (Nat.le_of_ble_eq_true rfl) rfl dX7_setStage_105 ?_
              refine z_aload_n 0 rfl rfl dX7_setStage_107 ?_
              refine zM_ref 0 1 hp (by decide) rfl (by decide) rfl rfl zf_X7_7 dX7_setStage_108 ?_
              refine z_iload 4 rfl dX7_setStage_111 ?_
              refine zM_vld hp (by omega) dX7_setStage_113 ?_
              refine z_iload_n 2 rfl rfl dX7_setStage_114 ?_
              refine z_icmp_ne 127 dX7_setStage_115 rfl (fun c115 => ?_) (fun c115 => ?_)
              · refine z_aload_n 0 rfl rfl dX7_setStage_127 ?_
                refine zM_v0 zm_X7_record (c_X7_record hp n hn hS) hp rfl rfl zl_X7_124 (by decide) (Nat.le_of_ble_eq_true rfl) dX7_setStage_128 (fun mm hp => ?_)
                refine z_aload_n 0 rfl rfl dX7_setStage_131 ?_
                refine zM_ref 0 1 hp (by decide) rfl (by decide) rfl rfl zf_X7_7 dX7_setStage_132 ?_
                refine z_iload 4 rfl dX7_setStage_135 ?_
                refine z_iload_n 2 rfl rfl dX7_setStage_137 ?_
                refine zM_vst hp (by omega) dX7_setStage_138 (fun mm hp => ?_)
                refine z_aload_n 0 rfl rfl dX7_setStage_139 ?_
                refine zM_ref 0 1 hp (by decide) rfl (by decide) rfl rfl zf_X7_7 dX7_setStage_140 ?_
                refine z_iload 4 rfl dX7_setStage_143 ?_
                refine z_iconst (nI 1) dX7_setStage_145 rfl ?_
                refine z_iaddN dX7_setStage_146 ?_
                refine z_iload_n 3 rfl rfl dX7_setStage_147 ?_
                refine zM_vst hp (by omega) dX7_setStage_148 (fun mm hp => ?_)
                refine z_iload 7 rfl dX7_setStage_149 ?_
                have e9 : sSt v (nI k) y z = (v (9 + 2 * k + 1), upd (upd v (9 + 2 * k) y) (9 + 2 * k + 1) z, true) := by simp only [sSt, c6, znk, c80, c90, and_self, and_true, true_and, and_false, false_and, reduceIte, Bool.false_eq_true, reduceCtorEq]; first | rw [if_neg (fun q => c115 q.1)] | rw [if_neg (fun q => c121 q.2)]
                exact z_iret dX7_setStage_151 (by rw [e9]) (by rw [e9]; exact hp)
              · refine z_iload 7 rfl dX7_setStage_118 ?_
                refine z_iload_n 3 rfl rfl dX7_setStage_120 ?_
                refine z_icmp_ne 127 dX7_setStage_121 rfl (fun c121 => ?_) (fun c121 => ?_)
                · refine z_aload_n 0 rfl rfl dX7_setStage_127 ?_
                  refine zM_v0 zm_X7_record (c_X7_record hp n hn hS) hp rfl rfl zl_X7_124 (by decide) (Nat.le_of_ble_eq_true rfl) dX7_setStage_128 (fun mm hp => ?_)
                  refine z_aload_n 0 rfl rfl dX7_setStage_131 ?_
                  refine zM_ref 0 1 hp (by decide) rfl (by decide) rfl rfl zf_X7_7 dX7_setStage_132 ?_
                  refine z_iload 4 rfl dX7_setStage_135 ?_
                  refine z_iload_n 2 rfl rfl dX7_setStage_137 ?_
                  refine zM_vst hp (by omega) dX7_setStage_138 (fun mm hp => ?_)
                  refine z_aload_n 0 rfl rfl dX7_setStage_139 ?_
                  refine zM_ref 0 1 hp (by decide) rfl (by decide) rfl rfl zf_X7_7 dX7_setStage_140 ?_
                  refine z_iload 4 rfl dX7_setStage_143 ?_
                  refine z_iconst (nI 1) dX7_setStage_145 rfl ?_
                  refine z_iaddN dX7_setStage_146 ?_
                  refine z_iload_n 3 rfl rfl dX7_setStage_147 ?_
                  refine zM_vst hp (by omega) dX7_setStage_148 (fun mm hp => ?_)
                  refine z_iload 7 rfl dX7_setStage_149 ?_
                  have e9 : sSt v (nI k) y z = (v (9 + 2 * k + 1), upd (upd v (9 + 2 * k) y) (9 + 2 * k + 1) z, true) := by simp only [sSt, c6, znk, c80, c90, and_self, and_true, true_and, and_false, false_and, reduceIte, Bool.false_eq_true, reduceCtorEq]; first | rw [if_neg (fun q => c115 q.1)] | rw [if_neg (fun q => c121 q.2)]
                  exact z_iret dX7_setStage_151 (by rw [e9]) (by rw [e9]; exact hp)
                · refine z_bipush (-5) dX7_setStage_124 (by decide) ?_
                  have e9 : sSt v (nI k) y z = (-5, v, false) := by simp only [sSt, c6, znk, c80, c90, and_self, and_true, true_and, and_false, false_and, reduceIte, Bool.false_eq_true, reduceCtorEq]; rw [if_pos (And.intro c115 c121)]
                  exact z_iret dX7_setStage_126 (by rw [e9]) (by rw [e9]; exact hp)
            · refine z_bipush (-2) dX7_setStage_93 (by decide) ?_
              have e9 : sSt v (nI k) y z = (-2, v, false) := by first | (simp only [sSt, c6, znk, c80, and_self, and_true, true_and, and_false, false_and, reduceIte, Bool.false_eq_true, reduceCtorEq]; done) | (simp only [sSt, c6, znk, c80, c90, and_self, and_true, true_and, and_false, false_and, reduceIte, Bool.false_eq_true, reduceCtorEq]; done)
              exact z_iret dX7_setStage_95 (by rw [e9]) (by rw [e9]; exact hp)
        · have hk0 : k = 0 := (nI_eq (by omega) (by omega)).mp c51
          have eH : nI 99 = sHi v k := by unfold sHi; rw [if_neg hk3b, if_pos hk0]
          refine z_bipush (nI 99) dX7_setStage_54 rfl ?_
          refine z_goto 70 dX7_setStage_56 rfl ?_
          rw [eH]
          refine z_istore 6 (Nat.le_of_ble_eq_true rfl) rfl dX7_setStage_70 ?_
          refine z_iload_n 2 rfl rfl dX7_setStage_72 ?_
          refine z_iload 5 rfl dX7_setStage_73 ?_
          refine z_iload 6 rfl dX7_setStage_75 ?_
          refine z_pS3 zm_X7_in (c_X7_in _ _ _) rfl zl_X7_35 (by decide) (Nat.le_of_ble_eq_true rfl) dX7_setStage_77 ?_
          refine z_if_eqB 93 dX7_setStage_80 rfl (fun c80 => ?_) (fun c80 => ?_)
          · refine z_bipush (-2) dX7_setStage_93 (by decide) ?_
            have e9 : sSt v (nI k) y z = (-2, v, false) := by first | (simp only [sSt, c6, znk, c80, and_self, and_true, true_and, and_false, false_and, reduceIte, Bool.false_eq_true, reduceCtorEq]; done) | (simp only [sSt, c6, znk, c80, c90, and_self, and_true, true_and, and_false, false_and, reduceIte, Bool.false_eq_true, reduceCtorEq]; done)
            exact z_iret dX7_setStage_95 (by rw [e9]) (by rw [e9]; exact hp)
          · refine z_iload_n 3 rfl rfl dX7_setStage_83 ?_
            refine z_iconst (nI 0) dX7_setStage_84 rfl ?_
            refine z_bipush (nI 100) dX7_setStage_85 rfl ?_
            refine z_pS3 zm_X7_in (c_X7_in _ _ _) rfl zl_X7_35 (by decide) (Nat.le_of_ble_eq_true rfl) dX7_setStage_87 ?_
            refine z_if_neB 96 dX7_setStage_90 rfl (fun c90 => ?_) (fun c90 => ?_)
            · refine z_aload_n 0 rfl rfl dX7_setStage_96 ?_
              refine zM_ref 0 1 hp (by decide) rfl (by decide) rfl rfl zf_X7_7 dX7_setStage_97 ?_
              refine z_iload 4 rfl dX7_setStage_100 ?_
              refine z_iconst (nI 1) dX7_setStage_102 rfl ?_
              refine z_iaddN dX7_setStage_103 ?_
              refine zM_vld hp (by omega) dX7_setStage_104 ?_
              refine z_istore 7 (Nat.le_of_ble_eq_true rfl) rfl dX7_setStage_105 ?_
              refine z_aload_n 0 rfl rfl dX7_setStage_107 ?_
              refine zM_ref 0 1 hp (by decide) rfl (by decide) rfl rfl zf_X7_7 dX7_setStage_108 ?_
              refine z_iload 4 rfl dX7_setStage_111 ?_
              refine zM_vld hp (by omega) dX7_setStage_113 ?_
              refine z_iload_n 2 rfl rfl dX7_setStage_114 ?_
              refine z_icmp_ne 127 dX7_setStage_115 rfl (fun c115 => ?_) (fun c115 => ?_)
              · refine z_aload_n 0 rfl rfl dX7_setStage_127 ?_
                refine zM_v0 zm_X7_record (c_X7_record hp n hn hS) hp rfl rfl zl_X7_124 (by decide) (Nat.le_of_ble_eq_true rfl) dX7_setStage_128 (fun mm hp => ?_)
                refine z_aload_n 0 rfl rfl dX7_setStage_131 ?_
                refine zM_ref 0 1 hp (by decide) rfl (by decide) rfl rfl zf_X7_7 dX7_setStage_132 ?_
                refine z_iload 4 rfl dX7_setStage_135 ?_
                refine z_iload_n 2 rfl rfl dX7_setStage_137 ?_
                refine zM_vst hp (by omega) dX7_setStage_138 (fun mm hp => ?_)
                refine z_aload_n 0 rfl rfl dX7_setStage_139 ?_
                refine zM_ref 0 1 hp (by decide) rfl (by decide) rfl rfl zf_X7_7 dX7_setStage_140 ?_
                refine z_iload 4 rfl dX7_setStage_143 ?_
                refine z_iconst (nI 1) dX7_setStage_145 rfl ?_
                refine z_iaddN dX7_setStage_146 ?_
                refine z_iload_n 3 rfl rfl dX7_setStage_147 ?_
                refine zM_vst hp (by omega) dX7_setStage_148 (fun mm hp => ?_)
                refine z_iload 7 rfl dX7_setStage_149 ?_
                have e9 : sSt v (nI k) y z = (v (9 + 2 * k + 1), upd (upd v (9 + 2 * k) y) (9 + 2 * k + 1) z, true) := by simp only [sSt, c6, znk, c80, c90, and_self, and_true, true_and, and_false, false_and, reduceIte, Bool.false_eq_true, reduceCtorEq]; first | rw [if_neg (fun q => c115 q.1)] | rw [if_neg (fun q => c121 q.2)]
                exact z_iret dX7_setStage_151 (by rw [e9]) (by rw [e9]; exact hp)
              · refine z_iload 7 rfl dX7_setStage_118 ?_
                refine z_iload_n 3 rfl rfl dX7_setStage_120 ?_
                refine z_icmp_ne 127 dX7_setStage_121 rfl (fun c121 => ?_) (fun c121 => ?_)
                · refine z_aload_n 0 rfl rfl dX7_setStage_127 ?_
                  refine zM_v0 zm_X7_record (c_X7_record hp n hn hS) hp rfl rfl zl_X7_124 (by decide) (Nat.le_of_ble_eq_true rfl) dX7_setStage_128 (fun mm hp => ?_)
                  refine z_aload_n 0 rfl rfl dX7_setStage_131 ?_
                  refine zM_ref 0 1 hp (by decide) rfl (by decide) rfl rfl zf_X7_7 dX7_setStage_132 ?_
                  refine z_iload 4 rfl dX7_setStage_135 ?_
                  refine z_iload_n 2 rfl rfl dX7_setStage_137 ?_
                  refine zM_vst hp (by omega) dX7_setStage_138 (fun mm hp => ?_)
                  refine z_aload_n 0 rfl rfl dX7_setStage_139 ?_
                  refine zM_ref 0 1 hp (by decide) rfl (by decide) rfl rfl zf_X7_7 dX7_setStage_140 ?_
                  refine z_iload 4 rfl dX7_setStage_143 ?_
                  refine z_iconst (nI 1) dX7_setStage_145 rfl ?_
                  refine z_iaddN dX7_setStage_146 ?_
                  refine z_iload_n 3 rfl rfl dX7_setStage_147 ?_
                  refine zM_vst hp (by omega) dX7_setStage_148 (fun mm hp => ?_)
                  refine z_iload 7 rfl dX7_setStage_149 ?_
                  have e9 : sSt v (nI k) y z = (v (9 + 2 * k + 1), upd (upd v (9 + 2 * k) y) (9 + 2 * k + 1) z, true) := by simp only [sSt, c6, znk, c80, c90, and_self, and_true, true_and, and_false, false_and, reduceIte, Bool.false_eq_true, reduceCtorEq]; first | rw [if_neg (fun q => c115 q.1)] | rw [if_neg (fun q => c121 q.2)]
                  exact z_iret dX7_setStage_151 (by rw [e9]) (by rw [e9]; exact hp)
                · refine z_bipush (-5) dX7_setStage_124 (by decide) ?_
                  have e9 : sSt v (nI k) y z = (-5, v, false) := by simp only [sSt, c6, znk, c80, c90, and_self, and_true, true_and, and_false, false_and, reduceIte, Bool.false_eq_true, reduceCtorEq]; rw [if_pos (And.intro c115 c121)]
                  exact z_iret dX7_setStage_126 (by rw [e9]) (by rw [e9]; exact hp)
            · refine z_bipush (-2) dX7_setStage_93 (by decide) ?_
              have e9 : sSt v (nI k) y z = (-2, v, false) := by first | (simp only [sSt, c6, znk, c80, and_self, and_true, true_and, and_false, false_and, reduceIte, Bool.false_eq_true, reduceCtorEq]; done) | (simp only [sSt, c6, znk, c80, c90, and_self, and_true, true_and, and_false, false_and, reduceIte, Bool.false_eq_true, reduceCtorEq]; done)
              exact z_iret dX7_setStage_95 (by rw [e9]) (by rw [e9]; exact hp)
      · have hk3b : k = 3 := (nI_eq (by omega) (by omega)).mp c43
        have eH : nI 0 = sHi v k := (if_pos hk3b).symm
        refine z_iconst (nI 0) dX7_setStage_46 rfl ?_
        refine z_goto 70 dX7_setStage_47 rfl ?_
        rw [eH]
        refine z_istore 6 (Nat.le_of_ble_eq_true rfl) rfl dX7_setStage_70 ?_
        refine z_iload_n 2 rfl rfl dX7_setStage_72 ?_
        refine z_iload 5 rfl dX7_setStage_73 ?_
        refine z_iload 6 rfl dX7_setStage_75 ?_
        refine z_pS3 zm_X7_in (c_X7_in _ _ _) rfl zl_X7_35 (by decide) (Nat.le_of_ble_eq_true rfl) dX7_setStage_77 ?_
        refine z_if_eqB 93 dX7_setStage_80 rfl (fun c80 => ?_) (fun c80 => ?_)
        · refine z_bipush (-2) dX7_setStage_93 (by decide) ?_
          have e9 : sSt v (nI k) y z = (-2, v, false) := by first | (simp only [sSt, c6, znk, c80, and_self, and_true, true_and, and_false, false_and, reduceIte, Bool.false_eq_true, reduceCtorEq]; done) | (simp only [sSt, c6, znk, c80, c90, and_self, and_true, true_and, and_false, false_and, reduceIte, Bool.false_eq_true, reduceCtorEq]; done)
          exact z_iret dX7_setStage_95 (by rw [e9]) (by rw [e9]; exact hp)
        · refine z_iload_n 3 rfl rfl dX7_setStage_83 ?_
          refine z_iconst (nI 0) dX7_setStage_84 rfl ?_
          refine z_bipush (nI 100) dX7_setStage_85 rfl ?_
          refine z_pS3 zm_X7_in (c_X7_in _ _ _) rfl zl_X7_35 (by decide) (Nat.le_of_ble_eq_true rfl) dX7_setStage_87 ?_
          refine z_if_neB 96 dX7_setStage_90 rfl (fun c90 => ?_) (fun c90 => ?_)
          · refine z_aload_n 0 rfl rfl dX7_setStage_96 ?_
            refine zM_ref 0 1 hp (by decide) rfl (by decide) rfl rfl zf_X7_7 dX7_setStage_97 ?_
            refine z_iload 4 rfl dX7_setStage_100 ?_
            refine z_iconst (nI 1) dX7_setStage_102 rfl ?_
            refine z_iaddN dX7_setStage_103 ?_
            refine zM_vld hp (by omega) dX7_setStage_104 ?_
            refine z_istore 7 (Nat.le_of_ble_eq_true rfl) rfl dX7_setStage_105 ?_
            refine z_aload_n 0 rfl rfl dX7_setStage_107 ?_
            refine zM_ref 0 1 hp (by decide) rfl (by decide) rfl rfl zf_X7_7 dX7_setStage_108 ?_
            refine z_iload 4 rfl dX7_setStage_111 ?_
            refine zM_vld hp (by omega) dX7_setStage_113 ?_
            refine z_iload_n 2 rfl rfl dX7_setStage_114 ?_
            refine z_icmp_ne 127 dX7_setStage_115 rfl (fun c115 => ?_) (fun c115 => ?_)
            · refine z_aload_n 0 rfl rfl dX7_setStage_127 ?_
              refine zM_v0 zm_X7_record (c_X7_record hp n hn hS) hp rfl rfl zl_X7_124 (by decide) (Nat.le_of_ble_eq_true rfl) dX7_setStage_128 (fun mm hp => ?_)
              refine z_aload_n 0 rfl rfl dX7_setStage_131 ?_
              refine zM_ref 0 1 hp (by decide) rfl (by decide) rfl rfl zf_X7_7 dX7_setStage_132 ?_
              refine z_iload 4 rfl dX7_setStage_135 ?_
              refine z_iload_n 2 rfl rfl dX7_setStage_137 ?_
              refine zM_vst hp (by omega) dX7_setStage_138 (fun mm hp => ?_)
              refine z_aload_n 0 rfl rfl dX7_setStage_139 ?_
              refine zM_ref 0 1 hp (by decide) rfl (by decide) rfl rfl zf_X7_7 dX7_setStage_140 ?_
              refine z_iload 4 rfl dX7_setStage_143 ?_
              refine z_iconst (nI 1) dX7_setStage_145 rfl ?_
              refine z_iaddN dX7_setStage_146 ?_
              refine z_iload_n 3 rfl rfl dX7_setStage_147 ?_
              refine zM_vst hp (by omega) dX7_setStage_148 (fun mm hp => ?_)
              refine z_iload 7 rfl dX7_setStage_149 ?_
              have e9 : sSt v (nI k) y z = (v (9 + 2 * k + 1), upd (upd v (9 + 2 * k) y) (9 + 2 * k + 1) z, true) := by simp only [sSt, c6, znk, c80, c90, and_self, and_true, true_and, and_false, false_and, reduceIte, Bool.false_eq_true, reduceCtorEq]; first | rw [if_neg (fun q => c115 q.1)] | rw [if_neg (fun q => c121 q.2)]
              exact z_iret dX7_setStage_151 (by rw [e9]) (by rw [e9]; exact hp)
            · refine z_iload 7 rfl dX7_setStage_118 ?_
              refine z_iload_n 3 rfl rfl dX7_setStage_120 ?_
              refine z_icmp_ne 127 dX7_setStage_121 rfl (fun c121 => ?_) (fun c121 => ?_)
              · refine z_aload_n 0 rfl rfl dX7_setStage_127 ?_
                refine zM_v0 zm_X7_record (c_X7_record hp n hn hS) hp rfl rfl zl_X7_124 (by decide) (Nat.le_of_ble_eq_true rfl) dX7_setStage_128 (fun mm hp => ?_)
                refine z_aload_n 0 rfl rfl dX7_setStage_131 ?_
                refine zM_ref 0 1 hp (by decide) rfl (by decide) rfl rfl zf_X7_7 dX7_setStage_132 ?_
                refine z_iload 4 rfl dX7_setStage_135 ?_
                refine z_iload_n 2 rfl rfl dX7_setStage_137 ?_
                refine zM_vst hp (by omega) dX7_setStage_138 (fun mm hp => ?_)
                refine z_aload_n 0 rfl rfl dX7_setStage_139 ?_
                refine zM_ref 0 1 hp (by decide) rfl (by decide) rfl rfl zf_X7_7 dX7_setStage_140 ?_
                refine z_iload 4 rfl dX7_setStage_143 ?_
                refine z_iconst (nI 1) dX7_setStage_145 rfl ?_
                refine z_iaddN dX7_setStage_146 ?_
                refine z_iload_n 3 rfl rfl dX7_setStage_147 ?_
                refine zM_vst hp (by omega) dX7_setStage_148 (fun mm hp => ?_)
                refine z_iload 7 rfl dX7_setStage_149 ?_
                have e9 : sSt v (nI k) y z = (v (9 + 2 * k + 1), upd (upd v (9 + 2 * k) y) (9 + 2 * k + 1) z, true) := by simp only [sSt, c6, znk, c80, c90, and_self, and_true, true_and, and_false, false_and, reduceIte, Bool.false_eq_true, reduceCtorEq]; first | rw [if_neg (fun q => c115 q.1)] | rw [if_neg (fun q => c121 q.2)]
                exact z_iret dX7_setStage_151 (by rw [e9]) (by rw [e9]; exact hp)
              · refine z_bipush (-5) dX7_setStage_124 (by decide) ?_
                have e9 : sSt v (nI k) y z = (-5, v, false) := by simp only [sSt, c6, znk, c80, c90, and_self, and_true, true_and, and_false, false_and, reduceIte, Bool.false_eq_true, reduceCtorEq]; rw [if_pos (And.intro c115 c121)]
                exact z_iret dX7_setStage_126 (by rw [e9]) (by rw [e9]; exact hp)
          · refine z_bipush (-2) dX7_setStage_93 (by decide) ?_
            have e9 : sSt v (nI k) y z = (-2, v, false) := by first | (simp only [sSt, c6, znk, c80, and_self, and_true, true_and, and_false, false_and, reduceIte, Bool.false_eq_true, reduceCtorEq]; done) | (simp only [sSt, c6, znk, c80, c90, and_self, and_true, true_and, and_false, false_and, reduceIte, Bool.false_eq_true, reduceCtorEq]; done)
            exact z_iret dX7_setStage_95 (by rw [e9]) (by rw [e9]; exact hp)
  · refine z_iconst (-1) dX7_setStage_9 (by decide) ?_
    have e9 : sSt v x y z = (-1, v, false) := by simp only [sSt, c6, and_self, and_true, true_and, and_false, false_and, reduceIte, Bool.false_eq_true, reduceCtorEq]
    exact z_iret dX7_setStage_10 (by rw [e9]) (by rw [e9]; exact hp)
set_option maxRecDepth 4000 in
theorem c_X7_addDate {l : Launch} {G : zG} {A : Nat → Nat} {m0 mm : zM} {v : Nat → Int32} {S : Nat → Nat → Int32} (hp : zMP G A m0 v S mm) (a b c e f : Int32) (hK : zK v) (n : Nat) (hn : n ≤ 4) (hS : S 0 3 = nI n) : zSem l G (yX7_addDate, cX7_addDate, 7, (some .int)) 2 [.ref (A 0), .int a, .int b, .int c, .int e, .int f] mm (some (.int (sAdd v a b c e f).1)) (fun m' => zMP G A m0 (sAdd v a b c e f).2.1 (if (sAdd v a b c e f).2.2 = true then sRec v S n else S) m') := by
  have hJ := hK.2.1
  have hJ2 := hK.2.1.2
  have hD2 := hK.1.2
  refine z_met [some (.ref (A 0)), some (.int a), some (.int b), some (.int c), some (.int e), some (.int f), none] rfl (zc1 (by rfl)) (Nat.le_of_ble_eq_true rfl) rfl ?_
  refine z_iload_n 1 rfl rfl dX7_addDate_0 ?_
  refine z_aload_n 0 rfl rfl dX7_addDate_1 ?_
  refine zM_ref 0 1 hp (by decide) rfl (by decide) rfl rfl zf_X7_7 dX7_addDate_2 ?_
  refine z_iconst (nI 0) dX7_addDate_5 rfl ?_
  refine zM_vld hp (by omega) dX7_addDate_6 ?_
  refine z_iconst (nI 1) dX7_addDate_7 rfl ?_
  refine z_iadd dX7_addDate_8 ?_
  refine z_sipush (nI 999) dX7_addDate_9 rfl ?_
  refine z_pS3 zm_X7_in (c_X7_in _ _ _) rfl zl_X7_35 (by decide) (Nat.le_of_ble_eq_true rfl) dX7_addDate_12 ?_
  refine z_if_eqB 59 dX7_addDate_15 rfl (fun c15 => ?_) (fun c15 => ?_)
  · refine z_bipush (-2) dX7_addDate_59 (by decide) ?_
    have e9 : sAdd v a b c e f = (-2, v, false) := by first | (simp only [sAdd, sAddOk, c15, Bool.false_and, and_self, and_true, true_and, and_false, false_and, reduceIte, Bool.false_eq_true, reduceCtorEq]; done) | (simp only [sAdd, sAddOk, c15, c25, Bool.false_and, Bool.true_and, and_self, and_true, true_and, and_false, false_and, reduceIte, Bool.false_eq_true, reduceCtorEq]; done) | (simp only [sAdd, sAddOk, c15, c25, c34, Bool.false_and, Bool.true_and, and_self, and_true, true_and, and_false, false_and, reduceIte, Bool.false_eq_true, reduceCtorEq]; done) | (simp only [sAdd, sAddOk, c15, c25, c34, c46, Bool.false_and, Bool.true_and, and_self, and_true, true_and, and_false, false_and, reduceIte, Bool.false_eq_true, reduceCtorEq]; done) | (simp only [sAdd, sAddOk, c15, c25, c34, c46, c56, Bool.false_and, Bool.true_and, and_self, and_true, true_and, and_false, false_and, reduceIte, Bool.false_eq_true, reduceCtorEq]; done)
    exact z_iret dX7_addDate_61 (by rw [e9]) (by rw [e9]; exact hp)
  · refine z_iload_n 2 rfl rfl dX7_addDate_18 ?_
    refine z_iconst (nI 1) dX7_addDate_19 rfl ?_
    refine z_bipush (nI 20) dX7_addDate_20 rfl ?_
    refine z_pS3 zm_X7_in (c_X7_in _ _ _) rfl zl_X7_35 (by decide) (Nat.le_of_ble_eq_true rfl) dX7_addDate_22 ?_
    refine z_if_eqB 59 dX7_addDate_25 rfl (fun c25 => ?_) (fun c25 => ?_)
    · refine z_bipush (-2) dX7_addDate_59 (by decide) ?_
      have e9 : sAdd v a b c e f = (-2, v, false) := by first | (simp only [sAdd, sAddOk, c15, Bool.false_and, and_self, and_true, true_and, and_false, false_and, reduceIte, Bool.false_eq_true, reduceCtorEq]; done) | (simp only [sAdd, sAddOk, c15, c25, Bool.false_and, Bool.true_and, and_self, and_true, true_and, and_false, false_and, reduceIte, Bool.false_eq_true, reduceCtorEq]; done) | (simp only [sAdd, sAddOk, c15, c25, c34, Bool.false_and, Bool.true_and, and_self, and_true, true_and, and_false, false_and, reduceIte, Bool.false_eq_true, reduceCtorEq]; done) | (simp only [sAdd, sAddOk, c15, c25, c34, c46, Bool.false_and, Bool.true_and, and_self, and_true, true_and, and_false, false_and, reduceIte, Bool.false_eq_true, reduceCtorEq]; done) | (simp only [sAdd, sAddOk, c15, c25, c34, c46, c56, Bool.false_and, Bool.true_and, and_self, and_true, true_and, and_false, false_and, reduceIte, Bool.false_eq_true, reduceCtorEq]; done)
      exact z_iret dX7_addDate_61 (by rw [e9]) (by rw [e9]; exact hp)
    · refine z_iload_n 3 rfl rfl dX7_addDate_28 ?_
      refine z_iconst (nI 0) dX7_addDate_29 rfl ?_
      refine z_iconst (nI 5) dX7_addDate_30 rfl ?_
      refine z_pS3 zm_X7_in (c_X7_in _ _ _) rfl zl_X7_35 (by decide) (Nat.le_of_ble_eq_true rfl) dX7_addDate_31 ?_
      refine z_if_eqB 59 dX7_addDate_34 rfl (fun c34 => ?_) (fun c34 => ?_)
      · refine z_bipush (-2) dX7_addDate_59 (by decide) ?_
        have e9 : sAdd v a b c e f = (-2, v, false) := by first | (simp only [sAdd, sAddOk, c15, Bool.false_and, and_self, and_true, true_and, and_false, false_and, reduceIte, Bool.false_eq_true, reduceCtorEq]; done) | (simp only [sAdd, sAddOk, c15, c25, Bool.false_and, Bool.true_and, and_self, and_true, true_and, and_false, false_and, reduceIte, Bool.false_eq_true, reduceCtorEq]; done) | (simp only [sAdd, sAddOk, c15, c25, c34, Bool.false_and, Bool.true_and, and_self, and_true, true_and, and_false, false_and, reduceIte, Bool.false_eq_true, reduceCtorEq]; done) | (simp only [sAdd, sAddOk, c15, c25, c34, c46, Bool.false_and, Bool.true_and, and_self, and_true, true_and, and_false, false_and, reduceIte, Bool.false_eq_true, reduceCtorEq]; done) | (simp only [sAdd, sAddOk, c15, c25, c34, c46, c56, Bool.false_and, Bool.true_and, and_self, and_true, true_and, and_false, false_and, reduceIte, Bool.false_eq_true, reduceCtorEq]; done)
        exact z_iret dX7_addDate_61 (by rw [e9]) (by rw [e9]; exact hp)
      · refine z_iload 4 rfl dX7_addDate_37 ?_
        refine z_iconst (nI 1) dX7_addDate_39 rfl ?_
        refine z_sipush (nI 9999) dX7_addDate_40 rfl ?_
        refine z_pS3 zm_X7_in (c_X7_in _ _ _) rfl zl_X7_35 (by decide) (Nat.le_of_ble_eq_true rfl) dX7_addDate_43 ?_
        refine z_if_eqB 59 dX7_addDate_46 rfl (fun c46 => ?_) (fun c46 => ?_)
        · refine z_bipush (-2) dX7_addDate_59 (by decide) ?_
          have e9 : sAdd v a b c e f = (-2, v, false) := by first | (simp only [sAdd, sAddOk, c15, Bool.false_and, and_self, and_true, true_and, and_false, false_and, reduceIte, Bool.false_eq_true, reduceCtorEq]; done) | (simp only [sAdd, sAddOk, c15, c25, Bool.false_and, Bool.true_and, and_self, and_true, true_and, and_false, false_and, reduceIte, Bool.false_eq_true, reduceCtorEq]; done) | (simp only [sAdd, sAddOk, c15, c25, c34, Bool.false_and, Bool.true_and, and_self, and_true, true_and, and_false, false_and, reduceIte, Bool.false_eq_true, reduceCtorEq]; done) | (simp only [sAdd, sAddOk, c15, c25, c34, c46, Bool.false_and, Bool.true_and, and_self, and_true, true_and, and_false, false_and, reduceIte, Bool.false_eq_true, reduceCtorEq]; done) | (simp only [sAdd, sAddOk, c15, c25, c34, c46, c56, Bool.false_and, Bool.true_and, and_self, and_true, true_and, and_false, false_and, reduceIte, Bool.false_eq_true, reduceCtorEq]; done)
          exact z_iret dX7_addDate_61 (by rw [e9]) (by rw [e9]; exact hp)
        · refine z_iload 5 rfl dX7_addDate_49 ?_
          refine z_iconst (nI 0) dX7_addDate_51 rfl ?_
          refine z_iconst (nI 2) dX7_addDate_52 rfl ?_
          refine z_pS3 zm_X7_in (c_X7_in _ _ _) rfl zl_X7_35 (by decide) (Nat.le_of_ble_eq_true rfl) dX7_addDate_53 ?_
          refine z_if_neB 62 dX7_addDate_56 rfl (fun c56 => ?_) (fun c56 => ?_)
          · refine z_aload_n 0 rfl rfl dX7_addDate_62 ?_
            refine zM_ref 0 1 hp (by decide) rfl (by decide) rfl rfl zf_X7_7 dX7_addDate_63 ?_
            refine z_iconst (nI 1) dX7_addDate_66 rfl ?_
            refine zM_vld hp (by omega) dX7_addDate_67 ?_
            refine z_bipush (nI 10) dX7_addDate_68 rfl ?_
            refine z_icmp_ne 76 dX7_addDate_70 rfl (fun c70 => ?_) (fun c70 => ?_)
            · have hd : nD v < 10 := by rcases Nat.lt_or_ge (nD v) 10 with q | q; exact q; exact absurd (by rw [hK.1.1, show nD v = 10 by omega]) c70
              refine z_aload_n 0 rfl rfl dX7_addDate_76 ?_
              refine zM_v0 zm_X7_record (c_X7_record hp n hn hS) hp rfl rfl zl_X7_124 (by decide) (Nat.le_of_ble_eq_true rfl) dX7_addDate_77 (fun mm hp => ?_)
              refine z_aload_n 0 rfl rfl dX7_addDate_80 ?_
              refine zM_ref 0 1 hp (by decide) rfl (by decide) rfl rfl zf_X7_7 dX7_addDate_81 ?_
              refine z_iconst (nI 1) dX7_addDate_84 rfl ?_
              refine zM_vld hp (by omega) dX7_addDate_85 ?_
              rw [hK.1.1]
              refine z_istore 6 (Nat.le_of_ble_eq_true rfl) rfl dX7_addDate_86 ?_
              refine z_aload_n 0 rfl rfl dX7_addDate_88 ?_
              refine zM_ref 0 1 hp (by decide) rfl (by decide) rfl rfl zf_X7_7 dX7_addDate_89 ?_
              refine z_iload 6 rfl dX7_addDate_92 ?_
              refine z_iconst (nI 0) dX7_addDate_94 rfl ?_
              refine z_pS2 zm_X7_dateAt (c_X7_dateAt _ _) rfl zl_X7_39 (by decide) (Nat.le_of_ble_eq_true rfl) dX7_addDate_95 ?_
              refine z_iload_n 1 rfl rfl dX7_addDate_98 ?_
              refine zM_vst hp (by omega) dX7_addDate_99 (fun mm hp => ?_)
              refine z_aload_n 0 rfl rfl dX7_addDate_100 ?_
              refine zM_ref 0 1 hp (by decide) rfl (by decide) rfl rfl zf_X7_7 dX7_addDate_101 ?_
              refine z_iload 6 rfl dX7_addDate_104 ?_
              refine z_iconst (nI 1) dX7_addDate_106 rfl ?_
              refine z_pS2 zm_X7_dateAt (c_X7_dateAt _ _) rfl zl_X7_39 (by decide) (Nat.le_of_ble_eq_true rfl) dX7_addDate_107 ?_
              refine z_iload_n 2 rfl rfl dX7_addDate_110 ?_
              refine zM_vst hp (by omega) dX7_addDate_111 (fun mm hp => ?_)
              refine z_aload_n 0 rfl rfl dX7_addDate_112 ?_
              refine zM_ref 0 1 hp (by decide) rfl (by decide) rfl rfl zf_X7_7 dX7_addDate_113 ?_
              refine z_iload 6 rfl dX7_addDate_116 ?_
              refine z_iconst (nI 2) dX7_addDate_118 rfl ?_
              refine z_pS2 zm_X7_dateAt (c_X7_dateAt _ _) rfl zl_X7_39 (by decide) (Nat.le_of_ble_eq_true rfl) dX7_addDate_119 ?_
              refine z_iload_n 3 rfl rfl dX7_addDate_122 ?_
              refine zM_vst hp (by omega) dX7_addDate_123 (fun mm hp => ?_)
              refine z_aload_n 0 rfl rfl dX7_addDate_124 ?_
              refine zM_ref 0 1 hp (by decide) rfl (by decide) rfl rfl zf_X7_7 dX7_addDate_125 ?_
              refine z_iload 6 rfl dX7_addDate_128 ?_
              refine z_iconst (nI 3) dX7_addDate_130 rfl ?_
              refine z_pS2 zm_X7_dateAt (c_X7_dateAt _ _) rfl zl_X7_39 (by decide) (Nat.le_of_ble_eq_true rfl) dX7_addDate_131 ?_
              refine z_iload 4 rfl dX7_addDate_134 ?_
              refine zM_vst hp (by omega) dX7_addDate_136 (fun mm hp => ?_)
              refine z_aload_n 0 rfl rfl dX7_addDate_137 ?_
              refine zM_ref 0 1 hp (by decide) rfl (by decide) rfl rfl zf_X7_7 dX7_addDate_138 ?_
              refine z_iload 6 rfl dX7_addDate_141 ?_
              refine z_iconst (nI 4) dX7_addDate_143 rfl ?_
              refine z_pS2 zm_X7_dateAt (c_X7_dateAt _ _) rfl zl_X7_39 (by decide) (Nat.le_of_ble_eq_true rfl) dX7_addDate_144 ?_
              refine z_iload 5 rfl dX7_addDate_147 ?_
              refine zM_vst hp (by omega) dX7_addDate_149 (fun mm hp => ?_)
              refine z_aload_n 0 rfl rfl dX7_addDate_150 ?_
              refine zM_ref 0 1 hp (by decide) rfl (by decide) rfl rfl zf_X7_7 dX7_addDate_151 ?_
              refine z_iload 6 rfl dX7_addDate_154 ?_
              refine z_iconst (nI 5) dX7_addDate_156 rfl ?_
              refine z_pS2 zm_X7_dateAt (c_X7_dateAt _ _) rfl zl_X7_39 (by decide) (Nat.le_of_ble_eq_true rfl) dX7_addDate_157 ?_
              refine z_iconst (nI 0) dX7_addDate_160 rfl ?_
              refine zM_vst hp (by omega) dX7_addDate_161 (fun mm hp => ?_)
              have hp : zMP G A m0 (sAdd1 v (nD v) a b c e f) (sRec v S n) mm := hp
              refine z_aload_n 0 rfl rfl dX7_addDate_162 ?_
              refine zM_ref 0 1 hp (by decide) rfl (by decide) rfl rfl zf_X7_7 dX7_addDate_163 ?_
              refine z_iconst (nI 1) dX7_addDate_166 rfl ?_
              refine z_dup2 dX7_addDate_167 rfl rfl ?_
              refine zM_vld hp (by omega) dX7_addDate_168 ?_
              refine z_iconst (nI 1) dX7_addDate_169 rfl ?_
              refine z_iadd dX7_addDate_170 ?_
              refine zM_vst hp (by omega) dX7_addDate_171 (fun mm hp => ?_)
              refine z_iload 6 rfl dX7_addDate_172 ?_
              have e9 : sAdd v a b c e f = (nI (nD v), upd (sAdd1 v (nD v) a b c e f) 1 (sAdd1 v (nD v) a b c e f 1 + nI 1), true) := by simp only [sAdd, sAddOk, c15, c25, c34, c46, c56, Bool.true_and, and_self, and_true, true_and, and_false, false_and, reduceIte, Bool.false_eq_true, reduceCtorEq]; rw [if_neg c70]
              exact z_iret dX7_addDate_174 (by rw [e9]) (by rw [e9]; exact hp)
            · refine z_bipush (-3) dX7_addDate_73 (by decide) ?_
              have e9 : sAdd v a b c e f = (-3, v, false) := by simp only [sAdd, sAddOk, c15, c25, c34, c46, c56, Bool.true_and, and_self, and_true, true_and, and_false, false_and, reduceIte, Bool.false_eq_true, reduceCtorEq]; rw [if_pos c70]
              exact z_iret dX7_addDate_75 (by rw [e9]) (by rw [e9]; exact hp)
          · refine z_bipush (-2) dX7_addDate_59 (by decide) ?_
            have e9 : sAdd v a b c e f = (-2, v, false) := by first | (simp only [sAdd, sAddOk, c15, Bool.false_and, and_self, and_true, true_and, and_false, false_and, reduceIte, Bool.false_eq_true, reduceCtorEq]; done) | (simp only [sAdd, sAddOk, c15, c25, Bool.false_and, Bool.true_and, and_self, and_true, true_and, and_false, false_and, reduceIte, Bool.false_eq_true, reduceCtorEq]; done) | (simp only [sAdd, sAddOk, c15, c25, c34, Bool.false_and, Bool.true_and, and_self, and_true, true_and, and_false, false_and, reduceIte, Bool.false_eq_true, reduceCtorEq]; done) | (simp only [sAdd, sAddOk, c15, c25, c34, c46, Bool.false_and, Bool.true_and, and_self, and_true, true_and, and_false, false_and, reduceIte, Bool.false_eq_true, reduceCtorEq]; done) | (simp only [sAdd, sAddOk, c15, c25, c34, c46, c56, Bool.false_and, Bool.true_and, and_self, and_true, true_and, and_false, false_and, reduceIte, Bool.false_eq_true, reduceCtorEq]; done)
            exact z_iret dX7_addDate_61 (by rw [e9]) (by rw [e9]; exact hp)
