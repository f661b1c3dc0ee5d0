theorem zIn_neg {x k : Int32} (h : x < 0) : zIn x (nI 0) k = false := by unfold zIn; rw [show decide (nI 0 ≤ x) = false from decide_eq_false (i_not_le.mpr h)]; rfl
theorem zIn_le {k n : Nat} (h : k ≤ n) (hn : n < 2 ^ 31) : zIn (nI k) (nI 0) (nI n) = true := by unfold zIn; rw [decide_eq_true (nI_le (Nat.zero_le k) (by omega)), decide_eq_true (nI_le h hn)]; rfl
theorem zIn_gt {k n : Nat} (h : n < k) (hk : k < 2 ^ 31) : zIn (nI k) (nI 0) (nI n) = false := by unfold zIn; rw [decide_eq_false (i_not_le.mpr (nI_lt h hk)), Bool.and_false]
/-- a right turns to a state and an asking price -/
theorem zRel.st {u v : Nat → Int32} (h : zRel u v) {r : Nat} (hr : r < 60) {s a a' : Int32} (h1 : s = nI 1 → a = a') (h0 : ¬ s = nI 1 → a = nI 0) : zRel (upd (upd u (147 + 7 * r + 3) s) (147 + 7 * r + 4) a) (upd (upd v (147 + 7 * r + 3) s) (147 + 7 * r + 4) a') := by
  refine ⟨fun j hj hn => ?_, fun q hq => ?_⟩
  · rw [upd_ne (hn r hr), upd_ne (hn r hr)]
    by_cases e : j = 147 + 7 * r + 3
    · subst e; rw [upd_eq, upd_eq]
    · rw [upd_ne e, upd_ne e]; exact h.1 j hj hn
  · by_cases e : q = r
    · subst e
      rw [upd_eq]
      unfold kAsk
      rw [upd_ne (by omega), upd_eq, upd_eq]
      by_cases c : s = nI 1
      · rw [if_pos c]; exact h1 c
      · rw [if_neg c]; exact h0 c
    · rw [upd_ne (by omega), upd_ne (by omega), h.2 q hq]
      unfold kAsk
      rw [upd_ne (by omega), upd_ne (by omega), upd_ne (by omega), upd_ne (by omega)]
theorem l_X4_turnTo {l : Launch} {G : zG} {B : Nat → Nat} {m0 mm : zM} {u : Nat → Int32} (hc : zCP G B m0 u mm) (r : Nat) (s a : Int32) (hr : r < 60) : zSem l G (yX4_turnTo, cX4_turnTo, 3, none) 1 [.ref (B (30 + r)), .int s, .int a] mm none (fun m' => zCP G B m0 (upd (upd u (147 + 7 * r + 3) s) (147 + 7 * r + 4) a) m') := by
  have hb : zBd (30 + r) := Or.inr (by omega)
  refine z_met [some (.ref (B (30 + r))), some (.int s), some (.int a)] rfl (zc1 (by rfl)) (Nat.le_of_ble_eq_true rfl) rfl ?_
  refine z_aload_n 0 rfl rfl dX4_turnTo_0 ?_
  refine z_iload_n 1 rfl rfl dX4_turnTo_1 ?_
  refine z_put (ci := 4) (k := 4) (own := RX4) zin4 tyX4_ok nmX4 rfl (by decide) (by decide) rfl rfl rfl rfl rfl rfl zf_X4_24 (hc.1 _ hb) ((hc.2.1 _ hb).trans (zBsh_r hr)) dX4_turnTo_2 ?_
  have hc1 := hc.set (zIx_r hr (k := 4) (by decide)) s
  refine z_aload_n 0 rfl rfl dX4_turnTo_5 ?_
  refine z_iload_n 2 rfl rfl dX4_turnTo_6 ?_
  refine z_put (ci := 4) (k := 5) (own := RX4) zin4 tyX4_ok nmX4 rfl (by decide) (by decide) rfl rfl rfl rfl rfl rfl zf_X4_27 (hc1.1 _ hb) ((hc1.2.1 _ hb).trans (zBsh_r hr)) dX4_turnTo_7 ?_
  exact z_vret dX4_turnTo_10 rfl (hc1.set (zIx_r hr (k := 5) (by decide)) a)
theorem zSem.imp {l : Launch} {G : zG} {Md : zMd} {d : Nat} {As : List Value} {mm : zM} {rv : Option Value} {Q Q' : zM → Prop} (h : zSem l G Md d As mm rv Q) (hq : ∀ m', Q m' → Q' m') : zSem l G Md d As mm rv Q' := by
  intro p e hx hr hk s m args below hf h1 h2 h3
  obtain ⟨k, o, a1, a2, a3, ⟨⟨⟨b1, m', b2, b3⟩, b4⟩, b5⟩⟩ := h p e hx hr hk s m args below hf h1 h2 h3
  exact ⟨k, o, a1, a2, a3, ⟨⟨⟨b1, m', hq m' b2, b3⟩, b4⟩, b5⟩⟩
theorem c_X4_turnTo {l : Launch} {G : zG} {B : Nat → Nat} {m0 mm : zM} {v : Nat → Int32} (hp : zCV G B m0 v mm) (r : Nat) (s a a' : Int32) (hr : r < 60) (h1 : s = nI 1 → a = a') (h0 : ¬ s = nI 1 → a = nI 0) : zSem l G (yX4_turnTo, cX4_turnTo, 3, none) 1 [.ref (B (30 + r)), .int s, .int a] mm none (fun m' => zCV G B m0 (upd (upd v (147 + 7 * r + 3) s) (147 + 7 * r + 4) a') m') := by
  obtain ⟨u, hR, hc⟩ := hp
  exact (l_X4_turnTo hc r s a hr).imp (fun m' h => ⟨_, hR.st hr h1 h0, h⟩)
set_option maxRecDepth 4000 in
theorem c_X6_isHolder {l : Launch} {G : zG} {mm : zM} (x : Int32) : zSem l G (yX6_isHolder, cX6_isHolder, 1, (some .boolean)) 1 [.int x] mm (some (.int (zB (zIn x (nI 0) (nI 9))))) (fun m' => m' = mm) := by
  refine z_met [some (.int x)] rfl (zc1 (by rfl)) (Nat.le_of_ble_eq_true rfl) rfl ?_
  refine z_iload_n 0 rfl rfl dX6_isHolder_0 ?_
  refine z_if_lt 14 dX6_isHolder_1 rfl (fun c1 => ?_) (fun c1 => ?_)
  · have e9 : zIn x (nI 0) (nI 9) = false := zIn_neg c1
    refine z_iconst (nI 0) dX6_isHolder_14 rfl ?_
    exact z_zret dX6_isHolder_15 (by first | rfl | exact zB_nar _) (by rw [e9]; rfl) rfl
  · obtain ⟨k, hk31, rfl⟩ := nI_of c1
    refine z_iload_n 0 rfl rfl dX6_isHolder_4 ?_
    refine z_bipush (nI 10) dX6_isHolder_5 rfl ?_
    refine z_icmp_ge 14 dX6_isHolder_7 rfl (fun c7 => ?_) (fun c7 => ?_)
    · have e9 : zIn (nI k) (nI 0) (nI 9) = false := zIn_gt (by have := (nI_leI (by omega) (by omega)).mp c7; omega) hk31
      refine z_iconst (nI 0) dX6_isHolder_14 rfl ?_
      exact z_zret dX6_isHolder_15 (by first | rfl | exact zB_nar _) (by rw [e9]; rfl) rfl
    · have e9 : zIn (nI k) (nI 0) (nI 9) = true := zIn_le (by rcases Nat.lt_or_ge k 10 with q | q; omega; exact absurd (nI_le q hk31) c7) (by decide)
      refine z_iconst (nI 1) dX6_isHolder_10 rfl ?_
      refine z_goto 15 dX6_isHolder_11 rfl ?_
      exact z_zret dX6_isHolder_15 (by first | rfl | exact zB_nar _) (by rw [e9]; rfl) rfl
set_option maxRecDepth 4000 in
theorem c_X5_isStage {l : Launch} {G : zG} {B : Nat → Nat} {m0 mm : zM} {v : Nat → Int32} (hp : zCV G B m0 v mm) (x : Int32) : zSem l G (yX5_isStage, cX5_isStage, 2, (some .boolean)) 1 [.ref (B 0), .int x] mm (some (.int (zB (zIn x (nI 0) (nI 3))))) (fun m' => m' = mm) := by
  refine z_met [some (.ref (B 0)), some (.int x)] rfl (zc1 (by rfl)) (Nat.le_of_ble_eq_true rfl) rfl ?_
  refine z_iload_n 1 rfl rfl dX5_isStage_0 ?_
  refine z_if_lt 17 dX5_isStage_1 rfl (fun c1 => ?_) (fun c1 => ?_)
  · have e9 : zIn x (nI 0) (nI 3) = false := zIn_neg c1
    refine z_iconst (nI 0) dX5_isStage_17 rfl ?_
    exact z_zret dX5_isStage_18 (by first | rfl | exact zB_nar _) (by rw [e9]; rfl) rfl
  · obtain ⟨k, hk31, rfl⟩ := nI_of c1
    refine z_iload_n 1 rfl rfl dX5_isStage_4 ?_
    refine z_aload_n 0 rfl rfl dX5_isStage_5 ?_
    refine zC_S2 hp rfl zf_X5_26 dX5_isStage_6 ?_
    refine zC_a2l hp dX5_isStage_9 ?_
    refine z_icmp_ge 17 dX5_isStage_10 rfl (fun c10 => ?_) (fun c10 => ?_)
    · have e9 : zIn (nI k) (nI 0) (nI 3) = false := zIn_gt (by have := (nI_leI (by omega) (by omega)).mp c10; omega) hk31
      refine z_iconst (nI 0) dX5_isStage_17 rfl ?_
      exact z_zret dX5_isStage_18 (by first | rfl | exact zB_nar _) (by rw [e9]; rfl) rfl
    · have e9 : zIn (nI k) (nI 0) (nI 3) = true := zIn_le (by rcases Nat.lt_or_ge k 4 with q | q; omega; exact absurd (nI_le q hk31) c10) (by decide)
      refine z_iconst (nI 1) dX5_isStage_13 rfl ?_
      refine z_goto 18 dX5_isStage_14 rfl ?_
      exact z_zret dX5_isStage_18 (by first | rfl | exact zB_nar _) (by rw [e9]; rfl) rfl
set_option maxRecDepth 4000 in
theorem c_X5_daysLeft {l : Launch} {G : zG} {B : Nat → Nat} {m0 mm : zM} {v : Nat → Int32} (hp : zCV G B m0 v mm) (d : Nat) (hd : d < 10) : zSem l G (yX5_daysLeft, cX5_daysLeft, 2, (some .int)) 1 [.ref (B 0), .ref (B (10 + d))] mm (some (.int (sLeft v d))) (fun m' => m' = mm) := by
  refine z_met [some (.ref (B 0)), some (.ref (B (10 + d)))] rfl (zc1 (by rfl)) (Nat.le_of_ble_eq_true rfl) rfl ?_
  refine z_aload_n 1 rfl rfl dX5_daysLeft_0 ?_
  refine zC_D1 hp (by omega) rfl zf_X5_91 dX5_daysLeft_1 ?_
  refine z_aload_n 0 rfl rfl dX5_daysLeft_4 ?_
  refine zC_S0 hp rfl zf_X5_61 dX5_daysLeft_5 ?_
  refine z_isub dX5_daysLeft_8 ?_
  exact z_iret dX5_daysLeft_9 rfl rfl
set_option maxRecDepth 4000 in
theorem c_X5_isOpen {l : Launch} {G : zG} {B : Nat → Nat} {m0 mm : zM} {v : Nat → Int32} (hp : zCV G B m0 v mm) (d : Nat) (hH : zH v) (hd : d < nD v) : zSem l G (yX5_isOpen, cX5_isOpen, 2, (some .boolean)) 1 [.ref (B 0), .ref (B (10 + d))] mm (some (.int (zB (sOpen v d)))) (fun m' => m' = mm) := by
  have hd10 := hH.1.1.2
  have e8 := hH.opn hd
  refine z_met [some (.ref (B 0)), some (.ref (B (10 + d)))] rfl (zc1 (by rfl)) (Nat.le_of_ble_eq_true rfl) rfl ?_
  refine z_aload_n 1 rfl rfl dX5_isOpen_0 ?_
  refine zC_D1 hp (by omega) rfl zf_X5_91 dX5_isOpen_1 ?_
  refine z_aload_n 0 rfl rfl dX5_isOpen_4 ?_
  refine zC_S0 hp rfl zf_X5_61 dX5_isOpen_5 ?_
  refine z_icmp_le 15 dX5_isOpen_8 rfl (fun c8 => ?_) (fun c8 => ?_)
  · have e9 : sOpen v d = false := by rw [e8]; exact decide_eq_false (i_not_lt.mpr c8)
    refine z_iconst (nI 0) dX5_isOpen_15 rfl ?_
    exact z_zret dX5_isOpen_16 (by first | rfl | exact zB_nar _) (by rw [e9]; rfl) rfl
  · have e9 : sOpen v d = true := by rw [e8]; exact decide_eq_true (i_not_le.mp c8)
    refine z_iconst (nI 1) dX5_isOpen_11 rfl ?_
    refine z_goto 16 dX5_isOpen_12 rfl ?_
    exact z_zret dX5_isOpen_16 (by first | rfl | exact zB_nar _) (by rw [e9]; rfl) rfl
set_option maxRecDepth 4000 in
theorem l_X5_rightsOut {l : Launch} {G : zG} {B : Nat → Nat} {m0 mm : zM} {v : Nat → Int32} (hp : zCV G B m0 v mm) (w d : Nat) (hw : zRw G B m0 v w d) (hH : zH v) : ∀ i, i ≤ nR v → ∀ (cnt : Nat) (hc : cnt = sCnt v d (nI 0) (nI 2) i), zV l G (yX5_rightsOut, cX5_rightsOut, 4, (some .int)) 1 (some (.int (nI (sOut v d)))) (fun m' => m' = mm) 4 [some (.ref (B 0)), some (.ref w), some (.int (nI cnt)), some (.int (nI i))] [] mm := by
  refine z_loop (nR v) (fun i hi ih cnt hc => ?_)
  have hJ := hH.1.2.1
  have hJ2 := hJ.2
  refine z_iload_n 3 rfl rfl dX5_rightsOut_4 ?_
  refine z_aload_n 0 rfl rfl dX5_rightsOut_5 ?_
  refine zC_S6 hp rfl zf_X5_76 dX5_rightsOut_6 ?_
  rw [hJ.1]
  refine z_icmp_ge 59 dX5_rightsOut_9 rfl (fun c9 => ?_) (fun c9 => ?_)
  · have e : i = nR v := by have := (nI_leI (by omega) (by omega)).mp c9; omega
    subst e
    refine z_iload_n 2 rfl rfl dX5_rightsOut_59 ?_
    exact z_iret dX5_rightsOut_60 (by rw [hc]; rfl) rfl
  · have hl : i < nR v := Nat.lt_of_not_le (fun q => c9 ((nI_leI (by omega) (by omega)).mpr (by omega)))
    refine z_iload_n 3 rfl rfl dX5_rightsOut_12 ?_
    refine z_aload_n 0 rfl rfl dX5_rightsOut_13 ?_
    refine zC_S7 hp rfl zf_X5_43 dX5_rightsOut_14 ?_
    refine zC_a6l hp dX5_rightsOut_17 ?_
    refine z_icmp_ge 59 dX5_rightsOut_18 rfl (fun c18 => ?_) (fun c18 => ?_)
    · exact absurd ((nI_leI (by omega) (by omega)).mp c18) (by omega)
    · refine z_aload_n 0 rfl rfl dX5_rightsOut_21 ?_
      refine zC_S7 hp rfl zf_X5_43 dX5_rightsOut_22 ?_
      refine z_iload_n 3 rfl rfl dX5_rightsOut_25 ?_
      refine zC_a6 hp (by omega) dX5_rightsOut_26 ?_
      refine zC_R1 hp (by omega) rfl zf_X5_172 dX5_rightsOut_27 ?_
      refine z_aload_n 1 rfl rfl dX5_rightsOut_30 ?_
      refine zC_w0 hw hp rfl zf_X5_107 dX5_rightsOut_31 ?_
      refine z_icmp_ne 53 dX5_rightsOut_34 rfl (fun c34 => ?_) (fun c34 => ?_)
      · refine z_iincN (n := 1) 3 rfl rfl dX5_rightsOut_53 ?_
        refine z_goto 4 dX5_rightsOut_56 rfl ?_
        first | exact ih (by assumption) _ (by rw [sCnt, if_pos (And.intro c34 hz), hc]) | exact ih (by assumption) _ (by rw [sCnt, if_neg (fun q => by rw [hz] at q; exact absurd q.2 (by decide)), hc]; rfl) | exact ih (by assumption) _ (by rw [sCnt, if_neg (fun q => c34 q.1), hc]; rfl)
      · refine z_aload_n 0 rfl rfl dX5_rightsOut_37 ?_
        refine zC_S7 hp rfl zf_X5_43 dX5_rightsOut_38 ?_
        refine z_iload_n 3 rfl rfl dX5_rightsOut_41 ?_
        refine zC_a6 hp (by omega) dX5_rightsOut_42 ?_
        refine zC_R4 hp (by omega) rfl zf_X5_182 dX5_rightsOut_43 ?_
        refine z_iconst (nI 2) dX5_rightsOut_46 rfl ?_
        refine z_icmp_gt 53 dX5_rightsOut_47 rfl (fun c47 => ?_) (fun c47 => ?_)
        · have hz : zIn (v (147 + 7 * i + 3)) (nI 0) (nI 2) = false := by unfold zIn; rw [decide_eq_false (i_not_le.mpr c47), Bool.and_false]
          refine z_iincN (n := 1) 3 rfl rfl dX5_rightsOut_53 ?_
          refine z_goto 4 dX5_rightsOut_56 rfl ?_
          first | exact ih (by assumption) _ (by rw [sCnt, if_pos (And.intro c34 hz), hc]) | exact ih (by assumption) _ (by rw [sCnt, if_neg (fun q => by rw [hz] at q; exact absurd q.2 (by decide)), hc]; rfl) | exact ih (by assumption) _ (by rw [sCnt, if_neg (fun q => c34 q.1), hc]; rfl)
        · obtain ⟨⟨s, hs5, es⟩, -⟩ := hH.2.2.2.2.1 i (by assumption)
          have hz : zIn (v (147 + 7 * i + 3)) (nI 0) (nI 2) = true := by unfold zIn; rw [decide_eq_true (i_not_lt.mp c47), decide_eq_true (by rw [es]; exact nI_pos' (by omega) : nI 0 ≤ v (147 + 7 * i + 3))]; rfl
          refine z_iincN (n := 1) 2 rfl rfl dX5_rightsOut_50 ?_
          refine z_iincN (n := 1) 3 rfl rfl dX5_rightsOut_53 ?_
          refine z_goto 4 dX5_rightsOut_56 rfl ?_
          first | exact ih (by assumption) _ (by rw [sCnt, if_pos (And.intro c34 hz), hc]) | exact ih (by assumption) _ (by rw [sCnt, if_neg (fun q => by rw [hz] at q; exact absurd q.2 (by decide)), hc]; rfl) | exact ih (by assumption) _ (by rw [sCnt, if_neg (fun q => c34 q.1), hc]; rfl)
set_option maxRecDepth 4000 in
theorem c_X5_rightsOut {l : Launch} {G : zG} {B : Nat → Nat} {m0 mm : zM} {v : Nat → Int32} (hp : zCV G B m0 v mm) (w d : Nat) (hw : zRw G B m0 v w d) (hH : zH v) : zSem l G (yX5_rightsOut, cX5_rightsOut, 4, (some .int)) 1 [.ref (B 0), .ref w] mm (some (.int (nI (sOut v d)))) (fun m' => m' = mm) := by
  refine z_met [some (.ref (B 0)), some (.ref w), none, none] rfl (zc1 (by rfl)) (Nat.le_of_ble_eq_true rfl) rfl ?_
  refine z_iconst (nI 0) dX5_rightsOut_0 rfl ?_
  refine z_istore_n 2 rfl (Nat.le_of_ble_eq_true rfl) rfl dX5_rightsOut_1 ?_
  refine z_iconst (nI 0) dX5_rightsOut_2 rfl ?_
  refine z_istore_n 3 rfl (Nat.le_of_ble_eq_true rfl) rfl dX5_rightsOut_3 ?_
  exact l_X5_rightsOut hp w d hw hH 0 (Nat.zero_le _) 0 rfl
theorem zIn_self {x s : Int32} : zIn x s s = true ↔ x = s := by
  unfold zIn
  rw [Bool.and_eq_true, decide_eq_true_eq, decide_eq_true_eq]
  exact ⟨fun h => Int32.le_antisymm h.2 h.1, fun h => by subst h; exact ⟨Int32.le_refl _, Int32.le_refl _⟩⟩
set_option maxRecDepth 4000 in
theorem l_X5_rightsIn {l : Launch} {G : zG} {B : Nat → Nat} {m0 mm : zM} {v : Nat → Int32} (hp : zCV G B m0 v mm) (w d : Nat) (s : Int32) (hw : zRw G B m0 v w d) (hJ : zJ2 v) : ∀ i, i ≤ nR v → ∀ (cnt : Nat) (hc : cnt = sCnt v d s s i), zV l G (yX5_rightsIn, cX5_rightsIn, 5, (some .int)) 1 (some (.int (nI (sOf v d s s)))) (fun m' => m' = mm) 5 [some (.ref (B 0)), some (.ref w), some (.int s), some (.int (nI cnt)), some (.int (nI i))] [] mm := by
  refine z_loop (nR v) (fun i hi ih cnt hc => ?_)
  have hJ2 := hJ.2
  refine z_iload 4 rfl dX5_rightsIn_5 ?_
  refine z_aload_n 0 rfl rfl dX5_rightsIn_7 ?_
  refine zC_S6 hp rfl zf_X5_76 dX5_rightsIn_8 ?_
  rw [hJ.1]
  refine z_icmp_ge 64 dX5_rightsIn_11 rfl (fun c11 => ?_) (fun c11 => ?_)
  · have e : i = nR v := by have := (nI_leI (by omega) (by omega)).mp c11; omega
    subst e
    refine z_iload_n 3 rfl rfl dX5_rightsIn_64 ?_
    exact z_iret dX5_rightsIn_65 (by rw [hc]; rfl) rfl
  · have hl : i < nR v := Nat.lt_of_not_le (fun q => c11 ((nI_leI (by omega) (by omega)).mpr (by omega)))
    refine z_iload 4 rfl dX5_rightsIn_14 ?_
    refine z_aload_n 0 rfl rfl dX5_rightsIn_16 ?_
    refine zC_S7 hp rfl zf_X5_43 dX5_rightsIn_17 ?_
    refine zC_a6l hp dX5_rightsIn_20 ?_
    refine z_icmp_ge 64 dX5_rightsIn_21 rfl (fun c21 => ?_) (fun c21 => ?_)
    · exact absurd ((nI_leI (by omega) (by omega)).mp c21) (by omega)
    · refine z_aload_n 0 rfl rfl dX5_rightsIn_24 ?_
      refine zC_S7 hp rfl zf_X5_43 dX5_rightsIn_25 ?_
      refine z_iload 4 rfl dX5_rightsIn_28 ?_
      refine zC_a6 hp (by omega) dX5_rightsIn_30 ?_
      refine zC_R1 hp (by omega) rfl zf_X5_172 dX5_rightsIn_31 ?_
      refine z_aload_n 1 rfl rfl dX5_rightsIn_34 ?_
      refine zC_w0 hw hp rfl zf_X5_107 dX5_rightsIn_35 ?_
      refine z_icmp_ne 58 dX5_rightsIn_38 rfl (fun c38 => ?_) (fun c38 => ?_)
      · refine z_iincN (n := 1) 4 rfl rfl dX5_rightsIn_58 ?_
        refine z_goto 5 dX5_rightsIn_61 rfl ?_
        first | exact ih (by assumption) _ (by rw [sCnt, if_pos (And.intro c38 (zIn_self.mpr c52)), hc]) | exact ih (by assumption) _ (by rw [sCnt, if_neg (fun q => c38 q.1), hc]; rfl) | exact ih (by assumption) _ (by rw [sCnt, if_neg (fun q => c52 (zIn_self.mp q.2)), hc]; rfl)
      · refine z_aload_n 0 rfl rfl dX5_rightsIn_41 ?_
        refine zC_S7 hp rfl zf_X5_43 dX5_rightsIn_42 ?_
        refine z_iload 4 rfl dX5_rightsIn_45 ?_
        refine zC_a6 hp (by omega) dX5_rightsIn_47 ?_
        refine zC_R4 hp (by omega) rfl zf_X5_182 dX5_rightsIn_48 ?_
        refine z_iload_n 2 rfl rfl dX5_rightsIn_51 ?_
        refine z_icmp_ne 58 dX5_rightsIn_52 rfl (fun c52 => ?_) (fun c52 => ?_)
        · refine z_iincN (n := 1) 4 rfl rfl dX5_rightsIn_58 ?_
          refine z_goto 5 dX5_rightsIn_61 rfl ?_
          first | exact ih (by assumption) _ (by rw [sCnt, if_pos (And.intro c38 (zIn_self.mpr c52)), hc]) | exact ih (by assumption) _ (by rw [sCnt, if_neg (fun q => c38 q.1), hc]; rfl) | exact ih (by assumption) _ (by rw [sCnt, if_neg (fun q => c52 (zIn_self.mp q.2)), hc]; rfl)
        · refine z_iincN (n := 1) 3 rfl rfl dX5_rightsIn_55 ?_
          refine z_iincN (n := 1) 4 rfl rfl dX5_rightsIn_58 ?_
          refine z_goto 5 dX5_rightsIn_61 rfl ?_
          first | exact ih (by assumption) _ (by rw [sCnt, if_pos (And.intro c38 (zIn_self.mpr c52)), hc]) | exact ih (by assumption) _ (by rw [sCnt, if_neg (fun q => c38 q.1), hc]; rfl) | exact ih (by assumption) _ (by rw [sCnt, if_neg (fun q => c52 (zIn_self.mp q.2)), hc]; rfl)
set_option maxRecDepth 4000 in
theorem c_X5_rightsIn {l : Launch} {G : zG} {B : Nat → Nat} {m0 mm : zM} {v : Nat → Int32} (hp : zCV G B m0 v mm) (w d : Nat) (s : Int32) (hw : zRw G B m0 v w d) (hJ : zJ2 v) : zSem l G (yX5_rightsIn, cX5_rightsIn, 5, (some .int)) 1 [.ref (B 0), .ref w, .int s] mm (some (.int (nI (sOf v d s s)))) (fun m' => m' = mm) := by
  refine z_met [some (.ref (B 0)), some (.ref w), some (.int s), none, none] rfl (zc1 (by rfl)) (Nat.le_of_ble_eq_true rfl) rfl ?_
  refine z_iconst (nI 0) dX5_rightsIn_0 rfl ?_
  refine z_istore_n 3 rfl (Nat.le_of_ble_eq_true rfl) rfl dX5_rightsIn_1 ?_
  refine z_iconst (nI 0) dX5_rightsIn_2 rfl ?_
  refine z_istore 4 (Nat.le_of_ble_eq_true rfl) rfl dX5_rightsIn_3 ?_
  exact l_X5_rightsIn hp w d s hw hJ 0 (Nat.zero_le _) 0 rfl
set_option maxRecDepth 4000 in
theorem l_X5_rightsInAll {l : Launch} {G : zG} {B : Nat → Nat} {m0 mm : zM} {v : Nat → Int32} (hp : zCV G B m0 v mm) (s : Int32) (hJ : zJ2 v) : ∀ i, i ≤ nR v → ∀ (cnt : Nat) (hc : cnt = sCs v s i), zV l G (yX5_rightsInAll, cX5_rightsInAll, 4, (some .int)) 1 (some (.int (nI (sCs v s (nR v))))) (fun m' => m' = mm) 4 [some (.ref (B 0)), some (.int s), some (.int (nI cnt)), some (.int (nI i))] [] mm := by
  refine z_loop (nR v) (fun i hi ih cnt hc => ?_)
  have hJ2 := hJ.2
  refine z_iload_n 3 rfl rfl dX5_rightsInAll_4 ?_
  refine z_aload_n 0 rfl rfl dX5_rightsInAll_5 ?_
  refine zC_S6 hp rfl zf_X5_76 dX5_rightsInAll_6 ?_
  rw [hJ.1]
  refine z_icmp_ge 43 dX5_rightsInAll_9 rfl (fun c9 => ?_) (fun c9 => ?_)
  · have e : i = nR v := by have := (nI_leI (by omega) (by omega)).mp c9; omega
    subst e
    refine z_iload_n 2 rfl rfl dX5_rightsInAll_43 ?_
    exact z_iret dX5_rightsInAll_44 (by rw [hc]) rfl
  · have hl : i < nR v := Nat.lt_of_not_le (fun q => c9 ((nI_leI (by omega) (by omega)).mpr (by omega)))
    refine z_iload_n 3 rfl rfl dX5_rightsInAll_12 ?_
    refine z_aload_n 0 rfl rfl dX5_rightsInAll_13 ?_
    refine zC_S7 hp rfl zf_X5_43 dX5_rightsInAll_14 ?_
    refine zC_a6l hp dX5_rightsInAll_17 ?_
    refine z_icmp_ge 43 dX5_rightsInAll_18 rfl (fun c18 => ?_) (fun c18 => ?_)
    · exact absurd ((nI_leI (by omega) (by omega)).mp c18) (by omega)
    · refine z_aload_n 0 rfl rfl dX5_rightsInAll_21 ?_
      refine zC_S7 hp rfl zf_X5_43 dX5_rightsInAll_22 ?_
      refine z_iload_n 3 rfl rfl dX5_rightsInAll_25 ?_
      refine zC_a6 hp (by omega) dX5_rightsInAll_26 ?_
      refine zC_R4 hp (by omega) rfl zf_X5_182 dX5_rightsInAll_27 ?_
      refine z_iload_n 1 rfl rfl dX5_rightsInAll_30 ?_
      refine z_icmp_ne 37 dX5_rightsInAll_31 rfl (fun c31 => ?_) (fun c31 => ?_)
      · refine z_iincN (n := 1) 3 rfl rfl dX5_rightsInAll_37 ?_
        refine z_goto 4 dX5_rightsInAll_40 rfl ?_
        first | exact ih (by assumption) _ (by rw [sCs, if_pos c31, hc]) | exact ih (by assumption) _ (by rw [sCs, if_neg c31, hc]; rfl)
      · refine z_iincN (n := 1) 2 rfl rfl dX5_rightsInAll_34 ?_
        refine z_iincN (n := 1) 3 rfl rfl dX5_rightsInAll_37 ?_
        refine z_goto 4 dX5_rightsInAll_40 rfl ?_
        first | exact ih (by assumption) _ (by rw [sCs, if_pos c31, hc]) | exact ih (by assumption) _ (by rw [sCs, if_neg c31, hc]; rfl)
set_option maxRecDepth 4000 in
theorem c_X5_rightsInAll {l : Launch} {G : zG} {B : Nat → Nat} {m0 mm : zM} {v : Nat → Int32} (hp : zCV G B m0 v mm) (s : Int32) (hJ : zJ2 v) : zSem l G (yX5_rightsInAll, cX5_rightsInAll, 4, (some .int)) 1 [.ref (B 0), .int s] mm (some (.int (nI (sCs v s (nR v))))) (fun m' => m' = mm) := by
  refine z_met [some (.ref (B 0)), some (.int s), none, none] rfl (zc1 (by rfl)) (Nat.le_of_ble_eq_true rfl) rfl ?_
  refine z_iconst (nI 0) dX5_rightsInAll_0 rfl ?_
  refine z_istore_n 2 rfl (Nat.le_of_ble_eq_true rfl) rfl dX5_rightsInAll_1 ?_
  refine z_iconst (nI 0) dX5_rightsInAll_2 rfl ?_
  refine z_istore_n 3 rfl (Nat.le_of_ble_eq_true rfl) rfl dX5_rightsInAll_3 ?_
  exact l_X5_rightsInAll hp s hJ 0 (Nat.zero_le _) 0 rfl
def kHs (v : Nat → Int32) (h s : Int32) : Nat → Nat
  | 0 => 0
  | n + 1 => kHs v h s n + if v (147 + 7 * n + 1) = h ∧ v (147 + 7 * n + 3) = s then 1 else 0
set_option maxRecDepth 4000 in
theorem l_X5_rightsOfHolder {l : Launch} {G : zG} {B : Nat → Nat} {m0 mm : zM} {v : Nat → Int32} (hp : zCV G B m0 v mm) (h s : Int32) (hJ : zJ2 v) : ∀ i, i ≤ nR v → ∀ (cnt : Nat) (hc : cnt = kHs v h s i), zV l G (yX5_rightsOfHolder, cX5_rightsOfHolder, 5, (some .int)) 1 (some (.int (nI (kHs v h s (nR v))))) (fun m' => m' = mm) 5 [some (.ref (B 0)), some (.int h), some (.int s), some (.int (nI cnt)), some (.int (nI i))] [] mm := by
  refine z_loop (nR v) (fun i hi ih cnt hc => ?_)
  have hJ2 := hJ.2
  refine z_iload 4 rfl dX5_rightsOfHolder_5 ?_
  refine z_aload_n 0 rfl rfl dX5_rightsOfHolder_7 ?_
  refine zC_S6 hp rfl zf_X5_76 dX5_rightsOfHolder_8 ?_
  rw [hJ.1]
  refine z_icmp_ge 61 dX5_rightsOfHolder_11 rfl (fun c11 => ?_) (fun c11 => ?_)
  · have e : i = nR v := by have := (nI_leI (by omega) (by omega)).mp c11; omega
    subst e
    refine z_iload_n 3 rfl rfl dX5_rightsOfHolder_61 ?_
    exact z_iret dX5_rightsOfHolder_62 (by rw [hc]) rfl
  · have hl : i < nR v := Nat.lt_of_not_le (fun q => c11 ((nI_leI (by omega) (by omega)).mpr (by omega)))
    refine z_iload 4 rfl dX5_rightsOfHolder_14 ?_
    refine z_aload_n 0 rfl rfl dX5_rightsOfHolder_16 ?_
    refine zC_S7 hp rfl zf_X5_43 dX5_rightsOfHolder_17 ?_
    refine zC_a6l hp dX5_rightsOfHolder_20 ?_
    refine z_icmp_ge 61 dX5_rightsOfHolder_21 rfl (fun c21 => ?_) (fun c21 => ?_)
    · exact absurd ((nI_leI (by omega) (by omega)).mp c21) (by omega)
    · refine z_aload_n 0 rfl rfl dX5_rightsOfHolder_24 ?_
      refine zC_S7 hp rfl zf_X5_43 dX5_rightsOfHolder_25 ?_
      refine z_iload 4 rfl dX5_rightsOfHolder_28 ?_
      refine zC_a6 hp (by omega) dX5_rightsOfHolder_30 ?_
      refine zC_R2 hp (by omega) rfl zf_X5_143 dX5_rightsOfHolder_31 ?_
      refine z_iload_n 1 rfl rfl dX5_rightsOfHolder_34 ?_
      refine z_icmp_ne 55 dX5_rightsOfHolder_35 rfl (fun c35 => ?_) (fun c35 => ?_)
      · refine z_iincN (n := 1) 4 rfl rfl dX5_rightsOfHolder_55 ?_
        refine z_goto 5 dX5_rightsOfHolder_58 rfl ?_
        first | exact ih (by assumption) _ (by rw [kHs, if_pos (And.intro c35 c49), hc]) | exact ih (by assumption) _ (by rw [kHs, if_neg (fun q => c35 q.1), hc]; rfl) | exact ih (by assumption) _ (by rw [kHs, if_neg (fun q => c49 q.2), hc]; rfl)
      · refine z_aload_n 0 rfl rfl dX5_rightsOfHolder_38 ?_
        refine zC_S7 hp rfl zf_X5_43 dX5_rightsOfHolder_39 ?_
        refine z_iload 4 rfl dX5_rightsOfHolder_42 ?_
        refine zC_a6 hp (by omega) dX5_rightsOfHolder_44 ?_
        refine zC_R4 hp (by omega) rfl zf_X5_182 dX5_rightsOfHolder_45 ?_
        refine z_iload_n 2 rfl rfl dX5_rightsOfHolder_48 ?_
        refine z_icmp_ne 55 dX5_rightsOfHolder_49 rfl (fun c49 => ?_) (fun c49 => ?_)
        · refine z_iincN (n := 1) 4 rfl rfl dX5_rightsOfHolder_55 ?_
          refine z_goto 5 dX5_rightsOfHolder_58 rfl ?_
          first | exact ih (by assumption) _ (by rw [kHs, if_pos (And.intro c35 c49), hc]) | exact ih (by assumption) _ (by rw [kHs, if_neg (fun q => c35 q.1), hc]; rfl) | exact ih (by assumption) _ (by rw [kHs, if_neg (fun q => c49 q.2), hc]; rfl)
        · refine z_iincN (n := 1) 3 rfl rfl dX5_rightsOfHolder_52 ?_
          refine z_iincN (n := 1) 4 rfl rfl dX5_rightsOfHolder_55 ?_
          refine z_goto 5 dX5_rightsOfHolder_58 rfl ?_
          first | exact ih (by assumption) _ (by rw [kHs, if_pos (And.intro c35 c49), hc]) | exact ih (by assumption) _ (by rw [kHs, if_neg (fun q => c35 q.1), hc]; rfl) | exact ih (by assumption) _ (by rw [kHs, if_neg (fun q => c49 q.2), hc]; rfl)
set_option maxRecDepth 4000 in
theorem c_X5_rightsOfHolder {l : Launch} {G : zG} {B : Nat → Nat} {m0 mm : zM} {v : Nat → Int32} (hp : zCV G B m0 v mm) (h s : Int32) (hJ : zJ2 v) : zSem l G (yX5_rightsOfHolder, cX5_rightsOfHolder, 5, (some .int)) 1 [.ref (B 0), .int h, .int s] mm (some (.int (nI (kHs v h s (nR v))))) (fun m' => m' = mm) := by
  refine z_met [some (.ref (B 0)), some (.int h), some (.int s), none, none] rfl (zc1 (by rfl)) (Nat.le_of_ble_eq_true rfl) rfl ?_
  refine z_iconst (nI 0) dX5_rightsOfHolder_0 rfl ?_
  refine z_istore_n 3 rfl (Nat.le_of_ble_eq_true rfl) rfl dX5_rightsOfHolder_1 ?_
  refine z_iconst (nI 0) dX5_rightsOfHolder_2 rfl ?_
  refine z_istore 4 (Nat.le_of_ble_eq_true rfl) rfl dX5_rightsOfHolder_3 ?_
  exact l_X5_rightsOfHolder hp h s hJ 0 (Nat.zero_le _) 0 rfl
def zRf (B : Nat → Nat) (o : Option Nat) : Value := match o with
  | none => .null
  | some r => .ref (B (30 + r))
theorem kAsk_1 {v : Nat → Int32} {r : Nat} (h : v (147 + 7 * r + 3) = nI 1) : kAsk v r = v (147 + 7 * r + 4) := if_pos h
set_option maxRecDepth 4000 in
theorem l_X5_cheapestOffered {l : Launch} {G : zG} {B : Nat → Nat} {m0 mm : zM} {v : Nat → Int32} (hp : zCV G B m0 v mm) (w d : Nat) (hw : zRw G B m0 v w d) (hJ : zJ2 v) : ∀ i, i ≤ nR v → ∀ (o : Option Nat) (ho : o = sLow v d (nI 1) 4 i) (x4 : Option Value), zV l G (yX5_cheapestOffered, cX5_cheapestOffered, 5, (some (.object "RightsDesk$RightRow"))) 1 (some (zRf B (sLow v d (nI 1) 4 (nR v)))) (fun m' => m' = mm) 4 [some (.ref (B 0)), some (.ref w), some (zRf B o), some (.int (nI i)), x4] [] mm := by
  have hJ2 := hJ.2
  refine z_loop (nR v) (fun i hi ih o ho x4 => ?_)
  rcases o with _ | b
  · show zV _ _ _ _ _ _ 4 [some (.ref (B 0)), some (.ref w), some (.null), some (.int (nI i)), x4] [] mm
    refine z_iload_n 3 rfl rfl dX5_cheapestOffered_4 ?_
    refine z_aload_n 0 rfl rfl dX5_cheapestOffered_5 ?_
    refine zC_S6 hp rfl zf_X5_76 dX5_cheapestOffered_6 ?_
    rw [hJ.1]
    refine z_icmp_ge 75 dX5_cheapestOffered_9 rfl (fun c9 => ?_) (fun c9 => ?_)
    · have e : i = nR v := by have := (nI_leI (by omega) (by omega)).mp c9; omega
      subst e
      refine z_aload_nN 2 rfl rfl dX5_cheapestOffered_75 ?_
      exact z_aret dX5_cheapestOffered_76 (Or.inl rfl) (by rw [← ho]; rfl) rfl
    · have hl : i < nR v := Nat.lt_of_not_le (fun q => c9 ((nI_leI (by omega) (by omega)).mpr (by omega)))
      refine z_iload_n 3 rfl rfl dX5_cheapestOffered_12 ?_
      refine z_aload_n 0 rfl rfl dX5_cheapestOffered_13 ?_
      refine zC_S7 hp rfl zf_X5_43 dX5_cheapestOffered_14 ?_
      refine zC_a6l hp dX5_cheapestOffered_17 ?_
      refine z_icmp_ge 75 dX5_cheapestOffered_18 rfl (fun c18 => ?_) (fun c18 => ?_)
      · exact absurd ((nI_leI (by omega) (by omega)).mp c18) (by omega)
      · refine z_aload_n 0 rfl rfl dX5_cheapestOffered_21 ?_
        refine zC_S7 hp rfl zf_X5_43 dX5_cheapestOffered_22 ?_
        refine z_iload_n 3 rfl rfl dX5_cheapestOffered_25 ?_
        refine zC_a6 hp (by omega) dX5_cheapestOffered_26 ?_
        refine z_astore 4 (Nat.le_of_ble_eq_true rfl) rfl dX5_cheapestOffered_27 ?_
        refine z_aload 4 rfl dX5_cheapestOffered_29 ?_
        refine zC_R1 hp (by omega) rfl zf_X5_172 dX5_cheapestOffered_31 ?_
        refine z_aload_n 1 rfl rfl dX5_cheapestOffered_34 ?_
        refine zC_w0 hw hp rfl zf_X5_107 dX5_cheapestOffered_35 ?_
        refine z_icmp_ne 69 dX5_cheapestOffered_38 rfl (fun c38 => ?_) (fun c38 => ?_)
        · refine z_iincN (n := 1) 3 rfl rfl dX5_cheapestOffered_69 ?_
          refine z_goto 4 dX5_cheapestOffered_72 rfl ?_
          first | exact ih (by assumption) none (l_X7_lowest_a ho (fun q => c38 q.1)) _ | exact ih (by assumption) none (l_X7_lowest_a ho (fun q => c47 q.2)) _ | exact ih (by assumption) (some i) (by rw [sLow, if_pos (And.intro c38 c47), ← ho]) _
        · refine z_aload 4 rfl dX5_cheapestOffered_41 ?_
          refine zC_R4 hp (by omega) rfl zf_X5_182 dX5_cheapestOffered_43 ?_
          refine z_iconst (nI 1) dX5_cheapestOffered_46 rfl ?_
          refine z_icmp_ne 69 dX5_cheapestOffered_47 rfl (fun c47 => ?_) (fun c47 => ?_)
          · refine z_iincN (n := 1) 3 rfl rfl dX5_cheapestOffered_69 ?_
            refine z_goto 4 dX5_cheapestOffered_72 rfl ?_
            first | exact ih (by assumption) none (l_X7_lowest_a ho (fun q => c38 q.1)) _ | exact ih (by assumption) none (l_X7_lowest_a ho (fun q => c47 q.2)) _ | exact ih (by assumption) (some i) (by rw [sLow, if_pos (And.intro c38 c47), ← ho]) _
          · refine z_aload_nN 2 rfl rfl dX5_cheapestOffered_50 ?_
            refine z_ifnullN 66 dX5_cheapestOffered_51 rfl ?_
            refine z_aload 4 rfl dX5_cheapestOffered_66 ?_
            refine z_astore_n 2 rfl (Nat.le_of_ble_eq_true rfl) rfl dX5_cheapestOffered_68 ?_
            refine z_iincN (n := 1) 3 rfl rfl dX5_cheapestOffered_69 ?_
            refine z_goto 4 dX5_cheapestOffered_72 rfl ?_
            first | exact ih (by assumption) none (l_X7_lowest_a ho (fun q => c38 q.1)) _ | exact ih (by assumption) none (l_X7_lowest_a ho (fun q => c47 q.2)) _ | exact ih (by assumption) (some i) (by rw [sLow, if_pos (And.intro c38 c47), ← ho]) _
  · show zV _ _ _ _ _ _ 4 [some (.ref (B 0)), some (.ref w), some (.ref (B (30 + b))), some (.int (nI i)), x4] [] mm
    obtain ⟨hb, -, hb1⟩ := sLow_spec ho.symm
    refine z_iload_n 3 rfl rfl dX5_cheapestOffered_4 ?_
    refine z_aload_n 0 rfl rfl dX5_cheapestOffered_5 ?_
    refine zC_S6 hp rfl zf_X5_76 dX5_cheapestOffered_6 ?_
    rw [hJ.1]
    refine z_icmp_ge 75 dX5_cheapestOffered_9 rfl (fun c9 => ?_) (fun c9 => ?_)
    · have e : i = nR v := by have := (nI_leI (by omega) (by omega)).mp c9; omega
      subst e
      refine z_aload_n 2 rfl rfl dX5_cheapestOffered_75 ?_
      exact z_aret dX5_cheapestOffered_76 (Or.inr ⟨_, rfl⟩) (by rw [← ho]; rfl) rfl
    · have hl : i < nR v := Nat.lt_of_not_le (fun q => c9 ((nI_leI (by omega) (by omega)).mpr (by omega)))
      refine z_iload_n 3 rfl rfl dX5_cheapestOffered_12 ?_
      refine z_aload_n 0 rfl rfl dX5_cheapestOffered_13 ?_
      refine zC_S7 hp rfl zf_X5_43 dX5_cheapestOffered_14 ?_
      refine zC_a6l hp dX5_cheapestOffered_17 ?_
      refine z_icmp_ge 75 dX5_cheapestOffered_18 rfl (fun c18 => ?_) (fun c18 => ?_)
      · exact absurd ((nI_leI (by omega) (by omega)).mp c18) (by omega)
      · refine z_aload_n 0 rfl rfl dX5_cheapestOffered_21 ?_
        refine zC_S7 hp rfl zf_X5_43 dX5_cheapestOffered_22 ?_
        refine z_iload_n 3 rfl rfl dX5_cheapestOffered_25 ?_
        refine zC_a6 hp (by omega) dX5_cheapestOffered_26 ?_
        refine z_astore 4 (Nat.le_of_ble_eq_true rfl) rfl dX5_cheapestOffered_27 ?_
        refine z_aload 4 rfl dX5_cheapestOffered_29 ?_
        refine zC_R1 hp (by omega) rfl zf_X5_172 dX5_cheapestOffered_31 ?_
        refine z_aload_n 1 rfl rfl dX5_cheapestOffered_34 ?_
        refine zC_w0 hw hp rfl zf_X5_107 dX5_cheapestOffered_35 ?_
        refine z_icmp_ne 69 dX5_cheapestOffered_38 rfl (fun c38 => ?_) (fun c38 => ?_)
        · refine z_iincN (n := 1) 3 rfl rfl dX5_cheapestOffered_69 ?_
          refine z_goto 4 dX5_cheapestOffered_72 rfl ?_
          first | exact ih (by assumption) (some b) (l_X7_lowest_a ho (fun q => c38 q.1)) _ | exact ih (by assumption) (some b) (l_X7_lowest_a ho (fun q => c47 q.2)) _ | exact ih (by assumption) (some i) (by rw [sLow, if_pos (And.intro c38 c47), ← ho]; simp only []; rw [if_pos (i_not_le.mp c63)]) _ | exact ih (by assumption) (some b) (by rw [sLow, if_pos (And.intro c38 c47), ← ho]; simp only []; rw [if_neg (i_not_lt.mpr c63)]) _
        · refine z_aload 4 rfl dX5_cheapestOffered_41 ?_
          refine zC_R4 hp (by omega) rfl zf_X5_182 dX5_cheapestOffered_43 ?_
          refine z_iconst (nI 1) dX5_cheapestOffered_46 rfl ?_
          refine z_icmp_ne 69 dX5_cheapestOffered_47 rfl (fun c47 => ?_) (fun c47 => ?_)
          · refine z_iincN (n := 1) 3 rfl rfl dX5_cheapestOffered_69 ?_
            refine z_goto 4 dX5_cheapestOffered_72 rfl ?_
            first | exact ih (by assumption) (some b) (l_X7_lowest_a ho (fun q => c38 q.1)) _ | exact ih (by assumption) (some b) (l_X7_lowest_a ho (fun q => c47 q.2)) _ | exact ih (by assumption) (some i) (by rw [sLow, if_pos (And.intro c38 c47), ← ho]; simp only []; rw [if_pos (i_not_le.mp c63)]) _ | exact ih (by assumption) (some b) (by rw [sLow, if_pos (And.intro c38 c47), ← ho]; simp only []; rw [if_neg (i_not_lt.mpr c63)]) _
          · refine z_aload_n 2 rfl rfl dX5_cheapestOffered_50 ?_
            refine z_ifnull dX5_cheapestOffered_51 ?_
            refine z_aload 4 rfl dX5_cheapestOffered_54 ?_
            refine zC_R5 hp (by omega) rfl zf_X5_146 dX5_cheapestOffered_56 ?_
            rw [kAsk_1 c47]
            refine z_aload_n 2 rfl rfl dX5_cheapestOffered_59 ?_
            refine zC_R5 hp (by omega) rfl zf_X5_146 dX5_cheapestOffered_60 ?_
            rw [kAsk_1 hb1]
            refine z_icmp_ge 69 dX5_cheapestOffered_63 rfl (fun c63 => ?_) (fun c63 => ?_)
            · refine z_iincN (n := 1) 3 rfl rfl dX5_cheapestOffered_69 ?_
              refine z_goto 4 dX5_cheapestOffered_72 rfl ?_
              first | exact ih (by assumption) (some b) (l_X7_lowest_a ho (fun q => c38 q.1)) _ | exact ih (by assumption) (some b) (l_X7_lowest_a ho (fun q => c47 q.2)) _ | exact ih (by assumption) (some i) (by rw [sLow, if_pos (And.intro c38 c47), ← ho]; simp only []; rw [if_pos (i_not_le.mp c63)]) _ | exact ih (by assumption) (some b) (by rw [sLow, if_pos (And.intro c38 c47), ← ho]; simp only []; rw [if_neg (i_not_lt.mpr c63)]) _
            · refine z_aload 4 rfl dX5_cheapestOffered_66 ?_
              refine z_astore_n 2 rfl (Nat.le_of_ble_eq_true rfl) rfl dX5_cheapestOffered_68 ?_
              refine z_iincN (n := 1) 3 rfl rfl dX5_cheapestOffered_69 ?_
              refine z_goto 4 dX5_cheapestOffered_72 rfl ?_
              first | exact ih (by assumption) (some b) (l_X7_lowest_a ho (fun q => c38 q.1)) _ | exact ih (by assumption) (some b) (l_X7_lowest_a ho (fun q => c47 q.2)) _ | exact ih (by assumption) (some i) (by rw [sLow, if_pos (And.intro c38 c47), ← ho]; simp only []; rw [if_pos (i_not_le.mp c63)]) _ | exact ih (by assumption) (some b) (by rw [sLow, if_pos (And.intro c38 c47), ← ho]; simp only []; rw [if_neg (i_not_lt.mpr c63)]) _
set_option maxRecDepth 4000 in
theorem c_X5_cheapestOffered {l : Launch} {G : zG} {B : Nat → Nat} {m0 mm : zM} {v : Nat → Int32} (hp : zCV G B m0 v mm) (w d : Nat) (hw : zRw G B m0 v w d) (hJ : zJ2 v) : zSem l G (yX5_cheapestOffered, cX5_cheapestOffered, 5, (some (.object "RightsDesk$RightRow"))) 1 [.ref (B 0), .ref w] mm (some (zRf B (sLow v d (nI 1) 4 (nR v)))) (fun m' => m' = mm) := by
  refine z_met [some (.ref (B 0)), some (.ref w), none, none, none] rfl (zc1 (by rfl)) (Nat.le_of_ble_eq_true rfl) rfl ?_
  refine z_null dX5_cheapestOffered_0 ?_
  refine z_astore_nN 2 rfl (Nat.le_of_ble_eq_true rfl) rfl dX5_cheapestOffered_1 ?_
  refine z_iconst (nI 0) dX5_cheapestOffered_2 rfl ?_
  refine z_istore_n 3 rfl (Nat.le_of_ble_eq_true rfl) rfl dX5_cheapestOffered_3 ?_
  exact l_X5_cheapestOffered hp w d hw hJ 0 (Nat.zero_le _) none rfl _
set_option maxRecDepth 4000 in
theorem l_X5_cheapestHeld {l : Launch} {G : zG} {B : Nat → Nat} {m0 mm : zM} {v : Nat → Int32} (hp : zCV G B m0 v mm) (w d : Nat) (hw : zRw G B m0 v w d) (hJ : zJ2 v) : ∀ i, i ≤ nR v → ∀ (o : Option Nat) (ho : o = sLow v d (nI 0) 2 i) (x4 : Option Value), zV l G (yX5_cheapestHeld, cX5_cheapestHeld, 5, (some (.object "RightsDesk$RightRow"))) 1 (some (zRf B (sLow v d (nI 0) 2 (nR v)))) (fun m' => m' = mm) 4 [some (.ref (B 0)), some (.ref w), some (zRf B o), some (.int (nI i)), x4] [] mm := by
  have hJ2 := hJ.2
  refine z_loop (nR v) (fun i hi ih o ho x4 => ?_)
  rcases o with _ | b
  · show zV _ _ _ _ _ _ 4 [some (.ref (B 0)), some (.ref w), some (.null), some (.int (nI i)), x4] [] mm
    refine z_iload_n 3 rfl rfl dX5_cheapestHeld_4 ?_
    refine z_aload_n 0 rfl rfl dX5_cheapestHeld_5 ?_
    refine zC_S6 hp rfl zf_X5_76 dX5_cheapestHeld_6 ?_
    rw [hJ.1]
    refine z_icmp_ge 74 dX5_cheapestHeld_9 rfl (fun c9 => ?_) (fun c9 => ?_)
    · have e : i = nR v := by have := (nI_leI (by omega) (by omega)).mp c9; omega
      subst e
      refine z_aload_nN 2 rfl rfl dX5_cheapestHeld_74 ?_
      exact z_aret dX5_cheapestHeld_75 (Or.inl rfl) (by rw [← ho]; rfl) rfl
    · have hl : i < nR v := Nat.lt_of_not_le (fun q => c9 ((nI_leI (by omega) (by omega)).mpr (by omega)))
      refine z_iload_n 3 rfl rfl dX5_cheapestHeld_12 ?_
      refine z_aload_n 0 rfl rfl dX5_cheapestHeld_13 ?_
      refine zC_S7 hp rfl zf_X5_43 dX5_cheapestHeld_14 ?_
      refine zC_a6l hp dX5_cheapestHeld_17 ?_
      refine z_icmp_ge 74 dX5_cheapestHeld_18 rfl (fun c18 => ?_) (fun c18 => ?_)
      · exact absurd ((nI_leI (by omega) (by omega)).mp c18) (by omega)
      · refine z_aload_n 0 rfl rfl dX5_cheapestHeld_21 ?_
        refine zC_S7 hp rfl zf_X5_43 dX5_cheapestHeld_22 ?_
        refine z_iload_n 3 rfl rfl dX5_cheapestHeld_25 ?_
        refine zC_a6 hp (by omega) dX5_cheapestHeld_26 ?_
        refine z_astore 4 (Nat.le_of_ble_eq_true rfl) rfl dX5_cheapestHeld_27 ?_
        refine z_aload 4 rfl dX5_cheapestHeld_29 ?_
        refine zC_R1 hp (by omega) rfl zf_X5_172 dX5_cheapestHeld_31 ?_
        refine z_aload_n 1 rfl rfl dX5_cheapestHeld_34 ?_
        refine zC_w0 hw hp rfl zf_X5_107 dX5_cheapestHeld_35 ?_
        refine z_icmp_ne 68 dX5_cheapestHeld_38 rfl (fun c38 => ?_) (fun c38 => ?_)
        · refine z_iincN (n := 1) 3 rfl rfl dX5_cheapestHeld_68 ?_
          refine z_goto 4 dX5_cheapestHeld_71 rfl ?_
          first | exact ih (by assumption) none (l_X7_lowest_a ho (fun q => c38 q.1)) _ | exact ih (by assumption) none (l_X7_lowest_a ho (fun q => c46 q.2)) _ | exact ih (by assumption) (some i) (by rw [sLow, if_pos (And.intro c38 c46), ← ho]) _
        · refine z_aload 4 rfl dX5_cheapestHeld_41 ?_
          refine zC_R4 hp (by omega) rfl zf_X5_182 dX5_cheapestHeld_43 ?_
          refine z_if_ne 68 dX5_cheapestHeld_46 rfl (fun c46 => ?_) (fun c46 => ?_)
          · have c46 : ¬ v (147 + 7 * i + 3) = nI 0 := c46
            refine z_iincN (n := 1) 3 rfl rfl dX5_cheapestHeld_68 ?_
            refine z_goto 4 dX5_cheapestHeld_71 rfl ?_
            first | exact ih (by assumption) none (l_X7_lowest_a ho (fun q => c38 q.1)) _ | exact ih (by assumption) none (l_X7_lowest_a ho (fun q => c46 q.2)) _ | exact ih (by assumption) (some i) (by rw [sLow, if_pos (And.intro c38 c46), ← ho]) _
          · have c46 : v (147 + 7 * i + 3) = nI 0 := c46
            refine z_aload_nN 2 rfl rfl dX5_cheapestHeld_49 ?_
            refine z_ifnullN 65 dX5_cheapestHeld_50 rfl ?_
            refine z_aload 4 rfl dX5_cheapestHeld_65 ?_
            refine z_astore_n 2 rfl (Nat.le_of_ble_eq_true rfl) rfl dX5_cheapestHeld_67 ?_
            refine z_iincN (n := 1) 3 rfl rfl dX5_cheapestHeld_68 ?_
            refine z_goto 4 dX5_cheapestHeld_71 rfl ?_
            first | exact ih (by assumption) none (l_X7_lowest_a ho (fun q => c38 q.1)) _ | exact ih (by assumption) none (l_X7_lowest_a ho (fun q => c46 q.2)) _ | exact ih (by assumption) (some i) (by rw [sLow, if_pos (And.intro c38 c46), ← ho]) _
  · show zV _ _ _ _ _ _ 4 [some (.ref (B 0)), some (.ref w), some (.ref (B (30 + b))), some (.int (nI i)), x4] [] mm
    obtain ⟨hb, -, hb1⟩ := sLow_spec ho.symm
    refine z_iload_n 3 rfl rfl dX5_cheapestHeld_4 ?_
    refine z_aload_n 0 rfl rfl dX5_cheapestHeld_5 ?_
    refine zC_S6 hp rfl zf_X5_76 dX5_cheapestHeld_6 ?_
    rw [hJ.1]
    refine z_icmp_ge 74 dX5_cheapestHeld_9 rfl (fun c9 => ?_) (fun c9 => ?_)
    · have e : i = nR v := by have := (nI_leI (by omega) (by omega)).mp c9; omega
      subst e
      refine z_aload_n 2 rfl rfl dX5_cheapestHeld_74 ?_
      exact z_aret dX5_cheapestHeld_75 (Or.inr ⟨_, rfl⟩) (by rw [← ho]; rfl) rfl
    · have hl : i < nR v := Nat.lt_of_not_le (fun q => c9 ((nI_leI (by omega) (by omega)).mpr (by omega)))
      refine z_iload_n 3 rfl rfl dX5_cheapestHeld_12 ?_
      refine z_aload_n 0 rfl rfl dX5_cheapestHeld_13 ?_
      refine zC_S7 hp rfl zf_X5_43 dX5_cheapestHeld_14 ?_
      refine zC_a6l hp dX5_cheapestHeld_17 ?_
      refine z_icmp_ge 74 dX5_cheapestHeld_18 rfl (fun c18 => ?_) (fun c18 => ?_)
      · exact absurd ((nI_leI (by omega) (by omega)).mp c18) (by omega)
      · refine z_aload_n 0 rfl rfl dX5_cheapestHeld_21 ?_
        refine zC_S7 hp rfl zf_X5_43 dX5_cheapestHeld_22 ?_
        refine z_iload_n 3 rfl rfl dX5_cheapestHeld_25 ?_
        refine zC_a6 hp (by omega) dX5_cheapestHeld_26 ?_
        refine z_astore 4 (Nat.le_of_ble_eq_true rfl) rfl dX5_cheapestHeld_27 ?_
        refine z_aload 4 rfl dX5_cheapestHeld_29 ?_
        refine zC_R1 hp (by omega) rfl zf_X5_172 dX5_cheapestHeld_31 ?_
        refine z_aload_n 1 rfl rfl dX5_cheapestHeld_34 ?_
        refine zC_w0 hw hp rfl zf_X5_107 dX5_cheapestHeld_35 ?_
        refine z_icmp_ne 68 dX5_cheapestHeld_38 rfl (fun c38 => ?_) (fun c38 => ?_)
        · refine z_iincN (n := 1) 3 rfl rfl dX5_cheapestHeld_68 ?_
          refine z_goto 4 dX5_cheapestHeld_71 rfl ?_
          first | exact ih (by assumption) (some b) (l_X7_lowest_a ho (fun q => c38 q.1)) _ | exact ih (by assumption) (some b) (l_X7_lowest_a ho (fun q => c46 q.2)) _ | exact ih (by assumption) (some i) (by rw [sLow, if_pos (And.intro c38 c46), ← ho]; simp only []; rw [if_pos (i_not_le.mp c62)]) _ | exact ih (by assumption) (some b) (by rw [sLow, if_pos (And.intro c38 c46), ← ho]; simp only []; rw [if_neg (i_not_lt.mpr c62)]) _
        · refine z_aload 4 rfl dX5_cheapestHeld_41 ?_
          refine zC_R4 hp (by omega) rfl zf_X5_182 dX5_cheapestHeld_43 ?_
          refine z_if_ne 68 dX5_cheapestHeld_46 rfl (fun c46 => ?_) (fun c46 => ?_)
          · have c46 : ¬ v (147 + 7 * i + 3) = nI 0 := c46
            refine z_iincN (n := 1) 3 rfl rfl dX5_cheapestHeld_68 ?_
            refine z_goto 4 dX5_cheapestHeld_71 rfl ?_
            first | exact ih (by assumption) (some b) (l_X7_lowest_a ho (fun q => c38 q.1)) _ | exact ih (by assumption) (some b) (l_X7_lowest_a ho (fun q => c46 q.2)) _ | exact ih (by assumption) (some i) (by rw [sLow, if_pos (And.intro c38 c46), ← ho]; simp only []; rw [if_pos (i_not_le.mp c62)]) _ | exact ih (by assumption) (some b) (by rw [sLow, if_pos (And.intro c38 c46), ← ho]; simp only []; rw [if_neg (i_not_lt.mpr c62)]) _
          · have c46 : v (147 + 7 * i + 3) = nI 0 := c46
            refine z_aload_n 2 rfl rfl dX5_cheapestHeld_49 ?_
            refine z_ifnull dX5_cheapestHeld_50 ?_
            refine z_aload 4 rfl dX5_cheapestHeld_53 ?_
            refine zC_R3 hp (by omega) rfl zf_X5_217 dX5_cheapestHeld_55 ?_
            refine z_aload_n 2 rfl rfl dX5_cheapestHeld_58 ?_
            refine zC_R3 hp (by omega) rfl zf_X5_217 dX5_cheapestHeld_59 ?_
            refine z_icmp_ge 68 dX5_cheapestHeld_62 rfl (fun c62 => ?_) (fun c62 => ?_)
            · refine z_iincN (n := 1) 3 rfl rfl dX5_cheapestHeld_68 ?_
              refine z_goto 4 dX5_cheapestHeld_71 rfl ?_
              first | exact ih (by assumption) (some b) (l_X7_lowest_a ho (fun q => c38 q.1)) _ | exact ih (by assumption) (some b) (l_X7_lowest_a ho (fun q => c46 q.2)) _ | exact ih (by assumption) (some i) (by rw [sLow, if_pos (And.intro c38 c46), ← ho]; simp only []; rw [if_pos (i_not_le.mp c62)]) _ | exact ih (by assumption) (some b) (by rw [sLow, if_pos (And.intro c38 c46), ← ho]; simp only []; rw [if_neg (i_not_lt.mpr c62)]) _
            · refine z_aload 4 rfl dX5_cheapestHeld_65 ?_
              refine z_astore_n 2 rfl (Nat.le_of_ble_eq_true rfl) rfl dX5_cheapestHeld_67 ?_
              refine z_iincN (n := 1) 3 rfl rfl dX5_cheapestHeld_68 ?_
              refine z_goto 4 dX5_cheapestHeld_71 rfl ?_
              first | exact ih (by assumption) (some b) (l_X7_lowest_a ho (fun q => c38 q.1)) _ | exact ih (by assumption) (some b) (l_X7_lowest_a ho (fun q => c46 q.2)) _ | exact ih (by assumption) (some i) (by rw [sLow, if_pos (And.intro c38 c46), ← ho]; simp only []; rw [if_pos (i_not_le.mp c62)]) _ | exact ih (by assumption) (some b) (by rw [sLow, if_pos (And.intro c38 c46), ← ho]; simp only []; rw [if_neg (i_not_lt.mpr c62)]) _
set_option maxRecDepth 4000 in
theorem c_X5_cheapestHeld {l : Launch} {G : zG} {B : Nat → Nat} {m0 mm : zM} {v : Nat → Int32} (hp : zCV G B m0 v mm) (w d : Nat) (hw : zRw G B m0 v w d) (hJ : zJ2 v) : zSem l G (yX5_cheapestHeld, cX5_cheapestHeld, 5, (some (.object "RightsDesk$RightRow"))) 1 [.ref (B 0), .ref w] mm (some (zRf B (sLow v d (nI 0) 2 (nR v)))) (fun m' => m' = mm) := by
  refine z_met [some (.ref (B 0)), some (.ref w), none, none, none] rfl (zc1 (by rfl)) (Nat.le_of_ble_eq_true rfl) rfl ?_
  refine z_null dX5_cheapestHeld_0 ?_
  refine z_astore_nN 2 rfl (Nat.le_of_ble_eq_true rfl) rfl dX5_cheapestHeld_1 ?_
  refine z_iconst (nI 0) dX5_cheapestHeld_2 rfl ?_
  refine z_istore_n 3 rfl (Nat.le_of_ble_eq_true rfl) rfl dX5_cheapestHeld_3 ?_
  exact l_X5_cheapestHeld hp w d hw hJ 0 (Nat.zero_le _) none rfl _
