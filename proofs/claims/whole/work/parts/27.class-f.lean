theorem sPays_upd {v : Nat → Int32} {i g : Nat} {x c : Int32} (h7 : i ≠ 7) (hg : i ≠ 17 + g) : sPays (upd v i x) g c = upd (sPays v g c) i x := by
  unfold sPays
  rw [upd_ne (Ne.symm hg), upd_cm hg, upd_ne (Ne.symm h7), upd_cm h7]
theorem sPays_bec {v : Nat → Int32} {r g : Nat} {s c : Int32} (hg : g < 10) : sPays (sBec v r s) g c = sBec (sPays v g c) r s := by
  unfold sBec
  rw [sPays_upd (by omega) (by omega), sPays_upd (by omega) (by omega)]
theorem sRef_nn {v : Nat → Int32} {r d : Nat} (hH : zH v) (hr : r < nR v) : ∃ k, k ≤ 700000 ∧ sRef v r d = nI k := by
  obtain ⟨-, ⟨c, hc, ec⟩, -⟩ := hH.2.2.2.2.1 r hr
  obtain ⟨-, f, hf, ef⟩ := hH.2.2.1.2 (sStage v d) (by have := sStage_3 v d; omega)
  have h1 : c * f ≤ 700000 * 100 := Nat.mul_le_mul hc hf
  have h2 : c * f / 100 ≤ c := by
    have h3 : c * f ≤ c * 100 := Nat.mul_le_mul_left c hf
    omega
  unfold sRef
  rw [ec, ef, nI_mul, nI_div (by omega) (by omega) (by omega), nI_sub h2]
  exact ⟨_, by omega, rfl⟩
theorem zOp.opn {v : Nat → Int32} (hO : zOp v) (hH : zH v) {r d : Nat} (hr : r < nR v) (hd : d < nD v) (e0 : v (147 + 7 * r + 0) = nI d) (hs : v (147 + 7 * r + 3) < nI 2) : sOpen v d = true := by
  rw [hH.opn hd]; exact decide_eq_true (hO r d hr hs e0 hd)
set_option maxRecDepth 4000 in
theorem c_X5_sellTo {l : Launch} {G : zG} {B : Nat → Nat} {m0 mm : zM} {v : Nat → Int32} (hp : zCV G B m0 v mm) (x y : Int32) (hH : zH v) : zSem l G (yX5_sellTo, cX5_sellTo, 4, (some .int)) 4 [.ref (B 0), .int x, .int y] mm (some (.int (sDoBuy v x y).1)) (fun m' => zCV G B m0 ((sDoBuy v x y).2) m') := by
  have hd10 := hH.1.1.2
  have hJ := hH.1.2.1
  have hJ2 := hJ.2
  obtain ⟨e8, he8, ee8⟩ := hH.2.2.2.2.2.2
  refine z_met [some (.ref (B 0)), some (.int x), some (.int y), none] rfl (zc1 (by rfl)) (Nat.le_of_ble_eq_true rfl) rfl ?_
  refine z_aload_n 0 rfl rfl dX5_sellTo_0 ?_
  refine z_iload_n 2 rfl rfl dX5_sellTo_1 ?_
  by_cases cy : zIn y (nI 0) (v 1 - nI 1) = true
  · obtain ⟨d, hd, rfl⟩ := zDt hH.1 cy
    have znd := zn_nI (show d < 2 ^ 31 by omega)
    obtain ⟨w, hw5, h5, -⟩ := hH.1.2.2.1 d (by omega)
    have znw := zn_nI (show w < 2 ^ 31 by omega)
    refine z_pV1 (ci := 5) zm_X5_dateRow (c_X5_dateRow hp d hH.1.1 hd) rfl zl_X5_124 rfl rfl (by decide) (hp.at (j := 0) (Or.inl (by decide))).1 (hp.at (j := 0) (Or.inl (by decide))).2 (by decide) (Nat.le_of_ble_eq_true rfl) dX5_sellTo_2 ?_
    refine z_astore_n 3 rfl (Nat.le_of_ble_eq_true rfl) rfl dX5_sellTo_5 ?_
    refine z_iload_n 1 rfl rfl dX5_sellTo_6 ?_
    refine z_pN1 zm_X6_isHolder (c_X6_isHolder _) rfl zl_X5_128 (by decide) (Nat.le_of_ble_eq_true rfl) dX5_sellTo_7 ?_
    refine z_if_eqB 17 dX5_sellTo_10 rfl (fun c10 => ?_) (fun c10 => ?_)
    · have e9 : sDoBuy v x (nI d) = (-1, v) := by simp only [sDoBuy, c10, and_self, and_true, true_and, and_false, false_and, reduceIte, Bool.false_eq_true, reduceCtorEq]
      refine z_iconst (-1) dX5_sellTo_17 (by decide) ?_
      exact z_iret dX5_sellTo_18 (by rw [e9]) (by rw [e9]; exact hp)
    · obtain ⟨h, hh, rfl⟩ := zIn_nI (by decide) c10
      have znh := zn_nI (show h < 2 ^ 31 by omega)
      refine z_aload_n 3 rfl rfl dX5_sellTo_13 ?_
      refine z_ifnonnull 19 dX5_sellTo_14 rfl ?_
      refine z_aload_n 0 rfl rfl dX5_sellTo_19 ?_
      refine z_aload_n 3 rfl rfl dX5_sellTo_20 ?_
      refine z_pV1 (ci := 5) zm_X5_isOpen (c_X5_isOpen hp _ hH (by omega)) rfl zl_X5_131 rfl rfl (by decide) (hp.at (j := 0) (Or.inl (by decide))).1 (hp.at (j := 0) (Or.inl (by decide))).2 (by decide) (Nat.le_of_ble_eq_true rfl) dX5_sellTo_21 ?_
      refine z_if_neB 30 dX5_sellTo_24 rfl (fun c24 => ?_) (fun c24 => ?_)
      · refine z_aload_n 0 rfl rfl dX5_sellTo_30 ?_
        refine z_iload_n 1 rfl rfl dX5_sellTo_31 ?_
        refine z_aload_n 3 rfl rfl dX5_sellTo_32 ?_
        refine z_uV2 (ci := 5) zm_X5_sell (c_X5_sell hp _ _ hH (by omega) (by omega)) rfl zl_X5_135 rfl rfl (by decide) (hp.at (j := 0) (Or.inl (by decide))).1 (hp.at (j := 0) (Or.inl (by decide))).2 (by decide) (Nat.le_of_ble_eq_true rfl) dX5_sellTo_33 (fun mm hp => ?_)
        have e9 : sDoBuy v (nI h) (nI d) = (if 0 < sCan v d then nI (nR v) else -3, if 0 < sCan v d then sSells v h d else v) := by
          simp only [sDoBuy, c10, cy, znd, znh, c24, and_self, and_true, true_and, and_false, false_and, reduceIte, Bool.false_eq_true, reduceCtorEq]
          by_cases q : 0 < sCan v d
          · rw [if_pos q, if_pos q, if_neg (fun z => by rw [z] at q; exact absurd q (by decide))]
          · rw [if_neg q, if_neg q, if_pos (by by_cases z : sCan v d = 0; exact z; exact absurd (sCan_ne z) q)]
        exact z_iret dX5_sellTo_36 (by rw [e9]) (by rw [e9]; exact hp)
      · refine z_bipush (-4) dX5_sellTo_27 (by decide) ?_
        have e9 : sDoBuy v (nI h) (nI d) = (-4, v) := by simp only [sDoBuy, c10, cy, znd, c24, and_self, and_true, true_and, and_false, false_and, reduceIte, Bool.false_eq_true, reduceCtorEq]
        exact z_iret dX5_sellTo_29 (by rw [e9]) (by rw [e9]; exact hp)
  · have cyf : zIn y (nI 0) (v 1 - nI 1) = false := by simpa using cy
    refine z_pV1 (ci := 5) zm_X5_dateRow (c_X5_dateRowN hp _ hH.1.1 cyf) rfl zl_X5_124 rfl rfl (by decide) (hp.at (j := 0) (Or.inl (by decide))).1 (hp.at (j := 0) (Or.inl (by decide))).2 (by decide) (Nat.le_of_ble_eq_true rfl) dX5_sellTo_2 ?_
    refine z_astore_nN 3 rfl (Nat.le_of_ble_eq_true rfl) rfl dX5_sellTo_5 ?_
    refine z_iload_n 1 rfl rfl dX5_sellTo_6 ?_
    refine z_pN1 zm_X6_isHolder (c_X6_isHolder _) rfl zl_X5_128 (by decide) (Nat.le_of_ble_eq_true rfl) dX5_sellTo_7 ?_
    refine z_if_eqB 17 dX5_sellTo_10 rfl (fun c10 => ?_) (fun c10 => ?_)
    · have e9 : sDoBuy v x y = (-1, v) := by simp only [sDoBuy, c10, and_self, and_true, true_and, and_false, false_and, reduceIte, Bool.false_eq_true, reduceCtorEq]
      refine z_iconst (-1) dX5_sellTo_17 (by decide) ?_
      exact z_iret dX5_sellTo_18 (by rw [e9]) (by rw [e9]; exact hp)
    · obtain ⟨h, hh, rfl⟩ := zIn_nI (by decide) c10
      have znh := zn_nI (show h < 2 ^ 31 by omega)
      refine z_aload_nN 3 rfl rfl dX5_sellTo_13 ?_
      refine z_ifnonnullN dX5_sellTo_14 ?_
      have e9 : sDoBuy v (nI h) y = (-1, v) := by simp only [sDoBuy, c10, cyf, and_self, and_true, true_and, and_false, false_and, reduceIte, Bool.false_eq_true, reduceCtorEq]
      refine z_iconst (-1) dX5_sellTo_17 (by decide) ?_
      exact z_iret dX5_sellTo_18 (by rw [e9]) (by rw [e9]; exact hp)
