theorem sPays_upd {v : Nat → Int32} {i g : Nat} {x c : Int32} (h7 : i ≠ 7) (hg : i ≠ 17 + g) : sPays (upd v i x) g c = upd (sPays v g c) i x := by
  unfold sPays
  rw [upd_ne (Ne.symm hg), upd_cm hg, upd_ne (Ne.symm h7), upd_cm h7]
theorem sPays_bec {v : Nat → Int32} {r g : Nat} {s c : Int32} (hg : g < 10) : sPays (sBec v r s) g c = sBec (sPays v g c) r s := by
  unfold sBec
  rw [sPays_upd (by omega) (by omega), sPays_upd (by omega) (by omega)]
theorem sRef_nn {v : Nat → Int32} {r d : Nat} (hH : zH v) (hr : r < nR v) : ∃ k, k ≤ 700000 ∧ sRef v r d = nI k := by
  obtain ⟨-, ⟨c, hc, ec⟩, -⟩ := hH.2.2.2.2.1 r hr
  obtain ⟨-, f, hf, ef⟩ := hH.2.2.1.2 (sStage v d) (by have := sStage_3 v d; omega)
  have h1 : c * f ≤ 700000 * 100 := Nat.mul_le_mul hc hf
  have h2 : c * f / 100 ≤ c := by
    have h3 : c * f ≤ c * 100 := Nat.mul_le_mul_left c hf
    omega
  unfold sRef
  rw [ec, ef, nI_mul, nI_div (by omega) (by omega) (by omega), nI_sub h2]
  exact ⟨_, by omega, rfl⟩
theorem zOp.opn {v : Nat → Int32} (hO : zOp v) (hH : zH v) {r d : Nat} (hr : r < nR v) (hd : d < nD v) (e0 : v (147 + 7 * r + 0) = nI d) (hs : v (147 + 7 * r + 3) < nI 2) : sOpen v d = true := by
  rw [hH.opn hd]; exact decide_eq_true (hO r d hr hs e0 hd)
set_option maxRecDepth 4000 in
theorem c_X5_sellTo {l : Launch} {G : zG} {B : Nat → Nat} {m0 mm : zM} {v : Nat → Int32} (hp : zCV G B m0 v mm) (x y : Int32) (hH : zH v) : zSem l G (yX5_sellTo, cX5_sellTo, 4, (some .int)) 4 [.ref (B 0), .int x, .int y] mm (some (.int (sDoBuy v x y).1)) (fun m' => zCV G B m0 ((sDoBuy v x y).2) m') := by
  have hd10 := hH.1.1.2
  have hJ := hH.1.2.1
  have hJ2 := hJ.2
  obtain ⟨e8, he8, ee8⟩ := hH.2.2.2.2.2.2
  refine z_met [some (.ref (B 0)), some (.int x), some (.int y), none] rfl (zc1 (by rfl)) (Nat.le_of_ble_eq_true rfl) rfl ?_
  refine z_aload_n 0 rfl rfl dX5_sellTo_0 ?_
  refine z_iload_n 2 rfl rfl dX5_sellTo_1 ?_
  by_cases cy : zIn y (nI 0) (v 1 - nI 1) = true
  · obtain ⟨d, hd, rfl⟩ := zDt hH.1 cy
    have znd := zn_nI (show d < 2 ^ 31 by omega)
    obtain ⟨w, hw5, h5, -⟩ := hH.1.2.2.1 d (by omega)
    have znw := zn_nI (show w < 2 ^ 31 by omega)
    refine z_pV1 (ci := 5) zm_X5_dateRow (c_X5_dateRow hp d hH.1.1 hd) rfl zl_X5_124 rfl rfl (by decide) (hp.at (j := 0) (Or.inl (by decide))).1 (hp.at (j := 0) (Or.inl (by decide))).2 (by decide) (Nat.le_of_ble_eq_true rfl) dX5_sellTo_2 ?_
    refine z_astore_n 3 rfl (Nat.le_of_ble_eq_true rfl) rfl dX5_sellTo_5 ?_
    refine z_iload_n 1 rfl rfl dX5_sellTo_6 ?_
    refine z_pN1 zm_X6_isHolder (c_X6_isHolder _) rfl zl_X5_128 (by decide) (Nat.le_of_ble_eq_true rfl) dX5_sellTo_7 ?_
    refine z_if_eqB 17 dX5_sellTo_10 rfl (fun c10 => ?_) (fun c10 => ?_)
    · have e9 : sDoBuy v x (nI d) = (-1, v) := by simp only [sDoBuy, c10, and_self, and_true, true_and, and_false, false_and, reduceIte, Bool.false_eq_true, reduceCtorEq]
      refine z_iconst (-1) dX5_sellTo_17 (by decide) ?_
      exact z_iret dX5_sellTo_18 (by rw [e9]) (by rw [e9]; exact hp)
    · obtain ⟨h, hh, rfl⟩ := zIn_nI (by decide) c10
      have znh := zn_nI (show h < 2 ^ 31 by omega)
      refine z_aload_n 3 rfl rfl dX5_sellTo_13 ?_
      refine z_ifnonnull 19 dX5_sellTo_14 rfl ?_
      refine z_aload_n 0 rfl rfl dX5_sellTo_19 ?_
      refine z_aload_n 3 rfl rfl dX5_sellTo_20 ?_
      refine z_pV1 (ci := 5) zm_X5_isOpen (c_X5_isOpen hp _ hH (by omega)) rfl zl_X5_131 rfl rfl (by decide) (hp.at (j := 0) (Or.inl (by decide))).1 (hp.at (j := 0) (Or.inl (by decide))).2 (by decide) (Nat.le_of_ble_eq_true rfl) dX5_sellTo_21 ?_
      refine z_if_neB 30 dX5_sellTo_24 rfl (fun c24 => ?_) (fun c24 => ?_)
      · refine z_aload_n 0 rfl rfl dX5_sellTo_30 ?_
        refine z_iload_n 1 rfl rfl dX5_sellTo_31 ?_
        refine z_aload_n 3 rfl rfl dX5_sellTo_32 ?_
        refine z_uV2 (ci := 5) zm_X5_sell (c_X5_sell hp _ _ hH (by omega) (by omega)) rfl zl_X5_135 rfl rfl (by decide) (hp.at (j := 0) (Or.inl (by decide))).1 (hp.at (j := 0) (Or.inl (by decide))).2 (by decide) (Nat.le_of_ble_eq_true rfl) dX5_sellTo_33 (fun mm hp => ?_)
        have e9 : sDoBuy v (nI h) (nI d) = (if 0 < sCan v d then nI (nR v) else -3, if 0 < sCan v d then sSells v h d else v) := by
          simp only [sDoBuy, c10, cy, znd, znh, c24, and_self, and_true, true_and, and_false, false_and, reduceIte, Bool.false_eq_true, reduceCtorEq]
          by_cases q : 0 < sCan v d
          · rw [if_pos q, if_pos q, if_neg (fun z => by rw [z] at q; exact absurd q (by decide))]
          · rw [if_neg q, if_neg q, if_pos (by by_cases z : sCan v d = 0; exact z; exact absurd (sCan_ne z) q)]
        exact z_iret dX5_sellTo_36 (by rw [e9]) (by rw [e9]; exact hp)
      · refine z_bipush (-4) dX5_sellTo_27 (by decide) ?_
        have e9 : sDoBuy v (nI h) (nI d) = (-4, v) := by simp only [sDoBuy, c10, cy, znd, c24, and_self, and_true, true_and, and_false, false_and, reduceIte, Bool.false_eq_true, reduceCtorEq]
        exact z_iret dX5_sellTo_29 (by rw [e9]) (by rw [e9]; exact hp)
  · have cyf : zIn y (nI 0) (v 1 - nI 1) = false := by simpa using cy
    refine z_pV1 (ci := 5) zm_X5_dateRow (c_X5_dateRowN hp _ hH.1.1 cyf) rfl zl_X5_124 rfl rfl (by decide) (hp.at (j := 0) (Or.inl (by decide))).1 (hp.at (j := 0) (Or.inl (by decide))).2 (by decide) (Nat.le_of_ble_eq_true rfl) dX5_sellTo_2 ?_
    refine z_astore_nN 3 rfl (Nat.le_of_ble_eq_true rfl) rfl dX5_sellTo_5 ?_
    refine z_iload_n 1 rfl rfl dX5_sellTo_6 ?_
    refine z_pN1 zm_X6_isHolder (c_X6_isHolder _) rfl zl_X5_128 (by decide) (Nat.le_of_ble_eq_true rfl) dX5_sellTo_7 ?_
    refine z_if_eqB 17 dX5_sellTo_10 rfl (fun c10 => ?_) (fun c10 => ?_)
    · have e9 : sDoBuy v x y = (-1, v) := by simp only [sDoBuy, c10, and_self, and_true, true_and, and_false, false_and, reduceIte, Bool.false_eq_true, reduceCtorEq]
      refine z_iconst (-1) dX5_sellTo_17 (by decide) ?_
      exact z_iret dX5_sellTo_18 (by rw [e9]) (by rw [e9]; exact hp)
    · obtain ⟨h, hh, rfl⟩ := zIn_nI (by decide) c10
      have znh := zn_nI (show h < 2 ^ 31 by omega)
      refine z_aload_nN 3 rfl rfl dX5_sellTo_13 ?_
      refine z_ifnonnullN dX5_sellTo_14 ?_
      have e9 : sDoBuy v (nI h) y = (-1, v) := by simp only [sDoBuy, c10, cyf, and_self, and_true, true_and, and_false, false_and, reduceIte, Bool.false_eq_true, reduceCtorEq]
      refine z_iconst (-1) dX5_sellTo_17 (by decide) ?_
      exact z_iret dX5_sellTo_18 (by rw [e9]) (by rw [e9]; exact hp)
set_option maxRecDepth 4000 in
theorem c_X5_resellTo {l : Launch} {G : zG} {B : Nat → Nat} {m0 mm : zM} {v : Nat → Int32} (hp : zCV G B m0 v mm) (x y : Int32) (hH : zH v) : zSem l G (yX5_resellTo, cX5_resellTo, 6, (some .int)) 3 [.ref (B 0), .int x, .int y] mm (some (.int (sDoOff v x y).1)) (fun m' => zCV G B m0 ((sDoOff v x y).2) m') := by
  have hd10 := hH.1.1.2
  have hJ := hH.1.2.1
  have hJ2 := hJ.2
  obtain ⟨e8, he8, ee8⟩ := hH.2.2.2.2.2.2
  refine z_met [some (.ref (B 0)), some (.int x), some (.int y), none, none, none] rfl (zc1 (by rfl)) (Nat.le_of_ble_eq_true rfl) rfl ?_
  refine z_aload_n 0 rfl rfl dX5_resellTo_0 ?_
  refine z_iload_n 2 rfl rfl dX5_resellTo_1 ?_
  by_cases cy : zIn y (nI 0) (v 1 - nI 1) = true
  · obtain ⟨d, hd, rfl⟩ := zDt hH.1 cy
    have znd := zn_nI (show d < 2 ^ 31 by omega)
    obtain ⟨w, hw5, h5, -⟩ := hH.1.2.2.1 d (by omega)
    have znw := zn_nI (show w < 2 ^ 31 by omega)
    refine z_pV1 (ci := 5) zm_X5_dateRow (c_X5_dateRow hp d hH.1.1 hd) rfl zl_X5_124 rfl rfl (by decide) (hp.at (j := 0) (Or.inl (by decide))).1 (hp.at (j := 0) (Or.inl (by decide))).2 (by decide) (Nat.le_of_ble_eq_true rfl) dX5_resellTo_2 ?_
    refine z_astore_n 3 rfl (Nat.le_of_ble_eq_true rfl) rfl dX5_resellTo_5 ?_
    refine z_iload_n 1 rfl rfl dX5_resellTo_6 ?_
    refine z_pN1 zm_X6_isHolder (c_X6_isHolder _) rfl zl_X5_128 (by decide) (Nat.le_of_ble_eq_true rfl) dX5_resellTo_7 ?_
    refine z_if_eqB 17 dX5_resellTo_10 rfl (fun c10 => ?_) (fun c10 => ?_)
    · have e9 : sDoOff v x (nI d) = (-1, v) := by simp only [sDoOff, c10, and_self, and_true, true_and, and_false, false_and, reduceIte, Bool.false_eq_true, reduceCtorEq]
      refine z_iconst (-1) dX5_resellTo_17 (by decide) ?_
      exact z_iret dX5_resellTo_18 (by rw [e9]) (by rw [e9]; exact hp)
    · obtain ⟨h, hh, rfl⟩ := zIn_nI (by decide) c10
      have znh := zn_nI (show h < 2 ^ 31 by omega)
      refine z_aload_n 3 rfl rfl dX5_resellTo_13 ?_
      refine z_ifnonnull 19 dX5_resellTo_14 rfl ?_
      refine z_aload_n 0 rfl rfl dX5_resellTo_19 ?_
      refine z_aload_n 3 rfl rfl dX5_resellTo_20 ?_
      by_cases co : sLow v d (nI 1) 4 (nR v) = none
      · refine z_pV1 (ci := 5) zm_X5_cheapestOffered (c_X5_cheapestOffered hp _ _ (Or.inl ⟨rfl, by omega⟩) hJ) rfl zl_X5_139 rfl rfl (by decide) (hp.at (j := 0) (Or.inl (by decide))).1 (hp.at (j := 0) (Or.inl (by decide))).2 (by decide) (Nat.le_of_ble_eq_true rfl) dX5_resellTo_21 ?_
        rw [co]
        refine z_astoreN 4 (Nat.le_of_ble_eq_true rfl) rfl dX5_resellTo_24 ?_
        refine z_aloadN 4 rfl dX5_resellTo_26 ?_
        refine z_ifnullN 40 dX5_resellTo_28 rfl ?_
        refine z_bipush (-4) dX5_resellTo_40 (by decide) ?_
        have e9 : sDoOff v (nI h) (nI d) = (-4, v) := by simp only [sDoOff, c10, cy, znd, co, and_self, and_true, true_and, and_false, false_and, reduceIte, Bool.false_eq_true, reduceCtorEq]
        exact z_iret dX5_resellTo_42 (by rw [e9]) (by rw [e9]; exact hp)
      · obtain ⟨r, ho⟩ := Option.ne_none_iff_exists'.mp co
        obtain ⟨hr, e0, e3⟩ := sLow_spec ho
        obtain ⟨-, g, hg, e1⟩ := hH.1.2.2.2.2 r hr
        refine z_pV1 (ci := 5) zm_X5_cheapestOffered (c_X5_cheapestOffered hp _ _ (Or.inl ⟨rfl, by omega⟩) hJ) rfl zl_X5_139 rfl rfl (by decide) (hp.at (j := 0) (Or.inl (by decide))).1 (hp.at (j := 0) (Or.inl (by decide))).2 (by decide) (Nat.le_of_ble_eq_true rfl) dX5_resellTo_21 ?_
        rw [ho, show zRf B (some r) = Value.ref (B (30 + r)) from rfl]
        refine z_astore 4 (Nat.le_of_ble_eq_true rfl) rfl dX5_resellTo_24 ?_
        refine z_aload 4 rfl dX5_resellTo_26 ?_
        refine z_ifnull dX5_resellTo_28 ?_
        refine z_aload 4 rfl dX5_resellTo_31 ?_
        refine zC_R2 hp (by omega) rfl zf_X5_143 dX5_resellTo_33 ?_
        refine z_iload_n 1 rfl rfl dX5_resellTo_36 ?_
        refine z_icmp_ne 43 dX5_resellTo_37 rfl (fun c37 => ?_) (fun c37 => ?_)
        · refine z_aload 4 rfl dX5_resellTo_43 ?_
          refine zC_R5 hp (by omega) rfl zf_X5_146 dX5_resellTo_45 ?_
          rw [kAsk_1 e3]
          refine z_istore 5 (Nat.le_of_ble_eq_true rfl) rfl dX5_resellTo_48 ?_
          refine z_aload_n 0 rfl rfl dX5_resellTo_50 ?_
          refine z_iload_n 1 rfl rfl dX5_resellTo_51 ?_
          refine z_iload 5 rfl dX5_resellTo_52 ?_
          refine z_ineg dX5_resellTo_54 ?_
          refine z_vV2 (ci := 5) zm_X5_give (c_X5_give hp _ _ (by omega)) rfl zl_X5_149 rfl rfl (by decide) (hp.at (j := 0) (Or.inl (by decide))).1 (hp.at (j := 0) (Or.inl (by decide))).2 (by decide) (Nat.le_of_ble_eq_true rfl) dX5_resellTo_55 (fun mm hp => ?_)
          rw [Int32.neg_neg] at hp
          refine z_aload_n 0 rfl rfl dX5_resellTo_58 ?_
          refine z_aload 4 rfl dX5_resellTo_59 ?_
          refine zC_R2 hp (by omega) rfl zf_X5_143 dX5_resellTo_61 ?_
          rw [show sPays v h (v (147 + 7 * r + 4)) (147 + 7 * r + 1) = nI g by rw [sPays_at (by omega) (by omega)]; exact e1]
          refine z_iload 5 rfl dX5_resellTo_64 ?_
          refine z_iload 5 rfl dX5_resellTo_66 ?_
          refine z_aload_n 0 rfl rfl dX5_resellTo_68 ?_
          refine zC_S1 hp rfl zf_X5_18 dX5_resellTo_69 ?_
          refine z_iconst (nI 1) dX5_resellTo_72 rfl ?_
          refine zC_a1 hp (by omega) dX5_resellTo_73 ?_
          rw [show sPays v h (v (147 + 7 * r + 4)) (3 + 1) = v 4 from sPays_at (by omega) (by omega)]
          refine z_imul dX5_resellTo_74 ?_
          refine z_bipush (nI 100) dX5_resellTo_75 rfl ?_
          refine z_idiv dX5_resellTo_77 (by decide) ?_
          refine z_isub dX5_resellTo_78 ?_
          refine z_vV2 (ci := 5) zm_X5_give (c_X5_give hp _ _ (by omega)) rfl zl_X5_149 rfl rfl (by decide) (hp.at (j := 0) (Or.inl (by decide))).1 (hp.at (j := 0) (Or.inl (by decide))).2 (by decide) (Nat.le_of_ble_eq_true rfl) dX5_resellTo_79 (fun mm hp => ?_)
          rw [Int32.neg_sub] at hp
          have hp : zCV G B m0 (sPays (sPays v h (v (147 + 7 * r + 4))) g (v (147 + 7 * r + 4) * v 4 / nI 100 - v (147 + 7 * r + 4))) mm := hp
          refine z_aload 4 rfl dX5_resellTo_82 ?_
          refine z_iload_n 1 rfl rfl dX5_resellTo_84 ?_
          refine zC_Rp2 hp (by omega) rfl zf_X5_143 dX5_resellTo_85 (fun mm hp => ?_)
          refine z_aload 4 rfl dX5_resellTo_88 ?_
          refine z_dup dX5_resellTo_90 rfl ?_
          refine zC_R7 hp (by omega) rfl zf_X5_153 dX5_resellTo_91 ?_
          refine z_iconst (nI 1) dX5_resellTo_94 rfl ?_
          refine z_iadd dX5_resellTo_95 ?_
          refine zC_Rp7 hp (by omega) rfl zf_X5_153 dX5_resellTo_96 (fun mm hp => ?_)
          have hp : zCV G B m0 (upd (sOff2 v r h g) (147 + 7 * r + 6) (sOff2 v r h g (147 + 7 * r + 6) + nI 1)) mm := hp
          refine z_aload 4 rfl dX5_resellTo_99 ?_
          refine z_iconst (nI 0) dX5_resellTo_101 rfl ?_
          refine z_iconst (nI 0) dX5_resellTo_102 rfl ?_
          refine z_vV2 (ci := 4) zm_X4_turnTo (c_X4_turnTo hp _ _ _ (-5) (by omega) (fun q => absurd q (by decide)) (fun _ => rfl)) rfl zl_X5_156 rfl rfl (by decide) (hp.at (j := 30 + _) (Or.inr (by omega))).1 ((hp.at (j := 30 + _) (Or.inr (by omega))).2.trans (zBsh_r (by omega))) (by decide) (Nat.le_of_ble_eq_true rfl) dX5_resellTo_103 (fun mm hp => ?_)
          have hp : zCV G B m0 (sBec (upd (sOff2 v r h g) (147 + 7 * r + 6) (sOff2 v r h g (147 + 7 * r + 6) + nI 1)) r (nI 0)) mm := hp
          have e8b : sBec (upd (sOff2 v r h g) (147 + 7 * r + 6) (sOff2 v r h g (147 + 7 * r + 6) + nI 1)) r (nI 0) 8 = nI e8 := by
            rw [sBec_at (by omega) (by omega), upd_ne (by omega)]
            unfold sOff2
            rw [upd_ne (by omega), sPays_at (by omega) (by omega), sPays_at (by omega) (by omega)]; exact ee8
          refine z_aload_n 0 rfl rfl dX5_resellTo_106 ?_
          refine z_iconst (nI 1) dX5_resellTo_107 rfl ?_
          refine z_aload 4 rfl dX5_resellTo_108 ?_
          refine z_iload 5 rfl dX5_resellTo_110 ?_
          refine z_vV3 (ci := 5) zm_X5_log (c_X5_log hp _ _ _ _ (by omega) he8 e8b) rfl zl_X5_159 rfl rfl (by decide) (hp.at (j := 0) (Or.inl (by decide))).1 (hp.at (j := 0) (Or.inl (by decide))).2 (by decide) (Nat.le_of_ble_eq_true rfl) dX5_resellTo_112 (fun mm hp => ?_)
          refine z_aload 4 rfl dX5_resellTo_115 ?_
          refine zC_R0 hp (by omega) rfl zf_X5_163 dX5_resellTo_117 ?_
          have e9 : sDoOff v (nI h) (nI d) = (nI r, sOff v r h g) := by simp only [sDoOff, c10, cy, znd, znh, ho, and_self, and_true, true_and, and_false, false_and, reduceIte, Bool.false_eq_true, reduceCtorEq]; rw [if_neg c37, e1, zn_nI (by omega)]
          exact z_iret dX5_resellTo_120 (by rw [e9]) (by rw [e9]; exact hp)
        · refine z_bipush (-4) dX5_resellTo_40 (by decide) ?_
          have e9 : sDoOff v (nI h) (nI d) = (-4, v) := by simp only [sDoOff, c10, cy, znd, ho, and_self, and_true, true_and, and_false, false_and, reduceIte, Bool.false_eq_true, reduceCtorEq]; rw [if_pos c37]
          exact z_iret dX5_resellTo_42 (by rw [e9]) (by rw [e9]; exact hp)
  · have cyf : zIn y (nI 0) (v 1 - nI 1) = false := by simpa using cy
    refine z_pV1 (ci := 5) zm_X5_dateRow (c_X5_dateRowN hp _ hH.1.1 cyf) rfl zl_X5_124 rfl rfl (by decide) (hp.at (j := 0) (Or.inl (by decide))).1 (hp.at (j := 0) (Or.inl (by decide))).2 (by decide) (Nat.le_of_ble_eq_true rfl) dX5_resellTo_2 ?_
    refine z_astore_nN 3 rfl (Nat.le_of_ble_eq_true rfl) rfl dX5_resellTo_5 ?_
    refine z_iload_n 1 rfl rfl dX5_resellTo_6 ?_
    refine z_pN1 zm_X6_isHolder (c_X6_isHolder _) rfl zl_X5_128 (by decide) (Nat.le_of_ble_eq_true rfl) dX5_resellTo_7 ?_
    refine z_if_eqB 17 dX5_resellTo_10 rfl (fun c10 => ?_) (fun c10 => ?_)
    · have e9 : sDoOff v x y = (-1, v) := by simp only [sDoOff, c10, and_self, and_true, true_and, and_false, false_and, reduceIte, Bool.false_eq_true, reduceCtorEq]
      refine z_iconst (-1) dX5_resellTo_17 (by decide) ?_
      exact z_iret dX5_resellTo_18 (by rw [e9]) (by rw [e9]; exact hp)
    · obtain ⟨h, hh, rfl⟩ := zIn_nI (by decide) c10
      have znh := zn_nI (show h < 2 ^ 31 by omega)
      refine z_aload_nN 3 rfl rfl dX5_resellTo_13 ?_
      refine z_ifnonnullN dX5_resellTo_14 ?_
      have e9 : sDoOff v (nI h) y = (-1, v) := by simp only [sDoOff, c10, cyf, and_self, and_true, true_and, and_false, false_and, reduceIte, Bool.false_eq_true, reduceCtorEq]
      refine z_iconst (-1) dX5_resellTo_17 (by decide) ?_
      exact z_iret dX5_resellTo_18 (by rw [e9]) (by rw [e9]; exact hp)
set_option maxRecDepth 4000 in
theorem c_X5_cancelRight {l : Launch} {G : zG} {B : Nat → Nat} {m0 mm : zM} {v : Nat → Int32} (hp : zCV G B m0 v mm) (x : Int32) (hO : zOp v) (hH : zH v) : zSem l G (yX5_cancelRight, cX5_cancelRight, 5, (some .int)) 5 [.ref (B 0), .int x] mm (some (.int (sDoCan v x).1)) (fun m' => zCV G B m0 ((sDoCan v x).2) m') := by
  have hd10 := hH.1.1.2
  have hJ := hH.1.2.1
  have hJ2 := hJ.2
  obtain ⟨e8, he8, ee8⟩ := hH.2.2.2.2.2.2
  refine z_met [some (.ref (B 0)), some (.int x), none, none, none] rfl (zc1 (by rfl)) (Nat.le_of_ble_eq_true rfl) rfl ?_
  refine z_aload_n 0 rfl rfl dX5_cancelRight_0 ?_
  refine z_iload_n 1 rfl rfl dX5_cancelRight_1 ?_
  by_cases cy : zIn x (nI 0) (v 2 - nI 1) = true
  · obtain ⟨r, d, g, hr, rfl, hd, e0, hg, e1⟩ := zRt hH.1 cy
    have znr := zn_nI (show r < 2 ^ 31 by omega)
    have znd := zn_nI (show d < 2 ^ 31 by omega)
    have zng := zn_nI (show g < 2 ^ 31 by omega)
    obtain ⟨⟨s, hs5, e3⟩, -, ea1, ea0⟩ := hH.2.2.2.2.1 r hr
    refine z_pV1 (ci := 5) zm_X5_rightRow (c_X5_rightRow hp r hH.1.2.1 hr) rfl zl_X5_164 rfl rfl (by decide) (hp.at (j := 0) (Or.inl (by decide))).1 (hp.at (j := 0) (Or.inl (by decide))).2 (by decide) (Nat.le_of_ble_eq_true rfl) dX5_cancelRight_2 ?_
    refine z_astore_n 2 rfl (Nat.le_of_ble_eq_true rfl) rfl dX5_cancelRight_5 ?_
    refine z_aload_n 2 rfl rfl dX5_cancelRight_6 ?_
    refine z_ifnonnull 12 dX5_cancelRight_7 rfl ?_
    refine z_aload_n 0 rfl rfl dX5_cancelRight_12 ?_
    refine z_aload_n 2 rfl rfl dX5_cancelRight_13 ?_
    by_cases cf : v (147 + 7 * r + 3) < nI 2
    · obtain ⟨k, hk, ek⟩ := sRef_nn (d := d) hH hr
      have hop := hO.opn hH hr hd e0 cf
      refine z_pV1 (ci := 5) zm_X5_refund (c_X5_refund hp _ d hH hr hd e0 (fun _ => hop)) rfl zl_X5_168 rfl rfl (by decide) (hp.at (j := 0) (Or.inl (by decide))).1 (hp.at (j := 0) (Or.inl (by decide))).2 (by decide) (Nat.le_of_ble_eq_true rfl) dX5_cancelRight_14 ?_
      rw [if_pos cf]
      refine z_istore_n 3 rfl (Nat.le_of_ble_eq_true rfl) rfl dX5_cancelRight_17 ?_
      refine z_aload_n 0 rfl rfl dX5_cancelRight_18 ?_
      refine z_aload_n 2 rfl rfl dX5_cancelRight_19 ?_
      refine zC_R1 hp (by omega) rfl zf_X5_172 dX5_cancelRight_20 ?_
      rw [e0]
      refine z_pV1 (ci := 5) zm_X5_dateRow (c_X5_dateRow hp d hH.1.1 hd) rfl zl_X5_124 rfl rfl (by decide) (hp.at (j := 0) (Or.inl (by decide))).1 (hp.at (j := 0) (Or.inl (by decide))).2 (by decide) (Nat.le_of_ble_eq_true rfl) dX5_cancelRight_23 ?_
      refine z_astore 4 (Nat.le_of_ble_eq_true rfl) rfl dX5_cancelRight_26 ?_
      refine z_iload_n 3 rfl rfl dX5_cancelRight_28 ?_
      refine z_bipush (-5) dX5_cancelRight_29 (by decide) ?_
      refine z_icmp_eq 39 dX5_cancelRight_31 rfl (fun c31 => ?_) (fun c31 => ?_)
      · exact absurd c31 (by rw [ek]; intro z; have := congrArg Int32.toInt z; rw [nI_toInt (by omega)] at this; have h5 : (-5 : Int32).toInt = -5 := rfl; omega)
      · refine z_aload 4 rfl dX5_cancelRight_34 ?_
        refine z_ifnonnull 42 dX5_cancelRight_36 rfl ?_
        refine z_aload_n 2 rfl rfl dX5_cancelRight_42 ?_
        refine z_iconst (nI 3) dX5_cancelRight_43 rfl ?_
        refine z_iconst (nI 0) dX5_cancelRight_44 rfl ?_
        refine z_vV2 (ci := 4) zm_X4_turnTo (c_X4_turnTo hp _ _ _ (-5) (by omega) (fun q => absurd q (by decide)) (fun _ => rfl)) rfl zl_X5_156 rfl rfl (by decide) (hp.at (j := 30 + _) (Or.inr (by omega))).1 ((hp.at (j := 30 + _) (Or.inr (by omega))).2.trans (zBsh_r (by omega))) (by decide) (Nat.le_of_ble_eq_true rfl) dX5_cancelRight_45 (fun mm hp => ?_)
        have hp : zCV G B m0 (sBec v r (nI 3)) mm := hp
        refine z_aload_n 0 rfl rfl dX5_cancelRight_48 ?_
        refine z_aload_n 2 rfl rfl dX5_cancelRight_49 ?_
        refine zC_R2 hp (by omega) rfl zf_X5_143 dX5_cancelRight_50 ?_
        rw [show sBec v r (nI 3) (147 + 7 * r + 1) = nI g by rw [sBec_at (by omega) (by omega)]; exact e1]
        refine z_iload_n 3 rfl rfl dX5_cancelRight_53 ?_
        refine z_vV2 (ci := 5) zm_X5_give (c_X5_give hp _ _ (by omega)) rfl zl_X5_149 rfl rfl (by decide) (hp.at (j := 0) (Or.inl (by decide))).1 (hp.at (j := 0) (Or.inl (by decide))).2 (by decide) (Nat.le_of_ble_eq_true rfl) dX5_cancelRight_54 (fun mm hp => ?_)
        rw [sPays_bec hg] at hp
        have e8b : sBec (sPays v g (-sRef v r d)) r (nI 3) 8 = nI e8 := by rw [sBec_at (by omega) (by omega), sPays_at (by omega) (by omega)]; exact ee8
        refine z_aload_n 0 rfl rfl dX5_cancelRight_57 ?_
        refine z_iconst (nI 4) dX5_cancelRight_58 rfl ?_
        refine z_aload_n 2 rfl rfl dX5_cancelRight_59 ?_
        refine z_iload_n 3 rfl rfl dX5_cancelRight_60 ?_
        refine z_vV3 (ci := 5) zm_X5_log (c_X5_log hp _ _ _ _ (by omega) he8 e8b) rfl zl_X5_159 rfl rfl (by decide) (hp.at (j := 0) (Or.inl (by decide))).1 (hp.at (j := 0) (Or.inl (by decide))).2 (by decide) (Nat.le_of_ble_eq_true rfl) dX5_cancelRight_61 (fun mm hp => ?_)
        have hp : zCV G B m0 (sCan1 v r d g) mm := hp
        have hH1 : zH (sCan1 v r d g) := ((hH.pays hg).bec (by omega) (by omega)).log
        have eat : ∀ j, j ≠ 7 → j ≠ 8 → (j < 17 ∨ 27 ≤ j) → (j < 147 ∨ (147 ≤ j ∧ j < 567 ∧ j ≠ 147 + 7 * r + 3 ∧ j ≠ 147 + 7 * r + 4)) → sCan1 v r d g j = v j := fun j h7 h8 hj h9 => by unfold sCan1; rw [sLog_at h8 (by omega), sBec_at (by omega) (by omega), sPays_at h7 (by omega)]
        obtain ⟨n, hn, h5, -⟩ := hH.1.2.2.1 d (by omega)
        have h5b : sCan1 v r d g (27 + 12 * d + 5) = nI n := by rw [eat _ (by omega) (by omega) (by omega) (by omega)]; exact h5
        have hd1 : d < nD (sCan1 v r d g) := by rw [nD_of (eat 1 (by omega) (by omega) (by omega) (by omega))]; exact hd
        refine z_aload_n 0 rfl rfl dX5_cancelRight_64 ?_
        refine z_aload 4 rfl dX5_cancelRight_65 ?_
        refine z_vV1 (ci := 5) zm_X5_letListBuy (c_X5_letListBuy hp d n hH1 hd1 h5b hn) rfl zl_X5_175 rfl rfl (by decide) (hp.at (j := 0) (Or.inl (by decide))).1 (hp.at (j := 0) (Or.inl (by decide))).2 (by decide) (Nat.le_of_ble_eq_true rfl) dX5_cancelRight_67 (fun mm hp => ?_)
        refine z_iload_n 3 rfl rfl dX5_cancelRight_70 ?_
        have e9 : sDoCan v (nI r) = (sRef v r d, sLB d n (sCan1 v r d g)) := by simp only [sDoCan, cy, znr, e0, e1, znd, zng, h5, zn_nI (show n < 2 ^ 31 by omega), and_self, and_true, true_and, and_false, false_and, reduceIte, Bool.false_eq_true, reduceCtorEq]; rw [if_pos cf]
        exact z_iret dX5_cancelRight_71 (by rw [e9]) (by rw [e9]; exact hp)
    · refine z_pV1 (ci := 5) zm_X5_refund (c_X5_refund hp _ d hH hr hd e0 (fun z => absurd z cf)) rfl zl_X5_168 rfl rfl (by decide) (hp.at (j := 0) (Or.inl (by decide))).1 (hp.at (j := 0) (Or.inl (by decide))).2 (by decide) (Nat.le_of_ble_eq_true rfl) dX5_cancelRight_14 ?_
      rw [if_neg cf]
      refine z_istore_n 3 rfl (Nat.le_of_ble_eq_true rfl) rfl dX5_cancelRight_17 ?_
      refine z_aload_n 0 rfl rfl dX5_cancelRight_18 ?_
      refine z_aload_n 2 rfl rfl dX5_cancelRight_19 ?_
      refine zC_R1 hp (by omega) rfl zf_X5_172 dX5_cancelRight_20 ?_
      rw [e0]
      refine z_pV1 (ci := 5) zm_X5_dateRow (c_X5_dateRow hp d hH.1.1 hd) rfl zl_X5_124 rfl rfl (by decide) (hp.at (j := 0) (Or.inl (by decide))).1 (hp.at (j := 0) (Or.inl (by decide))).2 (by decide) (Nat.le_of_ble_eq_true rfl) dX5_cancelRight_23 ?_
      refine z_astore 4 (Nat.le_of_ble_eq_true rfl) rfl dX5_cancelRight_26 ?_
      refine z_iload_n 3 rfl rfl dX5_cancelRight_28 ?_
      refine z_bipush (-5) dX5_cancelRight_29 (by decide) ?_
      refine z_icmp_eq 39 dX5_cancelRight_31 rfl (fun c31 => ?_) (fun c31 => ?_)
      · refine z_bipush (-4) dX5_cancelRight_39 (by decide) ?_
        have e9 : sDoCan v (nI r) = (-4, v) := by simp only [sDoCan, cy, znr, and_self, and_true, true_and, and_false, false_and, reduceIte, Bool.false_eq_true, reduceCtorEq]; rw [if_neg cf]
        exact z_iret dX5_cancelRight_41 (by rw [e9]) (by rw [e9]; exact hp)
      · exact absurd rfl c31
  · have cyf : zIn x (nI 0) (v 2 - nI 1) = false := by simpa using cy
    refine z_pV1 (ci := 5) zm_X5_rightRow (c_X5_rightRowN hp _ hH.1.2.1 cyf) rfl zl_X5_164 rfl rfl (by decide) (hp.at (j := 0) (Or.inl (by decide))).1 (hp.at (j := 0) (Or.inl (by decide))).2 (by decide) (Nat.le_of_ble_eq_true rfl) dX5_cancelRight_2 ?_
    refine z_astore_nN 2 rfl (Nat.le_of_ble_eq_true rfl) rfl dX5_cancelRight_5 ?_
    refine z_aload_nN 2 rfl rfl dX5_cancelRight_6 ?_
    refine z_ifnonnullN dX5_cancelRight_7 ?_
    refine z_iconst (-1) dX5_cancelRight_10 (by decide) ?_
    have e9 : sDoCan v x = (-1, v) := by simp only [sDoCan, cyf, and_self, and_true, true_and, and_false, false_and, reduceIte, Bool.false_eq_true, reduceCtorEq]
    exact z_iret dX5_cancelRight_11 (by rw [e9]) (by rw [e9]; exact hp)
set_option maxRecDepth 4000 in
theorem c_X5_offerRight {l : Launch} {G : zG} {B : Nat → Nat} {m0 mm : zM} {v : Nat → Int32} (hp : zCV G B m0 v mm) (x p : Int32) (hH : zH v) : zSem l G (yX5_offerRight, cX5_offerRight, 6, (some .int)) 2 [.ref (B 0), .int x, .int p] mm (some (.int (sDoOfr v x p).1)) (fun m' => zCV G B m0 ((sDoOfr v x p).2) m') := by
  have hd10 := hH.1.1.2
  have hJ := hH.1.2.1
  have hJ2 := hJ.2
  obtain ⟨e8, he8, ee8⟩ := hH.2.2.2.2.2.2
  refine z_met [some (.ref (B 0)), some (.int x), some (.int p), none, none, none] rfl (zc1 (by rfl)) (Nat.le_of_ble_eq_true rfl) rfl ?_
  refine z_aload_n 0 rfl rfl dX5_offerRight_0 ?_
  refine z_iload_n 1 rfl rfl dX5_offerRight_1 ?_
  by_cases cy : zIn x (nI 0) (v 2 - nI 1) = true
  · obtain ⟨r, d, g, hr, rfl, hd, e0, hg, e1⟩ := zRt hH.1 cy
    have znr := zn_nI (show r < 2 ^ 31 by omega)
    have znd := zn_nI (show d < 2 ^ 31 by omega)
    have zng := zn_nI (show g < 2 ^ 31 by omega)
    obtain ⟨⟨s, hs5, e3⟩, -, ea1, ea0⟩ := hH.2.2.2.2.1 r hr
    refine z_pV1 (ci := 5) zm_X5_rightRow (c_X5_rightRow hp r hH.1.2.1 hr) rfl zl_X5_164 rfl rfl (by decide) (hp.at (j := 0) (Or.inl (by decide))).1 (hp.at (j := 0) (Or.inl (by decide))).2 (by decide) (Nat.le_of_ble_eq_true rfl) dX5_offerRight_2 ?_
    refine z_astore_n 3 rfl (Nat.le_of_ble_eq_true rfl) rfl dX5_offerRight_5 ?_
    refine z_aload_n 3 rfl rfl dX5_offerRight_6 ?_
    refine z_ifnonnull 12 dX5_offerRight_7 rfl ?_
    refine z_aload_n 0 rfl rfl dX5_offerRight_12 ?_
    refine z_aload_n 3 rfl rfl dX5_offerRight_13 ?_
    refine zC_R1 hp (by omega) rfl zf_X5_172 dX5_offerRight_14 ?_
    rw [e0]
    refine z_pV1 (ci := 5) zm_X5_dateRow (c_X5_dateRow hp d hH.1.1 hd) rfl zl_X5_124 rfl rfl (by decide) (hp.at (j := 0) (Or.inl (by decide))).1 (hp.at (j := 0) (Or.inl (by decide))).2 (by decide) (Nat.le_of_ble_eq_true rfl) dX5_offerRight_17 ?_
    refine z_astore 4 (Nat.le_of_ble_eq_true rfl) rfl dX5_offerRight_20 ?_
    refine z_aload_n 3 rfl rfl dX5_offerRight_22 ?_
    refine z_pV0 (ci := 4) zm_X4_isHeldOrOffered (c_X4_isHeldOrOffered hp _ (by omega) ⟨s, hs5, e3⟩) rfl zl_X5_178 rfl rfl (by decide) (hp.at (j := 30 + _) (Or.inr (by omega))).1 ((hp.at (j := 30 + _) (Or.inr (by omega))).2.trans (zBsh_r (by omega))) (by decide) (Nat.le_of_ble_eq_true rfl) dX5_offerRight_23 ?_
    refine z_if_eqB 34 dX5_offerRight_26 rfl (fun c26 => ?_) (fun c26 => ?_)
    · refine z_bipush (-4) dX5_offerRight_34 (by decide) ?_
      have e9 : sDoOfr v (nI r) p = (-4, v) := by simp only [sDoOfr, cy, znr, of_decide_eq_false c26, and_self, and_true, true_and, and_false, false_and, reduceIte, Bool.false_eq_true, reduceCtorEq]
      exact z_iret dX5_offerRight_36 (by rw [e9]) (by rw [e9]; exact hp)
    · refine z_aload 4 rfl dX5_offerRight_29 ?_
      refine z_ifnonnull 37 dX5_offerRight_31 rfl ?_
      refine z_iload_n 2 rfl rfl dX5_offerRight_37 ?_
      refine z_iconst (nI 1) dX5_offerRight_38 rfl ?_
      refine z_icmp_lt 53 dX5_offerRight_39 rfl (fun c39 => ?_) (fun c39 => ?_)
      · have ez : zIn p (nI 1) (nI 2 * v (27 + 12 * d + 3)) = false := by unfold zIn; rw [decide_eq_false (i_not_le.mpr c39)]; rfl
        refine z_bipush (-2) dX5_offerRight_53 (by decide) ?_
        have e9 : sDoOfr v (nI r) p = (-2, v) := by simp only [sDoOfr, cy, znr, e0, znd, of_decide_eq_true c26, ez, and_self, and_true, true_and, and_false, false_and, reduceIte, Bool.false_eq_true, reduceCtorEq]
        exact z_iret dX5_offerRight_55 (by rw [e9]) (by rw [e9]; exact hp)
      · refine z_iload_n 2 rfl rfl dX5_offerRight_42 ?_
        refine z_iconst (nI 2) dX5_offerRight_43 rfl ?_
        refine z_aload 4 rfl dX5_offerRight_44 ?_
        refine zC_D4 hp (by omega) rfl zf_X5_98 dX5_offerRight_46 ?_
        refine z_imul dX5_offerRight_49 ?_
        refine z_icmp_le 56 dX5_offerRight_50 rfl (fun c50 => ?_) (fun c50 => ?_)
        · have ez : zIn p (nI 1) (nI 2 * v (27 + 12 * d + 3)) = true := by unfold zIn; rw [decide_eq_true (i_not_lt.mp c39), decide_eq_true c50]; rfl
          have e5 : (kAsk v r = p ↔ v (147 + 7 * r + 4) = p) ∧ kAsk v r = (if 0 ≤ v (147 + 7 * r + 4) then v (147 + 7 * r + 4) else nI 0) := by
            by_cases q : v (147 + 7 * r + 3) = nI 1
            · obtain ⟨a, ha1, ha2, ea⟩ := ea1 q
              rw [kAsk_1 q, ea, if_pos (nI_pos' (by omega))]
              exact ⟨Iff.rfl, rfl⟩
            · rw [kAsk, if_neg q, ea0 q]
              refine ⟨⟨fun z => ?_, fun z => ?_⟩, rfl⟩
              · subst z; exact absurd c39 (by decide)
              · subst z; exact absurd c39 (by decide)
          refine z_aload_n 3 rfl rfl dX5_offerRight_56 ?_
          refine zC_R5 hp (by omega) rfl zf_X5_146 dX5_offerRight_57 ?_
          refine z_istore 5 (Nat.le_of_ble_eq_true rfl) rfl dX5_offerRight_60 ?_
          refine z_iload 5 rfl dX5_offerRight_62 ?_
          refine z_iload_n 2 rfl rfl dX5_offerRight_64 ?_
          refine z_icmp_ne 71 dX5_offerRight_65 rfl (fun c65 => ?_) (fun c65 => ?_)
          · refine z_aload_n 3 rfl rfl dX5_offerRight_71 ?_
            refine z_iconst (nI 1) dX5_offerRight_72 rfl ?_
            refine z_iload_n 2 rfl rfl dX5_offerRight_73 ?_
            refine z_vV2 (ci := 4) zm_X4_turnTo (c_X4_turnTo hp _ _ _ p (by omega) (fun _ => rfl) (fun q => absurd rfl q)) rfl zl_X5_156 rfl rfl (by decide) (hp.at (j := 30 + _) (Or.inr (by omega))).1 ((hp.at (j := 30 + _) (Or.inr (by omega))).2.trans (zBsh_r (by omega))) (by decide) (Nat.le_of_ble_eq_true rfl) dX5_offerRight_74 (fun mm hp => ?_)
            have e8b : upd (upd v (147 + 7 * r + 3) (nI 1)) (147 + 7 * r + 4) p 8 = nI e8 := by rw [upd_ne (by omega), upd_ne (by omega)]; exact ee8
            refine z_aload_n 0 rfl rfl dX5_offerRight_77 ?_
            refine z_iconst (nI 2) dX5_offerRight_78 rfl ?_
            refine z_aload_n 3 rfl rfl dX5_offerRight_79 ?_
            refine z_iload_n 2 rfl rfl dX5_offerRight_80 ?_
            refine z_vV3 (ci := 5) zm_X5_log (c_X5_log hp _ _ _ _ (by omega) he8 e8b) rfl zl_X5_159 rfl rfl (by decide) (hp.at (j := 0) (Or.inl (by decide))).1 (hp.at (j := 0) (Or.inl (by decide))).2 (by decide) (Nat.le_of_ble_eq_true rfl) dX5_offerRight_81 (fun mm hp => ?_)
            refine z_iload 5 rfl dX5_offerRight_84 ?_
            have e9 : sDoOfr v (nI r) p = (kAsk v r, sLog (upd (upd v (147 + 7 * r + 3) (nI 1)) (147 + 7 * r + 4) p) (nI 2) (nI r) p) := by simp only [sDoOfr, cy, znr, e0, znd, of_decide_eq_true c26, ez, and_self, and_true, true_and, and_false, false_and, reduceIte, Bool.false_eq_true, reduceCtorEq]; rw [if_neg (fun z => c65 (e5.1.mpr z)), e5.2]
            exact z_iret dX5_offerRight_86 (by rw [e9]) (by rw [e9]; exact hp)
          · refine z_bipush (-5) dX5_offerRight_68 (by decide) ?_
            have e9 : sDoOfr v (nI r) p = (-5, v) := by simp only [sDoOfr, cy, znr, e0, znd, of_decide_eq_true c26, ez, and_self, and_true, true_and, and_false, false_and, reduceIte, Bool.false_eq_true, reduceCtorEq]; rw [if_pos (e5.1.mp c65)]
            exact z_iret dX5_offerRight_70 (by rw [e9]) (by rw [e9]; exact hp)
        · have ez : zIn p (nI 1) (nI 2 * v (27 + 12 * d + 3)) = false := by unfold zIn; rw [decide_eq_false c50, Bool.and_false]
          refine z_bipush (-2) dX5_offerRight_53 (by decide) ?_
          have e9 : sDoOfr v (nI r) p = (-2, v) := by simp only [sDoOfr, cy, znr, e0, znd, of_decide_eq_true c26, ez, and_self, and_true, true_and, and_false, false_and, reduceIte, Bool.false_eq_true, reduceCtorEq]
          exact z_iret dX5_offerRight_55 (by rw [e9]) (by rw [e9]; exact hp)
  · have cyf : zIn x (nI 0) (v 2 - nI 1) = false := by simpa using cy
    refine z_pV1 (ci := 5) zm_X5_rightRow (c_X5_rightRowN hp _ hH.1.2.1 cyf) rfl zl_X5_164 rfl rfl (by decide) (hp.at (j := 0) (Or.inl (by decide))).1 (hp.at (j := 0) (Or.inl (by decide))).2 (by decide) (Nat.le_of_ble_eq_true rfl) dX5_offerRight_2 ?_
    refine z_astore_nN 3 rfl (Nat.le_of_ble_eq_true rfl) rfl dX5_offerRight_5 ?_
    refine z_aload_nN 3 rfl rfl dX5_offerRight_6 ?_
    refine z_ifnonnullN dX5_offerRight_7 ?_
    refine z_iconst (-1) dX5_offerRight_10 (by decide) ?_
    have e9 : sDoOfr v x p = (-1, v) := by simp only [sDoOfr, cyf, and_self, and_true, true_and, and_false, false_and, reduceIte, Bool.false_eq_true, reduceCtorEq]
    exact z_iret dX5_offerRight_11 (by rw [e9]) (by rw [e9]; exact hp)
set_option maxRecDepth 4000 in
theorem c_X5_withdrawOffer {l : Launch} {G : zG} {B : Nat → Nat} {m0 mm : zM} {v : Nat → Int32} (hp : zCV G B m0 v mm) (x : Int32) (hH : zH v) : zSem l G (yX5_withdrawOffer, cX5_withdrawOffer, 4, (some .int)) 2 [.ref (B 0), .int x] mm (some (.int (sTk v x).1)) (fun m' => zCV G B m0 ((sTk v x).2.1) m') := by
  have hd10 := hH.1.1.2
  have hJ := hH.1.2.1
  have hJ2 := hJ.2
  obtain ⟨e8, he8, ee8⟩ := hH.2.2.2.2.2.2
  refine z_met [some (.ref (B 0)), some (.int x), none, none] rfl (zc1 (by rfl)) (Nat.le_of_ble_eq_true rfl) rfl ?_
  refine z_aload_n 0 rfl rfl dX5_withdrawOffer_0 ?_
  refine z_iload_n 1 rfl rfl dX5_withdrawOffer_1 ?_
  by_cases cy : zIn x (nI 0) (v 2 - nI 1) = true
  · obtain ⟨r, d, g, hr, rfl, hd, e0, hg, e1⟩ := zRt hH.1 cy
    have znr := zn_nI (show r < 2 ^ 31 by omega)
    have znd := zn_nI (show d < 2 ^ 31 by omega)
    have zng := zn_nI (show g < 2 ^ 31 by omega)
    obtain ⟨⟨s, hs5, e3⟩, -, ea1, ea0⟩ := hH.2.2.2.2.1 r hr
    refine z_pV1 (ci := 5) zm_X5_rightRow (c_X5_rightRow hp r hH.1.2.1 hr) rfl zl_X5_164 rfl rfl (by decide) (hp.at (j := 0) (Or.inl (by decide))).1 (hp.at (j := 0) (Or.inl (by decide))).2 (by decide) (Nat.le_of_ble_eq_true rfl) dX5_withdrawOffer_2 ?_
    refine z_astore_n 2 rfl (Nat.le_of_ble_eq_true rfl) rfl dX5_withdrawOffer_5 ?_
    refine z_aload_n 2 rfl rfl dX5_withdrawOffer_6 ?_
    refine z_ifnonnull 12 dX5_withdrawOffer_7 rfl ?_
    refine z_aload_n 2 rfl rfl dX5_withdrawOffer_12 ?_
    refine zC_R4 hp (by omega) rfl zf_X5_182 dX5_withdrawOffer_13 ?_
    refine z_iconst (nI 1) dX5_withdrawOffer_16 rfl ?_
    refine z_icmp_eq 23 dX5_withdrawOffer_17 rfl (fun c17 => ?_) (fun c17 => ?_)
    · refine z_aload_n 2 rfl rfl dX5_withdrawOffer_23 ?_
      refine zC_R5 hp (by omega) rfl zf_X5_146 dX5_withdrawOffer_24 ?_
      rw [kAsk_1 c17]
      refine z_istore_n 3 rfl (Nat.le_of_ble_eq_true rfl) rfl dX5_withdrawOffer_27 ?_
      refine z_aload_n 2 rfl rfl dX5_withdrawOffer_28 ?_
      refine z_iconst (nI 0) dX5_withdrawOffer_29 rfl ?_
      refine z_iconst (nI 0) dX5_withdrawOffer_30 rfl ?_
      refine z_vV2 (ci := 4) zm_X4_turnTo (c_X4_turnTo hp _ _ _ (-5) (by omega) (fun q => absurd q (by decide)) (fun _ => rfl)) rfl zl_X5_156 rfl rfl (by decide) (hp.at (j := 30 + _) (Or.inr (by omega))).1 ((hp.at (j := 30 + _) (Or.inr (by omega))).2.trans (zBsh_r (by omega))) (by decide) (Nat.le_of_ble_eq_true rfl) dX5_withdrawOffer_31 (fun mm hp => ?_)
      have hp : zCV G B m0 (sBec v r (nI 0)) mm := hp
      refine z_iload_n 3 rfl rfl dX5_withdrawOffer_34 ?_
      have e9 : sTk v (nI r) = (v (147 + 7 * r + 4), sBec v r (nI 0), true) := by simp only [sTk, cy, znr, and_self, and_true, true_and, and_false, false_and, reduceIte, Bool.false_eq_true, reduceCtorEq]; rw [if_pos c17]
      exact z_iret dX5_withdrawOffer_35 (by rw [e9]) (by rw [e9]; exact hp)
    · refine z_bipush (-4) dX5_withdrawOffer_20 (by decide) ?_
      have e9 : sTk v (nI r) = (-4, v, false) := by simp only [sTk, cy, znr, and_self, and_true, true_and, and_false, false_and, reduceIte, Bool.false_eq_true, reduceCtorEq]; rw [if_neg c17]
      exact z_iret dX5_withdrawOffer_22 (by rw [e9]) (by rw [e9]; exact hp)
  · have cyf : zIn x (nI 0) (v 2 - nI 1) = false := by simpa using cy
    refine z_pV1 (ci := 5) zm_X5_rightRow (c_X5_rightRowN hp _ hH.1.2.1 cyf) rfl zl_X5_164 rfl rfl (by decide) (hp.at (j := 0) (Or.inl (by decide))).1 (hp.at (j := 0) (Or.inl (by decide))).2 (by decide) (Nat.le_of_ble_eq_true rfl) dX5_withdrawOffer_2 ?_
    refine z_astore_nN 2 rfl (Nat.le_of_ble_eq_true rfl) rfl dX5_withdrawOffer_5 ?_
    refine z_aload_nN 2 rfl rfl dX5_withdrawOffer_6 ?_
    refine z_ifnonnullN dX5_withdrawOffer_7 ?_
    refine z_iconst (-1) dX5_withdrawOffer_10 (by decide) ?_
    have e9 : sTk v x = (-1, v, false) := by simp only [sTk, cyf, and_self, and_true, true_and, and_false, false_and, reduceIte, Bool.false_eq_true, reduceCtorEq]
    exact z_iret dX5_withdrawOffer_11 (by rw [e9]) (by rw [e9]; exact hp)
set_option maxRecDepth 4000 in
theorem c_X5_exerciseRight {l : Launch} {G : zG} {B : Nat → Nat} {m0 mm : zM} {v : Nat → Int32} (hp : zCV G B m0 v mm) (x : Int32) (hH : zH v) : zSem l G (yX5_exerciseRight, cX5_exerciseRight, 5, (some .int)) 3 [.ref (B 0), .int x] mm (some (.int (sDoEx v x).1)) (fun m' => zCV G B m0 ((sDoEx v x).2) m') := by
  have hd10 := hH.1.1.2
  have hJ := hH.1.2.1
  have hJ2 := hJ.2
  obtain ⟨e8, he8, ee8⟩ := hH.2.2.2.2.2.2
  refine z_met [some (.ref (B 0)), some (.int x), none, none, none] rfl (zc1 (by rfl)) (Nat.le_of_ble_eq_true rfl) rfl ?_
  refine z_aload_n 0 rfl rfl dX5_exerciseRight_0 ?_
  refine z_iload_n 1 rfl rfl dX5_exerciseRight_1 ?_
  by_cases cy : zIn x (nI 0) (v 2 - nI 1) = true
  · obtain ⟨r, d, g, hr, rfl, hd, e0, hg, e1⟩ := zRt hH.1 cy
    have znr := zn_nI (show r < 2 ^ 31 by omega)
    have znd := zn_nI (show d < 2 ^ 31 by omega)
    have zng := zn_nI (show g < 2 ^ 31 by omega)
    obtain ⟨⟨s, hs5, e3⟩, -, ea1, ea0⟩ := hH.2.2.2.2.1 r hr
    refine z_pV1 (ci := 5) zm_X5_rightRow (c_X5_rightRow hp r hH.1.2.1 hr) rfl zl_X5_164 rfl rfl (by decide) (hp.at (j := 0) (Or.inl (by decide))).1 (hp.at (j := 0) (Or.inl (by decide))).2 (by decide) (Nat.le_of_ble_eq_true rfl) dX5_exerciseRight_2 ?_
    refine z_astore_n 2 rfl (Nat.le_of_ble_eq_true rfl) rfl dX5_exerciseRight_5 ?_
    refine z_aload_n 2 rfl rfl dX5_exerciseRight_6 ?_
    refine z_ifnonnull 12 dX5_exerciseRight_7 rfl ?_
    refine z_aload_n 0 rfl rfl dX5_exerciseRight_12 ?_
    refine z_aload_n 2 rfl rfl dX5_exerciseRight_13 ?_
    refine zC_R1 hp (by omega) rfl zf_X5_172 dX5_exerciseRight_14 ?_
    rw [e0]
    refine z_pV1 (ci := 5) zm_X5_dateRow (c_X5_dateRow hp d hH.1.1 hd) rfl zl_X5_124 rfl rfl (by decide) (hp.at (j := 0) (Or.inl (by decide))).1 (hp.at (j := 0) (Or.inl (by decide))).2 (by decide) (Nat.le_of_ble_eq_true rfl) dX5_exerciseRight_17 ?_
    refine z_astore_n 3 rfl (Nat.le_of_ble_eq_true rfl) rfl dX5_exerciseRight_20 ?_
    refine z_aload_n 3 rfl rfl dX5_exerciseRight_21 ?_
    refine z_ifnull dX5_exerciseRight_22 ?_
    refine z_aload_n 0 rfl rfl dX5_exerciseRight_25 ?_
    refine z_aload_n 2 rfl rfl dX5_exerciseRight_26 ?_
    refine z_aload_n 3 rfl rfl dX5_exerciseRight_27 ?_
    refine z_pV2 (ci := 5) zm_X5_canBeExercised (c_X5_canBeExercised hp _ _ hH (by omega) (by omega)) rfl zl_X5_185 rfl rfl (by decide) (hp.at (j := 0) (Or.inl (by decide))).1 (hp.at (j := 0) (Or.inl (by decide))).2 (by decide) (Nat.le_of_ble_eq_true rfl) dX5_exerciseRight_28 ?_
    refine z_if_neB 37 dX5_exerciseRight_31 rfl (fun c31 => ?_) (fun c31 => ?_)
    · refine z_aload_n 0 rfl rfl dX5_exerciseRight_37 ?_
      refine zC_S1 hp rfl zf_X5_18 dX5_exerciseRight_38 ?_
      refine z_iconst (nI 3) dX5_exerciseRight_41 rfl ?_
      refine zC_a1 hp (by omega) dX5_exerciseRight_42 ?_
      refine z_istore 4 (Nat.le_of_ble_eq_true rfl) rfl dX5_exerciseRight_43 ?_
      refine z_aload_n 2 rfl rfl dX5_exerciseRight_45 ?_
      refine z_iconst (nI 2) dX5_exerciseRight_46 rfl ?_
      refine z_iconst (nI 0) dX5_exerciseRight_47 rfl ?_
      refine z_vV2 (ci := 4) zm_X4_turnTo (c_X4_turnTo hp _ _ _ (-5) (by omega) (fun q => absurd q (by decide)) (fun _ => rfl)) rfl zl_X5_156 rfl rfl (by decide) (hp.at (j := 30 + _) (Or.inr (by omega))).1 ((hp.at (j := 30 + _) (Or.inr (by omega))).2.trans (zBsh_r (by omega))) (by decide) (Nat.le_of_ble_eq_true rfl) dX5_exerciseRight_48 (fun mm hp => ?_)
      have hp : zCV G B m0 (sBec v r (nI 2)) mm := hp
      refine z_aload_n 0 rfl rfl dX5_exerciseRight_51 ?_
      refine z_aload_n 2 rfl rfl dX5_exerciseRight_52 ?_
      refine zC_R2 hp (by omega) rfl zf_X5_143 dX5_exerciseRight_53 ?_
      rw [show sBec v r (nI 2) (147 + 7 * r + 1) = nI g by rw [sBec_at (by omega) (by omega)]; exact e1]
      refine z_iload 4 rfl dX5_exerciseRight_56 ?_
      refine z_ineg dX5_exerciseRight_58 ?_
      refine z_vV2 (ci := 5) zm_X5_give (c_X5_give hp _ _ (by omega)) rfl zl_X5_149 rfl rfl (by decide) (hp.at (j := 0) (Or.inl (by decide))).1 (hp.at (j := 0) (Or.inl (by decide))).2 (by decide) (Nat.le_of_ble_eq_true rfl) dX5_exerciseRight_59 (fun mm hp => ?_)
      rw [Int32.neg_neg, sPays_bec hg] at hp
      have e8b : sBec (sPays v g (v 6)) r (nI 2) 8 = nI e8 := by rw [sBec_at (by omega) (by omega), sPays_at (by omega) (by omega)]; exact ee8
      have e6b : sBec (sPays v g (v 6)) r (nI 2) 6 = v 6 := by rw [sBec_at (by omega) (by omega), sPays_at (by omega) (by omega)]
      refine z_aload_n 0 rfl rfl dX5_exerciseRight_62 ?_
      refine z_iconst (nI 3) dX5_exerciseRight_63 rfl ?_
      refine z_aload_n 2 rfl rfl dX5_exerciseRight_64 ?_
      refine z_iload 4 rfl dX5_exerciseRight_65 ?_
      refine z_vV3 (ci := 5) zm_X5_log (c_X5_log hp _ _ _ _ (by omega) he8 e8b) rfl zl_X5_159 rfl rfl (by decide) (hp.at (j := 0) (Or.inl (by decide))).1 (hp.at (j := 0) (Or.inl (by decide))).2 (by decide) (Nat.le_of_ble_eq_true rfl) dX5_exerciseRight_67 (fun mm hp => ?_)
      have hp : zCV G B m0 (sEx1 v r g) mm := by unfold sEx1; rw [e6b]; exact hp
      have hJ1 := (((hH.pays (c := v 6) hg).bec (r := r) (q := 2) (by omega) (by omega)).log (k := nI 3) (r := nI r) (c := sBec (sPays v g (v 6)) r (nI 2) 6)).1.2.1
      refine z_aload_n 0 rfl rfl dX5_exerciseRight_70 ?_
      refine z_aload_n 3 rfl rfl dX5_exerciseRight_71 ?_
      refine z_iconst (nI 2) dX5_exerciseRight_72 rfl ?_
      refine z_pV2 (ci := 5) zm_X5_rightsIn (c_X5_rightsIn hp _ _ _ (Or.inl ⟨rfl, by omega⟩) hJ1) rfl zl_X5_189 rfl rfl (by decide) (hp.at (j := 0) (Or.inl (by decide))).1 (hp.at (j := 0) (Or.inl (by decide))).2 (by decide) (Nat.le_of_ble_eq_true rfl) dX5_exerciseRight_73 ?_
      have e9 : sDoEx v (nI r) = (nI (sOf (sEx1 v r g) d (nI 2) (nI 2)), sEx1 v r g) := by simp only [sDoEx, cy, znr, e0, e1, znd, zng, c31, and_self, and_true, true_and, and_false, false_and, reduceIte, Bool.false_eq_true, reduceCtorEq]
      exact z_iret dX5_exerciseRight_76 (by rw [e9]) (by rw [e9]; exact hp)
    · refine z_bipush (-4) dX5_exerciseRight_34 (by decide) ?_
      have e9 : sDoEx v (nI r) = (-4, v) := by simp only [sDoEx, cy, znr, e0, znd, c31, and_self, and_true, true_and, and_false, false_and, reduceIte, Bool.false_eq_true, reduceCtorEq]
      exact z_iret dX5_exerciseRight_36 (by rw [e9]) (by rw [e9]; exact hp)
  · have cyf : zIn x (nI 0) (v 2 - nI 1) = false := by simpa using cy
    refine z_pV1 (ci := 5) zm_X5_rightRow (c_X5_rightRowN hp _ hH.1.2.1 cyf) rfl zl_X5_164 rfl rfl (by decide) (hp.at (j := 0) (Or.inl (by decide))).1 (hp.at (j := 0) (Or.inl (by decide))).2 (by decide) (Nat.le_of_ble_eq_true rfl) dX5_exerciseRight_2 ?_
    refine z_astore_nN 2 rfl (Nat.le_of_ble_eq_true rfl) rfl dX5_exerciseRight_5 ?_
    refine z_aload_nN 2 rfl rfl dX5_exerciseRight_6 ?_
    refine z_ifnonnullN dX5_exerciseRight_7 ?_
    refine z_iconst (-1) dX5_exerciseRight_10 (by decide) ?_
    have e9 : sDoEx v x = (-1, v) := by simp only [sDoEx, cyf, and_self, and_true, true_and, and_false, false_and, reduceIte, Bool.false_eq_true, reduceCtorEq]
    exact z_iret dX5_exerciseRight_11 (by rw [e9]) (by rw [e9]; exact hp)
set_option maxRecDepth 4000 in
theorem c_X5_joinList {l : Launch} {G : zG} {B : Nat → Nat} {m0 mm : zM} {v : Nat → Int32} (hp : zCV G B m0 v mm) (x y : Int32) (hH : zH v) : zSem l G (yX5_joinList, cX5_joinList, 4, (some .int)) 2 [.ref (B 0), .int x, .int y] mm (some (.int (sAw v x y).1)) (fun m' => zCV G B m0 ((sAw v x y).2.1) m') := by
  have hd10 := hH.1.1.2
  have hJ := hH.1.2.1
  have hJ2 := hJ.2
  obtain ⟨e8, he8, ee8⟩ := hH.2.2.2.2.2.2
  refine z_met [some (.ref (B 0)), some (.int x), some (.int y), none] rfl (zc1 (by rfl)) (Nat.le_of_ble_eq_true rfl) rfl ?_
  refine z_aload_n 0 rfl rfl dX5_joinList_0 ?_
  refine z_iload_n 2 rfl rfl dX5_joinList_1 ?_
  by_cases cy : zIn y (nI 0) (v 1 - nI 1) = true
  · obtain ⟨d, hd, rfl⟩ := zDt hH.1 cy
    have znd := zn_nI (show d < 2 ^ 31 by omega)
    obtain ⟨w, hw5, h5, -⟩ := hH.1.2.2.1 d (by omega)
    have znw := zn_nI (show w < 2 ^ 31 by omega)
    refine z_pV1 (ci := 5) zm_X5_dateRow (c_X5_dateRow hp d hH.1.1 hd) rfl zl_X5_124 rfl rfl (by decide) (hp.at (j := 0) (Or.inl (by decide))).1 (hp.at (j := 0) (Or.inl (by decide))).2 (by decide) (Nat.le_of_ble_eq_true rfl) dX5_joinList_2 ?_
    refine z_astore_n 3 rfl (Nat.le_of_ble_eq_true rfl) rfl dX5_joinList_5 ?_
    refine z_iload_n 1 rfl rfl dX5_joinList_6 ?_
    refine z_pN1 zm_X6_isHolder (c_X6_isHolder _) rfl zl_X5_128 (by decide) (Nat.le_of_ble_eq_true rfl) dX5_joinList_7 ?_
    refine z_if_eqB 17 dX5_joinList_10 rfl (fun c10 => ?_) (fun c10 => ?_)
    · have e9 : sAw v x (nI d) = (-1, v, false) := by simp only [sAw, c10, and_self, and_true, true_and, and_false, false_and, reduceIte, Bool.false_eq_true, reduceCtorEq]
      refine z_iconst (-1) dX5_joinList_17 (by decide) ?_
      exact z_iret dX5_joinList_18 (by rw [e9]) (by rw [e9]; exact hp)
    · obtain ⟨h, hh, rfl⟩ := zIn_nI (by decide) c10
      have znh := zn_nI (show h < 2 ^ 31 by omega)
      refine z_aload_n 3 rfl rfl dX5_joinList_13 ?_
      refine z_ifnonnull 19 dX5_joinList_14 rfl ?_
      refine z_aload_n 0 rfl rfl dX5_joinList_19 ?_
      refine z_aload_n 3 rfl rfl dX5_joinList_20 ?_
      refine z_pV1 (ci := 5) zm_X5_isOpen (c_X5_isOpen hp _ hH (by omega)) rfl zl_X5_131 rfl rfl (by decide) (hp.at (j := 0) (Or.inl (by decide))).1 (hp.at (j := 0) (Or.inl (by decide))).2 (by decide) (Nat.le_of_ble_eq_true rfl) dX5_joinList_21 ?_
      refine z_if_eqB 35 dX5_joinList_24 rfl (fun c24 => ?_) (fun c24 => ?_)
      · refine z_bipush (-4) dX5_joinList_35 (by decide) ?_
        have e9 : sAw v (nI h) (nI d) = (-4, v, false) := by first | (simp only [sAw, c10, cy, znd, c24, and_self, and_true, true_and, and_false, false_and, reduceIte, Bool.false_eq_true, reduceCtorEq]; done) | (simp only [sAw, c10, cy, znd, c24, h5, znw, and_self, and_true, true_and, and_false, false_and, reduceIte, Bool.false_eq_true, reduceCtorEq]; rw [if_neg c32])
        exact z_iret dX5_joinList_37 (by rw [e9]) (by rw [e9]; exact hp)
      · refine z_aload_n 3 rfl rfl dX5_joinList_27 ?_
        refine z_iload_n 1 rfl rfl dX5_joinList_28 ?_
        refine z_pV1 (ci := 0) zm_X0_placeOf (c_X0_placeOf hp _ w _ (by omega) h5 hw5 (hH.2.2.2.2.2.1 d (by omega))) rfl zl_X5_193 rfl rfl (by decide) (hp.at (j := 10 + _) (Or.inr (by omega))).1 ((hp.at (j := 10 + _) (Or.inr (by omega))).2.trans (zBsh_d (by omega))) (by decide) (Nat.le_of_ble_eq_true rfl) dX5_joinList_29 ?_
        refine z_if_lt 38 dX5_joinList_32 rfl (fun c32 => ?_) (fun c32 => ?_)
        · refine z_aload_n 3 rfl rfl dX5_joinList_38 ?_
          refine z_iload_n 1 rfl rfl dX5_joinList_39 ?_
          refine z_uV1 (ci := 0) zm_X0_appendToList (c_X0_appendToList hp _ w _ (by omega) h5 hw5) rfl zl_X5_197 rfl rfl (by decide) (hp.at (j := 10 + _) (Or.inr (by omega))).1 ((hp.at (j := 10 + _) (Or.inr (by omega))).2.trans (zBsh_d (by omega))) (by decide) (Nat.le_of_ble_eq_true rfl) dX5_joinList_40 (fun mm hp => ?_)
          have e9 : sAw v (nI h) (nI d) = if w = 6 then (-3, v, false) else (nI (w + 1), sAw1 v d w (nI h), true) := by
            simp only [sAw, c10, cy, znd, c24, h5, znw, and_self, and_true, true_and, and_false, false_and, reduceIte, Bool.false_eq_true, reduceCtorEq]
            rw [if_pos c32]
            by_cases q : w = 6
            · subst q; rw [if_pos rfl, if_pos rfl]
            · rw [if_neg q, if_neg (fun z => q ((nI_eq (by omega) (by omega)).mp z))]
          by_cases q6 : w = 6
          · rw [if_pos q6] at e9 hp ⊢
            exact z_iret dX5_joinList_43 (by rw [e9]) (by rw [e9]; exact hp)
          rw [if_neg q6] at e9 hp ⊢
          exact z_iret dX5_joinList_43 (by rw [e9]) (by rw [e9]; exact hp)
        · refine z_bipush (-4) dX5_joinList_35 (by decide) ?_
          have e9 : sAw v (nI h) (nI d) = (-4, v, false) := by first | (simp only [sAw, c10, cy, znd, c24, and_self, and_true, true_and, and_false, false_and, reduceIte, Bool.false_eq_true, reduceCtorEq]; done) | (simp only [sAw, c10, cy, znd, c24, h5, znw, and_self, and_true, true_and, and_false, false_and, reduceIte, Bool.false_eq_true, reduceCtorEq]; rw [if_neg c32])
          exact z_iret dX5_joinList_37 (by rw [e9]) (by rw [e9]; exact hp)
  · have cyf : zIn y (nI 0) (v 1 - nI 1) = false := by simpa using cy
    refine z_pV1 (ci := 5) zm_X5_dateRow (c_X5_dateRowN hp _ hH.1.1 cyf) rfl zl_X5_124 rfl rfl (by decide) (hp.at (j := 0) (Or.inl (by decide))).1 (hp.at (j := 0) (Or.inl (by decide))).2 (by decide) (Nat.le_of_ble_eq_true rfl) dX5_joinList_2 ?_
    refine z_astore_nN 3 rfl (Nat.le_of_ble_eq_true rfl) rfl dX5_joinList_5 ?_
    refine z_iload_n 1 rfl rfl dX5_joinList_6 ?_
    refine z_pN1 zm_X6_isHolder (c_X6_isHolder _) rfl zl_X5_128 (by decide) (Nat.le_of_ble_eq_true rfl) dX5_joinList_7 ?_
    refine z_if_eqB 17 dX5_joinList_10 rfl (fun c10 => ?_) (fun c10 => ?_)
    · have e9 : sAw v x y = (-1, v, false) := by simp only [sAw, c10, and_self, and_true, true_and, and_false, false_and, reduceIte, Bool.false_eq_true, reduceCtorEq]
      refine z_iconst (-1) dX5_joinList_17 (by decide) ?_
      exact z_iret dX5_joinList_18 (by rw [e9]) (by rw [e9]; exact hp)
    · obtain ⟨h, hh, rfl⟩ := zIn_nI (by decide) c10
      have znh := zn_nI (show h < 2 ^ 31 by omega)
      refine z_aload_nN 3 rfl rfl dX5_joinList_13 ?_
      refine z_ifnonnullN dX5_joinList_14 ?_
      have e9 : sAw v (nI h) y = (-1, v, false) := by simp only [sAw, c10, cyf, and_self, and_true, true_and, and_false, false_and, reduceIte, Bool.false_eq_true, reduceCtorEq]
      refine z_iconst (-1) dX5_joinList_17 (by decide) ?_
      exact z_iret dX5_joinList_18 (by rw [e9]) (by rw [e9]; exact hp)
set_option maxRecDepth 4000 in
theorem c_X5_quitList {l : Launch} {G : zG} {B : Nat → Nat} {m0 mm : zM} {v : Nat → Int32} (hp : zCV G B m0 v mm) (x y : Int32) (hH : zH v) : zSem l G (yX5_quitList, cX5_quitList, 5, (some .int)) 2 [.ref (B 0), .int x, .int y] mm (some (.int (sLv v x y).1)) (fun m' => zCV G B m0 ((sLv v x y).2.1) m') := by
  have hd10 := hH.1.1.2
  have hJ := hH.1.2.1
  have hJ2 := hJ.2
  obtain ⟨e8, he8, ee8⟩ := hH.2.2.2.2.2.2
  refine z_met [some (.ref (B 0)), some (.int x), some (.int y), none, none] rfl (zc1 (by rfl)) (Nat.le_of_ble_eq_true rfl) rfl ?_
  refine z_aload_n 0 rfl rfl dX5_quitList_0 ?_
  refine z_iload_n 2 rfl rfl dX5_quitList_1 ?_
  by_cases cy : zIn y (nI 0) (v 1 - nI 1) = true
  · obtain ⟨d, hd, rfl⟩ := zDt hH.1 cy
    have znd := zn_nI (show d < 2 ^ 31 by omega)
    obtain ⟨w, hw5, h5, -⟩ := hH.1.2.2.1 d (by omega)
    have znw := zn_nI (show w < 2 ^ 31 by omega)
    refine z_pV1 (ci := 5) zm_X5_dateRow (c_X5_dateRow hp d hH.1.1 hd) rfl zl_X5_124 rfl rfl (by decide) (hp.at (j := 0) (Or.inl (by decide))).1 (hp.at (j := 0) (Or.inl (by decide))).2 (by decide) (Nat.le_of_ble_eq_true rfl) dX5_quitList_2 ?_
    refine z_astore_n 3 rfl (Nat.le_of_ble_eq_true rfl) rfl dX5_quitList_5 ?_
    refine z_iload_n 1 rfl rfl dX5_quitList_6 ?_
    refine z_pN1 zm_X6_isHolder (c_X6_isHolder _) rfl zl_X5_128 (by decide) (Nat.le_of_ble_eq_true rfl) dX5_quitList_7 ?_
    refine z_if_eqB 17 dX5_quitList_10 rfl (fun c10 => ?_) (fun c10 => ?_)
    · have e9 : sLv v x (nI d) = (-1, v, false) := by simp only [sLv, c10, and_self, and_true, true_and, and_false, false_and, reduceIte, Bool.false_eq_true, reduceCtorEq]
      refine z_iconst (-1) dX5_quitList_17 (by decide) ?_
      exact z_iret dX5_quitList_18 (by rw [e9]) (by rw [e9]; exact hp)
    · obtain ⟨h, hh, rfl⟩ := zIn_nI (by decide) c10
      have znh := zn_nI (show h < 2 ^ 31 by omega)
      refine z_aload_n 3 rfl rfl dX5_quitList_13 ?_
      refine z_ifnonnull 19 dX5_quitList_14 rfl ?_
      refine z_aload_n 3 rfl rfl dX5_quitList_19 ?_
      refine z_iload_n 1 rfl rfl dX5_quitList_20 ?_
      refine z_pV1 (ci := 0) zm_X0_placeOf (c_X0_placeOf hp _ w _ (by omega) h5 hw5 (hH.2.2.2.2.2.1 d (by omega))) rfl zl_X5_193 rfl rfl (by decide) (hp.at (j := 10 + _) (Or.inr (by omega))).1 ((hp.at (j := 10 + _) (Or.inr (by omega))).2.trans (zBsh_d (by omega))) (by decide) (Nat.le_of_ble_eq_true rfl) dX5_quitList_21 ?_
      refine z_istore 4 (Nat.le_of_ble_eq_true rfl) rfl dX5_quitList_24 ?_
      refine z_aload_n 3 rfl rfl dX5_quitList_26 ?_
      refine z_iload 4 rfl dX5_quitList_27 ?_
      by_cases cq : sPl v d (nI h) w < 0
      · refine z_vV1 (ci := 0) zm_X0_removeFromList (c_X0_removeNone hp d _ cq) rfl zl_X5_200 rfl rfl (by decide) (hp.at (j := 10 + _) (Or.inr (by omega))).1 ((hp.at (j := 10 + _) (Or.inr (by omega))).2.trans (zBsh_d (by omega))) (by decide) (Nat.le_of_ble_eq_true rfl) dX5_quitList_29 (fun mm1 hm1 => ?_)
        subst hm1
        refine z_iload 4 rfl dX5_quitList_32 ?_
        have e9 : sLv v (nI h) (nI d) = (sPl v d (nI h) w, if sPl v d (nI h) w < 0 then v else sDrop v d (zn (sPl v d (nI h) w)) w, !decide (sPl v d (nI h) w < 0)) := by
          simp only [sLv, c10, cy, znd, h5, znw, and_self, and_true, true_and, and_false, false_and, reduceIte, Bool.false_eq_true, reduceCtorEq]
          by_cases q : sPl v d (nI h) w < 0
          · rw [if_pos q, if_pos q, decide_eq_true q]; rfl
          · rw [if_neg q, if_neg q, decide_eq_false q]; rfl
        exact z_iret dX5_quitList_34 (by rw [e9] <;> first | rfl | rw [ep]) (by rw [e9]; first | (show zCV G B m0 (if sPl v d (nI h) w < 0 then v else _) _; rw [if_pos cq]; exact hp) | (show zCV G B m0 (if sPl v d (nI h) w < 0 then v else _) _; rw [if_neg cq, ep, znp]; exact hp))
      · obtain ⟨p, hpw, ep⟩ := sPl_nn cq hw5
        have znp := zn_nI (show p < 2 ^ 31 by omega)
        rw [ep]
        refine z_vV1 (ci := 0) zm_X0_removeFromList (c_X0_removeFromList hp d p w (by omega) hw5 hpw h5) rfl zl_X5_200 rfl rfl (by decide) (hp.at (j := 10 + _) (Or.inr (by omega))).1 ((hp.at (j := 10 + _) (Or.inr (by omega))).2.trans (zBsh_d (by omega))) (by decide) (Nat.le_of_ble_eq_true rfl) dX5_quitList_29 (fun mm hp => ?_)
        refine z_iload 4 rfl dX5_quitList_32 ?_
        have e9 : sLv v (nI h) (nI d) = (sPl v d (nI h) w, if sPl v d (nI h) w < 0 then v else sDrop v d (zn (sPl v d (nI h) w)) w, !decide (sPl v d (nI h) w < 0)) := by
          simp only [sLv, c10, cy, znd, h5, znw, and_self, and_true, true_and, and_false, false_and, reduceIte, Bool.false_eq_true, reduceCtorEq]
          by_cases q : sPl v d (nI h) w < 0
          · rw [if_pos q, if_pos q, decide_eq_true q]; rfl
          · rw [if_neg q, if_neg q, decide_eq_false q]; rfl
        exact z_iret dX5_quitList_34 (by rw [e9] <;> first | rfl | rw [ep]) (by rw [e9]; first | (show zCV G B m0 (if sPl v d (nI h) w < 0 then v else _) _; rw [if_pos cq]; exact hp) | (show zCV G B m0 (if sPl v d (nI h) w < 0 then v else _) _; rw [if_neg cq, ep, znp]; exact hp))
  · have cyf : zIn y (nI 0) (v 1 - nI 1) = false := by simpa using cy
    refine z_pV1 (ci := 5) zm_X5_dateRow (c_X5_dateRowN hp _ hH.1.1 cyf) rfl zl_X5_124 rfl rfl (by decide) (hp.at (j := 0) (Or.inl (by decide))).1 (hp.at (j := 0) (Or.inl (by decide))).2 (by decide) (Nat.le_of_ble_eq_true rfl) dX5_quitList_2 ?_
    refine z_astore_nN 3 rfl (Nat.le_of_ble_eq_true rfl) rfl dX5_quitList_5 ?_
    refine z_iload_n 1 rfl rfl dX5_quitList_6 ?_
    refine z_pN1 zm_X6_isHolder (c_X6_isHolder _) rfl zl_X5_128 (by decide) (Nat.le_of_ble_eq_true rfl) dX5_quitList_7 ?_
    refine z_if_eqB 17 dX5_quitList_10 rfl (fun c10 => ?_) (fun c10 => ?_)
    · have e9 : sLv v x y = (-1, v, false) := by simp only [sLv, c10, and_self, and_true, true_and, and_false, false_and, reduceIte, Bool.false_eq_true, reduceCtorEq]
      refine z_iconst (-1) dX5_quitList_17 (by decide) ?_
      exact z_iret dX5_quitList_18 (by rw [e9]) (by rw [e9]; exact hp)
    · obtain ⟨h, hh, rfl⟩ := zIn_nI (by decide) c10
      have znh := zn_nI (show h < 2 ^ 31 by omega)
      refine z_aload_nN 3 rfl rfl dX5_quitList_13 ?_
      refine z_ifnonnullN dX5_quitList_14 ?_
      have e9 : sLv v (nI h) y = (-1, v, false) := by simp only [sLv, c10, cyf, and_self, and_true, true_and, and_false, false_and, reduceIte, Bool.false_eq_true, reduceCtorEq]
      refine z_iconst (-1) dX5_quitList_17 (by decide) ?_
      exact z_iret dX5_quitList_18 (by rw [e9]) (by rw [e9]; exact hp)
