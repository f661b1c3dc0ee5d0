set_option maxRecDepth 4000 in
theorem l_X5_coverRightsOf {l : Launch} {G : zG} {B : Nat → Nat} {m0 : zM} (w d O p : Nat) (hO : O ≤ 60) (hp20 : p ≤ 20) : ∀ (N : Nat) (s : Int32) (i : Nat) (v : Nat → Int32) (mm : zM) (x5 : Option Value), zCV G B m0 v mm → zH v → zRw G B m0 v w d → d < nD v → v (27 + 12 * d + 1) = nI p → sOut v d + i = O → sOf v d (nI 0) (nI 1) ≤ N → zV l G (yX5_coverRightsOf, cX5_coverRightsOf, 6, (some .int)) 4 (some (.int (sCov d N s v).1)) (fun m' => zCV G B m0 (sCov d N s v).2 m') 16 [some (.ref (B 0)), some (.ref w), some (.int s), some (.int (nI O - nI p)), some (.int (nI i)), x5] [] mm := by
  intro N
  induction N using Nat.strongRecOn with
  | _ N ih =>
  intro s i v mm x5 hp hH hw hd eP hOi hN
  have hd10 := hH.1.1.2
  have hJ := hH.1.2.1
  have hJ2 := hJ.2
  obtain ⟨e8, he8, ee8⟩ := hH.2.2.2.2.2.2
  refine z_iload 4 rfl dX5_coverRightsOf_16 ?_
  refine z_iload_n 3 rfl rfl dX5_coverRightsOf_18 ?_
  refine z_icmp_ge 51 dX5_coverRightsOf_19 rfl (fun c19 => ?_) (fun c19 => ?_)
  · have e9 : sCov d N s v = (s, v) := by
      cases N with
      | zero => rfl
      | succ N =>
        unfold sCov
        exact if_neg (fun q => absurd c19 (i_not_le.mpr ((nI_lt_sub (by omega) (by omega) (by omega)).mpr (by have q1 := q.1; rw [eP] at q1; have := (nI_ltI (by omega) (by omega)).mp q1; omega))))
    refine z_iload_n 2 rfl rfl dX5_coverRightsOf_51 ?_
    exact z_iret dX5_coverRightsOf_52 (by rw [e9]) (by rw [e9]; exact hp)
  · have h13 : v (27 + 12 * d + 1) < nI (sOut v d) := by rw [eP]; exact nI_lt (by have := (nI_lt_sub (by omega) (by omega) (by omega)).mp (i_not_le.mp c19); omega) (by omega)
    refine z_aload_n 0 rfl rfl dX5_coverRightsOf_22 ?_
    refine z_aload_n 1 rfl rfl dX5_coverRightsOf_23 ?_
    by_cases cn : kNx v d = none
    · refine z_pV1 (ci := 5) zm_X5_nextToCover (c_X5_nextToCover hp _ d hw hJ) rfl zl_X5_223 rfl rfl (by decide) (hp.at (j := 0) (Or.inl (by decide))).1 (hp.at (j := 0) (Or.inl (by decide))).2 (by decide) (Nat.le_of_ble_eq_true rfl) dX5_coverRightsOf_24 ?_
      rw [cn]
      have e9 : sCov d N s v = (s, v) := by
        cases N with
        | zero => rfl
        | succ N =>
          unfold sCov
          exact if_neg (fun q => kNx_none cn (by rcases Nat.eq_zero_or_pos (sOf v d (nI 0) (nI 1)) with z | z; rw [z] at q; exact absurd q.2 (by decide); exact z))
      refine z_astoreN 5 (Nat.le_of_ble_eq_true rfl) rfl dX5_coverRightsOf_27 ?_
      refine z_aloadN 5 rfl dX5_coverRightsOf_29 ?_
      refine z_ifnonnullN dX5_coverRightsOf_31 ?_
      refine z_iload_n 2 rfl rfl dX5_coverRightsOf_34 ?_
      exact z_iret dX5_coverRightsOf_35 (by rw [e9]) (by rw [e9]; exact hp)
    · obtain ⟨r, ho⟩ := Option.ne_none_iff_exists'.mp cn
      obtain ⟨hr, h0, h3, hR, hC⟩ := kNx_some ho
      obtain ⟨-, g, hg, e1⟩ := hH.1.2.2.2.2 r hr
      refine z_pV1 (ci := 5) zm_X5_nextToCover (c_X5_nextToCover hp _ d hw hJ) rfl zl_X5_223 rfl rfl (by decide) (hp.at (j := 0) (Or.inl (by decide))).1 (hp.at (j := 0) (Or.inl (by decide))).2 (by decide) (Nat.le_of_ble_eq_true rfl) dX5_coverRightsOf_24 ?_
      rw [ho, show zRf B (some r) = Value.ref (B (30 + r)) from rfl]
      refine z_astore 5 (Nat.le_of_ble_eq_true rfl) rfl dX5_coverRightsOf_27 ?_
      refine z_aload 5 rfl dX5_coverRightsOf_29 ?_
      refine z_ifnonnull 36 dX5_coverRightsOf_31 rfl ?_
      refine z_iload_n 2 rfl rfl dX5_coverRightsOf_36 ?_
      refine z_aload_n 0 rfl rfl dX5_coverRightsOf_37 ?_
      refine z_aload 5 rfl dX5_coverRightsOf_38 ?_
      refine z_uV1 (ci := 5) zm_X5_coverOne (c_X5_coverOne hp _ _ hH hr hg e1) rfl zl_X5_226 rfl rfl (by decide) (hp.at (j := 0) (Or.inl (by decide))).1 (hp.at (j := 0) (Or.inl (by decide))).2 (by decide) (Nat.le_of_ble_eq_true rfl) dX5_coverRightsOf_40 (fun mm hp => ?_)
      rw [← hC]
      rw [← hC] at hp
      refine z_iadd dX5_coverRightsOf_43 ?_
      refine z_istore_n 2 rfl (Nat.le_of_ble_eq_true rfl) rfl dX5_coverRightsOf_44 ?_
      refine z_iincN (n := 1) 4 rfl rfl dX5_coverRightsOf_45 ?_
      refine z_goto 16 dX5_coverRightsOf_48 rfl ?_
      have hcn := sCv2_cnt (c := sCvC v d) hJ hr hg h0 h3
      have hout := sCv2_out (c := sCvC v d) hJ hr hg h0 h3
      have hc : 0 < sOf v d (nI 0) (nI 1) := by omega
      have hN1 : ∃ N1, N = N1 + 1 := ⟨N - 1, by omega⟩
      obtain ⟨N1, rfl⟩ := hN1
      have e9 : sCov d (N1 + 1) s v = sCov d N1 (s + sCvC v d) (sCv2 v r g (sCvC v d)) := by
        conv => lhs; unfold sCov
        rw [if_pos (And.intro h13 (show (0 : Int32) < nI (sOf v d (nI 0) (nI 1)) from nI_lt (a := 0) hc (by have := sCnt_le (v := v) (d := d) (lo := nI 0) (hi := nI 1) (n := nR v); unfold sOf; omega)))]
        unfold sCv1
        rw [hR, e1, zn_nI (by omega)]
      rw [e9]
      exact ih N1 (by omega) _ (i + 1) _ _ _ hp (hH.cv2 hg) (hw.of (sCv2_at hg (by omega) (by omega) (by omega) (by omega) (by omega) (by omega))) (by have e1' : nD (sCv2 v r g (sCvC v d)) = nD v := nD_of (sCv2_at hg (by omega) (by omega) (by omega) (by omega) (by omega) (by omega)); omega) (by rw [sCv2_at hg (by omega) (by omega) (by omega) (by omega) (by omega) (by omega)]; exact eP) (by omega) (by omega)
set_option maxRecDepth 4000 in
theorem c_X5_coverRightsOf {l : Launch} {G : zG} {B : Nat → Nat} {m0 mm : zM} {v : Nat → Int32} (hp : zCV G B m0 v mm) (w d N : Nat) (hH : zH v) (hw : zRw G B m0 v w d) (hd : d < nD v) (hN : sOf v d (nI 0) (nI 1) ≤ N) : zSem l G (yX5_coverRightsOf, cX5_coverRightsOf, 6, (some .int)) 4 [.ref (B 0), .ref w] mm (some (.int (sCov d N (nI 0) v).1)) (fun m' => zCV G B m0 ((sCov d N (nI 0) v).2) m') := by
  have hd10 := hH.1.1.2
  have hJ := hH.1.2.1
  have hJ2 := hJ.2
  obtain ⟨e8, he8, ee8⟩ := hH.2.2.2.2.2.2
  obtain ⟨p, hp1, hp20, eP⟩ := (hH.2.2.2.1 d hd).2.1
  have hout : sOut v d ≤ 60 := Nat.le_trans sCnt_le hJ2
  refine z_met [some (.ref (B 0)), some (.ref w), none, none, none, none] rfl (zc1 (by rfl)) (Nat.le_of_ble_eq_true rfl) rfl ?_
  refine z_iconst (nI 0) dX5_coverRightsOf_0 rfl ?_
  refine z_istore_n 2 rfl (Nat.le_of_ble_eq_true rfl) rfl dX5_coverRightsOf_1 ?_
  refine z_aload_n 0 rfl rfl dX5_coverRightsOf_2 ?_
  refine z_aload_n 1 rfl rfl dX5_coverRightsOf_3 ?_
  refine z_pV1 (ci := 5) zm_X5_rightsOut (c_X5_rightsOut hp _ d hw hH) rfl zl_X5_220 rfl rfl (by decide) (hp.at (j := 0) (Or.inl (by decide))).1 (hp.at (j := 0) (Or.inl (by decide))).2 (by decide) (Nat.le_of_ble_eq_true rfl) dX5_coverRightsOf_4 ?_
  refine z_aload_n 1 rfl rfl dX5_coverRightsOf_7 ?_
  refine zC_w2 hw hp rfl zf_X5_92 dX5_coverRightsOf_8 ?_
  rw [eP]
  refine z_isub dX5_coverRightsOf_11 ?_
  refine z_istore_n 3 rfl (Nat.le_of_ble_eq_true rfl) rfl dX5_coverRightsOf_12 ?_
  refine z_iconst (nI 0) dX5_coverRightsOf_13 rfl ?_
  refine z_istore 4 (Nat.le_of_ble_eq_true rfl) rfl dX5_coverRightsOf_14 ?_
  exact l_X5_coverRightsOf w d (sOut v d) p hout hp20 N (nI 0) 0 v mm _ hp hH hw hd eP rfl hN
set_option maxRecDepth 4000 in
theorem l_X5_endDate {l : Launch} {G : zG} {B : Nat → Nat} {m0 : zM} {v : Nat → Int32} (d : Nat) (hH : zH v) (hd : d < 10) : ∀ i, i ≤ nR v → ∀ (n : Nat) (u : Nat → Int32) (hu : sLap v d i = (n, u)) (mm : zM) (hp : zCV G B m0 u mm), zV l G (yX5_endDate, cX5_endDate, 4, (some .int)) 2 (some (.int (nI (sLapses v d).1))) (fun m' => zCV G B m0 ((sLapses v d).2) m') 4 [some (.ref (B 0)), some (.ref (B (10 + d))), some (.int (nI n)), some (.int (nI i))] [] mm := by
  refine z_loop (nR v) (fun i hi ih n u hu mm hp => ?_)
  obtain ⟨-, e2, e1⟩ := sLap_nn hH.1 i n u hu
  have hHu := sLap_H hH i n u hu
  have h60 := hH.1.2.1.2
  have eu2 : u 2 = nI (nR v) := e2.trans hH.1.2.1.1
  have eRu : nR u = nR v := nR_of e2
  obtain ⟨e8, he8, ee8⟩ := hHu.2.2.2.2.2.2
  refine z_iload_n 3 rfl rfl dX5_endDate_4 ?_
  refine z_aload_n 0 rfl rfl dX5_endDate_5 ?_
  refine zC_S6 hp rfl zf_X5_76 dX5_endDate_6 ?_
  rw [eu2]
  refine z_icmp_ge 90 dX5_endDate_9 rfl (fun c9 => ?_) (fun c9 => ?_)
  · have e : i = nR v := by have := (nI_leI (by omega) (by omega)).mp c9; omega
    subst e
    refine z_aload_n 1 rfl rfl dX5_endDate_90 ?_
    refine z_iconst (nI 0) dX5_endDate_91 rfl ?_
    refine zC_Dp7 hp (by omega) rfl zf_X5_104 dX5_endDate_92 (fun mm hp => ?_)
    refine z_iload_n 2 rfl rfl dX5_endDate_95 ?_
    exact z_iret dX5_endDate_96 (by unfold sLapses; rw [hu]) (by unfold sLapses; rw [hu]; exact hp)
  · have hl : i < nR v := Nat.lt_of_not_le (fun q => c9 ((nI_leI (by omega) (by omega)).mpr (by omega)))
    refine z_iload_n 3 rfl rfl dX5_endDate_12 ?_
    refine z_aload_n 0 rfl rfl dX5_endDate_13 ?_
    refine zC_S7 hp rfl zf_X5_43 dX5_endDate_14 ?_
    refine zC_a6l hp dX5_endDate_17 ?_
    refine z_icmp_ge 90 dX5_endDate_18 rfl (fun c18 => ?_) (fun c18 => ?_)
    · exact absurd ((nI_leI (by omega) (by omega)).mp c18) (by omega)
    · refine z_aload_n 0 rfl rfl dX5_endDate_21 ?_
      refine zC_S7 hp rfl zf_X5_43 dX5_endDate_22 ?_
      refine z_iload_n 3 rfl rfl dX5_endDate_25 ?_
      refine zC_a6 hp (by omega) dX5_endDate_26 ?_
      refine zC_R1 hp (by omega) rfl zf_X5_172 dX5_endDate_27 ?_
      refine z_aload_n 1 rfl rfl dX5_endDate_30 ?_
      refine zC_D0 hp (by omega) rfl zf_X5_107 dX5_endDate_31 ?_
      refine z_icmp_ne 84 dX5_endDate_34 rfl (fun c34 => ?_) (fun c34 => ?_)
      · refine z_iincN (n := 1) 3 rfl rfl dX5_endDate_84 ?_
        refine z_goto 4 dX5_endDate_87 rfl ?_
        first | exact ih hl _ _ (by simp only [sLap, hu]; exact if_pos (And.intro c34 (of_decide_eq_true c46))) _ hp | exact ih hl _ _ (by simp only [sLap, hu]; exact if_neg (fun q => c34 q.1)) _ hp | exact ih hl _ _ (by simp only [sLap, hu]; exact if_neg (fun q => of_decide_eq_false c46 q.2)) _ hp
      · refine z_aload_n 0 rfl rfl dX5_endDate_37 ?_
        refine zC_S7 hp rfl zf_X5_43 dX5_endDate_38 ?_
        refine z_iload_n 3 rfl rfl dX5_endDate_41 ?_
        refine zC_a6 hp (by omega) dX5_endDate_42 ?_
        refine z_pV0 (ci := 4) zm_X4_isHeldOrOffered (c_X4_isHeldOrOffered hp _ (by omega) (hHu.2.2.2.2.1 i (by omega)).1) rfl zl_X5_178 rfl rfl (by decide) (hp.at (j := 30 + _) (Or.inr (by omega))).1 ((hp.at (j := 30 + _) (Or.inr (by omega))).2.trans (zBsh_r (by omega))) (by decide) (Nat.le_of_ble_eq_true rfl) dX5_endDate_43 ?_
        refine z_if_eqB 84 dX5_endDate_46 rfl (fun c46 => ?_) (fun c46 => ?_)
        · refine z_iincN (n := 1) 3 rfl rfl dX5_endDate_84 ?_
          refine z_goto 4 dX5_endDate_87 rfl ?_
          first | exact ih hl _ _ (by simp only [sLap, hu]; exact if_pos (And.intro c34 (of_decide_eq_true c46))) _ hp | exact ih hl _ _ (by simp only [sLap, hu]; exact if_neg (fun q => c34 q.1)) _ hp | exact ih hl _ _ (by simp only [sLap, hu]; exact if_neg (fun q => of_decide_eq_false c46 q.2)) _ hp
        · refine z_aload_n 0 rfl rfl dX5_endDate_49 ?_
          refine zC_S7 hp rfl zf_X5_43 dX5_endDate_50 ?_
          refine z_iload_n 3 rfl rfl dX5_endDate_53 ?_
          refine zC_a6 hp (by omega) dX5_endDate_54 ?_
          refine z_iconst (nI 5) dX5_endDate_55 rfl ?_
          refine z_iconst (nI 0) dX5_endDate_56 rfl ?_
          refine z_vV2 (ci := 4) zm_X4_turnTo (c_X4_turnTo hp _ _ _ (-5) (by omega) (fun q => absurd q (by decide)) (fun _ => rfl)) rfl zl_X5_156 rfl rfl (by decide) (hp.at (j := 30 + _) (Or.inr (by omega))).1 ((hp.at (j := 30 + _) (Or.inr (by omega))).2.trans (zBsh_r (by omega))) (by decide) (Nat.le_of_ble_eq_true rfl) dX5_endDate_57 (fun mm hp => ?_)
          have hp : zCV G B m0 (sBec u i (nI 5)) mm := hp
          have e8b : sBec u i (nI 5) 8 = nI e8 := by rw [sBec_at (by omega) (by omega)]; exact ee8
          refine z_aload_n 0 rfl rfl dX5_endDate_60 ?_
          refine z_bipush (nI 6) dX5_endDate_61 rfl ?_
          refine z_aload_n 0 rfl rfl dX5_endDate_63 ?_
          refine zC_S7 hp rfl zf_X5_43 dX5_endDate_64 ?_
          refine z_iload_n 3 rfl rfl dX5_endDate_67 ?_
          refine zC_a6 hp (by omega) dX5_endDate_68 ?_
          refine z_aload_n 0 rfl rfl dX5_endDate_69 ?_
          refine zC_S7 hp rfl zf_X5_43 dX5_endDate_70 ?_
          refine z_iload_n 3 rfl rfl dX5_endDate_73 ?_
          refine zC_a6 hp (by omega) dX5_endDate_74 ?_
          refine zC_R3 hp (by omega) rfl zf_X5_217 dX5_endDate_75 ?_
          refine z_vV3 (ci := 5) zm_X5_log (c_X5_log hp _ _ _ _ (by omega) he8 e8b) rfl zl_X5_159 rfl rfl (by decide) (hp.at (j := 0) (Or.inl (by decide))).1 (hp.at (j := 0) (Or.inl (by decide))).2 (by decide) (Nat.le_of_ble_eq_true rfl) dX5_endDate_78 (fun mm hp => ?_)
          refine z_iincN (n := 1) 2 rfl rfl dX5_endDate_81 ?_
          refine z_iincN (n := 1) 3 rfl rfl dX5_endDate_84 ?_
          refine z_goto 4 dX5_endDate_87 rfl ?_
          first | exact ih hl _ _ (by simp only [sLap, hu]; exact if_pos (And.intro c34 (of_decide_eq_true c46))) _ hp | exact ih hl _ _ (by simp only [sLap, hu]; exact if_neg (fun q => c34 q.1)) _ hp | exact ih hl _ _ (by simp only [sLap, hu]; exact if_neg (fun q => of_decide_eq_false c46 q.2)) _ hp
set_option maxRecDepth 4000 in
theorem c_X5_endDate {l : Launch} {G : zG} {B : Nat → Nat} {m0 mm : zM} {v : Nat → Int32} (hp : zCV G B m0 v mm) (d : Nat) (hH : zH v) (hd : d < 10) : zSem l G (yX5_endDate, cX5_endDate, 4, (some .int)) 2 [.ref (B 0), .ref (B (10 + d))] mm (some (.int (nI (sLapses v d).1))) (fun m' => zCV G B m0 ((sLapses v d).2) m') := by
  refine z_met [some (.ref (B 0)), some (.ref (B (10 + d))), none, none] rfl (zc1 (by rfl)) (Nat.le_of_ble_eq_true rfl) rfl ?_
  refine z_iconst (nI 0) dX5_endDate_0 rfl ?_
  refine z_istore_n 2 rfl (Nat.le_of_ble_eq_true rfl) rfl dX5_endDate_1 ?_
  refine z_iconst (nI 0) dX5_endDate_2 rfl ?_
  refine z_istore_n 3 rfl (Nat.le_of_ble_eq_true rfl) rfl dX5_endDate_3 ?_
  exact l_X5_endDate d hH hd 0 (Nat.zero_le _) 0 v rfl mm hp
set_option maxRecDepth 4000 in
theorem l_X5_passOneDay_c {l : Launch} {G : zG} {B : Nat → Nat} {m0 : zM} {v : Nat → Int32} (t : Nat) (hH : zH v) (hO : zOp v) (e0 : v 0 = nI t) (ht : t < 9999) : ∀ i, i ≤ nD v → ∀ (mm : zM) (hp : zCV G B m0 (sD3 (sDayB v) i) mm), zV l G (yX5_passOneDay, cX5_passOneDay, 3, (some .int)) 5 (some (.int (nI (sDayA v).1))) (fun m' => zCV G B m0 (sDayC v) m') 120 [some (.ref (B 0)), some (.int (nI (sDayA v).1)), some (.int (nI i))] [] mm := by
  refine z_loop (nD v) (fun i hi ih mm hp => ?_)
  have h10 := hH.1.1.2
  obtain ⟨-, ⟨k1, k2, k3, k4⟩, -⟩ := sDay_H hH hO e0 ht
  obtain ⟨hi1, -, -, eD⟩ := sD3_H k1 k2 i (by omega)
  have eD := eD.trans k4
  refine z_iload_n 2 rfl rfl dX5_passOneDay_120 ?_
  refine z_aload_n 0 rfl rfl dX5_passOneDay_121 ?_
  refine zC_S4 hp rfl zf_X5_69 dX5_passOneDay_122 ?_
  rw [show sD3 (sDayB v) i 1 = nI (nD v) by rw [hi1.1.1.1, eD]]
  refine z_icmp_ge 166 dX5_passOneDay_125 rfl (fun c125 => ?_) (fun c125 => ?_)
  · have e : i = nD v := by have := (nI_leI (by omega) (by omega)).mp c125; omega
    subst e
    refine z_iload_n 1 rfl rfl dX5_passOneDay_166 ?_
    exact z_iret dX5_passOneDay_167 rfl hp
  · have hl : i < nD v := Nat.lt_of_not_le (fun q => c125 ((nI_leI (by omega) (by omega)).mpr (by omega)))
    refine z_iload_n 2 rfl rfl dX5_passOneDay_128 ?_
    refine z_aload_n 0 rfl rfl dX5_passOneDay_129 ?_
    refine zC_S5 hp rfl zf_X5_37 dX5_passOneDay_130 ?_
    refine zC_a5l hp dX5_passOneDay_133 ?_
    refine z_icmp_ge 166 dX5_passOneDay_134 rfl (fun c134 => ?_) (fun c134 => ?_)
    · exact absurd ((nI_leI (by omega) (by omega)).mp c134) (by omega)
    · refine z_aload_n 0 rfl rfl dX5_passOneDay_137 ?_
      refine z_aload_n 0 rfl rfl dX5_passOneDay_138 ?_
      refine zC_S5 hp rfl zf_X5_37 dX5_passOneDay_139 ?_
      refine z_iload_n 2 rfl rfl dX5_passOneDay_142 ?_
      refine zC_a5 hp (by omega) dX5_passOneDay_143 ?_
      refine z_pV1 (ci := 5) zm_X5_isOpen (c_X5_isOpen hp i hi1 (by omega)) rfl zl_X5_131 rfl rfl (by decide) (hp.at (j := 0) (Or.inl (by decide))).1 (hp.at (j := 0) (Or.inl (by decide))).2 (by decide) (Nat.le_of_ble_eq_true rfl) dX5_passOneDay_144 ?_
      refine z_if_eqB 160 dX5_passOneDay_147 rfl (fun c147 => ?_) (fun c147 => ?_)
      · have e9 : sD3 (sDayB v) (i + 1) = sD3 (sDayB v) i := by rw [sD3]; exact sLB_no c147 _
        rw [← e9] at hp
        refine z_iincN (n := 1) 2 rfl rfl dX5_passOneDay_160 ?_
        refine z_goto 120 dX5_passOneDay_163 rfl ?_
        exact ih hl _ hp
      · obtain ⟨w, hw, h5, -⟩ := hi1.1.2.2.1 i (by omega)
        refine z_aload_n 0 rfl rfl dX5_passOneDay_150 ?_
        refine z_aload_n 0 rfl rfl dX5_passOneDay_151 ?_
        refine zC_S5 hp rfl zf_X5_37 dX5_passOneDay_152 ?_
        refine z_iload_n 2 rfl rfl dX5_passOneDay_155 ?_
        refine zC_a5 hp (by omega) dX5_passOneDay_156 ?_
        refine z_vV1 (ci := 5) zm_X5_letListBuy (c_X5_letListBuy hp i w hi1 (by omega) h5 hw) rfl zl_X5_175 rfl rfl (by decide) (hp.at (j := 0) (Or.inl (by decide))).1 (hp.at (j := 0) (Or.inl (by decide))).2 (by decide) (Nat.le_of_ble_eq_true rfl) dX5_passOneDay_157 (fun mm hp => ?_)
        have e9 : sD3 (sDayB v) (i + 1) = sLB i w (sD3 (sDayB v) i) := by rw [sD3, h5, zn_nI (by omega)]
        rw [← e9] at hp
        refine z_iincN (n := 1) 2 rfl rfl dX5_passOneDay_160 ?_
        refine z_goto 120 dX5_passOneDay_163 rfl ?_
        exact ih hl _ hp
set_option maxRecDepth 4000 in
theorem l_X5_passOneDay_b {l : Launch} {G : zG} {B : Nat → Nat} {m0 : zM} {v : Nat → Int32} (t : Nat) (hH : zH v) (hO : zOp v) (e0 : v 0 = nI t) (ht : t < 9999) : ∀ i, i ≤ nD v → ∀ (mm : zM) (hp : zCV G B m0 (sD2 (sDayA v).2 i) mm), zV l G (yX5_passOneDay, cX5_passOneDay, 3, (some .int)) 5 (some (.int (nI (sDayA v).1))) (fun m' => zCV G B m0 (sDayC v) m') 65 [some (.ref (B 0)), some (.int (nI (sDayA v).1)), some (.int (nI i))] [] mm := by
  refine z_loop (nD v) (fun i hi ih mm hp => ?_)
  have h10 := hH.1.1.2
  obtain ⟨⟨k1, k2, k3, k4⟩, -, -⟩ := sDay_H hH hO e0 ht
  obtain ⟨hi1, -, -, eD⟩ := sD2_H k1 k2 i
  have eD := eD.trans k4
  refine z_iload_n 2 rfl rfl dX5_passOneDay_65 ?_
  refine z_aload_n 0 rfl rfl dX5_passOneDay_66 ?_
  refine zC_S4 hp rfl zf_X5_69 dX5_passOneDay_67 ?_
  rw [show sD2 (sDayA v).2 i 1 = nI (nD v) by rw [hi1.1.1.1, eD]]
  refine z_icmp_ge 118 dX5_passOneDay_70 rfl (fun c70 => ?_) (fun c70 => ?_)
  · have e : i = nD v := by have := (nI_leI (by omega) (by omega)).mp c70; omega
    subst e
    refine z_iconst (nI 0) dX5_passOneDay_118 rfl ?_
    refine z_istore_n 2 rfl (Nat.le_of_ble_eq_true rfl) rfl dX5_passOneDay_119 ?_
    exact l_X5_passOneDay_c t hH hO e0 ht 0 (by omega) _ hp
  · have hl : i < nD v := Nat.lt_of_not_le (fun q => c70 ((nI_leI (by omega) (by omega)).mpr (by omega)))
    refine z_iload_n 2 rfl rfl dX5_passOneDay_73 ?_
    refine z_aload_n 0 rfl rfl dX5_passOneDay_74 ?_
    refine zC_S5 hp rfl zf_X5_37 dX5_passOneDay_75 ?_
    refine zC_a5l hp dX5_passOneDay_78 ?_
    refine z_icmp_ge 118 dX5_passOneDay_79 rfl (fun c79 => ?_) (fun c79 => ?_)
    · exact absurd ((nI_leI (by omega) (by omega)).mp c79) (by omega)
    · refine z_aload_n 0 rfl rfl dX5_passOneDay_82 ?_
      refine z_aload_n 0 rfl rfl dX5_passOneDay_83 ?_
      refine zC_S5 hp rfl zf_X5_37 dX5_passOneDay_84 ?_
      refine z_iload_n 2 rfl rfl dX5_passOneDay_87 ?_
      refine zC_a5 hp (by omega) dX5_passOneDay_88 ?_
      refine z_pV1 (ci := 5) zm_X5_daysLeft (c_X5_daysLeft hp i (by omega)) rfl zl_X5_207 rfl rfl (by decide) (hp.at (j := 0) (Or.inl (by decide))).1 (hp.at (j := 0) (Or.inl (by decide))).2 (by decide) (Nat.le_of_ble_eq_true rfl) dX5_passOneDay_89 ?_
      refine z_aload_n 0 rfl rfl dX5_passOneDay_92 ?_
      refine zC_S1 hp rfl zf_X5_18 dX5_passOneDay_93 ?_
      refine z_iconst (nI 0) dX5_passOneDay_96 rfl ?_
      refine zC_a1 hp (by omega) dX5_passOneDay_97 ?_
      refine z_icmp_ne 112 dX5_passOneDay_98 rfl (fun c98 => ?_) (fun c98 => ?_)
      · refine z_iincN (n := 1) 2 rfl rfl dX5_passOneDay_112 ?_
        refine z_goto 65 dX5_passOneDay_115 rfl ?_
        first | exact ih hl _ (by unfold sD2; rw [if_pos c98]; exact hp) | exact ih hl _ (by unfold sD2; rw [if_neg c98]; exact hp)
      · refine z_aload_n 0 rfl rfl dX5_passOneDay_101 ?_
        refine z_aload_n 0 rfl rfl dX5_passOneDay_102 ?_
        refine zC_S5 hp rfl zf_X5_37 dX5_passOneDay_103 ?_
        refine z_iload_n 2 rfl rfl dX5_passOneDay_106 ?_
        refine zC_a5 hp (by omega) dX5_passOneDay_107 ?_
        refine z_uV1 (ci := 5) zm_X5_coverRightsOf (c_X5_coverRightsOf hp _ i _ hi1 (Or.inl ⟨rfl, by omega⟩) (by omega) (Nat.le_refl _)) rfl zl_X5_214 rfl rfl (by decide) (hp.at (j := 0) (Or.inl (by decide))).1 (hp.at (j := 0) (Or.inl (by decide))).2 (by decide) (Nat.le_of_ble_eq_true rfl) dX5_passOneDay_108 (fun mm hp => ?_)
        refine z_pop dX5_passOneDay_111 rfl ?_
        refine z_iincN (n := 1) 2 rfl rfl dX5_passOneDay_112 ?_
        refine z_goto 65 dX5_passOneDay_115 rfl ?_
        first | exact ih hl _ (by unfold sD2; rw [if_pos c98]; exact hp) | exact ih hl _ (by unfold sD2; rw [if_neg c98]; exact hp)
theorem sDay0_Oi {v : Nat → Int32} {t : Nat} (hH : zH v) (hO : zOp v) (e : v 0 = nI t) (ht : t < 9999) : zOi 0 (sDay0 v) := by
  have e0 : sDay0 v 0 = nI (t + 1) := by unfold sDay0; rw [upd_eq, e, nI_add]
  intro r d hr h3 hrd hd
  unfold sDay0 at *
  rw [nR_of (upd_ne (by omega))] at hr
  rw [nD_of (upd_ne (by omega))] at hd
  rw [upd_ne (by omega)] at h3 hrd
  have q := hO r d hr h3 hrd hd
  obtain ⟨a, ha1, ha, ea⟩ := (hH.2.2.2.1 d hd).1
  refine ⟨?_, fun z => by omega⟩
  rw [e0, upd_ne (by omega), ea]
  rw [e, ea] at q
  exact nI_le (by have := (nI_ltI (by omega) (by omega)).mp q; omega) (by omega)
theorem sD1_G {v : Nat → Int32} {t : Nat} (hH : zH v) (hO : zOp v) (e : v 0 = nI t) (ht : t < 9999) (i n : Nat) (u : Nat → Int32) (hi : i ≤ nD v) (hu : sD1 (sDay0 v) i = (n, u)) : zH u ∧ nD u = nD v := by
  obtain ⟨a, -, -, b⟩ := sD1_H (hH.day0 e ht) (sDay0_Oi hH hO e ht) i n u (by rw [nD_day0]; exact hi) hu
  exact ⟨a, b.trans (nD_day0 v)⟩
set_option maxRecDepth 4000 in
theorem l_X5_passOneDay_a {l : Launch} {G : zG} {B : Nat → Nat} {m0 : zM} {v : Nat → Int32} (t : Nat) (hH : zH v) (hO : zOp v) (e0 : v 0 = nI t) (ht : t < 9999) : ∀ i, i ≤ nD v → ∀ (n : Nat) (u : Nat → Int32) (hu : sD1 (sDay0 v) i = (n, u)) (mm : zM) (hp : zCV G B m0 u mm), zV l G (yX5_passOneDay, cX5_passOneDay, 3, (some .int)) 5 (some (.int (nI (sDayA v).1))) (fun m' => zCV G B m0 (sDayC v) m') 14 [some (.ref (B 0)), some (.int (nI n)), some (.int (nI i))] [] mm := by
  refine z_loop (nD v) (fun i hi ih n u hu mm hp => ?_)
  have h10 := hH.1.1.2
  obtain ⟨hi1, eD⟩ := sD1_G hH hO e0 ht i n u (by omega) hu
  refine z_iload_n 2 rfl rfl dX5_passOneDay_14 ?_
  refine z_aload_n 0 rfl rfl dX5_passOneDay_15 ?_
  refine zC_S4 hp rfl zf_X5_69 dX5_passOneDay_16 ?_
  rw [show u 1 = nI (nD v) by rw [hi1.1.1.1, eD]]
  refine z_icmp_ge 63 dX5_passOneDay_19 rfl (fun c19 => ?_) (fun c19 => ?_)
  · have e : i = nD v := by have := (nI_leI (by omega) (by omega)).mp c19; omega
    subst e
    have e8 : sDayA v = (n, u) := hu
    rw [show n = (sDayA v).1 by rw [e8]]
    refine z_iconst (nI 0) dX5_passOneDay_63 rfl ?_
    refine z_istore_n 2 rfl (Nat.le_of_ble_eq_true rfl) rfl dX5_passOneDay_64 ?_
    exact l_X5_passOneDay_b t hH hO e0 ht 0 (by omega) _ (by rw [show (sDayA v).2 = u by rw [e8]]; exact hp)
  · have hl : i < nD v := Nat.lt_of_not_le (fun q => c19 ((nI_leI (by omega) (by omega)).mpr (by omega)))
    refine z_iload_n 2 rfl rfl dX5_passOneDay_22 ?_
    refine z_aload_n 0 rfl rfl dX5_passOneDay_23 ?_
    refine zC_S5 hp rfl zf_X5_37 dX5_passOneDay_24 ?_
    refine zC_a5l hp dX5_passOneDay_27 ?_
    refine z_icmp_ge 63 dX5_passOneDay_28 rfl (fun c28 => ?_) (fun c28 => ?_)
    · exact absurd ((nI_leI (by omega) (by omega)).mp c28) (by omega)
    · refine z_aload_n 0 rfl rfl dX5_passOneDay_31 ?_
      refine z_aload_n 0 rfl rfl dX5_passOneDay_32 ?_
      refine zC_S5 hp rfl zf_X5_37 dX5_passOneDay_33 ?_
      refine z_iload_n 2 rfl rfl dX5_passOneDay_36 ?_
      refine zC_a5 hp (by omega) dX5_passOneDay_37 ?_
      refine z_pV1 (ci := 5) zm_X5_daysLeft (c_X5_daysLeft hp i (by omega)) rfl zl_X5_207 rfl rfl (by decide) (hp.at (j := 0) (Or.inl (by decide))).1 (hp.at (j := 0) (Or.inl (by decide))).2 (by decide) (Nat.le_of_ble_eq_true rfl) dX5_passOneDay_38 ?_
      refine z_if_ne 57 dX5_passOneDay_41 rfl (fun c41 => ?_) (fun c41 => ?_)
      · refine z_iincN (n := 1) 2 rfl rfl dX5_passOneDay_57 ?_
        refine z_goto 14 dX5_passOneDay_60 rfl ?_
        first | exact ih hl _ _ (by simp only [sD1, hu]; exact if_pos c41) _ hp | exact ih hl _ _ (by simp only [sD1, hu]; exact if_neg c41) _ hp
      · refine z_iload_n 1 rfl rfl dX5_passOneDay_44 ?_
        refine z_aload_n 0 rfl rfl dX5_passOneDay_45 ?_
        refine z_aload_n 0 rfl rfl dX5_passOneDay_46 ?_
        refine zC_S5 hp rfl zf_X5_37 dX5_passOneDay_47 ?_
        refine z_iload_n 2 rfl rfl dX5_passOneDay_50 ?_
        refine zC_a5 hp (by omega) dX5_passOneDay_51 ?_
        refine z_uV1 (ci := 5) zm_X5_endDate (c_X5_endDate hp i hi1 (by omega)) rfl zl_X5_211 rfl rfl (by decide) (hp.at (j := 0) (Or.inl (by decide))).1 (hp.at (j := 0) (Or.inl (by decide))).2 (by decide) (Nat.le_of_ble_eq_true rfl) dX5_passOneDay_52 (fun mm hp => ?_)
        refine z_iaddN dX5_passOneDay_55 ?_
        refine z_istore_n 1 rfl (Nat.le_of_ble_eq_true rfl) rfl dX5_passOneDay_56 ?_
        refine z_iincN (n := 1) 2 rfl rfl dX5_passOneDay_57 ?_
        refine z_goto 14 dX5_passOneDay_60 rfl ?_
        first | exact ih hl _ _ (by simp only [sD1, hu]; exact if_pos c41) _ hp | exact ih hl _ _ (by simp only [sD1, hu]; exact if_neg c41) _ hp
set_option maxRecDepth 4000 in
theorem c_X5_passOneDay {l : Launch} {G : zG} {B : Nat → Nat} {m0 mm : zM} {v : Nat → Int32} (hp : zCV G B m0 v mm) (t : Nat) (hH : zH v) (hO : zOp v) (e0 : v 0 = nI t) (ht : t < 9999) : zSem l G (yX5_passOneDay, cX5_passOneDay, 3, (some .int)) 5 [.ref (B 0)] mm (some (.int (nI (sDayA v).1))) (fun m' => zCV G B m0 (sDayC v) m') := by
  refine z_met [some (.ref (B 0)), none, none] rfl (zc1 (by rfl)) (Nat.le_of_ble_eq_true rfl) rfl ?_
  refine z_aload_n 0 rfl rfl dX5_passOneDay_0 ?_
  refine z_dup dX5_passOneDay_1 rfl ?_
  refine zC_S0 hp rfl zf_X5_61 dX5_passOneDay_2 ?_
  refine z_iconst (nI 1) dX5_passOneDay_5 rfl ?_
  refine z_iadd dX5_passOneDay_6 ?_
  refine zC_Sp0 hp rfl zf_X5_61 dX5_passOneDay_7 (fun mm hp => ?_)
  refine z_iconst (nI 0) dX5_passOneDay_10 rfl ?_
  refine z_istore_n 1 rfl (Nat.le_of_ble_eq_true rfl) rfl dX5_passOneDay_11 ?_
  refine z_iconst (nI 0) dX5_passOneDay_12 rfl ?_
  refine z_istore_n 2 rfl (Nat.le_of_ble_eq_true rfl) rfl dX5_passOneDay_13 ?_
  exact l_X5_passOneDay_a t hH hO e0 ht 0 (by omega) 0 _ rfl _ hp
set_option maxRecDepth 4000 in
theorem l_X5_passDays {l : Launch} {G : zG} {B : Nat → Nat} {m0 : zM} {v : Nat → Int32} (x t : Nat) (hH : zH v) (hO : zOp v) (e0 : v 0 = nI t) (ht : t + x ≤ 9999) : ∀ i, i ≤ x → ∀ (n : Nat) (u : Nat → Int32) (hu : sDays v i = (n, u)) (mm : zM) (hp : zCV G B m0 u mm), zV l G (yX5_passDays, cX5_passDays, 4, (some .int)) 6 (some (.int (nI (sDays v x).1))) (fun m' => zCV G B m0 ((sDays v x).2) m') 33 [some (.ref (B 0)), some (.int (nI x)), some (.int (nI n)), some (.int (nI i))] [] mm := by
  refine z_loop (x) (fun i hi ih n u hu mm hp => ?_)
  obtain ⟨z1, z2, z3⟩ := sDays_H hH hO e0 i n u (by omega) hu
  refine z_iload_n 3 rfl rfl dX5_passDays_33 ?_
  refine z_iload_n 1 rfl rfl dX5_passDays_34 ?_
  refine z_icmp_ge 51 dX5_passDays_35 rfl (fun c35 => ?_) (fun c35 => ?_)
  · have e : i = x := by have := (nI_leI (by omega) (by omega)).mp c35; omega
    subst e
    refine z_iload_n 2 rfl rfl dX5_passDays_51 ?_
    exact z_iret dX5_passDays_52 (by rw [hu]) (by rw [hu]; exact hp)
  · have hl : i < x := Nat.lt_of_not_le (fun q => c35 ((nI_leI (by omega) (by omega)).mpr (by omega)))
    refine z_iload_n 2 rfl rfl dX5_passDays_38 ?_
    refine z_aload_n 0 rfl rfl dX5_passDays_39 ?_
    refine z_uV0 (ci := 5) zm_X5_passOneDay (c_X5_passOneDay hp (t + i) z1 z2 z3 (by omega)) rfl zl_X5_203 rfl rfl (by decide) (hp.at (j := 0) (Or.inl (by decide))).1 (hp.at (j := 0) (Or.inl (by decide))).2 (by decide) (Nat.le_of_ble_eq_true rfl) dX5_passDays_40 (fun mm hp => ?_)
    refine z_iaddN dX5_passDays_43 ?_
    refine z_istore_n 2 rfl (Nat.le_of_ble_eq_true rfl) rfl dX5_passDays_44 ?_
    refine z_iincN (n := 1) 3 rfl rfl dX5_passDays_45 ?_
    refine z_goto 33 dX5_passDays_48 rfl ?_
    exact ih hl _ _ (by simp only [sDays, hu]) _ hp
set_option maxRecDepth 4000 in
theorem c_X5_passDays {l : Launch} {G : zG} {B : Nat → Nat} {m0 mm : zM} {v : Nat → Int32} (hp : zCV G B m0 v mm) (x : Int32) (hH : zH v) (hO : zOp v) : zSem l G (yX5_passDays, cX5_passDays, 4, (some .int)) 6 [.ref (B 0), .int x] mm (some (.int (sPass v x).1)) (fun m' => zCV G B m0 ((sPass v x).2.1) m') := by
  obtain ⟨t, ht, e0⟩ := hH.2.1
  refine z_met [some (.ref (B 0)), some (.int x), none, none] rfl (zc1 (by rfl)) (Nat.le_of_ble_eq_true rfl) rfl ?_
  refine z_iload_n 1 rfl rfl dX5_passDays_0 ?_
  refine z_iconst (nI 1) dX5_passDays_1 rfl ?_
  refine z_icmp_lt 11 dX5_passDays_2 rfl (fun c2 => ?_) (fun c2 => ?_)
  · have cx : zIn x (nI 1) (nI 60) = false := zIn_f1 c2
    have e9 : sPass v x = (-2, v, false) := by simp only [sPass, cx, and_self, and_true, true_and, and_false, false_and, reduceIte, Bool.false_eq_true, reduceCtorEq]
    refine z_bipush (-2) dX5_passDays_11 (by decide) ?_
    exact z_iret dX5_passDays_13 (by rw [e9]) (by rw [e9]; exact hp)
  · refine z_iload_n 1 rfl rfl dX5_passDays_5 ?_
    refine z_bipush (nI 60) dX5_passDays_6 rfl ?_
    refine z_icmp_le 14 dX5_passDays_8 rfl (fun c8 => ?_) (fun c8 => ?_)
    · have cx : zIn x (nI 1) (nI 60) = true := zIn_t (i_not_lt.mp c2) c8
      obtain ⟨k, hk31, rfl⟩ := nI_of (x := x) (fun q => c2 (by rw [Int32.lt_iff_toInt_lt] at *; have z1 : (nI 1).toInt = 1 := rfl; have z0 : (0 : Int32).toInt = 0 := rfl; omega))
      have hk : k ≤ 60 := (nI_leI (by omega) (by omega)).mp c8
      have znk := zn_nI (show k < 2 ^ 31 by omega)
      refine z_aload_n 0 rfl rfl dX5_passDays_14 ?_
      refine zC_S0 hp rfl zf_X5_61 dX5_passDays_15 ?_
      refine z_iload_n 1 rfl rfl dX5_passDays_18 ?_
      refine z_iadd dX5_passDays_19 ?_
      refine z_sipush (nI 9999) dX5_passDays_20 rfl ?_
      refine z_icmp_le 29 dX5_passDays_23 rfl (fun c23 => ?_) (fun c23 => ?_)
      · have e9 : sPass v (nI k) = (nI (sDays v k).1, (sDays v k).2, true) := by simp only [sPass, cx, and_self, and_true, true_and, and_false, false_and, reduceIte, Bool.false_eq_true, reduceCtorEq]; rw [if_pos c23, znk]
        refine z_iconst (nI 0) dX5_passDays_29 rfl ?_
        refine z_istore_n 2 rfl (Nat.le_of_ble_eq_true rfl) rfl dX5_passDays_30 ?_
        refine z_iconst (nI 0) dX5_passDays_31 rfl ?_
        refine z_istore_n 3 rfl (Nat.le_of_ble_eq_true rfl) rfl dX5_passDays_32 ?_
        rw [e9]
        exact l_X5_passDays k t hH hO e0 (by rw [e0, nI_add] at c23; exact (nI_leI (by omega) (by omega)).mp c23) 0 (by omega) 0 v rfl mm hp
      · have e9 : sPass v (nI k) = (-4, v, false) := by simp only [sPass, cx, and_self, and_true, true_and, and_false, false_and, reduceIte, Bool.false_eq_true, reduceCtorEq]; exact if_neg c23
        refine z_bipush (-4) dX5_passDays_26 (by decide) ?_
        exact z_iret dX5_passDays_28 (by rw [e9]) (by rw [e9]; exact hp)
    · have cx : zIn x (nI 1) (nI 60) = false := zIn_f2 (i_not_le.mp c8)
      have e9 : sPass v x = (-2, v, false) := by simp only [sPass, cx, and_self, and_true, true_and, and_false, false_and, reduceIte, Bool.false_eq_true, reduceCtorEq]
      refine z_bipush (-2) dX5_passDays_11 (by decide) ?_
      exact z_iret dX5_passDays_13 (by rw [e9]) (by rw [e9]; exact hp)
