theorem nI_succ_le {t : Nat} {a : Int32} (ht : t < 2 ^ 30) : nI t + nI 1 ≤ a ↔ nI t < a := by
  rw [nI_add, Int32.le_iff_toInt_le, Int32.lt_iff_toInt_lt, nI_toInt (by omega), nI_toInt (by omega)]
  omega
theorem zIn_f1 {x lo hi : Int32} (h : x < lo) : zIn x lo hi = false := by unfold zIn; rw [decide_eq_false (i_not_le.mpr h)]; rfl
theorem zIn_f2 {x lo hi : Int32} (h : hi < x) : zIn x lo hi = false := by unfold zIn; rw [decide_eq_false (i_not_le.mpr h), Bool.and_false]
theorem zIn_t {x lo hi : Int32} (h1 : lo ≤ x) (h2 : x ≤ hi) : zIn x lo hi = true := by unfold zIn; rw [decide_eq_true h1, decide_eq_true h2]; rfl
set_option maxRecDepth 4000 in
theorem c_X5_openDate {l : Launch} {G : zG} {B : Nat → Nat} {m0 mm : zM} {v : Nat → Int32} (hp : zCV G B m0 v mm) (a b c e f : Int32) (hH : zH v) : zSem l G (yX5_openDate, cX5_openDate, 7, (some .int)) 1 [.ref (B 0), .int a, .int b, .int c, .int e, .int f] mm (some (.int (sAdd v a b c e f).1)) (fun m' => zCV G B m0 (sAdd v a b c e f).2.1 m') := by
  have hd10 := hH.1.1.2
  have hJ := hH.1.2.1
  have hJ2 := hJ.2
  obtain ⟨e8, he8, ee8⟩ := hH.2.2.2.2.2.2
  obtain ⟨t, ht, et⟩ := hH.2.1
  refine z_met [some (.ref (B 0)), some (.int a), some (.int b), some (.int c), some (.int e), some (.int f), none] rfl (zc1 (by rfl)) (Nat.le_of_ble_eq_true rfl) rfl ?_
  refine z_iload_n 1 rfl rfl dX5_openDate_0 ?_
  refine z_aload_n 0 rfl rfl dX5_openDate_1 ?_
  refine zC_S0 hp rfl zf_X5_61 dX5_openDate_2 ?_
  refine z_icmp_le 26 dX5_openDate_5 rfl (fun c5 => ?_) (fun c5 => ?_)
  · have za : zIn a (v 0 + nI 1) (nI 999) = false := zIn_f1 (by rw [et]; exact i_not_le.mp (fun q => absurd (by rw [et] at c5; exact c5) (i_not_le.mpr ((nI_succ_le (by omega)).mp q))))
    refine z_bipush (-2) dX5_openDate_26 (by decide) ?_
    have eok : sAddOk v a b c e f = false := by unfold sAddOk; first | (rw [za]; rfl) | (rw [za, zb]; rfl) | (rw [za, zb, zc]; rfl) | (rw [za, zb, zc, ze]; rfl) | (rw [za, zb, zc, ze, zf]; rfl)
    have e9 : sAdd v a b c e f = (-2, v, false) := by unfold sAdd; rw [eok]; rfl
    exact z_iret dX5_openDate_28 (by rw [e9]) (by rw [e9]; exact hp)
  · have hlo : v 0 + nI 1 ≤ a := by rw [et] at c5 ⊢; exact (nI_succ_le (by omega)).mpr (i_not_le.mp c5)
    refine z_iload_n 1 rfl rfl dX5_openDate_8 ?_
    refine z_sipush (nI 999) dX5_openDate_9 rfl ?_
    refine z_icmp_gt 26 dX5_openDate_12 rfl (fun c12 => ?_) (fun c12 => ?_)
    · have za : zIn a (v 0 + nI 1) (nI 999) = false := zIn_f2 c12
      refine z_bipush (-2) dX5_openDate_26 (by decide) ?_
      have eok : sAddOk v a b c e f = false := by unfold sAddOk; first | (rw [za]; rfl) | (rw [za, zb]; rfl) | (rw [za, zb, zc]; rfl) | (rw [za, zb, zc, ze]; rfl) | (rw [za, zb, zc, ze, zf]; rfl)
      have e9 : sAdd v a b c e f = (-2, v, false) := by unfold sAdd; rw [eok]; rfl
      exact z_iret dX5_openDate_28 (by rw [e9]) (by rw [e9]; exact hp)
    · have za : zIn a (v 0 + nI 1) (nI 999) = true := zIn_t hlo (i_not_lt.mp c12)
      refine z_iload_n 2 rfl rfl dX5_openDate_15 ?_
      refine z_iconst (nI 1) dX5_openDate_16 rfl ?_
      refine z_icmp_lt 26 dX5_openDate_17 rfl (fun c17 => ?_) (fun c17 => ?_)
      · have zb : zIn b (nI 1) (nI 20) = false := zIn_f1 c17
        refine z_bipush (-2) dX5_openDate_26 (by decide) ?_
        have eok : sAddOk v a b c e f = false := by unfold sAddOk; first | (rw [za]; rfl) | (rw [za, zb]; rfl) | (rw [za, zb, zc]; rfl) | (rw [za, zb, zc, ze]; rfl) | (rw [za, zb, zc, ze, zf]; rfl)
        have e9 : sAdd v a b c e f = (-2, v, false) := by unfold sAdd; rw [eok]; rfl
        exact z_iret dX5_openDate_28 (by rw [e9]) (by rw [e9]; exact hp)
      · refine z_iload_n 2 rfl rfl dX5_openDate_20 ?_
        refine z_bipush (nI 20) dX5_openDate_21 rfl ?_
        refine z_icmp_le 29 dX5_openDate_23 rfl (fun c23 => ?_) (fun c23 => ?_)
        · have zb : zIn b (nI 1) (nI 20) = true := zIn_t (i_not_lt.mp c17) c23
          refine z_iload_n 3 rfl rfl dX5_openDate_29 ?_
          refine z_if_lt 63 dX5_openDate_30 rfl (fun c30 => ?_) (fun c30 => ?_)
          · have zc : zIn c (nI 0) (nI 5) = false := zIn_f1 c30
            refine z_bipush (-2) dX5_openDate_63 (by decide) ?_
            have eok : sAddOk v a b c e f = false := by unfold sAddOk; first | (rw [za]; rfl) | (rw [za, zb]; rfl) | (rw [za, zb, zc]; rfl) | (rw [za, zb, zc, ze]; rfl) | (rw [za, zb, zc, ze, zf]; rfl)
            have e9 : sAdd v a b c e f = (-2, v, false) := by unfold sAdd; rw [eok]; rfl
            exact z_iret dX5_openDate_65 (by rw [e9]) (by rw [e9]; exact hp)
          · refine z_iload_n 3 rfl rfl dX5_openDate_33 ?_
            refine z_iconst (nI 5) dX5_openDate_34 rfl ?_
            refine z_icmp_gt 63 dX5_openDate_35 rfl (fun c35 => ?_) (fun c35 => ?_)
            · have zc : zIn c (nI 0) (nI 5) = false := zIn_f2 c35
              refine z_bipush (-2) dX5_openDate_63 (by decide) ?_
              have eok : sAddOk v a b c e f = false := by unfold sAddOk; first | (rw [za]; rfl) | (rw [za, zb]; rfl) | (rw [za, zb, zc]; rfl) | (rw [za, zb, zc, ze]; rfl) | (rw [za, zb, zc, ze, zf]; rfl)
              have e9 : sAdd v a b c e f = (-2, v, false) := by unfold sAdd; rw [eok]; rfl
              exact z_iret dX5_openDate_65 (by rw [e9]) (by rw [e9]; exact hp)
            · have zc : zIn c (nI 0) (nI 5) = true := zIn_t (i_not_lt.mp c30) (i_not_lt.mp c35)
              refine z_iload 4 rfl dX5_openDate_38 ?_
              refine z_iconst (nI 1) dX5_openDate_40 rfl ?_
              refine z_icmp_lt 63 dX5_openDate_41 rfl (fun c41 => ?_) (fun c41 => ?_)
              · have ze : zIn e (nI 1) (nI 9999) = false := zIn_f1 c41
                refine z_bipush (-2) dX5_openDate_63 (by decide) ?_
                have eok : sAddOk v a b c e f = false := by unfold sAddOk; first | (rw [za]; rfl) | (rw [za, zb]; rfl) | (rw [za, zb, zc]; rfl) | (rw [za, zb, zc, ze]; rfl) | (rw [za, zb, zc, ze, zf]; rfl)
                have e9 : sAdd v a b c e f = (-2, v, false) := by unfold sAdd; rw [eok]; rfl
                exact z_iret dX5_openDate_65 (by rw [e9]) (by rw [e9]; exact hp)
              · refine z_iload 4 rfl dX5_openDate_44 ?_
                refine z_sipush (nI 9999) dX5_openDate_46 rfl ?_
                refine z_icmp_gt 63 dX5_openDate_49 rfl (fun c49 => ?_) (fun c49 => ?_)
                · have ze : zIn e (nI 1) (nI 9999) = false := zIn_f2 c49
                  refine z_bipush (-2) dX5_openDate_63 (by decide) ?_
                  have eok : sAddOk v a b c e f = false := by unfold sAddOk; first | (rw [za]; rfl) | (rw [za, zb]; rfl) | (rw [za, zb, zc]; rfl) | (rw [za, zb, zc, ze]; rfl) | (rw [za, zb, zc, ze, zf]; rfl)
                  have e9 : sAdd v a b c e f = (-2, v, false) := by unfold sAdd; rw [eok]; rfl
                  exact z_iret dX5_openDate_65 (by rw [e9]) (by rw [e9]; exact hp)
                · have ze : zIn e (nI 1) (nI 9999) = true := zIn_t (i_not_lt.mp c41) (i_not_lt.mp c49)
                  refine z_iload 5 rfl dX5_openDate_52 ?_
                  refine z_if_lt 63 dX5_openDate_54 rfl (fun c54 => ?_) (fun c54 => ?_)
                  · have zf : zIn f (nI 0) (nI 2) = false := zIn_f1 c54
                    refine z_bipush (-2) dX5_openDate_63 (by decide) ?_
                    have eok : sAddOk v a b c e f = false := by unfold sAddOk; first | (rw [za]; rfl) | (rw [za, zb]; rfl) | (rw [za, zb, zc]; rfl) | (rw [za, zb, zc, ze]; rfl) | (rw [za, zb, zc, ze, zf]; rfl)
                    have e9 : sAdd v a b c e f = (-2, v, false) := by unfold sAdd; rw [eok]; rfl
                    exact z_iret dX5_openDate_65 (by rw [e9]) (by rw [e9]; exact hp)
                  · refine z_iload 5 rfl dX5_openDate_57 ?_
                    refine z_iconst (nI 2) dX5_openDate_59 rfl ?_
                    refine z_icmp_le 66 dX5_openDate_60 rfl (fun c60 => ?_) (fun c60 => ?_)
                    · have zf : zIn f (nI 0) (nI 2) = true := zIn_t (i_not_lt.mp c54) c60
                      have eok : sAddOk v a b c e f = true := by unfold sAddOk; rw [za, zb, zc, ze, zf]; rfl
                      refine z_aload_n 0 rfl rfl dX5_openDate_66 ?_
                      refine zC_S4 hp rfl zf_X5_69 dX5_openDate_67 ?_
                      refine z_aload_n 0 rfl rfl dX5_openDate_70 ?_
                      refine zC_S5 hp rfl zf_X5_37 dX5_openDate_71 ?_
                      refine zC_a5l hp dX5_openDate_74 ?_
                      rw [hH.1.1.1]
                      refine z_icmp_lt 81 dX5_openDate_75 rfl (fun c75 => ?_) (fun c75 => ?_)
                      · have hd : nD v < 10 := (nI_ltI (by omega) (by omega)).mp c75
                        have e9 : sAdd v a b c e f = (nI (nD v), upd (sAdd1 v (nD v) a b c e f) 1 (sAdd1 v (nD v) a b c e f 1 + nI 1), true) := by unfold sAdd; rw [if_pos eok, if_neg (fun z => by rw [hH.1.1.1] at z; have := (nI_eq (by omega) (by omega)).mp z; omega)]
                        refine z_aload_n 0 rfl rfl dX5_openDate_81 ?_
                        refine zC_S5 hp rfl zf_X5_37 dX5_openDate_82 ?_
                        refine z_aload_n 0 rfl rfl dX5_openDate_85 ?_
                        refine zC_S4 hp rfl zf_X5_69 dX5_openDate_86 ?_
                        rw [hH.1.1.1]
                        refine zC_a5 hp (by omega) dX5_openDate_89 ?_
                        refine z_astore 6 (Nat.le_of_ble_eq_true rfl) rfl dX5_openDate_90 ?_
                        refine z_aload 6 rfl dX5_openDate_92 ?_
                        refine z_iload_n 1 rfl rfl dX5_openDate_94 ?_
                        refine zC_Dp1 hp (by omega) rfl zf_X5_91 dX5_openDate_95 (fun mm hp => ?_)
                        refine z_aload 6 rfl dX5_openDate_98 ?_
                        refine z_iload_n 2 rfl rfl dX5_openDate_100 ?_
                        refine zC_Dp2 hp (by omega) rfl zf_X5_92 dX5_openDate_101 (fun mm hp => ?_)
                        refine z_aload 6 rfl dX5_openDate_104 ?_
                        refine z_iload_n 3 rfl rfl dX5_openDate_106 ?_
                        refine zC_Dp3 hp (by omega) rfl zf_X5_95 dX5_openDate_107 (fun mm hp => ?_)
                        refine z_aload 6 rfl dX5_openDate_110 ?_
                        refine z_iload 4 rfl dX5_openDate_112 ?_
                        refine zC_Dp4 hp (by omega) rfl zf_X5_98 dX5_openDate_114 (fun mm hp => ?_)
                        refine z_aload 6 rfl dX5_openDate_117 ?_
                        refine z_iload 5 rfl dX5_openDate_119 ?_
                        refine zC_Dp5 hp (by omega) rfl zf_X5_101 dX5_openDate_121 (fun mm hp => ?_)
                        refine z_aload 6 rfl dX5_openDate_124 ?_
                        refine z_iconst (nI 0) dX5_openDate_126 rfl ?_
                        refine zC_Dp7 hp (by omega) rfl zf_X5_104 dX5_openDate_127 (fun mm hp => ?_)
                        have hp : zCV G B m0 (sAdd1 v (nD v) a b c e f) mm := hp
                        refine z_aload_n 0 rfl rfl dX5_openDate_130 ?_
                        refine z_dup dX5_openDate_131 rfl ?_
                        refine zC_S4 hp rfl zf_X5_69 dX5_openDate_132 ?_
                        refine z_iconst (nI 1) dX5_openDate_135 rfl ?_
                        refine z_iadd dX5_openDate_136 ?_
                        refine zC_Sp4 hp rfl zf_X5_69 dX5_openDate_137 (fun mm hp => ?_)
                        refine z_aload 6 rfl dX5_openDate_140 ?_
                        refine zC_D0 hp (by omega) rfl zf_X5_107 dX5_openDate_142 ?_
                        exact z_iret dX5_openDate_145 (by rw [e9]) (by rw [e9]; exact hp)
                      · have e9 : sAdd v a b c e f = (-3, v, false) := by unfold sAdd; rw [if_pos eok, if_pos (by rw [hH.1.1.1, show nD v = 10 by rcases Nat.lt_or_ge (nD v) 10 with q | q; exact absurd (nI_lt q (by omega)) c75; omega])]
                        refine z_bipush (-3) dX5_openDate_78 (by decide) ?_
                        exact z_iret dX5_openDate_80 (by rw [e9]) (by rw [e9]; exact hp)
                    · have zf : zIn f (nI 0) (nI 2) = false := zIn_f2 (i_not_le.mp c60)
                      refine z_bipush (-2) dX5_openDate_63 (by decide) ?_
                      have eok : sAddOk v a b c e f = false := by unfold sAddOk; first | (rw [za]; rfl) | (rw [za, zb]; rfl) | (rw [za, zb, zc]; rfl) | (rw [za, zb, zc, ze]; rfl) | (rw [za, zb, zc, ze, zf]; rfl)
                      have e9 : sAdd v a b c e f = (-2, v, false) := by unfold sAdd; rw [eok]; rfl
                      exact z_iret dX5_openDate_65 (by rw [e9]) (by rw [e9]; exact hp)
        · have zb : zIn b (nI 1) (nI 20) = false := zIn_f2 (i_not_le.mp c23)
          refine z_bipush (-2) dX5_openDate_26 (by decide) ?_
          have eok : sAddOk v a b c e f = false := by unfold sAddOk; first | (rw [za]; rfl) | (rw [za, zb]; rfl) | (rw [za, zb, zc]; rfl) | (rw [za, zb, zc, ze]; rfl) | (rw [za, zb, zc, ze, zf]; rfl)
          have e9 : sAdd v a b c e f = (-2, v, false) := by unfold sAdd; rw [eok]; rfl
          exact z_iret dX5_openDate_28 (by rw [e9]) (by rw [e9]; exact hp)
set_option maxRecDepth 4000 in
theorem c_X5_fitsStage {l : Launch} {G : zG} {B : Nat → Nat} {m0 mm : zM} {v : Nat → Int32} (hp : zCV G B m0 v mm) (k : Nat) (y : Int32) (hk : k ≤ 3) (hH : zH v) : zSem l G (yX5_fitsStage, cX5_fitsStage, 4, (some .boolean)) 2 [.ref (B 0), .int (nI k), .int y] mm (some (.int (zB (zIn y (sLo v k) (sHi v k))))) (fun m' => m' = mm) := by
  refine z_met [some (.ref (B 0)), some (.int (nI k)), some (.int y), none] rfl (zc1 (by rfl)) (Nat.le_of_ble_eq_true rfl) rfl ?_
  rcases (by omega : k = 0 ∨ k = 1 ∨ k = 2 ∨ k = 3) with rfl | rfl | rfl | rfl
  · refine z_aload_n 0 rfl rfl dX5_fitsStage_0 ?_
    refine z_iload_n 1 rfl rfl dX5_fitsStage_1 ?_
    refine z_iconst (nI 1) dX5_fitsStage_2 rfl ?_
    refine z_isub dX5_fitsStage_3 ?_
    refine z_pV1 (ci := 5) zm_X5_isStage (c_X5_isStage hp _) rfl zl_X5_110 rfl rfl (by decide) (hp.at (j := 0) (Or.inl (by decide))).1 (hp.at (j := 0) (Or.inl (by decide))).2 (by decide) (Nat.le_of_ble_eq_true rfl) dX5_fitsStage_4 ?_
    refine z_if_eqB 23 dX5_fitsStage_7 rfl (fun c7 => ?_) (fun c7 => ?_)
    · refine z_bipush (nI 99) dX5_fitsStage_23 rfl ?_
      refine z_istore_n 3 rfl (Nat.le_of_ble_eq_true rfl) rfl dX5_fitsStage_25 ?_
      refine z_aload_n 0 rfl rfl dX5_fitsStage_26 ?_
      refine z_iload_n 1 rfl rfl dX5_fitsStage_27 ?_
      refine z_iconst (nI 1) dX5_fitsStage_28 rfl ?_
      refine z_iaddN dX5_fitsStage_29 ?_
      refine z_pV1 (ci := 5) zm_X5_isStage (c_X5_isStage hp _) rfl zl_X5_110 rfl rfl (by decide) (hp.at (j := 0) (Or.inl (by decide))).1 (hp.at (j := 0) (Or.inl (by decide))).2 (by decide) (Nat.le_of_ble_eq_true rfl) dX5_fitsStage_30 ?_
      refine z_if_neB 46 dX5_fitsStage_33 rfl (fun c33 => ?_) (fun c33 => ?_)
      · refine z_iload_n 2 rfl rfl dX5_fitsStage_46 ?_
        refine z_iload_n 3 rfl rfl dX5_fitsStage_47 ?_
        refine z_icmp_gt 67 dX5_fitsStage_48 rfl (fun c48 => ?_) (fun c48 => ?_)
        · have e9 : zIn y (sLo v 0) (sHi v 0) = false := zIn_f2 c48
          refine z_iconst (nI 0) dX5_fitsStage_67 rfl ?_
          exact z_zret dX5_fitsStage_68 (by first | rfl | exact zB_nar _) (by rw [e9]; rfl) rfl
        · refine z_iload_n 2 rfl rfl dX5_fitsStage_51 ?_
          refine z_aload_n 0 rfl rfl dX5_fitsStage_52 ?_
          refine zC_S2 hp rfl zf_X5_26 dX5_fitsStage_53 ?_
          refine z_iload_n 1 rfl rfl dX5_fitsStage_56 ?_
          refine z_iconst (nI 1) dX5_fitsStage_57 rfl ?_
          refine z_iaddN dX5_fitsStage_58 ?_
          refine zC_a2 hp (by omega) dX5_fitsStage_59 ?_
          refine z_icmp_le 67 dX5_fitsStage_60 rfl (fun c60 => ?_) (fun c60 => ?_)
          · have e9 : zIn y (sLo v 0) (sHi v 0) = false := zIn_f1 (by
              show y < v 11 + nI 1
              obtain ⟨⟨q, hq, eq⟩, -⟩ := hH.2.2.1.2 1 (by omega)
              have eq : v 11 = nI q := eq
              rw [eq]
              exact i_not_le.mp (fun z => absurd c60 (i_not_le.mpr (by show v 11 < y; rw [eq]; exact (nI_succ_le (by omega)).mp z))))
            refine z_iconst (nI 0) dX5_fitsStage_67 rfl ?_
            exact z_zret dX5_fitsStage_68 (by first | rfl | exact zB_nar _) (by rw [e9]; rfl) rfl
          · have e9 : zIn y (sLo v 0) (sHi v 0) = true := zIn_t (by
              show v 11 + nI 1 ≤ y
              obtain ⟨⟨q, hq, eq⟩, -⟩ := hH.2.2.1.2 1 (by omega)
              have eq : v 11 = nI q := eq
              have c60 : v 11 < y := i_not_le.mp c60
              rw [eq] at c60 ⊢
              exact (nI_succ_le (by omega)).mpr c60) (i_not_lt.mp c48)
            refine z_iconst (nI 1) dX5_fitsStage_63 rfl ?_
            refine z_goto 68 dX5_fitsStage_64 rfl ?_
            exact z_zret dX5_fitsStage_68 (by first | rfl | exact zB_nar _) (by rw [e9]; rfl) rfl
      · exact absurd c33 (by decide)
    · exact absurd c7 (by decide)
  · refine z_aload_n 0 rfl rfl dX5_fitsStage_0 ?_
    refine z_iload_n 1 rfl rfl dX5_fitsStage_1 ?_
    refine z_iconst (nI 1) dX5_fitsStage_2 rfl ?_
    refine z_isubN (by omega) dX5_fitsStage_3 ?_
    refine z_pV1 (ci := 5) zm_X5_isStage (c_X5_isStage hp _) rfl zl_X5_110 rfl rfl (by decide) (hp.at (j := 0) (Or.inl (by decide))).1 (hp.at (j := 0) (Or.inl (by decide))).2 (by decide) (Nat.le_of_ble_eq_true rfl) dX5_fitsStage_4 ?_
    refine z_if_eqB 23 dX5_fitsStage_7 rfl (fun c7 => ?_) (fun c7 => ?_)
    · exact absurd c7 (by decide)
    · refine z_aload_n 0 rfl rfl dX5_fitsStage_10 ?_
      refine zC_S2 hp rfl zf_X5_26 dX5_fitsStage_11 ?_
      refine z_iload_n 1 rfl rfl dX5_fitsStage_14 ?_
      refine z_iconst (nI 1) dX5_fitsStage_15 rfl ?_
      refine z_isubN (by omega) dX5_fitsStage_16 ?_
      refine zC_a2 hp (by omega) dX5_fitsStage_17 ?_
      refine z_iconst (nI 1) dX5_fitsStage_18 rfl ?_
      refine z_isub dX5_fitsStage_19 ?_
      refine z_goto 25 dX5_fitsStage_20 rfl ?_
      refine z_istore_n 3 rfl (Nat.le_of_ble_eq_true rfl) rfl dX5_fitsStage_25 ?_
      refine z_aload_n 0 rfl rfl dX5_fitsStage_26 ?_
      refine z_iload_n 1 rfl rfl dX5_fitsStage_27 ?_
      refine z_iconst (nI 1) dX5_fitsStage_28 rfl ?_
      refine z_iaddN dX5_fitsStage_29 ?_
      refine z_pV1 (ci := 5) zm_X5_isStage (c_X5_isStage hp _) rfl zl_X5_110 rfl rfl (by decide) (hp.at (j := 0) (Or.inl (by decide))).1 (hp.at (j := 0) (Or.inl (by decide))).2 (by decide) (Nat.le_of_ble_eq_true rfl) dX5_fitsStage_30 ?_
      refine z_if_neB 46 dX5_fitsStage_33 rfl (fun c33 => ?_) (fun c33 => ?_)
      · refine z_iload_n 2 rfl rfl dX5_fitsStage_46 ?_
        refine z_iload_n 3 rfl rfl dX5_fitsStage_47 ?_
        refine z_icmp_gt 67 dX5_fitsStage_48 rfl (fun c48 => ?_) (fun c48 => ?_)
        · have e9 : zIn y (sLo v 1) (sHi v 1) = false := zIn_f2 c48
          refine z_iconst (nI 0) dX5_fitsStage_67 rfl ?_
          exact z_zret dX5_fitsStage_68 (by first | rfl | exact zB_nar _) (by rw [e9]; rfl) rfl
        · refine z_iload_n 2 rfl rfl dX5_fitsStage_51 ?_
          refine z_aload_n 0 rfl rfl dX5_fitsStage_52 ?_
          refine zC_S2 hp rfl zf_X5_26 dX5_fitsStage_53 ?_
          refine z_iload_n 1 rfl rfl dX5_fitsStage_56 ?_
          refine z_iconst (nI 1) dX5_fitsStage_57 rfl ?_
          refine z_iaddN dX5_fitsStage_58 ?_
          refine zC_a2 hp (by omega) dX5_fitsStage_59 ?_
          refine z_icmp_le 67 dX5_fitsStage_60 rfl (fun c60 => ?_) (fun c60 => ?_)
          · have e9 : zIn y (sLo v 1) (sHi v 1) = false := zIn_f1 (by
              show y < v 13 + nI 1
              obtain ⟨⟨q, hq, eq⟩, -⟩ := hH.2.2.1.2 2 (by omega)
              have eq : v 13 = nI q := eq
              rw [eq]
              exact i_not_le.mp (fun z => absurd c60 (i_not_le.mpr (by show v 13 < y; rw [eq]; exact (nI_succ_le (by omega)).mp z))))
            refine z_iconst (nI 0) dX5_fitsStage_67 rfl ?_
            exact z_zret dX5_fitsStage_68 (by first | rfl | exact zB_nar _) (by rw [e9]; rfl) rfl
          · have e9 : zIn y (sLo v 1) (sHi v 1) = true := zIn_t (by
              show v 13 + nI 1 ≤ y
              obtain ⟨⟨q, hq, eq⟩, -⟩ := hH.2.2.1.2 2 (by omega)
              have eq : v 13 = nI q := eq
              have c60 : v 13 < y := i_not_le.mp c60
              rw [eq] at c60 ⊢
              exact (nI_succ_le (by omega)).mpr c60) (i_not_lt.mp c48)
            refine z_iconst (nI 1) dX5_fitsStage_63 rfl ?_
            refine z_goto 68 dX5_fitsStage_64 rfl ?_
            exact z_zret dX5_fitsStage_68 (by first | rfl | exact zB_nar _) (by rw [e9]; rfl) rfl
      · exact absurd c33 (by decide)
  · refine z_aload_n 0 rfl rfl dX5_fitsStage_0 ?_
    refine z_iload_n 1 rfl rfl dX5_fitsStage_1 ?_
    refine z_iconst (nI 1) dX5_fitsStage_2 rfl ?_
    refine z_isubN (by omega) dX5_fitsStage_3 ?_
    refine z_pV1 (ci := 5) zm_X5_isStage (c_X5_isStage hp _) rfl zl_X5_110 rfl rfl (by decide) (hp.at (j := 0) (Or.inl (by decide))).1 (hp.at (j := 0) (Or.inl (by decide))).2 (by decide) (Nat.le_of_ble_eq_true rfl) dX5_fitsStage_4 ?_
    refine z_if_eqB 23 dX5_fitsStage_7 rfl (fun c7 => ?_) (fun c7 => ?_)
    · exact absurd c7 (by decide)
    · refine z_aload_n 0 rfl rfl dX5_fitsStage_10 ?_
      refine zC_S2 hp rfl zf_X5_26 dX5_fitsStage_11 ?_
      refine z_iload_n 1 rfl rfl dX5_fitsStage_14 ?_
      refine z_iconst (nI 1) dX5_fitsStage_15 rfl ?_
      refine z_isubN (by omega) dX5_fitsStage_16 ?_
      refine zC_a2 hp (by omega) dX5_fitsStage_17 ?_
      refine z_iconst (nI 1) dX5_fitsStage_18 rfl ?_
      refine z_isub dX5_fitsStage_19 ?_
      refine z_goto 25 dX5_fitsStage_20 rfl ?_
      refine z_istore_n 3 rfl (Nat.le_of_ble_eq_true rfl) rfl dX5_fitsStage_25 ?_
      refine z_aload_n 0 rfl rfl dX5_fitsStage_26 ?_
      refine z_iload_n 1 rfl rfl dX5_fitsStage_27 ?_
      refine z_iconst (nI 1) dX5_fitsStage_28 rfl ?_
      refine z_iaddN dX5_fitsStage_29 ?_
      refine z_pV1 (ci := 5) zm_X5_isStage (c_X5_isStage hp _) rfl zl_X5_110 rfl rfl (by decide) (hp.at (j := 0) (Or.inl (by decide))).1 (hp.at (j := 0) (Or.inl (by decide))).2 (by decide) (Nat.le_of_ble_eq_true rfl) dX5_fitsStage_30 ?_
      refine z_if_neB 46 dX5_fitsStage_33 rfl (fun c33 => ?_) (fun c33 => ?_)
      · refine z_iload_n 2 rfl rfl dX5_fitsStage_46 ?_
        refine z_iload_n 3 rfl rfl dX5_fitsStage_47 ?_
        refine z_icmp_gt 67 dX5_fitsStage_48 rfl (fun c48 => ?_) (fun c48 => ?_)
        · have e9 : zIn y (sLo v 2) (sHi v 2) = false := zIn_f2 c48
          refine z_iconst (nI 0) dX5_fitsStage_67 rfl ?_
          exact z_zret dX5_fitsStage_68 (by first | rfl | exact zB_nar _) (by rw [e9]; rfl) rfl
        · refine z_iload_n 2 rfl rfl dX5_fitsStage_51 ?_
          refine z_aload_n 0 rfl rfl dX5_fitsStage_52 ?_
          refine zC_S2 hp rfl zf_X5_26 dX5_fitsStage_53 ?_
          refine z_iload_n 1 rfl rfl dX5_fitsStage_56 ?_
          refine z_iconst (nI 1) dX5_fitsStage_57 rfl ?_
          refine z_iaddN dX5_fitsStage_58 ?_
          refine zC_a2 hp (by omega) dX5_fitsStage_59 ?_
          refine z_icmp_le 67 dX5_fitsStage_60 rfl (fun c60 => ?_) (fun c60 => ?_)
          · have e9 : zIn y (sLo v 2) (sHi v 2) = false := zIn_f1 (by
              show y < v 15 + nI 1
              obtain ⟨⟨q, hq, eq⟩, -⟩ := hH.2.2.1.2 3 (by omega)
              have eq : v 15 = nI q := eq
              rw [eq]
              exact i_not_le.mp (fun z => absurd c60 (i_not_le.mpr (by show v 15 < y; rw [eq]; exact (nI_succ_le (by omega)).mp z))))
            refine z_iconst (nI 0) dX5_fitsStage_67 rfl ?_
            exact z_zret dX5_fitsStage_68 (by first | rfl | exact zB_nar _) (by rw [e9]; rfl) rfl
          · have e9 : zIn y (sLo v 2) (sHi v 2) = true := zIn_t (by
              show v 15 + nI 1 ≤ y
              obtain ⟨⟨q, hq, eq⟩, -⟩ := hH.2.2.1.2 3 (by omega)
              have eq : v 15 = nI q := eq
              have c60 : v 15 < y := i_not_le.mp c60
              rw [eq] at c60 ⊢
              exact (nI_succ_le (by omega)).mpr c60) (i_not_lt.mp c48)
            refine z_iconst (nI 1) dX5_fitsStage_63 rfl ?_
            refine z_goto 68 dX5_fitsStage_64 rfl ?_
            exact z_zret dX5_fitsStage_68 (by first | rfl | exact zB_nar _) (by rw [e9]; rfl) rfl
      · exact absurd c33 (by decide)
  · refine z_aload_n 0 rfl rfl dX5_fitsStage_0 ?_
    refine z_iload_n 1 rfl rfl dX5_fitsStage_1 ?_
    refine z_iconst (nI 1) dX5_fitsStage_2 rfl ?_
    refine z_isubN (by omega) dX5_fitsStage_3 ?_
    refine z_pV1 (ci := 5) zm_X5_isStage (c_X5_isStage hp _) rfl zl_X5_110 rfl rfl (by decide) (hp.at (j := 0) (Or.inl (by decide))).1 (hp.at (j := 0) (Or.inl (by decide))).2 (by decide) (Nat.le_of_ble_eq_true rfl) dX5_fitsStage_4 ?_
    refine z_if_eqB 23 dX5_fitsStage_7 rfl (fun c7 => ?_) (fun c7 => ?_)
    · exact absurd c7 (by decide)
    · refine z_aload_n 0 rfl rfl dX5_fitsStage_10 ?_
      refine zC_S2 hp rfl zf_X5_26 dX5_fitsStage_11 ?_
      refine z_iload_n 1 rfl rfl dX5_fitsStage_14 ?_
      refine z_iconst (nI 1) dX5_fitsStage_15 rfl ?_
      refine z_isubN (by omega) dX5_fitsStage_16 ?_
      refine zC_a2 hp (by omega) dX5_fitsStage_17 ?_
      refine z_iconst (nI 1) dX5_fitsStage_18 rfl ?_
      refine z_isub dX5_fitsStage_19 ?_
      refine z_goto 25 dX5_fitsStage_20 rfl ?_
      refine z_istore_n 3 rfl (Nat.le_of_ble_eq_true rfl) rfl dX5_fitsStage_25 ?_
      refine z_aload_n 0 rfl rfl dX5_fitsStage_26 ?_
      refine z_iload_n 1 rfl rfl dX5_fitsStage_27 ?_
      refine z_iconst (nI 1) dX5_fitsStage_28 rfl ?_
      refine z_iaddN dX5_fitsStage_29 ?_
      refine z_pV1 (ci := 5) zm_X5_isStage (c_X5_isStage hp _) rfl zl_X5_110 rfl rfl (by decide) (hp.at (j := 0) (Or.inl (by decide))).1 (hp.at (j := 0) (Or.inl (by decide))).2 (by decide) (Nat.le_of_ble_eq_true rfl) dX5_fitsStage_30 ?_
      refine z_if_neB 46 dX5_fitsStage_33 rfl (fun c33 => ?_) (fun c33 => ?_)
      · exact absurd c33 (by decide)
      · refine z_iload_n 2 rfl rfl dX5_fitsStage_36 ?_
        refine z_if_ne 44 dX5_fitsStage_37 rfl (fun c37 => ?_) (fun c37 => ?_)
        · have e9 : zIn y (sLo v 3) (sHi v 3) = false := by
            show zIn y (nI 0) (nI 0) = false
            cases hq : zIn y (nI 0) (nI 0) with
            | false => rfl
            | true => exact absurd (zIn_self.mp hq) c37
          refine z_iconst (nI 0) dX5_fitsStage_44 rfl ?_
          exact z_zret dX5_fitsStage_45 (by first | rfl | exact zB_nar _) (by rw [e9]; rfl) rfl
        · have e9 : zIn y (sLo v 3) (sHi v 3) = true := zIn_self.mpr c37
          refine z_iconst (nI 1) dX5_fitsStage_40 rfl ?_
          refine z_goto 45 dX5_fitsStage_41 rfl ?_
          exact z_zret dX5_fitsStage_45 (by first | rfl | exact zB_nar _) (by rw [e9]; rfl) rfl
set_option maxRecDepth 4000 in
theorem c_X5_changeStage {l : Launch} {G : zG} {B : Nat → Nat} {m0 mm : zM} {v : Nat → Int32} (hp : zCV G B m0 v mm) (x y z : Int32) (hH : zH v) : zSem l G (yX5_changeStage, cX5_changeStage, 5, (some .int)) 3 [.ref (B 0), .int x, .int y, .int z] mm (some (.int (sSt v x y z).1)) (fun m' => zCV G B m0 (sSt v x y z).2.1 m') := by
  refine z_met [some (.ref (B 0)), some (.int x), some (.int y), some (.int z), none] rfl (zc1 (by rfl)) (Nat.le_of_ble_eq_true rfl) rfl ?_
  refine z_aload_n 0 rfl rfl dX5_changeStage_0 ?_
  refine z_iload_n 1 rfl rfl dX5_changeStage_1 ?_
  refine z_pV1 (ci := 5) zm_X5_isStage (c_X5_isStage hp _) rfl zl_X5_110 rfl rfl (by decide) (hp.at (j := 0) (Or.inl (by decide))).1 (hp.at (j := 0) (Or.inl (by decide))).2 (by decide) (Nat.le_of_ble_eq_true rfl) dX5_changeStage_2 ?_
  refine z_if_neB 10 dX5_changeStage_5 rfl (fun c5 => ?_) (fun c5 => ?_)
  · obtain ⟨k, hk, rfl⟩ := zIn_nI (by decide) c5
    have znk := zn_nI (show k < 2 ^ 31 by omega)
    refine z_aload_n 0 rfl rfl dX5_changeStage_10 ?_
    refine z_iload_n 1 rfl rfl dX5_changeStage_11 ?_
    refine z_iload_n 2 rfl rfl dX5_changeStage_12 ?_
    refine z_pV2 (ci := 5) zm_X5_fitsStage (c_X5_fitsStage hp _ _ (by omega) hH) rfl zl_X5_114 rfl rfl (by decide) (hp.at (j := 0) (Or.inl (by decide))).1 (hp.at (j := 0) (Or.inl (by decide))).2 (by decide) (Nat.le_of_ble_eq_true rfl) dX5_changeStage_13 ?_
    refine z_if_eqB 29 dX5_changeStage_16 rfl (fun c16 => ?_) (fun c16 => ?_)
    · refine z_bipush (-2) dX5_changeStage_29 (by decide) ?_
      have e9 : sSt v (nI k) y z = (-2, v, false) := by first | (simp only [sSt, c5, znk, c16, and_self, and_true, true_and, and_false, false_and, reduceIte, Bool.false_eq_true, reduceCtorEq]; done) | (simp only [sSt, c5, znk, c16, ez, and_self, and_true, true_and, and_false, false_and, reduceIte, Bool.false_eq_true, reduceCtorEq]; done)
      exact z_iret dX5_changeStage_31 (by rw [e9]) (by rw [e9]; exact hp)
    · refine z_iload_n 3 rfl rfl dX5_changeStage_19 ?_
      refine z_if_lt 29 dX5_changeStage_20 rfl (fun c20 => ?_) (fun c20 => ?_)
      · have ez : zIn z (nI 0) (nI 100) = false := zIn_f1 c20
        refine z_bipush (-2) dX5_changeStage_29 (by decide) ?_
        have e9 : sSt v (nI k) y z = (-2, v, false) := by first | (simp only [sSt, c5, znk, c16, and_self, and_true, true_and, and_false, false_and, reduceIte, Bool.false_eq_true, reduceCtorEq]; done) | (simp only [sSt, c5, znk, c16, ez, and_self, and_true, true_and, and_false, false_and, reduceIte, Bool.false_eq_true, reduceCtorEq]; done)
        exact z_iret dX5_changeStage_31 (by rw [e9]) (by rw [e9]; exact hp)
      · refine z_iload_n 3 rfl rfl dX5_changeStage_23 ?_
        refine z_bipush (nI 100) dX5_changeStage_24 rfl ?_
        refine z_icmp_le 32 dX5_changeStage_26 rfl (fun c26 => ?_) (fun c26 => ?_)
        · have ez : zIn z (nI 0) (nI 100) = true := zIn_t (i_not_lt.mp c20) c26
          refine z_aload_n 0 rfl rfl dX5_changeStage_32 ?_
          refine zC_S3 hp rfl zf_X5_32 dX5_changeStage_33 ?_
          refine z_iload_n 1 rfl rfl dX5_changeStage_36 ?_
          refine zC_a3 hp (by omega) dX5_changeStage_37 ?_
          refine z_istore 4 (Nat.le_of_ble_eq_true rfl) rfl dX5_changeStage_38 ?_
          refine z_aload_n 0 rfl rfl dX5_changeStage_40 ?_
          refine zC_S2 hp rfl zf_X5_26 dX5_changeStage_41 ?_
          refine z_iload_n 1 rfl rfl dX5_changeStage_44 ?_
          refine zC_a2 hp (by omega) dX5_changeStage_45 ?_
          refine z_iload_n 2 rfl rfl dX5_changeStage_46 ?_
          refine z_icmp_ne 59 dX5_changeStage_47 rfl (fun c47 => ?_) (fun c47 => ?_)
          · refine z_aload_n 0 rfl rfl dX5_changeStage_59 ?_
            refine zC_S2 hp rfl zf_X5_26 dX5_changeStage_60 ?_
            refine z_iload_n 1 rfl rfl dX5_changeStage_63 ?_
            refine z_iload_n 2 rfl rfl dX5_changeStage_64 ?_
            refine zC_a2s hp (by omega) dX5_changeStage_65 (fun mm hp => ?_)
            refine z_aload_n 0 rfl rfl dX5_changeStage_66 ?_
            refine zC_S3 hp rfl zf_X5_32 dX5_changeStage_67 ?_
            refine z_iload_n 1 rfl rfl dX5_changeStage_70 ?_
            refine z_iload_n 3 rfl rfl dX5_changeStage_71 ?_
            refine zC_a3s hp (by omega) dX5_changeStage_72 (fun mm hp => ?_)
            refine z_iload 4 rfl dX5_changeStage_73 ?_
            have e9 : sSt v (nI k) y z = (v (9 + 2 * k + 1), upd (upd v (9 + 2 * k) y) (9 + 2 * k + 1) z, true) := by simp only [sSt, c5, znk, c16, ez, and_self, and_true, true_and, and_false, false_and, reduceIte, Bool.false_eq_true, reduceCtorEq]; first | rw [if_neg (fun q => c47 q.1)] | rw [if_neg (fun q => c53 q.2)]
            exact z_iret dX5_changeStage_75 (by rw [e9]) (by rw [e9]; exact hp)
          · refine z_iload 4 rfl dX5_changeStage_50 ?_
            refine z_iload_n 3 rfl rfl dX5_changeStage_52 ?_
            refine z_icmp_ne 59 dX5_changeStage_53 rfl (fun c53 => ?_) (fun c53 => ?_)
            · refine z_aload_n 0 rfl rfl dX5_changeStage_59 ?_
              refine zC_S2 hp rfl zf_X5_26 dX5_changeStage_60 ?_
              refine z_iload_n 1 rfl rfl dX5_changeStage_63 ?_
              refine z_iload_n 2 rfl rfl dX5_changeStage_64 ?_
              refine zC_a2s hp (by omega) dX5_changeStage_65 (fun mm hp => ?_)
              refine z_aload_n 0 rfl rfl dX5_changeStage_66 ?_
              refine zC_S3 hp rfl zf_X5_32 dX5_changeStage_67 ?_
              refine z_iload_n 1 rfl rfl dX5_changeStage_70 ?_
              refine z_iload_n 3 rfl rfl dX5_changeStage_71 ?_
              refine zC_a3s hp (by omega) dX5_changeStage_72 (fun mm hp => ?_)
              refine z_iload 4 rfl dX5_changeStage_73 ?_
              have e9 : sSt v (nI k) y z = (v (9 + 2 * k + 1), upd (upd v (9 + 2 * k) y) (9 + 2 * k + 1) z, true) := by simp only [sSt, c5, znk, c16, ez, and_self, and_true, true_and, and_false, false_and, reduceIte, Bool.false_eq_true, reduceCtorEq]; first | rw [if_neg (fun q => c47 q.1)] | rw [if_neg (fun q => c53 q.2)]
              exact z_iret dX5_changeStage_75 (by rw [e9]) (by rw [e9]; exact hp)
            · refine z_bipush (-5) dX5_changeStage_56 (by decide) ?_
              have e9 : sSt v (nI k) y z = (-5, v, false) := by simp only [sSt, c5, znk, c16, ez, and_self, and_true, true_and, and_false, false_and, reduceIte, Bool.false_eq_true, reduceCtorEq]; rw [if_pos (And.intro c47 c53)]
              exact z_iret dX5_changeStage_58 (by rw [e9]) (by rw [e9]; exact hp)
        · have ez : zIn z (nI 0) (nI 100) = false := zIn_f2 (i_not_le.mp c26)
          refine z_bipush (-2) dX5_changeStage_29 (by decide) ?_
          have e9 : sSt v (nI k) y z = (-2, v, false) := by first | (simp only [sSt, c5, znk, c16, and_self, and_true, true_and, and_false, false_and, reduceIte, Bool.false_eq_true, reduceCtorEq]; done) | (simp only [sSt, c5, znk, c16, ez, and_self, and_true, true_and, and_false, false_and, reduceIte, Bool.false_eq_true, reduceCtorEq]; done)
          exact z_iret dX5_changeStage_31 (by rw [e9]) (by rw [e9]; exact hp)
  · refine z_iconst (-1) dX5_changeStage_8 (by decide) ?_
    have e9 : sSt v x y z = (-1, v, false) := by simp only [sSt, c5, and_self, and_true, true_and, and_false, false_and, reduceIte, Bool.false_eq_true, reduceCtorEq]
    exact z_iret dX5_changeStage_9 (by rw [e9]) (by rw [e9]; exact hp)
set_option maxRecDepth 4000 in
theorem c_X5_changeNumber {l : Launch} {G : zG} {B : Nat → Nat} {m0 mm : zM} {v : Nat → Int32} (hp : zCV G B m0 v mm) (x y : Int32) : zSem l G (yX5_changeNumber, cX5_changeNumber, 4, (some .int)) 1 [.ref (B 0), .int x, .int y] mm (some (.int (sSet v x y).1)) (fun m' => zCV G B m0 (sSet v x y).2.1 m') := by
  refine z_met [some (.ref (B 0)), some (.int x), some (.int y), none] rfl (zc1 (by rfl)) (Nat.le_of_ble_eq_true rfl) rfl ?_
  refine z_iload_n 1 rfl rfl dX5_changeNumber_0 ?_
  refine z_if_lt 13 dX5_changeNumber_1 rfl (fun c1 => ?_) (fun c1 => ?_)
  · have cx : zIn x (nI 0) (nI 3) = false := zIn_neg c1
    refine z_bipush (-2) dX5_changeNumber_13 (by decide) ?_
    have e9 : sSet v x y = (-2, v, false) := by simp only [sSet, cx, and_self, and_true, true_and, and_false, false_and, reduceIte, Bool.false_eq_true, reduceCtorEq]
    exact z_iret dX5_changeNumber_15 (by rw [e9]) (by rw [e9]; exact hp)
  · obtain ⟨k, hk31, rfl⟩ := nI_of c1
    refine z_iload_n 1 rfl rfl dX5_changeNumber_4 ?_
    refine z_aload_n 0 rfl rfl dX5_changeNumber_5 ?_
    refine zC_S1 hp rfl zf_X5_18 dX5_changeNumber_6 ?_
    refine zC_a1l hp dX5_changeNumber_9 ?_
    refine z_icmp_lt 16 dX5_changeNumber_10 rfl (fun c10 => ?_) (fun c10 => ?_)
    · have hk4 : k < 4 := (nI_ltI (by omega) (by omega)).mp c10
      have cx : zIn (nI k) (nI 0) (nI 3) = true := zIn_le (by omega) (by decide)
      have znk := zn_nI (show k < 2 ^ 31 by omega)
      refine z_iload_n 2 rfl rfl dX5_changeNumber_16 ?_
      refine z_getsL rfl zf_X5_118 dX5_changeNumber_17 ?_
      refine z_iload_n 1 rfl rfl dX5_changeNumber_20 ?_
      refine z_ialdL rfl (by omega) dX5_changeNumber_21 ?_
      refine z_icmp_lt 34 dX5_changeNumber_22 rfl (fun c22 => ?_) (fun c22 => ?_)
      · have cy : zIn y (zLow k) (zHigh k) = false := zIn_f1 c22
        refine z_bipush (-2) dX5_changeNumber_34 (by decide) ?_
        have e9 : sSet v (nI k) y = (-2, v, false) := by simp only [sSet, cx, znk, cy, and_self, and_true, true_and, and_false, false_and, reduceIte, Bool.false_eq_true, reduceCtorEq]
        exact z_iret dX5_changeNumber_36 (by rw [e9]) (by rw [e9]; exact hp)
      · refine z_iload_n 2 rfl rfl dX5_changeNumber_25 ?_
        refine z_getsM rfl zf_X5_121 dX5_changeNumber_26 ?_
        refine z_iload_n 1 rfl rfl dX5_changeNumber_29 ?_
        refine z_ialdM rfl (by omega) dX5_changeNumber_30 ?_
        refine z_icmp_le 37 dX5_changeNumber_31 rfl (fun c31 => ?_) (fun c31 => ?_)
        · have cy : zIn y (zLow k) (zHigh k) = true := zIn_t (i_not_lt.mp c22) c31
          refine z_aload_n 0 rfl rfl dX5_changeNumber_37 ?_
          refine zC_S1 hp rfl zf_X5_18 dX5_changeNumber_38 ?_
          refine z_iload_n 1 rfl rfl dX5_changeNumber_41 ?_
          refine zC_a1 hp (by omega) dX5_changeNumber_42 ?_
          refine z_istore_n 3 rfl (Nat.le_of_ble_eq_true rfl) rfl dX5_changeNumber_43 ?_
          refine z_iload_n 3 rfl rfl dX5_changeNumber_44 ?_
          refine z_iload_n 2 rfl rfl dX5_changeNumber_45 ?_
          refine z_icmp_ne 52 dX5_changeNumber_46 rfl (fun c46 => ?_) (fun c46 => ?_)
          · refine z_aload_n 0 rfl rfl dX5_changeNumber_52 ?_
            refine zC_S1 hp rfl zf_X5_18 dX5_changeNumber_53 ?_
            refine z_iload_n 1 rfl rfl dX5_changeNumber_56 ?_
            refine z_iload_n 2 rfl rfl dX5_changeNumber_57 ?_
            refine zC_a1s hp (by omega) dX5_changeNumber_58 (fun mm hp => ?_)
            refine z_iload_n 3 rfl rfl dX5_changeNumber_59 ?_
            have e9 : sSet v (nI k) y = (v (3 + k), upd v (3 + k) y, true) := by simp only [sSet, cx, znk, cy, and_self, and_true, true_and, and_false, false_and, reduceIte, Bool.false_eq_true, reduceCtorEq]; rw [if_neg c46]
            exact z_iret dX5_changeNumber_60 (by rw [e9]) (by rw [e9]; exact hp)
          · refine z_bipush (-5) dX5_changeNumber_49 (by decide) ?_
            have e9 : sSet v (nI k) y = (-5, v, false) := by simp only [sSet, cx, znk, cy, and_self, and_true, true_and, and_false, false_and, reduceIte, Bool.false_eq_true, reduceCtorEq]; rw [if_pos c46]
            exact z_iret dX5_changeNumber_51 (by rw [e9]) (by rw [e9]; exact hp)
        · have cy : zIn y (zLow k) (zHigh k) = false := zIn_f2 (i_not_le.mp c31)
          refine z_bipush (-2) dX5_changeNumber_34 (by decide) ?_
          have e9 : sSet v (nI k) y = (-2, v, false) := by simp only [sSet, cx, znk, cy, and_self, and_true, true_and, and_false, false_and, reduceIte, Bool.false_eq_true, reduceCtorEq]
          exact z_iret dX5_changeNumber_36 (by rw [e9]) (by rw [e9]; exact hp)
    · have cx : zIn (nI k) (nI 0) (nI 3) = false := zIn_gt (by rcases Nat.lt_or_ge k 4 with q | q; exact absurd (nI_lt q (by omega)) c10; omega) hk31
      refine z_bipush (-2) dX5_changeNumber_13 (by decide) ?_
      have e9 : sSet v (nI k) y = (-2, v, false) := by simp only [sSet, cx, and_self, and_true, true_and, and_false, false_and, reduceIte, Bool.false_eq_true, reduceCtorEq]
      exact z_iret dX5_changeNumber_15 (by rw [e9]) (by rw [e9]; exact hp)
def kNx (v : Nat → Int32) (d : Nat) : Option Nat := match sLow v d (nI 1) 4 (nR v) with
  | some r => some r
  | none => sLow v d (nI 0) 2 (nR v)
set_option maxRecDepth 4000 in
theorem c_X5_nextToCover {l : Launch} {G : zG} {B : Nat → Nat} {m0 mm : zM} {v : Nat → Int32} (hp : zCV G B m0 v mm) (w d : Nat) (hw : zRw G B m0 v w d) (hJ : zJ2 v) : zSem l G (yX5_nextToCover, cX5_nextToCover, 3, (some (.object "RightsDesk$RightRow"))) 2 [.ref (B 0), .ref w] mm (some (zRf B (kNx v d))) (fun m' => m' = mm) := by
  refine z_met [some (.ref (B 0)), some (.ref w), none] rfl (zc1 (by rfl)) (Nat.le_of_ble_eq_true rfl) rfl ?_
  refine z_aload_n 0 rfl rfl dX5_nextToCover_0 ?_
  refine z_aload_n 1 rfl rfl dX5_nextToCover_1 ?_
  by_cases co : sLow v d (nI 1) 4 (nR v) = none
  · refine z_pV1 (ci := 5) zm_X5_cheapestOffered (c_X5_cheapestOffered hp _ _ hw hJ) rfl zl_X5_139 rfl rfl (by decide) (hp.at (j := 0) (Or.inl (by decide))).1 (hp.at (j := 0) (Or.inl (by decide))).2 (by decide) (Nat.le_of_ble_eq_true rfl) dX5_nextToCover_2 ?_
    rw [co]
    have e9 : kNx v d = sLow v d (nI 0) 2 (nR v) := by unfold kNx; rw [co]
    refine z_astore_nN 2 rfl (Nat.le_of_ble_eq_true rfl) rfl dX5_nextToCover_5 ?_
    refine z_aload_nN 2 rfl rfl dX5_nextToCover_6 ?_
    refine z_ifnonnullN dX5_nextToCover_7 ?_
    refine z_aload_n 0 rfl rfl dX5_nextToCover_10 ?_
    refine z_aload_n 1 rfl rfl dX5_nextToCover_11 ?_
    by_cases ch : sLow v d (nI 0) 2 (nR v) = none
    · refine z_pV1 (ci := 5) zm_X5_cheapestHeld (c_X5_cheapestHeld hp _ _ hw hJ) rfl zl_X5_229 rfl rfl (by decide) (hp.at (j := 0) (Or.inl (by decide))).1 (hp.at (j := 0) (Or.inl (by decide))).2 (by decide) (Nat.le_of_ble_eq_true rfl) dX5_nextToCover_12 ?_
      rw [ch]
      rw [ch] at e9
      refine z_goto 19 dX5_nextToCover_15 rfl ?_
      exact z_aret dX5_nextToCover_19 (Or.inl rfl) (by rw [e9] <;> rfl) rfl
    · obtain ⟨r, ho⟩ := Option.ne_none_iff_exists'.mp ch
      refine z_pV1 (ci := 5) zm_X5_cheapestHeld (c_X5_cheapestHeld hp _ _ hw hJ) rfl zl_X5_229 rfl rfl (by decide) (hp.at (j := 0) (Or.inl (by decide))).1 (hp.at (j := 0) (Or.inl (by decide))).2 (by decide) (Nat.le_of_ble_eq_true rfl) dX5_nextToCover_12 ?_
      rw [ho, show zRf B (some r) = Value.ref (B (30 + r)) from rfl]
      rw [ho] at e9
      refine z_goto 19 dX5_nextToCover_15 rfl ?_
      exact z_aret dX5_nextToCover_19 (Or.inr ⟨_, rfl⟩) (by rw [e9] <;> rfl) rfl
  · obtain ⟨r, ho⟩ := Option.ne_none_iff_exists'.mp co
    refine z_pV1 (ci := 5) zm_X5_cheapestOffered (c_X5_cheapestOffered hp _ _ hw hJ) rfl zl_X5_139 rfl rfl (by decide) (hp.at (j := 0) (Or.inl (by decide))).1 (hp.at (j := 0) (Or.inl (by decide))).2 (by decide) (Nat.le_of_ble_eq_true rfl) dX5_nextToCover_2 ?_
    rw [ho, show zRf B (some r) = Value.ref (B (30 + r)) from rfl]
    have e9 : kNx v d = some r := by unfold kNx; rw [ho]
    refine z_astore_n 2 rfl (Nat.le_of_ble_eq_true rfl) rfl dX5_nextToCover_5 ?_
    refine z_aload_n 2 rfl rfl dX5_nextToCover_6 ?_
    refine z_ifnonnull 18 dX5_nextToCover_7 rfl ?_
    refine z_aload_n 2 rfl rfl dX5_nextToCover_18 ?_
    exact z_aret dX5_nextToCover_19 (Or.inr ⟨_, rfl⟩) (by rw [e9] <;> rfl) rfl
set_option maxRecDepth 4000 in
theorem c_X5_coverOne {l : Launch} {G : zG} {B : Nat → Nat} {m0 mm : zM} {v : Nat → Int32} (hp : zCV G B m0 v mm) (r g : Nat) (hH : zH v) (hr : r < nR v) (hg : g < 10) (e1 : v (147 + 7 * r + 1) = nI g) : zSem l G (yX5_coverOne, cX5_coverOne, 3, (some .int)) 3 [.ref (B 0), .ref (B (30 + r))] mm (some (.int (if v (147 + 7 * r + 3) = nI 1 then v (147 + 7 * r + 4) else v (147 + 7 * r + 2) * nI 3 / nI 2))) (fun m' => zCV G B m0 (sCv2 v r g (if v (147 + 7 * r + 3) = nI 1 then v (147 + 7 * r + 4) else v (147 + 7 * r + 2) * nI 3 / nI 2)) m') := by
  have hd10 := hH.1.1.2
  have hJ := hH.1.2.1
  have hJ2 := hJ.2
  obtain ⟨e8, he8, ee8⟩ := hH.2.2.2.2.2.2
  refine z_met [some (.ref (B 0)), some (.ref (B (30 + r))), none] rfl (zc1 (by rfl)) (Nat.le_of_ble_eq_true rfl) rfl ?_
  refine z_aload_n 1 rfl rfl dX5_coverOne_0 ?_
  refine zC_R4 hp (by omega) rfl zf_X5_182 dX5_coverOne_1 ?_
  refine z_iconst (nI 1) dX5_coverOne_4 rfl ?_
  refine z_icmp_ne 15 dX5_coverOne_5 rfl (fun c5 => ?_) (fun c5 => ?_)
  · rw [if_neg c5]
    have ke : ∀ c : Int32, sBec (sPays v g (-c)) r (nI 4) 8 = nI e8 := fun c => by rw [sBec_at (by omega) (by omega), sPays_at (by omega) (by omega)]; exact ee8
    refine z_aload_n 1 rfl rfl dX5_coverOne_15 ?_
    refine zC_R3 hp (by omega) rfl zf_X5_217 dX5_coverOne_16 ?_
    refine z_iconst (nI 3) dX5_coverOne_19 rfl ?_
    refine z_imul dX5_coverOne_20 ?_
    refine z_iconst (nI 2) dX5_coverOne_21 rfl ?_
    refine z_idiv dX5_coverOne_22 (by decide) ?_
    refine z_istore_n 2 rfl (Nat.le_of_ble_eq_true rfl) rfl dX5_coverOne_23 ?_
    refine z_aload_n 1 rfl rfl dX5_coverOne_24 ?_
    refine z_iconst (nI 4) dX5_coverOne_25 rfl ?_
    refine z_iconst (nI 0) dX5_coverOne_26 rfl ?_
    refine z_vV2 (ci := 4) zm_X4_turnTo (c_X4_turnTo hp _ _ _ (-5) (by omega) (fun q => absurd q (by decide)) (fun _ => rfl)) rfl zl_X5_156 rfl rfl (by decide) (hp.at (j := 30 + _) (Or.inr (by omega))).1 ((hp.at (j := 30 + _) (Or.inr (by omega))).2.trans (zBsh_r (by omega))) (by decide) (Nat.le_of_ble_eq_true rfl) dX5_coverOne_27 (fun mm hp => ?_)
    have hp : zCV G B m0 (sBec v r (nI 4)) mm := hp
    refine z_aload_n 0 rfl rfl dX5_coverOne_30 ?_
    refine z_aload_n 1 rfl rfl dX5_coverOne_31 ?_
    refine zC_R2 hp (by omega) rfl zf_X5_143 dX5_coverOne_32 ?_
    rw [show sBec v r (nI 4) (147 + 7 * r + 1) = nI g by rw [sBec_at (by omega) (by omega)]; exact e1]
    refine z_iload_n 2 rfl rfl dX5_coverOne_35 ?_
    refine z_vV2 (ci := 5) zm_X5_give (c_X5_give hp _ _ (by omega)) rfl zl_X5_149 rfl rfl (by decide) (hp.at (j := 0) (Or.inl (by decide))).1 (hp.at (j := 0) (Or.inl (by decide))).2 (by decide) (Nat.le_of_ble_eq_true rfl) dX5_coverOne_36 (fun mm hp => ?_)
    rw [sPays_bec hg] at hp
    refine z_aload_n 0 rfl rfl dX5_coverOne_39 ?_
    refine z_iconst (nI 5) dX5_coverOne_40 rfl ?_
    refine z_aload_n 1 rfl rfl dX5_coverOne_41 ?_
    refine z_iload_n 2 rfl rfl dX5_coverOne_42 ?_
    refine z_vV3 (ci := 5) zm_X5_log (c_X5_log hp _ _ _ _ (by omega) he8 (ke _)) rfl zl_X5_159 rfl rfl (by decide) (hp.at (j := 0) (Or.inl (by decide))).1 (hp.at (j := 0) (Or.inl (by decide))).2 (by decide) (Nat.le_of_ble_eq_true rfl) dX5_coverOne_43 (fun mm hp => ?_)
    refine z_iload_n 2 rfl rfl dX5_coverOne_46 ?_
    exact z_iret dX5_coverOne_47 rfl hp
  · rw [if_pos c5]
    have ke : ∀ c : Int32, sBec (sPays v g (-c)) r (nI 4) 8 = nI e8 := fun c => by rw [sBec_at (by omega) (by omega), sPays_at (by omega) (by omega)]; exact ee8
    refine z_aload_n 1 rfl rfl dX5_coverOne_8 ?_
    refine zC_R5 hp (by omega) rfl zf_X5_146 dX5_coverOne_9 ?_
    rw [kAsk_1 c5]
    refine z_goto 23 dX5_coverOne_12 rfl ?_
    refine z_istore_n 2 rfl (Nat.le_of_ble_eq_true rfl) rfl dX5_coverOne_23 ?_
    refine z_aload_n 1 rfl rfl dX5_coverOne_24 ?_
    refine z_iconst (nI 4) dX5_coverOne_25 rfl ?_
    refine z_iconst (nI 0) dX5_coverOne_26 rfl ?_
    refine z_vV2 (ci := 4) zm_X4_turnTo (c_X4_turnTo hp _ _ _ (-5) (by omega) (fun q => absurd q (by decide)) (fun _ => rfl)) rfl zl_X5_156 rfl rfl (by decide) (hp.at (j := 30 + _) (Or.inr (by omega))).1 ((hp.at (j := 30 + _) (Or.inr (by omega))).2.trans (zBsh_r (by omega))) (by decide) (Nat.le_of_ble_eq_true rfl) dX5_coverOne_27 (fun mm hp => ?_)
    have hp : zCV G B m0 (sBec v r (nI 4)) mm := hp
    refine z_aload_n 0 rfl rfl dX5_coverOne_30 ?_
    refine z_aload_n 1 rfl rfl dX5_coverOne_31 ?_
    refine zC_R2 hp (by omega) rfl zf_X5_143 dX5_coverOne_32 ?_
    rw [show sBec v r (nI 4) (147 + 7 * r + 1) = nI g by rw [sBec_at (by omega) (by omega)]; exact e1]
    refine z_iload_n 2 rfl rfl dX5_coverOne_35 ?_
    refine z_vV2 (ci := 5) zm_X5_give (c_X5_give hp _ _ (by omega)) rfl zl_X5_149 rfl rfl (by decide) (hp.at (j := 0) (Or.inl (by decide))).1 (hp.at (j := 0) (Or.inl (by decide))).2 (by decide) (Nat.le_of_ble_eq_true rfl) dX5_coverOne_36 (fun mm hp => ?_)
    rw [sPays_bec hg] at hp
    refine z_aload_n 0 rfl rfl dX5_coverOne_39 ?_
    refine z_iconst (nI 5) dX5_coverOne_40 rfl ?_
    refine z_aload_n 1 rfl rfl dX5_coverOne_41 ?_
    refine z_iload_n 2 rfl rfl dX5_coverOne_42 ?_
    refine z_vV3 (ci := 5) zm_X5_log (c_X5_log hp _ _ _ _ (by omega) he8 (ke _)) rfl zl_X5_159 rfl rfl (by decide) (hp.at (j := 0) (Or.inl (by decide))).1 (hp.at (j := 0) (Or.inl (by decide))).2 (by decide) (Nat.le_of_ble_eq_true rfl) dX5_coverOne_43 (fun mm hp => ?_)
    refine z_iload_n 2 rfl rfl dX5_coverOne_46 ?_
    exact z_iret dX5_coverOne_47 rfl hp
