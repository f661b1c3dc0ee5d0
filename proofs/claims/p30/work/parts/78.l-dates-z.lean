set_option maxRecDepth 4000 in
set_option maxHeartbeats 4000000 in
theorem l_dates_r {l : Launch} {G : zG} {Bs : Nat → Nat → Nat} {O : Nat → Nat} {v w : Nat → Int32} {hk : Int32} (hO : O 0 ∈ zL G ∧ zsh G (O 0) = (6, 5)) (hA : zAll v) {d L p su bs W cd : Nat} (hd : d < nD v) (F : dF v d L p su bs W cd) (K : ∀ (x3 x4 x5 x6 x7 x8 x9 : Option Value) (mm : zM), lT G Bs O v w hk mm → zV l G (yL_dates, cL_dates, 10, (some .boolean)) 7 (some (.int (zB true))) (lT G Bs O v w hk) 4 [some (.ref (O 0)), some (.int (nI 1)), some (.int (nI (d + 1))), x3, x4, x5, x6, x7, x8, x9] [] mm) : ∀ r, r ≤ nR v → ∀ (A B C : Nat) (lo : Int32) (x9 : Option Value) (mm : zM) (hA1 : A = sCnt v d (nI 0) (nI 2) r) (hB1 : B = sCnt v d (nI 1) (nI 1) r) (hC1 : C = sCnt v d (nI 2) (nI 2) r) (hlo1 : lo = lLow v d r) (hp : lT G Bs O v w hk mm), zV l G (yL_dates, cL_dates, 10, (some .boolean)) 7 (some (.int (zB true))) (lT G Bs O v w hk) 40 [some (.ref (O 0)), some (.int (nI 1)), some (.int (nI d)), some (.int (nI A)), some (.int (nI B)), some (.int (nI C)), some (.int (lo)), some (.int (nI L)), some (.int (nI r)), x9] [] mm := by
  have h10 := hA.1.1.1.1.1.2
  have h60 := hA.1.1.1.1.2.1.2
  refine z_loop (nR v) (fun r hi ih A B C lo x9 mm hA1 hB1 hC1 hlo1 hp => ?_)
  refine z_iload 8 rfl dL_dates_40 ?_
  refine z_aload_n 0 rfl rfl dL_dates_42 ?_
  refine z_iconst (nI 2) dL_dates_43 rfl ?_
  refine z_uV1 (ci := 6) zm_X6_count (q_count hp hA (by omega) (x := nI (nR v)) hA.1.1.1.1.2.1.1) rfl zl_L_16 rfl rfl (by decide) hO.1 hO.2 (by decide) (Nat.le_of_ble_eq_true rfl) dL_dates_44 (fun mm hp => ?_)
  refine z_icmp_ge 353 dL_dates_47 rfl (fun c47 => ?_) (fun c47 => ?_)
  · have hi2 : r = nR v := by have := (nI_leI (by omega) (by omega)).mp c47; omega
    subst hi2
    subst hA1 hB1 hC1 hlo1
    exact l_dates_m hO hA hd F K mm hp
  · have hr : r < nR v := Nat.lt_of_not_le (fun z => c47 (nI_le z (by omega)))
    have hr2 : r < nR v := hr
    by_cases hdd : v (147 + 7 * r + 0) = nI d
    · obtain ⟨s, c, k, hs, e3, hc, e2, f2, f7, f4, f1⟩ := r_facts hA hd hr hdd
      have e8 := e_right8 (v := v) hA.1.1.1.1.2.1 hr (by omega) hdd
      have F2 := F
      obtain ⟨hL, eL, ⟨hp1, hp20, ep⟩, -, ⟨hb1, hb, eb⟩, ⟨hW, eW⟩, -, g1, g0⟩ := F2
      rcases (by omega : s = 0 ∨ s = 1 ∨ s = 2 ∨ s = 3 ∨ s = 4 ∨ s = 5) with rfl | rfl | rfl | rfl | rfl | rfl
      · obtain ⟨hk7, e7, hop⟩ := f2 (by omega)
        have hLp : 0 < L := Nat.pos_of_ne_zero (fun z => (g0 z).2.2 hop)
        have e4 := f4 (by omega)
        have sx := sEx_iff (s := 0) (d := d) e3 (by omega) (g1 hLp).2.1 hL hW eW hp20 ep (Nat.le_trans sCnt_le h60)
        by_cases q : L ≤ W ∧ sOf v d (nI 2) (nI 2) < p
        · exact l_dates_s0t hO hA hd hr F hdd e3 hc e2 hk7 e7 hLp e4 (by rw [e8, sx, decide_eq_true q.1, decide_eq_true q.2, decide_eq_true (show 1 ≤ L from hLp)]; rfl) q.1 q.2 (fun x9 mm hp => ih hr2 _ _ _ _ x9 mm (by rw [hA1, sCnt_s hdd e3]; rfl) (by rw [hB1, sCnt_s hdd e3]; rfl) (by rw [hC1, sCnt_s hdd e3]; rfl) (by rw [hlo1]; exact (lLow_no (fun z => absurd (e3.symm.trans z.2) (by decide))).symm) hp) mm hp
        · exact l_dates_s0f hO hA hd hr F hdd e3 hc e2 hk7 e7 hLp e4 (by
            rw [e8, sx]
            by_cases w1 : L ≤ W
            · rw [decide_eq_false (fun z => q ⟨w1, z⟩), Bool.and_false, Bool.and_false]; rfl
            · rw [decide_eq_false w1, Bool.and_false, Bool.false_and, Bool.and_false]; rfl) q (fun x9 mm hp => ih hr2 _ _ _ _ x9 mm (by rw [hA1, sCnt_s hdd e3]; rfl) (by rw [hB1, sCnt_s hdd e3]; rfl) (by rw [hC1, sCnt_s hdd e3]; rfl) (by rw [hlo1]; exact (lLow_no (fun z => absurd (e3.symm.trans z.2) (by decide))).symm) hp) mm hp
      · obtain ⟨hk7, e7, hop⟩ := f2 (by omega)
        have hLp : 0 < L := Nat.pos_of_ne_zero (fun z => (g0 z).2.2 hop)
        obtain ⟨E, b, hE1, hE2, e4, eb2, hb2, hEb⟩ := f1 rfl
        have hbb : bs = b := (nI_eq (by omega) (by omega)).mp (eb.symm.trans eb2)
        subst hbb
        have e80 : sRight v (nI r) (nI 8) = nI 0 := by rw [e8, sEx_no e3 (by omega) (by omega)]; rfl
        by_cases q : lo < 0 ∨ nI E < lo
        · exact l_dates_s1u hO hA hd hr F hdd e3 hc e2 hk7 e7 hLp e4 hE1 hEb e80 q (fun x9 mm hp => ih hr2 _ _ _ _ x9 mm (by rw [hA1, sCnt_s hdd e3]; rfl) (by rw [hB1, sCnt_s hdd e3]; rfl) (by rw [hC1, sCnt_s hdd e3]; rfl) (by rw [← e4]; exact (lLow_up hA.1.1.1 hr ⟨hdd, e3⟩ (by rw [← hlo1, e4]; exact q)).symm) hp) mm hp
        · exact l_dates_s1k hO hA hd hr F hdd e3 hc e2 hk7 e7 hLp e4 hE1 hEb e80 (fun z => q (Or.inl z)) (fun z => q (Or.inr z)) (fun x9 mm hp => ih hr2 _ _ _ _ x9 mm (by rw [hA1, sCnt_s hdd e3]; rfl) (by rw [hB1, sCnt_s hdd e3]; rfl) (by rw [hC1, sCnt_s hdd e3]; rfl) (by rw [hlo1]; exact (lLow_keep ⟨hdd, e3⟩ (fun z => q (Or.inl (by rw [hlo1]; exact z))) (fun z => q (Or.inr (by rw [hlo1, ← e4]; exact z)))).symm) hp) mm hp
      · exact l_dates_s2 (k := k) hO hA hd hr F hdd e3 hc e2 (f7 (by omega)) (f4 (by omega)) (by rw [e8, sEx_no e3 (by omega) (by omega)]; rfl) (fun x9 mm hp => ih hr2 _ _ _ _ x9 mm (by rw [hA1, sCnt_s hdd e3]; rfl) (by rw [hB1, sCnt_s hdd e3]; rfl) (by rw [hC1, sCnt_s hdd e3]; rfl) (by rw [hlo1]; exact (lLow_no (fun z => absurd (e3.symm.trans z.2) (by decide))).symm) hp) mm hp
      · exact l_dates_s3 (k := k) hO hA hd hr F hdd e3 hc e2 (f7 (by omega)) (f4 (by omega)) (by rw [e8, sEx_no e3 (by omega) (by omega)]; rfl) (fun x9 mm hp => ih hr2 _ _ _ _ x9 mm (by rw [hA1, sCnt_s hdd e3]; rfl) (by rw [hB1, sCnt_s hdd e3]; rfl) (by rw [hC1, sCnt_s hdd e3]; rfl) (by rw [hlo1]; exact (lLow_no (fun z => absurd (e3.symm.trans z.2) (by decide))).symm) hp) mm hp
      · exact l_dates_s4 (k := k) hO hA hd hr F hdd e3 hc e2 (f7 (by omega)) (f4 (by omega)) (by rw [e8, sEx_no e3 (by omega) (by omega)]; rfl) (fun x9 mm hp => ih hr2 _ _ _ _ x9 mm (by rw [hA1, sCnt_s hdd e3]; rfl) (by rw [hB1, sCnt_s hdd e3]; rfl) (by rw [hC1, sCnt_s hdd e3]; rfl) (by rw [hlo1]; exact (lLow_no (fun z => absurd (e3.symm.trans z.2) (by decide))).symm) hp) mm hp
      · exact l_dates_s5 (k := k) hO hA hd hr F hdd e3 hc e2 (f7 (by omega)) (f4 (by omega)) (by rw [e8, sEx_no e3 (by omega) (by omega)]; rfl) (fun x9 mm hp => ih hr2 _ _ _ _ x9 mm (by rw [hA1, sCnt_s hdd e3]; rfl) (by rw [hB1, sCnt_s hdd e3]; rfl) (by rw [hC1, sCnt_s hdd e3]; rfl) (by rw [hlo1]; exact (lLow_no (fun z => absurd (e3.symm.trans z.2) (by decide))).symm) hp) mm hp
    · exact l_dates_ne hO hA hr hdd (fun x9 mm hp => ih hr2 _ _ _ _ x9 mm (by rw [hA1, sCnt_n hdd]) (by rw [hB1, sCnt_n hdd]) (by rw [hC1, sCnt_n hdd]) (by rw [hlo1]; exact (lLow_no (fun z => hdd z.1)).symm) hp) mm hp
set_option maxRecDepth 4000 in
set_option maxHeartbeats 4000000 in
theorem l_dates_o {l : Launch} {G : zG} {Bs : Nat → Nat → Nat} {O : Nat → Nat} {v w : Nat → Int32} {hk : Int32} (hO : O 0 ∈ zL G ∧ zsh G (O 0) = (6, 5)) (hA : zAll v) : ∀ d, d ≤ nD v → ∀ (x3 x4 x5 x6 x7 x8 x9 : Option Value) (mm : zM) (hp : lT G Bs O v w hk mm), zV l G (yL_dates, cL_dates, 10, (some .boolean)) 7 (some (.int (zB true))) (lT G Bs O v w hk) 4 [some (.ref (O 0)), some (.int (nI 1)), some (.int (nI d)), x3, x4, x5, x6, x7, x8, x9] [] mm := by
  have h10 := hA.1.1.1.1.1.2
  refine z_loop (nD v) (fun d hi ih x3 x4 x5 x6 x7 x8 x9 mm hp => ?_)
  refine z_iload_n 2 rfl rfl dL_dates_4 ?_
  refine z_aload_n 0 rfl rfl dL_dates_5 ?_
  refine z_iconst (nI 1) dL_dates_6 rfl ?_
  refine z_uV1 (ci := 6) zm_X6_count (q_count hp hA (by omega) (x := nI (nD v)) hA.1.1.1.1.1.1) rfl zl_L_16 rfl rfl (by decide) hO.1 hO.2 (by decide) (Nat.le_of_ble_eq_true rfl) dL_dates_7 (fun mm hp => ?_)
  refine z_icmp_ge 728 dL_dates_10 rfl (fun c10 => ?_) (fun c10 => ?_)
  · refine z_iload_n 1 rfl rfl dL_dates_728 ?_
    exact z_zret dL_dates_729 (by first | rfl | exact zB_nar _) rfl hp
  · have hd : d < nD v := Nat.lt_of_not_le (fun z => c10 (nI_le z (by omega)))
    obtain ⟨L, p, su, bs, W, cd, F⟩ := d_facts hA hd
    have F : dF v d L p su bs W cd := F
    refine z_iload_n 1 rfl rfl dL_dates_13 ?_
    refine z_if_eq 728 dL_dates_14 rfl (fun c14 => ?_) (fun c14 => ?_)
    · exact absurd c14 (by decide)
    · refine z_iconst (nI 0) dL_dates_17 rfl ?_
      refine z_istore_n 3 rfl (Nat.le_of_ble_eq_true rfl) rfl dL_dates_18 ?_
      refine z_iconst (nI 0) dL_dates_19 rfl ?_
      refine z_istore 4 (Nat.le_of_ble_eq_true rfl) rfl dL_dates_20 ?_
      refine z_iconst (nI 0) dL_dates_22 rfl ?_
      refine z_istore 5 (Nat.le_of_ble_eq_true rfl) rfl dL_dates_23 ?_
      refine z_bipush (-5) dL_dates_25 (by decide) ?_
      refine z_istore 6 (Nat.le_of_ble_eq_true rfl) rfl dL_dates_27 ?_
      refine z_aload_n 0 rfl rfl dL_dates_29 ?_
      refine z_iload_n 2 rfl rfl dL_dates_30 ?_
      refine z_iconst (nI 5) dL_dates_31 rfl ?_
      refine z_uV2 (ci := 6) zm_X6_date (q_dateW hp hA hd (by omega) F.2.1) rfl zl_L_26 rfl rfl (by decide) hO.1 hO.2 (by decide) (Nat.le_of_ble_eq_true rfl) dL_dates_32 (fun mm hp => ?_)
      refine z_istore 7 (Nat.le_of_ble_eq_true rfl) rfl dL_dates_35 ?_
      refine z_iconst (nI 0) dL_dates_37 rfl ?_
      refine z_istore 8 (Nat.le_of_ble_eq_true rfl) rfl dL_dates_38 ?_
      exact l_dates_r hO hA hd F (fun x3 x4 x5 x6 x7 x8 x9 mm hp => ih hd x3 x4 x5 x6 x7 x8 x9 mm hp) 0 (Nat.zero_le _) _ _ _ _ _ mm rfl rfl rfl rfl hp
set_option maxRecDepth 4000 in
theorem c_L_dates {l : Launch} {G : zG} {Bs : Nat → Nat → Nat} {O : Nat → Nat} {v w : Nat → Int32} {hk : Int32} {mm : zM} (hO : O 0 ∈ zL G ∧ zsh G (O 0) = (6, 5)) (hA : zAll v) (hp : lT G Bs O v w hk mm) : zSem l G (yL_dates, cL_dates, 10, (some .boolean)) 7 [.ref (O 0)] mm (some (.int (zB true))) (lT G Bs O v w hk) := by
  refine z_met [some (.ref (O 0)), none, none, none, none, none, none, none, none, none] rfl (zc1 (by rfl)) (Nat.le_of_ble_eq_true rfl) rfl ?_
  refine z_iconst (nI 1) dL_dates_0 rfl ?_
  refine z_istore_n 1 rfl (Nat.le_of_ble_eq_true rfl) rfl dL_dates_1 ?_
  refine z_iconst (nI 0) dL_dates_2 rfl ?_
  refine z_istore_n 2 rfl (Nat.le_of_ble_eq_true rfl) rfl dL_dates_3 ?_
  exact l_dates_o hO hA 0 (Nat.zero_le _) _ _ _ _ _ _ _ mm hp
