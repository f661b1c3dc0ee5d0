theorem sROo_pr {T : Nat → Int32} {t p : Nat} (h : (decide (0 < (sNum T t p 2).1) && sSg T t (p + (sNum T t p 2).1) (nI 61)) = true) : ∃ Z, sROo T t p = ((sPr T t (p + (sNum T t p 2).1 + 1)).1, (sPr T t (p + (sNum T t p 2).1 + 1)).2.1, nI (sNum T t p 2).2, Z) ∧ ((sPr T t (p + (sNum T t p 2).1 + 1)).1 = true → Z = (sPr T t (p + (sNum T t p 2).1 + 1)).2.2) := by
  unfold sROo
  rw [if_pos h]
  unfold sPr
  split
  · exact ⟨_, rfl, fun _ => rfl⟩
  · exact ⟨_, rfl, fun q => Bool.noConfusion (show false = true from q)⟩
theorem sROo_no {T : Nat → Int32} {t p : Nat} (h : (decide (0 < (sNum T t p 2).1) && sSg T t (p + (sNum T t p 2).1) (nI 61)) = false) : sROo T t p = (false, p + (sNum T t p 2).1, nI (sNum T t p 2).2, nI (sNum T t p 2).2) := by
  unfold sROo
  rw [h]; rfl
theorem sRO_gt {T : Nat → Int32} {t p : Nat} {a b : Int32} (h : (sRO T t p a b).1 = true) (hp : p ≤ t) : p < (sRO T t p a b).2.1 := by
  unfold sRO at h ⊢
  split
  · rename_i q
    rw [Bool.or_eq_true] at q
    have : p < t := q.elim (fun z => (sSg_lt z).1) (fun z => (sSg_lt z).1)
    have := sROb_le (T := T) (t := t) (p := p + 1) (by omega)
    omega
  · split
    · rename_i q
      show p < p + 1 + _
      omega
    · split
      · rename_i q
        have : p < t := (sSg_lt q).1
        have := sROo_le (T := T) (t := t) (p := p + 1) (by omega)
        omega
      · rename_i q1 q2 q3
        rw [if_neg q1, if_neg q2, if_neg q3] at h
        exact Bool.noConfusion (show false = true from h)
set_option maxRecDepth 4000 in
theorem c_X3_readOrder {l : Launch} {G : zG} {E D : Nat} {m0 mm : zM} {T : Nat → Int32} {t p : Nat} {kd fi se : Int32} (hp : zTP G E D m0 T (gP t p kd fi se) mm) (ht : t ≤ 60) (hpt : p ≤ t) : zSem l G (yX3_readOrder, cX3_readOrder, 1, (some .boolean)) 4 [.ref E] mm (some (.int (zB (sRO T t p 0 0).1))) (fun m' => ∃ a b, zTP G E D m0 T (gP t (sRO T t p 0 0).2.1 (sLet T t p) a b) m' ∧ ((sRO T t p 0 0).1 = true → a = (sRO T t p 0 0).2.2.1 ∧ (¬ sLet T t p = nI 99 → ¬ sLet T t p = nI 120 → b = (sRO T t p 0 0).2.2.2))) := by
  refine z_met [some (.ref E)] rfl (zc1 (by rfl)) (Nat.le_of_ble_eq_true rfl) rfl ?_
  refine z_aload_n 0 rfl rfl dX3_readOrder_0 ?_
  refine z_aload_n 0 rfl rfl dX3_readOrder_1 ?_
  refine z_pV0 (ci := 3) zm_X3_here (c_X3_here hp (by omega) (by omega)) rfl zl_X3_33 rfl rfl (by decide) hp.1.1 hp.1.2 (by decide) (Nat.le_of_ble_eq_true rfl) dX3_readOrder_2 ?_
  refine zG_p3 hp rfl zf_X3_37 dX3_readOrder_5 (fun mm hp => ?_)
  refine z_aload_n 0 rfl rfl dX3_readOrder_8 ?_
  refine z_bipush (nI 98) dX3_readOrder_9 rfl ?_
  refine z_uV1 (ci := 3) zm_X3_skip (c_X3_skip hp ht (by omega) (nI 98) (by decide)) rfl zl_X3_29 rfl rfl (by decide) hp.1.1 hp.1.2 (by decide) (Nat.le_of_ble_eq_true rfl) dX3_readOrder_11 (fun mm hp => ?_)
  refine z_if_neB 26 dX3_readOrder_14 rfl (fun c14 => ?_) (fun c14 => ?_)
  · rw [c14] at hp
    simp only [sB1_t, sB1_f, Nat.add_zero] at hp
    have hlt := (sSg_lt c14).1
    have hTp := (sSg_lt c14).2
    have e1 : sRO T t p 0 0 = sROb T t (p + 1) := by unfold sRO; rw [c14]; rfl
    refine z_aload_n 0 rfl rfl dX3_readOrder_26 ?_
    refine z_uV0 (ci := 3) zm_X3_readHolderAndDate (c_X3_readHolderAndDate hp ht (by omega)) rfl zl_X3_40 rfl rfl (by decide) hp.1.1 hp.1.2 (by decide) (Nat.le_of_ble_eq_true rfl) dX3_readOrder_27 (fun mm hp => ?_)
    obtain ⟨a, b, hp, hab⟩ := hp
    exact z_zret dX3_readOrder_30 (by first | rfl | exact zB_nar _) (by rw [e1]) (by rw [e1]; exact ⟨_, _, hp, fun q => ⟨(hab q).1, fun _ _ => (hab q).2⟩⟩)
  · rw [c14] at hp
    simp only [sB1_t, sB1_f, Nat.add_zero] at hp
    refine z_aload_n 0 rfl rfl dX3_readOrder_17 ?_
    refine z_bipush (nI 109) dX3_readOrder_18 rfl ?_
    refine z_uV1 (ci := 3) zm_X3_skip (c_X3_skip hp ht (by omega) (nI 109) (by decide)) rfl zl_X3_29 rfl rfl (by decide) hp.1.1 hp.1.2 (by decide) (Nat.le_of_ble_eq_true rfl) dX3_readOrder_20 (fun mm hp => ?_)
    refine z_if_eqB 31 dX3_readOrder_23 rfl (fun c23 => ?_) (fun c23 => ?_)
    · rw [c23] at hp
      simp only [sB1_t, sB1_f, Nat.add_zero] at hp
      refine z_aload_n 0 rfl rfl dX3_readOrder_31 ?_
      refine z_bipush (nI 99) dX3_readOrder_32 rfl ?_
      refine z_uV1 (ci := 3) zm_X3_skip (c_X3_skip hp ht (by omega) (nI 99) (by decide)) rfl zl_X3_29 rfl rfl (by decide) hp.1.1 hp.1.2 (by decide) (Nat.le_of_ble_eq_true rfl) dX3_readOrder_34 (fun mm hp => ?_)
      refine z_if_neB 49 dX3_readOrder_37 rfl (fun c37 => ?_) (fun c37 => ?_)
      · rw [c37] at hp
        simp only [sB1_t, sB1_f, Nat.add_zero] at hp
        have hlt := (sSg_lt c37).1
        have hTp := (sSg_lt c37).2
        have hk : sLet T t p = nI 99 := by unfold sLet; rw [if_pos hlt, hTp]
        have e1 : sRO T t p 0 0 = (decide (0 < (sNum T t (p + 1) 2).1), p + 1 + (sNum T t (p + 1) 2).1, nI (sNum T t (p + 1) 2).2, 0) := by unfold sRO; rw [c14, c23, c37]; rfl
        refine z_aload_n 0 rfl rfl dX3_readOrder_49 ?_
        refine z_uV0 (ci := 3) zm_X3_readRight (c_X3_readRight hp ht (by omega)) rfl zl_X3_43 rfl rfl (by decide) hp.1.1 hp.1.2 (by decide) (Nat.le_of_ble_eq_true rfl) dX3_readOrder_50 (fun mm hp => ?_)
        obtain ⟨a, hp, ha⟩ := hp
        exact z_zret dX3_readOrder_53 (by first | rfl | exact zB_nar _) (by rw [e1]) (by rw [e1]; exact ⟨_, _, hp, fun q => ⟨ha (of_decide_eq_true q), fun z1 z2 => by first | exact absurd hk z1 | exact absurd hk z2⟩⟩)
      · rw [c37] at hp
        simp only [sB1_t, sB1_f, Nat.add_zero] at hp
        refine z_aload_n 0 rfl rfl dX3_readOrder_40 ?_
        refine z_bipush (nI 120) dX3_readOrder_41 rfl ?_
        refine z_uV1 (ci := 3) zm_X3_skip (c_X3_skip hp ht (by omega) (nI 120) (by decide)) rfl zl_X3_29 rfl rfl (by decide) hp.1.1 hp.1.2 (by decide) (Nat.le_of_ble_eq_true rfl) dX3_readOrder_43 (fun mm hp => ?_)
        refine z_if_eqB 54 dX3_readOrder_46 rfl (fun c46 => ?_) (fun c46 => ?_)
        · rw [c46] at hp
          simp only [sB1_t, sB1_f, Nat.add_zero] at hp
          refine z_aload_n 0 rfl rfl dX3_readOrder_54 ?_
          refine z_bipush (nI 111) dX3_readOrder_55 rfl ?_
          refine z_uV1 (ci := 3) zm_X3_skip (c_X3_skip hp ht (by omega) (nI 111) (by decide)) rfl zl_X3_29 rfl rfl (by decide) hp.1.1 hp.1.2 (by decide) (Nat.le_of_ble_eq_true rfl) dX3_readOrder_57 (fun mm hp => ?_)
          refine z_if_eqB 90 dX3_readOrder_60 rfl (fun c60 => ?_) (fun c60 => ?_)
          · rw [c60] at hp
            simp only [sB1_t, sB1_f, Nat.add_zero] at hp
            have e9 : sRO T t p 0 0 = (false, p, 0, 0) := by unfold sRO; rw [c14, c23, c37, c46, c60]; rfl
            refine z_iconst (nI 0) dX3_readOrder_90 rfl ?_
            exact z_zret dX3_readOrder_91 (by first | rfl | exact zB_nar _) (by rw [e9]; rfl) (by rw [e9]; first | exact ⟨_, _, hp, fun q => Bool.noConfusion (show false = true from q)⟩ | exact ⟨_, _, hp, fun q => ⟨ha (of_decide_eq_true c67), fun _ _ => (hb c83).trans (hZ c83).symm⟩⟩)
          · rw [c60] at hp
            simp only [sB1_t, sB1_f, Nat.add_zero] at hp
            have hlt := (sSg_lt c60).1
            have hTp := (sSg_lt c60).2
            have e1 : sRO T t p 0 0 = sROo T t (p + 1) := by unfold sRO; rw [c14, c23, c37, c46, c60]; rfl
            refine z_aload_n 0 rfl rfl dX3_readOrder_63 ?_
            refine z_uV0 (ci := 3) zm_X3_readRight (c_X3_readRight hp ht (by omega)) rfl zl_X3_43 rfl rfl (by decide) hp.1.1 hp.1.2 (by decide) (Nat.le_of_ble_eq_true rfl) dX3_readOrder_64 (fun mm hp => ?_)
            obtain ⟨a, hp, ha⟩ := hp
            have hq1 := sNum_t (T := T) (t := t) (p := p + 1) (k := 2) (by omega)
            refine z_if_eqB 90 dX3_readOrder_67 rfl (fun c67 => ?_) (fun c67 => ?_)
            · have e9 := e1
              rw [sROo_no (by rw [c67]; rfl)] at e9
              refine z_iconst (nI 0) dX3_readOrder_90 rfl ?_
              exact z_zret dX3_readOrder_91 (by first | rfl | exact zB_nar _) (by rw [e9]; rfl) (by rw [e9]; first | exact ⟨_, _, hp, fun q => Bool.noConfusion (show false = true from q)⟩ | exact ⟨_, _, hp, fun q => ⟨ha (of_decide_eq_true c67), fun _ _ => (hb c83).trans (hZ c83).symm⟩⟩)
            · refine z_aload_n 0 rfl rfl dX3_readOrder_70 ?_
              refine z_bipush (nI 61) dX3_readOrder_71 rfl ?_
              refine z_uV1 (ci := 3) zm_X3_skip (c_X3_skip hp ht (by omega) (nI 61) (by decide)) rfl zl_X3_29 rfl rfl (by decide) hp.1.1 hp.1.2 (by decide) (Nat.le_of_ble_eq_true rfl) dX3_readOrder_73 (fun mm hp => ?_)
              refine z_if_eqB 90 dX3_readOrder_76 rfl (fun c76 => ?_) (fun c76 => ?_)
              · rw [c76] at hp
                simp only [sB1_t, sB1_f, Nat.add_zero] at hp
                have e9 := e1
                rw [sROo_no (by rw [c67, c76]; rfl)] at e9
                refine z_iconst (nI 0) dX3_readOrder_90 rfl ?_
                exact z_zret dX3_readOrder_91 (by first | rfl | exact zB_nar _) (by rw [e9]; rfl) (by rw [e9]; first | exact ⟨_, _, hp, fun q => Bool.noConfusion (show false = true from q)⟩ | exact ⟨_, _, hp, fun q => ⟨ha (of_decide_eq_true c67), fun _ _ => (hb c83).trans (hZ c83).symm⟩⟩)
              · rw [c76] at hp
                simp only [sB1_t, sB1_f, Nat.add_zero] at hp
                have hlt2 := (sSg_lt c76).1
                obtain ⟨Z, e8, hZ⟩ := sROo_pr (T := T) (t := t) (p := p + 1) (by rw [c67, c76]; rfl)
                rw [← e1] at e8
                refine z_aload_n 0 rfl rfl dX3_readOrder_79 ?_
                refine z_uV0 (ci := 3) zm_X3_readPrice (c_X3_readPrice hp ht (by omega)) rfl zl_X3_46 rfl rfl (by decide) hp.1.1 hp.1.2 (by decide) (Nat.le_of_ble_eq_true rfl) dX3_readOrder_80 (fun mm hp => ?_)
                obtain ⟨b, hp, hb⟩ := hp
                refine z_if_eqB 90 dX3_readOrder_83 rfl (fun c83 => ?_) (fun c83 => ?_)
                · have e9 := e8
                  rw [c83] at e9
                  refine z_iconst (nI 0) dX3_readOrder_90 rfl ?_
                  exact z_zret dX3_readOrder_91 (by first | rfl | exact zB_nar _) (by rw [e9]; rfl) (by rw [e9]; first | exact ⟨_, _, hp, fun q => Bool.noConfusion (show false = true from q)⟩ | exact ⟨_, _, hp, fun q => ⟨ha (of_decide_eq_true c67), fun _ _ => (hb c83).trans (hZ c83).symm⟩⟩)
                · have e9 := e8
                  rw [c83] at e9
                  refine z_iconst (nI 1) dX3_readOrder_86 rfl ?_
                  refine z_goto 91 dX3_readOrder_87 rfl ?_
                  exact z_zret dX3_readOrder_91 (by first | rfl | exact zB_nar _) (by rw [e9]; rfl) (by rw [e9]; first | exact ⟨_, _, hp, fun q => Bool.noConfusion (show false = true from q)⟩ | exact ⟨_, _, hp, fun q => ⟨ha (of_decide_eq_true c67), fun _ _ => (hb c83).trans (hZ c83).symm⟩⟩)
        · rw [c46] at hp
          simp only [sB1_t, sB1_f, Nat.add_zero] at hp
          have hlt := (sSg_lt c46).1
          have hTp := (sSg_lt c46).2
          have hk : sLet T t p = nI 120 := by unfold sLet; rw [if_pos hlt, hTp]
          have e1 : sRO T t p 0 0 = (decide (0 < (sNum T t (p + 1) 2).1), p + 1 + (sNum T t (p + 1) 2).1, nI (sNum T t (p + 1) 2).2, 0) := by unfold sRO; rw [c14, c23, c37, c46]; rfl
          refine z_aload_n 0 rfl rfl dX3_readOrder_49 ?_
          refine z_uV0 (ci := 3) zm_X3_readRight (c_X3_readRight hp ht (by omega)) rfl zl_X3_43 rfl rfl (by decide) hp.1.1 hp.1.2 (by decide) (Nat.le_of_ble_eq_true rfl) dX3_readOrder_50 (fun mm hp => ?_)
          obtain ⟨a, hp, ha⟩ := hp
          exact z_zret dX3_readOrder_53 (by first | rfl | exact zB_nar _) (by rw [e1]) (by rw [e1]; exact ⟨_, _, hp, fun q => ⟨ha (of_decide_eq_true q), fun z1 z2 => by first | exact absurd hk z1 | exact absurd hk z2⟩⟩)
    · rw [c23] at hp
      simp only [sB1_t, sB1_f, Nat.add_zero] at hp
      have hlt := (sSg_lt c23).1
      have hTp := (sSg_lt c23).2
      have e1 : sRO T t p 0 0 = sROb T t (p + 1) := by unfold sRO; rw [c14, c23]; rfl
      refine z_aload_n 0 rfl rfl dX3_readOrder_26 ?_
      refine z_uV0 (ci := 3) zm_X3_readHolderAndDate (c_X3_readHolderAndDate hp ht (by omega)) rfl zl_X3_40 rfl rfl (by decide) hp.1.1 hp.1.2 (by decide) (Nat.le_of_ble_eq_true rfl) dX3_readOrder_27 (fun mm hp => ?_)
      obtain ⟨a, b, hp, hab⟩ := hp
      exact z_zret dX3_readOrder_30 (by first | rfl | exact zB_nar _) (by rw [e1]) (by rw [e1]; exact ⟨_, _, hp, fun q => ⟨(hab q).1, fun _ _ => (hab q).2⟩⟩)
def kCn (x : List (Int32 × Int32 × Int32) × Bool × Nat) (c : Nat) : Int32 := if x.2.1 = true then nI (c + x.1.length) else -100 - nI x.2.2
theorem sPA_no {T : Nat → Int32} {t n p : Nat} (h : (sRO T t p 0 0).1 = false) : sPA T t (n + 1) p = ([], false, (sRO T t p 0 0).2.1) := by
  unfold sPA; rw [if_neg (by rw [h]; decide)]
theorem sPA_end {T : Nat → Int32} {t n p : Nat} (h : (sRO T t p 0 0).1 = true) (hl : ¬ (sRO T t p 0 0).2.1 < t) : sPA T t (n + 1) p = ([(sLet T t p, (sRO T t p 0 0).2.2.1, (sRO T t p 0 0).2.2.2)], true, (sRO T t p 0 0).2.1) := by
  unfold sPA; rw [if_pos h, if_neg hl]
theorem sPA_bad {T : Nat → Int32} {t n p : Nat} (h : (sRO T t p 0 0).1 = true) (hl : (sRO T t p 0 0).2.1 < t) (h9 : sSg T t (sRO T t p 0 0).2.1 (nI 59) = false) : sPA T t (n + 1) p = ([(sLet T t p, (sRO T t p 0 0).2.2.1, (sRO T t p 0 0).2.2.2)], false, (sRO T t p 0 0).2.1) := by
  unfold sPA; rw [if_pos h, if_pos hl, if_neg (fun q => by unfold sSg at h9; rw [decide_eq_true hl, decide_eq_true q] at h9; exact absurd h9 (by decide))]
theorem sPA_go {T : Nat → Int32} {t n p : Nat} (h : (sRO T t p 0 0).1 = true) (h9 : sSg T t (sRO T t p 0 0).2.1 (nI 59) = true) : sPA T t (n + 1) p = ((sLet T t p, (sRO T t p 0 0).2.2.1, (sRO T t p 0 0).2.2.2) :: (sPA T t n ((sRO T t p 0 0).2.1 + 1)).1, (sPA T t n ((sRO T t p 0 0).2.1 + 1)).2) := by
  conv => lhs; unfold sPA
  rw [if_pos h, if_pos (sSg_lt h9).1, if_pos (sSg_lt h9).2]
set_option maxRecDepth 4000 in
theorem l_X3_countOrders {l : Launch} {G : zG} {E D : Nat} {m0 : zM} {T : Nat → Int32} {t : Nat} (ht : t ≤ 60) : ∀ (n p cnt i : Nat) (kd fi se : Int32) (mm : zM), zTP G E D m0 T (gP t p kd fi se) mm → 2 * i ≤ p → p ≤ t → t < p + n → zV l G (yX3_countOrders, cX3_countOrders, 4, (some .int)) 5 (some (.int (kCn (sPA T t n p) cnt))) (fun m' => ∃ q a b c, zTP G E D m0 T (gP t q a b c) m') 10 [some (.ref E), some (.int (nI cnt)), some (.int (nI 1)), some (.int (nI i))] [] mm := by
  intro n
  induction n with
  | zero => intro p cnt i kd fi se mm hp h1 h2 h3; omega
  | succ n ih =>
    intro p cnt i kd fi se mm hp hi2 hpt hfu
    refine z_iload_n 3 rfl rfl dX3_countOrders_10 ?_
    refine z_bipush (nI 60) dX3_countOrders_11 rfl ?_
    refine z_icmp_ge 51 dX3_countOrders_13 rfl (fun c13 => ?_) (fun c13 => ?_)
    · exact absurd ((nI_leI (by omega) (by omega)).mp c13) (by omega)
    · refine z_iload_n 2 rfl rfl dX3_countOrders_16 ?_
      refine z_if_eq 51 dX3_countOrders_17 rfl (fun c17 => ?_) (fun c17 => ?_)
      · exact absurd c17 (by decide)
      · refine z_aload_n 0 rfl rfl dX3_countOrders_20 ?_
        refine z_uV0 (ci := 3) zm_X3_readOrder (c_X3_readOrder hp ht hpt) rfl zl_X3_22 rfl rfl (by decide) hp.1.1 hp.1.2 (by decide) (Nat.le_of_ble_eq_true rfl) dX3_countOrders_21 (fun mm hp => ?_)
        obtain ⟨a, b, hp, hab⟩ := hp
        have hle := sRO_le (T := T) (t := t) (p := p) (a := 0) (b := 0) hpt
        refine z_if_neB 35 dX3_countOrders_24 rfl (fun c24 => ?_) (fun c24 => ?_)
        · have hgt := sRO_gt c24 hpt
          refine z_iincN (n := 1) 1 rfl rfl dX3_countOrders_35 ?_
          refine z_aload_n 0 rfl rfl dX3_countOrders_38 ?_
          refine z_bipush (nI 59) dX3_countOrders_39 rfl ?_
          by_cases hq : sSg T t (sRO T t p 0 0).2.1 (nI 59) = true
          · refine z_uV1 (ci := 3) zm_X3_skip (c_X3_skip hp ht (by omega) (nI 59) (by decide)) rfl zl_X3_29 rfl rfl (by decide) hp.1.1 hp.1.2 (by decide) (Nat.le_of_ble_eq_true rfl) dX3_countOrders_41 (fun mm hp => ?_)
            rw [hq]
            rw [hq] at hp
            simp only [sB1_t, sB1_f, Nat.add_zero] at hp
            refine z_istore_n 2 rfl (Nat.le_of_ble_eq_true rfl) rfl dX3_countOrders_44 ?_
            refine z_iincN (n := 1) 3 rfl rfl dX3_countOrders_45 ?_
            refine z_goto 10 dX3_countOrders_48 rfl ?_
            have hlt := (sSg_lt hq).1
            rw [show kCn (sPA T t (n + 1) p) cnt = kCn (sPA T t n ((sRO T t p 0 0).2.1 + 1)) (cnt + 1) by rw [sPA_go c24 hq]; unfold kCn; simp only [List.length_cons]; rw [show cnt + ((sPA T t n ((sRO T t p 0 0).2.1 + 1)).1.length + 1) = cnt + 1 + (sPA T t n ((sRO T t p 0 0).2.1 + 1)).1.length by omega]]
            exact ih _ (cnt + 1) (i + 1) _ _ _ mm hp (by omega) (by omega) (by omega)
          · have hq : sSg T t (sRO T t p 0 0).2.1 (nI 59) = false := by simpa using hq
            refine z_uV1 (ci := 3) zm_X3_skip (c_X3_skip hp ht (by omega) (nI 59) (by decide)) rfl zl_X3_29 rfl rfl (by decide) hp.1.1 hp.1.2 (by decide) (Nat.le_of_ble_eq_true rfl) dX3_countOrders_41 (fun mm hp => ?_)
            rw [hq]
            rw [hq] at hp
            simp only [sB1_t, sB1_f, Nat.add_zero] at hp
            refine z_istore_n 2 rfl (Nat.le_of_ble_eq_true rfl) rfl dX3_countOrders_44 ?_
            refine z_iincN (n := 1) 3 rfl rfl dX3_countOrders_45 ?_
            refine z_goto 10 dX3_countOrders_48 rfl ?_
            refine z_iload_n 3 rfl rfl dX3_countOrders_10 ?_
            refine z_bipush (nI 60) dX3_countOrders_11 rfl ?_
            refine z_icmp_ge 51 dX3_countOrders_13 rfl (fun c13 => ?_) (fun c13 => ?_)
            · refine z_aload_n 0 rfl rfl dX3_countOrders_51 ?_
              refine zG_2 hp rfl zf_X3_26 dX3_countOrders_52 ?_
              refine z_aload_n 0 rfl rfl dX3_countOrders_55 ?_
              refine zG_1 hp rfl zf_X3_15 dX3_countOrders_56 ?_
              refine z_icmp_ne 66 dX3_countOrders_59 rfl (fun c59 => ?_) (fun c59 => ?_)
              · have hne : (sRO T t p 0 0).2.1 < t := by
                  rcases Nat.lt_or_ge (sRO T t p 0 0).2.1 t with z | z
                  · exact z
                  · exact absurd (by rw [show (sRO T t p 0 0).2.1 = t by omega]) c59
                have e9 : kCn (sPA T t (n + 1) p) cnt = -100 - nI (sRO T t p 0 0).2.1 := by rw [sPA_bad c24 hne hq]; rfl
                refine z_bipush (-100) dX3_countOrders_66 (by decide) ?_
                refine z_aload_n 0 rfl rfl dX3_countOrders_68 ?_
                refine zG_2 hp rfl zf_X3_26 dX3_countOrders_69 ?_
                refine z_isub dX3_countOrders_72 ?_
                exact z_iret dX3_countOrders_73 (by rw [e9]) ⟨_, _, _, _, hp⟩
              · have he : (sRO T t p 0 0).2.1 = t := (nI_eq (by omega) (by omega)).mp c59
                have e9 : kCn (sPA T t (n + 1) p) cnt = nI (cnt + 1) := by rw [sPA_end c24 (by omega)]; rfl
                refine z_iload_n 1 rfl rfl dX3_countOrders_62 ?_
                refine z_goto 73 dX3_countOrders_63 rfl ?_
                exact z_iret dX3_countOrders_73 (by rw [e9]) ⟨_, _, _, _, hp⟩
            · refine z_iload_n 2 rfl rfl dX3_countOrders_16 ?_
              refine z_if_eqB 51 dX3_countOrders_17 rfl (fun c17 => ?_) (fun c17 => ?_)
              · refine z_aload_n 0 rfl rfl dX3_countOrders_51 ?_
                refine zG_2 hp rfl zf_X3_26 dX3_countOrders_52 ?_
                refine z_aload_n 0 rfl rfl dX3_countOrders_55 ?_
                refine zG_1 hp rfl zf_X3_15 dX3_countOrders_56 ?_
                refine z_icmp_ne 66 dX3_countOrders_59 rfl (fun c59 => ?_) (fun c59 => ?_)
                · have hne : (sRO T t p 0 0).2.1 < t := by
                    rcases Nat.lt_or_ge (sRO T t p 0 0).2.1 t with z | z
                    · exact z
                    · exact absurd (by rw [show (sRO T t p 0 0).2.1 = t by omega]) c59
                  have e9 : kCn (sPA T t (n + 1) p) cnt = -100 - nI (sRO T t p 0 0).2.1 := by rw [sPA_bad c24 hne hq]; rfl
                  refine z_bipush (-100) dX3_countOrders_66 (by decide) ?_
                  refine z_aload_n 0 rfl rfl dX3_countOrders_68 ?_
                  refine zG_2 hp rfl zf_X3_26 dX3_countOrders_69 ?_
                  refine z_isub dX3_countOrders_72 ?_
                  exact z_iret dX3_countOrders_73 (by rw [e9]) ⟨_, _, _, _, hp⟩
                · have he : (sRO T t p 0 0).2.1 = t := (nI_eq (by omega) (by omega)).mp c59
                  have e9 : kCn (sPA T t (n + 1) p) cnt = nI (cnt + 1) := by rw [sPA_end c24 (by omega)]; rfl
                  refine z_iload_n 1 rfl rfl dX3_countOrders_62 ?_
                  refine z_goto 73 dX3_countOrders_63 rfl ?_
                  exact z_iret dX3_countOrders_73 (by rw [e9]) ⟨_, _, _, _, hp⟩
              · exact Bool.noConfusion c17
        · have e9 : kCn (sPA T t (n + 1) p) cnt = -100 - nI (sRO T t p 0 0).2.1 := by rw [sPA_no c24]; rfl
          refine z_bipush (-100) dX3_countOrders_27 (by decide) ?_
          refine z_aload_n 0 rfl rfl dX3_countOrders_29 ?_
          refine zG_2 hp rfl zf_X3_26 dX3_countOrders_30 ?_
          refine z_isub dX3_countOrders_33 ?_
          exact z_iret dX3_countOrders_34 (by rw [e9]) ⟨_, _, _, _, hp⟩
