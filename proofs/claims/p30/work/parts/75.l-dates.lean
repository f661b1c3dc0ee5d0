/-- a date's numbers, as the law asks for them -/
def dF (v : Nat → Int32) (d L p su bs W cd : Nat) : Prop := L ≤ 999 ∧ sDateW v d 5 = nI L ∧ (1 ≤ p ∧ p ≤ 20 ∧ v (27 + 12 * d + 1) = nI p) ∧ (su ≤ 5 ∧ v (27 + 12 * d + 2) = nI su) ∧ (1 ≤ bs ∧ bs ≤ 9999 ∧ v (27 + 12 * d + 3) = nI bs) ∧ (W < 2 ^ 31 ∧ v 5 = nI W) ∧ (cd < 2 ^ 31 ∧ v 3 = nI cd) ∧
    (0 < L → sOpen v d = true ∧ sLeft v d = nI L ∧ v 0 < v (27 + 12 * d + 0)) ∧ (L = 0 → sOpen v d = false ∧ sLeft v d ≤ 0 ∧ ¬ v 0 < v (27 + 12 * d + 0))
theorem room_1a {a b m : Nat} (ha : a < 2 ^ 29) (hb : b < 2 ^ 29) (hm : m < 2 ^ 29) (h : ¬ nI a - nI b ≤ nI m) : min (a - b) m = m := by
  rw [Int32.le_iff_toInt_le, pk_sub_toInt (by omega) (by omega), nI_toInt (by omega)] at h
  omega
theorem room_1b {a b m : Nat} (ha : a < 2 ^ 29) (hb : b < 2 ^ 29) (hm : m < 2 ^ 29) (h : nI a - nI b ≤ nI m) (h0 : 0 ≤ nI a - nI b) : nI (min (a - b) m) = nI a - nI b := by
  rw [Int32.le_iff_toInt_le, pk_sub_toInt (by omega) (by omega)] at h h0
  rw [nI_toInt (by omega)] at h
  have z0 : (0 : Int32).toInt = 0 := rfl
  rw [z0] at h0
  rw [nI_sub (by omega), Nat.min_eq_left (by omega)]
theorem room_1c {a b m : Nat} (ha : a < 2 ^ 29) (hb : b < 2 ^ 29) (h0 : ¬ 0 ≤ nI a - nI b) : min (a - b) m = 0 := by
  rw [Int32.le_iff_toInt_le, pk_sub_toInt (by omega) (by omega)] at h0
  have z0 : (0 : Int32).toInt = 0 := rfl
  rw [z0] at h0
  omega
set_option maxRecDepth 4000 in
set_option maxHeartbeats 4000000 in
theorem l_dates_w {l : Launch} {G : zG} {Bs : Nat → Nat → Nat} {O : Nat → Nat} {v w : Nat → Int32} {hk : Int32} (hO : O 0 ∈ zL G ∧ zsh G (O 0) = (6, 5)) (hA : zAll v) {d N : Nat} {x3 x4 x5 x6 x7 x8 : Option Value} (hd : d < nD v) (hN : N ≤ 6) (h5 : v (27 + 12 * d + 5) = nI N) (hl : ∀ k, k < N → ∃ h, h < 10 ∧ v (27 + 12 * d + (6 + k)) = nI h) (hdis : zHl v d) (K : ∀ (x3 x4 x5 x6 x7 x8 x9 : Option Value) (mm : zM), lT G Bs O v w hk mm → zV l G (yL_dates, cL_dates, 10, (some .boolean)) 7 (some (.int (zB true))) (lT G Bs O v w hk) 4 [some (.ref (O 0)), some (.int (nI 1)), some (.int (nI (d + 1))), x3, x4, x5, x6, x7, x8, x9] [] mm) : ∀ i, i ≤ N → ∀ (mm : zM) (hp : lT G Bs O v w hk mm), zV l G (yL_dates, cL_dates, 10, (some .boolean)) 7 (some (.int (zB true))) (lT G Bs O v w hk) 633 [some (.ref (O 0)), some (.int (nI 1)), some (.int (nI d)), x3, x4, x5, x6, x7, x8, some (.int (nI i))] [] mm := by
  have h10 := hA.1.1.1.1.1.2
  refine z_loop N (fun i hi ih mm hp => ?_)
  refine z_iload 9 rfl dL_dates_633 ?_
  refine z_aload_n 0 rfl rfl dL_dates_635 ?_
  refine z_iload_n 2 rfl rfl dL_dates_636 ?_
  refine z_bipush (nI 12) dL_dates_637 rfl ?_
  refine z_uV2 (ci := 6) zm_X6_date (q_dateW hp hA hd (by omega) (x := nI N) h5) rfl zl_L_26 rfl rfl (by decide) hO.1 hO.2 (by decide) (Nat.le_of_ble_eq_true rfl) dL_dates_639 (fun mm hp => ?_)
  refine z_icmp_ge 695 dL_dates_642 rfl (fun c642 => ?_) (fun c642 => ?_)
  · have hi2 : i = N := by have := (nI_leI (by omega) (by omega)).mp c642; omega
    subst hi2
    refine z_iload_n 1 rfl rfl dL_dates_695 ?_
    refine z_if_eq 720 dL_dates_696 rfl (fun c696 => ?_) (fun c696 => ?_)
    · exact absurd c696 (by decide)
    · refine z_aload_n 0 rfl rfl dL_dates_699 ?_
      refine z_iload_n 2 rfl rfl dL_dates_700 ?_
      refine z_aload_n 0 rfl rfl dL_dates_701 ?_
      refine z_iload_n 2 rfl rfl dL_dates_702 ?_
      refine z_bipush (nI 12) dL_dates_703 rfl ?_
      refine z_uV2 (ci := 6) zm_X6_date (q_dateW hp hA hd (by omega) (x := nI i) h5) rfl zl_L_26 rfl rfl (by decide) hO.1 hO.2 (by decide) (Nat.le_of_ble_eq_true rfl) dL_dates_705 (fun mm hp => ?_)
      refine z_uV2 (ci := 6) zm_X6_waiting (q_waiting hp hA (by rw [e_wait hA.1.1.1.1.1 hd h5 hN hN, if_neg (by omega)])) rfl zl_L_41 rfl rfl (by decide) hO.1 hO.2 (by decide) (Nat.le_of_ble_eq_true rfl) dL_dates_708 (fun mm hp => ?_)
      refine z_bipush (-5) dL_dates_711 (by decide) ?_
      refine z_icmp_ne 720 dL_dates_713 rfl (fun c713 => ?_) (fun c713 => ?_)
      · exact absurd c713 (by decide)
      · refine z_iconst (nI 1) dL_dates_716 rfl ?_
        refine z_goto 721 dL_dates_717 rfl ?_
        refine z_istore_n 1 rfl (Nat.le_of_ble_eq_true rfl) rfl dL_dates_721 ?_
        refine z_iincN (n := 1) 2 rfl rfl dL_dates_722 ?_
        refine z_goto 4 dL_dates_725 rfl ?_
        exact K _ _ _ _ _ _ _ mm hp
  · have hi2 : i < N := Nat.lt_of_not_le (fun z => c642 (nI_le z (by omega)))
    obtain ⟨h, hh, eh⟩ := hl i hi2
    have ew : sWait v (nI d) (nI i) = nI h := by rw [e_wait hA.1.1.1.1.1 hd h5 hN (by omega), if_pos hi2]; exact eh
    refine z_iload_n 1 rfl rfl dL_dates_645 ?_
    refine z_if_eq 695 dL_dates_646 rfl (fun c646 => ?_) (fun c646 => ?_)
    · exact absurd c646 (by decide)
    · refine z_aload_n 0 rfl rfl dL_dates_649 ?_
      refine z_iload_n 2 rfl rfl dL_dates_650 ?_
      refine z_iload 9 rfl dL_dates_651 ?_
      refine z_uV2 (ci := 6) zm_X6_waiting (q_waiting hp hA ew) rfl zl_L_41 rfl rfl (by decide) hO.1 hO.2 (by decide) (Nat.le_of_ble_eq_true rfl) dL_dates_653 (fun mm hp => ?_)
      refine z_if_lt 687 dL_dates_656 rfl (fun c656 => ?_) (fun c656 => ?_)
      · exact absurd c656 (nI_pos (by omega))
      · refine z_iload 9 rfl dL_dates_659 ?_
        refine z_if_eq 683 dL_dates_661 rfl (fun c661 => ?_) (fun c661 => ?_)
        · refine z_iconst (nI 1) dL_dates_683 rfl ?_
          refine z_goto 688 dL_dates_684 rfl ?_
          refine z_istore_n 1 rfl (Nat.le_of_ble_eq_true rfl) rfl dL_dates_688 ?_
          refine z_iincN (n := 1) 9 rfl rfl dL_dates_689 ?_
          refine z_goto 633 dL_dates_692 rfl ?_
          exact ih (by omega) mm hp
        · have hi0 : 1 ≤ i := by rcases Nat.eq_zero_or_pos i with z | z; exact absurd (by rw [z]; rfl) c661; exact z
          obtain ⟨h2, hh2, eh2⟩ := hl (i - 1) (by omega)
          have ew2 : sWait v (nI d) (nI (i - 1)) = nI h2 := by rw [e_wait hA.1.1.1.1.1 hd h5 hN (by omega), if_pos (by omega)]; exact eh2
          refine z_aload_n 0 rfl rfl dL_dates_664 ?_
          refine z_iload_n 2 rfl rfl dL_dates_665 ?_
          refine z_iload 9 rfl dL_dates_666 ?_
          refine z_uV2 (ci := 6) zm_X6_waiting (q_waiting hp hA ew) rfl zl_L_41 rfl rfl (by decide) hO.1 hO.2 (by decide) (Nat.le_of_ble_eq_true rfl) dL_dates_668 (fun mm hp => ?_)
          refine z_aload_n 0 rfl rfl dL_dates_671 ?_
          refine z_iload_n 2 rfl rfl dL_dates_672 ?_
          refine z_iload 9 rfl dL_dates_673 ?_
          refine z_iconst (nI 1) dL_dates_675 rfl ?_
          refine z_isubN hi0 dL_dates_676 ?_
          refine z_uV2 (ci := 6) zm_X6_waiting (q_waiting hp hA ew2) rfl zl_L_41 rfl rfl (by decide) hO.1 hO.2 (by decide) (Nat.le_of_ble_eq_true rfl) dL_dates_677 (fun mm hp => ?_)
          refine z_icmp_eq 687 dL_dates_680 rfl (fun c680 => ?_) (fun c680 => ?_)
          · have := hdis N i (i - 1) h5 hN hi2 (by omega) (eh.trans (c680.trans eh2.symm))
            omega
          · refine z_iconst (nI 1) dL_dates_683 rfl ?_
            refine z_goto 688 dL_dates_684 rfl ?_
            refine z_istore_n 1 rfl (Nat.le_of_ble_eq_true rfl) rfl dL_dates_688 ?_
            refine z_iincN (n := 1) 9 rfl rfl dL_dates_689 ?_
            refine z_goto 633 dL_dates_692 rfl ?_
            exact ih (by omega) mm hp
set_option maxRecDepth 4000 in
set_option maxHeartbeats 4000000 in
theorem l_dates_m2 {l : Launch} {G : zG} {Bs : Nat → Nat → Nat} {O : Nat → Nat} {v w : Nat → Int32} {hk : Int32} (hO : O 0 ∈ zL G ∧ zsh G (O 0) = (6, 5)) (hA : zAll v) {d L p su bs W cd : Nat} {x3 x4 x5 x6 x8 x9 : Option Value} (hd : d < nD v) (F : dF v d L p su bs W cd) (K : ∀ (x3 x4 x5 x6 x7 x8 x9 : Option Value) (mm : zM), lT G Bs O v w hk mm → zV l G (yL_dates, cL_dates, 10, (some .boolean)) 7 (some (.int (zB true))) (lT G Bs O v w hk) 4 [some (.ref (O 0)), some (.int (nI 1)), some (.int (nI (d + 1))), x3, x4, x5, x6, x7, x8, x9] [] mm) (mm : zM) (hp : lT G Bs O v w hk mm) : zV l G (yL_dates, cL_dates, 10, (some .boolean)) 7 (some (.int (zB true))) (lT G Bs O v w hk) 507 [some (.ref (O 0)), some (.int (nI 1)), some (.int (nI d)), x3, x4, x5, x6, some (.int (nI L)), x8, x9] [] mm := by
  obtain ⟨hL, eL, ⟨hp1, hp20, ep⟩, ⟨hsu, es⟩, ⟨hb1, hb, eb⟩, ⟨hW, eW⟩, ⟨hcd, ecd⟩, f1, f0⟩ := F
  have h10 := hA.1.1.1.1.1.2
  have h60 := hA.1.1.1.1.2.1.2
  obtain ⟨N, hN, h5, hl⟩ := hA.1.1.1.1.2.2.1 d (by omega)
  have hdis := hA.1.1.1.2.2.2.2.2.1 d (by omega)
  refine z_iload_n 1 rfl rfl dL_dates_507 ?_
  refine z_if_eq 628 dL_dates_508 rfl (fun c508 => ?_) (fun c508 => ?_)
  · exact absurd c508 (by decide)
  · refine z_iload 7 rfl dL_dates_511 ?_
    refine z_if_le 581 dL_dates_513 rfl (fun c513 => ?_) (fun c513 => ?_)
    · have hL1 : L = 0 := by rcases Nat.eq_zero_or_pos L with z | z; exact z; exact absurd c513 (nI_nle z (by omega))
      obtain ⟨o1, o2, o3⟩ := f0 hL1
      refine z_aload_n 0 rfl rfl dL_dates_581 ?_
      refine z_iload_n 2 rfl rfl dL_dates_582 ?_
      refine z_bipush (nI 11) dL_dates_583 rfl ?_
      refine z_uV2 (ci := 6) zm_X6_date (q_dateW hp hA hd (by omega) (x := -5) (by show (if sOpen v d = true then _ else _) = _; rw [o1]; rfl)) rfl zl_L_26 rfl rfl (by decide) hO.1 hO.2 (by decide) (Nat.le_of_ble_eq_true rfl) dL_dates_585 (fun mm hp => ?_)
      refine z_bipush (-5) dL_dates_588 (by decide) ?_
      refine z_icmp_ne 628 dL_dates_590 rfl (fun c590 => ?_) (fun c590 => ?_)
      · exact absurd c590 (by decide)
      · refine z_aload_n 0 rfl rfl dL_dates_593 ?_
        refine z_iload_n 2 rfl rfl dL_dates_594 ?_
        refine z_bipush (nI 12) dL_dates_595 rfl ?_
        refine z_uV2 (ci := 6) zm_X6_date (q_dateW hp hA hd (by omega) (x := nI 0) (hA.2.2 d hd o3)) rfl zl_L_26 rfl rfl (by decide) hO.1 hO.2 (by decide) (Nat.le_of_ble_eq_true rfl) dL_dates_597 (fun mm hp => ?_)
        refine z_if_ne 628 dL_dates_600 rfl (fun c600 => ?_) (fun c600 => ?_)
        · exact absurd c600 (by decide)
        · refine z_aload_n 0 rfl rfl dL_dates_603 ?_
          refine z_iload_n 2 rfl rfl dL_dates_604 ?_
          refine z_iconst (nI 0) dL_dates_605 rfl ?_
          refine z_uV2 (ci := 6) zm_X6_priceIn (q_priceIn hp hA (e_pinN hA.1.1.1.1.1 hd o2)) rfl zl_L_35 rfl rfl (by decide) hO.1 hO.2 (by decide) (Nat.le_of_ble_eq_true rfl) dL_dates_606 (fun mm hp => ?_)
          refine z_bipush (-5) dL_dates_609 (by decide) ?_
          refine z_icmp_ne 628 dL_dates_611 rfl (fun c611 => ?_) (fun c611 => ?_)
          · exact absurd c611 (by decide)
          · refine z_aload_n 0 rfl rfl dL_dates_614 ?_
            refine z_iload_n 2 rfl rfl dL_dates_615 ?_
            refine z_uV1 (ci := 6) zm_X6_wouldCover (q_wouldCover hp hA (e_wcN hA.1.1.1.1.1 hd o2 hcd ecd)) rfl zl_L_38 rfl rfl (by decide) hO.1 hO.2 (by decide) (Nat.le_of_ble_eq_true rfl) dL_dates_616 (fun mm hp => ?_)
            refine z_bipush (-5) dL_dates_619 (by decide) ?_
            refine z_icmp_ne 628 dL_dates_621 rfl (fun c621 => ?_) (fun c621 => ?_)
            · exact absurd c621 (by decide)
            · refine z_iconst (nI 1) dL_dates_624 rfl ?_
              refine z_goto 629 dL_dates_625 rfl ?_
              refine z_istore_n 1 rfl (Nat.le_of_ble_eq_true rfl) rfl dL_dates_629 ?_
              refine z_iconst (nI 0) dL_dates_630 rfl ?_
              refine z_istore 9 (Nat.le_of_ble_eq_true rfl) rfl dL_dates_631 ?_
              exact l_dates_w hO hA hd hN h5 hl hdis K 0 (Nat.zero_le _) mm hp
    · have hL1 : 0 < L := Nat.pos_of_ne_zero (fun z => c513 (by rw [z]; exact Int32.le_refl _))
      obtain ⟨o1, o2, o3⟩ := f1 hL1
      have sk := sStage_ok hA.1.1.1.2.2.1.1 o2 hL
      have s3 := sStage_le (v := v) (d := d)
      have e11 : sDateW v d 11 = nI (sStage v d) := if_pos o1
      refine z_aload_n 0 rfl rfl dL_dates_516 ?_
      refine z_aload_n 0 rfl rfl dL_dates_517 ?_
      refine z_iload_n 2 rfl rfl dL_dates_518 ?_
      refine z_bipush (nI 11) dL_dates_519 rfl ?_
      refine z_uV2 (ci := 6) zm_X6_date (q_dateW hp hA hd (by omega) e11) rfl zl_L_26 rfl rfl (by decide) hO.1 hO.2 (by decide) (Nat.le_of_ble_eq_true rfl) dL_dates_521 (fun mm hp => ?_)
      refine z_iconst (nI 0) dL_dates_524 rfl ?_
      refine z_uV2 (ci := 6) zm_X6_stage (q_stgW hp hA s3 rfl) rfl zl_L_32 rfl rfl (by decide) hO.1 hO.2 (by decide) (Nat.le_of_ble_eq_true rfl) dL_dates_525 (fun mm hp => ?_)
      refine z_iload 7 rfl dL_dates_528 ?_
      refine z_icmp_gt 628 dL_dates_530 rfl (fun c530 => ?_) (fun c530 => ?_)
      · exact absurd c530 (Int32.not_lt.mpr sk.1)
      · refine z_aload_n 0 rfl rfl dL_dates_533 ?_
        refine z_iload_n 2 rfl rfl dL_dates_534 ?_
        refine z_bipush (nI 11) dL_dates_535 rfl ?_
        refine z_uV2 (ci := 6) zm_X6_date (q_dateW hp hA hd (by omega) e11) rfl zl_L_26 rfl rfl (by decide) hO.1 hO.2 (by decide) (Nat.le_of_ble_eq_true rfl) dL_dates_537 (fun mm hp => ?_)
        refine z_if_eq 562 dL_dates_540 rfl (fun c540 => ?_) (fun c540 => ?_)
        · refine z_aload_n 0 rfl rfl dL_dates_562 ?_
          refine z_iload_n 2 rfl rfl dL_dates_563 ?_
          refine z_iconst (nI 0) dL_dates_564 rfl ?_
          refine z_uV2 (ci := 6) zm_X6_priceIn (q_priceIn hp hA (e_pin hA.1.1.1.1.1 hd hL1 hL o2)) rfl zl_L_35 rfl rfl (by decide) hO.1 hO.2 (by decide) (Nat.le_of_ble_eq_true rfl) dL_dates_565 (fun mm hp => ?_)
          refine z_aload_n 0 rfl rfl dL_dates_568 ?_
          refine z_iload_n 2 rfl rfl dL_dates_569 ?_
          refine z_bipush (nI 9) dL_dates_570 rfl ?_
          refine z_uV2 (ci := 6) zm_X6_date (q_dateW hp hA hd (by omega) (x := sPrice v d (sLeft v d)) rfl) rfl zl_L_26 rfl rfl (by decide) hO.1 hO.2 (by decide) (Nat.le_of_ble_eq_true rfl) dL_dates_572 (fun mm hp => ?_)
          refine z_icmp_ne 628 dL_dates_575 rfl (fun c575 => ?_) (fun c575 => ?_)
          · exact absurd rfl c575
          · refine z_goto 624 dL_dates_578 rfl ?_
            refine z_iconst (nI 1) dL_dates_624 rfl ?_
            refine z_goto 629 dL_dates_625 rfl ?_
            refine z_istore_n 1 rfl (Nat.le_of_ble_eq_true rfl) rfl dL_dates_629 ?_
            refine z_iconst (nI 0) dL_dates_630 rfl ?_
            refine z_istore 9 (Nat.le_of_ble_eq_true rfl) rfl dL_dates_631 ?_
            exact l_dates_w hO hA hd hN h5 hl hdis K 0 (Nat.zero_le _) mm hp
        · have k1 : 1 ≤ sStage v d := by rcases Nat.eq_zero_or_pos (sStage v d) with z | z; exact absurd (by rw [z]; rfl) c540; exact z
          refine z_aload_n 0 rfl rfl dL_dates_543 ?_
          refine z_aload_n 0 rfl rfl dL_dates_544 ?_
          refine z_iload_n 2 rfl rfl dL_dates_545 ?_
          refine z_bipush (nI 11) dL_dates_546 rfl ?_
          refine z_uV2 (ci := 6) zm_X6_date (q_dateW hp hA hd (by omega) e11) rfl zl_L_26 rfl rfl (by decide) hO.1 hO.2 (by decide) (Nat.le_of_ble_eq_true rfl) dL_dates_548 (fun mm hp => ?_)
          refine z_iconst (nI 1) dL_dates_551 rfl ?_
          refine z_isubN k1 dL_dates_552 ?_
          refine z_iconst (nI 0) dL_dates_553 rfl ?_
          refine z_uV2 (ci := 6) zm_X6_stage (q_stgW hp hA (k := sStage v d - 1) (by omega) rfl) rfl zl_L_32 rfl rfl (by decide) hO.1 hO.2 (by decide) (Nat.le_of_ble_eq_true rfl) dL_dates_554 (fun mm hp => ?_)
          refine z_iload 7 rfl dL_dates_557 ?_
          refine z_icmp_le 628 dL_dates_559 rfl (fun c559 => ?_) (fun c559 => ?_)
          · exact absurd c559 (sk.2.resolve_left (by omega))
          · refine z_aload_n 0 rfl rfl dL_dates_562 ?_
            refine z_iload_n 2 rfl rfl dL_dates_563 ?_
            refine z_iconst (nI 0) dL_dates_564 rfl ?_
            refine z_uV2 (ci := 6) zm_X6_priceIn (q_priceIn hp hA (e_pin hA.1.1.1.1.1 hd hL1 hL o2)) rfl zl_L_35 rfl rfl (by decide) hO.1 hO.2 (by decide) (Nat.le_of_ble_eq_true rfl) dL_dates_565 (fun mm hp => ?_)
            refine z_aload_n 0 rfl rfl dL_dates_568 ?_
            refine z_iload_n 2 rfl rfl dL_dates_569 ?_
            refine z_bipush (nI 9) dL_dates_570 rfl ?_
            refine z_uV2 (ci := 6) zm_X6_date (q_dateW hp hA hd (by omega) (x := sPrice v d (sLeft v d)) rfl) rfl zl_L_26 rfl rfl (by decide) hO.1 hO.2 (by decide) (Nat.le_of_ble_eq_true rfl) dL_dates_572 (fun mm hp => ?_)
            refine z_icmp_ne 628 dL_dates_575 rfl (fun c575 => ?_) (fun c575 => ?_)
            · exact absurd rfl c575
            · refine z_goto 624 dL_dates_578 rfl ?_
              refine z_iconst (nI 1) dL_dates_624 rfl ?_
              refine z_goto 629 dL_dates_625 rfl ?_
              refine z_istore_n 1 rfl (Nat.le_of_ble_eq_true rfl) rfl dL_dates_629 ?_
              refine z_iconst (nI 0) dL_dates_630 rfl ?_
              refine z_istore 9 (Nat.le_of_ble_eq_true rfl) rfl dL_dates_631 ?_
              exact l_dates_w hO hA hd hN h5 hl hdis K 0 (Nat.zero_le _) mm hp
