set_option maxRecDepth 4000 in
theorem c_X3_goToStart2 {l : Launch} {G : zG} {E D : Nat} {m0 mm : zM} {T : Nat → Int32} {t p : Nat} {kd fi se : Int32} (hp : zTP G E D m0 T (gP t p kd fi se) mm) (ht : t ≤ 60) : zSem l G (yX3_goToStart, cX3_goToStart, 1, none) 1 [.ref E] mm none (fun m' => zTP G E D m0 T (gP t 0 kd fi se) m') := by
  refine z_met [some (.ref E)] rfl (zc1 (by rfl)) (Nat.le_of_ble_eq_true rfl) rfl ?_
  refine z_aload_n 0 rfl rfl dX3_goToStart_0 ?_
  refine z_iconst (nI 0) dX3_goToStart_1 rfl ?_
  refine zG_p2 hp rfl zf_X3_26 dX3_goToStart_2 (fun mm hp => ?_)
  exact z_vret dX3_goToStart_5 rfl hp
set_option maxRecDepth 4000 in
theorem c_X3_countOrders2 {l : Launch} {G : zG} {E D : Nat} {m0 mm : zM} {T : Nat → Int32} {t p : Nat} {kd fi se : Int32} (hp : zTP G E D m0 T (gP t p kd fi se) mm) (ht : t ≤ 60) : zSem l G (yX3_countOrders, cX3_countOrders, 4, (some .int)) 5 [.ref E] mm (some (.int (kCn (sPA T t 62 0) 0))) (fun m' => ∃ q a b c, zTP G E D m0 T (gP t q a b c) m') := by
  refine z_met [some (.ref E), none, none, none] rfl (zc1 (by rfl)) (Nat.le_of_ble_eq_true rfl) rfl ?_
  refine z_aload_n 0 rfl rfl dX3_countOrders_0 ?_
  refine z_vV0 (ci := 3) zm_X3_goToStart (c_X3_goToStart2 hp ht) rfl zl_X3_19 rfl rfl (by decide) hp.1.1 hp.1.2 (by decide) (Nat.le_of_ble_eq_true rfl) dX3_countOrders_1 (fun mm hp => ?_)
  refine z_iconst (nI 0) dX3_countOrders_4 rfl ?_
  refine z_istore_n 1 rfl (Nat.le_of_ble_eq_true rfl) rfl dX3_countOrders_5 ?_
  refine z_iconst (nI 1) dX3_countOrders_6 rfl ?_
  refine z_istore_n 2 rfl (Nat.le_of_ble_eq_true rfl) rfl dX3_countOrders_7 ?_
  refine z_iconst (nI 0) dX3_countOrders_8 rfl ?_
  refine z_istore_n 3 rfl (Nat.le_of_ble_eq_true rfl) rfl dX3_countOrders_9 ?_
  exact l_X3_countOrders ht 62 0 0 0 _ _ _ mm hp (by omega) (by omega) (by omega)
/-! the orders of a text, one after another -/
def sFo : List (Int32 × Int32 × Int32) → (Nat → Int32) → Int32 × (Nat → Int32)
  | [], v => (0, v)
  | o :: os, v => if (sDoO v o).1 < 0 then sDoO v o else sFo os (sDoO v o).2
theorem sFo_neg {o : Int32 × Int32 × Int32} {os : List (Int32 × Int32 × Int32)} {v : Nat → Int32} (h : (sDoO v o).1 < 0) : sFo (o :: os) v = sDoO v o := by unfold sFo; rw [if_pos h]
theorem sFo_go {o : Int32 × Int32 × Int32} {os : List (Int32 × Int32 × Int32)} {v : Nat → Int32} (h : ¬ (sDoO v o).1 < 0) : sFo (o :: os) v = sFo os (sDoO v o).2 := by
  conv => lhs; unfold sFo
  rw [if_neg h]
theorem sFo_nil {v : Nat → Int32} : sFo [] v = (0, v) := rfl
theorem sFo_n0 {v : Nat → Int32} : ¬ (sFo [] v).1 < 0 := by
  show ¬ (0 : Int32) < 0
  decide
theorem zI.fo : ∀ (L : List (Int32 × Int32 × Int32)) {v : Nat → Int32}, zI v → zI (sFo L v).2
  | [], _, h => h
  | o :: os, v, h => by
    by_cases q : (sDoO v o).1 < 0
    · rw [sFo_neg q]; exact h.doO o
    · rw [sFo_go q]; exact zI.fo os (h.doO o)
theorem sPA_len {T : Nat → Int32} {t : Nat} : ∀ (n p : Nat), (sPA T t n p).1.length ≤ n
  | 0, p => Nat.le_refl _
  | n + 1, p => by
    unfold sPA
    split
    · split
      · split
        · have := sPA_len (T := T) (t := t) n ((sRO T t p 0 0).2.1 + 1)
          simp only [List.length_cons]; omega
        · simp only [List.length_cons, List.length_nil]; omega
      · simp only [List.length_cons, List.length_nil]; omega
    · exact Nat.zero_le _
theorem sPA_le {T : Nat → Int32} {t : Nat} : ∀ (n p : Nat), p ≤ t → (sPA T t n p).2.2 ≤ t
  | 0, p, h => h
  | n + 1, p, h => by
    have hle := (sRO_le (T := T) (t := t) (p := p) (a := 0) (b := 0) h).2
    unfold sPA
    split
    · split
      · split
        · exact sPA_le n _ (by omega)
        · exact hle
      · exact hle
    · exact hle
set_option maxRecDepth 4000 in
theorem l_X6_perform {l : Launch} {G : zG} {Bs : Nat → Nat → Nat} {O : Nat → Nat} {m0 : zM} {π : Nat → Nat} {hk cn : Int32} {T : Nat → Int32} {t N : Nat} {v0 : Nat → Int32} (ht : t ≤ 60) (hN62 : N ≤ 62) (hpi : ∀ i, i < 5 → 2 ≤ π i ∧ π i < 7) : ∀ (n p i : Nat) (x3 : Option Value) (vs : Nat → Nat → Int32) (mm : zM) (kd fi se : Int32) (L : List (Int32 × Int32 × Int32)) (q : Nat), sPA T t n p = (L, true, q) → i + L.length = N → p ≤ t → zDk G Bs O m0 π vs hk cn T (gP t p kd fi se) mm → vs (π 4) = v0 → zI (vs 0) → zV l G (yX6_perform, cX6_perform, 4, (some .int)) 7 (some (.int (if (sFo L (vs 0)).1 < 0 then (sFo L (vs 0)).1 else nI N))) (fun m' => ∃ p a b c, if (sFo L (vs 0)).1 < 0 then zDk G Bs O m0 π (zUs vs 0 v0) hk cn T (gP t p a b c) m' else zDk G Bs O m0 (kRot π) (zUs vs 0 (sFo L (vs 0)).2) hk (if nI 4 < cn + nI 1 then nI 4 else cn + nI 1) T (gP t p a b c) m') 34 [some (.ref (O 0)), some (.int (nI N)), some (.int (nI i)), x3] [] mm := by
  have hne : π 4 ≠ 0 := by have := (hpi 4 (by decide)).1; omega
  intro n
  induction n with
  | zero => intro p i x3 vs mm kd fi se L q hL; exact absurd (congrArg (fun z => z.2.1) hL) (by simp [sPA])
  | succ n ih =>
    intro p i x3 vs mm kd fi se L q hL hN hpt hp h4 hI
    have hle := sRO_le (T := T) (t := t) (p := p) (a := 0) (b := 0) hpt
    have hg : (sRO T t p 0 0).1 = true := by
      cases hq : (sRO T t p 0 0).1 with
      | true => rfl
      | false => rw [sPA_no hq] at hL; exact absurd (congrArg (fun z => z.2.1) hL) (by simp)
    by_cases hlt : (sRO T t p 0 0).2.1 < t
    · have h59 : sSg T t (sRO T t p 0 0).2.1 (nI 59) = true := by
        cases hq : sSg T t (sRO T t p 0 0).2.1 (nI 59) with
        | true => rfl
        | false => rw [sPA_bad hg hlt hq] at hL; exact absurd (congrArg (fun z => z.2.1) hL) (by simp)
      rw [sPA_go hg h59] at hL
      obtain ⟨R, hR, rfl⟩ : ∃ R, sPA T t n ((sRO T t p 0 0).2.1 + 1) = (R, true, q) ∧ L = (sLet T t p, (sRO T t p 0 0).2.2.1, (sRO T t p 0 0).2.2.2) :: R := ⟨(sPA T t n ((sRO T t p 0 0).2.1 + 1)).1, Prod.ext rfl (by have := congrArg Prod.snd hL; exact this), (congrArg Prod.fst hL).symm⟩
      refine z_iload_n 2 rfl rfl dX6_perform_34 ?_
      refine z_iload_n 1 rfl rfl dX6_perform_35 ?_
      refine z_icmp_ge 70 dX6_perform_36 rfl (fun c36 => ?_) (fun c36 => ?_)
      · exact absurd ((nI_leI (by omega) (by omega)).mp c36) (by simp only [List.length_cons] at hN; omega)
      · refine z_aload_n 0 rfl rfl dX6_perform_39 ?_
        refine z_uV0 (ci := 6) zm_X6_performNext (c_X6_performNext hp ht hpt hI.1 hI.2 hg) rfl zl_X6_94 rfl rfl (by decide) (hp.2.1.2.1 0 (by decide)).1 (hp.2.1.2.1 0 (by decide)).2 (by decide) (Nat.le_of_ble_eq_true rfl) dX6_perform_40 (fun mm hp => ?_)
        obtain ⟨a, b, c, hp⟩ := hp
        refine z_istore_n 3 rfl (Nat.le_of_ble_eq_true rfl) rfl dX6_perform_43 ?_
        refine z_iload_n 3 rfl rfl dX6_perform_44 ?_
        refine z_if_ge 64 dX6_perform_45 rfl (fun c45 => ?_) (fun c45 => ?_)
        · have hx := i_not_lt.mpr c45
          refine z_iincN (n := 1) 2 rfl rfl dX6_perform_64 ?_
          refine z_goto 34 dX6_perform_67 rfl ?_
          rw [h59] at hp
          have h9 := ih _ (i + 1) (some (.int (sDoO (vs 0) (sLet T t p, (sRO T t p 0 0).2.2.1, (sRO T t p 0 0).2.2.2)).1)) (zUs vs 0 (sDoO (vs 0) (sLet T t p, (sRO T t p 0 0).2.2.1, (sRO T t p 0 0).2.2.2)).2) mm _ _ _ R q hR (by simp only [List.length_cons] at hN; omega) (by have := (sSg_lt h59).1; omega) hp (by rw [zUs_o hne]; exact h4) (by rw [zUs_s]; exact hI.doO _)
          rw [sFo_go hx]
          simp only [zUs_s, zUs_uu] at h9
          exact h9
        · have hx := i_not_le.mp c45
          refine z_aload_n 0 rfl rfl dX6_perform_48 ?_
          refine zK6_0 hp rfl zf_X6_10 dX6_perform_49 ?_
          refine z_aload_n 0 rfl rfl dX6_perform_52 ?_
          refine zK6_3 hp rfl zf_X6_22 dX6_perform_53 ?_
          refine zK2_2 hp rfl zf_X6_97 dX6_perform_56 ?_
          refine z_vV1 (ci := 5) zm_X5_copyFrom (hp.copy (s := 0) (q := π 4) (by decide) (hpi 4 (by decide)).2 hne) rfl zl_X6_100 rfl rfl (by decide) ((hp.1 _ (by decide)).at (j := 0) (Or.inl (by decide))).1 ((hp.1 _ (by decide)).at (j := 0) (Or.inl (by decide))).2 (by decide) (Nat.le_of_ble_eq_true rfl) dX6_perform_59 (fun mm hp => ?_)
          rw [zUs_uu, zUs_o hne, h4] at hp
          refine z_iload_n 3 rfl rfl dX6_perform_62 ?_
          exact z_iret dX6_perform_63 (by rw [sFo_neg hx, if_pos hx]) ⟨_, _, _, _, by rw [sFo_neg hx, if_pos hx]; exact hp⟩
    · rw [sPA_end hg hlt] at hL
      obtain rfl : L = [(sLet T t p, (sRO T t p 0 0).2.2.1, (sRO T t p 0 0).2.2.2)] := (congrArg Prod.fst hL).symm
      refine z_iload_n 2 rfl rfl dX6_perform_34 ?_
      refine z_iload_n 1 rfl rfl dX6_perform_35 ?_
      refine z_icmp_ge 70 dX6_perform_36 rfl (fun c36 => ?_) (fun c36 => ?_)
      · exact absurd ((nI_leI (by omega) (by omega)).mp c36) (by simp only [List.length_cons] at hN; omega)
      · refine z_aload_n 0 rfl rfl dX6_perform_39 ?_
        refine z_uV0 (ci := 6) zm_X6_performNext (c_X6_performNext hp ht hpt hI.1 hI.2 hg) rfl zl_X6_94 rfl rfl (by decide) (hp.2.1.2.1 0 (by decide)).1 (hp.2.1.2.1 0 (by decide)).2 (by decide) (Nat.le_of_ble_eq_true rfl) dX6_perform_40 (fun mm hp => ?_)
        obtain ⟨a, b, c, hp⟩ := hp
        refine z_istore_n 3 rfl (Nat.le_of_ble_eq_true rfl) rfl dX6_perform_43 ?_
        refine z_iload_n 3 rfl rfl dX6_perform_44 ?_
        refine z_if_ge 64 dX6_perform_45 rfl (fun c45 => ?_) (fun c45 => ?_)
        · have hx := i_not_lt.mpr c45
          refine z_iincN (n := 1) 2 rfl rfl dX6_perform_64 ?_
          refine z_goto 34 dX6_perform_67 rfl ?_
          refine z_iload_n 2 rfl rfl dX6_perform_34 ?_
          refine z_iload_n 1 rfl rfl dX6_perform_35 ?_
          refine z_icmp_ge 70 dX6_perform_36 rfl (fun c36 => ?_) (fun c36 => ?_)
          · refine z_aload_n 0 rfl rfl dX6_perform_70 ?_
            refine zK6_3 hp rfl zf_X6_22 dX6_perform_71 ?_
            refine z_iload_n 1 rfl rfl dX6_perform_74 ?_
            refine z_uV1 (ci := 2) zm_X2_settle (c_X2_settle hp _ (i_not_lt.mp (nI_pos (by omega)))) rfl zl_X6_41 rfl rfl (by decide) (hp.2.1.2.1 1 (by decide)).1 (hp.2.1.2.1 1 (by decide)).2 (by decide) (Nat.le_of_ble_eq_true rfl) dX6_perform_75 (fun mm hp => ?_)
            exact z_iret dX6_perform_78 (by rw [sFo_go hx, if_neg sFo_n0]) ⟨_, _, _, _, by rw [sFo_go hx, if_neg sFo_n0, sFo_nil]; exact hp⟩
          · exact absurd ((nI_leI (by omega) (by omega)).mpr (by simp only [List.length_cons, List.length_nil] at hN; omega)) c36
        · have hx := i_not_le.mp c45
          refine z_aload_n 0 rfl rfl dX6_perform_48 ?_
          refine zK6_0 hp rfl zf_X6_10 dX6_perform_49 ?_
          refine z_aload_n 0 rfl rfl dX6_perform_52 ?_
          refine zK6_3 hp rfl zf_X6_22 dX6_perform_53 ?_
          refine zK2_2 hp rfl zf_X6_97 dX6_perform_56 ?_
          refine z_vV1 (ci := 5) zm_X5_copyFrom (hp.copy (s := 0) (q := π 4) (by decide) (hpi 4 (by decide)).2 hne) rfl zl_X6_100 rfl rfl (by decide) ((hp.1 _ (by decide)).at (j := 0) (Or.inl (by decide))).1 ((hp.1 _ (by decide)).at (j := 0) (Or.inl (by decide))).2 (by decide) (Nat.le_of_ble_eq_true rfl) dX6_perform_59 (fun mm hp => ?_)
          rw [zUs_uu, zUs_o hne, h4] at hp
          refine z_iload_n 3 rfl rfl dX6_perform_62 ?_
          exact z_iret dX6_perform_63 (by rw [sFo_neg hx, if_pos hx]) ⟨_, _, _, _, by rw [sFo_neg hx, if_pos hx]; exact hp⟩
theorem kNg {k : Nat} (h : k ≤ 60) : (-100 - nI k : Int32) < 0 := by
  rw [Int32.lt_iff_toInt_lt, Int32.toInt_sub, nI_toInt (by omega), show (-100 : Int32).toInt = -100 from rfl, show (0 : Int32).toInt = 0 from rfl]
  rw [Int.bmod_eq_of_le (by omega) (by omega)]
  omega
set_option maxRecDepth 4000 in
theorem c_X6_performN {l : Launch} {G : zG} {Bs : Nat → Nat → Nat} {O : Nat → Nat} {m0 mm : zM} {π : Nat → Nat} {vs : Nat → Nat → Int32} {hk cn : Int32} {T : Nat → Int32} {t p : Nat} {kd fi se : Int32} (hp : zDk G Bs O m0 π vs hk cn T (gP t p kd fi se) mm) (ht : t ≤ 60) (hbad : (sPA T t 62 0).2.1 = false) : zSem l G (yX6_perform, cX6_perform, 4, (some .int)) 7 [.ref (O 0)] mm (some (.int (-100 - nI (sPA T t 62 0).2.2))) (fun m' => ∃ p a b c, zDk G Bs O m0 π vs hk cn T (gP t p a b c) m') := by
  have ht3 := hp.2.2.2.2.2.1
  have hpi := hp.2.2.2.2.1
  have hle := sPA_le (T := T) (t := t) 62 0 (by omega)
  have hln := sPA_len (T := T) (t := t) 62 0
  have ecn : kCn (sPA T t 62 0) 0 = -100 - nI (sPA T t 62 0).2.2 := by unfold kCn; rw [if_neg (by rw [hbad]; decide)]
  refine z_met [some (.ref (O 0)), none, none, none] rfl (zc1 (by rfl)) (Nat.le_of_ble_eq_true rfl) rfl ?_
  refine z_aload_n 0 rfl rfl dX6_perform_0 ?_
  refine zK6_4 hp rfl zf_X6_29 dX6_perform_1 ?_
  refine z_uV0 (ci := 3) zm_X3_countOrders (c_X3_countOrders2 ht3 ht) rfl zl_X6_88 rfl rfl (by decide) (hp.2.1.2.1 3 (by decide)).1 (hp.2.1.2.1 3 (by decide)).2 (by decide) (Nat.le_of_ble_eq_true rfl) dX6_perform_4 (fun mm hp2 => ?_)
  obtain ⟨q, a, b, c, hp2⟩ := hp2
  have hp := hp.text hp2
  refine z_istore_n 1 rfl (Nat.le_of_ble_eq_true rfl) rfl dX6_perform_7 ?_
  refine z_iload_n 1 rfl rfl dX6_perform_8 ?_
  refine z_if_ge 14 dX6_perform_9 rfl (fun c9 => ?_) (fun c9 => ?_)
  · exact absurd (show kCn (sPA T t 62 0) 0 < 0 by rw [ecn]; exact kNg (by omega)) (i_not_lt.mpr c9)
  · refine z_iload_n 1 rfl rfl dX6_perform_12 ?_
    exact z_iret dX6_perform_13 (by rw [ecn]) ⟨_, _, _, _, hp⟩
set_option maxRecDepth 4000 in
theorem c_X6_perform {l : Launch} {G : zG} {Bs : Nat → Nat → Nat} {O : Nat → Nat} {m0 mm : zM} {π : Nat → Nat} {vs : Nat → Nat → Int32} {hk cn : Int32} {T : Nat → Int32} {t p : Nat} {kd fi se : Int32} (hp : zDk G Bs O m0 π vs hk cn T (gP t p kd fi se) mm) (ht : t ≤ 60) (hgood : (sPA T t 62 0).2.1 = true) (hI : zI (vs 0)) : zSem l G (yX6_perform, cX6_perform, 4, (some .int)) 7 [.ref (O 0)] mm (some (.int (if (sFo (sPA T t 62 0).1 (vs 0)).1 < 0 then (sFo (sPA T t 62 0).1 (vs 0)).1 else nI (sPA T t 62 0).1.length))) (fun m' =>  ∃ p a b c, if (sFo (sPA T t 62 0).1 (vs 0)).1 < 0 then zDk G Bs O m0 π (zUs (zUs vs (π 4) (vs 0)) 0 (vs 0)) hk cn T (gP t p a b c) m' else zDk G Bs O m0 (kRot π) (zUs (zUs vs (π 4) (vs 0)) 0 (sFo (sPA T t 62 0).1 (vs 0)).2) hk (if nI 4 < cn + nI 1 then nI 4 else cn + nI 1) T (gP t p a b c) m') := by
  have ht3 := hp.2.2.2.2.2.1
  have hpi := hp.2.2.2.2.1
  have hle := sPA_le (T := T) (t := t) 62 0 (by omega)
  have hln := sPA_len (T := T) (t := t) 62 0
  have hne : 0 ≠ π 4 := by have := (hpi 4 (by decide)).1; omega
  have ecn : kCn (sPA T t 62 0) 0 = nI (sPA T t 62 0).1.length := by unfold kCn; rw [if_pos hgood, Nat.zero_add]
  refine z_met [some (.ref (O 0)), none, none, none] rfl (zc1 (by rfl)) (Nat.le_of_ble_eq_true rfl) rfl ?_
  refine z_aload_n 0 rfl rfl dX6_perform_0 ?_
  refine zK6_4 hp rfl zf_X6_29 dX6_perform_1 ?_
  refine z_uV0 (ci := 3) zm_X3_countOrders (c_X3_countOrders2 ht3 ht) rfl zl_X6_88 rfl rfl (by decide) (hp.2.1.2.1 3 (by decide)).1 (hp.2.1.2.1 3 (by decide)).2 (by decide) (Nat.le_of_ble_eq_true rfl) dX6_perform_4 (fun mm hp2 => ?_)
  obtain ⟨q, a, b, c, hp2⟩ := hp2
  have hp := hp.text hp2
  rw [ecn]
  refine z_istore_n 1 rfl (Nat.le_of_ble_eq_true rfl) rfl dX6_perform_7 ?_
  refine z_iload_n 1 rfl rfl dX6_perform_8 ?_
  refine z_if_ge 14 dX6_perform_9 rfl (fun c9 => ?_) (fun c9 => ?_)
  · refine z_aload_n 0 rfl rfl dX6_perform_14 ?_
    refine zK6_3 hp rfl zf_X6_22 dX6_perform_15 ?_
    refine z_aload_n 0 rfl rfl dX6_perform_18 ?_
    refine zK6_0 hp rfl zf_X6_10 dX6_perform_19 ?_
    refine z_vV1 (ci := 2) zm_X2_prepare (c_X2_prepare hp) rfl zl_X6_33 rfl rfl (by decide) (hp.2.1.2.1 1 (by decide)).1 (hp.2.1.2.1 1 (by decide)).2 (by decide) (Nat.le_of_ble_eq_true rfl) dX6_perform_22 (fun mm hp => ?_)
    have ht3 := hp.2.2.2.2.2.1
    refine z_aload_n 0 rfl rfl dX6_perform_25 ?_
    refine zK6_4 hp rfl zf_X6_29 dX6_perform_26 ?_
    refine z_vV0 (ci := 3) zm_X3_goToStart (c_X3_goToStart2 ht3 ht) rfl zl_X6_91 rfl rfl (by decide) (hp.2.1.2.1 3 (by decide)).1 (hp.2.1.2.1 3 (by decide)).2 (by decide) (Nat.le_of_ble_eq_true rfl) dX6_perform_29 (fun mm hp2 => ?_)
    have hp := hp.text hp2
    refine z_iconst (nI 0) dX6_perform_32 rfl ?_
    refine z_istore_n 2 rfl (Nat.le_of_ble_eq_true rfl) rfl dX6_perform_33 ?_
    have h9 := l_X6_perform (l := l) (v0 := vs 0) ht (show (sPA T t 62 0).1.length ≤ 62 from hln) hpi 62 0 0 none (zUs vs (π 4) (vs 0)) mm _ _ _ (sPA T t 62 0).1 (sPA T t 62 0).2.2 (Prod.ext rfl (Prod.ext hgood rfl)) (by omega) (by omega) hp zUs_s (by rw [zUs_o hne]; exact hI)
    rw [zUs_o hne] at h9
    exact h9
  · exact absurd (i_not_le.mp c9) (nI_pos (by omega))
