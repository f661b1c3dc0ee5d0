theorem sDd_t {T : Nat → Int32} {t p : Nat} (h : sDd T t p = true) : p < t ∧ zIn (T p) (nI 48) (nI 57) = true ∧ T p = nI (48 + sDg T p) ∧ sDg T p < 10 := by
  obtain ⟨a, b, c⟩ := sDd_g h
  unfold sLet at b
  rw [if_pos a] at b
  unfold sDd at h
  rw [Bool.and_eq_true] at h
  exact ⟨a, h.2, b, c⟩
theorem sRN_no {T : Nat → Int32} {t f r i n : Nat} (h : sDd T t (f + i) = false) : sRN T t f r i n = (i, n) := by
  cases r with
  | zero => rfl
  | succ r =>
    unfold sRN
    exact if_neg (fun q => by unfold sDd at h; rw [decide_eq_true q.1, q.2.1] at h; exact absurd h (by decide))
theorem sRN_go {T : Nat → Int32} {t f r i n : Nat} (h : sDd T t (f + i) = true) (hf : i = 0 ∨ ¬ T f = nI 48) : sRN T t f (r + 1) i n = sRN T t f r (i + 1) (10 * n + sDg T (f + i)) :=
  sRN_pos ⟨(sDd_t h).1, (sDd_t h).2.1, hf⟩
theorem sRN_ge {T : Nat → Int32} {t f : Nat} : ∀ r i n, i ≤ (sRN T t f r i n).1
  | 0, i, n => Nat.le_refl _
  | r + 1, i, n => by
    unfold sRN
    split
    · have := sRN_ge (T := T) (t := t) (f := f) r (i + 1) (10 * n + sDg T (f + i)); omega
    · exact Nat.le_refl _
theorem sNum0 {T : Nat → Int32} {t p k : Nat} (h : sDd T t p = false) : sNum T t p k = (0, 0) := sRN_no (i := 0) h
theorem sNum1 {T : Nat → Int32} {t p : Nat} (h : sDd T t p = true) : sNum T t p 1 = (1, sDg T p) := by
  unfold sNum
  rw [sRN_go (r := 0) (i := 0) h (Or.inl rfl)]
  show (1, 10 * 0 + sDg T p) = _
  rw [Nat.mul_zero, Nat.zero_add]
theorem sNum2a {T : Nat → Int32} {t p : Nat} (h : sDd T t p = true) (h0 : 0 < sDg T p) (h1 : sDd T t (p + 1) = true) : sNum T t p 2 = (2, sDg T p * 10 + sDg T (p + 1)) := by
  have hf : ¬ T p = nI 48 := fun q => by
    rw [(sDd_t h).2.2.1] at q
    have := (nI_eq (by have := (sDd_t h).2.2.2; omega) (by omega)).mp q
    omega
  unfold sNum
  rw [sRN_go (r := 1) (i := 0) h (Or.inl rfl), sRN_go (r := 0) (i := 1) h1 (Or.inr hf)]
  show (2, 10 * (10 * 0 + sDg T p) + sDg T (p + 1)) = _
  congr 1; omega
theorem sNum2b {T : Nat → Int32} {t p : Nat} (h : sDd T t p = true) (h0 : ¬ 0 < sDg T p ∨ sDd T t (p + 1) = false) : sNum T t p 2 = (1, sDg T p) := by
  unfold sNum
  rw [sRN_go (r := 1) (i := 0) h (Or.inl rfl)]
  rcases h0 with z | z
  · unfold sRN
    rw [if_neg (fun q => ?_)]
    · show (1, 10 * 0 + sDg T p) = _
      rw [Nat.mul_zero, Nat.zero_add]
    · rcases q.2.2 with w | w
      · omega
      · exact w (by rw [(sDd_t h).2.2.1, show sDg T p = 0 by omega])
  · rw [sRN_no (i := 0 + 1) z]
    show (1, 10 * 0 + sDg T p) = _
    rw [Nat.mul_zero, Nat.zero_add]
set_option maxRecDepth 4000 in
theorem c_X3_readHolderAndDate {l : Launch} {G : zG} {E D : Nat} {m0 mm : zM} {T : Nat → Int32} {t p : Nat} {kd fi se : Int32} (hp : zTP G E D m0 T (gP t p kd fi se) mm) (ht : t ≤ 60) (hpt : p ≤ t) : zSem l G (yX3_readHolderAndDate, cX3_readHolderAndDate, 1, (some .boolean)) 3 [.ref E] mm (some (.int (zB (sROb T t p).1))) (fun m' => ∃ a b, zTP G E D m0 T (gP t (sROb T t p).2.1 kd a b) m' ∧ ((sROb T t p).1 = true → a = (sROb T t p).2.2.1 ∧ b = (sROb T t p).2.2.2)) := by
  refine z_met [some (.ref E)] rfl (zc1 (by rfl)) (Nat.le_of_ble_eq_true rfl) rfl ?_
  refine z_aload_n 0 rfl rfl dX3_readHolderAndDate_0 ?_
  refine z_pV0 (ci := 3) zm_X3_isDigitHere (c_X3_isDigitHere hp (by omega) (by omega)) rfl zl_X3_49 rfl rfl (by decide) hp.1.1 hp.1.2 (by decide) (Nat.le_of_ble_eq_true rfl) dX3_readHolderAndDate_1 ?_
  refine z_if_neB 9 dX3_readHolderAndDate_4 rfl (fun c4 => ?_) (fun c4 => ?_)
  · have hlt := (sDd_t c4).1
    refine z_aload_n 0 rfl rfl dX3_readHolderAndDate_9 ?_
    refine z_aload_n 0 rfl rfl dX3_readHolderAndDate_10 ?_
    refine z_uV0 (ci := 3) zm_X3_takeDigit (c_X3_takeDigit hp (by omega) (by omega) (by assumption)) rfl zl_X3_52 rfl rfl (by decide) hp.1.1 hp.1.2 (by decide) (Nat.le_of_ble_eq_true rfl) dX3_readHolderAndDate_11 (fun mm hp => ?_)
    refine zG_p4 hp rfl zf_X3_56 dX3_readHolderAndDate_14 (fun mm hp => ?_)
    refine z_aload_n 0 rfl rfl dX3_readHolderAndDate_17 ?_
    refine z_bipush (nI 64) dX3_readHolderAndDate_18 rfl ?_
    refine z_uV1 (ci := 3) zm_X3_skip (c_X3_skip hp ht (by omega) (nI 64) (by decide)) rfl zl_X3_29 rfl rfl (by decide) hp.1.1 hp.1.2 (by decide) (Nat.le_of_ble_eq_true rfl) dX3_readHolderAndDate_20 (fun mm hp => ?_)
    refine z_if_eqB 33 dX3_readHolderAndDate_23 rfl (fun c23 => ?_) (fun c23 => ?_)
    · rw [c23] at hp
      simp only [sB1_t, sB1_f, Nat.add_zero] at hp
      have e9 : sROb T t p = (false, p + 1, nI (sDg T p), nI (sDg T p)) := by unfold sROb; rw [sNum1 c4]; simp only []; rw [c23]; rfl
      refine z_iconst (nI 0) dX3_readHolderAndDate_33 rfl ?_
      exact z_zret dX3_readHolderAndDate_34 (by first | rfl | exact zB_nar _) (by rw [e9]; rfl) (by rw [e9]; exact ⟨_, _, hp, fun q => by first | exact ⟨rfl, rfl⟩ | exact Bool.noConfusion (show false = true from q)⟩)
    · rw [c23] at hp
      simp only [sB1_t, sB1_f, Nat.add_zero] at hp
      have hlt2 := (sSg_lt c23).1
      refine z_aload_n 0 rfl rfl dX3_readHolderAndDate_26 ?_
      refine z_pV0 (ci := 3) zm_X3_isDigitHere (c_X3_isDigitHere hp ht (by omega)) rfl zl_X3_49 rfl rfl (by decide) hp.1.1 hp.1.2 (by decide) (Nat.le_of_ble_eq_true rfl) dX3_readHolderAndDate_27 ?_
      refine z_if_neB 35 dX3_readHolderAndDate_30 rfl (fun c30 => ?_) (fun c30 => ?_)
      · have e9 : sROb T t p = (true, p + 1 + 1 + 1, nI (sDg T p), nI (sDg T (p + 1 + 1))) := by unfold sROb; rw [sNum1 c4]; simp only []; rw [c23, sNum1 c30]; rfl
        have hlt3 := (sDd_t c30).1
        refine z_aload_n 0 rfl rfl dX3_readHolderAndDate_35 ?_
        refine z_aload_n 0 rfl rfl dX3_readHolderAndDate_36 ?_
        refine z_uV0 (ci := 3) zm_X3_takeDigit (c_X3_takeDigit hp (by omega) (by omega) (by assumption)) rfl zl_X3_52 rfl rfl (by decide) hp.1.1 hp.1.2 (by decide) (Nat.le_of_ble_eq_true rfl) dX3_readHolderAndDate_37 (fun mm hp => ?_)
        refine zG_p5 hp rfl zf_X3_59 dX3_readHolderAndDate_40 (fun mm hp => ?_)
        refine z_iconst (nI 1) dX3_readHolderAndDate_43 rfl ?_
        exact z_zret dX3_readHolderAndDate_44 (by first | rfl | exact zB_nar _) (by rw [e9]; rfl) (by rw [e9]; exact ⟨_, _, hp, fun q => by first | exact ⟨rfl, rfl⟩ | exact Bool.noConfusion (show false = true from q)⟩)
      · have e9 : sROb T t p = (false, p + 1 + 1, nI (sDg T p), nI 0) := by unfold sROb; rw [sNum1 c4]; simp only []; rw [c23, sNum0 c30]; rfl
        refine z_iconst (nI 0) dX3_readHolderAndDate_33 rfl ?_
        exact z_zret dX3_readHolderAndDate_34 (by first | rfl | exact zB_nar _) (by rw [e9]; rfl) (by rw [e9]; exact ⟨_, _, hp, fun q => by first | exact ⟨rfl, rfl⟩ | exact Bool.noConfusion (show false = true from q)⟩)
  · have e9 : sROb T t p = (false, p, nI 0, nI 0) := by unfold sROb; rw [sNum0 c4]; rfl
    refine z_iconst (nI 0) dX3_readHolderAndDate_7 rfl ?_
    exact z_zret dX3_readHolderAndDate_8 (by first | rfl | exact zB_nar _) (by rw [e9]; rfl) (by rw [e9]; exact ⟨_, _, hp, fun q => by first | exact ⟨rfl, rfl⟩ | exact Bool.noConfusion (show false = true from q)⟩)
set_option maxRecDepth 4000 in
theorem c_X3_readRight {l : Launch} {G : zG} {E D : Nat} {m0 mm : zM} {T : Nat → Int32} {t p : Nat} {kd fi se : Int32} (hp : zTP G E D m0 T (gP t p kd fi se) mm) (ht : t ≤ 60) (hpt : p ≤ t) : zSem l G (yX3_readRight, cX3_readRight, 1, (some .boolean)) 3 [.ref E] mm (some (.int (zB (decide (0 < (sNum T t p 2).1))))) (fun m' => ∃ a, zTP G E D m0 T (gP t (p + (sNum T t p 2).1) kd a se) m' ∧ (0 < (sNum T t p 2).1 → a = nI (sNum T t p 2).2)) := by
  refine z_met [some (.ref E)] rfl (zc1 (by rfl)) (Nat.le_of_ble_eq_true rfl) rfl ?_
  refine z_aload_n 0 rfl rfl dX3_readRight_0 ?_
  refine z_pV0 (ci := 3) zm_X3_isDigitHere (c_X3_isDigitHere hp (by omega) (by omega)) rfl zl_X3_49 rfl rfl (by decide) hp.1.1 hp.1.2 (by decide) (Nat.le_of_ble_eq_true rfl) dX3_readRight_1 ?_
  refine z_if_neB 9 dX3_readRight_4 rfl (fun c4 => ?_) (fun c4 => ?_)
  · have hlt := (sDd_t c4).1
    refine z_aload_n 0 rfl rfl dX3_readRight_9 ?_
    refine z_aload_n 0 rfl rfl dX3_readRight_10 ?_
    refine z_uV0 (ci := 3) zm_X3_takeDigit (c_X3_takeDigit hp (by omega) (by omega) (by assumption)) rfl zl_X3_52 rfl rfl (by decide) hp.1.1 hp.1.2 (by decide) (Nat.le_of_ble_eq_true rfl) dX3_readRight_11 (fun mm hp => ?_)
    refine zG_p4 hp rfl zf_X3_56 dX3_readRight_14 (fun mm hp => ?_)
    refine z_aload_n 0 rfl rfl dX3_readRight_17 ?_
    refine zG_4 hp rfl zf_X3_56 dX3_readRight_18 ?_
    refine z_if_le 47 dX3_readRight_21 rfl (fun c21 => ?_) (fun c21 => ?_)
    · have e9 : sNum T t p 2 = (1, sDg T p) := sNum2b c4 (Or.inl (fun z => absurd (nI_lt (a := 0) z (by have := (sDd_t c4).2.2.2; omega)) (i_not_lt.mpr c21)))
      refine z_iconst (nI 1) dX3_readRight_47 rfl ?_
      exact z_zret dX3_readRight_48 (by first | rfl | exact zB_nar _) (by rw [e9]; rfl) (by rw [e9]; exact ⟨_, hp, fun q => by first | rfl | exact absurd q (by decide)⟩)
    · have h0 : 0 < sDg T p := by rcases Nat.eq_zero_or_pos (sDg T p) with z | z; rw [z] at c21; exact absurd (by decide) c21; exact z
      refine z_aload_n 0 rfl rfl dX3_readRight_24 ?_
      refine z_pV0 (ci := 3) zm_X3_isDigitHere (c_X3_isDigitHere hp ht (by omega)) rfl zl_X3_49 rfl rfl (by decide) hp.1.1 hp.1.2 (by decide) (Nat.le_of_ble_eq_true rfl) dX3_readRight_25 ?_
      refine z_if_eqB 47 dX3_readRight_28 rfl (fun c28 => ?_) (fun c28 => ?_)
      · have e9 : sNum T t p 2 = (1, sDg T p) := sNum2b c4 (Or.inr c28)
        refine z_iconst (nI 1) dX3_readRight_47 rfl ?_
        exact z_zret dX3_readRight_48 (by first | rfl | exact zB_nar _) (by rw [e9]; rfl) (by rw [e9]; exact ⟨_, hp, fun q => by first | rfl | exact absurd q (by decide)⟩)
      · have e9 : sNum T t p 2 = (2, sDg T p * 10 + sDg T (p + 1)) := sNum2a c4 h0 c28
        have hlt3 := (sDd_t c28).1
        refine z_aload_n 0 rfl rfl dX3_readRight_31 ?_
        refine z_aload_n 0 rfl rfl dX3_readRight_32 ?_
        refine zG_4 hp rfl zf_X3_56 dX3_readRight_33 ?_
        refine z_bipush (nI 10) dX3_readRight_36 rfl ?_
        refine z_imulN dX3_readRight_38 ?_
        refine z_aload_n 0 rfl rfl dX3_readRight_39 ?_
        refine z_uV0 (ci := 3) zm_X3_takeDigit (c_X3_takeDigit hp (by omega) (by omega) (by assumption)) rfl zl_X3_52 rfl rfl (by decide) hp.1.1 hp.1.2 (by decide) (Nat.le_of_ble_eq_true rfl) dX3_readRight_40 (fun mm hp => ?_)
        refine z_iaddN dX3_readRight_43 ?_
        refine zG_p4 hp rfl zf_X3_56 dX3_readRight_44 (fun mm hp => ?_)
        refine z_iconst (nI 1) dX3_readRight_47 rfl ?_
        exact z_zret dX3_readRight_48 (by first | rfl | exact zB_nar _) (by rw [e9]; rfl) (by rw [e9]; exact ⟨_, hp, fun q => by first | rfl | exact absurd q (by decide)⟩)
  · have e9 : sNum T t p 2 = (0, 0) := sNum0 c4
    refine z_iconst (nI 0) dX3_readRight_7 rfl ?_
    exact z_zret dX3_readRight_8 (by first | rfl | exact zB_nar _) (by rw [e9]; rfl) (by rw [e9]; exact ⟨_, hp, fun q => by first | rfl | exact absurd q (by decide)⟩)
def sPr (T : Nat → Int32) (t p : Nat) : Bool × Nat × Int32 := if (decide (p < t) && !decide (T p = nI 48)) = true then (decide (0 < (sNum T t p 5).1), p + (sNum T t p 5).1, nI (sNum T t p 5).2) else (false, p, nI 0)
theorem sPr_no {T : Nat → Int32} {t p : Nat} (h : sLet T t p = nI 48 ∨ sDd T t p = false) : sPr T t p = (false, p, nI 0) := by
  unfold sPr
  split
  · rename_i q
    rw [Bool.and_eq_true, decide_eq_true_eq] at q
    rcases h with z | z
    · unfold sLet at z
      rw [if_pos q.1] at z
      rw [decide_eq_true z] at q
      exact absurd q.2 (by decide)
    · rw [sNum0 z]; rfl
  · rfl
theorem sPr_go {T : Nat → Int32} {t p : Nat} (h : ¬ sLet T t p = nI 48) (hd : sDd T t p = true) : sPr T t p = (true, p + (sRN T t p 5 0 0).1, nI (sRN T t p 5 0 0).2) := by
  have hp := (sDd_t hd).1
  unfold sLet at h
  rw [if_pos hp] at h
  unfold sPr
  rw [decide_eq_true hp, decide_eq_false h]
  have h1 : 0 < (sNum T t p 5).1 := by
    unfold sNum
    rw [sRN_go (r := 4) (i := 0) hd (Or.inl rfl)]
    exact sRN_ge 4 1 _
  rw [decide_eq_true h1]
  rfl
set_option maxRecDepth 4000 in
theorem l_X3_readPrice {l : Launch} {G : zG} {E D : Nat} {m0 : zM} {T : Nat → Int32} {t f : Nat} {kd fi : Int32} (ht : t ≤ 60) (hf : ¬ T f = nI 48) : ∀ (r i n : Nat) (mm : zM), i + r = 5 → zTP G E D m0 T (gP t (f + i) kd fi (nI n)) mm → f + i ≤ t → zV l G (yX3_readPrice, cX3_readPrice, 2, (some .boolean)) 3 (some (.int 1)) (fun m' => ∃ b, zTP G E D m0 T (gP t (f + (sRN T t f r i n).1) kd fi b) m' ∧ (true = true → b = nI (sRN T t f r i n).2)) 25 [some (.ref E), some (.int (nI i))] [] mm := by
  intro r
  induction r with
  | zero =>
    intro i n mm hir hp hit
    refine z_iload_n 1 rfl rfl dX3_readPrice_25 ?_
    refine z_iconst (nI 5) dX3_readPrice_26 rfl ?_
    refine z_icmp_ge 59 dX3_readPrice_27 rfl (fun c27 => ?_) (fun c27 => ?_)
    · refine z_iconst (nI 1) dX3_readPrice_59 rfl ?_
      exact z_zret dX3_readPrice_60 (by first | rfl | exact zB_nar _) rfl ⟨_, hp, fun _ => rfl⟩
    · exact absurd (by rw [show i = 5 by omega]; exact Int32.le_refl _) c27
  | succ r ih =>
    intro i n mm hir hp hit
    refine z_iload_n 1 rfl rfl dX3_readPrice_25 ?_
    refine z_iconst (nI 5) dX3_readPrice_26 rfl ?_
    refine z_icmp_ge 59 dX3_readPrice_27 rfl (fun c27 => ?_) (fun c27 => ?_)
    · exact absurd ((nI_leI (by omega) (by omega)).mp c27) (by omega)
    · refine z_aload_n 0 rfl rfl dX3_readPrice_30 ?_
      refine z_pV0 (ci := 3) zm_X3_isDigitHere (c_X3_isDigitHere hp ht (by omega)) rfl zl_X3_49 rfl rfl (by decide) hp.1.1 hp.1.2 (by decide) (Nat.le_of_ble_eq_true rfl) dX3_readPrice_31 ?_
      refine z_if_eqB 59 dX3_readPrice_34 rfl (fun c34 => ?_) (fun c34 => ?_)
      · have e9 : sRN T t f (r + 1) i n = (i, n) := sRN_no c34
        refine z_iconst (nI 1) dX3_readPrice_59 rfl ?_
        exact z_zret dX3_readPrice_60 (by first | rfl | exact zB_nar _) rfl (by rw [e9]; exact ⟨_, hp, fun _ => rfl⟩)
      · have e9 : sRN T t f (r + 1) i n = sRN T t f r (i + 1) (10 * n + sDg T (f + i)) := sRN_go c34 (Or.inr hf)
        have hlt := (sDd_t c34).1
        refine z_aload_n 0 rfl rfl dX3_readPrice_37 ?_
        refine z_aload_n 0 rfl rfl dX3_readPrice_38 ?_
        refine zG_5 hp rfl zf_X3_59 dX3_readPrice_39 ?_
        refine z_bipush (nI 10) dX3_readPrice_42 rfl ?_
        refine z_imulN dX3_readPrice_44 ?_
        refine z_aload_n 0 rfl rfl dX3_readPrice_45 ?_
        refine z_uV0 (ci := 3) zm_X3_takeDigit (c_X3_takeDigit hp (by omega) (by omega) (by assumption)) rfl zl_X3_52 rfl rfl (by decide) hp.1.1 hp.1.2 (by decide) (Nat.le_of_ble_eq_true rfl) dX3_readPrice_46 (fun mm hp => ?_)
        refine z_iaddN dX3_readPrice_49 ?_
        refine zG_p5 hp rfl zf_X3_59 dX3_readPrice_50 (fun mm hp => ?_)
        refine z_iincN (n := 1) 1 rfl rfl dX3_readPrice_53 ?_
        refine z_goto 25 dX3_readPrice_56 rfl ?_
        rw [show n * 10 + sDg T (f + i) = 10 * n + sDg T (f + i) by omega] at hp
        rw [e9]
        exact ih (i + 1) _ mm (by omega) hp (by omega)
set_option maxRecDepth 4000 in
theorem c_X3_readPrice {l : Launch} {G : zG} {E D : Nat} {m0 mm : zM} {T : Nat → Int32} {t p : Nat} {kd fi se : Int32} (hp : zTP G E D m0 T (gP t p kd fi se) mm) (ht : t ≤ 60) (hpt : p ≤ t) : zSem l G (yX3_readPrice, cX3_readPrice, 2, (some .boolean)) 3 [.ref E] mm (some (.int (zB (sPr T t p).1))) (fun m' => ∃ b, zTP G E D m0 T (gP t (sPr T t p).2.1 kd fi b) m' ∧ ((sPr T t p).1 = true → b = (sPr T t p).2.2)) := by
  refine z_met [some (.ref E), none] rfl (zc1 (by rfl)) (Nat.le_of_ble_eq_true rfl) rfl ?_
  refine z_aload_n 0 rfl rfl dX3_readPrice_0 ?_
  refine z_pV0 (ci := 3) zm_X3_here (c_X3_here hp (by omega) (by omega)) rfl zl_X3_33 rfl rfl (by decide) hp.1.1 hp.1.2 (by decide) (Nat.le_of_ble_eq_true rfl) dX3_readPrice_1 ?_
  refine z_bipush (nI 48) dX3_readPrice_4 rfl ?_
  refine z_icmp_eq 16 dX3_readPrice_6 rfl (fun c6 => ?_) (fun c6 => ?_)
  · have e9 := sPr_no (T := T) (t := t) (p := p) (Or.inl c6)
    refine z_iconst (nI 0) dX3_readPrice_16 rfl ?_
    exact z_zret dX3_readPrice_17 (by first | rfl | exact zB_nar _) (by rw [e9]; rfl) (by rw [e9]; exact ⟨_, hp, fun q => Bool.noConfusion (show false = true from q)⟩)
  · refine z_aload_n 0 rfl rfl dX3_readPrice_9 ?_
    refine z_pV0 (ci := 3) zm_X3_isDigitHere (c_X3_isDigitHere hp (by omega) (by omega)) rfl zl_X3_49 rfl rfl (by decide) hp.1.1 hp.1.2 (by decide) (Nat.le_of_ble_eq_true rfl) dX3_readPrice_10 ?_
    refine z_if_neB 18 dX3_readPrice_13 rfl (fun c13 => ?_) (fun c13 => ?_)
    · have e9 := sPr_go c6 c13
      have hlt := (sDd_t c13).1
      have hf : ¬ T p = nI 48 := fun z => c6 (by unfold sLet; rw [if_pos hlt]; exact z)
      refine z_aload_n 0 rfl rfl dX3_readPrice_18 ?_
      refine z_iconst (nI 0) dX3_readPrice_19 rfl ?_
      refine zG_p5 hp rfl zf_X3_59 dX3_readPrice_20 (fun mm hp => ?_)
      refine z_iconst (nI 0) dX3_readPrice_23 rfl ?_
      refine z_istore_n 1 rfl (Nat.le_of_ble_eq_true rfl) rfl dX3_readPrice_24 ?_
      rw [e9]
      exact l_X3_readPrice ht hf 5 0 0 mm rfl hp (by omega)
    · have e9 := sPr_no (T := T) (t := t) (p := p) (Or.inr c13)
      refine z_iconst (nI 0) dX3_readPrice_16 rfl ?_
      exact z_zret dX3_readPrice_17 (by first | rfl | exact zB_nar _) (by rw [e9]; rfl) (by rw [e9]; exact ⟨_, hp, fun q => Bool.noConfusion (show false = true from q)⟩)
