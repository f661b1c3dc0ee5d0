/-! what holds of the numbers, so that class and reference answer alike -/
def zHl (v : Nat → Int32) (d : Nat) : Prop := ∀ n i j, v (27 + 12 * d + 5) = nI n → n ≤ 6 → i < n → j < n → v (27 + 12 * d + (6 + i)) = v (27 + 12 * d + (6 + j)) → i = j
def zHt (v : Nat → Int32) (d : Nat) : Prop := (∃ a, 1 ≤ a ∧ a ≤ 999 ∧ v (27 + 12 * d + 0) = nI a) ∧ (∃ a, 1 ≤ a ∧ a ≤ 20 ∧ v (27 + 12 * d + 1) = nI a) ∧ (∃ a, a ≤ 5 ∧ v (27 + 12 * d + 2) = nI a) ∧ (∃ a, 1 ≤ a ∧ a ≤ 9999 ∧ v (27 + 12 * d + 3) = nI a) ∧ ∃ a, a ≤ 2 ∧ v (27 + 12 * d + 4) = nI a
def zHr (v : Nat → Int32) (r : Nat) : Prop := (∃ s, s ≤ 5 ∧ v (147 + 7 * r + 3) = nI s) ∧ (∃ c, c ≤ 700000 ∧ v (147 + 7 * r + 2) = nI c) ∧ (v (147 + 7 * r + 3) = nI 1 → ∃ a, 1 ≤ a ∧ a ≤ 19998 ∧ v (147 + 7 * r + 4) = nI a) ∧ (¬ v (147 + 7 * r + 3) = nI 1 → v (147 + 7 * r + 4) = -5)
def zHs (v : Nat → Int32) : Prop := v 15 = 0 ∧ ∀ i, i < 4 → (∃ a, a ≤ 99 ∧ v (9 + 2 * i) = nI a) ∧ ∃ a, a ≤ 100 ∧ v (9 + 2 * i + 1) = nI a
def zH (v : Nat → Int32) : Prop := zK v ∧ (∃ t, t ≤ 9999 ∧ v 0 = nI t) ∧ zHs v ∧ (∀ d, d < nD v → zHt v d) ∧ (∀ r, r < nR v → zHr v r) ∧ (∀ d, d < 10 → zHl v d) ∧ ∃ e, e ≤ 10 ∧ v 8 = nI e
/-- free rights are of dates that are not over -/
def zOp (v : Nat → Int32) : Prop := ∀ r d, r < nR v → v (147 + 7 * r + 3) < nI 2 → v (147 + 7 * r + 0) = nI d → d < nD v → v 0 < v (27 + 12 * d + 0)
theorem nI_sub_pos {a b : Nat} (ha : a < 2 ^ 30) (hb : b < 2 ^ 30) : 0 < nI a - nI b ↔ b < a := by
  rw [Int32.lt_iff_toInt_lt, Int32.toInt_sub, nI_toInt (by omega), nI_toInt (by omega)]
  rw [show (0 : Int32).toInt = 0 from rfl]
  rw [Int.bmod_eq_of_le (by omega) (by omega)]
  omega
theorem zH.opn {v : Nat → Int32} {d : Nat} (hH : zH v) (hd : d < nD v) : sOpen v d = decide (v 0 < v (27 + 12 * d + 0)) := by
  obtain ⟨a, -, ha, e1⟩ := (hH.2.2.2.1 d hd).1
  obtain ⟨t, ht, e2⟩ := hH.2.1
  unfold sOpen sLeft
  rw [e1, e2]
  by_cases q : t < a
  · rw [decide_eq_true ((nI_sub_pos (by omega) (by omega)).mpr q), decide_eq_true (nI_lt q (by omega))]
  · rw [decide_eq_false (fun z => q ((nI_sub_pos (by omega) (by omega)).mp z)), decide_eq_false (nI_nlt (by omega) (by omega))]
/-- a row of dates, of this State or of another -/
def zRw (G : zG) (B : Nat → Nat) (m0 : zM) (v : Nat → Int32) (w d : Nat) : Prop := (w = B (10 + d) ∧ d < 10) ∨ (d < 10 ∧ (∀ j, zBd j → w ≠ B j) ∧ w ∈ zL G ∧ zsh G w = (0, 8) ∧ m0 w 0 = .int (nI d) ∧ m0 w 2 = .int (v (27 + 12 * d + 1)))
theorem zCV.out {G : zG} {B : Nat → Nat} {m0 mm : zM} {v : Nat → Int32} (h : zCV G B m0 v mm) {b : Nat} (hb : ∀ j, zBd j → b ≠ B j) : mm b = m0 b := by
  obtain ⟨u, -, hc⟩ := h
  exact hc.2.2.2.2.2.2 b hb
theorem zRw.at {G : zG} {B : Nat → Nat} {m0 mm : zM} {v : Nat → Int32} {w d : Nat} (hw : zRw G B m0 v w d) (hp : zCV G B m0 v mm) : d < 10 ∧ w ∈ zL G ∧ zsh G w = (0, 8) ∧ mm w 0 = .int (nI d) ∧ mm w 2 = .int (v (27 + 12 * d + 1)) := by
  rcases hw with ⟨rfl, hd⟩ | ⟨hd, h1, h2, h3, h4, h5⟩
  · exact ⟨hd, (hp.at (Or.inr (by omega))).1, (hp.at (Or.inr (by omega))).2.trans (zBsh_d hd), hp.ct (zCt_d0 hd), hp.int (zIx_d hd (by decide)) (fun _ _ => by omega)⟩
  · rw [hp.out h1]; exact ⟨hd, h2, h3, h4, h5⟩
theorem zRw.of {G : zG} {B : Nat → Nat} {m0 : zM} {v v' : Nat → Int32} {w d : Nat} (hw : zRw G B m0 v w d) (e : v' (27 + 12 * d + 1) = v (27 + 12 * d + 1)) : zRw G B m0 v' w d := by
  rcases hw with h | ⟨hd, h1, h2, h3, h4, h5⟩
  · exact Or.inl h
  · exact Or.inr ⟨hd, h1, h2, h3, h4, by rw [e]; exact h5⟩
section ZCW
variable {l : Launch} {G : zG} {y : MethodName} {cc : ByteArray} {nL : Nat} {ret : Option FieldType} {d0 : Nat} {rv : Option Value} {Q : zM → Prop} {pc : Nat} {lv : List (Option Value)} {st : List Value} {mm m0 : zM} {B : Nat → Nat} {v : Nat → Int32} {ix d w : Nat} {own : String}
theorem zC_w0 (hw : zRw G B m0 v w d) (hp : zCV G B m0 v mm) (ho : own = y.cls) (hlink : Cond.fieldLink own ix RX0 (TX0 0).2.1 (TX0 0).2.2.1 ∈ zU) (hd : decode cc pc = .ok (.getfield ix, 3)) (kk : zV l G (y, cc, nL, ret) d0 rv Q (pc + 3) lv (.int (nI d) :: st) mm) : zV l G (y, cc, nL, ret) d0 rv Q pc lv (.ref w :: st) mm :=
  z_get (ci := 0) zin0 rfl (by decide) (by decide) rfl ho hlink (hw.at hp).2.1 (hw.at hp).2.2.1 (hw.at hp).2.2.2.1 hd kk
theorem zC_w2 (hw : zRw G B m0 v w d) (hp : zCV G B m0 v mm) (ho : own = y.cls) (hlink : Cond.fieldLink own ix RX0 (TX0 2).2.1 (TX0 2).2.2.1 ∈ zU) (hd : decode cc pc = .ok (.getfield ix, 3)) (kk : zV l G (y, cc, nL, ret) d0 rv Q (pc + 3) lv (.int (v (27 + 12 * d + 1)) :: st) mm) : zV l G (y, cc, nL, ret) d0 rv Q pc lv (.ref w :: st) mm :=
  z_get (ci := 0) zin0 rfl (by decide) (by decide) rfl ho hlink (hw.at hp).2.1 (hw.at hp).2.2.1 (hw.at hp).2.2.2.2 hd kk
end ZCW
def kPr (v : Nat → Int32) (d : Nat) (o left : Int32) : Int32 :=
  if v (27 + 12 * d + 4) = nI 1 then v (27 + 12 * d + 3) + v (27 + 12 * d + 3) * o / v (27 + 12 * d + 1)
  else if v (27 + 12 * d + 4) = 0 then v (27 + 12 * d + 3)
  else v (27 + 12 * d + 3) * (nI 100 + nI 2 * (if nI 30 < left then nI 0 else nI 30 - left)) / nI 100
theorem kPr_s (v : Nat → Int32) (d : Nat) (left : Int32) : kPr v d (nI (sOut v d)) left = sPrice v d left := rfl
set_option maxRecDepth 4000 in
theorem c_X0_priceFor {l : Launch} {G : zG} {B : Nat → Nat} {m0 mm : zM} {v : Nat → Int32} (hp : zCV G B m0 v mm) (d : Nat) (o left : Int32) (hd : d < 10) (hT : zHt v d) : zSem l G (yX0_priceFor, cX0_priceFor, 4, (some .int)) 1 [.ref (B (10 + d)), .int o, .int left] mm (some (.int (kPr v d o left))) (fun m' => m' = mm) := by
  obtain ⟨-, ⟨p, hp1, hp2, ep⟩, -, -, ru, hru, eru⟩ := hT
  refine z_met [some (.ref (B (10 + d))), some (.int o), some (.int left), none] rfl (zc1 (by rfl)) (Nat.le_of_ble_eq_true rfl) rfl ?_
  refine z_aload_n 0 rfl rfl dX0_priceFor_0 ?_
  refine zC_D5 hp (by omega) rfl zf_X0_31 dX0_priceFor_1 ?_
  refine z_iconst (nI 1) dX0_priceFor_4 rfl ?_
  refine z_icmp_ne 32 dX0_priceFor_5 rfl (fun c5 => ?_) (fun c5 => ?_)
  · refine z_aload_n 0 rfl rfl dX0_priceFor_32 ?_
    refine zC_D5 hp (by omega) rfl zf_X0_31 dX0_priceFor_33 ?_
    refine z_iconst (nI 2) dX0_priceFor_36 rfl ?_
    refine z_icmp_ne 70 dX0_priceFor_37 rfl (fun c37 => ?_) (fun c37 => ?_)
    · have e0 : v (27 + 12 * d + 4) = 0 := by
        rw [eru] at c5 c37 ⊢
        rcases (by omega : ru = 0 ∨ ru = 1 ∨ ru = 2) with rfl | rfl | rfl
        · rfl
        · exact absurd rfl c5
        · exact absurd rfl c37
      refine z_aload_n 0 rfl rfl dX0_priceFor_70 ?_
      refine zC_D4 hp (by omega) rfl zf_X0_28 dX0_priceFor_71 ?_
      exact z_iret dX0_priceFor_74 (by rw [kPr, if_neg c5, if_pos e0]) rfl
    · have e0 : ¬ v (27 + 12 * d + 4) = 0 := by rw [c37]; decide
      refine z_iload_n 2 rfl rfl dX0_priceFor_40 ?_
      refine z_bipush (nI 30) dX0_priceFor_41 rfl ?_
      refine z_icmp_ge 53 dX0_priceFor_43 rfl (fun c43 => ?_) (fun c43 => ?_)
      · have em : nI 0 = (if nI 30 < left then nI 0 else nI 30 - left) := by
          by_cases q : nI 30 < left
          · rw [if_pos q]
          · rw [if_neg q, Int32.le_antisymm (i_not_lt.mp q) c43]; rfl
        refine z_iconst (nI 0) dX0_priceFor_53 rfl ?_
        rw [em]
        refine z_istore_n 3 rfl (Nat.le_of_ble_eq_true rfl) rfl dX0_priceFor_54 ?_
        refine z_aload_n 0 rfl rfl dX0_priceFor_55 ?_
        refine zC_D4 hp (by omega) rfl zf_X0_28 dX0_priceFor_56 ?_
        refine z_bipush (nI 100) dX0_priceFor_59 rfl ?_
        refine z_iconst (nI 2) dX0_priceFor_61 rfl ?_
        refine z_iload_n 3 rfl rfl dX0_priceFor_62 ?_
        refine z_imul dX0_priceFor_63 ?_
        refine z_iadd dX0_priceFor_64 ?_
        refine z_imul dX0_priceFor_65 ?_
        refine z_bipush (nI 100) dX0_priceFor_66 rfl ?_
        refine z_idiv dX0_priceFor_68 (by decide) ?_
        exact z_iret dX0_priceFor_69 (by rw [kPr, if_neg c5, if_neg e0]) rfl
      · have em : nI 30 - left = (if nI 30 < left then nI 0 else nI 30 - left) := by rw [if_neg (fun q => c43 (Int32.le_of_lt q))]
        refine z_bipush (nI 30) dX0_priceFor_46 rfl ?_
        refine z_iload_n 2 rfl rfl dX0_priceFor_48 ?_
        refine z_isub dX0_priceFor_49 ?_
        refine z_goto 54 dX0_priceFor_50 rfl ?_
        rw [em]
        refine z_istore_n 3 rfl (Nat.le_of_ble_eq_true rfl) rfl dX0_priceFor_54 ?_
        refine z_aload_n 0 rfl rfl dX0_priceFor_55 ?_
        refine zC_D4 hp (by omega) rfl zf_X0_28 dX0_priceFor_56 ?_
        refine z_bipush (nI 100) dX0_priceFor_59 rfl ?_
        refine z_iconst (nI 2) dX0_priceFor_61 rfl ?_
        refine z_iload_n 3 rfl rfl dX0_priceFor_62 ?_
        refine z_imul dX0_priceFor_63 ?_
        refine z_iadd dX0_priceFor_64 ?_
        refine z_imul dX0_priceFor_65 ?_
        refine z_bipush (nI 100) dX0_priceFor_66 rfl ?_
        refine z_idiv dX0_priceFor_68 (by decide) ?_
        exact z_iret dX0_priceFor_69 (by rw [kPr, if_neg c5, if_neg e0]) rfl
  · have e1 := c5
    refine z_aload_n 0 rfl rfl dX0_priceFor_8 ?_
    refine zC_D2 hp (by omega) rfl zf_X0_22 dX0_priceFor_9 ?_
    refine z_if_le 32 dX0_priceFor_12 rfl (fun c12 => ?_) (fun c12 => ?_)
    · exact absurd c12 (by rw [ep]; exact nI_nle (by omega) (by omega))
    · refine z_aload_n 0 rfl rfl dX0_priceFor_15 ?_
      refine zC_D4 hp (by omega) rfl zf_X0_28 dX0_priceFor_16 ?_
      refine z_aload_n 0 rfl rfl dX0_priceFor_19 ?_
      refine zC_D4 hp (by omega) rfl zf_X0_28 dX0_priceFor_20 ?_
      refine z_iload_n 1 rfl rfl dX0_priceFor_23 ?_
      refine z_imul dX0_priceFor_24 ?_
      refine z_aload_n 0 rfl rfl dX0_priceFor_25 ?_
      refine zC_D2 hp (by omega) rfl zf_X0_22 dX0_priceFor_26 ?_
      refine z_idiv dX0_priceFor_29 (by rw [ep]; exact nI_ne0 (by omega) (by omega)) ?_
      refine z_iadd dX0_priceFor_30 ?_
      exact z_iret dX0_priceFor_31 (by rw [kPr, if_pos c5]) rfl
set_option maxRecDepth 4000 in
theorem c_X0_waitingAt {l : Launch} {G : zG} {B : Nat → Nat} {m0 mm : zM} {v : Nat → Int32} (hp : zCV G B m0 v mm) (d n : Nat) (x : Int32) (hd : d < 10) (h5 : v (27 + 12 * d + 5) = nI n) (hn : n ≤ 6) : zSem l G (yX0_waitingAt, cX0_waitingAt, 2, (some .int)) 1 [.ref (B (10 + d)), .int x] mm (some (.int (if 0 ≤ x ∧ x < v (27 + 12 * d + 5) then v (27 + 12 * d + (6 + zn x)) else -5))) (fun m' => m' = mm) := by
  refine z_met [some (.ref (B (10 + d))), some (.int x)] rfl (zc1 (by rfl)) (Nat.le_of_ble_eq_true rfl) rfl ?_
  refine z_iload_n 1 rfl rfl dX0_waitingAt_0 ?_
  refine z_if_lt 30 dX0_waitingAt_1 rfl (fun c1 => ?_) (fun c1 => ?_)
  · refine z_bipush (-5) dX0_waitingAt_30 (by decide) ?_
    exact z_iret dX0_waitingAt_32 (by first | (rw [if_neg (fun q => absurd q.1 (i_not_le.mpr c1))]; done) | (rw [if_neg (fun q => absurd q.2 (i_not_lt.mpr c9))]; done) | rw [if_pos (And.intro (nI_pos' hp31) (i_not_le.mp c9)), zn_nI hp31]) rfl
  · obtain ⟨p, hp31, rfl⟩ := nI_of c1
    refine z_iload_n 1 rfl rfl dX0_waitingAt_4 ?_
    refine z_aload_n 0 rfl rfl dX0_waitingAt_5 ?_
    refine zC_D7 hp (by omega) rfl zf_X0_38 dX0_waitingAt_6 ?_
    rw [h5]
    refine z_icmp_ge 30 dX0_waitingAt_9 rfl (fun c9 => ?_) (fun c9 => ?_)
    · refine z_bipush (-5) dX0_waitingAt_30 (by decide) ?_
      exact z_iret dX0_waitingAt_32 (by first | (rw [if_neg (fun q => absurd q.1 (i_not_le.mpr c1))]; done) | (rw [if_neg (fun q => absurd q.2 (i_not_lt.mpr c9))]; done) | rw [if_pos (And.intro (nI_pos' hp31) (i_not_le.mp c9)), zn_nI hp31]) rfl
    · have hpn : p < n := Nat.lt_of_not_le (fun q => c9 ((nI_leI (by omega) (by omega)).mpr q))
      refine z_iload_n 1 rfl rfl dX0_waitingAt_12 ?_
      refine z_aload_n 0 rfl rfl dX0_waitingAt_13 ?_
      refine zC_D6 hp (by omega) rfl zf_X0_9 dX0_waitingAt_14 ?_
      refine zC_all hp (by omega) dX0_waitingAt_17 ?_
      refine z_icmp_ge 30 dX0_waitingAt_18 rfl (fun c18 => ?_) (fun c18 => ?_)
      · exact absurd ((nI_leI (by omega) (by omega)).mp c18) (by omega)
      · refine z_aload_n 0 rfl rfl dX0_waitingAt_21 ?_
        refine zC_D6 hp (by omega) rfl zf_X0_9 dX0_waitingAt_22 ?_
        refine z_iload_n 1 rfl rfl dX0_waitingAt_25 ?_
        refine zC_al hp (by omega) (by omega) dX0_waitingAt_26 ?_
        refine z_goto 32 dX0_waitingAt_27 rfl ?_
        exact z_iret dX0_waitingAt_32 (by first | (rw [if_neg (fun q => absurd q.1 (i_not_le.mpr c1))]; done) | (rw [if_neg (fun q => absurd q.2 (i_not_lt.mpr c9))]; done) | rw [if_pos (And.intro (nI_pos' hp31) (i_not_le.mp c9)), zn_nI hp31]) rfl
theorem sPl_found {v : Nat → Int32} {d i : Nat} {h : Int32} : ∀ {n : Nat}, i < n → v (27 + 12 * d + (6 + i)) = h → (∀ j, j < n → v (27 + 12 * d + (6 + j)) = h → j = i) → sPl v d h n = nI i
  | 0, hi, _, _ => by omega
  | n + 1, hi, e, hu => by
    unfold sPl
    by_cases q : v (27 + 12 * d + (6 + n)) = h
    · rw [if_pos q, hu n (by omega) q]
    · rw [if_neg q]
      exact sPl_found (by rcases Nat.lt_or_ge i n with z | z; exact z; exact absurd (by rw [← show i = n by omega]; exact e) q) e (fun j hj => hu j (by omega))
theorem sPl_not {v : Nat → Int32} {d : Nat} {h : Int32} : ∀ {n : Nat}, (∀ j, j < n → ¬ v (27 + 12 * d + (6 + j)) = h) → sPl v d h n = -5
  | 0, _ => rfl
  | n + 1, hu => by
    unfold sPl
    rw [if_neg (hu n (by omega))]
    exact sPl_not (fun j hj => hu j (by omega))
set_option maxRecDepth 4000 in
theorem l_X0_placeOf {l : Launch} {G : zG} {B : Nat → Nat} {m0 mm : zM} {v : Nat → Int32} (hp : zCV G B m0 v mm) (d n : Nat) (h : Int32) (hd : d < 10) (h5 : v (27 + 12 * d + 5) = nI n) (hn : n ≤ 6) (hz : zHl v d) : ∀ i, i ≤ n → ∀ (hno : ∀ j, j < i → ¬ v (27 + 12 * d + (6 + j)) = h), zV l G (yX0_placeOf, cX0_placeOf, 3, (some .int)) 1 (some (.int (sPl v d h n))) (fun m' => m' = mm) 2 [some (.ref (B (10 + d))), some (.int h), some (.int (nI i))] [] mm := by
  refine z_loop (n) (fun i hi ih hno => ?_)
  refine z_iload_n 2 rfl rfl dX0_placeOf_2 ?_
  refine z_aload_n 0 rfl rfl dX0_placeOf_3 ?_
  refine zC_D7 hp (by omega) rfl zf_X0_38 dX0_placeOf_4 ?_
  rw [h5]
  refine z_icmp_ge 37 dX0_placeOf_7 rfl (fun c7 => ?_) (fun c7 => ?_)
  · have e : i = n := by have := (nI_leI (by omega) (by omega)).mp c7; omega
    subst e
    refine z_bipush (-5) dX0_placeOf_37 (by decide) ?_
    exact z_iret dX0_placeOf_39 (by rw [sPl_not hno]) rfl
  · have hl : i < n := Nat.lt_of_not_le (fun q => c7 ((nI_leI (by omega) (by omega)).mpr (by omega)))
    refine z_iload_n 2 rfl rfl dX0_placeOf_10 ?_
    refine z_aload_n 0 rfl rfl dX0_placeOf_11 ?_
    refine zC_D6 hp (by omega) rfl zf_X0_9 dX0_placeOf_12 ?_
    refine zC_all hp (by omega) dX0_placeOf_15 ?_
    refine z_icmp_ge 37 dX0_placeOf_16 rfl (fun c16 => ?_) (fun c16 => ?_)
    · exact absurd ((nI_leI (by omega) (by omega)).mp c16) (by omega)
    · refine z_aload_n 0 rfl rfl dX0_placeOf_19 ?_
      refine zC_D6 hp (by omega) rfl zf_X0_9 dX0_placeOf_20 ?_
      refine z_iload_n 2 rfl rfl dX0_placeOf_23 ?_
      refine zC_al hp (by omega) (by omega) dX0_placeOf_24 ?_
      refine z_iload_n 1 rfl rfl dX0_placeOf_25 ?_
      refine z_icmp_ne 31 dX0_placeOf_26 rfl (fun c26 => ?_) (fun c26 => ?_)
      · refine z_iincN (n := 1) 2 rfl rfl dX0_placeOf_31 ?_
        refine z_goto 2 dX0_placeOf_34 rfl ?_
        exact ih (by assumption) (fun j hj => by by_cases e : j = i; subst e; exact c26; exact hno j (by omega))
      · refine z_iload_n 2 rfl rfl dX0_placeOf_29 ?_
        exact z_iret dX0_placeOf_30 (by rw [sPl_found (by assumption) c26 (fun j hj e => hz n j i h5 hn hj (by assumption) (e.trans c26.symm))]) rfl
set_option maxRecDepth 4000 in
theorem c_X0_placeOf {l : Launch} {G : zG} {B : Nat → Nat} {m0 mm : zM} {v : Nat → Int32} (hp : zCV G B m0 v mm) (d n : Nat) (h : Int32) (hd : d < 10) (h5 : v (27 + 12 * d + 5) = nI n) (hn : n ≤ 6) (hl : zHl v d) : zSem l G (yX0_placeOf, cX0_placeOf, 3, (some .int)) 1 [.ref (B (10 + d)), .int h] mm (some (.int (sPl v d h n))) (fun m' => m' = mm) := by
  refine z_met [some (.ref (B (10 + d))), some (.int h), none] rfl (zc1 (by rfl)) (Nat.le_of_ble_eq_true rfl) rfl ?_
  refine z_iconst (nI 0) dX0_placeOf_0 rfl ?_
  refine z_istore_n 2 rfl (Nat.le_of_ble_eq_true rfl) rfl dX0_placeOf_1 ?_
  exact l_X0_placeOf hp d n h hd h5 hn hl 0 (by omega) (fun j hj => absurd hj (by omega))
set_option maxRecDepth 4000 in
theorem c_X0_appendToList {l : Launch} {G : zG} {B : Nat → Nat} {m0 mm : zM} {v : Nat → Int32} (hp : zCV G B m0 v mm) (d n : Nat) (x : Int32) (hd : d < 10) (h5 : v (27 + 12 * d + 5) = nI n) (hn : n ≤ 6) : zSem l G (yX0_appendToList, cX0_appendToList, 2, (some .int)) 1 [.ref (B (10 + d)), .int x] mm (some (.int (if n = 6 then -3 else nI (n + 1)))) (fun m' => zCV G B m0 (if n = 6 then v else sAw1 v d n x) m') := by
  refine z_met [some (.ref (B (10 + d))), some (.int x)] rfl (zc1 (by rfl)) (Nat.le_of_ble_eq_true rfl) rfl ?_
  refine z_aload_n 0 rfl rfl dX0_appendToList_0 ?_
  refine zC_D7 hp (by omega) rfl zf_X0_38 dX0_appendToList_1 ?_
  rw [h5]
  refine z_aload_n 0 rfl rfl dX0_appendToList_4 ?_
  refine zC_D6 hp (by omega) rfl zf_X0_9 dX0_appendToList_5 ?_
  refine zC_all hp (by omega) dX0_appendToList_8 ?_
  refine z_icmp_lt 15 dX0_appendToList_9 rfl (fun c9 => ?_) (fun c9 => ?_)
  · have h6 : n < 6 := (nI_ltI (by omega) (by omega)).mp c9
    rw [if_neg (by omega), if_neg (by omega)]
    refine z_aload_n 0 rfl rfl dX0_appendToList_15 ?_
    refine zC_D6 hp (by omega) rfl zf_X0_9 dX0_appendToList_16 ?_
    refine z_aload_n 0 rfl rfl dX0_appendToList_19 ?_
    refine zC_D7 hp (by omega) rfl zf_X0_38 dX0_appendToList_20 ?_
    rw [h5]
    refine z_iload_n 1 rfl rfl dX0_appendToList_23 ?_
    refine zC_als hp (by omega) (by omega) dX0_appendToList_24 (fun mm hp => ?_)
    refine z_aload_n 0 rfl rfl dX0_appendToList_25 ?_
    refine z_dup dX0_appendToList_26 rfl ?_
    refine zC_D7 hp (by omega) rfl zf_X0_38 dX0_appendToList_27 ?_
    rw [show upd v (27 + 12 * d + (6 + n)) x (27 + 12 * d + 5) = nI n by rw [upd_ne (by omega)]; exact h5]
    refine z_iconst (nI 1) dX0_appendToList_30 rfl ?_
    refine z_iaddN dX0_appendToList_31 ?_
    refine zC_Dp7 hp (by omega) rfl zf_X0_38 dX0_appendToList_32 (fun mm hp => ?_)
    refine z_aload_n 0 rfl rfl dX0_appendToList_35 ?_
    refine zC_D7 hp (by omega) rfl zf_X0_38 dX0_appendToList_36 ?_
    rw [upd_eq]
    exact z_iret dX0_appendToList_39 rfl hp
  · have h6 : n = 6 := by rcases Nat.lt_or_ge n 6 with q | q; exact absurd (nI_lt q (by omega)) c9; omega
    rw [if_pos h6, if_pos h6]
    refine z_bipush (-3) dX0_appendToList_12 (by decide) ?_
    exact z_iret dX0_appendToList_14 rfl hp
theorem kDr (v : Nat → Int32) {d p n : Nat} (hpn : p < n) (h5 : v (27 + 12 * d + 5) = nI n) : sDr (upd v (27 + 12 * d + 5) (nI (n - 1))) d p (n - 1 - p) = sDrop v d p n := by
  funext j
  unfold sDrop
  rw [show sDr v d p (n - 1 - p) (27 + 12 * d + 5) - nI 1 = nI (n - 1) by
    rw [sDr, if_neg (by omega), h5]
    have e : nI n = nI (n - 1 + 1) := by congr 1; omega
    rw [e]; exact nI_pred _]
  by_cases e : j = 27 + 12 * d + 5
  · subst e; rw [upd_eq, sDr, if_neg (by omega), upd_eq]
  · rw [upd_ne e]
    unfold sDr
    by_cases h : 27 + 12 * d + 6 + p ≤ j ∧ j < 27 + 12 * d + 6 + p + (n - 1 - p)
    · rw [if_pos h, if_pos h, upd_ne (by omega)]
    · rw [if_neg h, if_neg h, upd_ne e]
set_option maxRecDepth 4000 in
theorem l_X0_removeFromList {l : Launch} {G : zG} {B : Nat → Nat} {m0 : zM} {v : Nat → Int32} (d p n : Nat) (hd : d < 10) (hn : n ≤ 6) (hpn : p < n) (h5 : v (27 + 12 * d + 5) = nI n) : ∀ i, i ≤ (n - 1 - p) → ∀ (mm : zM) (hp : zCV G B m0 (sDr (upd v (27 + 12 * d + 5) (nI (n - 1))) d p i) mm), zV l G (yX0_removeFromList, cX0_removeFromList, 3, none) 1 none (fun m' => zCV G B m0 (sDrop v d p n) m') 25 [some (.ref (B (10 + d))), some (.int (nI p)), some (.int (nI (p + i)))] [] mm := by
  refine z_loop ((n - 1 - p)) (fun i hi ih mm hp => ?_)
  refine z_iload_n 2 rfl rfl dX0_removeFromList_25 ?_
  refine z_aload_n 0 rfl rfl dX0_removeFromList_26 ?_
  refine zC_D7 hp (by omega) rfl zf_X0_38 dX0_removeFromList_27 ?_
  rw [show sDr (upd v (27 + 12 * d + 5) (nI (n - 1))) d p i (27 + 12 * d + 5) = nI (n - 1) by rw [sDr, if_neg (by omega), upd_eq]]
  refine z_icmp_ge 64 dX0_removeFromList_30 rfl (fun c30 => ?_) (fun c30 => ?_)
  · have e : i = n - 1 - p := by have := (nI_leI (by omega) (by omega)).mp c30; omega
    subst e
    exact z_vret dX0_removeFromList_64 rfl (by rw [kDr v hpn h5] at hp; exact hp)
  · have hl : i < n - 1 - p := Nat.lt_of_not_le (fun q => c30 ((nI_leI (by omega) (by omega)).mpr (by omega)))
    refine z_iload_n 2 rfl rfl dX0_removeFromList_33 ?_
    refine z_iconst (nI 1) dX0_removeFromList_34 rfl ?_
    refine z_iaddN dX0_removeFromList_35 ?_
    refine z_aload_n 0 rfl rfl dX0_removeFromList_36 ?_
    refine zC_D6 hp (by omega) rfl zf_X0_9 dX0_removeFromList_37 ?_
    refine zC_all hp (by omega) dX0_removeFromList_40 ?_
    refine z_icmp_ge 64 dX0_removeFromList_41 rfl (fun c41 => ?_) (fun c41 => ?_)
    · exact absurd ((nI_leI (by omega) (by omega)).mp c41) (by omega)
    · refine z_aload_n 0 rfl rfl dX0_removeFromList_44 ?_
      refine zC_D6 hp (by omega) rfl zf_X0_9 dX0_removeFromList_45 ?_
      refine z_iload_n 2 rfl rfl dX0_removeFromList_48 ?_
      refine z_aload_n 0 rfl rfl dX0_removeFromList_49 ?_
      refine zC_D6 hp (by omega) rfl zf_X0_9 dX0_removeFromList_50 ?_
      refine z_iload_n 2 rfl rfl dX0_removeFromList_53 ?_
      refine z_iconst (nI 1) dX0_removeFromList_54 rfl ?_
      refine z_iaddN dX0_removeFromList_55 ?_
      refine zC_al hp (by omega) (by omega) dX0_removeFromList_56 ?_
      refine zC_als hp (by omega) (by omega) dX0_removeFromList_57 (fun mm hp => ?_)
      rw [show 27 + 12 * d + (6 + (p + i + 1)) = 27 + 12 * d + (6 + (p + i) + 1) by omega, sDr_step] at hp
      refine z_iincN (n := 1) 2 rfl rfl dX0_removeFromList_58 ?_
      refine z_goto 25 dX0_removeFromList_61 rfl ?_
      exact ih hl _ hp
set_option maxRecDepth 4000 in
theorem c_X0_removeFromList {l : Launch} {G : zG} {B : Nat → Nat} {m0 mm : zM} {v : Nat → Int32} (hp : zCV G B m0 v mm) (d p n : Nat) (hd : d < 10) (hn : n ≤ 6) (hpn : p < n) (h5 : v (27 + 12 * d + 5) = nI n) : zSem l G (yX0_removeFromList, cX0_removeFromList, 3, none) 1 [.ref (B (10 + d)), .int (nI p)] mm none (fun m' => zCV G B m0 (sDrop v d p n) m') := by
  refine z_met [some (.ref (B (10 + d))), some (.int (nI p)), none] rfl (zc1 (by rfl)) (Nat.le_of_ble_eq_true rfl) rfl ?_
  refine z_iload_n 1 rfl rfl dX0_removeFromList_0 ?_
  refine z_if_lt 12 dX0_removeFromList_1 rfl (fun c1 => ?_) (fun c1 => ?_)
  · exact absurd c1 (nI_pos (by omega))
  · refine z_iload_n 1 rfl rfl dX0_removeFromList_4 ?_
    refine z_aload_n 0 rfl rfl dX0_removeFromList_5 ?_
    refine zC_D7 hp (by omega) rfl zf_X0_38 dX0_removeFromList_6 ?_
    rw [h5]
    refine z_icmp_lt 13 dX0_removeFromList_9 rfl (fun c9 => ?_) (fun c9 => ?_)
    · refine z_aload_n 0 rfl rfl dX0_removeFromList_13 ?_
      refine z_dup dX0_removeFromList_14 rfl ?_
      refine zC_D7 hp (by omega) rfl zf_X0_38 dX0_removeFromList_15 ?_
      rw [h5]
      refine z_iconst (nI 1) dX0_removeFromList_18 rfl ?_
      refine z_isubN (by omega) dX0_removeFromList_19 ?_
      refine zC_Dp7 hp (by omega) rfl zf_X0_38 dX0_removeFromList_20 (fun mm hp => ?_)
      refine z_iload_n 1 rfl rfl dX0_removeFromList_23 ?_
      refine z_istore_n 2 rfl (Nat.le_of_ble_eq_true rfl) rfl dX0_removeFromList_24 ?_
      exact l_X0_removeFromList d p n hd hn hpn h5 0 (by omega) _ (by rw [sDr_0]; exact hp)
    · exact absurd (nI_lt hpn (by omega)) c9
set_option maxRecDepth 4000 in
theorem c_X0_removeNone {l : Launch} {G : zG} {B : Nat → Nat} {m0 mm : zM} {v : Nat → Int32} (hp : zCV G B m0 v mm) (d : Nat) (x : Int32) (hx : x < 0) : zSem l G (yX0_removeFromList, cX0_removeFromList, 3, none) 1 [.ref (B (10 + d)), .int x] mm none (fun m' => m' = mm) := by
  refine z_met [some (.ref (B (10 + d))), some (.int x), none] rfl (zc1 (by rfl)) (Nat.le_of_ble_eq_true rfl) rfl ?_
  refine z_iload_n 1 rfl rfl dX0_removeFromList_0 ?_
  refine z_if_lt 12 dX0_removeFromList_1 rfl (fun c1 => ?_) (fun c1 => ?_)
  · exact z_vret dX0_removeFromList_12 rfl rfl
  · exact absurd hx c1
set_option maxRecDepth 4000 in
theorem c_X4_isHeldOrOffered {l : Launch} {G : zG} {B : Nat → Nat} {m0 mm : zM} {v : Nat → Int32} (hp : zCV G B m0 v mm) (r : Nat) (hr : r < 60) (hs : ∃ s, s ≤ 5 ∧ v (147 + 7 * r + 3) = nI s) : zSem l G (yX4_isHeldOrOffered, cX4_isHeldOrOffered, 1, (some .boolean)) 1 [.ref (B (30 + r))] mm (some (.int (zB (decide (v (147 + 7 * r + 3) < nI 2))))) (fun m' => m' = mm) := by
  obtain ⟨s, hs5, es⟩ := hs
  refine z_met [some (.ref (B (30 + r)))] rfl (zc1 (by rfl)) (Nat.le_of_ble_eq_true rfl) rfl ?_
  refine z_aload_n 0 rfl rfl dX4_isHeldOrOffered_0 ?_
  refine zC_R4 hp (by omega) rfl zf_X4_24 dX4_isHeldOrOffered_1 ?_
  refine z_if_eq 15 dX4_isHeldOrOffered_4 rfl (fun c4 => ?_) (fun c4 => ?_)
  · have e9 : decide (v (147 + 7 * r + 3) < nI 2) = true := by rw [c4]; decide
    refine z_iconst (nI 1) dX4_isHeldOrOffered_15 rfl ?_
    refine z_goto 20 dX4_isHeldOrOffered_16 rfl ?_
    exact z_zret dX4_isHeldOrOffered_20 (by first | rfl | exact zB_nar _) (by rw [e9]; rfl) rfl
  · refine z_aload_n 0 rfl rfl dX4_isHeldOrOffered_7 ?_
    refine zC_R4 hp (by omega) rfl zf_X4_24 dX4_isHeldOrOffered_8 ?_
    refine z_iconst (nI 1) dX4_isHeldOrOffered_11 rfl ?_
    refine z_icmp_ne 19 dX4_isHeldOrOffered_12 rfl (fun c12 => ?_) (fun c12 => ?_)
    · have e9 : decide (v (147 + 7 * r + 3) < nI 2) = false := by
        rw [es] at c4 c12 ⊢
        rcases (by omega : s = 0 ∨ s = 1 ∨ 2 ≤ s) with rfl | rfl | q
        · exact absurd rfl c4
        · exact absurd rfl c12
        · exact decide_eq_false (nI_nlt q (by omega))
      refine z_iconst (nI 0) dX4_isHeldOrOffered_19 rfl ?_
      exact z_zret dX4_isHeldOrOffered_20 (by first | rfl | exact zB_nar _) (by rw [e9]; rfl) rfl
    · have e9 : decide (v (147 + 7 * r + 3) < nI 2) = true := by rw [c12]; decide
      refine z_iconst (nI 1) dX4_isHeldOrOffered_15 rfl ?_
      refine z_goto 20 dX4_isHeldOrOffered_16 rfl ?_
      exact z_zret dX4_isHeldOrOffered_20 (by first | rfl | exact zB_nar _) (by rw [e9]; rfl) rfl
