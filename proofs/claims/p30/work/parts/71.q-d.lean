/-! ===== what the law's dates come to ===== -/
theorem e_right {v : Nat → Int32} {r w : Nat} (hJ : zJ2 v) (hr : r < nR v) (hw : w ≤ 6) : sRight v (nI r) (nI w) = v (147 + 7 * r + w) := by
  have h60 := hJ.2
  unfold sRight
  rw [hJ.1, if_pos (zIn_okp hr (by omega)), if_pos (zIn_ok (Nat.zero_le _) (by omega) (by omega)), zn_nI (by omega), zn_nI (by omega), if_pos (by omega)]
theorem e_right7 {v : Nat → Int32} {r d : Nat} (hJ : zJ2 v) (hr : r < nR v) (hd : d < 10) (e0 : v (147 + 7 * r + 0) = nI d) : sRight v (nI r) (nI 7) = if v (147 + 7 * r + 3) < nI 2 then sRef v r d else -5 := by
  have h60 := hJ.2
  unfold sRight
  rw [hJ.1, if_pos (zIn_okp hr (by omega)), if_pos (zIn_ok (Nat.zero_le _) (by omega) (by omega)), zn_nI (show r < 2 ^ 31 by omega), zn_nI (show 7 < 2 ^ 31 by omega), if_neg (by omega), if_neg (by omega), e0, zn_nI (by omega)]
theorem e_right8 {v : Nat → Int32} {r d : Nat} (hJ : zJ2 v) (hr : r < nR v) (hd : d < 10) (e0 : v (147 + 7 * r + 0) = nI d) : sRight v (nI r) (nI 8) = zB (sEx v r d) := by
  have h60 := hJ.2
  unfold sRight
  rw [hJ.1, if_pos (zIn_okp hr (by omega)), if_pos (zIn_ok (Nat.zero_le _) (by omega) (by omega)), zn_nI (show r < 2 ^ 31 by omega), zn_nI (show 8 < 2 ^ 31 by omega), if_neg (by omega), if_pos rfl, e0, zn_nI (by omega)]
theorem e_rightN {v : Nat → Int32} {x w : Int32} (h : zIn x (nI 0) (v 2 - nI 1) = false) : sRight v x w = -1 := by
  unfold sRight; rw [h]; rfl
theorem sStage_le {v : Nat → Int32} {d : Nat} : sStage v d ≤ 3 := by
  unfold sStage; split; omega; split; omega; split <;> omega
theorem sRef_ok {v : Nat → Int32} {r d c : Nat} (hH : zH v) (hc : c ≤ 700000) (e2 : v (147 + 7 * r + 2) = nI c) : ∃ k, k ≤ c ∧ sRef v r d = nI k := by
  have h3 := sStage_le (v := v) (d := d)
  obtain ⟨-, f, hf, ef⟩ := hH.2.2.1.2 (sStage v d) (by omega)
  unfold sRef
  rw [e2, ef, nI_mul]
  have hm : c * f ≤ 700000 * 100 := Nat.mul_le_mul hc hf
  have hd : c * f / 100 ≤ c := by
    have : c * f ≤ c * 100 := Nat.mul_le_mul_left c hf
    omega
  rw [nI_div (by omega) (by omega) (by omega), nI_sub hd]
  exact ⟨_, by omega, rfl⟩
/-- a date's own numbers -/
theorem d_facts {v : Nat → Int32} {d : Nat} (hQ : zAll v) (hd : d < nD v) : ∃ L p su bs W cd, L ≤ 999 ∧ sDateW v d 5 = nI L ∧ (1 ≤ p ∧ p ≤ 20 ∧ v (27 + 12 * d + 1) = nI p) ∧ (su ≤ 5 ∧ v (27 + 12 * d + 2) = nI su) ∧ (1 ≤ bs ∧ bs ≤ 9999 ∧ v (27 + 12 * d + 3) = nI bs) ∧ (W < 2 ^ 31 ∧ v 5 = nI W) ∧ (cd < 2 ^ 31 ∧ v 3 = nI cd) ∧
    (0 < L → sOpen v d = true ∧ sLeft v d = nI L ∧ v 0 < v (27 + 12 * d + 0)) ∧ (L = 0 → sOpen v d = false ∧ sLeft v d ≤ 0 ∧ ¬ v 0 < v (27 + 12 * d + 0)) := by
  obtain ⟨⟨⟨hH, hO⟩, hN⟩, -⟩ := hQ
  obtain ⟨⟨a, ha1, ha, ea⟩, ⟨p, hp1, hp, ep⟩, ⟨su, hsu, es⟩, ⟨b, hb1, hb, eb⟩, -⟩ := hH.2.2.2.1 d hd
  obtain ⟨t, ht, et⟩ := hH.2.1
  obtain ⟨W, hW, eW⟩ := nI_of (i_not_lt.mpr (hN 2 (by omega)))
  obtain ⟨cd, hcd, ecd⟩ := nI_of (i_not_lt.mpr (hN 0 (by omega)))
  have hop := hH.opn hd
  refine ⟨a - t, p, su, b, W, cd, by omega, ?_, ⟨hp1, hp, ep⟩, ⟨hsu, es⟩, ⟨hb1, hb, eb⟩, ⟨hW, eW⟩, ⟨hcd, ecd⟩, fun hL => ?_, fun hL => ?_⟩
  · show (if sOpen v d = true then sLeft v d else nI 0) = nI (a - t)
    by_cases q : t < a
    · rw [hop, et, ea, if_pos (decide_eq_true (nI_lt q (by omega)))]
      unfold sLeft
      rw [ea, et, nI_sub (by omega)]
    · rw [hop, et, ea, if_neg (by rw [decide_eq_true_eq]; exact nI_nlt (by omega) (by omega))]
      congr 1; omega
  · have q : t < a := by omega
    have w : v 0 < v (27 + 12 * d + 0) := by rw [et, ea]; exact nI_lt q (by omega)
    exact ⟨by rw [hop]; exact decide_eq_true w, by unfold sLeft; rw [ea, et, nI_sub (by omega)], w⟩
  · have w : ¬ v 0 < v (27 + 12 * d + 0) := by rw [et, ea]; exact nI_nlt (by omega) (by omega)
    refine ⟨by rw [hop]; exact decide_eq_false w, ?_, w⟩
    have z : ¬ 0 < sLeft v d := fun z => by
      unfold sLeft at z
      rw [ea, et] at z
      have := (nI_sub_pos (a := a) (b := t) (by omega) (by omega)).mp z
      omega
    exact i_not_lt.mp z
/-- the lowest asking price so far -/
def lLow (v : Nat → Int32) (d n : Nat) : Int32 := match sLow v d (nI 1) 4 n with
  | none => -5
  | some b => v (147 + 7 * b + 4)
theorem lLow_13 {v : Nat → Int32} {d : Nat} : sDateW v d 13 = lLow v d (nR v) := rfl
theorem lLow_no {v : Nat → Int32} {d r : Nat} (h : ¬ (v (147 + 7 * r + 0) = nI d ∧ v (147 + 7 * r + 3) = nI 1)) : lLow v d (r + 1) = lLow v d r := by
  unfold lLow
  rw [← l_X7_lowest_a rfl h]
theorem lLow_up {v : Nat → Int32} {d r : Nat} (hH : zH v) (hr : r < nR v) (h : v (147 + 7 * r + 0) = nI d ∧ v (147 + 7 * r + 3) = nI 1) (hl : lLow v d r < 0 ∨ v (147 + 7 * r + 4) < lLow v d r) : lLow v d (r + 1) = v (147 + 7 * r + 4) := by
  unfold lLow at hl ⊢
  conv => lhs; unfold sLow
  rw [if_pos h]
  cases e : sLow v d (nI 1) 4 r with
  | none => rfl
  | some b =>
    rw [e] at hl
    obtain ⟨hb, -, b3⟩ := sLow_spec e
    obtain ⟨a, -, ha, ea⟩ := (hH.2.2.2.2.1 b (by omega)).2.2.1 b3
    have hl : v (147 + 7 * r + 4) < v (147 + 7 * b + 4) := hl.elim (fun z => by rw [show (match some b with | none => -5 | some b => v (147 + 7 * b + 4)) = v (147 + 7 * b + 4) from rfl, ea] at z; exact absurd z (nI_pos (by omega))) (fun z => z)
    show (match (if v (147 + 7 * r + 4) < v (147 + 7 * b + 4) then some r else some b) with | none => -5 | some b => v (147 + 7 * b + 4)) = _
    rw [if_pos hl]
theorem lLow_keep {v : Nat → Int32} {d r : Nat} (h : v (147 + 7 * r + 0) = nI d ∧ v (147 + 7 * r + 3) = nI 1) (h0 : ¬ lLow v d r < 0) (hl : ¬ v (147 + 7 * r + 4) < lLow v d r) : lLow v d (r + 1) = lLow v d r := by
  unfold lLow at h0 hl ⊢
  conv => lhs; unfold sLow
  rw [if_pos h]
  cases e : sLow v d (nI 1) 4 r with
  | none => rw [e] at h0; exact absurd (show (-5 : Int32) < 0 by decide) h0
  | some b =>
    rw [e] at hl
    show (match (if v (147 + 7 * r + 4) < v (147 + 7 * b + 4) then some r else some b) with | none => -5 | some b => v (147 + 7 * b + 4)) = _
    rw [if_neg hl]
theorem sCnt_s {v : Nat → Int32} {d r : Nat} {lo hi : Int32} {s : Nat} (e0 : v (147 + 7 * r + 0) = nI d) (e3 : v (147 + 7 * r + 3) = nI s) : sCnt v d lo hi (r + 1) = sCnt v d lo hi r + if zIn (nI s) lo hi = true then 1 else 0 := by
  show sCnt v d lo hi r + _ = _
  rw [e0, e3]
  simp
theorem sCnt_n {v : Nat → Int32} {d r : Nat} {lo hi : Int32} (h : ¬ v (147 + 7 * r + 0) = nI d) : sCnt v d lo hi (r + 1) = sCnt v d lo hi r := by
  show sCnt v d lo hi r + _ = _
  rw [if_neg (fun z => h z.1)]; rfl
/-- what can still be sold -/
theorem sCan_ok {v : Nat → Int32} {d L p su cd : Nat} (hJ : zJ2 v) (ho : sOpen v d = true) (eL : sLeft v d = nI L) (hL : L ≤ 999) (hp : p ≤ 20) (ep : v (27 + 12 * d + 1) = nI p) (hsu : su ≤ 5) (es : v (27 + 12 * d + 2) = nI su) (hcd : cd < 2 ^ 31) (ec : v 3 = nI cd) :
    sCan v d = nI (min (p + (if cd < L then su else 0) - sOut v d) (60 - nR v)) := by
  have h60 := hJ.2
  have hout : sOut v d ≤ 60 := Nat.le_trans sCnt_le h60
  unfold sCan
  have em : sMost v d = nI (p + (if cd < L then su else 0)) - nI (sOut v d) := by
    unfold sMost
    rw [ep, es, eL, ec]
    by_cases q : cd < L
    · rw [if_pos ((nI_ltI hcd (by omega)).mpr q), if_pos q, nI_add]
    · rw [if_neg (fun z => q ((nI_ltI hcd (by omega)).mp z)), if_neg q, nI_add]
  have hx : (if cd < L then su else 0) ≤ 5 := by split <;> omega
  generalize (if cd < L then su else 0) = x at em hx ⊢
  have e60 : nI 60 - v 2 = nI (60 - nR v) := by rw [hJ.1, nI_sub h60]
  unfold sSell0
  rw [e60, ho]
  by_cases q : sOut v d ≤ p + x
  · rw [em, nI_sub q]
    by_cases w : p + x - sOut v d < 60 - nR v
    · rw [if_pos (nI_lt w (by omega)), Nat.min_eq_left (by omega)]
      by_cases z : 0 < p + x - sOut v d
      · rw [if_pos ⟨nI_lt (a := 0) z (by omega), rfl⟩]
      · rw [if_neg (fun y => z ((nI_ltI (a := 0) (by omega) (by omega)).mp y.1))]
        congr 1; omega
    · rw [if_neg (nI_nlt (by omega) (by omega)), Nat.min_eq_right (by omega)]
      by_cases z : 0 < 60 - nR v
      · rw [if_pos ⟨nI_lt (a := 0) z (by omega), rfl⟩]
      · rw [if_neg (fun y => z ((nI_ltI (a := 0) (by omega) (by omega)).mp y.1))]
        congr 1; omega
  · have neg : sMost v d < 0 := by rw [em]; exact pk_sneg (by omega) (by omega)
    have lt : sMost v d < nI (60 - nR v) := by
      rw [Int32.lt_iff_toInt_lt] at neg ⊢
      rw [nI_toInt (by omega)]
      have z0 : (0 : Int32).toInt = 0 := rfl
      omega
    rw [if_pos lt, if_neg (fun y => absurd neg (Int32.not_lt.mpr (Int32.le_of_lt y.1))), show p + x - sOut v d = 0 by omega, Nat.zero_min]
theorem sCan_no {v : Nat → Int32} {d : Nat} (ho : sOpen v d = false) : sCan v d = nI 0 := by
  unfold sCan
  rw [if_neg (fun q => by rw [ho] at q; exact absurd q.2 (by decide))]
/-- the stage is the first whose days fit -/
theorem sStage_ok {v : Nat → Int32} {d L : Nat} (h15 : v 15 = 0) (eL : sLeft v d = nI L) (hL : L ≤ 999) : v (9 + 2 * sStage v d) ≤ nI L ∧ (sStage v d = 0 ∨ ¬ v (9 + 2 * (sStage v d - 1)) ≤ nI L) := by
  unfold sStage
  rw [eL]
  by_cases a : v 9 ≤ nI L
  · rw [if_pos a]; exact ⟨a, Or.inl rfl⟩
  · rw [if_neg a]
    by_cases b : v 11 ≤ nI L
    · rw [if_pos b]; exact ⟨b, Or.inr a⟩
    · rw [if_neg b]
      by_cases c : v 13 ≤ nI L
      · rw [if_pos c]; exact ⟨c, Or.inr b⟩
      · rw [if_neg c]
        refine ⟨?_, Or.inr c⟩
        show v 15 ≤ nI L
        rw [h15]; exact nI_le (a := 0) (by omega) (by omega)
theorem e_stg {v : Nat → Int32} {k : Nat} (hk : k ≤ 3) : sStg v (nI k) (nI 0) = v (9 + 2 * k) := by
  unfold sStg
  rw [if_pos (zIn_ok (Nat.zero_le _) hk (by omega)), if_pos (by decide), zn_nI (by omega)]; rfl
theorem e_pin {v : Nat → Int32} {d L : Nat} (hJ : zJ1 v) (hd : d < nD v) (hL0 : 0 < L) (hL : L ≤ 999) (eL : sLeft v d = nI L) : sPin v (nI d) (nI 0) = sPrice v d (sLeft v d) := by
  have h10 := hJ.2
  unfold sPin
  rw [hJ.1, if_pos (zIn_okp hd (by omega)), if_pos (by decide), zn_nI (by omega), eL, nI_sub (Nat.zero_le _), Nat.sub_zero, if_neg (nI_nle hL0 (by omega))]
theorem e_pinN {v : Nat → Int32} {d : Nat} (hJ : zJ1 v) (hd : d < nD v) (eL : sLeft v d ≤ 0) : sPin v (nI d) (nI 0) = -5 := by
  have h10 := hJ.2
  unfold sPin
  rw [hJ.1, if_pos (zIn_okp hd (by omega)), if_pos (by decide), zn_nI (by omega), show sLeft v d - nI 0 = sLeft v d from Int32.sub_zero _, if_pos eL]
theorem e_wcN {v : Nat → Int32} {d cd : Nat} (hJ : zJ1 v) (hd : d < nD v) (eL : sLeft v d ≤ 0) (hcd : cd < 2 ^ 31) (ec : v 3 = nI cd) : (sWc v (nI d)).1 = -5 := by
  have h10 := hJ.2
  unfold sWc
  rw [hJ.1, if_pos (zIn_okp hd (by omega)), zn_nI (by omega), if_neg (fun z => absurd (Int32.lt_of_lt_of_le z eL) (by rw [ec]; exact nI_pos hcd))]
theorem e_wait {v : Nat → Int32} {d k N : Nat} (hJ : zJ1 v) (hd : d < nD v) (h5 : v (27 + 12 * d + 5) = nI N) (hN : N ≤ 6) (hk : k ≤ 6) : sWait v (nI d) (nI k) = if k < N then v (27 + 12 * d + (6 + k)) else -5 := by
  have h10 := hJ.2
  unfold sWait
  rw [hJ.1, if_pos (zIn_okp hd (by omega)), if_pos (nI_nneg (by omega)), zn_nI (by omega), h5, zn_nI (by omega)]
  by_cases q : k < N
  · rw [if_pos (nI_lt q (by omega)), if_pos q]
  · rw [if_neg (nI_nlt (by omega) (by omega)), if_neg q]
theorem e_ev {v : Nat → Int32} {w : Nat} (hw : w ≤ 3) (h8 : ¬ v 8 = nI 0) (h8b : ∃ e, e ≤ 10 ∧ v 8 = nI e) : sEv v (nI 0) (nI w) = v (567 + w) := by
  obtain ⟨e, he, e8⟩ := h8b
  unfold sEv
  rw [if_neg (by decide), if_pos (zIn_ok (Nat.zero_le _) hw (by omega)), e8, if_pos (nI_lt (by rcases Nat.eq_zero_or_pos e with z | z; exact absurd (by rw [e8, z]) h8; exact z) (by omega)), zn_nI (by omega), zn_nI (by omega)]
/-- what the law asks of a right of a date -/
theorem r_facts {v : Nat → Int32} {d r : Nat} (hQ : zAll v) (hd : d < nD v) (hr : r < nR v) (e0 : v (147 + 7 * r + 0) = nI d) : ∃ s c k, s ≤ 5 ∧ v (147 + 7 * r + 3) = nI s ∧ c ≤ 700000 ∧ v (147 + 7 * r + 2) = nI c ∧ (s < 2 → k ≤ c ∧ sRight v (nI r) (nI 7) = nI k ∧ v 0 < v (27 + 12 * d + 0)) ∧ (2 ≤ s → sRight v (nI r) (nI 7) = -5) ∧
    (s ≠ 1 → v (147 + 7 * r + 4) = -5) ∧ (s = 1 → ∃ A b, 1 ≤ A ∧ A ≤ 19998 ∧ v (147 + 7 * r + 4) = nI A ∧ v (27 + 12 * d + 3) = nI b ∧ b ≤ 9999 ∧ A ≤ 2 * b) := by
  obtain ⟨⟨⟨hH, hO⟩, hN⟩, ⟨⟨-, -, qo⟩, -⟩⟩ := hQ
  have h10 := hH.1.1.2
  obtain ⟨⟨s, hs, e3⟩, ⟨c, hc, e2⟩, h1, h0⟩ := hH.2.2.2.2.1 r hr
  obtain ⟨k, hk, ek⟩ := sRef_ok (r := r) (d := d) hH hc e2
  have e7 := e_right7 hH.1.2.1 hr (by omega) e0
  refine ⟨s, c, k, hs, e3, hc, e2, fun h2 => ?_, fun h2 => ?_, fun hne => ?_, fun hs1 => ?_⟩
  · have z : v (147 + 7 * r + 3) < nI 2 := by rw [e3]; exact nI_lt h2 (by omega)
    exact ⟨hk, by rw [e7, if_pos z]; exact ek, hO r d hr z e0 hd⟩
  · rw [e7, e3, if_neg (nI_nlt h2 (by omega))]
  · exact h0 (fun z => hne ((nI_eq (by omega) (by omega)).mp (e3.symm.trans z)))
  · subst hs1
    obtain ⟨A, hA1, hA, eA⟩ := h1 e3
    obtain ⟨a, b, hb, hab, ea, eb⟩ := qo r d hr hd e3 e0
    have : A = a := (nI_eq (by omega) (by omega)).mp (eA.symm.trans ea)
    exact ⟨A, b, hA1, hA, eA, eb, hb, by omega⟩
theorem sEx_iff {v : Nat → Int32} {d r s L W p : Nat} (e3 : v (147 + 7 * r + 3) = nI s) (hs : s ≤ 5) (eL : sLeft v d = nI L) (hL : L ≤ 999) (hW : W < 2 ^ 31) (eW : v 5 = nI W) (hp : p ≤ 20) (ep : v (27 + 12 * d + 1) = nI p) (hx : sOf v d (nI 2) (nI 2) ≤ 60) : sEx v r d = (decide (s = 0) && (decide (1 ≤ L) && decide (L ≤ W) && decide (sOf v d (nI 2) (nI 2) < p))) := by
  unfold sEx zIn
  rw [e3, eL, eW, ep]
  have a1 : decide (nI s = 0) = decide (s = 0) := decide_eq_decide.mpr (nI_eq (b := 0) (by omega) (by omega))
  have a2 : decide (nI 1 ≤ nI L) = decide (1 ≤ L) := decide_eq_decide.mpr (nI_leI (by omega) (by omega))
  have a3 : decide (nI L ≤ nI W) = decide (L ≤ W) := decide_eq_decide.mpr (nI_leI (by omega) hW)
  have a4 : decide (nI (sOf v d (nI 2) (nI 2)) < nI p) = decide (sOf v d (nI 2) (nI 2) < p) := decide_eq_decide.mpr (nI_ltI (by omega) (by omega))
  rw [a1, a2, a3, a4]
theorem sEx_no {v : Nat → Int32} {d r s : Nat} (e3 : v (147 + 7 * r + 3) = nI s) (hs : s ≤ 5) (h0 : s ≠ 0) : sEx v r d = false := by
  unfold sEx
  rw [e3, decide_eq_false (fun z : nI s = 0 => h0 ((nI_eq (b := 0) (by omega) (by omega)).mp z))]; rfl
