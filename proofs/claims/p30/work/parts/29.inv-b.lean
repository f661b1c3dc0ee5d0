/-! ===== what is kept: a day ===== -/
theorem zH.w0 {v : Nat → Int32} {d : Nat} (hH : zH v) (hd : d < 10) : zH (upd v (27 + 12 * d + 5) (nI 0)) := by
  obtain ⟨a1, a2, ⟨a3, a4⟩, a5, a6, a7, a8⟩ := hH
  refine ⟨a1.w0 hd, by rw [upd_ne (by omega)]; exact a2, ⟨by rw [upd_ne (by omega)]; exact a3, fun i hi => by rw [upd_ne (by omega), upd_ne (by omega)]; exact a4 i hi⟩, fun d' h' => ?_, fun q h' => ?_, fun d' h' => ?_, by rw [upd_ne (by omega)]; exact a8⟩
  · rw [nD_of (upd_ne (by omega))] at h'
    have h10 := a1.1.2
    unfold zHt
    rw [upd_ne (by omega), upd_ne (by omega), upd_ne (by omega), upd_ne (by omega), upd_ne (by omega)]
    exact a5 d' h'
  · rw [nR_of (upd_ne (by omega))] at h'
    have h60 := a1.2.1.2
    unfold zHr
    rw [upd_ne (by omega), upd_ne (by omega), upd_ne (by omega)]
    exact a6 q h'
  · intro n i j e5 hn hi hj
    by_cases e : d' = d
    · subst e
      rw [upd_eq] at e5
      have : 0 = n := (nI_eq (by omega) (by omega)).mp e5
      omega
    · rw [upd_ne (by omega)] at e5
      rw [upd_ne (by omega), upd_ne (by omega)]
      exact a7 d' h' n i j e5 hn hi hj
theorem zH.day0 {v : Nat → Int32} {t : Nat} (hH : zH v) (e : v 0 = nI t) (ht : t < 9999) : zH (sDay0 v) := by
  obtain ⟨a1, a2, ⟨a3, a4⟩, a5, a6, a7, a8⟩ := hH
  unfold sDay0
  refine ⟨a1.day0, ⟨t + 1, by omega, by rw [upd_eq, e, nI_add]⟩, ⟨by rw [upd_ne (by omega)]; exact a3, fun i hi => by rw [upd_ne (by omega), upd_ne (by omega)]; exact a4 i hi⟩, fun d' h' => ?_, fun q h' => ?_, fun d' h' => ?_, by rw [upd_ne (by omega)]; exact a8⟩
  · rw [nD_of (upd_ne (by omega))] at h'
    unfold zHt
    rw [upd_ne (by omega), upd_ne (by omega), upd_ne (by omega), upd_ne (by omega), upd_ne (by omega)]
    exact a5 d' h'
  · rw [nR_of (upd_ne (by omega))] at h'
    unfold zHr
    rw [upd_ne (by omega), upd_ne (by omega), upd_ne (by omega)]
    exact a6 q h'
  · intro n i j e5 hn hi hj
    rw [upd_ne (by omega)] at e5
    rw [upd_ne (by omega), upd_ne (by omega)]
    exact a7 d' h' n i j e5 hn hi hj
theorem sLap_H {v : Nat → Int32} {d : Nat} (hH : zH v) : ∀ (i n : Nat) (u : Nat → Int32), sLap v d i = (n, u) → zH u
  | 0, n, u, h => by cases h; exact hH
  | i + 1, n, u, h => by
    unfold sLap at h
    cases hq : sLap v d i with
    | mk n1 u1 =>
      rw [hq] at h
      have a := sLap_H hH i n1 u1 hq
      by_cases q : u1 (147 + 7 * i + 0) = nI d ∧ u1 (147 + 7 * i + 3) < nI 2
      · simp only [if_pos q] at h
        cases h
        exact (a.bec (by omega) (by omega)).log
      · simp only [if_neg q] at h
        cases h
        exact a
theorem sLap_sp {v : Nat → Int32} {d : Nat} : ∀ (i n : Nat) (u : Nat → Int32), i ≤ 60 → sLap v d i = (n, u) → (∀ r, r < 60 → u (147 + 7 * r + 0) = v (147 + 7 * r + 0) ∧ (u (147 + 7 * r + 3) < nI 2 → v (147 + 7 * r + 3) < nI 2 ∧ (r < i → ¬ v (147 + 7 * r + 0) = nI d))) ∧ (∀ e, e < 10 → u (27 + 12 * e + 0) = v (27 + 12 * e + 0)) ∧ u 0 = v 0
  | 0, n, u, _, h => by cases h; exact ⟨fun r hr => ⟨rfl, fun q => ⟨q, fun z => by omega⟩⟩, fun e he => rfl, rfl⟩
  | i + 1, n, u, hi, h => by
    unfold sLap at h
    cases hq : sLap v d i with
    | mk n1 u1 =>
      rw [hq] at h
      obtain ⟨a, b, c⟩ := sLap_sp i n1 u1 (by omega) hq
      by_cases q : u1 (147 + 7 * i + 0) = nI d ∧ u1 (147 + 7 * i + 3) < nI 2
      · simp only [if_pos q] at h
        cases h
        refine ⟨fun r hr => ?_, fun e he => ?_, ?_⟩
        · obtain ⟨a1, a2⟩ := a r hr
          rw [sLog_at (by omega) (by omega), sBec_at (by omega) (by omega), sLog_at (by omega) (by omega)]
          refine ⟨a1, fun z => ?_⟩
          by_cases e : r = i
          · subst e
            rw [sBec_sta, sSta_3] at z
            exact absurd z (by decide)
          · rw [sBec_at (by omega) (by omega)] at z
            exact ⟨(a2 z).1, fun w => (a2 z).2 (by omega)⟩
        · rw [sLog_at (by omega) (by omega), sBec_at (by omega) (by omega)]; exact b e he
        · rw [sLog_at (by omega) (by omega), sBec_at (by omega) (by omega)]; exact c
      · simp only [if_neg q] at h
        cases h
        refine ⟨fun r hr => ?_, b, c⟩
        obtain ⟨a1, a2⟩ := a r hr
        refine ⟨a1, fun z => ⟨(a2 z).1, fun w => ?_⟩⟩
        by_cases e : r = i
        · subst e
          intro z2
          exact q ⟨by rw [a1]; exact z2, z⟩
        · exact (a2 z).2 (by omega)
theorem sLapses_H {v : Nat → Int32} {d : Nat} (hH : zH v) (hd : d < 10) : zH (sLapses v d).2 := by
  unfold sLapses
  cases hq : sLap v d (nR v) with
  | mk n u => exact (sLap_H hH _ n u hq).w0 hd
theorem sLapses_sp {v : Nat → Int32} {d : Nat} (hH : zH v) (hd : d < 10) : (∀ r, r < nR v → (sLapses v d).2 (147 + 7 * r + 0) = v (147 + 7 * r + 0) ∧ ((sLapses v d).2 (147 + 7 * r + 3) < nI 2 → v (147 + 7 * r + 3) < nI 2 ∧ ¬ v (147 + 7 * r + 0) = nI d)) ∧ (∀ e, e < 10 → (sLapses v d).2 (27 + 12 * e + 0) = v (27 + 12 * e + 0)) ∧ (sLapses v d).2 0 = v 0 := by
  have h60 := hH.1.2.1.2
  unfold sLapses
  cases hq : sLap v d (nR v) with
  | mk n u =>
    obtain ⟨a, b, c⟩ := sLap_sp _ n u h60 hq
    refine ⟨fun r hr => ?_, fun e he => ?_, ?_⟩
    · show upd u (27 + 12 * d + 5) (nI 0) (147 + 7 * r + 0) = v (147 + 7 * r + 0) ∧ (upd u (27 + 12 * d + 5) (nI 0) (147 + 7 * r + 3) < nI 2 → _)
      rw [upd_ne (by omega), upd_ne (by omega)]
      obtain ⟨a1, a2⟩ := a r (by omega)
      exact ⟨a1, fun z => ⟨(a2 z).1, (a2 z).2 hr⟩⟩
    · show upd u (27 + 12 * d + 5) (nI 0) (27 + 12 * e + 0) = v (27 + 12 * e + 0)
      rw [upd_ne (by omega)]; exact b e he
    · show upd u (27 + 12 * d + 5) (nI 0) 0 = v 0
      rw [upd_ne (by omega)]; exact c
/-- free rights are of dates that are not past, and of those before i only of open dates -/
def zOi (i : Nat) (v : Nat → Int32) : Prop := ∀ r d, r < nR v → v (147 + 7 * r + 3) < nI 2 → v (147 + 7 * r + 0) = nI d → d < nD v → v 0 ≤ v (27 + 12 * d + 0) ∧ (d < i → v 0 < v (27 + 12 * d + 0))
theorem sD1_H {v : Nat → Int32} (hH : zH v) (hO : zOi 0 v) : ∀ (i n : Nat) (u : Nat → Int32), i ≤ nD v → sD1 v i = (n, u) → zH u ∧ zOi i u ∧ u 0 = v 0 ∧ nD u = nD v
  | 0, n, u, _, h => by cases h; exact ⟨hH, hO, rfl, rfl⟩
  | i + 1, n, u, hi, h => by
    have h10 := hH.1.1.2
    unfold sD1 at h
    cases hq : sD1 v i with
    | mk n1 u1 =>
      rw [hq] at h
      obtain ⟨a, b, c, eD⟩ := sD1_H hH hO i n1 u1 (by omega) hq
      have h60 := a.1.2.1.2
      by_cases q : sLeft u1 i = 0
      · simp only [if_pos q] at h
        cases h
        obtain ⟨z1, z2, z3⟩ := sLapses_nn (d := i) a.1 (by omega)
        obtain ⟨y1, y2, y3⟩ := sLapses_sp (d := i) a (by omega)
        refine ⟨sLapses_H a (by omega), fun r d hr h3 h0 hd => ?_, y3.trans c, (nD_of z3).trans eD⟩
        rw [nR_of z2] at hr
        rw [nD_of z3, eD] at hd
        obtain ⟨x1, x2⟩ := y1 r hr
        rw [x1] at h0
        obtain ⟨w1, w2⟩ := x2 h3
        rw [y3, y2 d (by omega)]
        obtain ⟨b1, b2⟩ := b r d hr w1 h0 (by omega)
        refine ⟨b1, fun hdi => ?_⟩
        by_cases e : d = i
        · subst e; exact absurd h0 w2
        · exact b2 (by omega)
      · simp only [if_neg q] at h
        cases h
        refine ⟨a, fun r d hr h3 h0 hd => ?_, c, eD⟩
        obtain ⟨b1, b2⟩ := b r d hr h3 h0 hd
        refine ⟨b1, fun hdi => ?_⟩
        by_cases e : d = i
        · subst e
          rw [Int32.lt_iff_toInt_lt]
          rw [Int32.le_iff_toInt_le] at b1
          rcases Int.lt_or_eq_of_le b1 with z | z
          · exact z
          · exact absurd (show sLeft _ d = 0 by unfold sLeft; rw [Int32.toInt_inj.mp z]; simp) q
        · exact b2 (by omega)
theorem sCov_H {d : Nat} : ∀ (n : Nat) (s : Int32) (v : Nat → Int32), zH v → zH (sCov d n s v).2 ∧ (zOp v → zOp (sCov d n s v).2) ∧ (sCov d n s v).2 0 = v 0
  | 0, s, v, hH => ⟨hH, fun h => h, rfl⟩
  | n + 1, s, v, hH => by
    unfold sCov
    by_cases q : v (27 + 12 * d + 1) < nI (sOut v d) ∧ 0 < nI (sOf v d (nI 0) (nI 1))
    · rw [if_pos q]
      have hc : 0 < sOf v d (nI 0) (nI 1) := by
        rcases Nat.eq_zero_or_pos (sOf v d (nI 0) (nI 1)) with z | z
        · rw [z] at q; exact absurd q.2 (by decide)
        · exact z
      obtain ⟨hr, -, -⟩ := sCv_r hH.1 hc
      obtain ⟨-, g, hg, e1⟩ := hH.1.2.2.2.2 _ hr
      have h60 := hH.1.2.1.2
      unfold sCv1
      rw [e1, zn_nI (by omega)]
      have k1 := hH.pays (h := g) (c := -sCvC v d) hg
      have k2 : zH (sCv2 v (sCvR v d) g (sCvC v d)) := (k1.bec (r := sCvR v d) (q := 4) (by omega) (by omega)).log
      obtain ⟨z1, z2, z3⟩ := sCov_H n (s + sCvC v d) _ k2
      refine ⟨z1, fun hO => z2 ?_, z3.trans (sCv2_at hg (by omega) (by omega) (by omega) (by omega) (by omega) (by omega))⟩
      have o1 := hO.pays (c := -sCvC v d) hH.1 hg
      have o2 := o1.sta (r := sCvR v d) (s := nI 4) (a := -5) k1.1 (Or.inl (by decide))
      exact zOp.log o2 k1.1.sta
    · rw [if_neg q]; exact ⟨hH, fun h => h, rfl⟩
theorem sLB_no {v : Nat → Int32} {d : Nat} (ho : sOpen v d = false) : ∀ n, sLB d n v = v
  | 0 => rfl
  | n + 1 => by
    unfold sLB
    rw [if_neg (fun h => ?_)]
    unfold sCan at h
    rw [if_neg (fun q => by rw [ho] at q; exact absurd q.2 (by decide))] at h
    exact absurd h (by decide)
theorem sSells_R {v : Nat → Int32} {d h : Nat} (hK : zK v) (hR : nR v < 60) (hd : d < nD v) (hh : h < 10) : nR (sSells v h d) = nR v + 1 := by
  rw [← (hK.new (c := sPrice v d (sLeft v d)) hR hd hh).2]
  exact nR_of (by unfold sSells; rw [sLog_at (by omega) (by omega), sPays_at (by omega) (by omega)])
theorem sLB_H {d : Nat} : ∀ (n : Nat) (v : Nat → Int32), zH v → d < nD v → v (27 + 12 * d + 5) = nI n → n ≤ 6 → zH (sLB d n v) ∧ (zOp v → zOp (sLB d n v)) ∧ sLB d n v 0 = v 0 ∧ nR v ≤ nR (sLB d n v)
  | 0, v, hH, _, _, _ => ⟨hH, fun h => h, rfl, Nat.le_refl _⟩
  | n + 1, v, hH, hd, h5, hn => by
    have hK := hH.1
    have hd10 := hK.1.2
    unfold sLB
    by_cases hc : 0 < sCan v d
    · rw [if_pos hc]
      obtain ⟨hR, hop⟩ := sCan_pos hK.2.1 hc
      obtain ⟨n9, q1, q2, q3⟩ := hK.2.2.1 d (by omega)
      have en : n9 = n + 1 := (nI_eq (by omega) (by omega)).mp (q2.symm.trans h5)
      subst en
      obtain ⟨h, hh, e6⟩ := q3 0 (by omega)
      have e6 : v (27 + 12 * d + 6) = nI h := e6
      rw [e6, nI_clamp (by omega)]
      have hH1 := hH.drop (p := 0) (by omega) (by omega) (by omega) h5
      have hK1 := hH1.1
      have eR : nR (sDrop v d 0 (n + 1)) = nR v := nR_of (sDrop_at (by omega) (by omega) (by omega))
      have e1 : sDrop v d 0 (n + 1) 1 = v 1 := sDrop_at (by omega) (by omega) (by omega)
      have e0 : sDrop v d 0 (n + 1) 0 = v 0 := sDrop_at (by omega) (by omega) (by omega)
      have eD : nD (sDrop v d 0 (n + 1)) = nD v := nD_of e1
      have hop1 : sOpen (sDrop v d 0 (n + 1)) d = true := by unfold sOpen sLeft; rw [e0, sDrop_at (by omega) (by omega) (by omega)]; exact hop
      have hH2 := hH1.sells (d := d) (h := h) (by omega) (by omega) hh hop1
      have h5b : sSells (sDrop v d 0 (n + 1)) h d (27 + 12 * d + 5) = nI n := by rw [sSells_at (by omega) (by omega) (by omega) (by omega) (by omega)]; exact sDrop_5 (by omega) h5
      have e1b : sSells (sDrop v d 0 (n + 1)) h d 1 = v 1 := by rw [sSells_at (by omega) (by omega) (by omega) (by omega) (by omega)]; exact e1
      have e0b : sSells (sDrop v d 0 (n + 1)) h d 0 = v 0 := by rw [sSells_at (by omega) (by omega) (by omega) (by omega) (by omega)]; exact e0
      obtain ⟨z1, z2, z3, z4⟩ := sLB_H n _ hH2 (by rw [nD_of e1b]; exact hd) h5b (by omega)
      have eR2 := sSells_R (d := d) (h := h) hK1 (by omega) (by omega) hh
      refine ⟨z1, fun hO => z2 ?_, z3.trans e0b, by omega⟩
      exact (hO.drop hK (by omega) (by omega) (by omega)).sells hH1 (by omega) (by omega) hh hop1
    · rw [if_neg hc]; exact ⟨hH, fun h => h, rfl, Nat.le_refl _⟩
theorem sD2_H {v : Nat → Int32} (hH : zH v) (hO : zOp v) : ∀ (i : Nat), zH (sD2 v i) ∧ zOp (sD2 v i) ∧ sD2 v i 0 = v 0 ∧ nD (sD2 v i) = nD v
  | 0 => ⟨hH, hO, rfl, rfl⟩
  | i + 1 => by
    obtain ⟨a, b, c, e⟩ := sD2_H hH hO i
    unfold sD2
    by_cases q : sLeft (sD2 v i) i = sD2 v i 3
    · rw [if_pos q]
      obtain ⟨z1, z2, z3⟩ := sCov_H (d := i) (sOf (sD2 v i) i (nI 0) (nI 1)) (nI 0) _ a
      obtain ⟨-, y2, -⟩ := sCov_nn (d := i) (sOf (sD2 v i) i (nI 0) (nI 1)) (nI 0) _ a.1
      exact ⟨z1, z2 b, z3.trans c, (nD_of y2).trans e⟩
    · rw [if_neg q]; exact ⟨a, b, c, e⟩
theorem sD3_H {v : Nat → Int32} (hH : zH v) (hO : zOp v) : ∀ (i : Nat), i ≤ nD v → zH (sD3 v i) ∧ zOp (sD3 v i) ∧ sD3 v i 0 = v 0 ∧ nD (sD3 v i) = nD v
  | 0, _ => ⟨hH, hO, rfl, rfl⟩
  | i + 1, hi => by
    obtain ⟨a, b, c, e⟩ := sD3_H hH hO i (by omega)
    unfold sD3
    have h10 := hH.1.1.2
    obtain ⟨w, hw, h5, -⟩ := a.1.2.2.1 i (by omega)
    rw [h5, zn_nI (by omega)]
    obtain ⟨z1, z2, z3, z4⟩ := sLB_H w _ a (by omega) h5 hw
    obtain ⟨-, y2⟩ := sLB_nn w _ a.1 (by omega) h5 hw
    exact ⟨z1, z2 b, z3.trans c, (nD_of y2).trans e⟩
theorem sDay_H {v : Nat → Int32} {t : Nat} (hH : zH v) (hO : zOp v) (e : v 0 = nI t) (ht : t < 9999) : (zH (sDayA v).2 ∧ zOp (sDayA v).2 ∧ (sDayA v).2 0 = nI (t + 1) ∧ nD (sDayA v).2 = nD v) ∧ (zH (sDayB v) ∧ zOp (sDayB v) ∧ sDayB v 0 = nI (t + 1) ∧ nD (sDayB v) = nD v) ∧ zH (sDayC v) ∧ zOp (sDayC v) ∧ sDayC v 0 = nI (t + 1) ∧ nD (sDayC v) = nD v := by
  have e0 : sDay0 v 0 = nI (t + 1) := by unfold sDay0; rw [upd_eq, e, nI_add]
  have h0 : zOi 0 (sDay0 v) := by
    intro r d hr h3 hrd hd
    unfold sDay0 at *
    rw [nR_of (upd_ne (by omega))] at hr
    rw [nD_of (upd_ne (by omega))] at hd
    rw [upd_ne (by omega)] at h3 hrd
    have q := hO r d hr h3 hrd hd
    obtain ⟨a, ha1, ha, ea⟩ := (hH.2.2.2.1 d hd).1
    refine ⟨?_, fun z => by omega⟩
    rw [e0, upd_ne (by omega), ea]
    rw [e, ea] at q
    exact nI_le (by have := (nI_ltI (by omega) (by omega)).mp q; omega) (by omega)
  obtain ⟨a, b, c, f⟩ := sD1_H (hH.day0 e ht) h0 (nD v) (sDayA v).1 (sDayA v).2 (by rw [nD_day0]; omega) rfl
  have f := f.trans (nD_day0 v)
  have b : zOp (sDayA v).2 := fun r d h1 h2 h3 h4 => (b r d h1 h2 h3 h4).2 (by omega)
  have c := c.trans e0
  obtain ⟨a2, b2, c2, f2⟩ := sD2_H a b (nD v)
  obtain ⟨a3, b3, c3, f3⟩ := sD3_H a2 b2 (nD v) (by omega)
  exact ⟨⟨a, b, c, f⟩, ⟨a2, b2, c2.trans c, f2.trans f⟩, a3, b3, c3.trans (c2.trans c), f3.trans (f2.trans f)⟩
theorem sDays_H {v : Nat → Int32} {t : Nat} (hH : zH v) (hO : zOp v) (e : v 0 = nI t) : ∀ (i n : Nat) (u : Nat → Int32), t + i ≤ 9999 → sDays v i = (n, u) → zH u ∧ zOp u ∧ u 0 = nI (t + i)
  | 0, n, u, _, h => by cases h; exact ⟨hH, hO, e⟩
  | i + 1, n, u, hi, h => by
    unfold sDays at h
    cases hq : sDays v i with
    | mk n1 u1 =>
      rw [hq] at h
      obtain ⟨a, b, c⟩ := sDays_H hH hO e i n1 u1 (by omega) hq
      cases h
      obtain ⟨-, -, z1, z2, z3, -⟩ := sDay_H a b c (by omega)
      exact ⟨z1, z2, z3⟩
/-! covering, as the class counts -/
theorem kNx_some {v : Nat → Int32} {d r : Nat} (h : kNx v d = some r) : r < nR v ∧ v (147 + 7 * r + 0) = nI d ∧ zIn (v (147 + 7 * r + 3)) (nI 0) (nI 1) = true ∧ sCvR v d = r ∧ sCvC v d = (if v (147 + 7 * r + 3) = nI 1 then v (147 + 7 * r + 4) else v (147 + 7 * r + 2) * nI 3 / nI 2) := by
  unfold kNx at h
  cases h1 : sLow v d (nI 1) 4 (nR v) with
  | some b =>
    rw [h1] at h
    cases h
    obtain ⟨a, b', c⟩ := sLow_spec h1
    exact ⟨a, b', by rw [c]; decide, by unfold sCvR; rw [h1], by unfold sCvC; rw [h1, if_pos c]⟩
  | none =>
    rw [h1] at h
    have h2 : sLow v d (nI 0) 2 (nR v) = some r := h
    obtain ⟨a, b', c⟩ := sLow_spec h2
    have eR : sCvR v d = r := by unfold sCvR; rw [h1, h2]
    exact ⟨a, b', by rw [c]; decide, eR, by unfold sCvC; rw [h1, eR, if_neg (by rw [c]; decide)]⟩
theorem kNx_none {v : Nat → Int32} {d : Nat} (h : kNx v d = none) : ¬ 0 < sOf v d (nI 0) (nI 1) := by
  intro hc
  unfold kNx at h
  cases h1 : sLow v d (nI 1) 4 (nR v) with
  | some b => rw [h1] at h; cases h
  | none =>
    rw [h1] at h
    obtain ⟨r, h2⟩ := sLow_ex hc h1
    have h : sLow v d (nI 0) 2 (nR v) = none := h
    rw [h2] at h; cases h
theorem sCv2_out {v : Nat → Int32} {d r g : Nat} {c : Int32} (hJ : zJ2 v) (hr : r < nR v) (hg : g < 10) (h0 : v (147 + 7 * r + 0) = nI d) (h3 : zIn (v (147 + 7 * r + 3)) (nI 0) (nI 1) = true) : sOut v d = sOut (sCv2 v r g c) d + 1 := by
  have h60 := hJ.2
  unfold sOut sOf
  rw [nR_of (w := sCv2 v r g c) (v := v) (sCv2_at hg (by omega) (by omega) (by omega) (by omega) (by omega) (by omega))]
  exact sCnt_dec h0 (by rcases zIn01 h3 with e | e <;> (rw [e]; decide)) (by rw [sCv2_3 (by omega)]; decide) hr (fun j hj hne => ⟨sCv2_at hg (by omega) (by omega) (by omega) (by omega) (by omega) (by omega), sCv2_at hg (by omega) (by omega) (by omega) (by omega) (by omega) (by omega)⟩)
theorem nI_lt_sub {i a b : Nat} (hi : i < 2 ^ 29) (ha : a < 2 ^ 29) (hb : b < 2 ^ 29) : nI i < nI a - nI b ↔ b + i < a := by
  rw [Int32.lt_iff_toInt_lt, Int32.toInt_sub, nI_toInt (by omega), nI_toInt (by omega), nI_toInt (by omega)]
  rw [Int.bmod_eq_of_le (by omega) (by omega)]
  omega
theorem zH.cv2 {v : Nat → Int32} {r g : Nat} {c : Int32} (hH : zH v) (hg : g < 10) : zH (sCv2 v r g c) := ((hH.pays hg).bec (q := 4) (by omega) (by omega)).log
