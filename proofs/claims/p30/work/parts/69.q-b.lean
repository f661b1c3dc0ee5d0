theorem q4.buy {v : Nat → Int32} (hI : zI v) (hq : q4 v) (x y : Int32) : q4 (sDoBuy v x y).2 := by
  unfold sDoBuy
  split
  · rename_i c
    obtain ⟨h, hh, rfl⟩ := zIn_nI (by omega) c.1
    obtain ⟨d, hd, rfl⟩ := zDt hI.1.1 c.2
    have h10 := hI.1.1.1.2
    rw [zn_nI (by omega), zn_nI (by omega)]
    split
    · split
      · exact hq
      · rename_i ho hc
        obtain ⟨hR, -⟩ := sCan_pos hI.1.1.2.1 (sCan_ne hc)
        exact hq.sells hI.1.1 hR hd (by omega)
    · exact hq
  · exact hq
theorem q4.off {v : Nat → Int32} (hI : zI v) (hq : q4 v) (x y : Int32) : q4 (sDoOff v x y).2 := by
  unfold sDoOff
  split
  · rename_i c
    obtain ⟨h, hh, rfl⟩ := zIn_nI (by omega) c.1
    obtain ⟨d, hd, rfl⟩ := zDt hI.1.1 c.2
    have h10 := hI.1.1.1.2
    rw [zn_nI (by omega), zn_nI (by omega)]
    split
    · exact hq
    · rename_i r hL
      split
      · exact hq
      · obtain ⟨hr, h0, h3⟩ := sLow_spec hL
        obtain ⟨-, g, hg, e1⟩ := hI.1.1.2.2.2.2 r hr
        have h60 := hI.1.1.2.1.2
        rw [e1, zn_nI (by omega)]
        have i0 := hI.pays (c := v (147 + 7 * r + 4)) (h := h) (by omega)
        have i1 := i0.pays (c := v (147 + 7 * r + 4) * v 4 / nI 100 - v (147 + 7 * r + 4)) hg
        have i2 : zI (sOff2 v r h g) := i1.own (r := r) (h := h) (by rw [nR_of (w := sPays (sPays v h (v (147 + 7 * r + 4))) g (v (147 + 7 * r + 4) * v 4 / nI 100 - v (147 + 7 * r + 4))) (v := v) (by rw [sPays_at (by omega) (by omega), sPays_at (by omega) (by omega)])]; exact hr) (by omega)
        have i3 := i2.six (r := r) (x := sOff2 v r h g (147 + 7 * r + 6) + nI 1)
        have q1 := (hq.pays (c := v (147 + 7 * r + 4)) (h := h) hI.jj (by omega)).pays (c := v (147 + 7 * r + 4) * v 4 / nI 100 - v (147 + 7 * r + 4)) i0.jj hg
        have q2 : q4 (sOff2 v r h g) := q1.rgt i1.jj (by omega) (Or.inl rfl)
        have q3 := q2.rgt (r := r) (k := 6) (x := sOff2 v r h g (147 + 7 * r + 6) + nI 1) i2.jj (by omega) (Or.inr rfl)
        unfold sOff
        have k1 : zK (sBec (upd (sOff2 v r h g) (147 + 7 * r + 6) (sOff2 v r h g (147 + 7 * r + 6) + nI 1)) r (nI 0)) := i3.1.1.bec
        exact (q3.bec (q := 0) i3.jj (by omega) (by omega) (by omega)).log ⟨k1.1, k1.2.1⟩
  · exact hq
theorem q4.can {v : Nat → Int32} (hI : zI v) (hq : q4 v) (x : Int32) : q4 (sDoCan v x).2 := by
  unfold sDoCan
  split
  · rename_i c
    obtain ⟨r, d, g, hr, rfl, hd, e0, hg, e1⟩ := zRt hI.1.1 c
    have h60 := hI.1.1.2.1.2
    have h10 := hI.1.1.1.2
    obtain ⟨n, hn, e5, -⟩ := hI.1.1.2.2.1 d (by omega)
    rw [zn_nI (show r < 2 ^ 31 by omega), e0, e1, zn_nI (show d < 2 ^ 31 by omega), zn_nI (show g < 2 ^ 31 by omega), e5, zn_nI (show n < 2 ^ 31 by omega)]
    split
    · have i0 := hI.pays (c := -sRef v r d) hg
      have i1 : zI (sCan1 v r d g) := (i0.bec (r := r) (q := 3) (by omega) (by omega) (Or.inl (by decide))).log
      have a1 : sCan1 v r d g 1 = v 1 := by unfold sCan1; rw [sLog_at (by omega) (by omega), sBec_at (by omega) (by omega), sPays_at (by omega) (by omega)]
      have a5 : sCan1 v r d g (27 + 12 * d + 5) = nI n := by unfold sCan1; rw [sLog_at (by omega) (by omega), sBec_at (by omega) (by omega), sPays_at (by omega) (by omega)]; exact e5
      have k2 : zK (sBec (sPays v g (-sRef v r d)) r (nI 3)) := i0.1.1.bec
      have q1 : q4 (sCan1 v r d g) := ((hq.pays (c := -sRef v r d) hI.jj hg).bec (r := r) (q := 3) i0.jj (by omega) (by omega) (by omega)).log ⟨k2.1, k2.2.1⟩
      exact q4.lb n _ q1 i1.1 (by rw [nD_of a1]; exact hd) a5 hn
    · exact hq
  · exact hq
theorem q4.sta1 {v : Nat → Int32} {r d q b : Nat} (hq : q4 v) (hI : zI v) (hr : r < nR v) (hd : d < nD v) (e0 : v (147 + 7 * r + 0) = nI d) (eb : v (27 + 12 * d + 3) = nI b) (hb : b ≤ 9999) (hqb : q ≤ 2 * b) : q4 (sSta v r (nI 1) (nI q)) := by
  have h60 := hI.1.1.2.1.2
  have h10 := hI.1.1.1.2
  obtain ⟨⟨a, e, o⟩, L⟩ := hq
  have e1 : sSta v r (nI 1) (nI q) 1 = v 1 := sSta_at (by omega) (by omega)
  have e2 : sSta v r (nI 1) (nI q) 2 = v 2 := sSta_at (by omega) (by omega)
  refine ⟨⟨aSum_sta.trans a, fun f hf x hx ex => ?_, fun k f hk hf z3 z0 => ?_⟩, L.sta hI.1.1.1⟩
  · rw [nD_of e1] at hf
    rw [sSta_at (by omega) (by omega)] at ex
    refine Nat.le_trans ?_ (e f hf x hx ex)
    unfold sOf
    rw [nR_of e2]
    refine sCnt_mono (fun k hk => ⟨sSta_at (by omega) (by omega), fun z => ?_⟩)
    by_cases w : k = r
    · subst w
      rw [sSta_3] at z
      exact absurd z (by decide)
    · rw [sSta_at (by omega) (by omega)] at z; exact z
  · rw [nD_of e1] at hf
    rw [nR_of e2] at hk
    rw [sSta_at (j := 27 + 12 * f + 3) (by omega) (by omega)]
    by_cases w : k = r
    · subst w
      rw [sSta_at (by omega) (by omega)] at z0
      have : d = f := (nI_eq (by omega) (by omega)).mp (e0.symm.trans z0)
      subst this
      rw [sSta_4]
      exact ⟨q, b, hb, hqb, rfl, eb⟩
    · rw [sSta_at (by omega) (by omega)] at z3 z0
      rw [sSta_at (by omega) (by omega)]
      exact o k f hk hf z3 z0
theorem q4.ofr {v : Nat → Int32} (hI : zI v) (hq : q4 v) (x p : Int32) : q4 (sDoOfr v x p).2 := by
  unfold sDoOfr
  split
  · rename_i c
    obtain ⟨r, d, g, hr, rfl, hd, e0, hg, e1⟩ := zRt hI.1.1 c
    have h60 := hI.1.1.2.1.2
    have h10 := hI.1.1.1.2
    obtain ⟨-, -, -, ⟨b, hb1, hb, eb⟩, -⟩ := hI.1.2.2.2.1 d hd
    rw [zn_nI (show r < 2 ^ 31 by omega), e0, zn_nI (show d < 2 ^ 31 by omega), eb, nI_mul]
    split
    · rename_i c3
      split
      · rename_i cp
        obtain ⟨q, hq1, hqb, rfl⟩ := zIn_ab (by omega) (by omega) cp
        split
        · exact hq
        · have k1 : zK (sSta v r (nI 1) (nI q)) := hI.1.1.sta
          exact (hq.sta1 hI hr hd e0 eb hb hqb).log ⟨k1.1, k1.2.1⟩
      · exact hq
    · exact hq
  · exact hq
theorem sCnt_not {v w : Nat → Int32} {e r : Nat} {lo hi : Int32} (hne : ¬ v (147 + 7 * r + 0) = nI e) : ∀ {n : Nat}, (∀ k, k < n → w (147 + 7 * k + 0) = v (147 + 7 * k + 0) ∧ (k ≠ r → w (147 + 7 * k + 3) = v (147 + 7 * k + 3))) → sCnt w e lo hi n = sCnt v e lo hi n
  | 0, _ => rfl
  | n + 1, h => by
    unfold sCnt
    rw [sCnt_not hne (fun k hk => h k (by omega)), (h n (by omega)).1]
    by_cases q : n = r
    · subst q
      rw [if_neg (fun z => hne z.1), if_neg (fun z => hne z.1)]
    · rw [(h n (by omega)).2 q]
theorem sEx_st {v : Nat → Int32} {r d : Nat} (h : sEx v r d = true) : v (147 + 7 * r + 3) = nI 0 ∧ zIn (sLeft v d) (nI 1) (v 5) = true ∧ nI (sOf v d (nI 2) (nI 2)) < v (27 + 12 * d + 1) := by
  unfold sEx at h
  rw [Bool.and_eq_true, Bool.and_eq_true, decide_eq_true_eq, decide_eq_true_eq] at h
  exact h
theorem sEx1_at {v : Nat → Int32} {r g j : Nat} (hg : g < 10) (h7 : j ≠ 7) (h8 : j ≠ 8) (h1 : j < 17 ∨ 27 ≤ j) (h2 : j < 567) (h3 : j ≠ 147 + 7 * r + 3) (h4 : j ≠ 147 + 7 * r + 4) : sEx1 v r g j = v j := by
  unfold sEx1; rw [sLog_at h8 h2, sBec_at h3 h4, sPays_at h7 (by omega)]
theorem sEx1_3 {v : Nat → Int32} {r g : Nat} (hr : r < 60) : sEx1 v r g (147 + 7 * r + 3) = nI 2 := by
  unfold sEx1; rw [sLog_at (by omega) (by omega), sBec_sta, sSta_3]
theorem sEx1_cnt {v : Nat → Int32} {r d g : Nat} (hJ : zJ2 v) (hr : r < nR v) (hg : g < 10) (e0 : v (147 + 7 * r + 0) = nI d) (e3 : v (147 + 7 * r + 3) = nI 0) : sOf (sEx1 v r g) d (nI 2) (nI 2) = sOf v d (nI 2) (nI 2) + 1 := by
  have h60 := hJ.2
  unfold sOf
  rw [nR_of (w := sEx1 v r g) (v := v) (sEx1_at hg (by omega) (by omega) (by omega) (by omega) (by omega) (by omega))]
  exact sCnt_dec (r := r) (by rw [sEx1_at hg (by omega) (by omega) (by omega) (by omega) (by omega) (by omega)]; exact e0) (by rw [sEx1_3 (by omega)]; decide) (by rw [e3]; decide) hr (fun j hj hne => ⟨(sEx1_at hg (by omega) (by omega) (by omega) (by omega) (by omega) (by omega)).symm, (sEx1_at hg (by omega) (by omega) (by omega) (by omega) (by omega) (by omega)).symm⟩)
theorem q4.ex1 {v : Nat → Int32} {r d g : Nat} (hI : zI v) (hq : q4 v) (hr : r < nR v) (hd : d < nD v) (hg : g < 10) (e0 : v (147 + 7 * r + 0) = nI d) (hx : sEx v r d = true) : q4 (sEx1 v r g) := by
  have h60 := hI.1.1.2.1.2
  have h10 := hI.1.1.1.2
  obtain ⟨e3, -, hlt⟩ := sEx_st hx
  obtain ⟨⟨a, e, o⟩, L⟩ := hq
  have at_ : ∀ j, j ≠ 7 → j ≠ 8 → (j < 17 ∨ 27 ≤ j) → j < 567 → j ≠ 147 + 7 * r + 3 → j ≠ 147 + 7 * r + 4 → sEx1 v r g j = v j := fun j b c d e f h => sEx1_at hg b c d e f h
  have e1 : sEx1 v r g 1 = v 1 := at_ 1 (by omega) (by omega) (by omega) (by omega) (by omega) (by omega)
  have e2 : sEx1 v r g 2 = v 2 := at_ 2 (by omega) (by omega) (by omega) (by omega) (by omega) (by omega)
  refine ⟨⟨?_, fun f hf x hx ex => ?_, fun k f hk hf z3 z0 => ?_⟩, ?_⟩
  · show _ + _ = _
    unfold sEx1
    rw [sLog_at (by omega) (by omega), aSum_of (v := sBec (sPays v g (v 6)) r (nI 2)) (fun h hh => sLog_at (by omega) (by omega)), sBec_sta, aSum_sta, qA_pays hg]
    exact a
  · rw [nD_of e1] at hf
    rw [at_ _ (by omega) (by omega) (by omega) (by omega) (by omega) (by omega)] at ex
    by_cases w : f = d
    · subst w
      rw [sEx1_cnt hI.1.1.2.1 hr hg e0 e3]
      rw [ex] at hlt
      have hc : sOf v f (nI 2) (nI 2) ≤ 60 := Nat.le_trans sCnt_le h60
      exact (nI_ltI (by omega) (by omega)).mp hlt
    · refine Nat.le_trans (Nat.le_of_eq ?_) (e f hf x hx ex)
      unfold sOf
      rw [nR_of e2]
      exact sCnt_not (r := r) (fun z => w ((nI_eq (by omega) (by omega)).mp (e0.symm.trans z)).symm) (fun k hk => ⟨at_ _ (by omega) (by omega) (by omega) (by omega) (by omega) (by omega), fun hne => at_ _ (by omega) (by omega) (by omega) (by omega) (by omega) (by omega)⟩)
  · rw [nD_of e1] at hf
    rw [nR_of e2] at hk
    by_cases w : k = r
    · subst w
      rw [sEx1_3 (by omega)] at z3
      exact absurd z3 (by decide)
    · rw [at_ _ (by omega) (by omega) (by omega) (by omega) (by omega) (by omega)] at z3 z0
      rw [at_ _ (by omega) (by omega) (by omega) (by omega) (by omega) (by omega), at_ _ (by omega) (by omega) (by omega) (by omega) (by omega) (by omega)]
      exact o k f hk hf z3 z0
  · exact L.of hI.1.1.1 (at_ _ (by omega) (by omega) (by omega) (by omega) (by omega) (by omega)) e1 (fun f hf => ⟨at_ _ (by omega) (by omega) (by omega) (by omega) (by omega) (by omega), Or.inl (at_ _ (by omega) (by omega) (by omega) (by omega) (by omega) (by omega))⟩)
theorem q4.ex {v : Nat → Int32} (hI : zI v) (hq : q4 v) (x : Int32) : q4 (sDoEx v x).2 := by
  unfold sDoEx
  split
  · rename_i c
    obtain ⟨r, d, g, hr, rfl, hd, e0, hg, e1⟩ := zRt hI.1.1 c
    have h60 := hI.1.1.2.1.2
    have h10 := hI.1.1.1.2
    rw [zn_nI (show r < 2 ^ 31 by omega), e0, e1, zn_nI (show d < 2 ^ 31 by omega), zn_nI (show g < 2 ^ 31 by omega)]
    split
    · rename_i hx
      exact hq.ex1 hI hr hd hg e0 hx
    · exact hq
  · exact hq
theorem q4.tk {v : Nat → Int32} (hI : zI v) (hq : q4 v) (x : Int32) : q4 (sTk v x).2.1 := by
  unfold sTk
  split
  · rename_i c
    obtain ⟨r, d, g, hr, rfl, -⟩ := zRt hI.1.1 c
    have h60 := hI.1.1.2.1.2
    rw [zn_nI (show r < 2 ^ 31 by omega)]
    split
    · exact hq.bec (q := 0) hI.jj (by omega) (by omega) (by omega)
    · exact hq
  · exact hq
theorem q4.aw {v : Nat → Int32} (hI : zI v) (hq : q4 v) (x y : Int32) : q4 (sAw v x y).2.1 := by
  unfold sAw
  split
  · rename_i c
    obtain ⟨h, hh, rfl⟩ := zIn_nI (by omega) c.1
    obtain ⟨d, hd, rfl⟩ := zDt hI.1.1 c.2
    have h10 := hI.1.1.1.2
    obtain ⟨n, hn, e5, -⟩ := hI.1.1.2.2.1 d (by omega)
    rw [zn_nI (show d < 2 ^ 31 by omega), e5, zn_nI (show n < 2 ^ 31 by omega)]
    split
    · rename_i c2
      split
      · exact hq
      · rename_i c6
        have hn6 : n < 6 := by
          rcases Nat.lt_or_eq_of_le hn with z | z
          · exact z
          · exact absurd (by rw [z]) c6
        have ho := c2.1
        rw [hI.1.opn hd, decide_eq_true_eq] at ho
        have at_ : ∀ j, j ≠ 27 + 12 * d + (6 + n) → j ≠ 27 + 12 * d + 5 → sAw1 v d n (nI h) j = v j := fun j a b => by unfold sAw1; rw [upd_ne b, upd_ne a]
        show q4 (sAw1 v d n (nI h))
        refine ⟨hq.1.of hI.jj (at_ _ (by omega) (by omega)) (at_ _ (by omega) (by omega)) (by rw [at_ 7 (by omega) (by omega), aSum_of (fun g hg => at_ _ (by omega) (by omega))]) (fun e a => ⟨at_ _ (by omega) (by omega), at_ _ (by omega) (by omega)⟩) (fun r a => ⟨at_ _ (by omega) (by omega), fun z => by rw [at_ _ (by omega) (by omega)] at z; exact z, fun z => by rw [at_ _ (by omega) (by omega)] at z; exact ⟨z, at_ _ (by omega) (by omega)⟩⟩), ?_⟩
        refine hq.2.of hI.1.1.1 (at_ _ (by omega) (by omega)) (at_ _ (by omega) (by omega)) (fun e a => ⟨at_ _ (by omega) (by omega), ?_⟩)
        by_cases w : e = d
        · subst w; exact Or.inr (Or.inr ho)
        · exact Or.inl (at_ _ (by omega) (by omega))
    · exact hq
  · exact hq
theorem q4.lv {v : Nat → Int32} (hI : zI v) (hq : q4 v) (x y : Int32) : q4 (sLv v x y).2.1 := by
  unfold sLv
  split
  · rename_i c
    obtain ⟨d, hd, rfl⟩ := zDt hI.1.1 c.2
    have h10 := hI.1.1.1.2
    obtain ⟨n, hn, e5, -⟩ := hI.1.1.2.2.1 d (by omega)
    rw [zn_nI (show d < 2 ^ 31 by omega), e5, zn_nI (show n < 2 ^ 31 by omega)]
    split
    · exact hq
    · rename_i c2
      obtain ⟨p, hp, ep⟩ := sPl_nn c2 hn
      rw [ep, zn_nI (by omega)]
      exact hq.drop hI.jj hd hn hp e5
  · exact hq
theorem q4.pass {v : Nat → Int32} (hI : zI v) (hq : q4 v) (x : Int32) : q4 (sPass v x).2.1 := by
  unfold sPass
  split
  · rename_i c
    obtain ⟨k, hk1, hk, rfl⟩ := zIn_ab (by omega) (by omega) c
    obtain ⟨t, ht, et⟩ := hI.1.2.1
    split
    · rename_i c2
      rw [et, nI_add] at c2
      have c3 := (nI_leI (by omega) (by omega)).mp c2
      rw [zn_nI (by omega)]
      exact q4.days hq hI.1 hI.2 et k _ _ c3 rfl
    · exact hq
  · exact hq
theorem q4.set {v : Nat → Int32} (hI : zI v) (hq : q4 v) (x y : Int32) : q4 (sSet v x y).2.1 := by
  unfold sSet
  split
  · rename_i c
    obtain ⟨k, hk, rfl⟩ := zIn_nI (by omega) c
    rw [zn_nI (by omega)]
    split
    · split
      · exact hq
      · exact hq.num hI.jj (fun j hj => upd_ne (by omega))
    · exact hq
  · exact hq
theorem q4.st {v : Nat → Int32} (hI : zI v) (hq : q4 v) (x y z : Int32) : q4 (sSt v x y z).2.1 := by
  unfold sSt
  split
  · rename_i c
    obtain ⟨k, hk, rfl⟩ := zIn_nI (by omega) c
    rw [zn_nI (by omega)]
    split
    · split
      · exact hq
      · show q4 (upd (upd v (9 + 2 * k) y) (9 + 2 * k + 1) z)
        exact hq.num hI.jj (fun j hj => by rw [upd_ne (by omega), upd_ne (by omega)])
    · exact hq
  · exact hq
theorem q4.add {v : Nat → Int32} (hI : zI v) (hq : q4 v) (a b c e f : Int32) : q4 (sAdd v a b c e f).2.1 := by
  unfold sAdd
  split
  · split
    · exact hq
    · rename_i h10
      obtain ⟨b1, b2, b3, b4, b5⟩ := hI.1.1
      have hD : nD v < 10 := by
        rcases Nat.lt_or_eq_of_le b1.2 with z | z
        · exact z
        · exact absurd (by rw [b1.1, z]) h10
      have h60 := b2.2
      have w1 : sAdd1 v (nD v) a b c e f 1 = v 1 := by unfold sAdd1; rw [upd_ne (by omega), upd_ne (by omega), upd_ne (by omega), upd_ne (by omega), upd_ne (by omega), upd_ne (by omega)]
      show q4 (upd (sAdd1 v (nD v) a b c e f) 1 (sAdd1 v (nD v) a b c e f 1 + nI 1))
      generalize hw : upd (sAdd1 v (nD v) a b c e f) 1 (sAdd1 v (nD v) a b c e f 1 + nI 1) = w
      have at_ : ∀ j, (j < 27 + 12 * nD v ∨ 27 + 12 * nD v + 6 ≤ j) → j ≠ 1 → w j = v j := fun j hj h1 => by
        rw [← hw, upd_ne h1]; unfold sAdd1
        rw [upd_ne (by omega), upd_ne (by omega), upd_ne (by omega), upd_ne (by omega), upd_ne (by omega), upd_ne (by omega)]
      have z1 : w 1 = nI (nD v + 1) := by rw [← hw, upd_eq, w1, b1.1, nI_add]
      have zd : nD w = nD v + 1 := by show (w 1).toNatClampNeg = _; rw [z1]; exact nI_clamp (by omega)
      have y5 : w (27 + 12 * nD v + 5) = nI 0 := by rw [← hw]; unfold sAdd1; rw [upd_ne (by omega), upd_eq]
      have e2 := at_ 2 (by omega) (by omega)
      obtain ⟨⟨qa, qe, qo⟩, qL⟩ := hq
      have no : ∀ r, r < nR v → ¬ v (147 + 7 * r + 0) = nI (nD v) := fun r hr z => by
        obtain ⟨⟨d, hd, k0⟩, -⟩ := b5 r hr
        have := (nI_eq (by omega) (by omega)).mp (k0.symm.trans z)
        omega
      refine ⟨⟨?_, fun d hd x hx ex => ?_, fun r d hr hd h3 h0 => ?_⟩, fun d hd ho => ?_⟩
      · show _ + _ = _
        rw [at_ 7 (by omega) (by omega), aSum_of (fun h hh => at_ _ (by omega) (by omega))]; exact qa
      · have same : sOf w d (nI 2) (nI 2) = sOf v d (nI 2) (nI 2) := by
          unfold sOf
          rw [nR_of e2]
          exact sCnt_of (fun r hr => ⟨at_ _ (by omega) (by omega), at_ _ (by omega) (by omega)⟩)
        rw [same]
        by_cases q : d = nD v
        · subst q
          rcases Nat.eq_zero_or_pos (sOf v (nD v) (nI 2) (nI 2)) with z | z
          · omega
          · obtain ⟨r, hr, g0, -⟩ := sCnt_ex z
            exact absurd g0 (no r hr)
        · rw [at_ _ (by omega) (by omega)] at ex
          exact qe d (by omega) x hx ex
      · rw [nR_of e2] at hr
        rw [at_ _ (by omega) (by omega)] at h3 h0
        by_cases q : d = nD v
        · subst q; exact absurd h0 (no r hr)
        · rw [at_ _ (by omega) (by omega), at_ _ (by omega) (by omega)]
          exact qo r d hr (by omega) h3 h0
      · by_cases q : d = nD v
        · subst q; exact y5
        · rw [at_ 0 (by omega) (by omega), at_ _ (by omega) (by omega)] at ho
          rw [at_ _ (by omega) (by omega)]
          exact qL d (by omega) ho
  · exact hq
/-! all that is kept -/
def zAll (v : Nat → Int32) : Prop := zY v ∧ q4 v
theorem zAll.buy {v : Nat → Int32} (h : zAll v) (x y : Int32) : zAll (sDoBuy v x y).2 := ⟨h.1.buy x y, h.2.buy h.1.1 x y⟩
theorem zAll.off {v : Nat → Int32} (h : zAll v) (x y : Int32) : zAll (sDoOff v x y).2 := ⟨h.1.off x y, h.2.off h.1.1 x y⟩
theorem zAll.can {v : Nat → Int32} (h : zAll v) (x : Int32) : zAll (sDoCan v x).2 := ⟨h.1.can x, h.2.can h.1.1 x⟩
theorem zAll.ofr {v : Nat → Int32} (h : zAll v) (x y : Int32) : zAll (sDoOfr v x y).2 := ⟨h.1.ofr x y, h.2.ofr h.1.1 x y⟩
theorem zAll.ex {v : Nat → Int32} (h : zAll v) (x : Int32) : zAll (sDoEx v x).2 := ⟨h.1.ex x, h.2.ex h.1.1 x⟩
theorem zAll.tk {v : Nat → Int32} (h : zAll v) (x : Int32) : zAll (sTk v x).2.1 := ⟨h.1.tk x, h.2.tk h.1.1 x⟩
theorem zAll.aw {v : Nat → Int32} (h : zAll v) (x y : Int32) : zAll (sAw v x y).2.1 := ⟨h.1.aw x y, h.2.aw h.1.1 x y⟩
theorem zAll.lv {v : Nat → Int32} (h : zAll v) (x y : Int32) : zAll (sLv v x y).2.1 := ⟨h.1.lv x y, h.2.lv h.1.1 x y⟩
theorem zAll.pass {v : Nat → Int32} (h : zAll v) (x : Int32) : zAll (sPass v x).2.1 := ⟨h.1.pass x, h.2.pass h.1.1 x⟩
theorem zAll.set {v : Nat → Int32} (h : zAll v) (x y : Int32) : zAll (sSet v x y).2.1 := ⟨h.1.set x y, h.2.set h.1.1 x y⟩
theorem zAll.st {v : Nat → Int32} (h : zAll v) (x y z : Int32) : zAll (sSt v x y z).2.1 := ⟨h.1.st x y z, h.2.st h.1.1 x y z⟩
theorem zAll.add {v : Nat → Int32} (h : zAll v) (a b c e f : Int32) : zAll (sAdd v a b c e f).2.1 := ⟨h.1.add a b c e f, h.2.add h.1.1 a b c e f⟩
theorem zQ_0 : zAll zu0 := by
  refine ⟨zY_0, ⟨⟨?_, fun d hd => absurd hd (by rw [nD_0]; omega), fun r d hr => absurd hr (by rw [nR_0]; omega)⟩, fun d hd => absurd hd (by rw [nD_0]; omega)⟩⟩
  show _ + _ = _
  decide
