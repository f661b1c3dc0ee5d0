/-! ===== what every act keeps ===== -/
def zI (v : Nat → Int32) : Prop := zH v ∧ zOp v
theorem zIn_ab {x : Int32} {a b : Nat} (ha : a < 2 ^ 31) (hb : b < 2 ^ 31) (h : zIn x (nI a) (nI b) = true) : ∃ k, a ≤ k ∧ k ≤ b ∧ x = nI k := by
  unfold zIn at h
  rw [Bool.and_eq_true, decide_eq_true_eq, decide_eq_true_eq] at h
  obtain ⟨j, hj, e⟩ := nI_of (x := x) (by rw [i_not_lt]; exact Int32.le_trans (nI_le (Nat.zero_le a) ha) h.1)
  subst e
  exact ⟨j, (nI_leI ha hj).mp h.1, (nI_leI hj hb).mp h.2, rfl⟩
theorem zH.of2 {v w : Nat → Int32} (h : zH v) (hK : zK w) (h0 : w 0 = v 0) (h1 : w 1 = v 1) (h2 : w 2 = v 2) (hs : ∀ j, 9 ≤ j → j < 17 → w j = v j) (hd : ∀ d k, d < 10 → k < 12 → w (27 + 12 * d + k) = v (27 + 12 * d + k)) (hr : ∀ r k, r < 60 → 2 ≤ k → k < 5 → w (147 + 7 * r + k) = v (147 + 7 * r + k)) (h8 : w 8 = v 8) : zH w := by
  obtain ⟨a1, a2, ⟨a3, a4⟩, a5, a6, a7, a8⟩ := h
  refine ⟨hK, by rw [h0]; exact a2, ⟨by rw [hs 15 (by omega) (by omega)]; exact a3, fun i hi => by rw [hs (9 + 2 * i) (by omega) (by omega), hs (9 + 2 * i + 1) (by omega) (by omega)]; exact a4 i hi⟩, fun d h => ?_, fun r h => ?_, fun d h => ?_, by rw [h8]; exact a8⟩
  · rw [nD_of h1] at h
    have h10 := a1.1.2
    unfold zHt
    rw [hd d 0 (by omega) (by omega), hd d 1 (by omega) (by omega), hd d 2 (by omega) (by omega), hd d 3 (by omega) (by omega), hd d 4 (by omega) (by omega)]
    exact a5 d h
  · rw [nR_of h2] at h
    have h60 := a1.2.1.2
    unfold zHr
    rw [hr r 3 (by omega) (by omega) (by omega), hr r 2 (by omega) (by omega) (by omega), hr r 4 (by omega) (by omega) (by omega)]
    exact a6 r h
  · intro n i j e5 hn hi hj
    rw [hd d 5 h (by omega)] at e5
    rw [hd d (6 + i) h (by omega), hd d (6 + j) h (by omega)]
    exact a7 d h n i j e5 hn hi hj
theorem zI.jj {v : Nat → Int32} (h : zI v) : zJ1 v ∧ zJ2 v := ⟨h.1.1.1, h.1.1.2.1⟩
theorem zI.pays {v : Nat → Int32} {h : Nat} {c : Int32} (hI : zI v) (hh : h < 10) : zI (sPays v h c) := ⟨hI.1.pays hh, hI.2.pays hI.1.1 hh⟩
theorem zI.log {v : Nat → Int32} {k r c : Int32} (hI : zI v) : zI (sLog v k r c) := ⟨hI.1.log, hI.2.log hI.1.1⟩
theorem zI.bec {v : Nat → Int32} {r q : Nat} (hI : zI v) (hq : q ≤ 5) (hq1 : q ≠ 1) (h : ¬ nI q < nI 2 ∨ v (147 + 7 * r + 3) < nI 2) : zI (sBec v r (nI q)) := ⟨hI.1.bec hq hq1, hI.2.sta hI.1.1 h⟩
/-- a right's holder is another -/
theorem zI.own {v : Nat → Int32} {r h : Nat} (hI : zI v) (hr : r < nR v) (hh : h < 10) : zI (upd v (147 + 7 * r + 1) (nI h)) := by
  have h60 := hI.1.1.2.1.2
  have e1 : upd v (147 + 7 * r + 1) (nI h) 1 = v 1 := upd_ne (by omega)
  have e2 : upd v (147 + 7 * r + 1) (nI h) 2 = v 2 := upd_ne (by omega)
  have hK : zK (upd v (147 + 7 * r + 1) (nI h)) := by
    obtain ⟨b1, b2, b3, b4, b5⟩ := hI.1.1
    have h10 := b1.2
    refine ⟨b1.of e1, b2.of e2, fun d hd => (b3 d hd).of (fun k h1 h2 => upd_ne (by omega)), fun d hd => ?_, fun q hq => ?_⟩
    · rw [nD_of e1] at hd
      rw [upd_ne (by omega)]; exact b4 d hd
    · rw [nR_of e2] at hq
      by_cases e : q = r
      · subst e
        unfold zKr
        rw [nD_of e1, upd_ne (by omega), upd_eq]
        exact ⟨(b5 q hq).1, h, hh, rfl⟩
      · exact (b5 q hq).of e1 (fun k hk => upd_ne (by omega))
  exact ⟨hI.1.of2 hK (upd_ne (by omega)) e1 e2 (fun j a b => upd_ne (by omega)) (fun d k a b => upd_ne (by omega)) (fun q k a b c => upd_ne (by omega)) (upd_ne (by omega)), hI.2.of hI.jj (upd_ne (by omega)) e1 e2 (fun d a => upd_ne (by omega)) (fun q a => ⟨upd_ne (by omega), Or.inl (upd_ne (by omega))⟩)⟩
theorem zI.six {v : Nat → Int32} {r : Nat} {x : Int32} (hI : zI v) : zI (upd v (147 + 7 * r + 6) x) :=
  have e1 : upd v (147 + 7 * r + 6) x 1 = v 1 := upd_ne (by omega)
  have e2 : upd v (147 + 7 * r + 6) x 2 = v 2 := upd_ne (by omega)
  ⟨hI.1.of2 (hI.1.1.of e1 e2 (fun d k a b c => upd_ne (by omega)) (fun q k a b => upd_ne (by omega))) (upd_ne (by omega)) e1 e2 (fun j a b => upd_ne (by omega)) (fun d k a b => upd_ne (by omega)) (fun q k a b c => upd_ne (by omega)) (upd_ne (by omega)), hI.2.of hI.jj (upd_ne (by omega)) e1 e2 (fun d a => upd_ne (by omega)) (fun q a => ⟨upd_ne (by omega), Or.inl (upd_ne (by omega))⟩)⟩
theorem zI.buy {v : Nat → Int32} (hI : zI v) (x y : Int32) : zI (sDoBuy v x y).2 := by
  unfold sDoBuy
  split
  · rename_i c
    obtain ⟨h, hh, rfl⟩ := zIn_nI (by omega) c.1
    obtain ⟨d, hd, rfl⟩ := zDt hI.1.1 c.2
    have h10 := hI.1.1.1.2
    rw [zn_nI (by omega), zn_nI (by omega)]
    split
    · split
      · exact hI
      · rename_i ho hc
        obtain ⟨hR, -⟩ := sCan_pos hI.1.1.2.1 (sCan_ne hc)
        exact ⟨hI.1.sells hR hd (by omega) ho, hI.2.sells hI.1 hR hd (by omega) ho⟩
    · exact hI
  · exact hI
theorem zI.off {v : Nat → Int32} (hI : zI v) (x y : Int32) : zI (sDoOff v x y).2 := by
  unfold sDoOff
  split
  · rename_i c
    obtain ⟨h, hh, rfl⟩ := zIn_nI (by omega) c.1
    obtain ⟨d, hd, rfl⟩ := zDt hI.1.1 c.2
    have h10 := hI.1.1.1.2
    rw [zn_nI (by omega), zn_nI (by omega)]
    split
    · exact hI
    · rename_i r hL
      split
      · exact hI
      · obtain ⟨hr, h0, h3⟩ := sLow_spec hL
        obtain ⟨-, g, hg, e1⟩ := hI.1.1.2.2.2.2 r hr
        have h60 := hI.1.1.2.1.2
        rw [e1, zn_nI (by omega)]
        have i1 := ((hI.pays (c := v (147 + 7 * r + 4)) (h := h) (by omega)).pays (c := v (147 + 7 * r + 4) * v 4 / nI 100 - v (147 + 7 * r + 4)) hg)
        have i2 : zI (sOff2 v r h g) := i1.own (r := r) (h := h) (by rw [nR_of (w := sPays (sPays v h (v (147 + 7 * r + 4))) g (v (147 + 7 * r + 4) * v 4 / nI 100 - v (147 + 7 * r + 4))) (v := v) (by rw [sPays_at (by omega) (by omega), sPays_at (by omega) (by omega)])]; exact hr) (by omega)
        have i3 := i2.six (r := r) (x := sOff2 v r h g (147 + 7 * r + 6) + nI 1)
        unfold sOff
        refine (i3.bec (q := 0) (by omega) (by omega) (Or.inr ?_)).log
        rw [upd_ne (by omega)]
        unfold sOff2
        rw [upd_ne (by omega), sPays_at (by omega) (by omega), sPays_at (by omega) (by omega), h3]
        decide
  · exact hI
theorem zI.can {v : Nat → Int32} (hI : zI v) (x : Int32) : zI (sDoCan v x).2 := by
  unfold sDoCan
  split
  · rename_i c
    obtain ⟨r, d, g, hr, rfl, hd, e0, hg, e1⟩ := zRt hI.1.1 c
    have h60 := hI.1.1.2.1.2
    have h10 := hI.1.1.1.2
    obtain ⟨n, hn, e5, -⟩ := hI.1.1.2.2.1 d (by omega)
    rw [zn_nI (show r < 2 ^ 31 by omega), e0, e1, zn_nI (show d < 2 ^ 31 by omega), zn_nI (show g < 2 ^ 31 by omega), e5, zn_nI (show n < 2 ^ 31 by omega)]
    split
    · have i1 : zI (sCan1 v r d g) := ((hI.pays hg).bec (q := 3) (by omega) (by omega) (Or.inl (by decide))).log
      have a1 : sCan1 v r d g 1 = v 1 := by unfold sCan1; rw [sLog_at (by omega) (by omega), sBec_at (by omega) (by omega), sPays_at (by omega) (by omega)]
      have a5 : sCan1 v r d g (27 + 12 * d + 5) = nI n := by unfold sCan1; rw [sLog_at (by omega) (by omega), sBec_at (by omega) (by omega), sPays_at (by omega) (by omega)]; exact e5
      obtain ⟨z1, z2, -⟩ := sLB_H n _ i1.1 (by rw [nD_of a1]; exact hd) a5 hn
      exact ⟨z1, z2 i1.2⟩
    · exact hI
  · exact hI
theorem zI.ofr {v : Nat → Int32} (hI : zI v) (x p : Int32) : zI (sDoOfr v x p).2 := by
  unfold sDoOfr
  split
  · rename_i c
    obtain ⟨r, d, g, hr, rfl, hd, e0, hg, e1⟩ := zRt hI.1.1 c
    have h60 := hI.1.1.2.1.2
    have h10 := hI.1.1.1.2
    obtain ⟨-, -, -, ⟨b, hb1, hb, eb⟩, -⟩ := hI.1.2.2.2.1 d hd
    rw [zn_nI (show r < 2 ^ 31 by omega), e0, zn_nI (show d < 2 ^ 31 by omega), eb, nI_mul]
    split
    · rename_i c3
      split
      · rename_i cp
        obtain ⟨q, hq1, hq, rfl⟩ := zIn_ab (by omega) (by omega) cp
        split
        · exact hI
        · have i1 : zI (sSta v r (nI 1) (nI q)) := ⟨hI.1.sta ⟨1, by omega, rfl⟩ (fun _ => ⟨q, hq1, by omega, rfl⟩) (fun z => absurd rfl z), hI.2.sta hI.1.1 (Or.inr c3)⟩
          exact i1.log
      · exact hI
    · exact hI
  · exact hI
theorem zI.ex {v : Nat → Int32} (hI : zI v) (x : Int32) : zI (sDoEx v x).2 := by
  unfold sDoEx
  split
  · rename_i c
    obtain ⟨r, d, g, hr, rfl, hd, e0, hg, e1⟩ := zRt hI.1.1 c
    have h60 := hI.1.1.2.1.2
    have h10 := hI.1.1.1.2
    rw [zn_nI (show r < 2 ^ 31 by omega), e0, e1, zn_nI (show d < 2 ^ 31 by omega), zn_nI (show g < 2 ^ 31 by omega)]
    split
    · exact ((hI.pays hg).bec (q := 2) (by omega) (by omega) (Or.inl (by decide))).log
    · exact hI
  · exact hI
theorem zI.tk {v : Nat → Int32} (hI : zI v) (x : Int32) : zI (sTk v x).2.1 := by
  unfold sTk
  split
  · rename_i c
    obtain ⟨r, d, g, hr, rfl, -⟩ := zRt hI.1.1 c
    have h60 := hI.1.1.2.1.2
    rw [zn_nI (show r < 2 ^ 31 by omega)]
    split
    · rename_i c3
      exact hI.bec (q := 0) (by omega) (by omega) (Or.inr (by rw [c3]; decide))
    · exact hI
  · exact hI
theorem zI.doO {v : Nat → Int32} (hI : zI v) (o : Int32 × Int32 × Int32) : zI (sDoO v o).2 := by
  unfold sDoO
  split
  · exact hI.buy _ _
  · split
    · exact hI.off _ _
    · split
      · exact hI.can _
      · split
        · exact hI.ex _
        · exact hI.ofr _ _
theorem sPl_neg {v : Nat → Int32} {d : Nat} {h : Int32} : ∀ {n : Nat}, n ≤ 6 → sPl v d h n < 0 → ∀ j, j < n → ¬ v (27 + 12 * d + (6 + j)) = h
  | 0, _, _, j, hj => by omega
  | n + 1, hn, q, j, hj => by
    unfold sPl at q
    split at q
    · exact absurd q (nI_pos (by omega))
    · rename_i c
      by_cases e : j = n
      · subst e; exact c
      · exact sPl_neg (n := n) (by omega) q j (by omega)
theorem zI.aw1 {v : Nat → Int32} {d n h : Nat} (hI : zI v) (hd : d < 10) (hn : n < 6) (h5 : v (27 + 12 * d + 5) = nI n) (hh : h < 10) (hne : ∀ j, j < n → ¬ v (27 + 12 * d + (6 + j)) = nI h) : zI (sAw1 v d n (nI h)) := by
  have at_ : ∀ j, j ≠ 27 + 12 * d + (6 + n) → j ≠ 27 + 12 * d + 5 → sAw1 v d n (nI h) j = v j := fun j a b => by unfold sAw1; rw [upd_ne b, upd_ne a]
  have a5 : sAw1 v d n (nI h) (27 + 12 * d + 5) = nI (n + 1) := by unfold sAw1; rw [upd_eq]
  have an : sAw1 v d n (nI h) (27 + 12 * d + (6 + n)) = nI h := by unfold sAw1; rw [upd_ne (by omega), upd_eq]
  have e1 := at_ 1 (by omega) (by omega)
  have e2 := at_ 2 (by omega) (by omega)
  obtain ⟨⟨b1, b2, b3, b4, b5⟩, a2, ⟨a3, a4⟩, c5, a6, a7, a8⟩ := hI.1
  have h10 := b1.2
  have h60 := b2.2
  refine ⟨⟨⟨b1.of e1, b2.of e2, fun e he => ?_, fun e he => ?_, fun r hr => ?_⟩, by rw [at_ 0 (by omega) (by omega)]; exact a2, ⟨by rw [at_ 15 (by omega) (by omega)]; exact a3, fun i hi => by rw [at_ _ (by omega) (by omega), at_ _ (by omega) (by omega)]; exact a4 i hi⟩, fun e he => ?_, fun r hr => ?_, fun e he => ?_, by rw [at_ 8 (by omega) (by omega)]; exact a8⟩, hI.2.of ⟨b1, b2⟩ (at_ 0 (by omega) (by omega)) e1 e2 (fun e he => at_ _ (by omega) (by omega)) (fun r hr => ⟨at_ _ (by omega) (by omega), Or.inl (at_ _ (by omega) (by omega))⟩)⟩
  · by_cases q : e = d
    · subst q
      obtain ⟨n9, q1, q2, q3⟩ := b3 e he
      have en : n9 = n := (nI_eq (by omega) (by omega)).mp (q2.symm.trans h5)
      subst en
      refine ⟨n9 + 1, by omega, a5, fun k hk => ?_⟩
      by_cases z : k = n9
      · subst z; exact ⟨h, hh, an⟩
      · rw [at_ _ (by omega) (by omega)]; exact q3 k (by omega)
    · exact (b3 e he).of (fun k h1 h2 => at_ _ (by omega) (by omega))
  · rw [nD_of e1] at he
    rw [at_ _ (by omega) (by omega)]; exact b4 e he
  · rw [nR_of e2] at hr
    exact (b5 r hr).of e1 (fun k hk => at_ _ (by omega) (by omega))
  · rw [nD_of e1] at he
    unfold zHt
    rw [at_ _ (by omega) (by omega), at_ _ (by omega) (by omega), at_ _ (by omega) (by omega), at_ _ (by omega) (by omega), at_ _ (by omega) (by omega)]
    exact c5 e he
  · rw [nR_of e2] at hr
    unfold zHr
    rw [at_ _ (by omega) (by omega), at_ _ (by omega) (by omega), at_ _ (by omega) (by omega)]
    exact a6 r hr
  · intro n' i j e5 hn' hi hj
    by_cases q : e = d
    · subst q
      rw [a5] at e5
      have en : n + 1 = n' := (nI_eq (by omega) (by omega)).mp e5
      subst en
      by_cases zi : i = n
      · subst zi
        by_cases zj : j = i
        · exact fun _ => zj.symm
        · rw [an, at_ _ (by omega) (by omega)]
          exact fun z => absurd z.symm (hne j (by omega))
      · by_cases zj : j = n
        · subst zj
          rw [an, at_ _ (by omega) (by omega)]
          exact fun z => absurd z (hne i (by omega))
        · rw [at_ _ (by omega) (by omega), at_ _ (by omega) (by omega)]
          exact a7 e he n i j h5 (by omega) (by omega) (by omega)
    · rw [at_ _ (by omega) (by omega)] at e5
      rw [at_ _ (by omega) (by omega), at_ _ (by omega) (by omega)]
      exact a7 e he n' i j e5 hn' hi hj
theorem zI.aw {v : Nat → Int32} (hI : zI v) (x y : Int32) : zI (sAw v x y).2.1 := by
  unfold sAw
  split
  · rename_i c
    obtain ⟨h, hh, rfl⟩ := zIn_nI (by omega) c.1
    obtain ⟨d, hd, rfl⟩ := zDt hI.1.1 c.2
    have h10 := hI.1.1.1.2
    obtain ⟨n, hn, e5, -⟩ := hI.1.1.2.2.1 d (by omega)
    rw [zn_nI (show d < 2 ^ 31 by omega), e5, zn_nI (show n < 2 ^ 31 by omega)]
    split
    · rename_i c2
      split
      · exact hI
      · rename_i c6
        have hn6 : n < 6 := by
          rcases Nat.lt_or_eq_of_le hn with z | z
          · exact z
          · exact absurd (by rw [z]) c6
        exact hI.aw1 (by omega) hn6 e5 (by omega) (sPl_neg hn c2.2)
    · exact hI
  · exact hI
theorem zI.lv {v : Nat → Int32} (hI : zI v) (x y : Int32) : zI (sLv v x y).2.1 := by
  unfold sLv
  split
  · rename_i c
    obtain ⟨d, hd, rfl⟩ := zDt hI.1.1 c.2
    have h10 := hI.1.1.1.2
    obtain ⟨n, hn, e5, -⟩ := hI.1.1.2.2.1 d (by omega)
    rw [zn_nI (show d < 2 ^ 31 by omega), e5, zn_nI (show n < 2 ^ 31 by omega)]
    split
    · exact hI
    · rename_i c2
      obtain ⟨p, hp, ep⟩ := sPl_nn c2 hn
      rw [ep, zn_nI (by omega)]
      exact ⟨hI.1.drop (by omega) hn hp e5, hI.2.drop hI.1.1 (by omega) hn hp⟩
  · exact hI
theorem zI.pass {v : Nat → Int32} (hI : zI v) (x : Int32) : zI (sPass v x).2.1 := by
  unfold sPass
  split
  · rename_i c
    obtain ⟨k, hk1, hk, rfl⟩ := zIn_ab (by omega) (by omega) c
    obtain ⟨t, ht, et⟩ := hI.1.2.1
    split
    · rename_i c2
      rw [et, nI_add] at c2
      have c3 := (nI_leI (by omega) (by omega)).mp c2
      rw [zn_nI (by omega)]
      obtain ⟨a, b, -⟩ := sDays_H hI.1 hI.2 et k _ _ c3 rfl
      exact ⟨a, b⟩
    · exact hI
  · exact hI
theorem zI.set {v : Nat → Int32} (hI : zI v) (x y : Int32) : zI (sSet v x y).2.1 := by
  unfold sSet
  split
  · rename_i c
    obtain ⟨k, hk, rfl⟩ := zIn_nI (by omega) c
    rw [zn_nI (by omega)]
    split
    · split
      · exact hI
      · have e1 : upd v (3 + k) y 1 = v 1 := upd_ne (by omega)
        have e2 : upd v (3 + k) y 2 = v 2 := upd_ne (by omega)
        exact ⟨hI.1.of2 (hI.1.1.of e1 e2 (fun d k a b c => upd_ne (by omega)) (fun q k a b => upd_ne (by omega))) (upd_ne (by omega)) e1 e2 (fun j a b => upd_ne (by omega)) (fun d k a b => upd_ne (by omega)) (fun q k a b c => upd_ne (by omega)) (upd_ne (by omega)), hI.2.of hI.jj (upd_ne (by omega)) e1 e2 (fun d a => upd_ne (by omega)) (fun q a => ⟨upd_ne (by omega), Or.inl (upd_ne (by omega))⟩)⟩
    · exact hI
  · exact hI
theorem zI.st {v : Nat → Int32} (hI : zI v) (x y z : Int32) : zI (sSt v x y z).2.1 := by
  unfold sSt
  split
  · rename_i c
    obtain ⟨k, hk, rfl⟩ := zIn_nI (by omega) c
    rw [zn_nI (by omega)]
    split
    · rename_i c2
      split
      · exact hI
      · obtain ⟨f, hf, rfl⟩ := zIn_nI (by omega) c2.2
        have at_ : ∀ j, j ≠ 9 + 2 * k → j ≠ 9 + 2 * k + 1 → upd (upd v (9 + 2 * k) y) (9 + 2 * k + 1) (nI f) j = v j := fun j a b => by rw [upd_ne b, upd_ne a]
        have a0 : upd (upd v (9 + 2 * k) y) (9 + 2 * k + 1) (nI f) (9 + 2 * k) = y := by rw [upd_ne (by omega), upd_eq]
        have a1 : upd (upd v (9 + 2 * k) y) (9 + 2 * k + 1) (nI f) (9 + 2 * k + 1) = nI f := upd_eq
        have e1 := at_ 1 (by omega) (by omega)
        have e2 := at_ 2 (by omega) (by omega)
        obtain ⟨⟨b1, b2, b3, b4, b5⟩, q2, ⟨q3, q4⟩, c5, a6, a7, a8⟩ := hI.1
        have h10 := b1.2
        have h60 := b2.2
        have hy : ∃ a, a ≤ 99 ∧ y = nI a ∧ (k = 3 → a = 0) := by
          have hz := c2.1
          unfold sLo sHi at hz
          by_cases k3 : k = 3
          · rw [if_pos k3, if_pos k3] at hz
            obtain ⟨a, -, ha, ea⟩ := zIn_ab (by omega) (by omega) hz
            exact ⟨a, by omega, ea, fun _ => by omega⟩
          · rw [if_neg k3, if_neg k3] at hz
            obtain ⟨⟨lo, hlo, elo⟩, -⟩ := q4 (k + 1) (by omega)
            rw [show 9 + 2 * k + 2 = 9 + 2 * (k + 1) from by omega, elo, nI_add] at hz
            by_cases k0 : k = 0
            · rw [if_pos k0] at hz
              obtain ⟨a, -, ha, ea⟩ := zIn_ab (by omega) (by omega) hz
              exact ⟨a, ha, ea, fun q => absurd q k3⟩
            · rw [if_neg k0] at hz
              obtain ⟨⟨hi, hhi, ehi⟩, -⟩ := q4 (k - 1) (by omega)
              rw [show 9 + 2 * k - 2 = 9 + 2 * (k - 1) from by omega, ehi] at hz
              unfold zIn at hz
              rw [Bool.and_eq_true, decide_eq_true_eq, decide_eq_true_eq] at hz
              obtain ⟨a, ha, ea⟩ := nI_of (x := y) (by rw [i_not_lt]; exact Int32.le_trans (nI_le (Nat.zero_le _) (by omega)) hz.1)
              have hz2 := hz.2
              rw [ea] at hz2
              refine ⟨a, ?_, ea, fun q => absurd q k3⟩
              rw [Int32.le_iff_toInt_le, Int32.toInt_sub, nI_toInt ha, nI_toInt (by omega), nI_toInt (by omega), Int.bmod_eq_of_le (by omega) (by omega)] at hz2
              omega
        obtain ⟨a, ha, rfl, hk3⟩ := hy
        show zI (upd (upd v (9 + 2 * k) (nI a)) (9 + 2 * k + 1) (nI f))
        refine ⟨⟨⟨b1.of e1, b2.of e2, fun e he => (b3 e he).of (fun j h1 h2 => at_ _ (by omega) (by omega)), fun e he => ?_, fun r hr => ?_⟩, by rw [at_ 0 (by omega) (by omega)]; exact q2, ⟨?_, fun i hi => ?_⟩, fun e he => ?_, fun r hr => ?_, fun e he => ?_, by rw [at_ 8 (by omega) (by omega)]; exact a8⟩, hI.2.of ⟨b1, b2⟩ (at_ 0 (by omega) (by omega)) e1 e2 (fun e he => at_ _ (by omega) (by omega)) (fun r hr => ⟨at_ _ (by omega) (by omega), Or.inl (at_ _ (by omega) (by omega))⟩)⟩
        · rw [nD_of e1] at he
          rw [at_ _ (by omega) (by omega)]; exact b4 e he
        · rw [nR_of e2] at hr
          exact (b5 r hr).of e1 (fun j hj => at_ _ (by omega) (by omega))
        · by_cases k3 : k = 3
          · subst k3
            rw [show (15 : Nat) = 9 + 2 * 3 from rfl, a0, hk3 rfl]; rfl
          · rw [at_ 15 (by omega) (by omega)]; exact q3
        · by_cases q : i = k
          · subst q
            rw [a0, a1]
            exact ⟨⟨a, ha, rfl⟩, f, hf, rfl⟩
          · rw [at_ _ (by omega) (by omega), at_ _ (by omega) (by omega)]; exact q4 i hi
        · rw [nD_of e1] at he
          unfold zHt
          rw [at_ _ (by omega) (by omega), at_ _ (by omega) (by omega), at_ _ (by omega) (by omega), at_ _ (by omega) (by omega), at_ _ (by omega) (by omega)]
          exact c5 e he
        · rw [nR_of e2] at hr
          unfold zHr
          rw [at_ _ (by omega) (by omega), at_ _ (by omega) (by omega), at_ _ (by omega) (by omega)]
          exact a6 r hr
        · intro n i j e5 hn hi hj
          rw [at_ _ (by omega) (by omega)] at e5
          rw [at_ _ (by omega) (by omega), at_ _ (by omega) (by omega)]
          exact a7 e he n i j e5 hn hi hj
    · exact hI
  · exact hI
theorem zI.add {v : Nat → Int32} (hI : zI v) (a b c e f : Int32) : zI (sAdd v a b c e f).2.1 := by
  unfold sAdd
  split
  · rename_i hok
    split
    · exact hI
    · rename_i h10
      obtain ⟨⟨b1, b2, b3, b4, b5⟩, ⟨t, ht, et⟩, ⟨q3, q4⟩, c5, a6, a7, a8⟩ := hI.1
      have hD : nD v < 10 := by
        rcases Nat.lt_or_eq_of_le b1.2 with z | z
        · exact z
        · exact absurd (by rw [b1.1, z]) h10
      have h60 := b2.2
      unfold sAddOk at hok
      simp only [Bool.and_eq_true] at hok
      obtain ⟨o1, o2, o3, o4, o5⟩ := hok
      rw [et, nI_add] at o1
      obtain ⟨a, a1, a2, rfl⟩ := zIn_ab (by omega) (by omega) o1
      obtain ⟨b, p1, p2, rfl⟩ := zIn_ab (by omega) (by omega) o2
      obtain ⟨c, -, s2, rfl⟩ := zIn_ab (by omega) (by omega) o3
      obtain ⟨e, g1, g2, rfl⟩ := zIn_ab (by omega) (by omega) o4
      obtain ⟨f, -, f2, rfl⟩ := zIn_ab (by omega) (by omega) o5
      have w1 : sAdd1 v (nD v) (nI a) (nI b) (nI c) (nI e) (nI f) 1 = v 1 := by unfold sAdd1; rw [upd_ne (by omega), upd_ne (by omega), upd_ne (by omega), upd_ne (by omega), upd_ne (by omega), upd_ne (by omega)]
      show zI (upd (sAdd1 v (nD v) (nI a) (nI b) (nI c) (nI e) (nI f)) 1 (sAdd1 v (nD v) (nI a) (nI b) (nI c) (nI e) (nI f) 1 + nI 1))
      generalize hw : upd (sAdd1 v (nD v) (nI a) (nI b) (nI c) (nI e) (nI f)) 1 (sAdd1 v (nD v) (nI a) (nI b) (nI c) (nI e) (nI f) 1 + nI 1) = w
      have at_ : ∀ j, (j < 27 + 12 * nD v ∨ 27 + 12 * nD v + 6 ≤ j) → j ≠ 1 → w j = v j := fun j hj h1 => by
        rw [← hw, upd_ne h1]; unfold sAdd1
        rw [upd_ne (by omega), upd_ne (by omega), upd_ne (by omega), upd_ne (by omega), upd_ne (by omega), upd_ne (by omega)]
      have z1 : w 1 = nI (nD v + 1) := by rw [← hw, upd_eq, w1, b1.1, nI_add]
      have zd : nD w = nD v + 1 := by show (w 1).toNatClampNeg = _; rw [z1]; exact nI_clamp (by omega)
      have y0 : w (27 + 12 * nD v + 0) = nI a := by rw [← hw]; unfold sAdd1; rw [upd_ne (by omega), upd_ne (by omega), upd_ne (by omega), upd_ne (by omega), upd_ne (by omega), upd_ne (by omega), upd_eq]
      have y1 : w (27 + 12 * nD v + 1) = nI b := by rw [← hw]; unfold sAdd1; rw [upd_ne (by omega), upd_ne (by omega), upd_ne (by omega), upd_ne (by omega), upd_ne (by omega), upd_eq]
      have y2 : w (27 + 12 * nD v + 2) = nI c := by rw [← hw]; unfold sAdd1; rw [upd_ne (by omega), upd_ne (by omega), upd_ne (by omega), upd_ne (by omega), upd_eq]
      have y3 : w (27 + 12 * nD v + 3) = nI e := by rw [← hw]; unfold sAdd1; rw [upd_ne (by omega), upd_ne (by omega), upd_ne (by omega), upd_eq]
      have y4 : w (27 + 12 * nD v + 4) = nI f := by rw [← hw]; unfold sAdd1; rw [upd_ne (by omega), upd_ne (by omega), upd_eq]
      have y5 : w (27 + 12 * nD v + 5) = nI 0 := by rw [← hw]; unfold sAdd1; rw [upd_ne (by omega), upd_eq]
      have e2 := at_ 2 (by omega) (by omega)
      refine ⟨⟨⟨⟨by rw [zd]; exact z1, by omega⟩, b2.of e2, fun d hd => ?_, fun d hd => ?_, fun r hr => ?_⟩, ⟨t, ht, by rw [at_ 0 (by omega) (by omega)]; exact et⟩, ⟨by rw [at_ 15 (by omega) (by omega)]; exact q3, fun i hi => by rw [at_ _ (by omega) (by omega), at_ _ (by omega) (by omega)]; exact q4 i hi⟩, fun d hd => ?_, fun r hr => ?_, fun d hd => ?_, by rw [at_ 8 (by omega) (by omega)]; exact a8⟩, fun r d hr h3 h0 hd => ?_⟩
      · by_cases q : d = nD v
        · subst q; exact ⟨0, by omega, y5, fun k hk => by omega⟩
        · exact (b3 d hd).of (fun k h1 h2 => at_ _ (by omega) (by omega))
      · by_cases q : d = nD v
        · subst q; rw [y1]; exact fun z => by have := (nI_eq (a := b) (b := 0) (by omega) (by omega)).mp z; omega
        · rw [at_ _ (by omega) (by omega)]; exact b4 d (by omega)
      · rw [nR_of e2] at hr
        obtain ⟨⟨d, hd, k0⟩, k1⟩ := b5 r hr
        refine ⟨⟨d, by omega, by rw [at_ _ (by omega) (by omega)]; exact k0⟩, by rw [at_ _ (by omega) (by omega)]; exact k1⟩
      · by_cases q : d = nD v
        · subst q
          unfold zHt
          rw [y0, y1, y2, y3, y4]
          exact ⟨⟨a, by omega, a2, rfl⟩, ⟨b, p1, p2, rfl⟩, ⟨c, s2, rfl⟩, ⟨e, g1, g2, rfl⟩, f, f2, rfl⟩
        · unfold zHt
          rw [at_ _ (by omega) (by omega), at_ _ (by omega) (by omega), at_ _ (by omega) (by omega), at_ _ (by omega) (by omega), at_ _ (by omega) (by omega)]
          exact c5 d (by omega)
      · rw [nR_of e2] at hr
        unfold zHr
        rw [at_ _ (by omega) (by omega), at_ _ (by omega) (by omega), at_ _ (by omega) (by omega)]
        exact a6 r hr
      · intro n i j e5 hn hi hj
        by_cases q : d = nD v
        · subst q
          rw [y5] at e5
          have : 0 = n := (nI_eq (by omega) (by omega)).mp e5
          omega
        · rw [at_ _ (by omega) (by omega)] at e5
          rw [at_ _ (by omega) (by omega), at_ _ (by omega) (by omega)]
          exact a7 d hd n i j e5 hn hi hj
      · rw [nR_of e2] at hr
        obtain ⟨⟨d1, hd1, k0⟩, -⟩ := b5 r hr
        rw [at_ _ (by omega) (by omega)] at h3 h0
        have : d1 = d := (nI_eq (by omega) (by omega)).mp (k0.symm.trans h0)
        subst this
        rw [at_ 0 (by omega) (by omega), at_ _ (by omega) (by omega)]
        exact hI.2 r d1 hr h3 h0 hd1
  · exact hI
/-- free rights can be cancelled: their dates are open -/
theorem zI.opn {v : Nat → Int32} (hI : zI v) : zOpn v := by
  intro r hr h3
  obtain ⟨d, hd, e0⟩ := (hI.1.1.2.2.2.2 r hr).1
  have h10 := hI.1.1.1.2
  rw [e0, zn_nI (by omega), hI.1.2.2.1.1]
  have q := hI.2 r d hr h3 e0 hd
  obtain ⟨a, -, ha, ea⟩ := (hI.1.2.2.2.1 d hd).1
  obtain ⟨t, ht, et⟩ := hI.1.2.1
  unfold sLeft
  rw [ea, et] at q ⊢
  rw [nI_sub (by have := (nI_ltI (by omega) (by omega)).mp q; omega)]
  exact nI_le (Nat.zero_le _) (by omega)
