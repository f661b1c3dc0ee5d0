/-! ===== what is kept: the invariant under the changes ===== -/
theorem zH.of {v w : Nat → Int32} (h : zH v) (hK : zK w) (h0 : w 0 = v 0) (h1 : w 1 = v 1) (h2 : w 2 = v 2) (hs : ∀ j, 9 ≤ j → j < 17 → w j = v j) (hd : ∀ d k, d < 10 → k < 12 → w (27 + 12 * d + k) = v (27 + 12 * d + k)) (hr : ∀ r k, r < 60 → k < 5 → w (147 + 7 * r + k) = v (147 + 7 * r + k)) (h8 : ∃ e, e ≤ 10 ∧ w 8 = nI e) : zH w := by
  obtain ⟨a1, a2, ⟨a3, a4⟩, a5, a6, a7, -⟩ := h
  refine ⟨hK, by rw [h0]; exact a2, ⟨by rw [hs 15 (by omega) (by omega)]; exact a3, fun i hi => by rw [hs (9 + 2 * i) (by omega) (by omega), hs (9 + 2 * i + 1) (by omega) (by omega)]; exact a4 i hi⟩, fun d h => ?_, fun r h => ?_, fun d h => ?_, h8⟩
  · rw [nD_of h1] at h
    have h10 := a1.1.2
    unfold zHt
    rw [hd d 0 (by omega) (by omega), hd d 1 (by omega) (by omega), hd d 2 (by omega) (by omega), hd d 3 (by omega) (by omega), hd d 4 (by omega) (by omega)]
    exact a5 d h
  · rw [nR_of h2] at h
    have h60 := a1.2.1.2
    unfold zHr
    rw [hr r 3 (by omega) (by omega), hr r 2 (by omega) (by omega), hr r 4 (by omega) (by omega)]
    exact a6 r h
  · intro n i j e5 hn hi hj
    rw [hd d 5 h (by omega)] at e5
    rw [hd d (6 + i) h (by omega), hd d (6 + j) h (by omega)]
    exact a7 d h n i j e5 hn hi hj
theorem zOp.of {v w : Nat → Int32} (h : zOp v) (hJ : zJ1 v ∧ zJ2 v) (h0 : w 0 = v 0) (h1 : w 1 = v 1) (h2 : w 2 = v 2) (hd : ∀ d, d < 10 → w (27 + 12 * d + 0) = v (27 + 12 * d + 0)) (hr : ∀ r, r < 60 → w (147 + 7 * r + 0) = v (147 + 7 * r + 0) ∧ (w (147 + 7 * r + 3) = v (147 + 7 * r + 3) ∨ ¬ w (147 + 7 * r + 3) < nI 2 ∨ v (147 + 7 * r + 3) < nI 2)) : zOp w := by
  intro r d a b c e
  rw [nR_of h2] at a
  rw [nD_of h1] at e
  have h60 := hJ.2.2
  have h10 := hJ.1.2
  rw [(hr r (by omega)).1] at c
  rw [h0, hd d (by omega)]
  rcases (hr r (by omega)).2 with q | q | q
  · rw [q] at b; exact h r d a b c e
  · exact absurd b q
  · exact h r d a q c e
theorem zH.pays {v : Nat → Int32} {h : Nat} {c : Int32} (hH : zH v) (hh : h < 10) : zH (sPays v h c) :=
  hH.of (hH.1.pays hh) (sPays_at (by omega) (by omega)) (sPays_at (by omega) (by omega)) (sPays_at (by omega) (by omega)) (fun j a b => sPays_at (by omega) (by omega)) (fun d k a b => sPays_at (by omega) (by omega)) (fun r k a b => sPays_at (by omega) (by omega)) (by rw [sPays_at (by omega) (by omega)]; exact hH.2.2.2.2.2.2)
theorem zOp.pays {v : Nat → Int32} {h : Nat} {c : Int32} (hO : zOp v) (hK : zK v) (hh : h < 10) : zOp (sPays v h c) :=
  hO.of ⟨hK.1, hK.2.1⟩ (sPays_at (by omega) (by omega)) (sPays_at (by omega) (by omega)) (sPays_at (by omega) (by omega)) (fun d a => sPays_at (by omega) (by omega)) (fun r a => ⟨sPays_at (by omega) (by omega), Or.inl (sPays_at (by omega) (by omega))⟩)
theorem sLog_8 {v : Nat → Int32} {k r c : Int32} (h : ∃ e, e ≤ 10 ∧ v 8 = nI e) : ∃ e, e ≤ 10 ∧ sLog v k r c 8 = nI e := by
  obtain ⟨e, he, e8⟩ := h
  have h0 : sLog0 v k r c 8 = nI e := by unfold sLog0; rw [upd_ne (by omega), upd_ne (by omega), upd_ne (by omega), upd_ne (by omega), sShf, if_neg (by omega)]; exact e8
  unfold sLog
  rw [upd_eq, h0]
  by_cases q : e < 10
  · exact ⟨e + 1, by omega, by rw [if_pos (nI_lt q (by omega)), nI_add]⟩
  · exact ⟨e, he, by rw [if_neg (nI_nlt (by omega) (by omega)), nI_add]; rfl⟩
theorem zH.log {v : Nat → Int32} {k r c : Int32} (hH : zH v) : zH (sLog v k r c) :=
  hH.of hH.1.log (sLog_at (by omega) (by omega)) (sLog_at (by omega) (by omega)) (sLog_at (by omega) (by omega)) (fun j a b => sLog_at (by omega) (by omega)) (fun d k a b => sLog_at (by omega) (by omega)) (fun r k a b => sLog_at (by omega) (by omega)) (sLog_8 hH.2.2.2.2.2.2)
theorem zOp.log {v : Nat → Int32} {k r c : Int32} (hO : zOp v) (hK : zK v) : zOp (sLog v k r c) :=
  hO.of ⟨hK.1, hK.2.1⟩ (sLog_at (by omega) (by omega)) (sLog_at (by omega) (by omega)) (sLog_at (by omega) (by omega)) (fun d a => sLog_at (by omega) (by omega)) (fun r a => ⟨sLog_at (by omega) (by omega), Or.inl (sLog_at (by omega) (by omega))⟩)
/-- a right's state and asking price are changed -/
def sSta (v : Nat → Int32) (r : Nat) (s a : Int32) : Nat → Int32 := upd (upd v (147 + 7 * r + 3) s) (147 + 7 * r + 4) a
theorem sSta_at {v : Nat → Int32} {r : Nat} {s a : Int32} {j : Nat} (h3 : j ≠ 147 + 7 * r + 3) (h4 : j ≠ 147 + 7 * r + 4) : sSta v r s a j = v j := by unfold sSta; rw [upd_ne h4, upd_ne h3]
theorem sSta_3 {v : Nat → Int32} {r : Nat} {s a : Int32} : sSta v r s a (147 + 7 * r + 3) = s := by unfold sSta; rw [upd_ne (by omega), upd_eq]
theorem sSta_4 {v : Nat → Int32} {r : Nat} {s a : Int32} : sSta v r s a (147 + 7 * r + 4) = a := by unfold sSta; rw [upd_eq]
theorem zK.sta {v : Nat → Int32} {r : Nat} {s a : Int32} (hK : zK v) : zK (sSta v r s a) :=
  hK.of (sSta_at (by omega) (by omega)) (sSta_at (by omega) (by omega)) (fun d k hd hk h12 => sSta_at (by omega) (by omega)) (fun r k hr hk => sSta_at (by omega) (by omega))
theorem zH.sta {v : Nat → Int32} {r : Nat} {s a : Int32} (hH : zH v) (hs : ∃ q, q ≤ 5 ∧ s = nI q) (h1 : s = nI 1 → ∃ q, 1 ≤ q ∧ q ≤ 19998 ∧ a = nI q) (h0 : ¬ s = nI 1 → a = -5) : zH (sSta v r s a) := by
  obtain ⟨a1, a2, ⟨a3, a4⟩, a5, a6, a7, a8⟩ := hH
  have e2 : sSta v r s a 2 = v 2 := sSta_at (by omega) (by omega)
  have e1 : sSta v r s a 1 = v 1 := sSta_at (by omega) (by omega)
  refine ⟨a1.sta, by rw [sSta_at (by omega) (by omega)]; exact a2, ⟨by rw [sSta_at (by omega) (by omega)]; exact a3, fun i hi => by rw [sSta_at (by omega) (by omega), sSta_at (by omega) (by omega)]; exact a4 i hi⟩, fun d h => ?_, fun q h => ?_, fun d h => ?_, by rw [sSta_at (by omega) (by omega)]; exact a8⟩
  · rw [nD_of e1] at h
    have h10 := a1.1.2
    unfold zHt
    rw [sSta_at (by omega) (by omega), sSta_at (by omega) (by omega), sSta_at (by omega) (by omega), sSta_at (by omega) (by omega), sSta_at (by omega) (by omega)]
    exact a5 d h
  · rw [nR_of e2] at h
    unfold zHr
    by_cases e : q = r
    · subst e
      rw [sSta_3, sSta_4, sSta_at (by omega) (by omega)]
      exact ⟨hs, (a6 q h).2.1, h1, h0⟩
    · rw [sSta_at (by omega) (by omega), sSta_at (by omega) (by omega), sSta_at (by omega) (by omega)]
      exact a6 q h
  · intro n i j e5 hn hi hj
    rw [sSta_at (by omega) (by omega)] at e5
    rw [sSta_at (by omega) (by omega), sSta_at (by omega) (by omega)]
    exact a7 d h n i j e5 hn hi hj
theorem sBec_sta (v : Nat → Int32) (r : Nat) (s : Int32) : sBec v r s = sSta v r s (-5) := rfl
theorem zH.bec {v : Nat → Int32} {r q : Nat} (hH : zH v) (hq : q ≤ 5) (hq1 : q ≠ 1) : zH (sBec v r (nI q)) :=
  hH.sta ⟨q, hq, rfl⟩ (fun e => absurd ((nI_eq (by omega) (by omega)).mp e) hq1) (fun _ => rfl)
theorem zOp.sta {v : Nat → Int32} {r : Nat} {s a : Int32} (hO : zOp v) (hK : zK v) (h : ¬ s < nI 2 ∨ v (147 + 7 * r + 3) < nI 2) : zOp (sSta v r s a) :=
  hO.of ⟨hK.1, hK.2.1⟩ (sSta_at (by omega) (by omega)) (sSta_at (by omega) (by omega)) (sSta_at (by omega) (by omega)) (fun d _ => sSta_at (by omega) (by omega)) (fun q hq => ⟨sSta_at (by omega) (by omega), by
    by_cases e : q = r
    · subst e
      rw [sSta_3]
      exact h.elim (fun z => Or.inr (Or.inl z)) (fun z => Or.inr (Or.inr z))
    · exact Or.inl (sSta_at (by omega) (by omega))⟩)
/-! numbers -/
theorem nI_div {a b : Nat} (ha : a < 2 ^ 31) (hb : b < 2 ^ 31) (_ : 0 < b) : nI a / nI b = nI (a / b) := (Int32.ofNat_div ha hb).symm
theorem nI_sub {a b : Nat} (h : b ≤ a) : nI a - nI b = nI (a - b) := by
  have e : nI a = nI (a - b) + nI b := by rw [nI_add]; congr 1; omega
  rw [e]; simp
theorem sCnt_le {v : Nat → Int32} {d : Nat} {lo hi : Int32} : ∀ {n : Nat}, sCnt v d lo hi n ≤ n
  | 0 => Nat.le_refl _
  | n + 1 => by
    have := sCnt_le (v := v) (d := d) (lo := lo) (hi := hi) (n := n)
    unfold sCnt
    split <;> omega
theorem sPrice_ok {v : Nat → Int32} {d : Nat} (hH : zH v) (hd : d < nD v) (ho : sOpen v d = true) : ∃ c, c ≤ 700000 ∧ sPrice v d (sLeft v d) = nI c := by
  obtain ⟨⟨a, ha1, ha, ea⟩, ⟨p, hp1, hp, ep⟩, -, ⟨b, hb1, hb, eb⟩, ru, hru, er⟩ := hH.2.2.2.1 d hd
  obtain ⟨t, ht, et⟩ := hH.2.1
  have h60 := hH.1.2.1.2
  have hout : sOut v d ≤ 60 := Nat.le_trans sCnt_le h60
  have hopen : t < a := by
    rw [hH.opn hd, et, ea] at ho
    exact (nI_ltI (by omega) (by omega)).mp (of_decide_eq_true ho)
  have hleft : sLeft v d = nI (a - t) := by unfold sLeft; rw [ea, et]; exact nI_sub (by omega)
  unfold sPrice
  rw [er, eb, ep, hleft]
  by_cases r1 : ru = 1
  · subst r1
    have hm : b * sOut v d ≤ 9999 * 60 := Nat.mul_le_mul hb hout
    have hdv : b * sOut v d / p ≤ b * sOut v d := Nat.div_le_self _ _
    rw [if_pos rfl, nI_mul, nI_div (by omega) (by omega) (by omega), nI_add]
    exact ⟨_, by omega, rfl⟩
  · rw [if_neg (fun e => r1 ((nI_eq (by omega) (by omega)).mp e))]
    by_cases r0 : ru = 0
    · subst r0
      rw [if_pos (show nI 0 = 0 from rfl)]
      exact ⟨b, by omega, rfl⟩
    · rw [if_neg (fun e : nI ru = 0 => r0 ((nI_eq (by omega) (by omega)).mp e))]
      have hmm : ∃ m, m ≤ 29 ∧ (if nI 30 < nI (a - t) then nI 0 else nI 30 - nI (a - t)) = nI m := by
        by_cases q : 30 < a - t
        · exact ⟨0, by omega, by rw [if_pos (nI_lt q (by omega))]⟩
        · exact ⟨30 - (a - t), by omega, by rw [if_neg (nI_nlt (by omega) (by omega)), nI_sub (by omega)]⟩
      obtain ⟨m, hm, em⟩ := hmm
      have hb2 : b * (100 + 2 * m) ≤ 9999 * 158 := Nat.mul_le_mul hb (by omega)
      have hdv : b * (100 + 2 * m) / 100 ≤ b * (100 + 2 * m) := Nat.div_le_self _ _
      rw [em, nI_mul, nI_add, nI_mul, nI_div (by omega) (by omega) (by omega)]
      exact ⟨_, by omega, rfl⟩
theorem sNew_r {v : Nat → Int32} {r d h : Nat} {c : Int32} : sNew2 v r d h c (147 + 7 * r + 2) = c ∧ sNew2 v r d h c (147 + 7 * r + 3) = nI 0 ∧ sNew2 v r d h c (147 + 7 * r + 4) = -5 := by
  unfold sNew2 sNew
  refine ⟨?_, ?_, ?_⟩
  · rw [upd_ne (by omega), upd_ne (by omega), upd_ne (by omega), upd_ne (by omega), upd_ne (by omega), upd_eq]
  · rw [upd_ne (by omega), upd_ne (by omega), upd_ne (by omega), upd_ne (by omega), upd_eq]
  · rw [upd_ne (by omega), upd_ne (by omega), upd_ne (by omega), upd_eq]
theorem zH.new {v : Nat → Int32} {d h c : Nat} (hH : zH v) (hR : nR v < 60) (hd : d < nD v) (hh : h < 10) (hc : c ≤ 700000) : zH (sNew2 v (nR v) d h (nI c)) := by
  obtain ⟨a1, a2, ⟨a3, a4⟩, a5, a6, a7, a8⟩ := hH
  obtain ⟨k1, k2⟩ := a1.new (c := nI c) hR hd hh
  have e1 : sNew2 v (nR v) d h (nI c) 1 = v 1 := sNew2_at (by omega) (by omega)
  refine ⟨k1, by rw [sNew2_at (by omega) (by omega)]; exact a2, ⟨by rw [sNew2_at (by omega) (by omega)]; exact a3, fun i hi => by rw [sNew2_at (by omega) (by omega), sNew2_at (by omega) (by omega)]; exact a4 i hi⟩, fun d' h' => ?_, fun q h' => ?_, fun d' h' => ?_, by rw [sNew2_at (by omega) (by omega)]; exact a8⟩
  · rw [nD_of e1] at h'
    have h10 := a1.1.2
    unfold zHt
    rw [sNew2_at (by omega) (by omega), sNew2_at (by omega) (by omega), sNew2_at (by omega) (by omega), sNew2_at (by omega) (by omega), sNew2_at (by omega) (by omega)]
    exact a5 d' h'
  · rw [k2] at h'
    unfold zHr
    by_cases e : q = nR v
    · subst e
      rw [sNew_r.1, sNew_r.2.1, sNew_r.2.2]
      exact ⟨⟨0, by omega, rfl⟩, ⟨c, hc, rfl⟩, fun z => absurd z (by decide), fun _ => rfl⟩
    · rw [sNew2_at (by omega) (by omega), sNew2_at (by omega) (by omega), sNew2_at (by omega) (by omega)]
      exact a6 q (by omega)
  · intro n i j e5 hn hi hj
    rw [sNew2_at (by omega) (by omega)] at e5
    rw [sNew2_at (by omega) (by omega), sNew2_at (by omega) (by omega)]
    exact a7 d' h' n i j e5 hn hi hj
theorem zOp.new {v : Nat → Int32} {d h : Nat} {c : Int32} (hO : zOp v) (hH : zH v) (hR : nR v < 60) (hd : d < nD v) (hh : h < 10) (ho : sOpen v d = true) : zOp (sNew2 v (nR v) d h c) := by
  obtain ⟨k1, k2⟩ := hH.1.new (c := c) hR hd hh
  have e1 : sNew2 v (nR v) d h c 1 = v 1 := sNew2_at (by omega) (by omega)
  have h10 := hH.1.1.2
  intro q d' b1 b2 b3 b4
  rw [k2] at b1
  rw [nD_of e1] at b4
  rw [sNew2_at (j := 0) (by omega) (by omega), sNew2_at (by omega) (by omega)]
  by_cases e : q = nR v
  · subst e
    rw [sNew2_r0] at b3
    have : d = d' := (nI_eq (by omega) (by omega)).mp b3
    subst this
    rw [hH.opn hd] at ho
    exact of_decide_eq_true ho
  · rw [sNew2_at (by omega) (by omega)] at b2 b3
    exact hO q d' (by omega) b2 b3 b4
theorem zH.sells {v : Nat → Int32} {d h : Nat} (hH : zH v) (hR : nR v < 60) (hd : d < nD v) (hh : h < 10) (ho : sOpen v d = true) : zH (sSells v h d) := by
  obtain ⟨c, hc, ec⟩ := sPrice_ok hH hd ho
  unfold sSells
  rw [ec]
  exact ((hH.new hR hd hh hc).pays hh).log
theorem zOp.sells {v : Nat → Int32} {d h : Nat} (hO : zOp v) (hH : zH v) (hR : nR v < 60) (hd : d < nD v) (hh : h < 10) (ho : sOpen v d = true) : zOp (sSells v h d) := by
  have k1 := (hH.1.new (c := sPrice v d (sLeft v d)) hR hd hh).1
  exact ((hO.new hH hR hd hh ho).pays k1 hh).log (k1.pays hh)
theorem zH.drop {v : Nat → Int32} {d p n : Nat} (hH : zH v) (hd : d < 10) (hn : n ≤ 6) (hp : p < n) (h5 : v (27 + 12 * d + 5) = nI n) : zH (sDrop v d p n) := by
  obtain ⟨a1, a2, ⟨a3, a4⟩, a5, a6, a7, a8⟩ := hH
  have e1 : sDrop v d p n 1 = v 1 := sDrop_at (by omega) (by omega) hp
  have e2 : sDrop v d p n 2 = v 2 := sDrop_at (by omega) (by omega) hp
  refine ⟨a1.drop hd hn hp h5, by rw [sDrop_at (by omega) (by omega) hp]; exact a2, ⟨by rw [sDrop_at (by omega) (by omega) hp]; exact a3, fun i hi => by rw [sDrop_at (by omega) (by omega) hp, sDrop_at (by omega) (by omega) hp]; exact a4 i hi⟩, fun d' h' => ?_, fun q h' => ?_, fun d' h' => ?_, by rw [sDrop_at (by omega) (by omega) hp]; exact a8⟩
  · rw [nD_of e1] at h'
    have h10 := a1.1.2
    unfold zHt
    rw [sDrop_at (by omega) (by omega) hp, sDrop_at (by omega) (by omega) hp, sDrop_at (by omega) (by omega) hp, sDrop_at (by omega) (by omega) hp, sDrop_at (by omega) (by omega) hp]
    exact a5 d' h'
  · rw [nR_of e2] at h'
    have h60 := a1.2.1.2
    unfold zHr
    rw [sDrop_at (by omega) (by omega) hp, sDrop_at (by omega) (by omega) hp, sDrop_at (by omega) (by omega) hp]
    exact a6 q h'
  · intro n' i j e5 hn' hi hj
    by_cases e : d' = d
    · subst e
      rw [sDrop_5 hp h5] at e5
      have en : n - 1 = n' := (nI_eq (by omega) (by omega)).mp e5
      have val : ∀ i, i < n' → ∃ i', i' < n ∧ sDrop v d' p n (27 + 12 * d' + (6 + i)) = v (27 + 12 * d' + (6 + i')) ∧ (i' = if i < p then i else i + 1) := fun i hi => by
        by_cases q : i < p
        · exact ⟨i, by omega, by rw [sDrop_at (by omega) (by omega) hp], by rw [if_pos q]⟩
        · exact ⟨i + 1, by omega, by rw [sDrop_in (by omega) (by omega) hp]; congr 1, by rw [if_neg q]⟩
      obtain ⟨i', hi', ei, wi⟩ := val i hi
      obtain ⟨j', hj', ej, wj⟩ := val j hj
      rw [ei, ej]
      intro z
      have := a7 d' h' n i' j' h5 hn hi' hj' z
      rw [wi, wj] at this
      repeat' split at this
      all_goals omega
    · rw [sDrop_at (by omega) (by omega) hp] at e5
      rw [sDrop_at (by omega) (by omega) hp, sDrop_at (by omega) (by omega) hp]
      exact a7 d' h' n' i j e5 hn' hi hj
theorem zOp.drop {v : Nat → Int32} {d p n : Nat} (hO : zOp v) (hK : zK v) (hd : d < 10) (hn : n ≤ 6) (hp : p < n) : zOp (sDrop v d p n) :=
  hO.of ⟨hK.1, hK.2.1⟩ (sDrop_at (by omega) (by omega) hp) (sDrop_at (by omega) (by omega) hp) (sDrop_at (by omega) (by omega) hp) (fun d a => sDrop_at (by omega) (by omega) hp) (fun r a => ⟨sDrop_at (by omega) (by omega) hp, Or.inl (sDrop_at (by omega) (by omega) hp)⟩)
