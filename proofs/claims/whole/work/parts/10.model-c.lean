theorem z_iincD {l : Launch} {G : zG} {y : MethodName} {cc : ByteArray} {nL : Nat} {ret : Option FieldType} {d : Nat} {rv : Option Value} {Q : zM → Prop} {pc : Nat} {lv : List (Option Value)} {st : List Value} {mm : zM} {a : Nat} (i : Nat) {lv' : List (Option Value)} (ha : 1 ≤ a) (hi : lv[i]? = some (some (.int (nI a)))) (he : lv.set i (some (.int (nI (a - 1)))) = lv') (hd : decode cc pc = .ok (.iinc i (-1), 3)) (k : zV l G (y, cc, nL, ret) d rv Q (pc + 3) lv' st mm) : zV l G (y, cc, nL, ret) d rv Q pc lv st mm :=
  z_iinc i hi (by
    have e : nI a = nI (a - 1) + 1 := by rw [nI_1]; congr 1; omega
    rw [e, show Int32.ofInt (-1) = -1 from rfl, Int32.add_assoc, show (1 : Int32) + -1 = 0 from by decide, Int32.add_zero]) he hd k
/-! the reference's changes -/
def sPays (v : Nat → Int32) (h : Nat) (c : Int32) : Nat → Int32 := upd (upd v (17 + h) (v (17 + h) - c)) 7 (upd v (17 + h) (v (17 + h) - c) 7 + c)
def sBec (v : Nat → Int32) (r : Nat) (s : Int32) : Nat → Int32 := upd (upd v (147 + 7 * r + 3) s) (147 + 7 * r + 4) (-5)
def sShf (v : Nat → Int32) (i : Nat) : Nat → Int32 := fun j => if 606 - i < j ∧ j < 607 then v (j - 4) else v j
def sLog0 (v : Nat → Int32) (k r c : Int32) : Nat → Int32 := upd (upd (upd (upd (sShf v 36) 567 k) 568 r) 569 c) 570 (upd (upd (upd (sShf v 36) 567 k) 568 r) 569 c 0)
def sLog (v : Nat → Int32) (k r c : Int32) : Nat → Int32 := upd (sLog0 v k r c) 8 (sLog0 v k r c 8 + if sLog0 v k r c 8 < nI 10 then nI 1 else nI 0)
def sNew (v : Nat → Int32) (r d h : Nat) (c : Int32) : Nat → Int32 :=
  upd (upd (upd (upd (upd (upd (upd v (147 + 7 * r + 0) (nI d)) (147 + 7 * r + 1) (nI h)) (147 + 7 * r + 2) c) (147 + 7 * r + 3) (nI 0)) (147 + 7 * r + 4) (-5)) (147 + 7 * r + 5) (upd (upd (upd (upd (upd v (147 + 7 * r + 0) (nI d)) (147 + 7 * r + 1) (nI h)) (147 + 7 * r + 2) c) (147 + 7 * r + 3) (nI 0)) (147 + 7 * r + 4) (-5) 0)) (147 + 7 * r + 6) (nI 0)
def sNew2 (v : Nat → Int32) (r d h : Nat) (c : Int32) : Nat → Int32 := upd (sNew v r d h c) 2 (sNew v r d h c 2 + nI 1)
def sSells (v : Nat → Int32) (h d : Nat) : Nat → Int32 := sLog (sPays (sNew2 v (nR v) d h (sPrice v d (sLeft v d))) h (sPrice v d (sLeft v d))) (nI 0) (nI (nR v)) (sPrice v d (sLeft v d))
def sDr (v : Nat → Int32) (d p i : Nat) : Nat → Int32 := fun j => if 27 + 12 * d + 6 + p ≤ j ∧ j < 27 + 12 * d + 6 + p + i then v (j + 1) else v j
def sDrop (v : Nat → Int32) (d p n : Nat) : Nat → Int32 := upd (sDr v d p (n - 1 - p)) (27 + 12 * d + 5) (sDr v d p (n - 1 - p) (27 + 12 * d + 5) - nI 1)
def sLB (d : Nat) : Nat → (Nat → Int32) → (Nat → Int32)
  | 0, v => v
  | n + 1, v => if 0 < sCan v d then sLB d n (sSells (sDrop v d 0 (n + 1)) (v (27 + 12 * d + 6)).toNatClampNeg d) else v
/-! what holds of the indices -/
def zKd (v : Nat → Int32) (d : Nat) : Prop := ∃ n, n ≤ 6 ∧ v (27 + 12 * d + 5) = nI n ∧ ∀ k, k < n → ∃ h, h < 10 ∧ v (27 + 12 * d + (6 + k)) = nI h
def zKr (v : Nat → Int32) (r : Nat) : Prop := (∃ d, d < nD v ∧ v (147 + 7 * r + 0) = nI d) ∧ ∃ h, h < 10 ∧ v (147 + 7 * r + 1) = nI h
def zK (v : Nat → Int32) : Prop := zJ1 v ∧ zJ2 v ∧ (∀ d, d < 10 → zKd v d) ∧ (∀ d, d < nD v → ¬ v (27 + 12 * d + 1) = 0) ∧ ∀ r, r < nR v → zKr v r
theorem nR_of {v w : Nat → Int32} (h : w 2 = v 2) : nR w = nR v := by unfold nR; rw [h]
theorem nD_of {v w : Nat → Int32} (h : w 1 = v 1) : nD w = nD v := by unfold nD; rw [h]
theorem zJ1.of {v w : Nat → Int32} (h : zJ1 v) (e : w 1 = v 1) : zJ1 w := by unfold zJ1 at *; rw [nD_of e, e]; exact h
theorem zJ2.of {v w : Nat → Int32} (h : zJ2 v) (e : w 2 = v 2) : zJ2 w := by unfold zJ2 at *; rw [nR_of e, e]; exact h
theorem zKd.of {v w : Nat → Int32} {d : Nat} (h : zKd v d) (e : ∀ k, 5 ≤ k → k < 12 → w (27 + 12 * d + k) = v (27 + 12 * d + k)) : zKd w d := by
  obtain ⟨n, h1, h2, h3⟩ := h
  exact ⟨n, h1, by rw [e 5 (by omega) (by omega)]; exact h2, fun k hk => by rw [e (6 + k) (by omega) (by omega)]; exact h3 k hk⟩
theorem zKr.of {v w : Nat → Int32} {r : Nat} (h : zKr v r) (e1 : w 1 = v 1) (e : ∀ k, k < 2 → w (147 + 7 * r + k) = v (147 + 7 * r + k)) : zKr w r := by
  unfold zKr
  rw [e 0 (by omega), e 1 (by omega), nD_of e1]; exact h
theorem zK.of {v w : Nat → Int32} (h : zK v) (e1 : w 1 = v 1) (e2 : w 2 = v 2) (ed : ∀ d k, d < 10 → k = 1 ∨ 5 ≤ k → k < 12 → w (27 + 12 * d + k) = v (27 + 12 * d + k)) (er : ∀ r k, r < 60 → k < 2 → w (147 + 7 * r + k) = v (147 + 7 * r + k)) : zK w :=
  ⟨h.1.of e1, h.2.1.of e2, fun d hd => (h.2.2.1 d hd).of (fun k h1 h2 => ed d k hd (Or.inr h1) h2), fun d hd => by
    rw [nD_of e1] at hd
    rw [ed d 1 (by have := h.1.2; omega) (Or.inl rfl) (by omega)]; exact h.2.2.2.1 d hd, fun r hr => by
    rw [nR_of e2] at hr
    exact (h.2.2.2.2 r hr).of e1 (fun k hk => er r k (by have := h.2.1.2; omega) hk)⟩
theorem upd_ne {v : Nat → Int32} {i j : Nat} {x : Int32} (h : j ≠ i) : upd v i x j = v j := by simp [upd, h]
theorem upd_eq {v : Nat → Int32} {i : Nat} {x : Int32} : upd v i x i = x := by simp [upd]
theorem sPays_at {v : Nat → Int32} {h : Nat} {c : Int32} {j : Nat} (h7 : j ≠ 7) (hj : j ≠ 17 + h) : sPays v h c j = v j := by unfold sPays; rw [upd_ne h7, upd_ne hj]
theorem sBec_at {v : Nat → Int32} {r : Nat} {s : Int32} {j : Nat} (h3 : j ≠ 147 + 7 * r + 3) (h4 : j ≠ 147 + 7 * r + 4) : sBec v r s j = v j := by unfold sBec; rw [upd_ne h4, upd_ne h3]
theorem sLog_at {v : Nat → Int32} {k r c : Int32} {j : Nat} (h8 : j ≠ 8) (hj : j < 567) : sLog v k r c j = v j := by
  unfold sLog sLog0
  rw [upd_ne h8, upd_ne (by omega), upd_ne (by omega), upd_ne (by omega), upd_ne (by omega), sShf, if_neg (by omega)]
theorem sNew2_at {v : Nat → Int32} {r d h : Nat} {c : Int32} {j : Nat} (h2 : j ≠ 2) (hj : j < 147 + 7 * r ∨ 147 + 7 * r + 7 ≤ j) : sNew2 v r d h c j = v j := by
  unfold sNew2 sNew
  rw [upd_ne h2, upd_ne (by omega), upd_ne (by omega), upd_ne (by omega), upd_ne (by omega), upd_ne (by omega), upd_ne (by omega), upd_ne (by omega)]
theorem zK.pays {v : Nat → Int32} {h : Nat} {c : Int32} (hK : zK v) (hh : h < 10) : zK (sPays v h c) :=
  hK.of (sPays_at (by omega) (by omega)) (sPays_at (by omega) (by omega)) (fun d k hd hk h12 => sPays_at (by omega) (by omega)) (fun r k hr hk => sPays_at (by omega) (by omega))
theorem zK.bec {v : Nat → Int32} {r : Nat} {s : Int32} (hK : zK v) : zK (sBec v r s) :=
  hK.of (sBec_at (by omega) (by omega)) (sBec_at (by omega) (by omega)) (fun d k hd hk h12 => sBec_at (by omega) (by omega)) (fun r k hr hk => sBec_at (by omega) (by omega))
theorem zK.log {v : Nat → Int32} {k r c : Int32} (hK : zK v) : zK (sLog v k r c) :=
  hK.of (sLog_at (by omega) (by omega)) (sLog_at (by omega) (by omega)) (fun d k hd hk h12 => sLog_at (by omega) (by omega)) (fun r k hr hk => sLog_at (by omega) (by omega))
theorem sNew2_2 {v : Nat → Int32} {r d h : Nat} {c : Int32} : sNew2 v r d h c 2 = v 2 + nI 1 := by
  unfold sNew2
  rw [upd_eq]
  unfold sNew
  rw [upd_ne (by omega), upd_ne (by omega), upd_ne (by omega), upd_ne (by omega), upd_ne (by omega), upd_ne (by omega), upd_ne (by omega)]
theorem sNew2_r0 {v : Nat → Int32} {r d h : Nat} {c : Int32} : sNew2 v r d h c (147 + 7 * r + 0) = nI d := by
  unfold sNew2 sNew
  rw [upd_ne (by omega), upd_ne (by omega), upd_ne (by omega), upd_ne (by omega), upd_ne (by omega), upd_ne (by omega), upd_ne (by omega), upd_eq]
theorem sNew2_r1 {v : Nat → Int32} {r d h : Nat} {c : Int32} : sNew2 v r d h c (147 + 7 * r + 1) = nI h := by
  unfold sNew2 sNew
  rw [upd_ne (by omega), upd_ne (by omega), upd_ne (by omega), upd_ne (by omega), upd_ne (by omega), upd_ne (by omega), upd_eq]
theorem zK.new {v : Nat → Int32} {d h : Nat} {c : Int32} (hK : zK v) (hR : nR v < 60) (hd : d < nD v) (hh : h < 10) : zK (sNew2 v (nR v) d h c) ∧ nR (sNew2 v (nR v) d h c) = nR v + 1 := by
  have e1 : sNew2 v (nR v) d h c 1 = v 1 := sNew2_at (by omega) (by omega)
  have e2 : sNew2 v (nR v) d h c 2 = nI (nR v + 1) := by rw [sNew2_2, hK.2.1.1, nI_add]
  have hR1 : nR (sNew2 v (nR v) d h c) = nR v + 1 := by unfold nR at e2 ⊢; rw [e2]; exact nI_clamp (by have := hK.2.1.2; unfold nR at this; omega)
  refine ⟨⟨hK.1.of e1, ⟨by rw [hR1, e2], by omega⟩, fun d hd => (hK.2.2.1 d hd).of (fun k h1 h2 => sNew2_at (by omega) (by omega)), fun d hd => ?_, fun r hr => ?_⟩, hR1⟩
  · rw [nD_of e1] at hd
    rw [sNew2_at (by omega) (by have := hK.1.2; omega)]; exact hK.2.2.2.1 d hd
  · rw [hR1] at hr
    by_cases e : r = nR v
    · subst e
      exact ⟨⟨d, by rw [nD_of e1]; exact hd, sNew2_r0⟩, h, hh, sNew2_r1⟩
    · exact (hK.2.2.2.2 r (by omega)).of e1 (fun k hk => sNew2_at (by omega) (by omega))
theorem zK.sells {v : Nat → Int32} {d h : Nat} (hK : zK v) (hR : nR v < 60) (hd : d < nD v) (hh : h < 10) : zK (sSells v h d) := ((hK.new hR hd hh).1.pays hh).log
theorem sSells_at {v : Nat → Int32} {d h j : Nat} (h2 : j ≠ 2) (h7 : j ≠ 7) (h8 : j ≠ 8) (hh : j ≠ 17 + h) (hj : j < 147 ∨ (147 + 7 * nR v + 7 ≤ j ∧ j < 567)) : sSells v h d j = v j := by
  unfold sSells
  rw [sLog_at h8 (by omega), sPays_at h7 hh, sNew2_at h2 (by omega)]
theorem sDrop_at {v : Nat → Int32} {d p n j : Nat} (h5 : j ≠ 27 + 12 * d + 5) (hj : j < 27 + 12 * d + 6 + p ∨ 27 + 12 * d + 6 + n - 1 ≤ j) (hp : p < n) : sDrop v d p n j = v j := by
  unfold sDrop
  rw [upd_ne h5, sDr, if_neg (by omega)]
theorem sDrop_in {v : Nat → Int32} {d p n j : Nat} (h1 : 27 + 12 * d + 6 + p ≤ j) (h2 : j < 27 + 12 * d + 6 + n - 1) (hp : p < n) : sDrop v d p n j = v (j + 1) := by
  unfold sDrop
  rw [upd_ne (by omega), sDr, if_pos (by omega)]
theorem sDrop_5 {v : Nat → Int32} {d p n : Nat} (hp : p < n) (h : v (27 + 12 * d + 5) = nI n) : sDrop v d p n (27 + 12 * d + 5) = nI (n - 1) := by
  unfold sDrop
  rw [upd_eq, sDr, if_neg (by omega), h]
  have e : nI n = nI (n - 1 + 1) := by congr 1; omega
  rw [e]; exact nI_pred _
theorem zK.drop {v : Nat → Int32} {d p n : Nat} (hK : zK v) (hd : d < 10) (hn : n ≤ 6) (hp : p < n) (h5 : v (27 + 12 * d + 5) = nI n) : zK (sDrop v d p n) := by
  have e1 : sDrop v d p n 1 = v 1 := sDrop_at (by omega) (by omega) hp
  have e2 : sDrop v d p n 2 = v 2 := sDrop_at (by omega) (by omega) hp
  refine ⟨hK.1.of e1, hK.2.1.of e2, fun d' hd' => ?_, fun d' hd' => ?_, fun r hr => ?_⟩
  · by_cases e : d' = d
    · subst e
      obtain ⟨n', q1, q2, q3⟩ := hK.2.2.1 d' hd
      have en : n' = n := (nI_eq (by omega) (by omega)).mp (q2.symm.trans h5)
      subst en
      refine ⟨n' - 1, by omega, sDrop_5 hp h5, fun k hk => ?_⟩
      by_cases hkp : k < p
      · rw [sDrop_at (by omega) (by omega) hp]; exact q3 k (by omega)
      · rw [sDrop_in (by omega) (by omega) hp]
        exact q3 (k + 1) (by omega)
    · refine (hK.2.2.1 d' hd').of (fun k h1 h2 => sDrop_at (by omega) (by omega) hp)
  · rw [nD_of e1] at hd'
    rw [sDrop_at (by have := hK.1.2; omega) (by have := hK.1.2; omega) hp]; exact hK.2.2.2.1 d' hd'
  · rw [nR_of e2] at hr
    exact (hK.2.2.2.2 r hr).of e1 (fun k hk => sDrop_at (by omega) (by omega) hp)
theorem sCan_pos {v : Nat → Int32} {d : Nat} (hJ : zJ2 v) (h : 0 < sCan v d) : nR v < 60 ∧ sOpen v d = true := by
  unfold sCan at h
  split at h
  · rename_i q
    refine ⟨?_, q.2⟩
    rcases Nat.lt_or_ge (nR v) 60 with z | z
    · exact z
    · have e : nR v = 60 := by have := hJ.2; omega
      have e2 : nI 60 - v 2 = 0 := by rw [hJ.1, e]; decide
      have h0 := q.1
      unfold sSell0 at h0
      rw [e2] at h0
      split at h0
      · rename_i h1
        exact absurd (Int32.lt_trans h0 h1) (by decide)
      · exact absurd h0 (by decide)
  · exact absurd h (by decide)
