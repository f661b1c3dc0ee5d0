/-! ===== what the law's acts come to ===== -/
theorem sLog_567 {v : Nat → Int32} {k r c : Int32} : sLog v k r c 567 = k := by
  unfold sLog sLog0
  rw [upd_ne (by omega), upd_ne (by omega), upd_ne (by omega), upd_ne (by omega), upd_eq]
theorem sLog_569 {v : Nat → Int32} {k r c : Int32} : sLog v k r c 569 = c := by
  unfold sLog sLog0
  rw [upd_ne (by omega), upd_ne (by omega), upd_eq]
theorem sLog_n8 {v : Nat → Int32} {k r c : Int32} (h : ∃ e, e ≤ 10 ∧ v 8 = nI e) : ¬ sLog v k r c 8 = nI 0 := by
  obtain ⟨e, he, e8⟩ := h
  have h0 : sLog0 v k r c 8 = nI e := by unfold sLog0; rw [upd_ne (by omega), upd_ne (by omega), upd_ne (by omega), upd_ne (by omega), sShf, if_neg (by omega)]; exact e8
  unfold sLog
  rw [upd_eq, h0]
  by_cases q : e < 10
  · rw [if_pos (nI_lt q (by omega)), nI_add]
    exact fun z => by have := (nI_eq (by omega) (by omega)).mp z; omega
  · rw [if_neg (nI_nlt (by omega) (by omega)), nI_add]
    exact fun z => by have := (nI_eq (by omega) (by omega)).mp z; omega
theorem sSells_facts {v : Nat → Int32} {d h : Nat} (hR : nR v < 60) (hh : h < 10) (h8 : ∃ e, e ≤ 10 ∧ v 8 = nI e) :
    sSells v h d (147 + 7 * nR v + 2) = sPrice v d (sLeft v d) ∧ sSells v h d (147 + 7 * nR v + 5) = v 0 ∧ sSells v h d (17 + h) = v (17 + h) - sPrice v d (sLeft v d) ∧ sSells v h d 569 = sPrice v d (sLeft v d) ∧ sSells v h d 567 = nI 0 ∧ ¬ sSells v h d 8 = nI 0 := by
  unfold sSells
  refine ⟨?_, ?_, ?_, sLog_569, sLog_567, sLog_n8 (by rw [sPays_at (by omega) (by omega), sNew2_at (by omega) (by omega)]; exact h8)⟩
  · rw [sLog_at (by omega) (by omega), sPays_at (by omega) (by omega)]; exact sNew_r.1
  · rw [sLog_at (by omega) (by omega), sPays_at (by omega) (by omega)]
    unfold sNew2 sNew
    rw [upd_ne (by omega), upd_ne (by omega), upd_eq, upd_ne (by omega), upd_ne (by omega), upd_ne (by omega), upd_ne (by omega), upd_ne (by omega)]
  · rw [sLog_at (by omega) (by omega), sPays_h, sNew2_at (by omega) (by omega)]
theorem a_buyN {v : Nat → Int32} {h d : Nat} (hJ : zJ1 v) (hh : h < 10) (hd : d < nD v) (ho : sOpen v d = false) : sDoBuy v (nI h) (nI d) = (-4, v) := by
  have h10 := hJ.2
  unfold sDoBuy
  rw [hJ.1, if_pos ⟨zIn_ok (Nat.zero_le _) (by omega) (by omega), zIn_okp hd (by omega)⟩, zn_nI (show d < 2 ^ 31 by omega), ho]; rfl
theorem a_buyF {v : Nat → Int32} {h d : Nat} (hJ : zJ1 v) (hh : h < 10) (hd : d < nD v) (ho : sOpen v d = true) (hc : sCan v d = 0) : sDoBuy v (nI h) (nI d) = (-3, v) := by
  have h10 := hJ.2
  unfold sDoBuy
  rw [hJ.1, if_pos ⟨zIn_ok (Nat.zero_le _) (by omega) (by omega), zIn_okp hd (by omega)⟩, zn_nI (show d < 2 ^ 31 by omega), ho, if_pos rfl, if_pos hc]
theorem a_buy {v : Nat → Int32} {h d : Nat} (hJ : zJ1 v) (hh : h < 10) (hd : d < nD v) (ho : sOpen v d = true) (hc : ¬ sCan v d = 0) : sDoBuy v (nI h) (nI d) = (nI (nR v), sSells v h d) := by
  have h10 := hJ.2
  unfold sDoBuy
  rw [hJ.1, if_pos ⟨zIn_ok (Nat.zero_le _) (by omega) (by omega), zIn_okp hd (by omega)⟩, zn_nI (show d < 2 ^ 31 by omega), ho, if_pos rfl, if_neg hc, zn_nI (by omega)]
/-- an offered right is sold on -/
theorem a_offN {v : Nat → Int32} {h d : Nat} (hJ : zJ1 v) (hh : h < 10) (hd : d < nD v) (hn : sLow v d (nI 1) 4 (nR v) = none ∨ ∃ r, sLow v d (nI 1) 4 (nR v) = some r ∧ v (147 + 7 * r + 1) = nI h) : sDoOff v (nI h) (nI d) = (-4, v) := by
  have h10 := hJ.2
  unfold sDoOff
  rw [hJ.1, if_pos ⟨zIn_ok (Nat.zero_le _) (by omega) (by omega), zIn_okp hd (by omega)⟩, zn_nI (show d < 2 ^ 31 by omega)]
  rcases hn with z | ⟨r, z, w⟩
  · rw [z]
  · rw [z]
    show (if v (147 + 7 * r + 1) = nI h then _ else _) = _
    rw [if_pos w]
theorem a_off {v : Nat → Int32} {h d r g : Nat} (hJ : zJ1 v) (hh : h < 10) (hd : d < nD v) (hn : sLow v d (nI 1) 4 (nR v) = some r) (hg : g < 10) (e1 : v (147 + 7 * r + 1) = nI g) (hne : g ≠ h) : sDoOff v (nI h) (nI d) = (nI r, sOff v r h g) := by
  have h10 := hJ.2
  unfold sDoOff
  rw [hJ.1, if_pos ⟨zIn_ok (Nat.zero_le _) (by omega) (by omega), zIn_okp hd (by omega)⟩, zn_nI (show d < 2 ^ 31 by omega), hn]
  show (if v (147 + 7 * r + 1) = nI h then _ else _) = _
  rw [if_neg (by rw [e1]; exact fun z => hne ((nI_eq (by omega) (by omega)).mp z)), e1, zn_nI (by omega), zn_nI (by omega)]
theorem sOff_at {v : Nat → Int32} {r h g j : Nat} (hh : h < 10) (hg : g < 10) (h7 : j ≠ 7) (h8 : j ≠ 8) (ha : j < 17 ∨ 27 ≤ j) (h2 : j < 567) (hr : j < 147 + 7 * r ∨ 147 + 7 * r + 7 ≤ j) : sOff v r h g j = v j := by
  unfold sOff sOff2
  rw [sLog_at h8 h2, sBec_at (by omega) (by omega), upd_ne (by omega), upd_ne (by omega), sPays_at h7 (by omega), sPays_at h7 (by omega)]
theorem sOff_facts {v : Nat → Int32} {r h g : Nat} (hr : r < 60) (hh : h < 10) (hg : g < 10) (hne : g ≠ h) : sOff v r h g (147 + 7 * r + 1) = nI h ∧ sOff v r h g (147 + 7 * r + 3) = nI 0 ∧ sOff v r h g (17 + h) = v (17 + h) - v (147 + 7 * r + 4) ∧ sOff v r h g 7 = v 7 + v (147 + 7 * r + 4) * v 4 / nI 100 := by
  unfold sOff sOff2
  refine ⟨?_, ?_, ?_, ?_⟩
  · rw [sLog_at (by omega) (by omega), sBec_at (by omega) (by omega), upd_ne (by omega), upd_eq]
  · rw [sLog_at (by omega) (by omega), sBec_sta, sSta_3]
  · rw [sLog_at (by omega) (by omega), sBec_at (by omega) (by omega), upd_ne (by omega), upd_ne (by omega), sPays_at (by omega) (by omega), sPays_h]
  · rw [sLog_at (by omega) (by omega), sBec_at (by omega) (by omega), upd_ne (by omega), upd_ne (by omega), sPays_7, sPays_7]
    generalize v (147 + 7 * r + 4) * v 4 / nI 100 = x
    generalize v (147 + 7 * r + 4) = y
    rw [Int32.sub_eq_add_neg, show v 7 + y + (x + -y) = v 7 + x + (y + -y) from by ac_rfl, Int32.add_right_neg, Int32.add_zero]
/-- a list buys: rights that were there stay, and if it buys, the latest event is a sale -/
theorem lb_facts {d : Nat} : ∀ (n : Nat) (v : Nat → Int32), zH v → d < nD v → v (27 + 12 * d + 5) = nI n → n ≤ 6 → (sLB d n v = v ∨ (sLB d n v 567 = nI 0 ∧ ¬ sLB d n v 8 = nI 0)) ∧ (∀ r k, r < nR v → k < 7 → sLB d n v (147 + 7 * r + k) = v (147 + 7 * r + k))
  | 0, v, _, _, _, _ => ⟨Or.inl rfl, fun _ _ _ _ => rfl⟩
  | n + 1, v, hH, hd, h5, hn => by
    have hK := hH.1
    have hd10 := hK.1.2
    have h60 := hK.2.1.2
    unfold sLB
    by_cases hc : 0 < sCan v d
    · rw [if_pos hc]
      obtain ⟨hR, hop⟩ := sCan_pos hK.2.1 hc
      obtain ⟨n9, u1, u2, u3⟩ := hK.2.2.1 d (by omega)
      have en : n9 = n + 1 := (nI_eq (by omega) (by omega)).mp (u2.symm.trans h5)
      subst en
      obtain ⟨h, hh, e6⟩ := u3 0 (by omega)
      have e6 : v (27 + 12 * d + 6) = nI h := e6
      rw [e6, nI_clamp (by omega)]
      have hH1 := hH.drop (p := 0) (by omega) (by omega) (by omega) h5
      have hK1 := hH1.1
      have eR : nR (sDrop v d 0 (n + 1)) = nR v := nR_of (sDrop_at (by omega) (by omega) (by omega))
      have e1 : sDrop v d 0 (n + 1) 1 = v 1 := sDrop_at (by omega) (by omega) (by omega)
      have e0 : sDrop v d 0 (n + 1) 0 = v 0 := sDrop_at (by omega) (by omega) (by omega)
      have eD : nD (sDrop v d 0 (n + 1)) = nD v := nD_of e1
      have hop1 : sOpen (sDrop v d 0 (n + 1)) d = true := by unfold sOpen sLeft; rw [e0, sDrop_at (by omega) (by omega) (by omega)]; exact hop
      have hH2 := hH1.sells (d := d) (h := h) (by omega) (by omega) hh hop1
      have h5b : sSells (sDrop v d 0 (n + 1)) h d (27 + 12 * d + 5) = nI n := by rw [sSells_at (by omega) (by omega) (by omega) (by omega) (by omega)]; exact sDrop_5 (by omega) h5
      have e1b : sSells (sDrop v d 0 (n + 1)) h d 1 = v 1 := by rw [sSells_at (by omega) (by omega) (by omega) (by omega) (by omega)]; exact e1
      have eR2 := sSells_R (d := d) (h := h) hK1 (by omega) (by omega) hh
      obtain ⟨-, -, -, -, f1, f2⟩ := sSells_facts (d := d) (h := h) (v := sDrop v d 0 (n + 1)) (by omega) hh hH1.2.2.2.2.2.2
      obtain ⟨z1, z2⟩ := lb_facts n _ hH2 (by rw [nD_of e1b]; exact hd) h5b (by omega)
      refine ⟨Or.inr ?_, fun r k hr hk => ?_⟩
      · rcases z1 with z | z
        · rw [z]; exact ⟨f1, f2⟩
        · exact z
      · rw [z2 r k (by omega) hk]
        unfold sSells
        rw [sLog_at (by omega) (by omega), sPays_at (by omega) (by omega), sNew2_at (by omega) (by omega), sDrop_at (by omega) (by omega) (by omega)]
    · rw [if_neg hc]; exact ⟨Or.inl rfl, fun _ _ _ _ => rfl⟩
/-- a right that can't be told of -/
theorem zIn_ge {r n : Nat} (hr : n ≤ r) (h : r < 2 ^ 30) : zIn (nI r) (nI 0) (nI n - nI 1) = false := by
  unfold zIn
  rw [Bool.and_eq_false_iff]
  right
  rw [decide_eq_false_iff_not, Int32.le_iff_toInt_le, nI_toInt (by omega), pk_sub_toInt (by omega) (by omega)]
  omega
theorem a_canN {v : Nat → Int32} {x : Int32} (h : zIn x (nI 0) (v 2 - nI 1) = false) : sDoCan v x = (-1, v) := by unfold sDoCan; rw [h]; rfl
theorem a_exN {v : Nat → Int32} {x : Int32} (h : zIn x (nI 0) (v 2 - nI 1) = false) : sDoEx v x = (-1, v) := by unfold sDoEx; rw [h]; rfl
theorem a_ofrN {v : Nat → Int32} {x p : Int32} (h : zIn x (nI 0) (v 2 - nI 1) = false) : sDoOfr v x p = (-1, v) := by unfold sDoOfr; rw [h]; rfl
theorem a_tkN {v : Nat → Int32} {x : Int32} (h : zIn x (nI 0) (v 2 - nI 1) = false) : sTk v x = (-1, v, false) := by unfold sTk; rw [h]; rfl
theorem a_canP {v : Nat → Int32} {r s : Nat} (hJ : zJ2 v) (hr : r < nR v) (e3 : v (147 + 7 * r + 3) = nI s) (hs : s ≤ 5) (h2 : 2 ≤ s) : sDoCan v (nI r) = (-4, v) := by
  have h60 := hJ.2
  unfold sDoCan
  rw [hJ.1, if_pos (zIn_okp hr (by omega)), zn_nI (show r < 2 ^ 31 by omega), e3, if_neg (nI_nlt h2 (by omega))]
theorem a_can {v : Nat → Int32} {r s d g n : Nat} (hJ : zJ2 v) (hr : r < nR v) (e3 : v (147 + 7 * r + 3) = nI s) (h2 : s < 2) (hd : d < 10) (e0 : v (147 + 7 * r + 0) = nI d) (hg : g < 10) (e1 : v (147 + 7 * r + 1) = nI g) (hn : n ≤ 6) (e5 : v (27 + 12 * d + 5) = nI n) : sDoCan v (nI r) = (sRef v r d, sLB d n (sCan1 v r d g)) := by
  have h60 := hJ.2
  unfold sDoCan
  rw [hJ.1, if_pos (zIn_okp hr (by omega)), zn_nI (show r < 2 ^ 31 by omega), e3, if_pos (nI_lt h2 (by omega)), e0, e1, zn_nI (show d < 2 ^ 31 by omega), zn_nI (show g < 2 ^ 31 by omega), e5, zn_nI (show n < 2 ^ 31 by omega)]
/-- behind a cancelling -/
theorem can_facts {v : Nat → Int32} {r d g n : Nat} (hI : zI v) (hr : r < nR v) (hd : d < nD v) (hg : g < 10) (e5 : v (27 + 12 * d + 5) = nI n) (hn : n ≤ 6) : nR v ≤ nR (sLB d n (sCan1 v r d g)) ∧ sLB d n (sCan1 v r d g) (147 + 7 * r + 3) = nI 3 ∧ ((sLB d n (sCan1 v r d g) (17 + g) = v (17 + g) + sRef v r d) ∨ (sLB d n (sCan1 v r d g) 567 = nI 0 ∧ ¬ sLB d n (sCan1 v r d g) 8 = nI 0)) := by
  have h60 := hI.1.1.2.1.2
  have h10 := hI.1.1.1.2
  have i1 : zI (sCan1 v r d g) := ((hI.pays (c := -sRef v r d) hg).bec (r := r) (q := 3) (by omega) (by omega) (Or.inl (by decide))).log
  have a1 : sCan1 v r d g 1 = v 1 := by unfold sCan1; rw [sLog_at (by omega) (by omega), sBec_at (by omega) (by omega), sPays_at (by omega) (by omega)]
  have a2 : sCan1 v r d g 2 = v 2 := by unfold sCan1; rw [sLog_at (by omega) (by omega), sBec_at (by omega) (by omega), sPays_at (by omega) (by omega)]
  have a5 : sCan1 v r d g (27 + 12 * d + 5) = nI n := by unfold sCan1; rw [sLog_at (by omega) (by omega), sBec_at (by omega) (by omega), sPays_at (by omega) (by omega)]; exact e5
  have a3 : sCan1 v r d g (147 + 7 * r + 3) = nI 3 := by unfold sCan1; rw [sLog_at (by omega) (by omega), sBec_sta, sSta_3]
  have ah : sCan1 v r d g (17 + g) = v (17 + g) + sRef v r d := by unfold sCan1; rw [sLog_at (by omega) (by omega), sBec_at (by omega) (by omega), sPays_h, Int32.sub_neg]
  obtain ⟨-, -, -, z4⟩ := sLB_H n _ i1.1 (by rw [nD_of a1]; exact hd) a5 hn
  obtain ⟨z1, z2⟩ := lb_facts n _ i1.1 (by rw [nD_of a1]; exact hd) a5 hn
  rw [nR_of a2] at z4 z2
  refine ⟨z4, by rw [z2 r 3 hr (by omega)]; exact a3, ?_⟩
  rcases z1 with z | z
  · left; rw [z]; exact ah
  · exact Or.inr z
theorem a_exP {v : Nat → Int32} {r d : Nat} (hJ : zJ2 v) (hr : r < nR v) (hd : d < 10) (e0 : v (147 + 7 * r + 0) = nI d) (hx : sEx v r d = false) : sDoEx v (nI r) = (-4, v) := by
  have h60 := hJ.2
  unfold sDoEx
  rw [hJ.1, if_pos (zIn_okp hr (by omega)), zn_nI (show r < 2 ^ 31 by omega), e0, zn_nI (show d < 2 ^ 31 by omega), hx]; rfl
theorem a_ex {v : Nat → Int32} {r d g : Nat} (hJ : zJ2 v) (hr : r < nR v) (hd : d < 10) (e0 : v (147 + 7 * r + 0) = nI d) (hg : g < 10) (e1 : v (147 + 7 * r + 1) = nI g) (hx : sEx v r d = true) : sDoEx v (nI r) = (nI (sOf v d (nI 2) (nI 2) + 1), sEx1 v r g) := by
  have h60 := hJ.2
  unfold sDoEx
  rw [hJ.1, if_pos (zIn_okp hr (by omega)), zn_nI (show r < 2 ^ 31 by omega), e0, zn_nI (show d < 2 ^ 31 by omega), hx, if_pos rfl, e1, zn_nI (show g < 2 ^ 31 by omega), sEx1_cnt hJ hr hg e0 (sEx_st hx).1]
theorem sEx1_acc {v : Nat → Int32} {r g : Nat} (hg : g < 10) (_ : r < 60) : sEx1 v r g (17 + g) = v (17 + g) - v 6 := by
  unfold sEx1; rw [sLog_at (by omega) (by omega), sBec_at (by omega) (by omega), sPays_h]
theorem a_ofrP {v : Nat → Int32} {r s : Nat} {p : Int32} (hJ : zJ2 v) (hr : r < nR v) (e3 : v (147 + 7 * r + 3) = nI s) (hs : s ≤ 5) (h2 : 2 ≤ s) : sDoOfr v (nI r) p = (-4, v) := by
  have h60 := hJ.2
  unfold sDoOfr
  rw [hJ.1, if_pos (zIn_okp hr (by omega)), zn_nI (show r < 2 ^ 31 by omega), e3, if_neg (nI_nlt h2 (by omega))]
theorem a_ofrB {v : Nat → Int32} {r s d b p : Nat} (hJ : zJ2 v) (hr : r < nR v) (e3 : v (147 + 7 * r + 3) = nI s) (h2 : s < 2) (hd : d < 10) (e0 : v (147 + 7 * r + 0) = nI d) (hb : b ≤ 9999) (eb : v (27 + 12 * d + 3) = nI b) (hp : 2 * b < p) (hp2 : p < 2 ^ 30) : sDoOfr v (nI r) (nI p) = (-2, v) := by
  have h60 := hJ.2
  unfold sDoOfr
  rw [hJ.1, if_pos (zIn_okp hr (by omega)), zn_nI (show r < 2 ^ 31 by omega), e3, if_pos (nI_lt h2 (by omega)), e0, zn_nI (show d < 2 ^ 31 by omega), eb, nI_mul, if_neg]
  unfold zIn
  rw [Bool.and_eq_true, decide_eq_true_eq, decide_eq_true_eq]
  exact fun z => by have := (nI_leI (by omega) (by omega)).mp z.2; omega
theorem a_ofrS {v : Nat → Int32} {r s d b p : Nat} (hJ : zJ2 v) (hr : r < nR v) (e3 : v (147 + 7 * r + 3) = nI s) (h2 : s < 2) (hd : d < 10) (e0 : v (147 + 7 * r + 0) = nI d) (hb : b ≤ 9999) (eb : v (27 + 12 * d + 3) = nI b) (hp : p ≤ 2 * b) (hp1 : 1 ≤ p) (e4 : v (147 + 7 * r + 4) = nI p) : sDoOfr v (nI r) (nI p) = (-5, v) := by
  have h60 := hJ.2
  unfold sDoOfr
  rw [hJ.1, if_pos (zIn_okp hr (by omega)), zn_nI (show r < 2 ^ 31 by omega), e3, if_pos (nI_lt h2 (by omega)), e0, zn_nI (show d < 2 ^ 31 by omega), eb, nI_mul, if_pos (zIn_ok hp1 hp (by omega)), if_pos e4]
theorem a_ofr {v : Nat → Int32} {r s d b p : Nat} (hJ : zJ2 v) (hr : r < nR v) (e3 : v (147 + 7 * r + 3) = nI s) (h2 : s < 2) (hd : d < 10) (e0 : v (147 + 7 * r + 0) = nI d) (hb : b ≤ 9999) (eb : v (27 + 12 * d + 3) = nI b) (hp : p ≤ 2 * b) (hp1 : 1 ≤ p) (e4 : ¬ v (147 + 7 * r + 4) = nI p) : sDoOfr v (nI r) (nI p) = (if 0 ≤ v (147 + 7 * r + 4) then v (147 + 7 * r + 4) else nI 0, sLog (sSta v r (nI 1) (nI p)) (nI 2) (nI r) (nI p)) := by
  have h60 := hJ.2
  unfold sDoOfr
  rw [hJ.1, if_pos (zIn_okp hr (by omega)), zn_nI (show r < 2 ^ 31 by omega), e3, if_pos (nI_lt h2 (by omega)), e0, zn_nI (show d < 2 ^ 31 by omega), eb, nI_mul, if_pos (zIn_ok hp1 hp (by omega)), if_neg e4]
  rfl
theorem a_tkP {v : Nat → Int32} {r s : Nat} (hJ : zJ2 v) (hr : r < nR v) (e3 : v (147 + 7 * r + 3) = nI s) (hs : s ≤ 5) (h1 : s ≠ 1) : sTk v (nI r) = (-4, v, false) := by
  have h60 := hJ.2
  unfold sTk
  rw [hJ.1, if_pos (zIn_okp hr (by omega)), zn_nI (show r < 2 ^ 31 by omega), e3, if_neg (fun z => h1 ((nI_eq (by omega) (by omega)).mp z))]
theorem a_tk {v : Nat → Int32} {r : Nat} (hJ : zJ2 v) (hr : r < nR v) (e3 : v (147 + 7 * r + 3) = nI 1) : sTk v (nI r) = (v (147 + 7 * r + 4), sBec v r (nI 0), true) := by
  have h60 := hJ.2
  unfold sTk
  rw [hJ.1, if_pos (zIn_okp hr (by omega)), zn_nI (show r < 2 ^ 31 by omega), e3, if_pos rfl]
/-- onto a list, and from it -/
theorem a_awN {v : Nat → Int32} {h d n : Nat} (hJ : zJ1 v) (hh : h < 10) (hd : d < nD v) (hn : n ≤ 6) (e5 : v (27 + 12 * d + 5) = nI n) (hno : ¬ (sOpen v d = true ∧ sPl v d (nI h) n < 0)) : sAw v (nI h) (nI d) = (-4, v, false) := by
  have h10 := hJ.2
  unfold sAw
  rw [hJ.1, if_pos ⟨zIn_ok (Nat.zero_le _) (by omega) (by omega), zIn_okp hd (by omega)⟩, zn_nI (show d < 2 ^ 31 by omega), e5, zn_nI (show n < 2 ^ 31 by omega), if_neg hno]
theorem a_awF {v : Nat → Int32} {h d : Nat} (hJ : zJ1 v) (hh : h < 10) (hd : d < nD v) (e5 : v (27 + 12 * d + 5) = nI 6) (hok : sOpen v d = true ∧ sPl v d (nI h) 6 < 0) : sAw v (nI h) (nI d) = (-3, v, false) := by
  have h10 := hJ.2
  unfold sAw
  rw [hJ.1, if_pos ⟨zIn_ok (Nat.zero_le _) (by omega) (by omega), zIn_okp hd (by omega)⟩, zn_nI (show d < 2 ^ 31 by omega), e5, zn_nI (show 6 < 2 ^ 31 by omega), if_pos hok, if_pos rfl]
theorem a_aw {v : Nat → Int32} {h d n : Nat} (hJ : zJ1 v) (hh : h < 10) (hd : d < nD v) (hn : n < 6) (e5 : v (27 + 12 * d + 5) = nI n) (hok : sOpen v d = true ∧ sPl v d (nI h) n < 0) : sAw v (nI h) (nI d) = (nI (n + 1), sAw1 v d n (nI h), true) := by
  have h10 := hJ.2
  unfold sAw
  rw [hJ.1, if_pos ⟨zIn_ok (Nat.zero_le _) (by omega) (by omega), zIn_okp hd (by omega)⟩, zn_nI (show d < 2 ^ 31 by omega), e5, zn_nI (show n < 2 ^ 31 by omega), if_pos hok, if_neg (fun z => by have := (nI_eq (by omega) (by omega)).mp z; omega)]
theorem sAw1_at {v : Nat → Int32} {d n j : Nat} {x : Int32} (a : j ≠ 27 + 12 * d + (6 + n)) (b : j ≠ 27 + 12 * d + 5) : sAw1 v d n x j = v j := by unfold sAw1; rw [upd_ne b, upd_ne a]
theorem sAw1_5 {v : Nat → Int32} {d n : Nat} {x : Int32} : sAw1 v d n x (27 + 12 * d + 5) = nI (n + 1) := by unfold sAw1; rw [upd_eq]
theorem sAw1_n {v : Nat → Int32} {d n : Nat} {x : Int32} : sAw1 v d n x (27 + 12 * d + (6 + n)) = x := by unfold sAw1; rw [upd_ne (by omega), upd_eq]
theorem a_lv {v : Nat → Int32} {h d n p : Nat} (hJ : zJ1 v) (hh : h < 10) (hd : d < nD v) (hn : n ≤ 6) (hp : p < n) (e5 : v (27 + 12 * d + 5) = nI n) (ep : sPl v d (nI h) n = nI p) : sLv v (nI h) (nI d) = (nI p, sDrop v d p n, true) := by
  have h10 := hJ.2
  unfold sLv
  rw [hJ.1, if_pos ⟨zIn_ok (Nat.zero_le _) (by omega) (by omega), zIn_okp hd (by omega)⟩, zn_nI (show d < 2 ^ 31 by omega), e5, zn_nI (show n < 2 ^ 31 by omega), ep, if_neg (nI_pos (by omega)), zn_nI (by omega)]
theorem a_lvN {v : Nat → Int32} {h d n : Nat} (hJ : zJ1 v) (hh : h < 10) (hd : d < nD v) (hn : n ≤ 6) (e5 : v (27 + 12 * d + 5) = nI n) (ep : sPl v d (nI h) n = -5) : sLv v (nI h) (nI d) = (-5, v, false) := by
  have h10 := hJ.2
  unfold sLv
  rw [hJ.1, if_pos ⟨zIn_ok (Nat.zero_le _) (by omega) (by omega), zIn_okp hd (by omega)⟩, zn_nI (show d < 2 ^ 31 by omega), e5, zn_nI (show n < 2 ^ 31 by omega), ep, if_pos (by decide)]
/-- who has just come onto the list stands at its end -/
theorem aw_last {v : Nat → Int32} {h d n : Nat} (hn : n < 6) (hok : sPl v d (nI h) n < 0) : sPl (sAw1 v d n (nI h)) d (nI h) (n + 1) = nI n ∧ sPl (sDrop (sAw1 v d n (nI h)) d n (n + 1)) d (nI h) n = -5 := by
  refine ⟨by rw [sPl_s, if_pos sAw1_n], sPl_not (fun j hj => ?_)⟩
  rw [sDrop_at (by omega) (by omega) (by omega), sAw1_at (by omega) (by omega)]
  exact sPl_neg (by omega) hok j hj
/-! days pass: how many rights lapse -/
theorem sCs_same {v w : Nat → Int32} {x : Int32} : ∀ {n : Nat}, (∀ r, r < n → (w (147 + 7 * r + 3) = x ↔ v (147 + 7 * r + 3) = x)) → sCs w x n = sCs v x n
  | 0, _ => rfl
  | n + 1, h => by
    rw [sCs_s, sCs_s, sCs_same (fun r hr => h r (by omega))]
    by_cases q : v (147 + 7 * n + 3) = x
    · rw [if_pos q, if_pos ((h n (by omega)).mpr q)]
    · rw [if_neg q, if_neg (fun z => q ((h n (by omega)).mp z))]
theorem sCs_more {v w : Nat → Int32} {x : Int32} {r : Nat} (h0 : ¬ v (147 + 7 * r + 3) = x) (h1 : w (147 + 7 * r + 3) = x) : ∀ {n : Nat}, r < n → (∀ j, j < n → j ≠ r → w (147 + 7 * j + 3) = v (147 + 7 * j + 3)) → sCs w x n = sCs v x n + 1
  | 0, hr, _ => by omega
  | n + 1, hr, h => by
    rw [sCs_s, sCs_s]
    by_cases e : r = n
    · subst e
      rw [if_neg h0, if_pos h1, sCs_same (fun j hj => by rw [h j (by omega) (by omega)])]
    · rw [sCs_more h0 h1 (n := n) (by omega) (fun j hj hne => h j (by omega) hne), h n (by omega) (by omega)]
      omega
/-- lapsed rights -/
def c5 (v : Nat → Int32) : Nat := sCs v (nI 5) (nR v)
theorem c5_eq {v w : Nat → Int32} (hJ : zJ2 v) (e2 : w 2 = v 2) (h : ∀ r, r < 60 → (w (147 + 7 * r + 3) = nI 5 ↔ v (147 + 7 * r + 3) = nI 5)) : c5 w = c5 v := by
  have h60 := hJ.2
  unfold c5
  rw [nR_of e2]
  exact sCs_same (fun r hr => h r (by omega))
theorem c5_lap {v : Nat → Int32} {d : Nat} (hK : zK v) : ∀ (i n : Nat) (u : Nat → Int32), i ≤ nR v → sLap v d i = (n, u) → c5 u = c5 v + n
  | 0, n, u, _, h => by cases h; rfl
  | i + 1, n, u, hi, h => by
    have h60 := hK.2.1.2
    unfold sLap at h
    cases e : sLap v d i with
    | mk n1 u1 =>
      rw [e] at h
      have a := c5_lap hK i n1 u1 (by omega) e
      obtain ⟨k, k2, -⟩ := sLap_nn hK i n1 u1 e
      by_cases q : u1 (147 + 7 * i + 0) = nI d ∧ u1 (147 + 7 * i + 3) < nI 2
      · simp only [if_pos q] at h
        cases h
        have e2 : sLog (sBec u1 i (nI 5)) (nI 6) (nI i) (sBec u1 i (nI 5) (147 + 7 * i + 2)) 2 = u1 2 := by rw [sLog_at (by omega) (by omega), sBec_at (by omega) (by omega)]
        have m : c5 (sLog (sBec u1 i (nI 5)) (nI 6) (nI i) (sBec u1 i (nI 5) (147 + 7 * i + 2))) = c5 u1 + 1 := by
          unfold c5
          rw [nR_of e2]
          exact sCs_more (r := i) (fun z => by rw [z] at q; exact absurd q.2 (by decide)) (by rw [sLog_at (by omega) (by omega), sBec_sta, sSta_3]) (by rw [nR_of k2]; omega) (fun j hj hne => by rw [sLog_at (by have := k.2.1.2; omega) (by have := k.2.1.2; omega), sBec_at (by omega) (by omega)])
        rw [m, a]; omega
      · simp only [if_neg q] at h
        cases h
        exact a
theorem c5_lapses {v : Nat → Int32} {d : Nat} (hK : zK v) (hd : d < 10) : c5 (sLapses v d).2 = c5 v + (sLapses v d).1 := by
  unfold sLapses
  cases e : sLap v d (nR v) with
  | mk n u =>
    have a := c5_lap hK (nR v) n u (Nat.le_refl _) e
    obtain ⟨k, -, -⟩ := sLap_nn hK _ n u e
    show c5 (upd u (27 + 12 * d + 5) (nI 0)) = c5 v + n
    rw [← a]
    exact c5_eq k.2.1 (upd_ne (by omega)) (fun r hr => by rw [upd_ne (by omega)])
theorem c5_d1 {v : Nat → Int32} (hK : zK v) : ∀ (i n : Nat) (u : Nat → Int32), i ≤ 10 → sD1 v i = (n, u) → c5 u = c5 v + n
  | 0, n, u, _, h => by cases h; rfl
  | i + 1, n, u, hi, h => by
    unfold sD1 at h
    cases e : sD1 v i with
    | mk n1 u1 =>
      rw [e] at h
      have a := c5_d1 hK i n1 u1 (by omega) e
      obtain ⟨k, -, -⟩ := sD1_nn hK i n1 u1 (by omega) e
      by_cases q : sLeft u1 i = 0
      · simp only [if_pos q] at h
        cases h
        rw [c5_lapses k (by omega), a]; omega
      · simp only [if_neg q] at h
        cases h
        exact a
theorem c5_cov {d : Nat} : ∀ (n : Nat) (s : Int32) (v : Nat → Int32), zK v → c5 (sCov d n s v).2 = c5 v
  | 0, s, v, _ => rfl
  | n + 1, s, v, hK => by
    have h60 := hK.2.1.2
    unfold sCov
    by_cases q : v (27 + 12 * d + 1) < nI (sOut v d) ∧ 0 < nI (sOf v d (nI 0) (nI 1))
    · rw [if_pos q]
      have hc : 0 < sOf v d (nI 0) (nI 1) := by
        rcases Nat.eq_zero_or_pos (sOf v d (nI 0) (nI 1)) with z | z
        · rw [z] at q; exact absurd q.2 (by decide)
        · exact z
      obtain ⟨hr, -, h3⟩ := sCv_r hK hc
      obtain ⟨-, g, hg, e1⟩ := hK.2.2.2.2 _ hr
      unfold sCv1
      rw [e1, zn_nI (by omega), c5_cov n _ _ (hK.cv2 hg)]
      refine c5_eq hK.2.1 (sCv2_at hg (by omega) (by omega) (by omega) (by omega) (by omega) (by omega)) (fun r hr2 => ?_)
      by_cases w : r = sCvR v d
      · rw [w, sCv2_3 (by omega)]
        refine ⟨fun z => absurd z (by decide), fun z => ?_⟩
        rw [z] at h3
        exact absurd h3 (by decide)
      · rw [sCv2_at hg (by omega) (by omega) (by omega) (by omega) (by omega) (by omega)]
    · rw [if_neg q]
theorem c5_lb {d : Nat} : ∀ (n : Nat) (v : Nat → Int32), zH v → d < nD v → v (27 + 12 * d + 5) = nI n → n ≤ 6 → c5 (sLB d n v) = c5 v
  | 0, v, _, _, _, _ => rfl
  | n + 1, v, hH, hd, h5, hn => by
    have hK := hH.1
    have hd10 := hK.1.2
    have h60 := hK.2.1.2
    unfold sLB
    by_cases hc : 0 < sCan v d
    · rw [if_pos hc]
      obtain ⟨hR, hop⟩ := sCan_pos hK.2.1 hc
      obtain ⟨n9, u1, u2, u3⟩ := hK.2.2.1 d (by omega)
      have en : n9 = n + 1 := (nI_eq (by omega) (by omega)).mp (u2.symm.trans h5)
      subst en
      obtain ⟨h, hh, e6⟩ := u3 0 (by omega)
      have e6 : v (27 + 12 * d + 6) = nI h := e6
      rw [e6, nI_clamp (by omega)]
      have hH1 := hH.drop (p := 0) (by omega) (by omega) (by omega) h5
      have hK1 := hH1.1
      have e2 : sDrop v d 0 (n + 1) 2 = v 2 := sDrop_at (by omega) (by omega) (by omega)
      have eR : nR (sDrop v d 0 (n + 1)) = nR v := nR_of e2
      have e1 : sDrop v d 0 (n + 1) 1 = v 1 := sDrop_at (by omega) (by omega) (by omega)
      have e0 : sDrop v d 0 (n + 1) 0 = v 0 := sDrop_at (by omega) (by omega) (by omega)
      have eD : nD (sDrop v d 0 (n + 1)) = nD v := nD_of e1
      have hop1 : sOpen (sDrop v d 0 (n + 1)) d = true := by unfold sOpen sLeft; rw [e0, sDrop_at (by omega) (by omega) (by omega)]; exact hop
      have hH2 := hH1.sells (d := d) (h := h) (by omega) (by omega) hh hop1
      have h5b : sSells (sDrop v d 0 (n + 1)) h d (27 + 12 * d + 5) = nI n := by rw [sSells_at (by omega) (by omega) (by omega) (by omega) (by omega)]; exact sDrop_5 (by omega) h5
      have e1b : sSells (sDrop v d 0 (n + 1)) h d 1 = v 1 := by rw [sSells_at (by omega) (by omega) (by omega) (by omega) (by omega)]; exact e1
      have eR2 := sSells_R (d := d) (h := h) hK1 (by omega) (by omega) hh
      rw [c5_lb n _ hH2 (by rw [nD_of e1b]; exact hd) h5b (by omega)]
      have a : c5 (sDrop v d 0 (n + 1)) = c5 v := c5_eq hK.2.1 e2 (fun r hr => by rw [sDrop_at (by omega) (by omega) (by omega)])
      rw [← a]
      unfold c5
      rw [eR2, sCs_s]
      have st : sSells (sDrop v d 0 (n + 1)) h d (147 + 7 * nR (sDrop v d 0 (n + 1)) + 3) = nI 0 := by unfold sSells; rw [sLog_at (by omega) (by omega), sPays_at (by omega) (by omega)]; exact sNew_r.2.1
      rw [st, if_neg (by decide)]
      exact sCs_same (fun r hr => by unfold sSells; rw [sLog_at (by omega) (by omega), sPays_at (by omega) (by omega), sNew2_at (by omega) (by omega)])
    · rw [if_neg hc]
theorem c5_d2 {v : Nat → Int32} (hK : zK v) : ∀ (i : Nat), c5 (sD2 v i) = c5 v
  | 0 => rfl
  | i + 1 => by
    have a := c5_d2 hK i
    unfold sD2
    by_cases q : sLeft (sD2 v i) i = sD2 v i 3
    · rw [if_pos q, c5_cov _ _ _ (sD2_nn hK i).1]; exact a
    · rw [if_neg q]; exact a
theorem c5_d3 {v : Nat → Int32} (hH : zH v) (hO : zOp v) : ∀ (i : Nat), i ≤ nD v → c5 (sD3 v i) = c5 v
  | 0, _ => rfl
  | i + 1, hi => by
    have a := c5_d3 hH hO i (by omega)
    obtain ⟨b, -, -, e⟩ := sD3_H hH hO i (by omega)
    unfold sD3
    have h10 := hH.1.1.2
    obtain ⟨w, hw, h5, -⟩ := b.1.2.2.1 i (by omega)
    rw [h5, zn_nI (by omega), c5_lb w _ b (by omega) h5 hw]; exact a
theorem c5_day {v : Nat → Int32} {t : Nat} (hH : zH v) (hO : zOp v) (e : v 0 = nI t) (ht : t < 9999) : c5 (sDayC v) = c5 v + (sDayA v).1 := by
  have h10 := hH.1.1.2
  obtain ⟨⟨c1, c2, c3, c4⟩, ⟨f1, f2, f3, f4⟩, -⟩ := sDay_H hH hO e ht
  have a0 : c5 (sDay0 v) = c5 v := c5_eq hH.1.2.1 (by unfold sDay0; exact upd_ne (by omega)) (fun r hr => by unfold sDay0; rw [upd_ne (by omega)])
  have a1 : c5 (sDayA v).2 = c5 (sDay0 v) + (sDayA v).1 := c5_d1 hH.1.day0 (nD v) (sDayA v).1 (sDayA v).2 h10 rfl
  have a2 : c5 (sDayB v) = c5 (sDayA v).2 := c5_d2 c1.1 (nD v)
  have a3 : c5 (sDayC v) = c5 (sDayB v) := c5_d3 f1 f2 (nD v) (by omega)
  rw [a3, a2, a1, a0]
theorem c5_days {v : Nat → Int32} {t : Nat} (hH : zH v) (hO : zOp v) (e : v 0 = nI t) : ∀ (i n : Nat) (u : Nat → Int32), t + i ≤ 9999 → sDays v i = (n, u) → c5 u = c5 v + n ∧ nD u = nD v
  | 0, n, u, _, h => by cases h; exact ⟨rfl, rfl⟩
  | i + 1, n, u, hi, h => by
    unfold sDays at h
    cases hs : sDays v i with
    | mk n1 u1 =>
      rw [hs] at h
      obtain ⟨a, a2⟩ := c5_days hH hO e i n1 u1 (by omega) hs
      obtain ⟨b1, b2, b3⟩ := sDays_H hH hO e i n1 u1 (by omega) hs
      obtain ⟨-, -, -, -, -, g⟩ := sDay_H b1 b2 b3 (by omega)
      cases h
      refine ⟨?_, g.trans a2⟩
      show c5 (sDayC u1) = _
      rw [c5_day b1 b2 b3 (by omega), a]; omega
theorem a_pass {v : Nat → Int32} {t k : Nat} (e : v 0 = nI t) (hk1 : 1 ≤ k) (hk : k ≤ 60) (ht : t + k ≤ 9999) : sPass v (nI k) = (nI (sDays v k).1, (sDays v k).2, true) := by
  unfold sPass
  rw [if_pos (zIn_ok hk1 hk (by omega)), e, nI_add, if_pos (nI_le ht (by omega)), zn_nI (by omega)]
/-- the settings answer -5 or more -/
theorem nI_m5 {n : Nat} (h : n < 2 ^ 31) : ¬ nI n < -5 := fun z => absurd (Int32.lt_trans z (by decide : (-5 : Int32) < 0)) (nI_pos h)
theorem set_m5 {v : Nat → Int32} (hY : zY v) (x y : Int32) : ¬ (sSet v x y).1 < -5 := by
  unfold sSet
  split
  · rename_i c
    obtain ⟨k, hk, rfl⟩ := zIn_nI (by omega) c
    rw [zn_nI (by omega)]
    split
    · split
      · show ¬ (-5 : Int32) < -5; decide
      · obtain ⟨a, ha, ea⟩ := nI_of (i_not_lt.mpr (hY.2 k (by omega)))
        show ¬ v (3 + k) < -5
        rw [ea]; exact nI_m5 ha
    · show ¬ (-2 : Int32) < -5; decide
  · show ¬ (-2 : Int32) < -5; decide
theorem st_m5 {v : Nat → Int32} (hY : zY v) (x y z : Int32) : ¬ (sSt v x y z).1 < -5 := by
  unfold sSt
  split
  · rename_i c
    obtain ⟨k, hk, rfl⟩ := zIn_nI (by omega) c
    rw [zn_nI (by omega)]
    split
    · split
      · show ¬ (-5 : Int32) < -5; decide
      · obtain ⟨-, a, ha, ea⟩ := hY.1.1.2.2.1.2 k (by omega)
        show ¬ v (9 + 2 * k + 1) < -5
        rw [ea]; exact nI_m5 (by omega)
    · show ¬ (-2 : Int32) < -5; decide
  · show ¬ (-1 : Int32) < -5; decide
