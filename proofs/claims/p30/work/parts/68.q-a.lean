/-! ===== what the law wants besides, and every act keeps: accounts, exercised rights, asking prices, lists ===== -/
def aSum (v : Nat → Int32) : Nat → Int32
  | 0 => 0
  | n + 1 => aSum v n + v (17 + n)
def qA (v : Nat → Int32) : Prop := v 7 + aSum v 10 = 0
def qE (v : Nat → Int32) : Prop := ∀ d, d < nD v → ∀ a, a ≤ 20 → v (27 + 12 * d + 1) = nI a → sOf v d (nI 2) (nI 2) ≤ a
def qO (v : Nat → Int32) : Prop := ∀ r d, r < nR v → d < nD v → v (147 + 7 * r + 3) = nI 1 → v (147 + 7 * r + 0) = nI d → ∃ a b, b ≤ 9999 ∧ a ≤ 2 * b ∧ v (147 + 7 * r + 4) = nI a ∧ v (27 + 12 * d + 3) = nI b
def qL (v : Nat → Int32) : Prop := ∀ d, d < nD v → ¬ v 0 < v (27 + 12 * d + 0) → v (27 + 12 * d + 5) = nI 0
def q3 (v : Nat → Int32) : Prop := qA v ∧ qE v ∧ qO v
def q4 (v : Nat → Int32) : Prop := q3 v ∧ qL v
theorem aSum_of {v w : Nat → Int32} : ∀ {n : Nat}, (∀ h, h < n → w (17 + h) = v (17 + h)) → aSum w n = aSum v n
  | 0, _ => rfl
  | n + 1, h => by unfold aSum; rw [aSum_of (fun k hk => h k (by omega)), h n (by omega)]
theorem zIn22 {x : Int32} : zIn x (nI 2) (nI 2) = true ↔ x = nI 2 := by
  unfold zIn
  rw [Bool.and_eq_true, decide_eq_true_eq, decide_eq_true_eq]
  constructor
  · intro h; exact Int32.le_antisymm h.2 h.1
  · intro h; subst h; exact ⟨Int32.le_refl _, Int32.le_refl _⟩
theorem sCnt_mono {v w : Nat → Int32} {d : Nat} {lo hi : Int32} : ∀ {n : Nat}, (∀ r, r < n → w (147 + 7 * r + 0) = v (147 + 7 * r + 0) ∧ (zIn (w (147 + 7 * r + 3)) lo hi = true → zIn (v (147 + 7 * r + 3)) lo hi = true)) → sCnt w d lo hi n ≤ sCnt v d lo hi n
  | 0, _ => Nat.le_refl _
  | n + 1, h => by
    have a := sCnt_mono (d := d) (lo := lo) (hi := hi) (n := n) (v := v) (w := w) (fun r hr => h r (by omega))
    obtain ⟨h1, h2⟩ := h n (by omega)
    unfold sCnt
    rw [h1]
    by_cases q : v (147 + 7 * n + 0) = nI d ∧ zIn (w (147 + 7 * n + 3)) lo hi = true
    · rw [if_pos q, if_pos ⟨q.1, h2 q.2⟩]; omega
    · rw [if_neg q]; omega
theorem q3.of {v w : Nat → Int32} (h : q3 v) (hJ : zJ1 v ∧ zJ2 v) (h1 : w 1 = v 1) (h2 : w 2 = v 2) (hA : w 7 + aSum w 10 = v 7 + aSum v 10) (hd : ∀ d, d < 10 → w (27 + 12 * d + 1) = v (27 + 12 * d + 1) ∧ w (27 + 12 * d + 3) = v (27 + 12 * d + 3))
    (hr : ∀ r, r < 60 → w (147 + 7 * r + 0) = v (147 + 7 * r + 0) ∧ (w (147 + 7 * r + 3) = nI 2 → v (147 + 7 * r + 3) = nI 2) ∧ (w (147 + 7 * r + 3) = nI 1 → v (147 + 7 * r + 3) = nI 1 ∧ w (147 + 7 * r + 4) = v (147 + 7 * r + 4))) : q3 w := by
  obtain ⟨a, b, c⟩ := h
  have h10 := hJ.1.2
  have h60 := hJ.2.2
  refine ⟨hA.trans a, fun d hd1 k hk e => ?_, fun r d hr1 hd1 e3 e0 => ?_⟩
  · rw [nD_of h1] at hd1
    rw [(hd d (by omega)).1] at e
    refine Nat.le_trans ?_ (b d hd1 k hk e)
    unfold sOf
    rw [nR_of h2]
    refine sCnt_mono (fun r hr1 => ⟨(hr r (by omega)).1, fun z => zIn22.mpr ((hr r (by omega)).2.1 (zIn22.mp z))⟩)
  · rw [nR_of h2] at hr1
    rw [nD_of h1] at hd1
    obtain ⟨k0, k2, k1⟩ := hr r (by omega)
    obtain ⟨e31, e4⟩ := k1 e3
    rw [k0] at e0
    rw [e4, (hd d (by omega)).2]
    exact c r d hr1 hd1 e31 e0
theorem qL.of {v w : Nat → Int32} (h : qL v) (hJ : zJ1 v) (h0 : w 0 = v 0) (h1 : w 1 = v 1) (hd : ∀ d, d < 10 → w (27 + 12 * d + 0) = v (27 + 12 * d + 0) ∧ (w (27 + 12 * d + 5) = v (27 + 12 * d + 5) ∨ w (27 + 12 * d + 5) = nI 0 ∨ v 0 < v (27 + 12 * d + 0))) : qL w := by
  intro d hd1 ho
  rw [nD_of h1] at hd1
  have h10 := hJ.2
  obtain ⟨k0, k5⟩ := hd d (by omega)
  rw [h0, k0] at ho
  rcases k5 with z | z | z
  · rw [z]; exact h d hd1 ho
  · exact z
  · exact absurd z ho
theorem aSum_pays {v : Nat → Int32} {h : Nat} {c : Int32} : ∀ {n : Nat}, aSum (sPays v h c) n = aSum v n - (if h < n then c else 0)
  | 0 => by unfold aSum; rw [if_neg (by omega)]; rfl
  | n + 1 => by
    unfold aSum
    rw [aSum_pays (n := n)]
    by_cases e : h = n
    · subst e
      rw [if_neg (by omega), if_pos (by omega)]
      unfold sPays
      rw [upd_ne (by omega), upd_eq]
      simp only [Int32.sub_eq_add_neg, Int32.neg_zero, Int32.add_zero]
      ac_rfl
    · rw [sPays_at (by omega) (by omega)]
      by_cases q : h < n
      · rw [if_pos q, if_pos (by omega)]
        simp only [Int32.sub_eq_add_neg]
        ac_rfl
      · rw [if_neg q, if_neg (by omega)]
        simp only [Int32.sub_eq_add_neg, Int32.neg_zero, Int32.add_zero]
theorem sPays_7 {v : Nat → Int32} {h : Nat} {c : Int32} : sPays v h c 7 = v 7 + c := by
  unfold sPays; rw [upd_eq, upd_ne (by omega)]
theorem sPays_h {v : Nat → Int32} {h : Nat} {c : Int32} : sPays v h c (17 + h) = v (17 + h) - c := by
  unfold sPays; rw [upd_ne (by omega), upd_eq]
theorem qA_pays {v : Nat → Int32} {h : Nat} {c : Int32} (hh : h < 10) : sPays v h c 7 + aSum (sPays v h c) 10 = v 7 + aSum v 10 := by
  rw [aSum_pays, if_pos hh, sPays_7]
  rw [Int32.sub_eq_add_neg, show v 7 + c + (aSum v 10 + -c) = v 7 + aSum v 10 + (c + -c) from by ac_rfl, Int32.add_right_neg, Int32.add_zero]
theorem q3.pays {v : Nat → Int32} {h : Nat} {c : Int32} (hq : q3 v) (hJ : zJ1 v ∧ zJ2 v) (hh : h < 10) : q3 (sPays v h c) :=
  hq.of hJ (sPays_at (by omega) (by omega)) (sPays_at (by omega) (by omega)) (qA_pays hh) (fun d a => ⟨sPays_at (by omega) (by omega), sPays_at (by omega) (by omega)⟩) (fun r a => ⟨sPays_at (by omega) (by omega), fun z => by rw [sPays_at (by omega) (by omega)] at z; exact z, fun z => by rw [sPays_at (by omega) (by omega)] at z; exact ⟨z, sPays_at (by omega) (by omega)⟩⟩)
theorem qL.pays {v : Nat → Int32} {h : Nat} {c : Int32} (hq : qL v) (hJ : zJ1 v) (hh : h < 10) : qL (sPays v h c) :=
  hq.of hJ (sPays_at (by omega) (by omega)) (sPays_at (by omega) (by omega)) (fun d a => ⟨sPays_at (by omega) (by omega), Or.inl (sPays_at (by omega) (by omega))⟩)
theorem q4.pays {v : Nat → Int32} {h : Nat} {c : Int32} (hq : q4 v) (hJ : zJ1 v ∧ zJ2 v) (hh : h < 10) : q4 (sPays v h c) := ⟨hq.1.pays hJ hh, hq.2.pays hJ.1 hh⟩
/-- numbers that no one asks here: below 567, but 8, nothing changes -/
theorem q3.out {v w : Nat → Int32} (hq : q3 v) (hJ : zJ1 v ∧ zJ2 v) (e : ∀ j, j < 567 → j ≠ 8 → w j = v j) : q3 w :=
  hq.of hJ (e _ (by omega) (by omega)) (e _ (by omega) (by omega)) (by rw [e 7 (by omega) (by omega), aSum_of (fun h hh => e _ (by omega) (by omega))]) (fun d a => ⟨e _ (by omega) (by omega), e _ (by omega) (by omega)⟩) (fun r a => ⟨e _ (by omega) (by omega), fun z => by rw [e _ (by omega) (by omega)] at z; exact z, fun z => by rw [e _ (by omega) (by omega)] at z; exact ⟨z, e _ (by omega) (by omega)⟩⟩)
theorem qL.out {v w : Nat → Int32} (hq : qL v) (hJ : zJ1 v) (e : ∀ j, j < 567 → j ≠ 8 → w j = v j) : qL w :=
  hq.of hJ (e _ (by omega) (by omega)) (e _ (by omega) (by omega)) (fun d a => ⟨e _ (by omega) (by omega), Or.inl (e _ (by omega) (by omega))⟩)
theorem q3.log {v : Nat → Int32} {k r c : Int32} (hq : q3 v) (hJ : zJ1 v ∧ zJ2 v) : q3 (sLog v k r c) := hq.out hJ (fun j a b => sLog_at b a)
theorem qL.log {v : Nat → Int32} {k r c : Int32} (hq : qL v) (hJ : zJ1 v) : qL (sLog v k r c) := hq.out hJ (fun j a b => sLog_at b a)
theorem q4.log {v : Nat → Int32} {k r c : Int32} (hq : q4 v) (hJ : zJ1 v ∧ zJ2 v) : q4 (sLog v k r c) := ⟨hq.1.log hJ, hq.2.log hJ.1⟩
theorem aSum_sta {v : Nat → Int32} {r : Nat} {s a : Int32} : sSta v r s a 7 + aSum (sSta v r s a) 10 = v 7 + aSum v 10 := by
  rw [sSta_at (by omega) (by omega), aSum_of (fun h hh => sSta_at (by omega) (by omega))]
theorem q3.bec {v : Nat → Int32} {r q : Nat} (hq : q3 v) (hJ : zJ1 v ∧ zJ2 v) (h5 : q ≤ 5) (h1 : q ≠ 1) (h2 : q ≠ 2) : q3 (sBec v r (nI q)) := by
  rw [sBec_sta]
  refine hq.of hJ (sSta_at (by omega) (by omega)) (sSta_at (by omega) (by omega)) aSum_sta (fun d a => ⟨sSta_at (by omega) (by omega), sSta_at (by omega) (by omega)⟩) (fun k a => ⟨sSta_at (by omega) (by omega), fun z => ?_, fun z => ?_⟩)
  · by_cases e : k = r
    · subst e
      rw [sSta_3] at z
      exact absurd ((nI_eq (by omega) (by omega)).mp z) h2
    · rw [sSta_at (by omega) (by omega)] at z; exact z
  · by_cases e : k = r
    · subst e
      rw [sSta_3] at z
      exact absurd ((nI_eq (by omega) (by omega)).mp z) h1
    · rw [sSta_at (by omega) (by omega)] at z; exact ⟨z, sSta_at (by omega) (by omega)⟩
theorem qL.sta {v : Nat → Int32} {r : Nat} {s a : Int32} (hq : qL v) (hJ : zJ1 v) : qL (sSta v r s a) :=
  hq.of hJ (sSta_at (by omega) (by omega)) (sSta_at (by omega) (by omega)) (fun d a => ⟨sSta_at (by omega) (by omega), Or.inl (sSta_at (by omega) (by omega))⟩)
theorem q4.bec {v : Nat → Int32} {r q : Nat} (hq : q4 v) (hJ : zJ1 v ∧ zJ2 v) (h5 : q ≤ 5) (h1 : q ≠ 1) (h2 : q ≠ 2) : q4 (sBec v r (nI q)) := ⟨hq.1.bec hJ h5 h1 h2, by rw [sBec_sta]; exact hq.2.sta hJ.1⟩
/-- numbers of a right that no one asks here: its holder, its cost, its day, how often it was sold on -/
theorem q4.rgt {v : Nat → Int32} {r k : Nat} {x : Int32} (hq : q4 v) (hJ : zJ1 v ∧ zJ2 v) (hr : r < 60) (hk : k = 1 ∨ k = 6) : q4 (upd v (147 + 7 * r + k) x) :=
  ⟨hq.1.of hJ (upd_ne (by omega)) (upd_ne (by omega)) (by rw [upd_ne (by omega), aSum_of (fun h hh => upd_ne (by omega))]) (fun d a => ⟨upd_ne (by omega), upd_ne (by omega)⟩) (fun q a => ⟨upd_ne (by omega), fun z => by rw [upd_ne (by omega)] at z; exact z, fun z => by rw [upd_ne (by omega)] at z; exact ⟨z, upd_ne (by omega)⟩⟩),
   hq.2.of hJ.1 (upd_ne (by omega)) (upd_ne (by omega)) (fun d a => ⟨upd_ne (by omega), Or.inl (upd_ne (by omega))⟩)⟩
/-- the numbers 3 to 6 and 9 to 16: settings -/
theorem q4.num {v w : Nat → Int32} (hq : q4 v) (hJ : zJ1 v ∧ zJ2 v) (e : ∀ j, (j < 3 ∨ j = 7 ∨ 17 ≤ j) → w j = v j) : q4 w :=
  ⟨hq.1.of hJ (e _ (by omega)) (e _ (by omega)) (by rw [e 7 (by omega), aSum_of (fun h hh => e _ (by omega))]) (fun d a => ⟨e _ (by omega), e _ (by omega)⟩) (fun r a => ⟨e _ (by omega), fun z => by rw [e _ (by omega)] at z; exact z, fun z => by rw [e _ (by omega)] at z; exact ⟨z, e _ (by omega)⟩⟩),
   hq.2.of hJ.1 (e _ (by omega)) (e _ (by omega)) (fun d a => ⟨e _ (by omega), Or.inl (e _ (by omega))⟩)⟩
theorem q4.drop {v : Nat → Int32} {d p n : Nat} (hq : q4 v) (hJ : zJ1 v ∧ zJ2 v) (hd : d < nD v) (hn : n ≤ 6) (hp : p < n) (h5 : v (27 + 12 * d + 5) = nI n) : q4 (sDrop v d p n) := by
  have h10 := hJ.1.2
  refine ⟨hq.1.of hJ (sDrop_at (by omega) (by omega) hp) (sDrop_at (by omega) (by omega) hp) (by rw [sDrop_at (by omega) (by omega) hp, aSum_of (fun h hh => sDrop_at (by omega) (by omega) hp)]) (fun e a => ⟨sDrop_at (by omega) (by omega) hp, sDrop_at (by omega) (by omega) hp⟩) (fun r a => ⟨sDrop_at (by omega) (by omega) hp, fun z => by rw [sDrop_at (by omega) (by omega) hp] at z; exact z, fun z => by rw [sDrop_at (by omega) (by omega) hp] at z; exact ⟨z, sDrop_at (by omega) (by omega) hp⟩⟩), ?_⟩
  refine hq.2.of hJ.1 (sDrop_at (by omega) (by omega) hp) (sDrop_at (by omega) (by omega) hp) (fun e a => ⟨sDrop_at (by omega) (by omega) hp, ?_⟩)
  by_cases q : e = d
  · subst q
    by_cases ho : v 0 < v (27 + 12 * e + 0)
    · exact Or.inr (Or.inr ho)
    · have z := hq.2 e hd ho
      rw [h5] at z
      have := (nI_eq (by omega) (by omega)).mp z
      omega
  · exact Or.inl (sDrop_at (by omega) (by omega) hp)
theorem q3.w0 {v : Nat → Int32} {d : Nat} (hq : q3 v) (hJ : zJ1 v ∧ zJ2 v) (hd : d < 10) : q3 (upd v (27 + 12 * d + 5) (nI 0)) :=
  hq.of hJ (upd_ne (by omega)) (upd_ne (by omega)) (by rw [upd_ne (by omega), aSum_of (fun h hh => upd_ne (by omega))]) (fun e a => ⟨upd_ne (by omega), upd_ne (by omega)⟩) (fun q a => ⟨upd_ne (by omega), fun z => by rw [upd_ne (by omega)] at z; exact z, fun z => by rw [upd_ne (by omega)] at z; exact ⟨z, upd_ne (by omega)⟩⟩)
/-- a right is sold -/
theorem q4.new {v : Nat → Int32} {d h : Nat} {c : Int32} (hq : q4 v) (hK : zK v) (hR : nR v < 60) (hd : d < nD v) (hh : h < 10) : q4 (sNew2 v (nR v) d h c) := by
  obtain ⟨k1, k2⟩ := hK.new (c := c) hR hd hh
  have h10 := hK.1.2
  have e1 : sNew2 v (nR v) d h c 1 = v 1 := sNew2_at (by omega) (by omega)
  obtain ⟨⟨a, b, o⟩, L⟩ := hq
  refine ⟨⟨?_, fun e he x hx ex => ?_, fun r e hr he e3 e0 => ?_⟩, ?_⟩
  · show _ + _ = _
    rw [sNew2_at (by omega) (by omega), aSum_of (fun g hg => sNew2_at (by omega) (by omega))]; exact a
  · rw [nD_of e1] at he
    rw [sNew2_at (by omega) (by omega)] at ex
    refine Nat.le_trans (Nat.le_of_eq ?_) (b e he x hx ex)
    unfold sOf
    rw [k2]
    show sCnt (sNew2 v (nR v) d h c) e (nI 2) (nI 2) (nR v) + _ = _
    rw [sNew_r.2.1, if_neg (fun z => absurd z.2 (by decide)), sCnt_of (fun r hr => ⟨sNew2_at (by omega) (by omega), sNew2_at (by omega) (by omega)⟩)]
    rfl
  · rw [nD_of e1] at he
    rw [k2] at hr
    by_cases q : r = nR v
    · subst q
      rw [sNew_r.2.1] at e3
      exact absurd e3 (by decide)
    · rw [sNew2_at (by omega) (by omega)] at e3 e0
      rw [sNew2_at (by omega) (by omega), sNew2_at (by omega) (by omega)]
      exact o r e (by omega) he e3 e0
  · exact L.of hK.1 (sNew2_at (by omega) (by omega)) e1 (fun e a => ⟨sNew2_at (by omega) (by omega), Or.inl (sNew2_at (by omega) (by omega))⟩)
theorem q4.sells {v : Nat → Int32} {d h : Nat} (hq : q4 v) (hK : zK v) (hR : nR v < 60) (hd : d < nD v) (hh : h < 10) : q4 (sSells v h d) := by
  have k1 := (hK.new (c := sPrice v d (sLeft v d)) hR hd hh).1
  have k2 := k1.pays (c := sPrice v d (sLeft v d)) hh
  exact ((hq.new hK hR hd hh).pays ⟨k1.1, k1.2.1⟩ hh).log ⟨k2.1, k2.2.1⟩
theorem q4.lb {d : Nat} : ∀ (n : Nat) (v : Nat → Int32), q4 v → zH v → d < nD v → v (27 + 12 * d + 5) = nI n → n ≤ 6 → q4 (sLB d n v)
  | 0, v, hq, _, _, _, _ => hq
  | n + 1, v, hq, hH, hd, h5, hn => by
    have hK := hH.1
    have hd10 := hK.1.2
    unfold sLB
    by_cases hc : 0 < sCan v d
    · rw [if_pos hc]
      obtain ⟨hR, hop⟩ := sCan_pos hK.2.1 hc
      obtain ⟨n9, u1, u2, u3⟩ := hK.2.2.1 d (by omega)
      have en : n9 = n + 1 := (nI_eq (by omega) (by omega)).mp (u2.symm.trans h5)
      subst en
      obtain ⟨h, hh, e6⟩ := u3 0 (by omega)
      have e6 : v (27 + 12 * d + 6) = nI h := e6
      rw [e6, nI_clamp (by omega)]
      have hH1 := hH.drop (p := 0) (by omega) (by omega) (by omega) h5
      have hK1 := hH1.1
      have eR : nR (sDrop v d 0 (n + 1)) = nR v := nR_of (sDrop_at (by omega) (by omega) (by omega))
      have e1 : sDrop v d 0 (n + 1) 1 = v 1 := sDrop_at (by omega) (by omega) (by omega)
      have e0 : sDrop v d 0 (n + 1) 0 = v 0 := sDrop_at (by omega) (by omega) (by omega)
      have eD : nD (sDrop v d 0 (n + 1)) = nD v := nD_of e1
      have hop1 : sOpen (sDrop v d 0 (n + 1)) d = true := by unfold sOpen sLeft; rw [e0, sDrop_at (by omega) (by omega) (by omega)]; exact hop
      have hH2 := hH1.sells (d := d) (h := h) (by omega) (by omega) hh hop1
      have h5b : sSells (sDrop v d 0 (n + 1)) h d (27 + 12 * d + 5) = nI n := by rw [sSells_at (by omega) (by omega) (by omega) (by omega) (by omega)]; exact sDrop_5 (by omega) h5
      have e1b : sSells (sDrop v d 0 (n + 1)) h d 1 = v 1 := by rw [sSells_at (by omega) (by omega) (by omega) (by omega) (by omega)]; exact e1
      have q1 := hq.drop (p := 0) ⟨hK.1, hK.2.1⟩ hd hn (by omega) h5
      exact q4.lb n _ (q1.sells hK1 (by omega) (by omega) hh) hH2 (by rw [nD_of e1b]; exact hd) h5b (by omega)
    · rw [if_neg hc]; exact hq
theorem q4.cov {d : Nat} : ∀ (n : Nat) (s : Int32) (v : Nat → Int32), q4 v → zK v → q4 (sCov d n s v).2
  | 0, s, v, hq, _ => hq
  | n + 1, s, v, hq, hK => by
    unfold sCov
    by_cases q : v (27 + 12 * d + 1) < nI (sOut v d) ∧ 0 < nI (sOf v d (nI 0) (nI 1))
    · rw [if_pos q]
      have hc : 0 < sOf v d (nI 0) (nI 1) := by
        rcases Nat.eq_zero_or_pos (sOf v d (nI 0) (nI 1)) with z | z
        · rw [z] at q; exact absurd q.2 (by decide)
        · exact z
      obtain ⟨hr, -, -⟩ := sCv_r hK hc
      obtain ⟨-, g, hg, e1⟩ := hK.2.2.2.2 _ hr
      unfold sCv1
      rw [e1, zn_nI (by omega)]
      have k1 := hK.pays (h := g) (c := -sCvC v d) hg
      have k2 : zK (sBec (sPays v g (-sCvC v d)) (sCvR v d) (nI 4)) := k1.bec
      have q1 := ((hq.pays (c := -sCvC v d) ⟨hK.1, hK.2.1⟩ hg).bec (r := sCvR v d) (q := 4) ⟨k1.1, k1.2.1⟩ (by omega) (by omega) (by omega)).log (k := nI 5) (r := nI (sCvR v d)) (c := sCvC v d) ⟨k2.1, k2.2.1⟩
      exact q4.cov n _ _ q1 (hK.cv2 hg)
    · rw [if_neg q]; exact hq
/-! a day -/
theorem q3.lap {v : Nat → Int32} {d : Nat} (hq : q3 v) (hK : zK v) : ∀ (i n : Nat) (u : Nat → Int32), sLap v d i = (n, u) → q3 u
  | 0, n, u, h => by cases h; exact hq
  | i + 1, n, u, h => by
    unfold sLap at h
    cases e : sLap v d i with
    | mk n1 u1 =>
      rw [e] at h
      have a := q3.lap hq hK i n1 u1 e
      obtain ⟨k, -, -⟩ := sLap_nn hK i n1 u1 e
      by_cases q : u1 (147 + 7 * i + 0) = nI d ∧ u1 (147 + 7 * i + 3) < nI 2
      · simp only [if_pos q] at h
        cases h
        have k2 : zK (sBec u1 i (nI 5)) := k.bec
        exact (a.bec (q := 5) ⟨k.1, k.2.1⟩ (by omega) (by omega) (by omega)).log ⟨k2.1, k2.2.1⟩
      · simp only [if_neg q] at h
        cases h
        exact a
theorem sLap_dt {v : Nat → Int32} {d : Nat} : ∀ (i n : Nat) (u : Nat → Int32), sLap v d i = (n, u) → ∀ j, j < 147 → j ≠ 8 → u j = v j
  | 0, n, u, h => by cases h; exact fun j _ _ => rfl
  | i + 1, n, u, h => by
    intro j hj h8
    unfold sLap at h
    cases e : sLap v d i with
    | mk n1 u1 =>
      rw [e] at h
      have a := sLap_dt i n1 u1 e j hj h8
      by_cases q : u1 (147 + 7 * i + 0) = nI d ∧ u1 (147 + 7 * i + 3) < nI 2
      · simp only [if_pos q] at h
        cases h
        rw [sLog_at h8 (by omega), sBec_at (by omega) (by omega)]; exact a
      · simp only [if_neg q] at h
        cases h
        exact a
theorem sLapses_dt {v : Nat → Int32} {d j : Nat} (hj : j < 147) (h8 : j ≠ 8) (h5 : j ≠ 27 + 12 * d + 5) : (sLapses v d).2 j = v j := by
  unfold sLapses
  cases e : sLap v d (nR v) with
  | mk n u =>
    show upd u (27 + 12 * d + 5) (nI 0) j = v j
    rw [upd_ne h5]; exact sLap_dt _ n u e j hj h8
theorem sLapses_5 {v : Nat → Int32} {d : Nat} : (sLapses v d).2 (27 + 12 * d + 5) = nI 0 := by
  unfold sLapses
  cases e : sLap v d (nR v) with
  | mk n u => exact upd_eq
theorem q3.lapses {v : Nat → Int32} {d : Nat} (hq : q3 v) (hK : zK v) (hd : d < 10) : q3 (sLapses v d).2 := by
  unfold sLapses
  cases e : sLap v d (nR v) with
  | mk n u =>
    obtain ⟨k, -, -⟩ := sLap_nn hK _ n u e
    exact (hq.lap hK _ n u e).w0 ⟨k.1, k.2.1⟩ hd
/-- the lists of dates that are over are empty, but those of the day from i on -/
def qLi (i : Nat) (v : Nat → Int32) : Prop := ∀ d, d < nD v → ¬ v 0 < v (27 + 12 * d + 0) → (v 0 = v (27 + 12 * d + 0) ∧ i ≤ d) ∨ v (27 + 12 * d + 5) = nI 0
theorem q3.d1 {v : Nat → Int32} (hq : q3 v) (hK : zK v) (hL : qLi 0 v) : ∀ (i n : Nat) (u : Nat → Int32), i ≤ nD v → sD1 v i = (n, u) → q3 u ∧ qLi i u ∧ u 0 = v 0
  | 0, n, u, _, h => by cases h; exact ⟨hq, hL, rfl⟩
  | i + 1, n, u, hi, h => by
    have h10 := hK.1.2
    unfold sD1 at h
    cases e : sD1 v i with
    | mk n1 u1 =>
      rw [e] at h
      obtain ⟨a, b, c⟩ := q3.d1 hq hK hL i n1 u1 (by omega) e
      obtain ⟨k, k2, k1⟩ := sD1_nn hK i n1 u1 (by omega) e
      by_cases q : sLeft u1 i = 0
      · simp only [if_pos q] at h
        cases h
        obtain ⟨-, -, z3⟩ := sLapses_nn (d := i) k (by omega)
        refine ⟨a.lapses k (by omega), fun d hd ho => ?_, (sLapses_dt (by omega) (by omega) (by omega)).trans c⟩
        rw [nD_of z3] at hd
        have hd10 : d < 10 := by have := k.1.2; omega
        rw [sLapses_dt (j := 0) (by omega) (by omega) (by omega), sLapses_dt (j := 27 + 12 * d + 0) (by omega) (by omega) (by omega)] at ho ⊢
        by_cases e2 : d = i
        · subst e2; exact Or.inr sLapses_5
        · rcases b d hd ho with z | z
          · exact Or.inl ⟨z.1, by omega⟩
          · exact Or.inr (by rw [sLapses_dt (by omega) (by omega) (by omega)]; exact z)
      · simp only [if_neg q] at h
        cases h
        refine ⟨a, fun d hd ho => ?_, c⟩
        rcases b d hd ho with z | z
        · by_cases e2 : d = i
          · subst e2
            exact absurd (by unfold sLeft; rw [z.1]; exact Int32.sub_self _) q
          · exact Or.inl ⟨z.1, by omega⟩
        · exact Or.inr z
theorem q4.d2 {v : Nat → Int32} (hq : q4 v) (hK : zK v) : ∀ (i : Nat), q4 (sD2 v i)
  | 0 => hq
  | i + 1 => by
    have a := q4.d2 hq hK i
    unfold sD2
    by_cases q : sLeft (sD2 v i) i = sD2 v i 3
    · rw [if_pos q]; exact q4.cov _ _ _ a (sD2_nn hK i).1
    · rw [if_neg q]; exact a
theorem q4.d3 {v : Nat → Int32} (hq : q4 v) (hH : zH v) (hO : zOp v) : ∀ (i : Nat), i ≤ nD v → q4 (sD3 v i)
  | 0, _ => hq
  | i + 1, hi => by
    have a := q4.d3 hq hH hO i (by omega)
    obtain ⟨b, -, -, e⟩ := sD3_H hH hO i (by omega)
    unfold sD3
    have h10 := hH.1.1.2
    obtain ⟨w, hw, h5, -⟩ := b.1.2.2.1 i (by omega)
    rw [h5, zn_nI (by omega)]
    exact q4.lb w _ a b (by omega) h5 hw
theorem q4.day {v : Nat → Int32} {t : Nat} (hq : q4 v) (hH : zH v) (hO : zOp v) (e : v 0 = nI t) (ht : t < 9999) : q4 (sDayC v) := by
  have hK := hH.1
  have e0 : sDay0 v 0 = nI (t + 1) := by unfold sDay0; rw [upd_eq, e, nI_add]
  have en : ∀ j, j ≠ 0 → sDay0 v j = v j := fun j hj => by unfold sDay0; exact upd_ne hj
  have k0 := hK.day0
  have a3 : q3 (sDay0 v) := hq.1.of ⟨hK.1, hK.2.1⟩ (en _ (by omega)) (en _ (by omega)) (by rw [en 7 (by omega), aSum_of (fun h hh => en _ (by omega))]) (fun d a => ⟨en _ (by omega), en _ (by omega)⟩) (fun r a => ⟨en _ (by omega), fun z => by rw [en _ (by omega)] at z; exact z, fun z => by rw [en _ (by omega)] at z; exact ⟨z, en _ (by omega)⟩⟩)
  have aL : qLi 0 (sDay0 v) := by
    intro d hd ho
    rw [nD_day0] at hd
    obtain ⟨a, ha1, ha, ea⟩ := (hH.2.2.2.1 d hd).1
    rw [e0, en _ (by omega), ea] at ho ⊢
    by_cases z : t + 1 = a
    · exact Or.inl ⟨by rw [z], by omega⟩
    · right
      rw [en _ (by omega)]
      refine hq.2 d hd (fun w => ho ?_)
      rw [e, ea] at w
      have := (nI_ltI (by omega) (by omega)).mp w
      exact nI_lt (by omega) (by omega)
  obtain ⟨b3, bL, b0⟩ := q3.d1 a3 k0 aL (nD v) (sDayA v).1 (sDayA v).2 (by rw [nD_day0]; omega) rfl
  obtain ⟨⟨c1, c2, c3, c4⟩, ⟨f1, f2, f3, f4⟩, -⟩ := sDay_H hH hO e ht
  have bq : q4 (sDayA v).2 := ⟨b3, fun d hd ho => by
    rcases bL d hd ho with z | z
    · rw [c4] at hd; omega
    · exact z⟩
  have q2 : q4 (sDayB v) := bq.d2 c1.1 (nD v)
  exact q2.d3 f1 f2 (nD v) (by omega)
theorem q4.days {v : Nat → Int32} {t : Nat} (hq : q4 v) (hH : zH v) (hO : zOp v) (e : v 0 = nI t) : ∀ (i n : Nat) (u : Nat → Int32), t + i ≤ 9999 → sDays v i = (n, u) → q4 u
  | 0, n, u, _, h => by cases h; exact hq
  | i + 1, n, u, hi, h => by
    unfold sDays at h
    cases hs : sDays v i with
    | mk n1 u1 =>
      rw [hs] at h
      have a := q4.days hq hH hO e i n1 u1 (by omega) hs
      obtain ⟨b1, b2, b3⟩ := sDays_H hH hO e i n1 u1 (by omega) hs
      cases h
      exact a.day b1 b2 b3 (by omega)
