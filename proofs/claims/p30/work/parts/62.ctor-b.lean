theorem vTg_no {j k : Nat} (h7 : j ≠ 7) (h : zCt j k = none) : ∀ c, ¬ vTg j k c := fun c q => q.elim (fun z => h7 z.1) (fun z => by rw [h] at z; cases z)
theorem vTg_nr {j k n : Nat} (h7 : j ≠ 7) (h : zCt j k = some (.inr n)) : ∀ c, ¬ vTg j k c := fun c q => q.elim (fun z => h7 z.1) (fun z => by rw [h] at z; cases z)
theorem vTg_is {j k n c : Nat} (h7 : j ≠ 7) (h : zCt j k = some (.inl n)) (q : vTg j k c) : c = n := q.elim (fun z => absurd z.1 h7) (fun z => by rw [h] at z; cases z; rfl)
theorem vT_ix {B : Nat → Nat} {j k i : Nat} (h : zIx j k = some i) (h7 : j ≠ 7) (hc : zCt j k = none) : vT B j k = .int (zu0 i) := by unfold vT; rw [if_neg h7, hc, h]
theorem vT_ct {B : Nat → Nat} {j k : Nat} {c : Nat ⊕ Nat} (h7 : j ≠ 7) (hc : zCt j k = some c) : vT B j k = zVal B c := by unfold vT; rw [if_neg h7, hc]
theorem zPS.addput {L0 : List Nat} {sh0 : Nat → Nat × Nat} {mm0 : zM} {B : Nat → Nat} {sh : Nat → Nat × Nat} {L : List Nat} {mm : zM} {D : Nat → Prop} {E : Nat → Nat → Prop} {a : Nat} (h : zPS L0 sh0 mm0 D E B sh L mm) (hB0 : B 0 = a) {q j k : Nat} (hq : q ∉ L) (hj : ¬ D j) {x : Nat × Nat} (hx : x = zBsh j) {f : Nat → Value} {e : Nat → Prop} (he : ∀ k, e k → (∀ c, ¬ vTg j k c) ∧ f k = vT B j k) (hk : zCt 0 k = some (.inl j)) :
    ∃ B', B' 0 = a ∧ zPS L0 sh0 mm0 (fun i => D i ∨ i = j) (fun i k' => (E i k' ∨ (i = j ∧ e k')) ∨ (i = 0 ∧ k' = k)) B' (shU sh q x) (L ++ [q]) (zup (mmU mm q f) a k (.ref q)) := by
  have h5 := h.2.2.2.2.1
  have hj0 : ¬ 0 = j := fun z => hj (z ▸ h5)
  have h1 := h.add hq hj hx he
  have h2 := h1.put (j := 0) (k := k) (Or.inl h5) (v := .ref q) (by
    rw [vT_ct (by decide) hk]
    show Value.ref q = .ref (if j = j then q else B j)
    rw [if_pos rfl]) (fun c hc => Or.inr (vTg_is (by decide) hk hc))
  refine ⟨fun i => if i = j then q else B i, ?_, ?_⟩
  · show (if 0 = j then q else B 0) = a
    rw [if_neg hj0]; exact hB0
  · have e0 : (if 0 = j then q else B 0) = a := by rw [if_neg hj0]; exact hB0
    rw [e0] at h2
    exact h2
def dD (i1 i2 i3 : Nat) (j : Nat) : Prop := j < 8 ∨ (10 ≤ j ∧ j < 10 + i1) ∨ (20 ≤ j ∧ j < 20 + i1) ∨ (30 ≤ j ∧ j < 30 + i2) ∨ (90 ≤ j ∧ j < 90 + i3)
def dE (i1 i2 i3 : Nat) (j k : Nat) : Prop := (dD i1 i2 i3 j ∧ k < (zBsh j).2 ∧ j ≠ 5 ∧ j ≠ 6 ∧ j ≠ 7) ∨ (j = 5 ∧ k < i1) ∨ (j = 6 ∧ k < i2) ∨ (j = 7 ∧ k < i3)
theorem vT_d {B : Nat → Nat} {d k : Nat} (hd : d < 10) (hk : k < 8) (h0 : k ≠ 0) (h6 : k ≠ 6) : (∀ c, ¬ vTg (10 + d) k c) ∧ defaultValue (tyX0 k) = vT B (10 + d) k := by
  have hc : zCt (10 + d) k = none := by
    unfold zCt
    rw [if_neg (by omega), if_neg (by omega), if_neg (by omega), if_pos (by omega), if_neg h0, if_neg h6]
  refine ⟨vTg_no (by omega) hc, ?_⟩
  have hz : ∀ i, 17 ≤ i → zu0 i = 0 := fun i hi => by unfold zu0; rw [if_neg (by omega), if_neg (by omega), if_neg (by omega), if_neg (by omega)]
  by_cases k7 : k = 7
  · subst k7
    rw [vT_ix (zIx_d7 hd) (by omega) hc, hz _ (by omega)]; rfl
  · rw [vT_ix (zIx_d hd ⟨by omega, by omega⟩) (by omega) hc, hz _ (by omega)]
    rcases (by omega : k = 1 ∨ k = 2 ∨ k = 3 ∨ k = 4 ∨ k = 5) with rfl | rfl | rfl | rfl | rfl <;> rfl
theorem vT_l {B : Nat → Nat} {d k : Nat} (hd : d < 10) (hk : k < 6) : (∀ c, ¬ vTg (20 + d) k c) ∧ Value.int 0 = vT B (20 + d) k := by
  have hc : zCt (20 + d) k = none := by
    unfold zCt
    rw [if_neg (by omega), if_neg (by omega), if_neg (by omega), if_neg (by omega), if_neg (by omega)]
  refine ⟨vTg_no (by omega) hc, ?_⟩
  rw [vT_ix (zIx_l hd hk) (by omega) hc]
  congr 1
  unfold zu0; rw [if_neg (by omega), if_neg (by omega), if_neg (by omega), if_neg (by omega)]
theorem vT_r {B : Nat → Nat} {r k : Nat} (hr : r < 60) (hk : k < 8) (h0 : k ≠ 0) : (∀ c, ¬ vTg (30 + r) k c) ∧ defaultValue (tyX4 k) = vT B (30 + r) k := by
  have hc : zCt (30 + r) k = none := by
    unfold zCt
    rw [if_neg (by omega), if_neg (by omega), if_neg (by omega), if_neg (by omega), if_pos (by omega), if_neg h0]
  refine ⟨vTg_no (by omega) hc, ?_⟩
  rw [vT_ix (zIx_r hr ⟨by omega, by omega⟩) (by omega) hc]
  rw [show zu0 (147 + 7 * r + (k - 1)) = 0 by unfold zu0; rw [if_neg (by omega), if_neg (by omega), if_neg (by omega), if_neg (by omega)]]
  rcases (by omega : k = 1 ∨ k = 2 ∨ k = 3 ∨ k = 4 ∨ k = 5 ∨ k = 6 ∨ k = 7) with rfl | rfl | rfl | rfl | rfl | rfl | rfl <;> rfl
theorem vT_e {B : Nat → Nat} {e k : Nat} (he : e < 10) (hk : k < 4) : (∀ c, ¬ vTg (90 + e) k c) ∧ defaultValue (tyX1 k) = vT B (90 + e) k := by
  have hc : zCt (90 + e) k = none := by
    unfold zCt
    rw [if_neg (by omega), if_neg (by omega), if_neg (by omega), if_neg (by omega), if_neg (by omega)]
  have hi : zIx (90 + e) k = none := by
    unfold zIx
    rw [if_neg (by omega), if_neg (by omega), if_neg (by omega), if_neg (by omega), if_neg (by omega), if_neg (by omega), if_neg (by omega), if_neg (by omega)]
  refine ⟨vTg_no (by omega) hc, ?_⟩
  unfold vT
  rw [if_neg (by omega), hc, hi]
  rcases (by omega : k = 0 ∨ k = 1 ∨ k = 2 ∨ k = 3) with rfl | rfl | rfl | rfl <;> rfl
theorem zPS.date {L0 : List Nat} {sh0 : Nat → Nat × Nat} {mm0 : zM} {B : Nat → Nat} {sh : Nat → Nat × Nat} {L : List Nat} {mm : zM} {a i a1 q : Nat} (h : zPS L0 sh0 mm0 (dD i 0 0) (dE i 0 0) B sh L mm) (hi : i < 10) (hB0 : B 0 = a) (h1 : a1 ∉ L) (h2 : q ∉ L ++ [a1]) :
    ∃ B', B' 0 = a ∧ zPS L0 sh0 mm0 (dD (i + 1) 0 0) (dE (i + 1) 0 0) B' (shU (shU sh a1 (0, 8)) q (9, 6)) ((L ++ [a1]) ++ [q]) (zup (zup (zup (mmU (mmU mm a1 (fun j => defaultValue (tyX0 j))) q (fun _ => .int 0)) a1 6 (.ref q)) a1 0 (.int (nI i))) (B 5) i (.ref a1)) := by
  have k1 := h.add (j := 10 + i) h1 (by unfold dD; omega) (zBsh_d hi).symm (f := fun j => defaultValue (tyX0 j)) (e := fun k => k < 8 ∧ k ≠ 0 ∧ k ≠ 6) (fun k hk => vT_d hi hk.1 hk.2.1 hk.2.2)
  obtain ⟨B1, hB1⟩ : ∃ B1 : Nat → Nat, B1 = fun j => if j = 10 + i then a1 else B j := ⟨_, rfl⟩
  rw [← hB1] at k1
  have k2 := k1.add (j := 20 + i) h2 (by unfold dD; omega) (zBsh_l hi).symm (f := fun _ => .int 0) (e := fun k => k < 6) (fun k hk => vT_l hi hk)
  obtain ⟨B2, hB2⟩ : ∃ B2 : Nat → Nat, B2 = fun j => if j = 20 + i then q else B1 j := ⟨_, rfl⟩
  rw [← hB2] at k2
  have ea : B2 (10 + i) = a1 := by rw [hB2]; show (if 10 + i = 20 + i then q else B1 (10 + i)) = a1; rw [if_neg (by omega), hB1]; exact if_pos rfl
  have eq : B2 (20 + i) = q := by rw [hB2]; exact if_pos rfl
  have eo : ∀ j, j < 8 → B2 j = B j := fun j hj => by rw [hB2]; show (if j = 20 + i then q else B1 j) = _; rw [if_neg (by omega), hB1]; exact if_neg (by omega)
  have k3 := k2.put (j := 10 + i) (k := 6) (v := .ref q) (Or.inl (Or.inr rfl)) (by rw [vT_ct (by omega) (zCt_d6 hi)]; show _ = Value.ref (B2 (20 + i)); rw [eq]) (fun c hc => Or.inr (vTg_is (by omega) (zCt_d6 hi) hc))
  have k4 := k3.put (j := 10 + i) (k := 0) (v := .int (nI i)) (Or.inl (Or.inr rfl)) (by rw [vT_ct (by omega) (zCt_d0 hi)]; rfl) (fun c hc => absurd hc (vTg_nr (by omega) (zCt_d0 hi) c))
  have k5 := k4.put (j := 5) (k := i) (v := .ref a1) (Or.inl (Or.inl (Or.inl (by omega)))) (by rw [vT_ct (by omega) (zCt_5 hi)]; show _ = Value.ref (B2 (10 + i)); rw [ea]) (fun c hc => Or.inl (Or.inr (vTg_is (by omega) (zCt_5 hi) hc)))
  rw [ea, eo 5 (by omega)] at k5
  refine ⟨B2, (eo 0 (by omega)).trans hB0, k5.of (fun j => by unfold dD; omega) (fun j k hE => ?_)⟩
  rcases hE with ⟨hD, hk, n5, n6, n7⟩ | ⟨rfl, hk⟩ | ⟨rfl, hk⟩ | ⟨rfl, hk⟩
  · by_cases q1 : j = 10 + i
    · subst q1
      rw [zBsh_d hi] at hk
      have hk : k < 8 := hk
      by_cases k0 : k = 0
      · exact Or.inl (Or.inr ⟨rfl, k0⟩)
      · by_cases k6 : k = 6
        · exact Or.inl (Or.inl (Or.inr ⟨rfl, k6⟩))
        · exact Or.inl (Or.inl (Or.inl (Or.inl (Or.inr ⟨rfl, hk, k0, k6⟩))))
    · by_cases q2 : j = 20 + i
      · subst q2
        rw [zBsh_l hi] at hk
        exact Or.inl (Or.inl (Or.inl (Or.inr ⟨rfl, hk⟩)))
      · exact Or.inl (Or.inl (Or.inl (Or.inl (Or.inl (Or.inl ⟨by unfold dD at *; omega, hk, n5, n6, n7⟩)))))
  · by_cases q1 : k = i
    · exact Or.inr ⟨rfl, q1⟩
    · exact Or.inl (Or.inl (Or.inl (Or.inl (Or.inl (Or.inr (Or.inl ⟨rfl, by omega⟩))))))
  · exact absurd hk (by omega)
  · exact absurd hk (by omega)
theorem zPS.rght {L0 : List Nat} {sh0 : Nat → Nat × Nat} {mm0 : zM} {B : Nat → Nat} {sh : Nat → Nat × Nat} {L : List Nat} {mm : zM} {a i a1 : Nat} (h : zPS L0 sh0 mm0 (dD 10 i 0) (dE 10 i 0) B sh L mm) (hi : i < 60) (hB0 : B 0 = a) (h1 : a1 ∉ L) :
    ∃ B', B' 0 = a ∧ zPS L0 sh0 mm0 (dD 10 (i + 1) 0) (dE 10 (i + 1) 0) B' (shU sh a1 (4, 8)) (L ++ [a1]) (zup (zup (mmU mm a1 (fun j => defaultValue (tyX4 j))) a1 0 (.int (nI i))) (B 6) i (.ref a1)) := by
  have k1 := h.add (j := 30 + i) h1 (by unfold dD; omega) (zBsh_r hi).symm (f := fun j => defaultValue (tyX4 j)) (e := fun k => k < 8 ∧ k ≠ 0) (fun k hk => vT_r hi hk.1 hk.2)
  obtain ⟨B1, hB1⟩ : ∃ B1 : Nat → Nat, B1 = fun j => if j = 30 + i then a1 else B j := ⟨_, rfl⟩
  rw [← hB1] at k1
  have ea : B1 (30 + i) = a1 := by rw [hB1]; exact if_pos rfl
  have eo : ∀ j, j < 8 → B1 j = B j := fun j hj => by rw [hB1]; exact if_neg (by omega)
  have k4 := k1.put (j := 30 + i) (k := 0) (v := .int (nI i)) (Or.inr rfl) (by rw [vT_ct (by omega) (zCt_r0 hi)]; rfl) (fun c hc => absurd hc (vTg_nr (by omega) (zCt_r0 hi) c))
  have k5 := k4.put (j := 6) (k := i) (v := .ref a1) (Or.inl (Or.inl (by omega))) (by rw [vT_ct (by omega) (zCt_6 hi)]; show _ = Value.ref (B1 (30 + i)); rw [ea]) (fun c hc => Or.inr (vTg_is (by omega) (zCt_6 hi) hc))
  rw [ea, eo 6 (by omega)] at k5
  refine ⟨B1, (eo 0 (by omega)).trans hB0, k5.of (fun j => by unfold dD; omega) (fun j k hE => ?_)⟩
  rcases hE with ⟨hD, hk, n5, n6, n7⟩ | ⟨rfl, hk⟩ | ⟨rfl, hk⟩ | ⟨rfl, hk⟩
  · by_cases q1 : j = 30 + i
    · subst q1
      rw [zBsh_r hi] at hk
      have hk : k < 8 := hk
      by_cases k0 : k = 0
      · exact Or.inl (Or.inr ⟨rfl, k0⟩)
      · exact Or.inl (Or.inl (Or.inr ⟨rfl, hk, k0⟩))
    · exact Or.inl (Or.inl (Or.inl (Or.inl ⟨by unfold dD at *; omega, hk, n5, n6, n7⟩)))
  · exact Or.inl (Or.inl (Or.inl (Or.inr (Or.inl ⟨rfl, hk⟩))))
  · by_cases q1 : k = i
    · exact Or.inr ⟨rfl, q1⟩
    · exact Or.inl (Or.inl (Or.inl (Or.inr (Or.inr (Or.inl ⟨rfl, by omega⟩)))))
  · exact absurd hk (by omega)
theorem zPS.evnt {L0 : List Nat} {sh0 : Nat → Nat × Nat} {mm0 : zM} {B : Nat → Nat} {sh : Nat → Nat × Nat} {L : List Nat} {mm : zM} {a i a1 : Nat} (h : zPS L0 sh0 mm0 (dD 10 60 i) (dE 10 60 i) B sh L mm) (hi : i < 10) (hB0 : B 0 = a) (h1 : a1 ∉ L) :
    ∃ B', B' 0 = a ∧ zPS L0 sh0 mm0 (dD 10 60 (i + 1)) (dE 10 60 (i + 1)) B' (shU sh a1 (1, 4)) (L ++ [a1]) (zup (mmU mm a1 (fun j => defaultValue (tyX1 j))) (B 7) i (.ref a1)) := by
  have k1 := h.add (j := 90 + i) h1 (by unfold dD; omega) (zBsh_e hi).symm (f := fun j => defaultValue (tyX1 j)) (e := fun k => k < 4) (fun k hk => vT_e hi hk)
  obtain ⟨B1, hB1⟩ : ∃ B1 : Nat → Nat, B1 = fun j => if j = 90 + i then a1 else B j := ⟨_, rfl⟩
  rw [← hB1] at k1
  have ea : B1 (90 + i) = a1 := by rw [hB1]; exact if_pos rfl
  have eo : ∀ j, j < 8 → B1 j = B j := fun j hj => by rw [hB1]; exact if_neg (by omega)
  have k5 := k1.put (j := 7) (k := i) (v := .ref a1) (Or.inl (Or.inl (by omega))) (by unfold vT; rw [if_pos rfl, ea]) (fun c hc => Or.inr (hc.elim (fun z => z.2) (fun z => by cases z)))
  rw [eo 7 (by omega)] at k5
  refine ⟨B1, (eo 0 (by omega)).trans hB0, k5.of (fun j => by unfold dD; omega) (fun j k hE => ?_)⟩
  rcases hE with ⟨hD, hk, n5, n6, n7⟩ | ⟨rfl, hk⟩ | ⟨rfl, hk⟩ | ⟨rfl, hk⟩
  · by_cases q1 : j = 90 + i
    · subst q1
      rw [zBsh_e hi] at hk
      exact Or.inl (Or.inr ⟨rfl, hk⟩)
    · exact Or.inl (Or.inl (Or.inl ⟨by unfold dD at *; omega, hk, n5, n6, n7⟩))
  · exact Or.inl (Or.inl (Or.inr (Or.inl ⟨rfl, hk⟩)))
  · exact Or.inl (Or.inl (Or.inr (Or.inr (Or.inl ⟨rfl, hk⟩))))
  · by_cases q1 : k = i
    · exact Or.inr ⟨rfl, q1⟩
    · exact Or.inl (Or.inl (Or.inr (Or.inr (Or.inr ⟨rfl, by omega⟩))))
