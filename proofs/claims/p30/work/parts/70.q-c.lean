/-! ===== what the law's sums come to ===== -/
def nS (f : Nat → Nat) : Nat → Nat
  | 0 => 0
  | n + 1 => nS f n + f n
theorem nS_congr {f g : Nat → Nat} : ∀ {n : Nat}, (∀ j, j < n → f j = g j) → nS f n = nS g n
  | 0, _ => rfl
  | n + 1, h => by unfold nS; rw [nS_congr (fun j hj => h j (by omega)), h n (by omega)]
theorem nS_add {f g : Nat → Nat} : ∀ {n : Nat}, nS (fun j => f j + g j) n = nS f n + nS g n
  | 0 => rfl
  | n + 1 => by unfold nS; rw [nS_add]; omega
theorem nS_one {f : Nat → Nat} {g c : Nat} (h1 : f g = c) (h0 : ∀ j, j ≠ g → f j = 0) : ∀ {n : Nat}, nS f n = if g < n then c else 0
  | 0 => rfl
  | n + 1 => by
    unfold nS
    rw [nS_one h1 h0]
    by_cases e : n = g
    · subst e; rw [if_neg (by omega), if_pos (by omega), h1]; omega
    · rw [h0 n e]
      by_cases q : g < n
      · rw [if_pos q, if_pos (by omega)]; omega
      · rw [if_neg q, if_neg (by omega)]
theorem nS_zero {f : Nat → Nat} : ∀ {n : Nat}, (∀ j, j < n → f j = 0) → nS f n = 0
  | 0, _ => rfl
  | n + 1, h => by unfold nS; rw [nS_zero (fun j hj => h j (by omega)), h n (by omega)]
theorem nS_le {f : Nat → Nat} {c : Nat} : ∀ {n : Nat}, (∀ j, j < n → f j ≤ c) → nS f n ≤ n * c
  | 0, _ => Nat.zero_le _
  | n + 1, h => by
    have a := nS_le (f := f) (c := c) (n := n) (fun j hj => h j (by omega))
    have b := h n (by omega)
    unfold nS
    rw [Nat.succ_mul]; omega
theorem sCs_s {v : Nat → Int32} {x : Int32} {n : Nat} : sCs v x (n + 1) = sCs v x n + if v (147 + 7 * n + 3) = x then 1 else 0 := rfl
/-- rights are counted once each, by their states -/
theorem sum_states {v : Nat → Int32} : ∀ {n : Nat}, (∀ r, r < n → ∃ s, s ≤ 5 ∧ v (147 + 7 * r + 3) = nI s) → nS (fun k => sCs v (nI k) n) 6 = n
  | 0, _ => rfl
  | n + 1, h => by
    have a := sum_states (v := v) (n := n) (fun r hr => h r (by omega))
    obtain ⟨s, hs, e⟩ := h n (by omega)
    have b : nS (fun k => sCs v (nI k) (n + 1)) 6 = nS (fun k => sCs v (nI k) n + if v (147 + 7 * n + 3) = nI k then 1 else 0) 6 := nS_congr (fun j hj => rfl)
    rw [b, nS_add, a, e]
    rw [nS_congr (g := fun k => if s = k then 1 else 0) (fun j hj => by
      by_cases q : s = j
      · subst q; rw [if_pos rfl, if_pos rfl]
      · rw [if_neg (fun z => q ((nI_eq (by omega) (by omega)).mp z)), if_neg q]), nS_one (f := fun k => if s = k then 1 else 0) (g := s) (c := 1) (if_pos rfl) (fun j hj => if_neg (Ne.symm hj)), if_pos (by omega)]
theorem nI_lt2 {s : Nat} (h : s < 2 ^ 31) : nI s < nI 2 ↔ s < 2 := nI_ltI h (by omega)
/-- held and offered rights, by their holders -/
theorem sum_held {v : Nat → Int32} : ∀ {n : Nat}, (∀ r, r < n → (∃ s, s ≤ 5 ∧ v (147 + 7 * r + 3) = nI s) ∧ ∃ g, g < 10 ∧ v (147 + 7 * r + 1) = nI g) → nS (fun h => sHa v h n) 10 = sCs v (nI 0) n + sCs v (nI 1) n
  | 0, _ => rfl
  | n + 1, h => by
    have a := sum_held (v := v) (n := n) (fun r hr => h r (by omega))
    obtain ⟨⟨s, hs, e⟩, g, hg, e1⟩ := h n (by omega)
    have b : nS (fun h => sHa v h (n + 1)) 10 = nS (fun h => sHa v h n + if v (147 + 7 * n + 1) = nI h ∧ v (147 + 7 * n + 3) < nI 2 then 1 else 0) 10 := nS_congr (fun j hj => rfl)
    rw [b, nS_add, a, e, e1]
    rw [nS_congr (g := fun k => if g = k ∧ s < 2 then 1 else 0) (fun j hj => by
      by_cases q : g = j ∧ s < 2
      · rw [if_pos q, q.1, if_pos ⟨rfl, (nI_lt2 (by omega)).mpr q.2⟩]
      · rw [if_neg q, if_neg (fun z => q ⟨(nI_eq (by omega) (by omega)).mp z.1, (nI_lt2 (by omega)).mp z.2⟩)]), nS_one (f := fun k => if g = k ∧ s < 2 then 1 else 0) (g := g) (c := if s < 2 then 1 else 0) (by simp) (fun j hj => if_neg (fun z => hj z.1.symm)), if_pos (by omega)]
    simp only [sCs_s]
    rw [e]
    rcases (by omega : s = 0 ∨ s = 1 ∨ 2 ≤ s) with q | q | q
    · subst q; rw [if_pos (by omega), if_pos rfl, if_neg (by decide)]; omega
    · subst q; rw [if_pos (by omega), if_neg (by decide), if_pos rfl]; omega
    · rw [if_neg (by omega), if_neg (fun z => by have := (nI_eq (by omega) (by omega)).mp z; omega), if_neg (fun z => by have := (nI_eq (by omega) (by omega)).mp z; omega)]; omega
theorem sum_exer {v : Nat → Int32} : ∀ {n : Nat}, (∀ r, r < n → (∃ s, s ≤ 5 ∧ v (147 + 7 * r + 3) = nI s) ∧ ∃ g, g < 10 ∧ v (147 + 7 * r + 1) = nI g) → nS (fun h => sHe v h n) 10 = sCs v (nI 2) n
  | 0, _ => rfl
  | n + 1, h => by
    have a := sum_exer (v := v) (n := n) (fun r hr => h r (by omega))
    obtain ⟨⟨s, hs, e⟩, g, hg, e1⟩ := h n (by omega)
    have b : nS (fun h => sHe v h (n + 1)) 10 = nS (fun h => sHe v h n + if v (147 + 7 * n + 1) = nI h ∧ v (147 + 7 * n + 3) = nI 2 then 1 else 0) 10 := nS_congr (fun j hj => rfl)
    rw [b, nS_add, a, e, e1]
    rw [nS_congr (g := fun k => if g = k ∧ s = 2 then 1 else 0) (fun j hj => by
      by_cases q : g = j ∧ s = 2
      · rw [if_pos q, q.1, if_pos ⟨rfl, by rw [q.2]⟩]
      · rw [if_neg q, if_neg (fun z => q ⟨(nI_eq (by omega) (by omega)).mp z.1, (nI_eq (by omega) (by omega)).mp z.2⟩)]), nS_one (f := fun k => if g = k ∧ s = 2 then 1 else 0) (g := g) (c := if s = 2 then 1 else 0) (by simp) (fun j hj => if_neg (fun z => hj z.1.symm)), if_pos (by omega)]
    simp only [sCs_s]
    rw [e]
    by_cases q : s = 2
    · subst q; rw [if_pos rfl, if_pos rfl]
    · rw [if_neg q, if_neg (fun z => q ((nI_eq (by omega) (by omega)).mp z))]
theorem zIn02 {s : Nat} (h : s < 2 ^ 31) : zIn (nI s) (nI 0) (nI 2) = true ↔ s ≤ 2 := by
  unfold zIn
  rw [Bool.and_eq_true, decide_eq_true_eq, decide_eq_true_eq, nI_leI (by omega) h, nI_leI h (by omega)]
  omega
/-- rights that are out, by their dates -/
theorem sum_out {v : Nat → Int32} {D : Nat} (hD : D ≤ 10) : ∀ {n : Nat}, (∀ r, r < n → (∃ s, s ≤ 5 ∧ v (147 + 7 * r + 3) = nI s) ∧ ∃ d, d < D ∧ v (147 + 7 * r + 0) = nI d) → nS (fun d => sCnt v d (nI 0) (nI 2) n) D = sCs v (nI 0) n + sCs v (nI 1) n + sCs v (nI 2) n
  | 0, _ => by
    show nS (fun d => 0) D = 0
    exact nS_zero (fun j hj => rfl)
  | n + 1, h => by
    have a := sum_out (v := v) hD (n := n) (fun r hr => h r (by omega))
    obtain ⟨⟨s, hs, e⟩, g, hg, e1⟩ := h n (by omega)
    have b : nS (fun d => sCnt v d (nI 0) (nI 2) (n + 1)) D = nS (fun d => sCnt v d (nI 0) (nI 2) n + if v (147 + 7 * n + 0) = nI d ∧ zIn (v (147 + 7 * n + 3)) (nI 0) (nI 2) = true then 1 else 0) D := nS_congr (fun j hj => rfl)
    rw [b, nS_add, a, e, e1]
    rw [nS_congr (g := fun k => if g = k ∧ s ≤ 2 then 1 else 0) (fun j hj => by
      by_cases q : g = j ∧ s ≤ 2
      · rw [if_pos q, q.1, if_pos ⟨rfl, (zIn02 (by omega)).mpr q.2⟩]
      · rw [if_neg q, if_neg (fun z => q ⟨(nI_eq (by omega) (by omega)).mp z.1, (zIn02 (by omega)).mp z.2⟩)]), nS_one (f := fun k => if g = k ∧ s ≤ 2 then 1 else 0) (g := g) (c := if s ≤ 2 then 1 else 0) (by simp) (fun j hj => if_neg (fun z => hj z.1.symm)), if_pos (by omega)]
    simp only [sCs_s]
    rw [e]
    rcases (by omega : s = 0 ∨ s = 1 ∨ s = 2 ∨ 3 ≤ s) with q | q | q | q
    · subst q; rw [if_pos (by omega), if_pos rfl, if_neg (by decide), if_neg (by decide)]; omega
    · subst q; rw [if_pos (by omega), if_neg (by decide), if_pos rfl, if_neg (by decide)]; omega
    · subst q; rw [if_pos (by omega), if_neg (by decide), if_neg (by decide), if_pos rfl]; omega
    · rw [if_neg (by omega), if_neg (fun z => by have := (nI_eq (by omega) (by omega)).mp z; omega), if_neg (fun z => by have := (nI_eq (by omega) (by omega)).mp z; omega), if_neg (fun z => by have := (nI_eq (by omega) (by omega)).mp z; omega)]; omega
theorem sPl_s {v : Nat → Int32} {d n : Nat} {h : Int32} : sPl v d h (n + 1) = if v (27 + 12 * d + (6 + n)) = h then nI n else sPl v d h n := rfl
theorem nI_nneg {n : Nat} (h : n < 2 ^ 31) : (0 : Int32) ≤ nI n := nI_pos' h
/-- a list has as many holders as its length -/
theorem sum_list {v : Nat → Int32} {d N : Nat} (hN6 : N ≤ 6) (h5 : v (27 + 12 * d + 5) = nI N) (hl : zHl v d) (hh : ∀ k, k < N → ∃ h, h < 10 ∧ v (27 + 12 * d + (6 + k)) = nI h) : ∀ {n : Nat}, n ≤ N → nS (fun h => if 0 ≤ sPl v d (nI h) n then 1 else 0) 10 = n
  | 0, _ => nS_zero (fun j hj => if_neg (by unfold sPl; decide))
  | n + 1, hn => by
    have a := sum_list hN6 h5 hl hh (n := n) (by omega)
    obtain ⟨g, hg, e⟩ := hh n (by omega)
    have b : nS (fun h => if 0 ≤ sPl v d (nI h) (n + 1) then 1 else 0) 10 = nS (fun h => (if 0 ≤ sPl v d (nI h) n then 1 else 0) + (if g = h then 1 else 0)) 10 := nS_congr (fun j hj => by
      show (if 0 ≤ sPl v d (nI j) (n + 1) then 1 else 0) = (if 0 ≤ sPl v d (nI j) n then 1 else 0) + (if g = j then 1 else 0)
      rw [sPl_s]
      by_cases q : g = j
      · subst q
        rw [if_pos e, if_pos (nI_nneg (by omega)), if_pos rfl, sPl_not (fun k hk z => by
          have := hl N k n h5 hN6 (by omega) (by omega) (z.trans e.symm)
          omega), if_neg (by decide)]
      · rw [if_neg (fun z => q ((nI_eq (by omega) (by omega)).mp (e.symm.trans z))), if_neg q, Nat.add_zero])
    rw [b, nS_add, a, nS_one (f := fun k => if g = k then 1 else 0) (g := g) (c := 1) (if_pos rfl) (fun j hj => if_neg (Ne.symm hj)), if_pos hg]
theorem sum_lists {v : Nat → Int32} (hH : zH v) : ∀ {D : Nat}, D ≤ 10 → nS (fun h => sHl v h D) 10 = nS (fun d => zn (v (27 + 12 * d + 5))) D
  | 0, _ => rfl
  | D + 1, hD => by
    have a := sum_lists hH (D := D) (by omega)
    obtain ⟨N, hN, h5, hh⟩ := hH.1.2.2.1 D (by omega)
    have b : nS (fun h => sHl v h (D + 1)) 10 = nS (fun h => sHl v h D + if 0 ≤ sPl v D (nI h) (zn (v (27 + 12 * D + 5))) then 1 else 0) 10 := nS_congr (fun j hj => rfl)
    rw [b, nS_add, a]
    show _ = nS (fun d => zn (v (27 + 12 * d + 5))) D + zn (v (27 + 12 * D + 5))
    rw [h5, zn_nI (by omega), sum_list hN h5 (hH.2.2.2.2.2.1 D (by omega)) hh (Nat.le_refl _)]
/-! the numbers that are told, as the law asks for them -/
theorem zIn_ok {a b x : Nat} (ha : a ≤ x) (hb : x ≤ b) (h : b < 2 ^ 31) : zIn (nI x) (nI a) (nI b) = true := by
  unfold zIn
  rw [Bool.and_eq_true, decide_eq_true_eq, decide_eq_true_eq]
  exact ⟨nI_le ha (by omega), nI_le hb h⟩
theorem zIn_okp {x n : Nat} (hb : x < n) (h : n < 2 ^ 31) : zIn (nI x) (nI 0) (nI n - nI 1) = true := by
  rw [nI_sub (by omega)]
  exact zIn_ok (Nat.zero_le _) (by omega) (by omega)
theorem e_date {v : Nat → Int32} {d w : Nat} (hJ : zJ1 v) (hd : d < nD v) (hw : w ≤ 13) : sDate v (nI d) (nI w) = sDateW v d w := by
  have h10 := hJ.2
  unfold sDate
  rw [hJ.1, if_pos (zIn_okp hd (by omega)), if_pos (zIn_ok (Nat.zero_le _) hw (by omega)), zn_nI (by omega), zn_nI (by omega)]
theorem e_hold {v : Nat → Int32} {h w : Nat} (hh : h < 10) (hw : w ≤ 3) : sHold v (nI h) (nI w) = sHoldW v h w := by
  unfold sHold
  rw [if_pos (zIn_ok (Nat.zero_le _) (by omega) (by omega)), if_pos (zIn_ok (Nat.zero_le _) hw (by omega)), zn_nI (by omega), zn_nI (by omega)]
theorem e_count {v : Nat → Int32} {n t w : Nat} (hw : w ≤ 13) : (if nI w = nI 14 then nI n else if nI w = nI 15 then nI t else kCount v (nI w)) = sCountW v (fun _ _ => 0) w := by
  rw [if_neg (fun z => by have := (nI_eq (by omega) (by omega)).mp z; omega), if_neg (fun z => by have := (nI_eq (by omega) (by omega)).mp z; omega)]
  unfold kCount
  rw [if_pos (zIn_ok (Nat.zero_le _) hw (by omega)), zn_nI (by omega)]
theorem e_countS {v : Nat → Int32} {k : Nat} (hk : k < 6) : sCountW v (fun _ _ => 0) (3 + k) = nI (sCs v (nI k) (nR v)) := by
  rcases (by omega : k = 0 ∨ k = 1 ∨ k = 2 ∨ k = 3 ∨ k = 4 ∨ k = 5) with q | q | q | q | q | q <;> subst q
  · show nI (sCs v (nI 3 - nI 3) (nR v)) = nI (sCs v (nI 0) (nR v))
    rw [show nI 3 - nI 3 = nI 0 from by decide]
  · show nI (sCs v (nI 4 - nI 3) (nR v)) = nI (sCs v (nI 1) (nR v))
    rw [show nI 4 - nI 3 = nI 1 from by decide]
  · show nI (sCs v (nI 5 - nI 3) (nR v)) = nI (sCs v (nI 2) (nR v))
    rw [show nI 5 - nI 3 = nI 2 from by decide]
  · show nI (sCs v (nI 6 - nI 3) (nR v)) = nI (sCs v (nI 3) (nR v))
    rw [show nI 6 - nI 3 = nI 3 from by decide]
  · show nI (sCs v (nI 7 - nI 3) (nR v)) = nI (sCs v (nI 4) (nR v))
    rw [show nI 7 - nI 3 = nI 4 from by decide]
  · show nI (sCs v (nI 8 - nI 3) (nR v)) = nI (sCs v (nI 5) (nR v))
    rw [show nI 8 - nI 3 = nI 5 from by decide]
theorem acc_9 {v : Nat → Int32} : sCountW v (fun _ _ => 0) 9 - 1000000000 = v 7 := by
  show v 7 + 1000000000 - 1000000000 = v 7
  rw [Int32.add_sub_cancel]
theorem acc_h {v : Nat → Int32} {h : Nat} : sHoldW v h 0 - 1000000000 = v (17 + h) := by
  show v (17 + h) + 1000000000 - 1000000000 = v (17 + h)
  rw [Int32.add_sub_cancel]
/-- all that sums() compares -/
theorem sums_ok {v : Nat → Int32} (hQ : zAll v) : v 7 + aSum v 10 = 0 ∧ nS (fun k => sCs v (nI k) (nR v)) 6 = nR v ∧ nS (fun h => sHa v h (nR v)) 10 = sCs v (nI 0) (nR v) + sCs v (nI 1) (nR v) ∧ nS (fun h => sHe v h (nR v)) 10 = sCs v (nI 2) (nR v) ∧
    nS (fun d => sOut v d) (nD v) = nS (fun h => sHa v h (nR v)) 10 + nS (fun h => sHe v h (nR v)) 10 ∧ nS (fun h => sHl v h (nD v)) 10 = nS (fun d => zn (v (27 + 12 * d + 5))) (nD v) := by
  obtain ⟨⟨⟨hH, hO⟩, -⟩, ⟨⟨hA, -, -⟩, -⟩⟩ := hQ
  have h10 := hH.1.1.2
  have st : ∀ r, r < nR v → ∃ s, s ≤ 5 ∧ v (147 + 7 * r + 3) = nI s := fun r hr => (hH.2.2.2.2.1 r hr).1
  have hh := sum_held (v := v) (n := nR v) (fun r hr => ⟨st r hr, (hH.1.2.2.2.2 r hr).2⟩)
  have he := sum_exer (v := v) (n := nR v) (fun r hr => ⟨st r hr, (hH.1.2.2.2.2 r hr).2⟩)
  have ho := sum_out (v := v) (D := nD v) h10 (n := nR v) (fun r hr => ⟨st r hr, (hH.1.2.2.2.2 r hr).1⟩)
  refine ⟨hA, sum_states st, hh, he, ?_, sum_lists hH h10⟩
  rw [hh, he, ← ho]
  rfl
