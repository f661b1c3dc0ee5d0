/-! ===== the start: class and reference side by side ===== -/
theorem zu0_hi {i : Nat} (h : 17 ≤ i) : zu0 i = 0 := by unfold zu0; rw [if_neg (by omega), if_neg (by omega), if_neg (by omega), if_neg (by omega)]
theorem nR_0 : nR zu0 = 0 := rfl
theorem nD_0 : nD zu0 = 0 := rfl
theorem zY_0 : zY zu0 := by
  refine ⟨⟨⟨⟨⟨rfl, Nat.zero_le _⟩, ⟨rfl, Nat.zero_le _⟩, fun d hd => ⟨0, by omega, zu0_hi (by omega), fun k hk => by omega⟩, fun d hd => absurd hd (by rw [nD_0]; omega), fun r hr => absurd hr (by rw [nR_0]; omega)⟩, ⟨0, by omega, rfl⟩, ⟨rfl, fun i hi => ?_⟩, fun d hd => absurd hd (by rw [nD_0]; omega), fun r hr => absurd hr (by rw [nR_0]; omega), fun d hd n i j h5 hn hi hj => ?_, ⟨0, by omega, rfl⟩⟩, fun r d hr => absurd hr (by rw [nR_0]; omega)⟩, fun k hk => ?_⟩
  · rcases (by omega : i = 0 ∨ i = 1 ∨ i = 2 ∨ i = 3) with rfl | rfl | rfl | rfl
    · exact ⟨⟨30, by omega, rfl⟩, 10, by omega, rfl⟩
    · exact ⟨⟨14, by omega, rfl⟩, 30, by omega, rfl⟩
    · exact ⟨⟨7, by omega, rfl⟩, 60, by omega, rfl⟩
    · exact ⟨⟨0, by omega, rfl⟩, 100, by omega, rfl⟩
  · rw [zu0_hi (by omega)] at h5
    have : (0 : Nat) = n := (nI_eq (by omega) (by omega)).mp (show nI 0 = nI n from h5)
    omega
  · rcases (by omega : k = 0 ∨ k = 1 ∨ k = 2 ∨ k = 3) with rfl | rfl | rfl | rfl <;> decide
theorem zCt_k {j k : Nat} {c : Nat ⊕ Nat} (h : zCt j k = some c) : k < (zBsh j).2 := by
  unfold zCt at h
  unfold zBsh
  repeat' split at h
  all_goals first | (cases h; done) | skip
  all_goals (subst_vars; repeat' split)
  all_goals first | omega | (show _ < _; omega) | simp_all
theorem zIx_k {j k i : Nat} (h : zIx j k = some i) : k < (zBsh j).2 := by
  unfold zIx at h
  unfold zBsh
  repeat' split at h
  all_goals first | (cases h; done) | skip
  all_goals (subst_vars; repeat' split)
  all_goals first | omega | (show _ < _; omega) | simp_all
theorem zSt.cv {G0 : zG} {B : Nat → Nat} {sh : Nat → Nat × Nat} {L : List Nat} {mm : zM} (h : zSt B sh L mm) : zCV (gx G0 sh L) B mm zu0 mm := by
  refine ⟨zu0, ⟨fun i hi hr => rfl, fun r hr => ?_⟩, fun j hj => (h.1 j hj).1, fun j hj => (h.1 j hj).2, h.2.1, fun j k c hc => ?_, fun j k i hi => ?_, ⟨fun i => i, fun i hi => hi, fun i j hi hj e => e, fun i hi => ⟨?_, fun k hk => ?_⟩⟩, fun b hb => rfl⟩
  · unfold kAsk
    rw [zu0_hi (by omega), zu0_hi (by omega), if_neg (by decide)]; rfl
  · obtain ⟨c1, c2, c3, c4⟩ := zCt_bd hc
    rw [h.2.2 j k c1 (zCt_k hc), vT_ct c3 hc]
  · have c1 := zIx_bd hi
    have c2 : zCt j k = none := by
      cases hc : zCt j k with
      | none => rfl
      | some c => rw [(zCt_bd hc).2.1] at hi; cases hi
    have c3 : j ≠ 7 := fun z => by subst z; cases hi
    rw [h.2.2 j k c1 (zIx_k hi), vT_ix hi c3 c2]
  · rw [h.2.2 7 i (Or.inl (by decide)) hi]; unfold vT; rw [if_pos rfl]
  · rw [h.2.2 (90 + i) k (Or.inr (by omega)) (by rw [zBsh_e hi]; exact hk), ← (vT_e hi hk).2, zu0_hi (by omega)]
    rcases (by omega : k = 0 ∨ k = 1 ∨ k = 2 ∨ k = 3) with rfl | rfl | rfl | rfl <;> rfl
def zOf (d h q t u : Nat) : Nat → Nat := fun k => if k = 0 then d else if k = 1 then h else if k = 2 then q else if k = 3 then t else u
