/-! ===== the start: class and reference side by side ===== -/
theorem zu0_hi {i : Nat} (h : 17 ≤ i) : zu0 i = 0 := by unfold zu0; rw [if_neg (by omega), if_neg (by omega), if_neg (by omega), if_neg (by omega)]
theorem nR_0 : nR zu0 = 0 := rfl
theorem nD_0 : nD zu0 = 0 := rfl
theorem zY_0 : zY zu0 := by
  refine ⟨⟨⟨⟨⟨rfl, Nat.zero_le _⟩, ⟨rfl, Nat.zero_le _⟩, fun d hd => ⟨0, by omega, zu0_hi (by omega), fun k hk => by omega⟩, fun d hd => absurd hd (by rw [nD_0]; omega), fun r hr => absurd hr (by rw [nR_0]; omega)⟩, ⟨0, by omega, rfl⟩, ⟨rfl, fun i hi => ?_⟩, fun d hd => absurd hd (by rw [nD_0]; omega), fun r hr => absurd hr (by rw [nR_0]; omega), fun d hd n i j h5 hn hi hj => ?_, ⟨0, by omega, rfl⟩⟩, fun r d hr => absurd hr (by rw [nR_0]; omega)⟩, fun k hk => ?_⟩
  · rcases (by omega : i = 0 ∨ i = 1 ∨ i = 2 ∨ i = 3) with rfl | rfl | rfl | rfl
    · exact ⟨⟨30, by omega, rfl⟩, 10, by omega, rfl⟩
    · exact ⟨⟨14, by omega, rfl⟩, 30, by omega, rfl⟩
    · exact ⟨⟨7, by omega, rfl⟩, 60, by omega, rfl⟩
    · exact ⟨⟨0, by omega, rfl⟩, 100, by omega, rfl⟩
  · rw [zu0_hi (by omega)] at h5
    have : (0 : Nat) = n := (nI_eq (by omega) (by omega)).mp (show nI 0 = nI n from h5)
    omega
  · rcases (by omega : k = 0 ∨ k = 1 ∨ k = 2 ∨ k = 3) with rfl | rfl | rfl | rfl <;> decide
theorem zCt_k {j k : Nat} {c : Nat ⊕ Nat} (h : zCt j k = some c) : k < (zBsh j).2 := by
  unfold zCt at h
  unfold zBsh
  repeat' split at h
  all_goals first | (cases h; done) | skip
  all_goals (subst_vars; repeat' split)
  all_goals first | omega | (show _ < _; omega) | simp_all
theorem zIx_k {j k i : Nat} (h : zIx j k = some i) : k < (zBsh j).2 := by
  unfold zIx at h
  unfold zBsh
  repeat' split at h
  all_goals first | (cases h; done) | skip
  all_goals (subst_vars; repeat' split)
  all_goals first | omega | (show _ < _; omega) | simp_all
theorem zSt.cv {G0 : zG} {B : Nat → Nat} {sh : Nat → Nat × Nat} {L : List Nat} {mm : zM} (h : zSt B sh L mm) : zCV (gx G0 sh L) B mm zu0 mm := by
  refine ⟨zu0, ⟨fun i hi hr => rfl, fun r hr => ?_⟩, fun j hj => (h.1 j hj).1, fun j hj => (h.1 j hj).2, h.2.1, fun j k c hc => ?_, fun j k i hi => ?_, ⟨fun i => i, fun i hi => hi, fun i j hi hj e => e, fun i hi => ⟨?_, fun k hk => ?_⟩⟩, fun b hb => rfl⟩
  · unfold kAsk
    rw [zu0_hi (by omega), zu0_hi (by omega), if_neg (by decide)]; rfl
  · obtain ⟨c1, c2, c3, c4⟩ := zCt_bd hc
    rw [h.2.2 j k c1 (zCt_k hc), vT_ct c3 hc]
  · have c1 := zIx_bd hi
    have c2 : zCt j k = none := by
      cases hc : zCt j k with
      | none => rfl
      | some c => rw [(zCt_bd hc).2.1] at hi; cases hi
    have c3 : j ≠ 7 := fun z => by subst z; cases hi
    rw [h.2.2 j k c1 (zIx_k hi), vT_ix hi c3 c2]
  · rw [h.2.2 7 i (Or.inl (by decide)) hi]; unfold vT; rw [if_pos rfl]
  · rw [h.2.2 (90 + i) k (Or.inr (by omega)) (by rw [zBsh_e hi]; exact hk), ← (vT_e hi hk).2, zu0_hi (by omega)]
    rcases (by omega : k = 0 ∨ k = 1 ∨ k = 2 ∨ k = 3) with rfl | rfl | rfl | rfl <;> rfl
def zOf (d h q t u : Nat) : Nat → Nat := fun k => if k = 0 then d else if k = 1 then h else if k = 2 then q else if k = 3 then t else u
theorem zTw_0 {G0 : zG} {d h q t u a : Nat} {sh0 sh1 sh2 sh3 : Nat → Nat × Nat} {L0 L1 L3 : List Nat} {mm0 mm1 mm2 mm3 : zM} {Bs : Nat → Nat → Nat} {A : Nat → Nat} (hd : d ∈ L0) (hd0 : sh0 d = (6, 5)) (hd2 : mm0 d 2 = .int 0) (hK : zKX d sh0 L0 mm0 Bs h q t u sh1 L1 mm1) (ha : a ∉ L1) (e2 : ∀ b, b ∈ L1 → sh2 b = sh1 b ∧ mm2 b = mm1 b) (hM : zMX a sh2 (L1 ++ [a]) mm2 A sh3 L3 mm3) :
    zAp Bs (zOf d h q t u) A ∧ zTw (gx G0 sh3 L3) Bs (zOf d h q t u) A mm3 ∧ (d ∈ L3 ∧ sh3 d = (6, 5)) ∧ A 0 ∈ L3 ∧ sh3 (A 0) = (7, 15) := by
  obtain ⟨k1, ⟨n1, n2, n3, n4, n5, n6, n7, n8, n9, n10⟩, ⟨s1, s2, s3, s4⟩, k4, ⟨f0, f1, f2, f3, f4⟩, ⟨g0, g1, g2, g3⟩, g4, g5, g6⟩ := hK
  obtain ⟨m1, m2, m3, m4, m5, m6, m7, m8, m9, m10⟩ := hM
  have hO : ∀ k, k < 5 → (zOf d h q t u k ∈ L0 ∨ zOf d h q t u k = h ∨ zOf d h q t u k = q ∨ zOf d h q t u k = t ∨ zOf d h q t u k = u) := fun k hk => by
    rcases (by omega : k = 0 ∨ k = 1 ∨ k = 2 ∨ k = 3 ∨ k = 4) with rfl | rfl | rfl | rfl | rfl
    · exact Or.inl hd
    · exact Or.inr (Or.inl rfl)
    · exact Or.inr (Or.inr (Or.inl rfl))
    · exact Or.inr (Or.inr (Or.inr (Or.inl rfl)))
    · exact Or.inr (Or.inr (Or.inr (Or.inr rfl)))
  have hOL : ∀ k, k < 5 → zOf d h q t u k ∈ L1 := fun k hk => k1.2.2 _ (hO k hk)
  have mv : ∀ b, b ∈ L1 → b ∈ L3 ∧ sh3 b = sh1 b ∧ mm3 b = mm1 b := fun b hb => by
    obtain ⟨w1, w2, w3⟩ := m4 b (List.mem_append_left _ hb)
    exact ⟨w1, w2.trans (e2 b hb).1, (w3 (fun z => ha (z ▸ hb))).trans (e2 b hb).2⟩
  have hOs : ∀ k, k < 5 → sh3 (zOf d h q t u k) = zOsh k := fun k hk => by
    rw [(mv _ (hOL k hk)).2.1]
    rcases (by omega : k = 0 ∨ k = 1 ∨ k = 2 ∨ k = 3 ∨ k = 4) with rfl | rfl | rfl | rfl | rfl
    · exact (k4 d hd).2.1.trans hd0
    · exact s1
    · exact s2
    · exact s3
    · exact s4
  have hAn : ∀ j, j < 8 → A j ∉ L1 := fun j hj z => by
    by_cases j0 : j = 0
    · subst j0; exact ha (m1 ▸ z)
    · exact (m2 j hj).2.2 j0 (List.mem_append_left _ z)
  have hSt : ∀ s, s < 7 → zSt (Bs s) sh3 L3 mm3 := fun s hs => (k1.1 s hs).1.keep (fun b hb => ⟨(mv b hb).1, (mv b hb).2.1⟩) (fun j hj => (mv _ ((k1.1 s hs).1.1 j hj).1).2.2)
  have hAp : zAp Bs (zOf d h q t u) A := ⟨fun k j hk hj z => hAn j hj (z ▸ hOL k hk), fun s i j hs hi hj z => hAn j hj (z ▸ ((k1.1 s hs).1.1 i hi).1)⟩
  refine ⟨hAp, ⟨zu0, zu0, 0, 0, fun _ => zu0, fun _ => 0, 0, ⟨zY_0, fun z => absurd rfl z, by omega, fun i hi => by omega, by omega⟩, ?_, ?_⟩, ⟨(mv d (hOL 0 (by decide))).1, hOs 0 (by decide)⟩, (m2 0 (by decide)).1, (m2 0 (by decide)).2.1⟩
  · refine ⟨fun i => 2 + i, fun _ => zu0, 0, 0, 0, 0, ⟨fun s hs => (hSt s hs).cv, ⟨fun s r i j hs hr hne hi hj => k1.2.1 s r i j hs hr hne hi hj, fun k hk => ⟨(mv _ (hOL k hk)).1, hOs k hk⟩, fun i k hi hk e => ?_, fun k s j hk hs hj z => (k1.1 s hs).2 j hj (z ▸ hO k hk)⟩, ⟨?_, ?_, ?_, ?_, ?_⟩, ⟨?_, ?_, ?_, fun i hi => ?_⟩, fun i hi => ⟨by show 2 ≤ 2 + i; omega, by show 2 + i < 7; omega⟩, ⟨⟨(mv _ (hOL 3 (by decide))).1, hOs 3 (by decide)⟩, ⟨(mv _ (hOL 4 (by decide))).1, hOs 4 (by decide)⟩, n10, ?_, fun k k1 k6 => ?_, fun k hk => ?_, fun k hk => rfl, fun b _ _ => rfl⟩, fun b _ _ => rfl⟩, fun i j _ _ e => by have e : 2 + i = 2 + j := e; omega, rfl, rfl, fun i hi => by omega⟩
    · have hdh : ∀ x, x ∉ L0 → d ≠ x := fun x hx z => hx (z ▸ hd)
      rcases (by omega : i = 0 ∨ i = 1 ∨ i = 2 ∨ i = 3 ∨ i = 4) with rfl | rfl | rfl | rfl | rfl <;> rcases (by omega : k = 0 ∨ k = 1 ∨ k = 2 ∨ k = 3 ∨ k = 4) with rfl | rfl | rfl | rfl | rfl <;> first | rfl | (exact absurd e (hdh _ (by assumption))) | (exact absurd e.symm (hdh _ (by assumption))) | (exact absurd e (by assumption)) | (exact absurd e.symm (by assumption))
    · rw [(mv _ (hOL 0 (by decide))).2.2]; exact f0
    · rw [(mv _ (hOL 0 (by decide))).2.2]; exact f1
    · rw [(mv _ (hOL 0 (by decide))).2.2]; exact f2.trans hd2
    · rw [(mv _ (hOL 0 (by decide))).2.2]; exact f3
    · rw [(mv _ (hOL 0 (by decide))).2.2]; exact f4
    · rw [(mv _ (hOL 1 (by decide))).2.2]; exact g0
    · rw [(mv _ (hOL 1 (by decide))).2.2]; exact g1
    · rw [(mv _ (hOL 1 (by decide))).2.2]; exact g2
    · rw [(mv _ (hOL 2 (by decide))).2.2]; exact g3 i hi
    · rw [(mv _ (hOL 3 (by decide))).2.2]; exact g4
    · rw [(mv _ (hOL 3 (by decide))).2.2]
      rw [show zOf d h q t u 3 = t from rfl, g5 k k1 k6]
      rcases (by omega : k = 1 ∨ k = 2 ∨ k = 3 ∨ k = 4 ∨ k = 5) with rfl | rfl | rfl | rfl | rfl <;> rfl
    · rw [(mv _ (hOL 4 (by decide))).2.2]; exact g6 k hk
  · exact ⟨fun _ _ => 0, ⟨fun j hj => (m2 j hj).1, fun j hj => (m2 j hj).2.1, m3, m5, m6, m7, m8, m9, m10, fun b _ => rfl⟩, ⟨rfl, fun i k hi => by omega⟩, rfl, rfl, rfl, fun k hk z => absurd rfl z⟩
