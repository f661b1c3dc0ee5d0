/-- what stands behind the constructor of the desk at a: its history h with its past q, its text t with its signs u -/
def zKX (a : Nat) (sh0 : Nat → Nat × Nat) (L0 : List Nat) (mm0 : zM) (Bs : Nat → Nat → Nat) (h q t u : Nat) (sh : Nat → Nat × Nat) (L : List Nat) (mm : zM) : Prop :=
  zDj (fun b => b ∈ L0 ∨ b = h ∨ b = q ∨ b = t ∨ b = u) (fun s => s < 7) Bs sh L mm ∧ (h ∉ L0 ∧ q ∉ L0 ∧ t ∉ L0 ∧ u ∉ L0 ∧ h ≠ q ∧ h ≠ t ∧ h ≠ u ∧ q ≠ t ∧ q ≠ u ∧ t ≠ u) ∧ (sh h = (2, 3) ∧ sh q = (13, 4) ∧ sh t = (3, 6) ∧ sh u = (8, 60)) ∧ (∀ b, b ∈ L0 → b ∈ L ∧ sh b = sh0 b ∧ (b ≠ a → mm b = mm0 b)) ∧
  (mm a 0 = .ref (Bs 0 0) ∧ mm a 1 = .ref (Bs 1 0) ∧ mm a 2 = mm0 a 2 ∧ mm a 3 = .ref h ∧ mm a 4 = .ref t) ∧ (mm h 0 = .ref q ∧ mm h 1 = .int 0 ∧ mm h 2 = .ref (Bs 6 0) ∧ ∀ i, i < 4 → mm q i = .ref (Bs (2 + i) 0)) ∧ mm t 0 = .ref u ∧ (∀ k, 1 ≤ k → k < 6 → mm t k = .int 0) ∧ ∀ k, k < 60 → mm u k = .int 0
theorem zDj.merge {Ob S : Nat → Prop} {Bs Bs' : Nat → Nat → Nat} {sh sh' : Nat → Nat × Nat} {L L' : List Nat} {mm mm' : zM} {a q : Nat} (h : zDj Ob S Bs sh L mm) (hS : ∀ s, S s → s < 2) (ha : Ob a) (k : zHX a sh L mm 4 q Bs' sh' L' mm') : zDj (fun b => Ob b ∨ b = q) (fun s => S s ∨ (2 ≤ s ∧ s < 7)) (fun s => if s < 2 then Bs s else Bs' s) sh' L' mm' := by
  obtain ⟨k1, k2, k3, k4, -⟩ := k
  have hne : ∀ s j, S s → zBd j → Bs s j ≠ a := fun s j hs hj z => (h.1 s hs).2 j hj (z ▸ ha)
  refine ⟨fun s hs => ?_, fun s r i j hs hr hsr hi hj => ?_, fun b hb => hb.elim (fun z => (k4 b (h.2.2 b z)).1) (fun z => k1.2.2 b (Or.inr z))⟩
  · by_cases q2 : s < 2
    · have hs : S s := hs.elim id (fun z => by omega)
      show zSt (if s < 2 then Bs s else Bs' s) sh' L' mm' ∧ ∀ j, zBd j → ¬ (Ob ((if s < 2 then Bs s else Bs' s) j) ∨ (if s < 2 then Bs s else Bs' s) j = q)
      rw [if_pos q2]
      exact ⟨(h.1 s hs).1.keep (fun b hb => ⟨(k4 b hb).1, (k4 b hb).2.1⟩) (fun j hj => (k4 _ ((h.1 s hs).1.1 j hj).1).2.2 (hne s j hs hj)), fun j hj z => z.elim ((h.1 s hs).2 j hj) (fun z => k2 (z ▸ ((h.1 s hs).1.1 j hj).1))⟩
    · have hs2 : s = 6 ∨ (2 ≤ s ∧ s < 2 + 4) := hs.elim (fun z => absurd (hS s z) q2) (fun z => by omega)
      show zSt (if s < 2 then Bs s else Bs' s) sh' L' mm' ∧ ∀ j, zBd j → ¬ (Ob ((if s < 2 then Bs s else Bs' s) j) ∨ (if s < 2 then Bs s else Bs' s) j = q)
      rw [if_neg q2]
      exact ⟨(k1.1 s hs2).1, fun j hj z => (k1.1 s hs2).2 j hj (z.elim (fun z => Or.inl (h.2.2 _ z)) Or.inr)⟩
  · show (if s < 2 then Bs s else Bs' s) i ≠ (if r < 2 then Bs r else Bs' r) j
    have new : ∀ s, ¬ s < 2 → (S s ∨ (2 ≤ s ∧ s < 7)) → s = 6 ∨ (2 ≤ s ∧ s < 2 + 4) := fun s q hs => hs.elim (fun z => absurd (hS s z) q) (fun z => by omega)
    have old : ∀ s, s < 2 → (S s ∨ (2 ≤ s ∧ s < 7)) → S s := fun s q hs => hs.elim id (fun z => by omega)
    by_cases q1 : s < 2 <;> by_cases q2 : r < 2
    · rw [if_pos q1, if_pos q2]; exact h.2.1 s r i j (old s q1 hs) (old r q2 hr) hsr hi hj
    · rw [if_pos q1, if_neg q2]
      exact fun z => (k1.1 r (new r q2 hr)).2 j hj (Or.inl (z ▸ ((h.1 s (old s q1 hs)).1.1 i hi).1))
    · rw [if_neg q1, if_pos q2]
      exact fun z => (k1.1 s (new s q1 hs)).2 i hi (Or.inl (z ▸ ((h.1 r (old r q2 hr)).1.1 j hj).1))
    · rw [if_neg q1, if_neg q2]; exact k1.2.1 s r i j (new s q1 hs) (new r q2 hr) hsr hi hj
set_option maxRecDepth 4000 in
theorem c_X6_init {l : Launch} {G0 : zG} {τ : Nat → Nat} {sh : Nat → Nat × Nat} {L : List Nat} {mm : zM} {a : Nat} (ha : a ∈ L) (hsh : sh a = (6, 5)) : zSmX l G0 τ yX6_init cX6_init 1 4 690 5491 [.ref a] sh L mm (fun sh' L' mm' => ∃ Bs h q t u, zKX a sh L mm Bs h q t u sh' L' mm') := by
  refine x_met [some (.ref a)] rfl (zc1 (by rfl)) (Nat.le_of_ble_eq_true rfl) rfl ?_
  have d0 : zDj (fun b => b ∈ L) (fun _ => False) (fun _ _ => 0) sh L mm := ⟨fun s hs => hs.elim, fun s q i j hs => hs.elim, fun b hb => hb⟩
  refine x_aload_n 0 rfl rfl dX6_init_0 ?_
  refine x_objInit rfl zl_X6_1 (by decide) (by decide) (by decide) dX6_init_1 ?_
  refine x_aload_n 0 rfl rfl dX6_init_4 ?_
  refine x_new (ci := 5) zin5 tyX5_ok rfl (by decide) rfl zc_X6_7 zi_X5 zini_X5 (by decide) (by decide) dX6_init_5 (fun c hc => ?_)
  refine x_dup dX6_init_8 rfl ?_
  refine x_call0 zmi_X5 (c_X5_init (List.mem_append_right _ (List.mem_singleton.mpr rfl)) shU_eq (fun k hk => mmU_eq)) rfl zl_X6_9 ⟨by decide, by decide⟩ ⟨by decide, by decide⟩ (Nat.le_of_ble_eq_true rfl) dX6_init_9 (fun shc Lc mmc ec _ => ?_)
  obtain ⟨Bc, hBc, hpc⟩ := ec
  obtain ⟨d1, f1, -, -⟩ := d0.state hc hBc hpc (s := 0) (fun z => z)
  have a1 := f1 a ha
  refine x_putF (ci := 6) (k := 0) (fun _ h => h) zin6 tyX6_ok nmX6 rfl (by decide) (by decide) rfl rfl rfl rfl rfl rfl rfl zf_X6_10 (a1.1) (a1.2.1.trans hsh) dX6_init_12 ?_
  have d1 := d1.zup ha 0 (.ref c)
  have e1 : mmc a = mm a := a1.2.2
  refine x_aload_n 0 rfl rfl dX6_init_15 ?_
  refine x_new (ci := 5) zin5 tyX5_ok rfl (by decide) rfl zc_X6_7 zi_X5 zini_X5 (by decide) (by decide) dX6_init_16 (fun k hk => ?_)
  refine x_dup dX6_init_19 rfl ?_
  refine x_call0 zmi_X5 (c_X5_init (List.mem_append_right _ (List.mem_singleton.mpr rfl)) shU_eq (fun k hk => mmU_eq)) rfl zl_X6_9 ⟨by decide, by decide⟩ ⟨by decide, by decide⟩ (Nat.le_of_ble_eq_true rfl) dX6_init_20 (fun shk Lk mmk ek _ => ?_)
  obtain ⟨Bk, hBk, hpk⟩ := ek
  obtain ⟨d2, f2, -, -⟩ := d1.state hk hBk hpk (s := 1) (fun z => z.elim id (fun z => absurd z (by decide)))
  have a2 := f2 a a1.1
  refine x_putF (ci := 6) (k := 1) (fun _ h => h) zin6 tyX6_ok nmX6 rfl (by decide) (by decide) rfl rfl rfl rfl rfl rfl rfl zf_X6_16 (a2.1) (a2.2.1.trans (a1.2.1.trans hsh)) dX6_init_23 ?_
  have d2 := d2.zup ha 1 (.ref k)
  refine x_aload_n 0 rfl rfl dX6_init_26 ?_
  refine x_new (ci := 2) zin2 tyX2_ok rfl (by decide) rfl zc_X6_19 zi_X2 zini_X2 (by decide) (by decide) dX6_init_27 (fun h hh => ?_)
  refine x_dup dX6_init_30 rfl ?_
  refine x_call0 zmi_X2 (c_X2_init (List.mem_append_right _ (List.mem_singleton.mpr rfl)) shU_eq) rfl zl_X6_21 ⟨by decide, by decide⟩ ⟨by decide, by decide⟩ (Nat.le_of_ble_eq_true rfl) dX6_init_31 (fun sh4 L4 mm4 e4 _ => ?_)
  obtain ⟨q, Bs', x4⟩ := e4
  have d3 := d2.cell hh (2, 3) (fun j => defaultValue (tyX2 j))
  have hah : a ≠ h := fun z => hh (z ▸ a2.1)
  have d4 := d3.merge (fun s hs => by rcases hs with (hs | hs) | hs; exact hs.elim; omega; omega) (Or.inr rfl) x4
  obtain ⟨-, y2, y3, y4, y5, y6, y7, y8⟩ := x4
  have a4 := y4 a (List.mem_append_left _ a2.1)
  have sa4 : sh4 a = (6, 5) := a4.2.1.trans ((shU_ne hah).trans (a2.2.1.trans (a1.2.1.trans hsh)))
  have h4 := y4 h (by simp)
  have sh4h : sh4 h = (2, 3) := h4.2.1.trans shU_eq
  have q4 : q ∈ L4 := d4.2.2 q (Or.inr rfl)
  have haq : a ≠ q := fun z => y2 (z ▸ List.mem_append_left _ a2.1)
  have hhq : h ≠ q := fun z => y2 (z ▸ List.mem_append_right _ (List.mem_singleton.mpr rfl))
  refine x_putF (ci := 6) (k := 3) (fun _ h => h) zin6 tyX6_ok nmX6 rfl (by decide) (by decide) rfl rfl rfl rfl rfl rfl rfl zf_X6_22 (a4.1) (sa4) dX6_init_34 ?_
  have d4 := d4.zup (Or.inl (Or.inl ha)) 3 (.ref h)
  refine x_aload_n 0 rfl rfl dX6_init_37 ?_
  refine x_new (ci := 3) zin3 tyX3_ok rfl (by decide) rfl zc_X6_26 zi_X3 zini_X3 (by decide) (by decide) dX6_init_38 (fun t ht => ?_)
  refine x_dup dX6_init_41 rfl ?_
  refine x_call0N zmi_X3 (c_X3_init (List.mem_append_right _ (List.mem_singleton.mpr rfl)) shU_eq) rfl zl_X6_28 ⟨by decide, by decide⟩ ⟨by decide, by decide⟩ (Nat.le_of_ble_eq_true rfl) dX6_init_42 (fun sh6 L6 mm6 e6 _ => ?_)
  obtain ⟨u, hu, rfl, rfl, rfl⟩ := e6
  have d5 := ((d4.cell ht (3, 6) (fun j => defaultValue (tyX3 j))).cell hu (8, 60) (fun _ => .int 0)).zup (Or.inl (Or.inr rfl)) 0 (.ref u)
  have hat : a ≠ t := fun z => ht (z ▸ a4.1)
  have hau : a ≠ u := fun z => hu (z ▸ List.mem_append_left _ a4.1)
  have hht : h ≠ t := fun z => ht (z ▸ h4.1)
  have hhu : h ≠ u := fun z => hu (z ▸ List.mem_append_left _ h4.1)
  have hqt : q ≠ t := fun z => ht (z ▸ q4)
  have hqu : q ≠ u := fun z => hu (z ▸ List.mem_append_left _ q4)
  have htu : t ≠ u := fun z => hu (z ▸ List.mem_append_right _ (List.mem_singleton.mpr rfl))
  refine x_putF (ci := 6) (k := 4) (fun _ h => h) zin6 tyX6_ok nmX6 rfl (by decide) (by decide) rfl rfl rfl rfl rfl rfl rfl zf_X6_29 (List.mem_append_left _ (List.mem_append_left _ a4.1)) ((shU_ne hau).trans ((shU_ne hat).trans sa4)) dX6_init_45 ?_
  have d5 := d5.zup (b := a) (Or.inl (Or.inl (Or.inl (Or.inl ha)))) 4 (.ref t)
  have mo : ∀ b, b ≠ a → b ≠ t → b ≠ u → ∀ i, zup (zup (mmU (mmU (zup mm4 a 3 (.ref h)) t (fun j => defaultValue (tyX3 j))) u (fun _ => .int 0)) t 0 (.ref u)) a 4 (.ref t) b i = mm4 b i := fun b b1 b2 b3 i => by
    rw [zup_ne (fun z => b1 z.1), zup_ne (fun z => b2 z.1), mmU_ne b3, mmU_ne b2, zup_ne (fun z => b1 z.1)]
  have ma : ∀ i, i ≠ 4 → i ≠ 3 → zup (zup (mmU (mmU (zup mm4 a 3 (.ref h)) t (fun j => defaultValue (tyX3 j))) u (fun _ => .int 0)) t 0 (.ref u)) a 4 (.ref t) a i = zup mmk a 1 (.ref k) a i := fun i i4 i3 => by
    rw [zup_ne (fun z => i4 z.2), zup_ne (fun z => hat z.1), mmU_ne hau, mmU_ne hat, zup_ne (fun z => i3 z.2), a4.2.2 hah, mmU_ne hah]
  refine x_vret dX6_init_48 ⟨_, h, q, t, u, d5.of (fun b => ?_) (fun s hs => ?_), ⟨fun z => hh (f2 h (f1 h z).1).1, fun z => y2 (List.mem_append_left _ (f2 q (f1 q z).1).1), fun z => ht (y4 t (List.mem_append_left _ (f2 t (f1 t z).1).1)).1, fun z => hu (List.mem_append_left _ (y4 u (List.mem_append_left _ (f2 u (f1 u z).1).1)).1), hhq, hht, hhu, hqt, hqu, htu⟩, ⟨?_, ?_, ?_, ?_⟩, fun b hb => ?_, ⟨?_, ?_, ?_, ?_, ?_⟩, ⟨?_, ?_, ?_, fun i hi => ?_⟩, ?_, fun i i1 i2 => ?_, fun i i1 => ?_⟩
  · show (b ∈ L ∨ b = h ∨ b = q ∨ b = t ∨ b = u) ↔ ((((b ∈ L ∨ b = h) ∨ b = q) ∨ b = t) ∨ b = u)
    simp only [or_assoc]
  · by_cases z : s < 2
    · rcases (by omega : s = 0 ∨ s = 1) with rfl | rfl
      · exact Or.inl (Or.inl (Or.inr rfl))
      · exact Or.inl (Or.inr rfl)
    · exact Or.inr ⟨by omega, hs⟩
  · rw [shU_ne hhu, shU_ne hht]; exact sh4h
  · rw [shU_ne hqu, shU_ne hqt]; exact y3
  · rw [shU_ne htu, shU_eq]
  · exact shU_eq
  · have b1 := f1 b hb
    have b2 := f2 b b1.1
    have bh : b ≠ h := fun z => hh (z ▸ b2.1)
    have b4 := y4 b (List.mem_append_left _ b2.1)
    have bt : b ≠ t := fun z => ht (z ▸ b4.1)
    have bu : b ≠ u := fun z => hu (z ▸ List.mem_append_left _ b4.1)
    refine ⟨List.mem_append_left _ (List.mem_append_left _ b4.1), ?_, fun hba => ?_⟩
    · rw [shU_ne bu, shU_ne bt, b4.2.1, shU_ne bh, b2.2.1, b1.2.1]
    · funext i
      rw [mo b hba bt bu i, b4.2.2 bh, mmU_ne bh, zup_ne (fun z => hba z.1), b2.2.2, zup_ne (fun z => hba z.1), b1.2.2]
  · rw [ma 0 (by decide) (by decide), zup_ne (fun z => by have := z.2; omega), a2.2.2, zup_eq, ← hBc]; rfl
  · rw [ma 1 (by decide) (by decide), zup_eq, ← hBk]; rfl
  · rw [ma 2 (by decide) (by decide), zup_ne (fun z => by have := z.2; omega), a2.2.2, zup_ne (fun z => by have := z.2; omega), e1]
  · rw [zup_ne (fun z => by have := z.2; omega), zup_ne (fun z => hat z.1), mmU_ne hau, mmU_ne hat, zup_eq]
  · rw [zup_eq]
  · rw [mo h (fun z => hah z.symm) hht hhu]; exact y5
  · rw [mo h (fun z => hah z.symm) hht hhu, y6, mmU_eq]; rfl
  · rw [mo h (fun z => hah z.symm) hht hhu, y7]; rfl
  · rw [mo q (fun z => haq z.symm) hqt hqu, y8 i hi]
    show Value.ref (Bs' (2 + i) 0) = .ref ((if 2 + i < 2 then _ else Bs' (2 + i)) 0)
    rw [if_neg (by omega)]
  · rw [zup_ne (fun z => hat z.1.symm), zup_eq]
  · rw [zup_ne (fun z => hat z.1.symm), zup_ne (fun z => by have := z.2; omega), mmU_ne htu, mmU_eq]
    rcases (by omega : i = 1 ∨ i = 2 ∨ i = 3 ∨ i = 4 ∨ i = 5) with rfl | rfl | rfl | rfl | rfl <;> rfl
  · rw [zup_ne (fun z => hau z.1.symm), zup_ne (fun z => htu z.1.symm), mmU_eq]
