/-! ===== a State in the making: D: the cells made, E: the places that stand as at the end ===== -/
def zu0 : Nat → Int32 := fun i => if i < 3 then 0 else if i < 7 then zF0 (i - 3) else if i < 9 then 0 else if i < 17 then (if (i - 9) % 2 = 0 then zF1 ((i - 9) / 2) else zF2 ((i - 9) / 2)) else 0
def vT (B : Nat → Nat) (j k : Nat) : Value := if j = 7 then .ref (B (90 + k)) else match zCt j k with
  | some c => zVal B c
  | none => match zIx j k with
    | some i => .int (zu0 i)
    | none => .int 0
def vTg (j k c : Nat) : Prop := (j = 7 ∧ c = 90 + k) ∨ zCt j k = some (.inl c)
theorem vT_congr {B B' : Nat → Nat} {j k : Nat} (h : ∀ c, vTg j k c → B' c = B c) : vT B' j k = vT B j k := by
  unfold vT
  by_cases q : j = 7
  · rw [if_pos q, if_pos q, h _ (Or.inl ⟨q, rfl⟩)]
  · rw [if_neg q, if_neg q]
    cases hc : zCt j k with
    | none => rfl
    | some c =>
      cases c with
      | inl c => show Value.ref (B' c) = .ref (B c); rw [h c (Or.inr hc)]
      | inr n => rfl
def zPS (L0 : List Nat) (sh0 : Nat → Nat × Nat) (mm0 : zM) (D : Nat → Prop) (E : Nat → Nat → Prop) (B : Nat → Nat) (sh : Nat → Nat × Nat) (L : List Nat) (mm : zM) : Prop :=
  (∀ j, D j → B j ∈ L ∧ sh (B j) = zBsh j ∧ (j ≠ 0 → B j ∉ L0)) ∧ (∀ i j, D i → D j → B i = B j → i = j) ∧ (∀ j k, E j k → D j ∧ (∀ c, vTg j k c → D c) ∧ mm (B j) k = vT B j k) ∧ (∀ b, b ∈ L0 → b ∈ L ∧ sh b = sh0 b ∧ (b ≠ B 0 → mm b = mm0 b)) ∧ D 0 ∧ B 0 ∈ L0
theorem shU_ne {sh : Nat → Nat × Nat} {a b : Nat} {x : Nat × Nat} (h : b ≠ a) : shU sh a x b = sh b := if_neg h
theorem shU_eq {sh : Nat → Nat × Nat} {a : Nat} {x : Nat × Nat} : shU sh a x a = x := if_pos rfl
theorem mmU_ne {mm : zM} {a b : Nat} {f : Nat → Value} (h : b ≠ a) : mmU mm a f b = mm b := by funext j; exact if_neg h
theorem mmU_eq {mm : zM} {a : Nat} {f : Nat → Value} {j : Nat} : mmU mm a f a j = f j := if_pos rfl
theorem zPS.add {L0 : List Nat} {sh0 : Nat → Nat × Nat} {mm0 : zM} {D : Nat → Prop} {E : Nat → Nat → Prop} {B : Nat → Nat} {sh : Nat → Nat × Nat} {L : List Nat} {mm : zM} (h : zPS L0 sh0 mm0 D E B sh L mm) {a j : Nat} (ha : a ∉ L) (hj : ¬ D j) {x : Nat × Nat} (hx : x = zBsh j) {f : Nat → Value} {e : Nat → Prop} (he : ∀ k, e k → (∀ c, ¬ vTg j k c) ∧ f k = vT B j k) :
    zPS L0 sh0 mm0 (fun i => D i ∨ i = j) (fun i k => E i k ∨ (i = j ∧ e k)) (fun i => if i = j then a else B i) (shU sh a x) (L ++ [a]) (mmU mm a f) := by
  subst hx
  obtain ⟨h1, h2, h3, h4, h5, h6⟩ := h
  have hB : ∀ i, D i → (if i = j then a else B i) = B i := fun i hi => if_neg (fun z : i = j => hj (z ▸ hi))
  have hne : ∀ i, D i → B i ≠ a := fun i hi z => ha (z ▸ (h1 i hi).1)
  have h0 : (if 0 = j then a else B 0) = B 0 := hB 0 h5
  refine ⟨fun i hi => ?_, fun i i' hi hi' hE => ?_, fun i k hE => ?_, fun b hb => ?_, Or.inl h5, by show (if 0 = j then a else B 0) ∈ L0; rw [h0]; exact h6⟩
  · rcases hi with hi | rfl
    · show (if i = j then a else B i) ∈ _ ∧ shU sh a _ (if i = j then a else B i) = _ ∧ (_ → (if i = j then a else B i) ∉ L0)
      rw [hB i hi, shU_ne (hne i hi)]
      exact ⟨List.mem_append_left _ (h1 i hi).1, (h1 i hi).2⟩
    · show (if i = i then a else B i) ∈ _ ∧ shU sh a _ (if i = i then a else B i) = _ ∧ (_ → (if i = i then a else B i) ∉ L0)
      rw [if_pos rfl, shU_eq]
      exact ⟨by simp, rfl, fun _ z => ha (h4 a z).1⟩
  · have hE : (if i = j then a else B i) = (if i' = j then a else B i') := hE
    rcases hi with hi | rfl <;> rcases hi' with hi' | rfl
    · rw [hB i hi, hB i' hi'] at hE; exact h2 i i' hi hi' hE
    · rw [hB i hi, if_pos rfl] at hE; exact absurd hE (hne i hi)
    · rw [hB i' hi', if_pos rfl] at hE; exact absurd hE.symm (hne i' hi')
    · rfl
  · rcases hE with hE | ⟨rfl, hk⟩
    · obtain ⟨q1, q2, q3⟩ := h3 i k hE
      refine ⟨Or.inl q1, fun c hc => Or.inl (q2 c hc), ?_⟩
      show mmU mm a f (if i = j then a else B i) k = _
      rw [hB i q1, mmU_ne (hne i q1), q3]
      exact (vT_congr (fun c hc => hB c (q2 c hc))).symm
    · obtain ⟨q1, q2⟩ := he k hk
      refine ⟨Or.inr rfl, fun c hc => absurd hc (q1 c), ?_⟩
      show mmU mm a f (if i = i then a else B i) k = _
      rw [if_pos rfl, mmU_eq, q2]
      exact (vT_congr (fun c hc => absurd hc (q1 c))).symm
  · obtain ⟨q1, q2, q3⟩ := h4 b hb
    have hba : b ≠ a := fun z => ha (z ▸ q1)
    refine ⟨List.mem_append_left _ q1, by rw [shU_ne hba]; exact q2, fun hb0 => ?_⟩
    have hb0 : b ≠ (if 0 = j then a else B 0) := hb0
    rw [h0] at hb0
    rw [mmU_ne hba]; exact q3 hb0
theorem zPS.put {L0 : List Nat} {sh0 : Nat → Nat × Nat} {mm0 : zM} {D : Nat → Prop} {E : Nat → Nat → Prop} {B : Nat → Nat} {sh : Nat → Nat × Nat} {L : List Nat} {mm : zM} (h : zPS L0 sh0 mm0 D E B sh L mm) {j k : Nat} (hj : D j) {v : Value} (hv : v = vT B j k) (hc : ∀ c, vTg j k c → D c) :
    zPS L0 sh0 mm0 D (fun i k' => E i k' ∨ (i = j ∧ k' = k)) B sh L (zup mm (B j) k v) := by
  obtain ⟨h1, h2, h3, h4, h5, h6⟩ := h
  refine ⟨h1, h2, fun i k' hE => ?_, fun b hb => ?_, h5, h6⟩
  · by_cases q : i = j ∧ k' = k
    · obtain ⟨rfl, rfl⟩ := q
      exact ⟨hj, hc, by rw [zup_eq]; exact hv⟩
    · rcases hE with hE | hE
      · obtain ⟨q1, q2, q3⟩ := h3 i k' hE
        exact ⟨q1, q2, by rw [zup_ne (fun z => q ⟨h2 i j q1 hj z.1, z.2⟩)]; exact q3⟩
      · exact absurd hE q
  · obtain ⟨q1, q2, q3⟩ := h4 b hb
    refine ⟨q1, q2, fun hb0 => ?_⟩
    rw [← q3 hb0]
    funext i
    refine zup_ne (fun z => ?_)
    by_cases j0 : j = 0
    · subst j0; exact hb0 z.1
    · exact (h1 j hj).2.2 j0 (z.1 ▸ hb)
theorem zPS.of {L0 : List Nat} {sh0 : Nat → Nat × Nat} {mm0 : zM} {D D' : Nat → Prop} {E E' : Nat → Nat → Prop} {B : Nat → Nat} {sh : Nat → Nat × Nat} {L : List Nat} {mm : zM} (h : zPS L0 sh0 mm0 D E B sh L mm) (hD : ∀ j, D' j ↔ D j) (hE : ∀ j k, E' j k → E j k) : zPS L0 sh0 mm0 D' E' B sh L mm := by
  obtain ⟨h1, h2, h3, h4, h5, h6⟩ := h
  exact ⟨fun j hj => h1 j ((hD j).mp hj), fun i j hi hj => h2 i j ((hD i).mp hi) ((hD j).mp hj), fun j k e => ⟨(hD j).mpr (h3 j k (hE j k e)).1, fun c hc => (hD c).mpr ((h3 j k (hE j k e)).2.1 c hc), (h3 j k (hE j k e)).2.2⟩, h4, (hD 0).mpr h5, h6⟩
/-! the small constructors -/
section CT
variable {l : Launch} {G0 : zG} {τ : Nat → Nat} {sh : Nat → Nat × Nat} {L : List Nat} {mm : zM} {a : Nat}
theorem c_X1_init : zSmX l G0 τ yX1_init cX1_init 1 1 0 0 [.ref a] sh L mm (fun sh' L' mm' => sh' = sh ∧ L' = L ∧ mm' = mm) := by
  refine x_met [some (.ref a)] rfl (zc1 (by rfl)) (Nat.le_of_ble_eq_true rfl) rfl ?_
  refine x_aload_n 0 rfl rfl dX1_init_0 ?_
  refine x_objInit rfl zl_X1_1 (by decide) (by decide) (by decide) dX1_init_1 ?_
  exact x_vret dX1_init_4 ⟨rfl, rfl, rfl⟩
theorem c_X4_init (x : Int32) (ha : a ∈ L) (hsh : sh a = (4, 8)) : zSmX l G0 τ yX4_init cX4_init 2 1 0 0 [.ref a, .int x] sh L mm (fun sh' L' mm' => sh' = sh ∧ L' = L ∧ mm' = zup mm a 0 (.int x)) := by
  refine x_met [some (.ref a), some (.int x)] rfl (zc1 (by rfl)) (Nat.le_of_ble_eq_true rfl) rfl ?_
  refine x_aload_n 0 rfl rfl dX4_init_0 ?_
  refine x_objInit rfl zl_X4_3 (by decide) (by decide) (by decide) dX4_init_1 ?_
  refine x_aload_n 0 rfl rfl dX4_init_4 ?_
  refine x_iload_n 1 rfl rfl dX4_init_5 ?_
  refine x_putF (ci := 4) (k := 0) (fun _ h => h) zin4 tyX4_ok nmX4 rfl (by decide) (by decide) rfl rfl rfl rfl rfl rfl rfl zf_X4_9 ha hsh dX4_init_6 ?_
  exact x_vret dX4_init_9 ⟨rfl, rfl, rfl⟩
theorem c_X0_init (x : Int32) (ha : a ∈ L) (hsh : sh a = (0, 8)) : zSmX l G0 τ yX0_init cX0_init 2 1 1 6 [.ref a, .int x] sh L mm (fun sh' L' mm' => ∃ q, q ∉ L ∧ sh' = shU sh q (9, 6) ∧ L' = L ++ [q] ∧ mm' = zup (zup (mmU mm q (fun _ => .int 0)) a 6 (.ref q)) a 0 (.int x)) := by
  refine x_met [some (.ref a), some (.int x)] rfl (zc1 (by rfl)) (Nat.le_of_ble_eq_true rfl) rfl ?_
  refine x_aload_n 0 rfl rfl dX0_init_0 ?_
  refine x_objInit rfl zl_X0_3 (by decide) (by decide) (by decide) dX0_init_1 ?_
  refine x_aload_n 0 rfl rfl dX0_init_4 ?_
  refine x_bipush (nI 6) dX0_init_5 rfl ?_
  refine x_newI (N := 6) rfl (by decide) (Nat.le_of_ble_eq_true rfl) (Nat.le_of_ble_eq_true rfl) dX0_init_7 (fun q hq => ?_)
  have hsq : shU sh q (9, 6) a = (0, 8) := (shU_ne (fun z : a = q => hq (z ▸ ha))).trans hsh
  refine x_putF (ci := 0) (k := 6) (fun _ h => h) zin0 tyX0_ok nmX0 rfl (by decide) (by decide) rfl rfl rfl rfl rfl rfl rfl zf_X0_9 (List.mem_append_left _ ha) hsq dX0_init_9 ?_
  refine x_aload_n 0 rfl rfl dX0_init_12 ?_
  refine x_iload_n 1 rfl rfl dX0_init_13 ?_
  refine x_putF (ci := 0) (k := 0) (fun _ h => h) zin0 tyX0_ok nmX0 rfl (by decide) (by decide) rfl rfl rfl rfl rfl rfl rfl zf_X0_15 (List.mem_append_left _ ha) hsq dX0_init_14 ?_
  exact x_vret dX0_init_17 ⟨q, hq, rfl, rfl, rfl⟩
theorem c_X3_init (ha : a ∈ L) (hsh : sh a = (3, 6)) : zSmX l G0 τ yX3_init cX3_init 1 1 1 60 [.ref a] sh L mm (fun sh' L' mm' => ∃ q, q ∉ L ∧ sh' = shU sh q (8, 60) ∧ L' = L ++ [q] ∧ mm' = zup (mmU mm q (fun _ => .int 0)) a 0 (.ref q)) := by
  refine x_met [some (.ref a)] rfl (zc1 (by rfl)) (Nat.le_of_ble_eq_true rfl) rfl ?_
  refine x_aload_n 0 rfl rfl dX3_init_0 ?_
  refine x_objInit rfl zl_X3_3 (by decide) (by decide) (by decide) dX3_init_1 ?_
  refine x_aload_n 0 rfl rfl dX3_init_4 ?_
  refine x_bipush (nI 60) dX3_init_5 rfl ?_
  refine x_newC (N := 60) rfl (by decide) (Nat.le_of_ble_eq_true rfl) (Nat.le_of_ble_eq_true rfl) dX3_init_7 (fun q hq => ?_)
  have hsq : shU sh q (8, 60) a = (3, 6) := (shU_ne (fun z : a = q => hq (z ▸ ha))).trans hsh
  refine x_putF (ci := 3) (k := 0) (fun _ h => h) zin3 tyX3_ok nmX3 rfl (by decide) (by decide) rfl rfl rfl rfl rfl rfl rfl zf_X3_9 (List.mem_append_left _ ha) hsq dX3_init_9 ?_
  exact x_vret dX3_init_12 ⟨q, hq, rfl, rfl, rfl⟩
end CT
