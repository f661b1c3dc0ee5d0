theorem x_gen {l : Launch} {G0 : zG} {τ : Nat → Nat} {Md : zMd} {R : Room} {Kp : Method → Prop} {F : List Frame → Array Value → State → State → Prop} {A : State → Nat → Prop} {pc : Nat} {lv : List (Option Value)} {st : List Value} {sh : Nat → Nat × Nat} {L : List Nat} {mm : zM} {cells slots : Nat} (k : ∀ m', m' = mm → zX l G0 τ Md R Kp F A pc lv st sh L m' cells slots) : zX l G0 τ Md R Kp F A pc lv st sh L mm cells slots := k mm rfl
/-- what stands behind the constructor of the reference at a -/
def zMX (a : Nat) (sh0 : Nat → Nat × Nat) (L0 : List Nat) (mm0 : zM) (A : Nat → Nat) (sh : Nat → Nat × Nat) (L : List Nat) (mm : zM) : Prop :=
  A 0 = a ∧ (∀ j, j < 8 → A j ∈ L ∧ sh (A j) = zMsh j ∧ (j ≠ 0 → A j ∉ L0)) ∧ (∀ i j, i < 8 → j < 8 → A i = A j → i = j) ∧ (∀ b, b ∈ L0 → b ∈ L ∧ sh b = sh0 b ∧ (b ≠ a → mm b = mm0 b)) ∧
  (∀ k, k < 15 → 0 < zMrf k → mm (A 0) k = .ref (A (zMrf k))) ∧ (∀ k, k < 15 → zMrf k = 0 → mm (A 0) k = .int 0) ∧ (∀ i, i < 607 → mm (A 1) i = .int (zu0 i)) ∧ (∀ j i, 2 ≤ j → j < 6 → i < (zMsh j).2 → mm (A j) i = .int 0) ∧ (∀ i, i < 4 → mm (A 6) i = .int (zLow i)) ∧ ∀ i, i < 4 → mm (A 7) i = .int (zHigh i)
set_option maxRecDepth 8000 in
set_option maxHeartbeats 1000000 in
theorem c_X7_init {l : Launch} {G0 : zG} {τ : Nat → Nat} {sh : Nat → Nat × Nat} {L : List Nat} {mm : zM} {a : Nat} (ha : a ∈ L) (hsh : sh a = (7, 15)) (hm : ∀ k, k < 15 → mm a k = defaultValue (tyX7 k)) : zSmX l G0 τ yX7_init cX7_init 1 1 7 4317 [.ref a] sh L mm (fun sh' L' mm' => ∃ A, zMX a sh L mm A sh' L' mm') := by
  refine x_met [some (.ref a)] rfl (zc1 (by rfl)) (Nat.le_of_ble_eq_true rfl) rfl ?_
  have ham0 := ha
  have has0 := hsh
  refine x_aload_n 0 rfl rfl dX7_init_0 ?_
  refine x_objInit rfl zl_X7_1 (by decide) (by decide) (by decide) dX7_init_1 ?_
  refine x_aload_n 0 rfl rfl dX7_init_4 ?_
  refine x_sipush (nI 607) dX7_init_5 rfl ?_
  refine x_newI (N := 607) rfl (by decide) (Nat.le_of_ble_eq_true rfl) (Nat.le_of_ble_eq_true rfl) dX7_init_8 (fun q1 hq1 => ?_)
  have na1 : a ≠ q1 := fun z => hq1 (z ▸ ham0)
  have ham1 := List.mem_append_left [q1] ham0
  have has1 := (shU_ne (x := (9, 607)) na1).trans has0
  refine x_putF (ci := 7) (k := 0) (fun _ h => h) zin7 tyX7_ok nmX7 rfl (by decide) (by decide) rfl rfl rfl rfl rfl rfl rfl zf_X7_7 ham1 has1 dX7_init_10 ?_
  refine x_aload_n 0 rfl rfl dX7_init_13 ?_
  refine x_sipush (nI 607) dX7_init_14 rfl ?_
  refine x_newI (N := 607) rfl (by decide) (Nat.le_of_ble_eq_true rfl) (Nat.le_of_ble_eq_true rfl) dX7_init_17 (fun q2 hq2 => ?_)
  have na2 : a ≠ q2 := fun z => hq2 (z ▸ ham1)
  have ham2 := List.mem_append_left [q2] ham1
  have has2 := (shU_ne (x := (9, 607)) na2).trans has1
  refine x_putF (ci := 7) (k := 1) (fun _ h => h) zin7 tyX7_ok nmX7 rfl (by decide) (by decide) rfl rfl rfl rfl rfl rfl rfl zf_X7_13 ham2 has2 dX7_init_19 ?_
  refine x_aload_n 0 rfl rfl dX7_init_22 ?_
  refine x_sipush (nI 2428) dX7_init_23 rfl ?_
  refine x_newI (N := 2428) rfl (by decide) (Nat.le_of_ble_eq_true rfl) (Nat.le_of_ble_eq_true rfl) dX7_init_26 (fun q3 hq3 => ?_)
  have na3 : a ≠ q3 := fun z => hq3 (z ▸ ham2)
  have ham3 := List.mem_append_left [q3] ham2
  have has3 := (shU_ne (x := (9, 2428)) na3).trans has2
  refine x_putF (ci := 7) (k := 2) (fun _ h => h) zin7 tyX7_ok nmX7 rfl (by decide) (by decide) rfl rfl rfl rfl rfl rfl rfl zf_X7_16 ham3 has3 dX7_init_28 ?_
  refine x_aload_n 0 rfl rfl dX7_init_31 ?_
  refine x_sipush (nI 607) dX7_init_32 rfl ?_
  refine x_newI (N := 607) rfl (by decide) (Nat.le_of_ble_eq_true rfl) (Nat.le_of_ble_eq_true rfl) dX7_init_35 (fun q4 hq4 => ?_)
  have na4 : a ≠ q4 := fun z => hq4 (z ▸ ham3)
  have ham4 := List.mem_append_left [q4] ham3
  have has4 := (shU_ne (x := (9, 607)) na4).trans has3
  refine x_putF (ci := 7) (k := 4) (fun _ h => h) zin7 tyX7_ok nmX7 rfl (by decide) (by decide) rfl rfl rfl rfl rfl rfl rfl zf_X7_19 ham4 has4 dX7_init_37 ?_
  refine x_aload_n 0 rfl rfl dX7_init_40 ?_
  refine x_bipush (nI 60) dX7_init_41 rfl ?_
  refine x_newI (N := 60) rfl (by decide) (Nat.le_of_ble_eq_true rfl) (Nat.le_of_ble_eq_true rfl) dX7_init_43 (fun q5 hq5 => ?_)
  have na5 : a ≠ q5 := fun z => hq5 (z ▸ ham4)
  have ham5 := List.mem_append_left [q5] ham4
  have has5 := (shU_ne (x := (9, 60)) na5).trans has4
  refine x_putF (ci := 7) (k := 6) (fun _ h => h) zin7 tyX7_ok nmX7 rfl (by decide) (by decide) rfl rfl rfl rfl rfl rfl rfl zf_X7_22 ham5 has5 dX7_init_45 ?_
  refine x_aload_n 0 rfl rfl dX7_init_48 ?_
  refine x_iconst (nI 4) dX7_init_49 rfl ?_
  refine x_newI (N := 4) rfl (by decide) (Nat.le_of_ble_eq_true rfl) (Nat.le_of_ble_eq_true rfl) dX7_init_50 (fun q6 hq6 => ?_)
  have na6 : a ≠ q6 := fun z => hq6 (z ▸ ham5)
  have ham6 := List.mem_append_left [q6] ham5
  have has6 := (shU_ne (x := (9, 4)) na6).trans has5
  refine x_dup dX7_init_52 rfl ?_
  refine x_iconst (nI 0) dX7_init_53 rfl ?_
  refine x_iconst (nI 0) dX7_init_54 rfl ?_
  refine x_iast (n := 0) (N := 4) (List.mem_append_right _ (List.mem_singleton.mpr rfl)) shU_eq rfl (by decide) (by decide) dX7_init_55 ?_
  refine x_dup dX7_init_56 rfl ?_
  refine x_iconst (nI 1) dX7_init_57 rfl ?_
  refine x_iconst (nI 0) dX7_init_58 rfl ?_
  refine x_iast (n := 1) (N := 4) (List.mem_append_right _ (List.mem_singleton.mpr rfl)) shU_eq rfl (by decide) (by decide) dX7_init_59 ?_
  refine x_dup dX7_init_60 rfl ?_
  refine x_iconst (nI 2) dX7_init_61 rfl ?_
  refine x_iconst (nI 1) dX7_init_62 rfl ?_
  refine x_iast (n := 2) (N := 4) (List.mem_append_right _ (List.mem_singleton.mpr rfl)) shU_eq rfl (by decide) (by decide) dX7_init_63 ?_
  refine x_dup dX7_init_64 rfl ?_
  refine x_iconst (nI 3) dX7_init_65 rfl ?_
  refine x_iconst (nI 0) dX7_init_66 rfl ?_
  refine x_iast (n := 3) (N := 4) (List.mem_append_right _ (List.mem_singleton.mpr rfl)) shU_eq rfl (by decide) (by decide) dX7_init_67 ?_
  refine x_putF (ci := 7) (k := 8) (fun _ h => h) zin7 tyX7_ok nmX7 rfl (by decide) (by decide) rfl rfl rfl rfl rfl rfl rfl zf_X7_25 ham6 has6 dX7_init_68 ?_
  refine x_aload_n 0 rfl rfl dX7_init_71 ?_
  refine x_iconst (nI 4) dX7_init_72 rfl ?_
  refine x_newI (N := 4) rfl (by decide) (Nat.le_of_ble_eq_true rfl) (Nat.le_of_ble_eq_true rfl) dX7_init_73 (fun q7 hq7 => ?_)
  have na7 : a ≠ q7 := fun z => hq7 (z ▸ ham6)
  have ham7 := List.mem_append_left [q7] ham6
  have has7 := (shU_ne (x := (9, 4)) na7).trans has6
  refine x_dup dX7_init_75 rfl ?_
  refine x_iconst (nI 0) dX7_init_76 rfl ?_
  refine x_bipush (nI 9) dX7_init_77 rfl ?_
  refine x_iast (n := 0) (N := 4) (List.mem_append_right _ (List.mem_singleton.mpr rfl)) shU_eq rfl (by decide) (by decide) dX7_init_79 ?_
  refine x_dup dX7_init_80 rfl ?_
  refine x_iconst (nI 1) dX7_init_81 rfl ?_
  refine x_bipush (nI 50) dX7_init_82 rfl ?_
  refine x_iast (n := 1) (N := 4) (List.mem_append_right _ (List.mem_singleton.mpr rfl)) shU_eq rfl (by decide) (by decide) dX7_init_84 ?_
  refine x_dup dX7_init_85 rfl ?_
  refine x_iconst (nI 2) dX7_init_86 rfl ?_
  refine x_bipush (nI 60) dX7_init_87 rfl ?_
  refine x_iast (n := 2) (N := 4) (List.mem_append_right _ (List.mem_singleton.mpr rfl)) shU_eq rfl (by decide) (by decide) dX7_init_89 ?_
  refine x_dup dX7_init_90 rfl ?_
  refine x_iconst (nI 3) dX7_init_91 rfl ?_
  refine x_sipush (nI 9999) dX7_init_92 rfl ?_
  refine x_iast (n := 3) (N := 4) (List.mem_append_right _ (List.mem_singleton.mpr rfl)) shU_eq rfl (by decide) (by decide) dX7_init_95 ?_
  refine x_putF (ci := 7) (k := 9) (fun _ h => h) zin7 tyX7_ok nmX7 rfl (by decide) (by decide) rfl rfl rfl rfl rfl rfl rfl zf_X7_28 ham7 has7 dX7_init_96 ?_
  have n12 : q1 ≠ q2 := fun z => hq2 (by rw [← z]; simp)
  have n13 : q1 ≠ q3 := fun z => hq3 (by rw [← z]; simp)
  have n23 : q2 ≠ q3 := fun z => hq3 (by rw [← z]; simp)
  have n14 : q1 ≠ q4 := fun z => hq4 (by rw [← z]; simp)
  have n24 : q2 ≠ q4 := fun z => hq4 (by rw [← z]; simp)
  have n34 : q3 ≠ q4 := fun z => hq4 (by rw [← z]; simp)
  have n15 : q1 ≠ q5 := fun z => hq5 (by rw [← z]; simp)
  have n25 : q2 ≠ q5 := fun z => hq5 (by rw [← z]; simp)
  have n35 : q3 ≠ q5 := fun z => hq5 (by rw [← z]; simp)
  have n45 : q4 ≠ q5 := fun z => hq5 (by rw [← z]; simp)
  have n16 : q1 ≠ q6 := fun z => hq6 (by rw [← z]; simp)
  have n26 : q2 ≠ q6 := fun z => hq6 (by rw [← z]; simp)
  have n36 : q3 ≠ q6 := fun z => hq6 (by rw [← z]; simp)
  have n46 : q4 ≠ q6 := fun z => hq6 (by rw [← z]; simp)
  have n56 : q5 ≠ q6 := fun z => hq6 (by rw [← z]; simp)
  have n17 : q1 ≠ q7 := fun z => hq7 (by rw [← z]; simp)
  have n27 : q2 ≠ q7 := fun z => hq7 (by rw [← z]; simp)
  have n37 : q3 ≠ q7 := fun z => hq7 (by rw [← z]; simp)
  have n47 : q4 ≠ q7 := fun z => hq7 (by rw [← z]; simp)
  have n57 : q5 ≠ q7 := fun z => hq7 (by rw [← z]; simp)
  have n67 : q6 ≠ q7 := fun z => hq7 (by rw [← z]; simp)
  refine x_gen (fun mX hX => ?_)
  have g0 : ∀ k, k < 15 → mX a k = if k = 0 then .ref q1 else if k = 1 then .ref q2 else if k = 2 then .ref q3 else if k = 4 then .ref q4 else if k = 6 then .ref q5 else if k = 8 then .ref q6 else if k = 9 then .ref q7 else mm a k := by
    intro k hk
    rw [hX]
    rcases (by omega : k = 0 ∨ k = 1 ∨ k = 2 ∨ k = 3 ∨ k = 4 ∨ k = 5 ∨ k = 6 ∨ k = 7 ∨ k = 8 ∨ k = 9 ∨ k = 10 ∨ k = 11 ∨ k = 12 ∨ k = 13 ∨ k = 14) with rfl | rfl | rfl | rfl | rfl | rfl | rfl | rfl | rfl | rfl | rfl | rfl | rfl | rfl | rfl <;> simp [zup, mmU, na1, na2, na3, na4, na5, na6, na7, Ne.symm na1, Ne.symm na2, Ne.symm na3, Ne.symm na4, Ne.symm na5, Ne.symm na6, Ne.symm na7, n12, n13, n23, n14, n24, n34, n15, n25, n35, n45, n16, n26, n36, n46, n56, n17, n27, n37, n47, n57, n67, Ne.symm n12, Ne.symm n13, Ne.symm n23, Ne.symm n14, Ne.symm n24, Ne.symm n34, Ne.symm n15, Ne.symm n25, Ne.symm n35, Ne.symm n45, Ne.symm n16, Ne.symm n26, Ne.symm n36, Ne.symm n46, Ne.symm n56, Ne.symm n17, Ne.symm n27, Ne.symm n37, Ne.symm n47, Ne.symm n57, Ne.symm n67]
  have g1 : ∀ i, mX q1 i = .int 0 := by intro i; rw [hX]; simp [zup, mmU, na1, na2, na3, na4, na5, na6, na7, Ne.symm na1, Ne.symm na2, Ne.symm na3, Ne.symm na4, Ne.symm na5, Ne.symm na6, Ne.symm na7, n12, n13, n23, n14, n24, n34, n15, n25, n35, n45, n16, n26, n36, n46, n56, n17, n27, n37, n47, n57, n67, Ne.symm n12, Ne.symm n13, Ne.symm n23, Ne.symm n14, Ne.symm n24, Ne.symm n34, Ne.symm n15, Ne.symm n25, Ne.symm n35, Ne.symm n45, Ne.symm n16, Ne.symm n26, Ne.symm n36, Ne.symm n46, Ne.symm n56, Ne.symm n17, Ne.symm n27, Ne.symm n37, Ne.symm n47, Ne.symm n57, Ne.symm n67]
  have g2 : ∀ i, mX q2 i = .int 0 := by intro i; rw [hX]; simp [zup, mmU, na1, na2, na3, na4, na5, na6, na7, Ne.symm na1, Ne.symm na2, Ne.symm na3, Ne.symm na4, Ne.symm na5, Ne.symm na6, Ne.symm na7, n12, n13, n23, n14, n24, n34, n15, n25, n35, n45, n16, n26, n36, n46, n56, n17, n27, n37, n47, n57, n67, Ne.symm n12, Ne.symm n13, Ne.symm n23, Ne.symm n14, Ne.symm n24, Ne.symm n34, Ne.symm n15, Ne.symm n25, Ne.symm n35, Ne.symm n45, Ne.symm n16, Ne.symm n26, Ne.symm n36, Ne.symm n46, Ne.symm n56, Ne.symm n17, Ne.symm n27, Ne.symm n37, Ne.symm n47, Ne.symm n57, Ne.symm n67]
  have g3 : ∀ i, mX q3 i = .int 0 := by intro i; rw [hX]; simp [zup, mmU, na1, na2, na3, na4, na5, na6, na7, Ne.symm na1, Ne.symm na2, Ne.symm na3, Ne.symm na4, Ne.symm na5, Ne.symm na6, Ne.symm na7, n12, n13, n23, n14, n24, n34, n15, n25, n35, n45, n16, n26, n36, n46, n56, n17, n27, n37, n47, n57, n67, Ne.symm n12, Ne.symm n13, Ne.symm n23, Ne.symm n14, Ne.symm n24, Ne.symm n34, Ne.symm n15, Ne.symm n25, Ne.symm n35, Ne.symm n45, Ne.symm n16, Ne.symm n26, Ne.symm n36, Ne.symm n46, Ne.symm n56, Ne.symm n17, Ne.symm n27, Ne.symm n37, Ne.symm n47, Ne.symm n57, Ne.symm n67]
  have g4 : ∀ i, mX q4 i = .int 0 := by intro i; rw [hX]; simp [zup, mmU, na1, na2, na3, na4, na5, na6, na7, Ne.symm na1, Ne.symm na2, Ne.symm na3, Ne.symm na4, Ne.symm na5, Ne.symm na6, Ne.symm na7, n12, n13, n23, n14, n24, n34, n15, n25, n35, n45, n16, n26, n36, n46, n56, n17, n27, n37, n47, n57, n67, Ne.symm n12, Ne.symm n13, Ne.symm n23, Ne.symm n14, Ne.symm n24, Ne.symm n34, Ne.symm n15, Ne.symm n25, Ne.symm n35, Ne.symm n45, Ne.symm n16, Ne.symm n26, Ne.symm n36, Ne.symm n46, Ne.symm n56, Ne.symm n17, Ne.symm n27, Ne.symm n37, Ne.symm n47, Ne.symm n57, Ne.symm n67]
  have g5 : ∀ i, mX q5 i = .int 0 := by intro i; rw [hX]; simp [zup, mmU, na1, na2, na3, na4, na5, na6, na7, Ne.symm na1, Ne.symm na2, Ne.symm na3, Ne.symm na4, Ne.symm na5, Ne.symm na6, Ne.symm na7, n12, n13, n23, n14, n24, n34, n15, n25, n35, n45, n16, n26, n36, n46, n56, n17, n27, n37, n47, n57, n67, Ne.symm n12, Ne.symm n13, Ne.symm n23, Ne.symm n14, Ne.symm n24, Ne.symm n34, Ne.symm n15, Ne.symm n25, Ne.symm n35, Ne.symm n45, Ne.symm n16, Ne.symm n26, Ne.symm n36, Ne.symm n46, Ne.symm n56, Ne.symm n17, Ne.symm n27, Ne.symm n37, Ne.symm n47, Ne.symm n57, Ne.symm n67]
  have g6 : ∀ i, i < 4 → mX q6 i = .int (zLow i) := by
    intro i hi; rw [hX]; rcases (by omega : i = 0 ∨ i = 1 ∨ i = 2 ∨ i = 3) with rfl | rfl | rfl | rfl <;> simp [zup, mmU, na1, na2, na3, na4, na5, na6, na7, Ne.symm na1, Ne.symm na2, Ne.symm na3, Ne.symm na4, Ne.symm na5, Ne.symm na6, Ne.symm na7, n12, n13, n23, n14, n24, n34, n15, n25, n35, n45, n16, n26, n36, n46, n56, n17, n27, n37, n47, n57, n67, Ne.symm n12, Ne.symm n13, Ne.symm n23, Ne.symm n14, Ne.symm n24, Ne.symm n34, Ne.symm n15, Ne.symm n25, Ne.symm n35, Ne.symm n45, Ne.symm n16, Ne.symm n26, Ne.symm n36, Ne.symm n46, Ne.symm n56, Ne.symm n17, Ne.symm n27, Ne.symm n37, Ne.symm n47, Ne.symm n57, Ne.symm n67] <;> rfl
  have g7 : ∀ i, i < 4 → mX q7 i = .int (zHigh i) := by
    intro i hi; rw [hX]; rcases (by omega : i = 0 ∨ i = 1 ∨ i = 2 ∨ i = 3) with rfl | rfl | rfl | rfl <;> simp [zup, mmU, na1, na2, na3, na4, na5, na6, na7, Ne.symm na1, Ne.symm na2, Ne.symm na3, Ne.symm na4, Ne.symm na5, Ne.symm na6, Ne.symm na7, n12, n13, n23, n14, n24, n34, n15, n25, n35, n45, n16, n26, n36, n46, n56, n17, n27, n37, n47, n57, n67, Ne.symm n12, Ne.symm n13, Ne.symm n23, Ne.symm n14, Ne.symm n24, Ne.symm n34, Ne.symm n15, Ne.symm n25, Ne.symm n35, Ne.symm n45, Ne.symm n16, Ne.symm n26, Ne.symm n36, Ne.symm n46, Ne.symm n56, Ne.symm n17, Ne.symm n27, Ne.symm n37, Ne.symm n47, Ne.symm n57, Ne.symm n67] <;> rfl
  have gL : ∀ b, b ∈ L → b ≠ a → mX b = mm b := by
    intro b hb hba
    have b1 : b ≠ q1 := fun z => hq1 (by rw [← z]; simp [hb])
    have b2 : b ≠ q2 := fun z => hq2 (by rw [← z]; simp [hb])
    have b3 : b ≠ q3 := fun z => hq3 (by rw [← z]; simp [hb])
    have b4 : b ≠ q4 := fun z => hq4 (by rw [← z]; simp [hb])
    have b5 : b ≠ q5 := fun z => hq5 (by rw [← z]; simp [hb])
    have b6 : b ≠ q6 := fun z => hq6 (by rw [← z]; simp [hb])
    have b7 : b ≠ q7 := fun z => hq7 (by rw [← z]; simp [hb])
    funext i; rw [hX]; simp [zup, mmU, hba, b1, b2, b3, b4, b5, b6, b7]
  clear hX
  have m1 : q1 ∈ (((((((L ++ [q1]) ++ [q2]) ++ [q3]) ++ [q4]) ++ [q5]) ++ [q6]) ++ [q7]) := by simp
  have s1 : (shU (shU (shU (shU (shU (shU (shU sh q1 (9, 607)) q2 (9, 607)) q3 (9, 2428)) q4 (9, 607)) q5 (9, 60)) q6 (9, 4)) q7 (9, 4)) q1 = (9, 607) := by simp [shU, na1, na2, na3, na4, na5, na6, na7, Ne.symm na1, Ne.symm na2, Ne.symm na3, Ne.symm na4, Ne.symm na5, Ne.symm na6, Ne.symm na7, n12, n13, n23, n14, n24, n34, n15, n25, n35, n45, n16, n26, n36, n46, n56, n17, n27, n37, n47, n57, n67, Ne.symm n12, Ne.symm n13, Ne.symm n23, Ne.symm n14, Ne.symm n24, Ne.symm n34, Ne.symm n15, Ne.symm n25, Ne.symm n35, Ne.symm n45, Ne.symm n16, Ne.symm n26, Ne.symm n36, Ne.symm n46, Ne.symm n56, Ne.symm n17, Ne.symm n27, Ne.symm n37, Ne.symm n47, Ne.symm n57, Ne.symm n67]
  have s2 : (shU (shU (shU (shU (shU (shU (shU sh q1 (9, 607)) q2 (9, 607)) q3 (9, 2428)) q4 (9, 607)) q5 (9, 60)) q6 (9, 4)) q7 (9, 4)) q2 = (9, 607) := by simp [shU, na1, na2, na3, na4, na5, na6, na7, Ne.symm na1, Ne.symm na2, Ne.symm na3, Ne.symm na4, Ne.symm na5, Ne.symm na6, Ne.symm na7, n12, n13, n23, n14, n24, n34, n15, n25, n35, n45, n16, n26, n36, n46, n56, n17, n27, n37, n47, n57, n67, Ne.symm n12, Ne.symm n13, Ne.symm n23, Ne.symm n14, Ne.symm n24, Ne.symm n34, Ne.symm n15, Ne.symm n25, Ne.symm n35, Ne.symm n45, Ne.symm n16, Ne.symm n26, Ne.symm n36, Ne.symm n46, Ne.symm n56, Ne.symm n17, Ne.symm n27, Ne.symm n37, Ne.symm n47, Ne.symm n57, Ne.symm n67]
  have s3 : (shU (shU (shU (shU (shU (shU (shU sh q1 (9, 607)) q2 (9, 607)) q3 (9, 2428)) q4 (9, 607)) q5 (9, 60)) q6 (9, 4)) q7 (9, 4)) q3 = (9, 2428) := by simp [shU, na1, na2, na3, na4, na5, na6, na7, Ne.symm na1, Ne.symm na2, Ne.symm na3, Ne.symm na4, Ne.symm na5, Ne.symm na6, Ne.symm na7, n12, n13, n23, n14, n24, n34, n15, n25, n35, n45, n16, n26, n36, n46, n56, n17, n27, n37, n47, n57, n67, Ne.symm n12, Ne.symm n13, Ne.symm n23, Ne.symm n14, Ne.symm n24, Ne.symm n34, Ne.symm n15, Ne.symm n25, Ne.symm n35, Ne.symm n45, Ne.symm n16, Ne.symm n26, Ne.symm n36, Ne.symm n46, Ne.symm n56, Ne.symm n17, Ne.symm n27, Ne.symm n37, Ne.symm n47, Ne.symm n57, Ne.symm n67]
  have s4 : (shU (shU (shU (shU (shU (shU (shU sh q1 (9, 607)) q2 (9, 607)) q3 (9, 2428)) q4 (9, 607)) q5 (9, 60)) q6 (9, 4)) q7 (9, 4)) q4 = (9, 607) := by simp [shU, na1, na2, na3, na4, na5, na6, na7, Ne.symm na1, Ne.symm na2, Ne.symm na3, Ne.symm na4, Ne.symm na5, Ne.symm na6, Ne.symm na7, n12, n13, n23, n14, n24, n34, n15, n25, n35, n45, n16, n26, n36, n46, n56, n17, n27, n37, n47, n57, n67, Ne.symm n12, Ne.symm n13, Ne.symm n23, Ne.symm n14, Ne.symm n24, Ne.symm n34, Ne.symm n15, Ne.symm n25, Ne.symm n35, Ne.symm n45, Ne.symm n16, Ne.symm n26, Ne.symm n36, Ne.symm n46, Ne.symm n56, Ne.symm n17, Ne.symm n27, Ne.symm n37, Ne.symm n47, Ne.symm n57, Ne.symm n67]
  have s5 : (shU (shU (shU (shU (shU (shU (shU sh q1 (9, 607)) q2 (9, 607)) q3 (9, 2428)) q4 (9, 607)) q5 (9, 60)) q6 (9, 4)) q7 (9, 4)) q5 = (9, 60) := by simp [shU, na1, na2, na3, na4, na5, na6, na7, Ne.symm na1, Ne.symm na2, Ne.symm na3, Ne.symm na4, Ne.symm na5, Ne.symm na6, Ne.symm na7, n12, n13, n23, n14, n24, n34, n15, n25, n35, n45, n16, n26, n36, n46, n56, n17, n27, n37, n47, n57, n67, Ne.symm n12, Ne.symm n13, Ne.symm n23, Ne.symm n14, Ne.symm n24, Ne.symm n34, Ne.symm n15, Ne.symm n25, Ne.symm n35, Ne.symm n45, Ne.symm n16, Ne.symm n26, Ne.symm n36, Ne.symm n46, Ne.symm n56, Ne.symm n17, Ne.symm n27, Ne.symm n37, Ne.symm n47, Ne.symm n57, Ne.symm n67]
  have s6 : (shU (shU (shU (shU (shU (shU (shU sh q1 (9, 607)) q2 (9, 607)) q3 (9, 2428)) q4 (9, 607)) q5 (9, 60)) q6 (9, 4)) q7 (9, 4)) q6 = (9, 4) := by simp [shU, na1, na2, na3, na4, na5, na6, na7, Ne.symm na1, Ne.symm na2, Ne.symm na3, Ne.symm na4, Ne.symm na5, Ne.symm na6, Ne.symm na7, n12, n13, n23, n14, n24, n34, n15, n25, n35, n45, n16, n26, n36, n46, n56, n17, n27, n37, n47, n57, n67, Ne.symm n12, Ne.symm n13, Ne.symm n23, Ne.symm n14, Ne.symm n24, Ne.symm n34, Ne.symm n15, Ne.symm n25, Ne.symm n35, Ne.symm n45, Ne.symm n16, Ne.symm n26, Ne.symm n36, Ne.symm n46, Ne.symm n56, Ne.symm n17, Ne.symm n27, Ne.symm n37, Ne.symm n47, Ne.symm n57, Ne.symm n67]
  have s7 : (shU (shU (shU (shU (shU (shU (shU sh q1 (9, 607)) q2 (9, 607)) q3 (9, 2428)) q4 (9, 607)) q5 (9, 60)) q6 (9, 4)) q7 (9, 4)) q7 = (9, 4) := by simp [shU, na1, na2, na3, na4, na5, na6, na7, Ne.symm na1, Ne.symm na2, Ne.symm na3, Ne.symm na4, Ne.symm na5, Ne.symm na6, Ne.symm na7, n12, n13, n23, n14, n24, n34, n15, n25, n35, n45, n16, n26, n36, n46, n56, n17, n27, n37, n47, n57, n67, Ne.symm n12, Ne.symm n13, Ne.symm n23, Ne.symm n14, Ne.symm n24, Ne.symm n34, Ne.symm n15, Ne.symm n25, Ne.symm n35, Ne.symm n45, Ne.symm n16, Ne.symm n26, Ne.symm n36, Ne.symm n46, Ne.symm n56, Ne.symm n17, Ne.symm n27, Ne.symm n37, Ne.symm n47, Ne.symm n57, Ne.symm n67]
  refine x_aload_n 0 rfl rfl dX7_init_99 ?_
  refine x_get (ci := 7) (k := 0) zin7 rfl (by decide) (by decide) rfl rfl zf_X7_7 ham7 has7 (g0 0 (by decide)) dX7_init_100 ?_
  refine x_iconst (nI 3) dX7_init_103 rfl ?_
  refine x_iconst (nI 3) dX7_init_104 rfl ?_
  refine x_iast (n := 3) (N := 607) m1 s1 rfl (by decide) (by decide) dX7_init_105 ?_
  have v1 : (zup mX q1 3 (.int (nI 3))) a 0 = .ref q1 := (zup_ne (fun z => na1 z.1)).trans (g0 0 (by decide))
  refine x_aload_n 0 rfl rfl dX7_init_106 ?_
  refine x_get (ci := 7) (k := 0) zin7 rfl (by decide) (by decide) rfl rfl zf_X7_7 ham7 has7 (v1) dX7_init_107 ?_
  refine x_iconst (nI 4) dX7_init_110 rfl ?_
  refine x_bipush (nI 10) dX7_init_111 rfl ?_
  refine x_iast (n := 4) (N := 607) m1 s1 rfl (by decide) (by decide) dX7_init_113 ?_
  have v2 : (zup (zup mX q1 3 (.int (nI 3))) q1 4 (.int (nI 10))) a 0 = .ref q1 := (zup_ne (fun z => na1 z.1)).trans (v1)
  refine x_aload_n 0 rfl rfl dX7_init_114 ?_
  refine x_get (ci := 7) (k := 0) zin7 rfl (by decide) (by decide) rfl rfl zf_X7_7 ham7 has7 (v2) dX7_init_115 ?_
  refine x_iconst (nI 5) dX7_init_118 rfl ?_
  refine x_bipush (nI 20) dX7_init_119 rfl ?_
  refine x_iast (n := 5) (N := 607) m1 s1 rfl (by decide) (by decide) dX7_init_121 ?_
  have v3 : (zup (zup (zup mX q1 3 (.int (nI 3))) q1 4 (.int (nI 10))) q1 5 (.int (nI 20))) a 0 = .ref q1 := (zup_ne (fun z => na1 z.1)).trans (v2)
  refine x_aload_n 0 rfl rfl dX7_init_122 ?_
  refine x_get (ci := 7) (k := 0) zin7 rfl (by decide) (by decide) rfl rfl zf_X7_7 ham7 has7 (v3) dX7_init_123 ?_
  refine x_bipush (nI 6) dX7_init_126 rfl ?_
  refine x_sipush (nI 500) dX7_init_128 rfl ?_
  refine x_iast (n := 6) (N := 607) m1 s1 rfl (by decide) (by decide) dX7_init_131 ?_
  have v4 : (zup (zup (zup (zup mX q1 3 (.int (nI 3))) q1 4 (.int (nI 10))) q1 5 (.int (nI 20))) q1 6 (.int (nI 500))) a 0 = .ref q1 := (zup_ne (fun z => na1 z.1)).trans (v3)
  refine x_aload_n 0 rfl rfl dX7_init_132 ?_
  refine x_get (ci := 7) (k := 0) zin7 rfl (by decide) (by decide) rfl rfl zf_X7_7 ham7 has7 (v4) dX7_init_133 ?_
  refine x_bipush (nI 9) dX7_init_136 rfl ?_
  refine x_bipush (nI 30) dX7_init_138 rfl ?_
  refine x_iast (n := 9) (N := 607) m1 s1 rfl (by decide) (by decide) dX7_init_140 ?_
  have v5 : (zup (zup (zup (zup (zup mX q1 3 (.int (nI 3))) q1 4 (.int (nI 10))) q1 5 (.int (nI 20))) q1 6 (.int (nI 500))) q1 9 (.int (nI 30))) a 0 = .ref q1 := (zup_ne (fun z => na1 z.1)).trans (v4)
  refine x_aload_n 0 rfl rfl dX7_init_141 ?_
  refine x_get (ci := 7) (k := 0) zin7 rfl (by decide) (by decide) rfl rfl zf_X7_7 ham7 has7 (v5) dX7_init_142 ?_
  refine x_bipush (nI 10) dX7_init_145 rfl ?_
  refine x_bipush (nI 10) dX7_init_147 rfl ?_
  refine x_iast (n := 10) (N := 607) m1 s1 rfl (by decide) (by decide) dX7_init_149 ?_
  have v6 : (zup (zup (zup (zup (zup (zup mX q1 3 (.int (nI 3))) q1 4 (.int (nI 10))) q1 5 (.int (nI 20))) q1 6 (.int (nI 500))) q1 9 (.int (nI 30))) q1 10 (.int (nI 10))) a 0 = .ref q1 := (zup_ne (fun z => na1 z.1)).trans (v5)
  refine x_aload_n 0 rfl rfl dX7_init_150 ?_
  refine x_get (ci := 7) (k := 0) zin7 rfl (by decide) (by decide) rfl rfl zf_X7_7 ham7 has7 (v6) dX7_init_151 ?_
  refine x_bipush (nI 11) dX7_init_154 rfl ?_
  refine x_bipush (nI 14) dX7_init_156 rfl ?_
  refine x_iast (n := 11) (N := 607) m1 s1 rfl (by decide) (by decide) dX7_init_158 ?_
  have v7 : (zup (zup (zup (zup (zup (zup (zup mX q1 3 (.int (nI 3))) q1 4 (.int (nI 10))) q1 5 (.int (nI 20))) q1 6 (.int (nI 500))) q1 9 (.int (nI 30))) q1 10 (.int (nI 10))) q1 11 (.int (nI 14))) a 0 = .ref q1 := (zup_ne (fun z => na1 z.1)).trans (v6)
  refine x_aload_n 0 rfl rfl dX7_init_159 ?_
  refine x_get (ci := 7) (k := 0) zin7 rfl (by decide) (by decide) rfl rfl zf_X7_7 ham7 has7 (v7) dX7_init_160 ?_
  refine x_bipush (nI 12) dX7_init_163 rfl ?_
  refine x_bipush (nI 30) dX7_init_165 rfl ?_
  refine x_iast (n := 12) (N := 607) m1 s1 rfl (by decide) (by decide) dX7_init_167 ?_
  have v8 : (zup (zup (zup (zup (zup (zup (zup (zup mX q1 3 (.int (nI 3))) q1 4 (.int (nI 10))) q1 5 (.int (nI 20))) q1 6 (.int (nI 500))) q1 9 (.int (nI 30))) q1 10 (.int (nI 10))) q1 11 (.int (nI 14))) q1 12 (.int (nI 30))) a 0 = .ref q1 := (zup_ne (fun z => na1 z.1)).trans (v7)
  refine x_aload_n 0 rfl rfl dX7_init_168 ?_
  refine x_get (ci := 7) (k := 0) zin7 rfl (by decide) (by decide) rfl rfl zf_X7_7 ham7 has7 (v8) dX7_init_169 ?_
  refine x_bipush (nI 13) dX7_init_172 rfl ?_
  refine x_bipush (nI 7) dX7_init_174 rfl ?_
  refine x_iast (n := 13) (N := 607) m1 s1 rfl (by decide) (by decide) dX7_init_176 ?_
  have v9 : (zup (zup (zup (zup (zup (zup (zup (zup (zup mX q1 3 (.int (nI 3))) q1 4 (.int (nI 10))) q1 5 (.int (nI 20))) q1 6 (.int (nI 500))) q1 9 (.int (nI 30))) q1 10 (.int (nI 10))) q1 11 (.int (nI 14))) q1 12 (.int (nI 30))) q1 13 (.int (nI 7))) a 0 = .ref q1 := (zup_ne (fun z => na1 z.1)).trans (v8)
  refine x_aload_n 0 rfl rfl dX7_init_177 ?_
  refine x_get (ci := 7) (k := 0) zin7 rfl (by decide) (by decide) rfl rfl zf_X7_7 ham7 has7 (v9) dX7_init_178 ?_
  refine x_bipush (nI 14) dX7_init_181 rfl ?_
  refine x_bipush (nI 60) dX7_init_183 rfl ?_
  refine x_iast (n := 14) (N := 607) m1 s1 rfl (by decide) (by decide) dX7_init_185 ?_
  have v10 : (zup (zup (zup (zup (zup (zup (zup (zup (zup (zup mX q1 3 (.int (nI 3))) q1 4 (.int (nI 10))) q1 5 (.int (nI 20))) q1 6 (.int (nI 500))) q1 9 (.int (nI 30))) q1 10 (.int (nI 10))) q1 11 (.int (nI 14))) q1 12 (.int (nI 30))) q1 13 (.int (nI 7))) q1 14 (.int (nI 60))) a 0 = .ref q1 := (zup_ne (fun z => na1 z.1)).trans (v9)
  refine x_aload_n 0 rfl rfl dX7_init_186 ?_
  refine x_get (ci := 7) (k := 0) zin7 rfl (by decide) (by decide) rfl rfl zf_X7_7 ham7 has7 (v10) dX7_init_187 ?_
  refine x_bipush (nI 16) dX7_init_190 rfl ?_
  refine x_bipush (nI 100) dX7_init_192 rfl ?_
  refine x_iast (n := 16) (N := 607) m1 s1 rfl (by decide) (by decide) dX7_init_194 ?_
  have v11 : (zup (zup (zup (zup (zup (zup (zup (zup (zup (zup (zup mX q1 3 (.int (nI 3))) q1 4 (.int (nI 10))) q1 5 (.int (nI 20))) q1 6 (.int (nI 500))) q1 9 (.int (nI 30))) q1 10 (.int (nI 10))) q1 11 (.int (nI 14))) q1 12 (.int (nI 30))) q1 13 (.int (nI 7))) q1 14 (.int (nI 60))) q1 16 (.int (nI 100))) a 0 = .ref q1 := (zup_ne (fun z => na1 z.1)).trans (v10)
  have oo : ∀ b i, b ≠ q1 → (zup (zup (zup (zup (zup (zup (zup (zup (zup (zup (zup mX q1 3 (.int (nI 3))) q1 4 (.int (nI 10))) q1 5 (.int (nI 20))) q1 6 (.int (nI 500))) q1 9 (.int (nI 30))) q1 10 (.int (nI 10))) q1 11 (.int (nI 14))) q1 12 (.int (nI 30))) q1 13 (.int (nI 7))) q1 14 (.int (nI 60))) q1 16 (.int (nI 100))) b i = mX b i := fun b i hb => by
    rw [zup_ne (fun z => hb z.1), zup_ne (fun z => hb z.1), zup_ne (fun z => hb z.1), zup_ne (fun z => hb z.1), zup_ne (fun z => hb z.1), zup_ne (fun z => hb z.1), zup_ne (fun z => hb z.1), zup_ne (fun z => hb z.1), zup_ne (fun z => hb z.1), zup_ne (fun z => hb z.1), zup_ne (fun z => hb z.1)]
  have vv : ∀ i, (zup (zup (zup (zup (zup (zup (zup (zup (zup (zup (zup mX q1 3 (.int (nI 3))) q1 4 (.int (nI 10))) q1 5 (.int (nI 20))) q1 6 (.int (nI 500))) q1 9 (.int (nI 30))) q1 10 (.int (nI 10))) q1 11 (.int (nI 14))) q1 12 (.int (nI 30))) q1 13 (.int (nI 7))) q1 14 (.int (nI 60))) q1 16 (.int (nI 100))) q1 i = .int (zu0 i) := by
    intro i
    by_cases e16 : i = 16
    · subst e16; rw [zup_eq]; rfl
    rw [zup_ne (fun z => e16 z.2)]
    by_cases e14 : i = 14
    · subst e14; rw [zup_eq]; rfl
    rw [zup_ne (fun z => e14 z.2)]
    by_cases e13 : i = 13
    · subst e13; rw [zup_eq]; rfl
    rw [zup_ne (fun z => e13 z.2)]
    by_cases e12 : i = 12
    · subst e12; rw [zup_eq]; rfl
    rw [zup_ne (fun z => e12 z.2)]
    by_cases e11 : i = 11
    · subst e11; rw [zup_eq]; rfl
    rw [zup_ne (fun z => e11 z.2)]
    by_cases e10 : i = 10
    · subst e10; rw [zup_eq]; rfl
    rw [zup_ne (fun z => e10 z.2)]
    by_cases e9 : i = 9
    · subst e9; rw [zup_eq]; rfl
    rw [zup_ne (fun z => e9 z.2)]
    by_cases e6 : i = 6
    · subst e6; rw [zup_eq]; rfl
    rw [zup_ne (fun z => e6 z.2)]
    by_cases e5 : i = 5
    · subst e5; rw [zup_eq]; rfl
    rw [zup_ne (fun z => e5 z.2)]
    by_cases e4 : i = 4
    · subst e4; rw [zup_eq]; rfl
    rw [zup_ne (fun z => e4 z.2)]
    by_cases e3 : i = 3
    · subst e3; rw [zup_eq]; rfl
    rw [zup_ne (fun z => e3 z.2)]
    rw [g1 i]
    congr 1
    unfold zu0
    by_cases h3 : i < 3
    · rw [if_pos h3]
    rw [if_neg h3]
    by_cases h7 : i < 7
    · omega
    rw [if_neg h7]
    by_cases h9 : i < 9
    · rw [if_pos h9]
    rw [if_neg h9]
    by_cases h17 : i < 17
    · have : i = 15 := by omega
      subst this; rfl
    rw [if_neg h17]
  refine x_vret dX7_init_195 ⟨fun j => if j = 0 then a else if j = 1 then q1 else if j = 2 then q2 else if j = 3 then q3 else if j = 4 then q4 else if j = 5 then q5 else if j = 6 then q6 else q7, rfl, fun j hj => ?_, fun i j hi hj hE => ?_, fun b hb => ?_, fun k hk hr => ?_, fun k hk hr => ?_, fun i hi => vv i, fun j i h2 h6 hi => ?_, fun i hi => ?_, fun i hi => ?_⟩
  · rcases (by omega : j = 0 ∨ j = 1 ∨ j = 2 ∨ j = 3 ∨ j = 4 ∨ j = 5 ∨ j = 6 ∨ j = 7) with rfl | rfl | rfl | rfl | rfl | rfl | rfl | rfl
    · exact ⟨ham7, has7, fun z => absurd rfl z⟩
    · exact ⟨by simp, s1, fun _ z => hq1 (by have z2 : q1 ∈ L := z; simp [z2])⟩
    · exact ⟨by simp, s2, fun _ z => hq2 (by have z2 : q2 ∈ L := z; simp [z2])⟩
    · exact ⟨by simp, s3, fun _ z => hq3 (by have z2 : q3 ∈ L := z; simp [z2])⟩
    · exact ⟨by simp, s4, fun _ z => hq4 (by have z2 : q4 ∈ L := z; simp [z2])⟩
    · exact ⟨by simp, s5, fun _ z => hq5 (by have z2 : q5 ∈ L := z; simp [z2])⟩
    · exact ⟨by simp, s6, fun _ z => hq6 (by have z2 : q6 ∈ L := z; simp [z2])⟩
    · exact ⟨by simp, s7, fun _ z => hq7 (by have z2 : q7 ∈ L := z; simp [z2])⟩
  · rcases (by omega : i = 0 ∨ i = 1 ∨ i = 2 ∨ i = 3 ∨ i = 4 ∨ i = 5 ∨ i = 6 ∨ i = 7) with rfl | rfl | rfl | rfl | rfl | rfl | rfl | rfl <;> rcases (by omega : j = 0 ∨ j = 1 ∨ j = 2 ∨ j = 3 ∨ j = 4 ∨ j = 5 ∨ j = 6 ∨ j = 7) with rfl | rfl | rfl | rfl | rfl | rfl | rfl | rfl <;> first | rfl | (exfalso; revert hE; simp [na1, na2, na3, na4, na5, na6, na7, Ne.symm na1, Ne.symm na2, Ne.symm na3, Ne.symm na4, Ne.symm na5, Ne.symm na6, Ne.symm na7, n12, n13, n23, n14, n24, n34, n15, n25, n35, n45, n16, n26, n36, n46, n56, n17, n27, n37, n47, n57, n67, Ne.symm n12, Ne.symm n13, Ne.symm n23, Ne.symm n14, Ne.symm n24, Ne.symm n34, Ne.symm n15, Ne.symm n25, Ne.symm n35, Ne.symm n45, Ne.symm n16, Ne.symm n26, Ne.symm n36, Ne.symm n46, Ne.symm n56, Ne.symm n17, Ne.symm n27, Ne.symm n37, Ne.symm n47, Ne.symm n57, Ne.symm n67])
  · have hbq : b ≠ q1 ∧ b ≠ q2 ∧ b ≠ q3 ∧ b ≠ q4 ∧ b ≠ q5 ∧ b ≠ q6 ∧ b ≠ q7 := ⟨fun z => hq1 (by rw [← z]; simp [hb]), fun z => hq2 (by rw [← z]; simp [hb]), fun z => hq3 (by rw [← z]; simp [hb]), fun z => hq4 (by rw [← z]; simp [hb]), fun z => hq5 (by rw [← z]; simp [hb]), fun z => hq6 (by rw [← z]; simp [hb]), fun z => hq7 (by rw [← z]; simp [hb])⟩
    obtain ⟨b1, b2, b3, b4, b5, b6, b7⟩ := hbq
    refine ⟨by simp [hb], by simp [shU, b1, b2, b3, b4, b5, b6, b7], fun hba => ?_⟩
    funext i; rw [oo b i b1]; exact congrFun (gL b hb hba) i
  · show (zup (zup (zup (zup (zup (zup (zup (zup (zup (zup (zup mX q1 3 (.int (nI 3))) q1 4 (.int (nI 10))) q1 5 (.int (nI 20))) q1 6 (.int (nI 500))) q1 9 (.int (nI 30))) q1 10 (.int (nI 10))) q1 11 (.int (nI 14))) q1 12 (.int (nI 30))) q1 13 (.int (nI 7))) q1 14 (.int (nI 60))) q1 16 (.int (nI 100))) a k = _
    rw [oo a k na1, g0 k hk]
    rcases (by omega : k = 0 ∨ k = 1 ∨ k = 2 ∨ k = 3 ∨ k = 4 ∨ k = 5 ∨ k = 6 ∨ k = 7 ∨ k = 8 ∨ k = 9 ∨ k = 10 ∨ k = 11 ∨ k = 12 ∨ k = 13 ∨ k = 14) with rfl | rfl | rfl | rfl | rfl | rfl | rfl | rfl | rfl | rfl | rfl | rfl | rfl | rfl | rfl <;> first | rfl | exact absurd hr (by decide)
  · show (zup (zup (zup (zup (zup (zup (zup (zup (zup (zup (zup mX q1 3 (.int (nI 3))) q1 4 (.int (nI 10))) q1 5 (.int (nI 20))) q1 6 (.int (nI 500))) q1 9 (.int (nI 30))) q1 10 (.int (nI 10))) q1 11 (.int (nI 14))) q1 12 (.int (nI 30))) q1 13 (.int (nI 7))) q1 14 (.int (nI 60))) q1 16 (.int (nI 100))) a k = _
    rw [oo a k na1, g0 k hk]
    rcases (by omega : k = 0 ∨ k = 1 ∨ k = 2 ∨ k = 3 ∨ k = 4 ∨ k = 5 ∨ k = 6 ∨ k = 7 ∨ k = 8 ∨ k = 9 ∨ k = 10 ∨ k = 11 ∨ k = 12 ∨ k = 13 ∨ k = 14) with rfl | rfl | rfl | rfl | rfl | rfl | rfl | rfl | rfl | rfl | rfl | rfl | rfl | rfl | rfl <;> first | exact absurd hr (by decide) | exact (hm _ hk).trans rfl
  · rcases (by omega : j = 2 ∨ j = 3 ∨ j = 4 ∨ j = 5) with rfl | rfl | rfl | rfl
    · exact (oo q2 i (Ne.symm n12)).trans (g2 i)
    · exact (oo q3 i (Ne.symm n13)).trans (g3 i)
    · exact (oo q4 i (Ne.symm n14)).trans (g4 i)
    · exact (oo q5 i (Ne.symm n15)).trans (g5 i)
  · exact (oo q6 i (Ne.symm n16)).trans (g6 i hi)
  · exact (oo q7 i (Ne.symm n17)).trans (g7 i hi)
