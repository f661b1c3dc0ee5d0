set_option maxRecDepth 4000 in
theorem l_X5_init3 {l : Launch} {G0 : zG} {τ : Nat → Nat} {sh : Nat → Nat × Nat} {L : List Nat} {mm : zM} {a : Nat} : ∀ i, i ≤ 10 → ∀ (B : Nat → Nat) (sh' : Nat → Nat × Nat) (L' : List Nat) (mm' : zM), B 0 = a → zPS L sh mm (dD 10 60 i) (dE 10 60 i) B sh' L' mm' → zX l G0 τ (yX5_init, cX5_init, 2, none) (zRX 2 97 762) (fun me => me.name = yX5_init.name) (fun below args s => MQ below (zQX G0 (zAX L s.heap.size) (fun sh' L' mm' => ∃ B, B 0 = a ∧ zPS L sh mm (dD 10 60 10) (dE 10 60 10) B sh' L' mm')) args s 97 762 (zAX L s.heap.size)) (fun s => zAX L s.heap.size) 142 [some (.ref a), some (.int (nI i))] [] sh' L' mm' (87 + 1 * i) (722 + 4 * i) := by
  refine z_loop (10) (fun i hi ih B sh' L' mm' hB0 h => ?_)
  have ha : a ∈ L' := hB0 ▸ (h.1 0 (by unfold dD; omega)).1
  have hsh : sh' a = (5, 12) := hB0 ▸ (h.1 0 (by unfold dD; omega)).2.1
  have hb : B 7 ∈ L' := (h.1 7 (by unfold dD; omega)).1
  have hbs : sh' (B 7) = (11, 10) := (h.1 7 (by unfold dD; omega)).2.1
  have hv : mm' a 11 = .ref (B 7) := hB0 ▸ ((h.2.2.1 0 11 (Or.inl ⟨by unfold dD; omega, by decide, by decide, by decide, by decide⟩)).2.2)
  refine x_iload_n 1 rfl rfl dX5_init_142 ?_
  refine x_aload_n 0 rfl rfl dX5_init_143 ?_
  refine x_get (ci := 5) (k := 11) zin5 rfl (by decide) (by decide) rfl rfl zf_X5_52 ha hsh hv dX5_init_144 ?_
  refine x_alen (t0 := 3) (nI 10) hb hbs (by decide) rfl rfl dX5_init_147 ?_
  refine x_icmp_ge 170 dX5_init_148 rfl (fun cT => ?_) (fun cF => ?_)
  · have e : i = 10 := by have := (nI_leI (by omega) (by omega)).mp cT; omega
    subst e
    exact x_vret dX5_init_170 ⟨B, hB0, h⟩
  · have hlt : i < 10 := Nat.lt_of_not_le (fun z => cF ((nI_leI (by omega) (by omega)).mpr z))
    refine x_aload_n 0 rfl rfl dX5_init_151 ?_
    refine x_get (ci := 5) (k := 11) zin5 rfl (by decide) (by decide) rfl rfl zf_X5_52 ha hsh hv dX5_init_152 ?_
    refine x_iload_n 1 rfl rfl dX5_init_155 ?_
    refine x_new (ci := 1) zin1 tyX1_ok rfl (by decide) rfl zc_X5_50 zi_X1 zini_X1 (by show _ ≤ 97; omega) (by show _ ≤ 762; omega) dX5_init_156 (fun a1 h1 => ?_)
    refine x_dup dX5_init_159 rfl ?_
    refine x_call0N zmi_X1 c_X1_init rfl zl_X5_60 ⟨by decide, by decide⟩ ⟨by show _ ≤ 97; omega, by show _ ≤ 762; omega⟩ (Nat.le_of_ble_eq_true rfl) dX5_init_160 (fun sh2 L2 mm2 hq hN => ?_)
    obtain ⟨rfl, rfl, rfl⟩ := hq
    have n1 : B 7 ≠ a1 := fun z => h1 (z ▸ hb)
    refine x_aast (t0 := 3) (ci := 1) (List.mem_append_left _ hb) ((shU_ne n1).trans hbs) (by decide) rfl (List.mem_append_right _ (List.mem_singleton.mpr rfl)) shU_eq (by decide) rfl rfl hlt (by decide) dX5_init_163 ?_
    refine x_iinc (v := nI (i + 1)) 1 rfl (by rw [show Int32.ofInt 1 = nI 1 from rfl, nI_add]) rfl dX5_init_164 ?_
    refine x_goto 142 dX5_init_167 rfl ?_
    obtain ⟨B', hB', h'⟩ := h.evnt hlt hB0 h1
    have k := ih hlt B' _ _ _ hB' h'
    rw [show 87 + 1 * (i + 1) = 87 + 1 * i + 1 + 0 by omega, show 722 + 4 * (i + 1) = 722 + 4 * i + 4 + 0 by omega] at k
    exact k
set_option maxRecDepth 4000 in
theorem l_X5_init2 {l : Launch} {G0 : zG} {τ : Nat → Nat} {sh : Nat → Nat × Nat} {L : List Nat} {mm : zM} {a : Nat} : ∀ i, i ≤ 60 → ∀ (B : Nat → Nat) (sh' : Nat → Nat × Nat) (L' : List Nat) (mm' : zM), B 0 = a → zPS L sh mm (dD 10 i 0) (dE 10 i 0) B sh' L' mm' → zX l G0 τ (yX5_init, cX5_init, 2, none) (zRX 2 97 762) (fun me => me.name = yX5_init.name) (fun below args s => MQ below (zQX G0 (zAX L s.heap.size) (fun sh' L' mm' => ∃ B, B 0 = a ∧ zPS L sh mm (dD 10 60 10) (dE 10 60 10) B sh' L' mm')) args s 97 762 (zAX L s.heap.size)) (fun s => zAX L s.heap.size) 111 [some (.ref a), some (.int (nI i))] [] sh' L' mm' (27 + 1 * i) (242 + 8 * i) := by
  refine z_loop (60) (fun i hi ih B sh' L' mm' hB0 h => ?_)
  have ha : a ∈ L' := hB0 ▸ (h.1 0 (by unfold dD; omega)).1
  have hsh : sh' a = (5, 12) := hB0 ▸ (h.1 0 (by unfold dD; omega)).2.1
  have hb : B 6 ∈ L' := (h.1 6 (by unfold dD; omega)).1
  have hbs : sh' (B 6) = (12, 60) := (h.1 6 (by unfold dD; omega)).2.1
  have hv : mm' a 7 = .ref (B 6) := hB0 ▸ ((h.2.2.1 0 7 (Or.inl ⟨by unfold dD; omega, by decide, by decide, by decide, by decide⟩)).2.2)
  refine x_iload_n 1 rfl rfl dX5_init_111 ?_
  refine x_aload_n 0 rfl rfl dX5_init_112 ?_
  refine x_get (ci := 5) (k := 7) zin5 rfl (by decide) (by decide) rfl rfl zf_X5_43 ha hsh hv dX5_init_113 ?_
  refine x_alen (t0 := 4) (nI 60) hb hbs (by decide) rfl rfl dX5_init_116 ?_
  refine x_icmp_ge 140 dX5_init_117 rfl (fun cT => ?_) (fun cF => ?_)
  · have e : i = 60 := by have := (nI_leI (by omega) (by omega)).mp cT; omega
    subst e
    refine x_iconst (nI 0) dX5_init_140 rfl ?_
    refine x_istore_n 1 rfl (Nat.le_of_ble_eq_true rfl) rfl dX5_init_141 ?_
    exact l_X5_init3 0 (by omega) B _ _ _ hB0 h
  · have hlt : i < 60 := Nat.lt_of_not_le (fun z => cF ((nI_leI (by omega) (by omega)).mpr z))
    refine x_aload_n 0 rfl rfl dX5_init_120 ?_
    refine x_get (ci := 5) (k := 7) zin5 rfl (by decide) (by decide) rfl rfl zf_X5_43 ha hsh hv dX5_init_121 ?_
    refine x_iload_n 1 rfl rfl dX5_init_124 ?_
    refine x_new (ci := 4) zin4 tyX4_ok rfl (by decide) rfl zc_X5_41 zi_X4 zini_X4 (by show _ ≤ 97; omega) (by show _ ≤ 762; omega) dX5_init_125 (fun a1 h1 => ?_)
    refine x_dup dX5_init_128 rfl ?_
    refine x_iload_n 1 rfl rfl dX5_init_129 ?_
    refine x_call1 zmi_X4 (c_X4_init (nI i) (List.mem_append_right _ (List.mem_singleton.mpr rfl)) shU_eq) rfl zl_X5_59 ⟨by decide, by decide⟩ ⟨by show _ ≤ 97; omega, by show _ ≤ 762; omega⟩ (Nat.le_of_ble_eq_true rfl) dX5_init_130 (fun sh2 L2 mm2 hq hN => ?_)
    obtain ⟨rfl, rfl, rfl⟩ := hq
    have n1 : B 6 ≠ a1 := fun z => h1 (z ▸ hb)
    refine x_aast (t0 := 4) (ci := 4) (List.mem_append_left _ hb) ((shU_ne n1).trans hbs) (by decide) rfl (List.mem_append_right _ (List.mem_singleton.mpr rfl)) shU_eq (by decide) rfl rfl hlt (by decide) dX5_init_133 ?_
    refine x_iinc (v := nI (i + 1)) 1 rfl (by rw [show Int32.ofInt 1 = nI 1 from rfl, nI_add]) rfl dX5_init_134 ?_
    refine x_goto 111 dX5_init_137 rfl ?_
    obtain ⟨B', hB', h'⟩ := h.rght hlt hB0 h1
    have k := ih hlt B' _ _ _ hB' h'
    rw [show 27 + 1 * (i + 1) = 27 + 1 * i + 1 + 0 by omega, show 242 + 8 * (i + 1) = 242 + 8 * i + 8 + 0 by omega] at k
    exact k
set_option maxRecDepth 4000 in
theorem l_X5_init1 {l : Launch} {G0 : zG} {τ : Nat → Nat} {sh : Nat → Nat × Nat} {L : List Nat} {mm : zM} {a : Nat} : ∀ i, i ≤ 10 → ∀ (B : Nat → Nat) (sh' : Nat → Nat × Nat) (L' : List Nat) (mm' : zM), B 0 = a → zPS L sh mm (dD i 0 0) (dE i 0 0) B sh' L' mm' → zX l G0 τ (yX5_init, cX5_init, 2, none) (zRX 2 97 762) (fun me => me.name = yX5_init.name) (fun below args s => MQ below (zQX G0 (zAX L s.heap.size) (fun sh' L' mm' => ∃ B, B 0 = a ∧ zPS L sh mm (dD 10 60 10) (dE 10 60 10) B sh' L' mm')) args s 97 762 (zAX L s.heap.size)) (fun s => zAX L s.heap.size) 80 [some (.ref a), some (.int (nI i))] [] sh' L' mm' (7 + 2 * i) (102 + 14 * i) := by
  refine z_loop (10) (fun i hi ih B sh' L' mm' hB0 h => ?_)
  have ha : a ∈ L' := hB0 ▸ (h.1 0 (by unfold dD; omega)).1
  have hsh : sh' a = (5, 12) := hB0 ▸ (h.1 0 (by unfold dD; omega)).2.1
  have hb : B 5 ∈ L' := (h.1 5 (by unfold dD; omega)).1
  have hbs : sh' (B 5) = (10, 10) := (h.1 5 (by unfold dD; omega)).2.1
  have hv : mm' a 5 = .ref (B 5) := hB0 ▸ ((h.2.2.1 0 5 (Or.inl ⟨by unfold dD; omega, by decide, by decide, by decide, by decide⟩)).2.2)
  refine x_iload_n 1 rfl rfl dX5_init_80 ?_
  refine x_aload_n 0 rfl rfl dX5_init_81 ?_
  refine x_get (ci := 5) (k := 5) zin5 rfl (by decide) (by decide) rfl rfl zf_X5_37 ha hsh hv dX5_init_82 ?_
  refine x_alen (t0 := 2) (nI 10) hb hbs (by decide) rfl rfl dX5_init_85 ?_
  refine x_icmp_ge 109 dX5_init_86 rfl (fun cT => ?_) (fun cF => ?_)
  · have e : i = 10 := by have := (nI_leI (by omega) (by omega)).mp cT; omega
    subst e
    refine x_iconst (nI 0) dX5_init_109 rfl ?_
    refine x_istore_n 1 rfl (Nat.le_of_ble_eq_true rfl) rfl dX5_init_110 ?_
    exact l_X5_init2 0 (by omega) B _ _ _ hB0 h
  · have hlt : i < 10 := Nat.lt_of_not_le (fun z => cF ((nI_leI (by omega) (by omega)).mpr z))
    refine x_aload_n 0 rfl rfl dX5_init_89 ?_
    refine x_get (ci := 5) (k := 5) zin5 rfl (by decide) (by decide) rfl rfl zf_X5_37 ha hsh hv dX5_init_90 ?_
    refine x_iload_n 1 rfl rfl dX5_init_93 ?_
    refine x_new (ci := 0) zin0 tyX0_ok rfl (by decide) rfl zc_X5_35 zi_X0 zini_X0 (by show _ ≤ 97; omega) (by show _ ≤ 762; omega) dX5_init_94 (fun a1 h1 => ?_)
    refine x_dup dX5_init_97 rfl ?_
    refine x_iload_n 1 rfl rfl dX5_init_98 ?_
    refine x_call1 zmi_X0 (c_X0_init (nI i) (List.mem_append_right _ (List.mem_singleton.mpr rfl)) shU_eq) rfl zl_X5_56 ⟨by decide, by decide⟩ ⟨by show _ ≤ 97; omega, by show _ ≤ 762; omega⟩ (Nat.le_of_ble_eq_true rfl) dX5_init_99 (fun sh2 L2 mm2 hq hN => ?_)
    obtain ⟨q, hq, rfl, rfl, rfl⟩ := hq
    have n1 : B 5 ≠ a1 := fun z => h1 (z ▸ hb)
    have n2 : B 5 ≠ q := fun z => hq (z ▸ List.mem_append_left _ hb)
    have n3 : a1 ≠ q := fun z => hq (z ▸ List.mem_append_right _ (List.mem_singleton.mpr rfl))
    refine x_aast (t0 := 2) (ci := 0) (List.mem_append_left _ (List.mem_append_left _ hb)) ((shU_ne n2).trans ((shU_ne n1).trans hbs)) (by decide) rfl (List.mem_append_left _ (List.mem_append_right _ (List.mem_singleton.mpr rfl))) ((shU_ne n3).trans shU_eq) (by decide) rfl rfl hlt (by decide) dX5_init_102 ?_
    refine x_iinc (v := nI (i + 1)) 1 rfl (by rw [show Int32.ofInt 1 = nI 1 from rfl, nI_add]) rfl dX5_init_103 ?_
    refine x_goto 80 dX5_init_106 rfl ?_
    obtain ⟨B', hB', h'⟩ := h.date hlt hB0 h1 hq
    have k := ih hlt B' _ _ _ hB' h'
    rw [show 7 + 2 * (i + 1) = 7 + 2 * i + 1 + 1 by omega, show 102 + 14 * (i + 1) = 102 + 14 * i + 8 + 6 by omega] at k
    exact k
set_option maxRecDepth 8000 in
theorem c_X5_init {l : Launch} {G0 : zG} {τ : Nat → Nat} {sh : Nat → Nat × Nat} {L : List Nat} {mm : zM} {a : Nat} (ha : a ∈ L) (hsh : sh a = (5, 12)) (hm : ∀ k, k < 12 → mm a k = defaultValue (tyX5 k)) : zSmX l G0 τ yX5_init cX5_init 2 2 97 762 [.ref a] sh L mm (fun sh' L' mm' => ∃ B, B 0 = a ∧ zPS L sh mm (dD 10 60 10) (dE 10 60 10) B sh' L' mm') := by
  refine x_met [some (.ref a), none] rfl (zc1 (by rfl)) (Nat.le_of_ble_eq_true rfl) rfl ?_
  have has := hsh
  have ham := ha
  obtain ⟨B, hB0, hp⟩ : ∃ B : Nat → Nat, B 0 = a ∧ zPS L sh mm (fun j => j = 0) (fun j k => j = 0 ∧ (k = 0 ∨ k = 4 ∨ k = 6 ∨ k = 9 ∨ k = 10)) B sh L mm := by
    refine ⟨fun _ => a, rfl, fun j hj => ?_, fun i j hi hj _ => hi.trans hj.symm, fun j k hE => ?_, fun b hb => ⟨hb, rfl, fun _ => rfl⟩, rfl, ha⟩
    · subst hj; exact ⟨ha, hsh, fun z => absurd rfl z⟩
    · obtain ⟨rfl, hk⟩ := hE
      rcases hk with rfl | rfl | rfl | rfl | rfl
      · exact ⟨rfl, fun c hc => absurd hc (vTg_no (by decide) rfl c), (hm 0 (by decide)).trans rfl⟩
      · exact ⟨rfl, fun c hc => absurd hc (vTg_no (by decide) rfl c), (hm 4 (by decide)).trans rfl⟩
      · exact ⟨rfl, fun c hc => absurd hc (vTg_no (by decide) rfl c), (hm 6 (by decide)).trans rfl⟩
      · exact ⟨rfl, fun c hc => absurd hc (vTg_no (by decide) rfl c), (hm 9 (by decide)).trans rfl⟩
      · exact ⟨rfl, fun c hc => absurd hc (vTg_no (by decide) rfl c), (hm 10 (by decide)).trans rfl⟩
  refine x_aload_n 0 rfl rfl dX5_init_0 ?_
  refine x_objInit rfl zl_X5_3 (by decide) (by decide) (by decide) dX5_init_1 ?_
  refine x_aload_n 0 rfl rfl dX5_init_4 ?_
  refine x_gets (t := τ 0) (fun _ _ _ h => h.2.1) rfl zf_X5_9 dX5_init_5 ?_
  refine x_clone (fun _ _ _ h => h.2.1) rfl (by decide) (by decide) (Nat.le_of_ble_eq_true rfl) (by decide) (by decide) dX5_init_8 (fun q1 hq1 => ?_)
  refine x_castI rfl zc_X5_14 (List.mem_append_right _ (List.mem_singleton.mpr rfl)) shU_eq dX5_init_11 ?_
  refine x_putF (ci := 5) (k := 1) (fun _ h => h) zin5 tyX5_ok nmX5 rfl (by decide) (by decide) rfl rfl rfl rfl rfl rfl rfl zf_X5_18 (List.mem_append_left _ ham) ((shU_ne (fun z : a = q1 => hq1 (z ▸ ham))).trans has) dX5_init_14 ?_
  obtain ⟨B, hB0, hp⟩ := hp.addput hB0 hq1 (j := 1) (k := 1) (x := (9, 4)) (f := fun j => .int (zF0 j)) (by simp) rfl (e := fun k => k < 4) (fun k hk => ⟨vTg_no (by decide) rfl, by rw [vT_ix (zIx_1 hk) (by decide) rfl]; rcases (by omega : k = 0 ∨ k = 1 ∨ k = 2 ∨ k = 3) with rfl | rfl | rfl | rfl <;> rfl⟩) rfl
  have has := (shU_ne (x := (9, 4)) (fun z : a = q1 => hq1 (z ▸ ham))).trans has
  have ham := List.mem_append_left [q1] ham
  refine x_aload_n 0 rfl rfl dX5_init_17 ?_
  refine x_gets (t := τ 1) (fun _ _ _ h => h.2.2.1) rfl zf_X5_23 dX5_init_18 ?_
  refine x_clone (fun _ _ _ h => h.2.2.1) rfl (by decide) (by decide) (Nat.le_of_ble_eq_true rfl) (by decide) (by decide) dX5_init_21 (fun q2 hq2 => ?_)
  refine x_castI rfl zc_X5_14 (List.mem_append_right _ (List.mem_singleton.mpr rfl)) shU_eq dX5_init_24 ?_
  refine x_putF (ci := 5) (k := 2) (fun _ h => h) zin5 tyX5_ok nmX5 rfl (by decide) (by decide) rfl rfl rfl rfl rfl rfl rfl zf_X5_26 (List.mem_append_left _ ham) ((shU_ne (fun z : a = q2 => hq2 (z ▸ ham))).trans has) dX5_init_27 ?_
  obtain ⟨B, hB0, hp⟩ := hp.addput hB0 hq2 (j := 2) (k := 2) (x := (9, 4)) (f := fun j => .int (zF1 j)) (by simp) rfl (e := fun k => k < 4) (fun k hk => ⟨vTg_no (by decide) rfl, by rw [vT_ix (zIx_2 hk) (by decide) rfl]; rcases (by omega : k = 0 ∨ k = 1 ∨ k = 2 ∨ k = 3) with rfl | rfl | rfl | rfl <;> rfl⟩) rfl
  have has := (shU_ne (x := (9, 4)) (fun z : a = q2 => hq2 (z ▸ ham))).trans has
  have ham := List.mem_append_left [q2] ham
  refine x_aload_n 0 rfl rfl dX5_init_30 ?_
  refine x_gets (t := τ 2) (fun _ _ _ h => h.2.2.2.1) rfl zf_X5_29 dX5_init_31 ?_
  refine x_clone (fun _ _ _ h => h.2.2.2.1) rfl (by decide) (by decide) (Nat.le_of_ble_eq_true rfl) (by decide) (by decide) dX5_init_34 (fun q3 hq3 => ?_)
  refine x_castI rfl zc_X5_14 (List.mem_append_right _ (List.mem_singleton.mpr rfl)) shU_eq dX5_init_37 ?_
  refine x_putF (ci := 5) (k := 3) (fun _ h => h) zin5 tyX5_ok nmX5 rfl (by decide) (by decide) rfl rfl rfl rfl rfl rfl rfl zf_X5_32 (List.mem_append_left _ ham) ((shU_ne (fun z : a = q3 => hq3 (z ▸ ham))).trans has) dX5_init_40 ?_
  obtain ⟨B, hB0, hp⟩ := hp.addput hB0 hq3 (j := 3) (k := 3) (x := (9, 4)) (f := fun j => .int (zF2 j)) (by simp) rfl (e := fun k => k < 4) (fun k hk => ⟨vTg_no (by decide) rfl, by rw [vT_ix (zIx_3 hk) (by decide) rfl]; rcases (by omega : k = 0 ∨ k = 1 ∨ k = 2 ∨ k = 3) with rfl | rfl | rfl | rfl <;> rfl⟩) rfl
  have has := (shU_ne (x := (9, 4)) (fun z : a = q3 => hq3 (z ▸ ham))).trans has
  have ham := List.mem_append_left [q3] ham
  refine x_aload_n 0 rfl rfl dX5_init_43 ?_
  refine x_bipush (nI 10) dX5_init_44 rfl ?_
  refine x_newQ (N := 10) (k := 10) (t0 := 2) rfl (by decide) (by decide) rfl rfl zc_X5_35 (fun _ _ _ h => h.2.2.2.2.2.1) (by decide) (by decide) dX5_init_46 (fun q4 hq4 => ?_)
  refine x_putF (ci := 5) (k := 5) (fun _ h => h) zin5 tyX5_ok nmX5 rfl (by decide) (by decide) rfl rfl rfl rfl rfl rfl rfl zf_X5_37 (List.mem_append_left _ ham) ((shU_ne (fun z : a = q4 => hq4 (z ▸ ham))).trans has) dX5_init_49 ?_
  obtain ⟨B, hB0, hp⟩ := hp.addput hB0 hq4 (j := 5) (k := 5) (x := (10, 10)) (f := fun _ => .null) (by simp) rfl (e := fun _ => False) (fun k hk => absurd hk id) rfl
  have has := (shU_ne (x := (10, 10)) (fun z : a = q4 => hq4 (z ▸ ham))).trans has
  have ham := List.mem_append_left [q4] ham
  refine x_aload_n 0 rfl rfl dX5_init_52 ?_
  refine x_bipush (nI 60) dX5_init_53 rfl ?_
  refine x_newQ (N := 60) (k := 12) (t0 := 4) rfl (by decide) (by decide) rfl rfl zc_X5_41 (fun _ _ _ h => h.2.2.2.2.2.2.2.1) (by decide) (by decide) dX5_init_55 (fun q5 hq5 => ?_)
  refine x_putF (ci := 5) (k := 7) (fun _ h => h) zin5 tyX5_ok nmX5 rfl (by decide) (by decide) rfl rfl rfl rfl rfl rfl rfl zf_X5_43 (List.mem_append_left _ ham) ((shU_ne (fun z : a = q5 => hq5 (z ▸ ham))).trans has) dX5_init_58 ?_
  obtain ⟨B, hB0, hp⟩ := hp.addput hB0 hq5 (j := 6) (k := 7) (x := (12, 60)) (f := fun _ => .null) (by simp) rfl (e := fun _ => False) (fun k hk => absurd hk id) rfl
  have has := (shU_ne (x := (12, 60)) (fun z : a = q5 => hq5 (z ▸ ham))).trans has
  have ham := List.mem_append_left [q5] ham
  refine x_aload_n 0 rfl rfl dX5_init_61 ?_
  refine x_bipush (nI 10) dX5_init_62 rfl ?_
  refine x_newI (N := 10) rfl (by decide) (by decide) (by decide) dX5_init_64 (fun q6 hq6 => ?_)
  refine x_putF (ci := 5) (k := 8) (fun _ h => h) zin5 tyX5_ok nmX5 rfl (by decide) (by decide) rfl rfl rfl rfl rfl rfl rfl zf_X5_47 (List.mem_append_left _ ham) ((shU_ne (fun z : a = q6 => hq6 (z ▸ ham))).trans has) dX5_init_66 ?_
  obtain ⟨B, hB0, hp⟩ := hp.addput hB0 hq6 (j := 4) (k := 8) (x := (9, 10)) (f := fun _ => .int 0) (by simp) rfl (e := fun k => k < 10) (fun k hk => ⟨vTg_no (by decide) rfl, by rw [vT_ix (zIx_4 hk) (by decide) rfl]; rw [show zu0 (17 + k) = 0 by unfold zu0; rw [if_neg (by omega), if_neg (by omega), if_neg (by omega), if_neg (by omega)]]⟩) rfl
  have has := (shU_ne (x := (9, 10)) (fun z : a = q6 => hq6 (z ▸ ham))).trans has
  have ham := List.mem_append_left [q6] ham
  refine x_aload_n 0 rfl rfl dX5_init_69 ?_
  refine x_bipush (nI 10) dX5_init_70 rfl ?_
  refine x_newQ (N := 10) (k := 11) (t0 := 3) rfl (by decide) (by decide) rfl rfl zc_X5_50 (fun _ _ _ h => h.2.2.2.2.2.2.1) (by decide) (by decide) dX5_init_72 (fun q7 hq7 => ?_)
  refine x_putF (ci := 5) (k := 11) (fun _ h => h) zin5 tyX5_ok nmX5 rfl (by decide) (by decide) rfl rfl rfl rfl rfl rfl rfl zf_X5_52 (List.mem_append_left _ ham) ((shU_ne (fun z : a = q7 => hq7 (z ▸ ham))).trans has) dX5_init_75 ?_
  obtain ⟨B, hB0, hp⟩ := hp.addput hB0 hq7 (j := 7) (k := 11) (x := (11, 10)) (f := fun _ => .null) (by simp) rfl (e := fun _ => False) (fun k hk => absurd hk id) rfl
  have has := (shU_ne (x := (11, 10)) (fun z : a = q7 => hq7 (z ▸ ham))).trans has
  have ham := List.mem_append_left [q7] ham
  refine x_iconst (nI 0) dX5_init_78 rfl ?_
  refine x_istore_n 1 rfl (Nat.le_of_ble_eq_true rfl) rfl dX5_init_79 ?_
  refine l_X5_init1 0 (by omega) B _ _ _ hB0 (hp.of (fun j => by unfold dD; omega) (fun j k hE => ?_))
  rcases hE with ⟨hD, hk, n5, n6, n7⟩ | ⟨rfl, hk⟩ | ⟨rfl, hk⟩ | ⟨rfl, hk⟩
  · unfold dD at hD
    rcases (by omega : j = 0 ∨ j = 1 ∨ j = 2 ∨ j = 3 ∨ j = 4) with rfl | rfl | rfl | rfl | rfl
    · have hk : k < 12 := hk
      rcases (by omega : k = 0 ∨ k = 1 ∨ k = 2 ∨ k = 3 ∨ k = 4 ∨ k = 5 ∨ k = 6 ∨ k = 7 ∨ k = 8 ∨ k = 9 ∨ k = 10 ∨ k = 11) with rfl | rfl | rfl | rfl | rfl | rfl | rfl | rfl | rfl | rfl | rfl | rfl <;> simp
    · have hk : k < 4 := hk
      simp [hk]
    · have hk : k < 4 := hk
      simp [hk]
    · have hk : k < 4 := hk
      simp [hk]
    · have hk : k < 10 := hk
      simp [hk]
  · exact absurd hk (by omega)
  · exact absurd hk (by omega)
  · exact absurd hk (by omega)
