/-! what the tables and the start say -/
theorem arr_prim {args : Array Value} {s : State} {ty : FieldType} (hp : ∀ c, va_RA s c ty ↔ s.vm.findClass ("[" ++ ty.toString) = some c) (h : (Cond.arrayClass ty).before args s = true) : ∃ c, ArrOfT s c ty ∧ va_RA s c ty := by
  obtain ⟨c, k, comp, h1, h2, h3⟩ := Cond.arrayClass_spec (args := args) (first := s) (o := none) (s := s) (idx := []) h
  exact ⟨c, fun n z => ⟨fun k h => (by cases h), k, h2, comp, h3⟩, (hp c).mpr h1⟩
theorem arr_obj {args : Array Value} {s : State} {C : String} (h : (Cond.arrayOver (.object C)).before args s = true) : ∃ c, ArrOfT s c (.object C) ∧ va_RA s c (.object C) := by
  obtain ⟨comp, c, k, h1, h2, h3, h4, h5⟩ := Cond.arrayOver_spec (args := args) (first := s) (o := none) (s := s) (idx := []) h
  exact ⟨c, fun n z => ⟨fun k h => (by cases h), k, h3, comp, h4⟩, k, comp, h3, h4, h1, h5⟩
theorem len_small {args : Array Value} {s : State} {t0 : Term} {v : Value} {a : Nat} {cell : Cell} (hv : (Term.length t0).eval args s none [] s = some v) (ht : t0.eval args s none [] s = some (.ref a)) (harr : s.arrayAt? a = some cell) : cell.slots.size < 2 ^ 31 := by
  simp only [Term.eval, ht, harr, Option.bind_eq_bind, Option.bind_some] at hv
  by_cases hlt : cell.slots.size < 2147483648
  · exact hlt
  · simp [hlt] at hv
theorem zFz_of {args : Array Value} {s : State} {nm : String} {f : Nat → Int32} {A : Nat → Prop} (hl : (Cond.laysStatic "RightsDesk" nm "[I").before args s = true) (hini : (Cond.initialized "RightsDesk").before args s = true) (hlen : (Term.length (Term.static "RightsDesk" nm "[I")).eval args s none [] s = some (.int 4)) (hel : ∀ j : Nat, j < 4 → (Term.elem (Term.static "RightsDesk" nm "[I") (.int (Int32.ofNat j))).eval args s none [] s = some (.int (f j))) (hex : (Cond.exactly (Term.static "RightsDesk" nm "[I") "[I").before args s = true) (hA : ∀ a : Nat, a < s.heap.size → ¬ A a) : ∃ t, zFz nm t f A s s.heap := by
  obtain ⟨t, cell, ht, hat, hv⟩ := Term.length_spec hlen
  have hsz : cell.slots.size < 2 ^ 31 := len_small hlen ht hat
  obtain ⟨hcell, hkn, hns, -⟩ := State.arrayAt?_spec hat
  have h4 : cell.slots.size = 4 := (nI_eq hsz (by decide)).mp (show nI cell.slots.size = nI 4 from (Value.int.inj hv).symm)
  obtain ⟨a2, c, cell2, k, q1, q2, q3, q4, q5, q6, -⟩ := Cond.exactly_spec (args := args) (first := s) (o := none) (s := s) (idx := []) hex
  cases ht.symm.trans q1
  cases hcell.symm.trans q3
  refine ⟨t, va_Zof hl hini ht hA, cell, hcell, fun k h => ?_, hkn, by rw [q6]; exact q2, ?_, hA t (Array.getElem?_eq_some_iff.mp hcell).1⟩
  · rw [h] at hns; cases hns
  · apply Array.ext
    · rw [h4]; simp
    · intro j hj1 hj2
      have hj : j < 4 := by rw [h4] at hj1; exact hj1
      obtain ⟨a, i, cell2, g1, g2, g3, g4, g5⟩ := Term.elem_spec (hel j hj)
      cases ht.symm.trans g1
      cases hat.symm.trans g3
      have hi : i = Int32.ofNat j := by
        have e : (Term.int (Int32.ofNat j)).eval args s none [] s = some (.int (Int32.ofNat j)) := rfl
        cases g2.symm.trans e
        rfl
      have hc : i.toNatClampNeg = j := by rw [hi]; exact Int32.toNatClampNeg_ofNat_of_lt (by omega)
      rw [hc] at g5
      have := (Array.getElem?_eq_some_iff.mp g5).2
      rw [this]; simp
theorem four {P : Nat → Prop} (h0 : P 0) (h1 : P 1) (h2 : P 2) (h3 : P 3) : ∀ j, j < 4 → P j := fun j hj => by
  rcases (by omega : j = 0 ∨ j = 1 ∨ j = 2 ∨ j = 3) with rfl | rfl | rfl | rfl <;> assumption
set_option maxRecDepth 20000 in
theorem st_FIRST_NUMBERS {args : Array Value} {s : State} (h : (Jvm.Cond.and given_1 narrow_1).before args s = true) : (Cond.arrayOf (Term.static "RightsDesk" "FIRST_NUMBERS" "[I") .int).before args s = true ∧ (Term.length (Term.static "RightsDesk" "FIRST_NUMBERS" "[I")).eval args s none [] s = some (.int 4) ∧ (∀ j : Nat, j < 4 → (Term.elem (Term.static "RightsDesk" "FIRST_NUMBERS" "[I") (.int (Int32.ofNat j))).eval args s none [] s = some (.int (zF0 j))) ∧ (Cond.exactly (Term.static "RightsDesk" "FIRST_NUMBERS" "[I") "[I").before args s = true := by
  have hs := flat_of_before _ h
  refine ⟨hs _ (by decide +kernel), va_eqt (hs (Cond.eq (.length (Term.static "RightsDesk" "FIRST_NUMBERS" "[I")) (.int 4)) (by decide +kernel)), four ?_ ?_ ?_ ?_, hs _ (by decide +kernel)⟩
  · exact va_eqt (hs (Cond.eq (.elem (Term.static "RightsDesk" "FIRST_NUMBERS" "[I") (.int 0)) (.int 3)) (by decide +kernel))
  · exact va_eqt (hs (Cond.eq (.elem (Term.static "RightsDesk" "FIRST_NUMBERS" "[I") (.int 1)) (.int 10)) (by decide +kernel))
  · exact va_eqt (hs (Cond.eq (.elem (Term.static "RightsDesk" "FIRST_NUMBERS" "[I") (.int 2)) (.int 20)) (by decide +kernel))
  · exact va_eqt (hs (Cond.eq (.elem (Term.static "RightsDesk" "FIRST_NUMBERS" "[I") (.int 3)) (.int 500)) (by decide +kernel))
set_option maxRecDepth 20000 in
theorem st_FIRST_STAGE_DAYS {args : Array Value} {s : State} (h : (Jvm.Cond.and given_1 narrow_1).before args s = true) : (Cond.arrayOf (Term.static "RightsDesk" "FIRST_STAGE_DAYS" "[I") .int).before args s = true ∧ (Term.length (Term.static "RightsDesk" "FIRST_STAGE_DAYS" "[I")).eval args s none [] s = some (.int 4) ∧ (∀ j : Nat, j < 4 → (Term.elem (Term.static "RightsDesk" "FIRST_STAGE_DAYS" "[I") (.int (Int32.ofNat j))).eval args s none [] s = some (.int (zF1 j))) ∧ (Cond.exactly (Term.static "RightsDesk" "FIRST_STAGE_DAYS" "[I") "[I").before args s = true := by
  have hs := flat_of_before _ h
  refine ⟨hs _ (by decide +kernel), va_eqt (hs (Cond.eq (.length (Term.static "RightsDesk" "FIRST_STAGE_DAYS" "[I")) (.int 4)) (by decide +kernel)), four ?_ ?_ ?_ ?_, hs _ (by decide +kernel)⟩
  · exact va_eqt (hs (Cond.eq (.elem (Term.static "RightsDesk" "FIRST_STAGE_DAYS" "[I") (.int 0)) (.int 30)) (by decide +kernel))
  · exact va_eqt (hs (Cond.eq (.elem (Term.static "RightsDesk" "FIRST_STAGE_DAYS" "[I") (.int 1)) (.int 14)) (by decide +kernel))
  · exact va_eqt (hs (Cond.eq (.elem (Term.static "RightsDesk" "FIRST_STAGE_DAYS" "[I") (.int 2)) (.int 7)) (by decide +kernel))
  · exact va_eqt (hs (Cond.eq (.elem (Term.static "RightsDesk" "FIRST_STAGE_DAYS" "[I") (.int 3)) (.int 0)) (by decide +kernel))
set_option maxRecDepth 20000 in
theorem st_FIRST_STAGE_FEES {args : Array Value} {s : State} (h : (Jvm.Cond.and given_1 narrow_1).before args s = true) : (Cond.arrayOf (Term.static "RightsDesk" "FIRST_STAGE_FEES" "[I") .int).before args s = true ∧ (Term.length (Term.static "RightsDesk" "FIRST_STAGE_FEES" "[I")).eval args s none [] s = some (.int 4) ∧ (∀ j : Nat, j < 4 → (Term.elem (Term.static "RightsDesk" "FIRST_STAGE_FEES" "[I") (.int (Int32.ofNat j))).eval args s none [] s = some (.int (zF2 j))) ∧ (Cond.exactly (Term.static "RightsDesk" "FIRST_STAGE_FEES" "[I") "[I").before args s = true := by
  have hs := flat_of_before _ h
  refine ⟨hs _ (by decide +kernel), va_eqt (hs (Cond.eq (.length (Term.static "RightsDesk" "FIRST_STAGE_FEES" "[I")) (.int 4)) (by decide +kernel)), four ?_ ?_ ?_ ?_, hs _ (by decide +kernel)⟩
  · exact va_eqt (hs (Cond.eq (.elem (Term.static "RightsDesk" "FIRST_STAGE_FEES" "[I") (.int 0)) (.int 10)) (by decide +kernel))
  · exact va_eqt (hs (Cond.eq (.elem (Term.static "RightsDesk" "FIRST_STAGE_FEES" "[I") (.int 1)) (.int 30)) (by decide +kernel))
  · exact va_eqt (hs (Cond.eq (.elem (Term.static "RightsDesk" "FIRST_STAGE_FEES" "[I") (.int 2)) (.int 60)) (by decide +kernel))
  · exact va_eqt (hs (Cond.eq (.elem (Term.static "RightsDesk" "FIRST_STAGE_FEES" "[I") (.int 3)) (.int 100)) (by decide +kernel))
set_option maxRecDepth 20000 in
theorem st_LEAST_NUMBERS {args : Array Value} {s : State} (h : (Jvm.Cond.and given_1 narrow_1).before args s = true) : (Cond.arrayOf (Term.static "RightsDesk" "LEAST_NUMBERS" "[I") .int).before args s = true ∧ (Term.length (Term.static "RightsDesk" "LEAST_NUMBERS" "[I")).eval args s none [] s = some (.int 4) ∧ (∀ j : Nat, j < 4 → (Term.elem (Term.static "RightsDesk" "LEAST_NUMBERS" "[I") (.int (Int32.ofNat j))).eval args s none [] s = some (.int (zLow j))) ∧ (Cond.exactly (Term.static "RightsDesk" "LEAST_NUMBERS" "[I") "[I").before args s = true := by
  have hs := flat_of_before _ h
  refine ⟨hs _ (by decide +kernel), va_eqt (hs (Cond.eq (.length (Term.static "RightsDesk" "LEAST_NUMBERS" "[I")) (.int 4)) (by decide +kernel)), four ?_ ?_ ?_ ?_, hs _ (by decide +kernel)⟩
  · exact va_eqt (hs (Cond.eq (.elem (Term.static "RightsDesk" "LEAST_NUMBERS" "[I") (.int 0)) (.int 0)) (by decide +kernel))
  · exact va_eqt (hs (Cond.eq (.elem (Term.static "RightsDesk" "LEAST_NUMBERS" "[I") (.int 1)) (.int 0)) (by decide +kernel))
  · exact va_eqt (hs (Cond.eq (.elem (Term.static "RightsDesk" "LEAST_NUMBERS" "[I") (.int 2)) (.int 1)) (by decide +kernel))
  · exact va_eqt (hs (Cond.eq (.elem (Term.static "RightsDesk" "LEAST_NUMBERS" "[I") (.int 3)) (.int 0)) (by decide +kernel))
set_option maxRecDepth 20000 in
theorem st_MOST_NUMBERS {args : Array Value} {s : State} (h : (Jvm.Cond.and given_1 narrow_1).before args s = true) : (Cond.arrayOf (Term.static "RightsDesk" "MOST_NUMBERS" "[I") .int).before args s = true ∧ (Term.length (Term.static "RightsDesk" "MOST_NUMBERS" "[I")).eval args s none [] s = some (.int 4) ∧ (∀ j : Nat, j < 4 → (Term.elem (Term.static "RightsDesk" "MOST_NUMBERS" "[I") (.int (Int32.ofNat j))).eval args s none [] s = some (.int (zHigh j))) ∧ (Cond.exactly (Term.static "RightsDesk" "MOST_NUMBERS" "[I") "[I").before args s = true := by
  have hs := flat_of_before _ h
  refine ⟨hs _ (by decide +kernel), va_eqt (hs (Cond.eq (.length (Term.static "RightsDesk" "MOST_NUMBERS" "[I")) (.int 4)) (by decide +kernel)), four ?_ ?_ ?_ ?_, hs _ (by decide +kernel)⟩
  · exact va_eqt (hs (Cond.eq (.elem (Term.static "RightsDesk" "MOST_NUMBERS" "[I") (.int 0)) (.int 9)) (by decide +kernel))
  · exact va_eqt (hs (Cond.eq (.elem (Term.static "RightsDesk" "MOST_NUMBERS" "[I") (.int 1)) (.int 50)) (by decide +kernel))
  · exact va_eqt (hs (Cond.eq (.elem (Term.static "RightsDesk" "MOST_NUMBERS" "[I") (.int 2)) (.int 60)) (by decide +kernel))
  · exact va_eqt (hs (Cond.eq (.elem (Term.static "RightsDesk" "MOST_NUMBERS" "[I") (.int 3)) (.int 9999)) (by decide +kernel))
/-- the start: a desk that has just been made -/
theorem lT_start {G0 : zG} {d h q t u : Nat} {sh0 sh1 : Nat → Nat × Nat} {L0 L1 : List Nat} {mm0 mm1 : zM} {Bs : Nat → Nat → Nat} (hd : d ∈ L0) (hd0 : sh0 d = (6, 5)) (hd2 : mm0 d 2 = .int 0) (hK : zKX d sh0 L0 mm0 Bs h q t u sh1 L1 mm1) :
    lT (gx G0 sh1 L1) Bs (zOf d h q t u) zu0 zu0 0 mm1 ∧ (d ∈ L1 ∧ sh1 d = (6, 5)) := by
  obtain ⟨k1, ⟨n1, n2, n3, n4, n5, n6, n7, n8, n9, n10⟩, ⟨s1, s2, s3, s4⟩, k4, ⟨f0, f1, f2, f3, f4⟩, ⟨g0, g1, g2, g3⟩, g4, g5, g6⟩ := hK
  have hO : ∀ k, k < 5 → (zOf d h q t u k ∈ L0 ∨ zOf d h q t u k = h ∨ zOf d h q t u k = q ∨ zOf d h q t u k = t ∨ zOf d h q t u k = u) := fun k hk => by
    rcases (by omega : k = 0 ∨ k = 1 ∨ k = 2 ∨ k = 3 ∨ k = 4) with rfl | rfl | rfl | rfl | rfl
    · exact Or.inl hd
    · exact Or.inr (Or.inl rfl)
    · exact Or.inr (Or.inr (Or.inl rfl))
    · exact Or.inr (Or.inr (Or.inr (Or.inl rfl)))
    · exact Or.inr (Or.inr (Or.inr (Or.inr rfl)))
  have hOL : ∀ k, k < 5 → zOf d h q t u k ∈ L1 := fun k hk => k1.2.2 _ (hO k hk)
  have hOs : ∀ k, k < 5 → sh1 (zOf d h q t u k) = zOsh k := fun k hk => by
    rcases (by omega : k = 0 ∨ k = 1 ∨ k = 2 ∨ k = 3 ∨ k = 4) with rfl | rfl | rfl | rfl | rfl
    · exact (k4 d hd).2.1.trans hd0
    · exact s1
    · exact s2
    · exact s3
    · exact s4
  have hSt : ∀ s, s < 7 → zSt (Bs s) sh1 L1 mm1 := fun s hs => (k1.1 s hs).1
  refine ⟨⟨0, fun _ => zu0, fun _ => 0, ?_, by omega⟩, ⟨hOL 0 (by decide), hOs 0 (by decide)⟩⟩
  refine ⟨fun i => 2 + i, fun _ => zu0, 0, 0, 0, 0, ⟨fun s hs => (hSt s hs).cv, ⟨fun s r i j hs hr hne hi hj => k1.2.1 s r i j hs hr hne hi hj, fun k hk => ⟨hOL k hk, hOs k hk⟩, fun i k hi hk e => ?_, fun k s j hk hs hj z => (k1.1 s hs).2 j hj (z ▸ hO k hk)⟩, ⟨f0, f1, f2.trans hd2, f3, f4⟩, ⟨g0, g1, g2, fun i hi => g3 i hi⟩, fun i hi => ⟨by show 2 ≤ 2 + i; omega, by show 2 + i < 7; omega⟩, ⟨⟨hOL 3 (by decide), hOs 3 (by decide)⟩, ⟨hOL 4 (by decide), hOs 4 (by decide)⟩, n10, g4, fun k k1 k6 => ?_, fun k hk => g6 k hk, fun k hk => rfl, fun b _ _ => rfl⟩, fun b _ _ => rfl⟩, fun i j _ _ e => by have e : 2 + i = 2 + j := e; omega, rfl, rfl, fun i hi => by omega⟩
  · have hdh : ∀ x, x ∉ L0 → d ≠ x := fun x hx z => hx (z ▸ hd)
    rcases (by omega : i = 0 ∨ i = 1 ∨ i = 2 ∨ i = 3 ∨ i = 4) with rfl | rfl | rfl | rfl | rfl <;> rcases (by omega : k = 0 ∨ k = 1 ∨ k = 2 ∨ k = 3 ∨ k = 4) with rfl | rfl | rfl | rfl | rfl <;> first | rfl | (exact absurd e (hdh _ (by assumption))) | (exact absurd e.symm (hdh _ (by assumption))) | (exact absurd e (by assumption)) | (exact absurd e.symm (by assumption))
  · rw [show zOf d h q t u 3 = t from rfl, g5 k k1 k6]
    rcases (by omega : k = 1 ∨ k = 2 ∨ k = 3 ∨ k = 4 ∨ k = 5) with rfl | rfl | rfl | rfl | rfl <;> rfl
set_option maxRecDepth 8000 in
theorem law_start {l : Launch} {G0 : zG} {τ : Nat → Nat} {b Ls : Nat} {xs : Nat → Int32} (hLs : Ls ≤ 260) : zX l G0 τ (yL_law, cL_law, 6, ret) room_1 (fun _ => True) (lwF G0 b Ls xs) lwA 0 [some (.ref b), none, none, none, none, none] [] (fun _ => (0, 0)) [] (fun _ _ => .null) 0 0 := by
  refine x_new (ci := 6) zin6 tyX6_ok rfl (by decide) rfl zc_L_10 zi_X6 zini_X6 (by decide) (by decide) dL_law_0 (fun d hd => ?_)
  refine x_dup dL_law_3 rfl ?_
  refine x_call0 zmi_X6 (c_X6_init (List.mem_append_right _ (List.mem_singleton.mpr rfl)) shU_eq) rfl zl_L_85 ⟨by decide, by decide⟩ ⟨by decide, by decide⟩ (Nat.le_of_ble_eq_true rfl) dL_law_4 (fun sh1 L1 mm1 h1 _ => ?_)
  obtain ⟨Bs, h, q, t, u, hK⟩ := h1
  obtain ⟨w1, w2⟩ := lT_start (G0 := G0) (List.mem_append_right _ (List.mem_singleton.mpr rfl)) shU_eq mmU_eq hK
  refine x_astore_n 1 rfl (Nat.le_of_ble_eq_true rfl) rfl dL_law_7 ?_
  exact law_go (O := zOf d h q t u) hLs (by decide) (by decide) w2 zQ_0 nD_0 rfl mm1 w1
set_option maxHeartbeats 4000000 in
set_option maxRecDepth 20000 in
theorem whole_start {p : Program} {e : Env} {s : State} {m : MethodId} {below : List Frame} {meth : Method} {c : Code} (l : Launch) (hflags : l.flags = flags0) {b L : Nat} {xs : Nat → Int32} (hL : L ≤ 260) (C0 : lw_At p s m meth c b L xs) : W p l e room_1 s m #[Value.ref b] below meth c s.heap [] 0 0 (lw_Z below #[Value.ref b] s) (entryFrame m ([Value.ref b] : List Value).toArray 6) := by
  obtain ⟨hx, hb, hr, hml, hown, hts, hX, hbl, hlocks, hgv⟩ := id C0
  have hA : ∀ a : Nat, a < s.heap.size → ¬ lwA s a := fun a h => Nat.not_le.mpr h
  obtain ⟨c0, i0, hk0⟩ := u_known (C := RX0) (T := TX0) (N := 8) (n := 8) hts (fun w h => zU_tbl (zin0 w h)) (hts _ (zU_tbl zi_X0))
  obtain ⟨c1, i1, hk1⟩ := u_known (C := RX1) (T := TX1) (N := 4) (n := 4) hts (fun w h => zU_tbl (zin1 w h)) (hts _ (zU_tbl zi_X1))
  obtain ⟨c2, i2, hk2⟩ := u_known (C := RX2) (T := TX2) (N := 3) (n := 3) hts (fun w h => zU_tbl (zin2 w h)) (hts _ (zU_tbl zi_X2))
  obtain ⟨c3, i3, hk3⟩ := u_known (C := RX3) (T := TX3) (N := 6) (n := 6) hts (fun w h => zU_tbl (zin3 w h)) (hts _ (zU_tbl zi_X3))
  obtain ⟨c4, i4, hk4⟩ := u_known (C := RX4) (T := TX4) (N := 8) (n := 8) hts (fun w h => zU_tbl (zin4 w h)) (hts _ (zU_tbl zi_X4))
  obtain ⟨c5, i5, hk5⟩ := u_known (C := RX5) (T := TX5) (N := 12) (n := 12) hts (fun w h => zU_tbl (zin5 w h)) (hts _ (zU_tbl zi_X5))
  obtain ⟨c6, i6, hk6⟩ := u_known (C := RX6) (T := TX6) (N := 5) (n := 5) hts (fun w h => zU_tbl (zin6 w h)) (hts _ (zU_tbl zi_X6))
  obtain ⟨dC, dI, hKc⟩ : ∃ (dC : Nat → ClassId) (dI : Nat → Nat → Nat), ∀ (k : Nat) (q : vw_C), vwCl[k]? = some q → u_Kn s q.1 q.2.1 q.2.2 (dC k) (dI k) := by
    refine ⟨fun k => if k = 0 then c0 else if k = 1 then c1 else if k = 2 then c2 else if k = 3 then c3 else if k = 4 then c4 else if k = 5 then c5 else c6, fun k => if k = 0 then i0 else if k = 1 then i1 else if k = 2 then i2 else if k = 3 then i3 else if k = 4 then i4 else if k = 5 then i5 else i6, ?_⟩
    intro k q hq
    match k, hq with
    | 0, hq => cases hq; exact hk0
    | 1, hq => cases hq; exact hk1
    | 2, hq => cases hq; exact hk2
    | 3, hq => cases hq; exact hk3
    | 4, hq => cases hq; exact hk4
    | 5, hq => cases hq; exact hk5
    | 6, hq => cases hq; exact hk6
    | k + 7, hq => simp [vwCl] at hq
  obtain ⟨a8, g8, r8⟩ := arr_prim (s := s) (ty := .char) (fun _ => Iff.rfl) (hts _ (zU_tbl zarrC))
  obtain ⟨a9, g9, r9⟩ := arr_prim (s := s) (ty := .int) (fun _ => Iff.rfl) (hts _ (zU_tbl zarrI))
  obtain ⟨a10, g10, r10⟩ := arr_obj (s := s) (hts _ zt_overX0)
  obtain ⟨a11, g11, r11⟩ := arr_obj (s := s) (hts _ zt_overX1)
  obtain ⟨a12, g12, r12⟩ := arr_obj (s := s) (hts _ zt_overX4)
  obtain ⟨a13, g13, r13⟩ := arr_obj (s := s) (hts _ zt_overX5)
  have hini := hts _ (zU_tbl zini_X6)
  obtain ⟨e1, e2, e3, e4⟩ := st_FIRST_NUMBERS hgv
  obtain ⟨τ0, hz0⟩ := zFz_of (A := lwA s) (hts _ zt_FIRST_NUMBERS) hini e2 e3 e4 hA
  obtain ⟨e1, e2, e3, e4⟩ := st_FIRST_STAGE_DAYS hgv
  obtain ⟨τ1, hz1⟩ := zFz_of (A := lwA s) (hts _ zt_FIRST_STAGE_DAYS) hini e2 e3 e4 hA
  obtain ⟨e1, e2, e3, e4⟩ := st_FIRST_STAGE_FEES hgv
  obtain ⟨τ2, hz2⟩ := zFz_of (A := lwA s) (hts _ zt_FIRST_STAGE_FEES) hini e2 e3 e4 hA
  obtain ⟨e1, e2, e3, e4⟩ := st_LEAST_NUMBERS hgv
  obtain ⟨t1, u1, v1⟩ := va_Tof (A := lwA s) (N := 4) (f := fun j => .int (zLow j)) (by decide) e1 e2 e3 hA
  obtain ⟨e1, e2, e3, e4⟩ := st_MOST_NUMBERS hgv
  obtain ⟨t2, u2, v2⟩ := va_Tof (A := lwA s) (N := 4) (f := fun j => .int (zHigh j)) (by decide) e1 e2 e3 hA
  obtain ⟨G0, hG⟩ : ∃ G0 : zG, G0 = ((dC, dI), (fun k => if k = 8 then a8 else if k = 9 then a9 else if k = 10 then a10 else if k = 11 then a11 else if k = 12 then a12 else a13), fun _ => (0, 0), [], t1, t2) := ⟨_, rfl⟩
  have hK : va_K G0.1 vwCl (zT G0) s := by
    subst hG
    refine ⟨hKc, fun k q hq => ?_⟩
    match k, hq with
    | 0, hq => cases hq; exact ⟨g8, r8⟩
    | 1, hq => cases hq; exact ⟨g9, r9⟩
    | 2, hq => cases hq; exact ⟨g10, r10⟩
    | 3, hq => cases hq; exact ⟨g11, r11⟩
    | 4, hq => cases hq; exact ⟨g12, r12⟩
    | 5, hq => cases hq; exact ⟨g13, r13⟩
    | k + 6, hq => simp [zT] at hq
  have hN : zNest s := fun w hw => va_Nw.of (by
    simp only [zN, List.mem_cons, List.not_mem_nil, or_false] at hw
    rcases hw with rfl | rfl | rfl | rfl | rfl | rfl | rfl | rfl | rfl | rfl <;> rfl) (hts w (zN_tbl w hw))
  have hC : zCs (fun k => if k = 0 then τ0 else if k = 1 then τ1 else τ2) (lwA s) s s.heap := ⟨hN, hz0, hz1, hz2, va_Nw.of rfl (hts _ zt_castable), va_AO.of (hts _ zt_overX0), va_AO.of (hts _ zt_overX1), va_AO.of (hts _ zt_overX4), va_AO.of (hts _ zt_overX5)⟩
  have hE : lwE G0 b L xs #[Value.ref b] s := by
    subst hG
    exact ⟨rfl, hX, hbl, ⟨va_Zof (hts _ zt_LEAST_NUMBERS) hini u1 hA, v1⟩, va_Zof (hts _ zt_MOST_NUMBERS) hini u2 hA, v2⟩
  rw [lg_entry_eq]
  exact W.mono (law_start (l := l) (G0 := G0) (τ := fun k => if k = 0 then τ0 else if k = 1 then τ1 else τ2) (b := b) (Ls := L) (xs := xs) (by omega) p e s m #[Value.ref b] below meth c s.heap [] _ hx hb hml hr hown hlocks (fun w hw => hts w (zU_tbl hw)) hK hC (fun q h => h) trivial (zLv_entry [Value.ref b] (zc1 (by rfl)) (Nat.le_of_ble_eq_true rfl)) List.nodup_nil (fun a h => absurd h List.not_mem_nil) (fun k q h => by simp [va_pl] at h) va_S.rf) (fun t h => h hE)
