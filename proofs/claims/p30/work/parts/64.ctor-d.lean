/-! States made, side by side -/
def zSt (B : Nat → Nat) (sh : Nat → Nat × Nat) (L : List Nat) (mm : zM) : Prop := (∀ j, zBd j → B j ∈ L ∧ sh (B j) = zBsh j) ∧ (∀ i j, zBd i → zBd j → B i = B j → i = j) ∧ ∀ j k, zBd j → k < (zBsh j).2 → mm (B j) k = vT B j k
theorem zSt.keep {B : Nat → Nat} {sh sh' : Nat → Nat × Nat} {L L' : List Nat} {mm mm' : zM} (h : zSt B sh L mm) (h1 : ∀ b, b ∈ L → b ∈ L' ∧ sh' b = sh b) (h2 : ∀ j, zBd j → mm' (B j) = mm (B j)) : zSt B sh' L' mm' :=
  ⟨fun j hj => ⟨(h1 _ (h.1 j hj).1).1, (h1 _ (h.1 j hj).1).2.trans (h.1 j hj).2⟩, h.2.1, fun j k hj hk => by rw [h2 j hj]; exact h.2.2 j k hj hk⟩
theorem dD_bd {j : Nat} : dD 10 60 10 j ↔ zBd j := by unfold dD zBd; omega
theorem dE_all {j k : Nat} (hj : zBd j) (hk : k < (zBsh j).2) : dE 10 60 10 j k := by
  unfold dE
  by_cases h5 : j = 5
  · subst h5; exact Or.inr (Or.inl ⟨rfl, hk⟩)
  · by_cases h6 : j = 6
    · subst h6; exact Or.inr (Or.inr (Or.inl ⟨rfl, hk⟩))
    · by_cases h7 : j = 7
      · subst h7; exact Or.inr (Or.inr (Or.inr ⟨rfl, hk⟩))
      · exact Or.inl ⟨dD_bd.mpr hj, hk, h5, h6, h7⟩
/-- Ob: the other cells -/
def zDj (Ob S : Nat → Prop) (Bs : Nat → Nat → Nat) (sh : Nat → Nat × Nat) (L : List Nat) (mm : zM) : Prop :=
  (∀ s, S s → zSt (Bs s) sh L mm ∧ ∀ j, zBd j → ¬ Ob (Bs s j)) ∧ (∀ s q i j, S s → S q → s ≠ q → zBd i → zBd j → Bs s i ≠ Bs q j) ∧ ∀ b, Ob b → b ∈ L
theorem zDj.zup {Ob S : Nat → Prop} {Bs : Nat → Nat → Nat} {sh : Nat → Nat × Nat} {L : List Nat} {mm : zM} (h : zDj Ob S Bs sh L mm) {b : Nat} (hb : Ob b) (k : Nat) (v : Value) : zDj Ob S Bs sh L (zup mm b k v) :=
  ⟨fun s hs => ⟨(h.1 s hs).1.keep (fun b hb => ⟨hb, rfl⟩) (fun j hj => by funext i; exact zup_ne (fun z => (h.1 s hs).2 j hj (z.1 ▸ hb))), (h.1 s hs).2⟩, h.2⟩
theorem zDj.cell {Ob S : Nat → Prop} {Bs : Nat → Nat → Nat} {sh : Nat → Nat × Nat} {L : List Nat} {mm : zM} (h : zDj Ob S Bs sh L mm) {c : Nat} (hc : c ∉ L) (x : Nat × Nat) (f : Nat → Value) : zDj (fun b => Ob b ∨ b = c) S Bs (shU sh c x) (L ++ [c]) (mmU mm c f) := by
  refine ⟨fun s hs => ⟨(h.1 s hs).1.keep (fun b hb => ⟨List.mem_append_left _ hb, shU_ne (fun z : b = c => hc (z ▸ hb))⟩) (fun j hj => mmU_ne (fun z : Bs s j = c => hc (z ▸ ((h.1 s hs).1.1 j hj).1))), fun j hj z => z.elim ((h.1 s hs).2 j hj) (fun z => hc (z ▸ ((h.1 s hs).1.1 j hj).1))⟩, h.2.1, fun b hb => hb.elim (fun z => List.mem_append_left _ (h.2.2 b z)) (fun z => by rw [z]; simp)⟩
/-- a State is made -/
theorem zDj.state {Ob S : Nat → Prop} {Bs : Nat → Nat → Nat} {sh sh' : Nat → Nat × Nat} {L L' : List Nat} {mm mm' : zM} (h : zDj Ob S Bs sh L mm) {a : Nat} (ha : a ∉ L) {f : Nat → Value} {B : Nat → Nat} (hB0 : B 0 = a) (hp : zPS (L ++ [a]) (shU sh a (5, 12)) (mmU mm a f) (dD 10 60 10) (dE 10 60 10) B sh' L' mm') {s : Nat} (hs : ¬ S s) :
    zDj Ob (fun q => S q ∨ q = s) (fun q => if q = s then B else Bs q) sh' L' mm' ∧ (∀ b, b ∈ L → b ∈ L' ∧ sh' b = sh b ∧ mm' b = mm b) ∧ a ∈ L' ∧ sh' a = (5, 12) := by
  obtain ⟨h1, h2, h3, h4, h5, h6⟩ := hp
  have hfr : ∀ b, b ∈ L → b ∈ L' ∧ sh' b = sh b ∧ mm' b = mm b := fun b hb => by
    have hne : b ≠ a := fun z => ha (z ▸ hb)
    obtain ⟨q1, q2, q3⟩ := h4 b (List.mem_append_left _ hb)
    exact ⟨q1, q2.trans (shU_ne hne), (q3 (by rw [hB0]; exact hne)).trans (mmU_ne hne)⟩
  have hnew : ∀ j, zBd j → B j ∉ L := fun j hj z => by
    by_cases j0 : j = 0
    · subst j0; exact ha (hB0 ▸ z)
    · exact (h1 j (dD_bd.mpr hj)).2.2 j0 (List.mem_append_left _ z)
  have hold : ∀ q, S q → (if q = s then B else Bs q) = Bs q := fun q hq => if_neg (fun z : q = s => hs (z ▸ hq))
  refine ⟨⟨fun q hq => ?_, fun q r i j hq hr hne hi hj => ?_, fun b hb => (hfr b (h.2.2 b hb)).1⟩, hfr, hB0 ▸ (h1 0 (dD_bd.mpr (Or.inl (by decide)))).1, hB0 ▸ (h1 0 (dD_bd.mpr (Or.inl (by decide)))).2.1⟩
  · rcases hq with hq | rfl
    · show zSt (if q = s then B else Bs q) sh' L' mm' ∧ ∀ j, zBd j → ¬ Ob ((if q = s then B else Bs q) j)
      rw [hold q hq]
      exact ⟨(h.1 q hq).1.keep (fun b hb => ⟨(hfr b hb).1, (hfr b hb).2.1⟩) (fun j hj => (hfr _ ((h.1 q hq).1.1 j hj).1).2.2), (h.1 q hq).2⟩
    · show zSt (if q = q then B else Bs q) sh' L' mm' ∧ ∀ j, zBd j → ¬ Ob ((if q = q then B else Bs q) j)
      rw [if_pos rfl]
      exact ⟨⟨fun j hj => ⟨(h1 j (dD_bd.mpr hj)).1, (h1 j (dD_bd.mpr hj)).2.1⟩, fun i j hi hj => h2 i j (dD_bd.mpr hi) (dD_bd.mpr hj), fun j k hj hk => (h3 j k (dE_all hj hk)).2.2⟩, fun j hj z => hnew j hj (h.2.2 _ z)⟩
  · show (if q = s then B else Bs q) i ≠ (if r = s then B else Bs r) j
    rcases hq with hq | rfl <;> rcases hr with hr | rfl
    · rw [hold q hq, hold r hr]; exact h.2.1 q r i j hq hr hne hi hj
    · rw [hold q hq, if_pos rfl]; exact fun z => hnew j hj (z ▸ ((h.1 q hq).1.1 i hi).1)
    · rw [hold r hr, if_pos rfl]; exact fun z => hnew i hi (z ▸ ((h.1 r hr).1.1 j hj).1)
    · exact absurd rfl hne
theorem zDj.of {Ob Ob' S S' : Nat → Prop} {Bs : Nat → Nat → Nat} {sh : Nat → Nat × Nat} {L : List Nat} {mm : zM} (h : zDj Ob S Bs sh L mm) (hO : ∀ b, Ob' b ↔ Ob b) (hS : ∀ s, S' s → S s) : zDj Ob' S' Bs sh L mm :=
  ⟨fun s hs => ⟨(h.1 s (hS s hs)).1, fun j hj z => (h.1 s (hS s hs)).2 j hj ((hO _).mp z)⟩, fun s q i j hs hq => h.2.1 s q i j (hS s hs) (hS q hq), fun b hb => h.2.2 b ((hO b).mp hb)⟩
/-- what stands behind the constructor of a history at a -/
def zHX (a : Nat) (sh0 : Nat → Nat × Nat) (L0 : List Nat) (mm0 : zM) (n : Nat) (q : Nat) (Bs : Nat → Nat → Nat) (sh : Nat → Nat × Nat) (L : List Nat) (mm : zM) : Prop :=
  zDj (fun b => b ∈ L0 ∨ b = q) (fun s => s = 6 ∨ (2 ≤ s ∧ s < 2 + n)) Bs sh L mm ∧ q ∉ L0 ∧ sh q = (13, 4) ∧ (∀ b, b ∈ L0 → b ∈ L ∧ sh b = sh0 b ∧ (b ≠ a → mm b = mm0 b)) ∧ mm a 0 = .ref q ∧ mm a 1 = mm0 a 1 ∧ mm a 2 = .ref (Bs 6 0) ∧ ∀ i, i < n → mm q i = .ref (Bs (2 + i) 0)
theorem zHX.next {a : Nat} {sh0 sh sh' : Nat → Nat × Nat} {L0 L L' : List Nat} {mm0 mm mm' : zM} {n q : Nat} {Bs : Nat → Nat → Nat} (h : zHX a sh0 L0 mm0 n q Bs sh L mm) (ha : a ∈ L0) (hn : n < 4) {c : Nat} (hc : c ∉ L) {f : Nat → Value} {B : Nat → Nat} (hB0 : B 0 = c) (hp : zPS (L ++ [c]) (shU sh c (5, 12)) (mmU mm c f) (dD 10 60 10) (dE 10 60 10) B sh' L' mm') : ∃ Bs', zHX a sh0 L0 mm0 (n + 1) q Bs' sh' L' (zup mm' q n (.ref c)) := by
  obtain ⟨h1, h2, h3, h4, h5, h6, h7, h8⟩ := h
  obtain ⟨k1, k2, k3, k4⟩ := h1.state hc hB0 hp (s := 2 + n) (by omega)
  have hqL : q ∈ L := h1.2.2 q (Or.inr rfl)
  have haL : a ∈ L := (h4 a ha).1
  have haq : a ≠ q := fun z => h2 (z ▸ ha)
  have ea : zup mm' q n (.ref c) a = mm a := by
    rw [← (k2 a haL).2.2]; funext i; exact zup_ne (fun z => haq z.1)
  refine ⟨_, (k1.of (Ob' := fun b => b ∈ L0 ∨ b = q) (S' := fun s => s = 6 ∨ (2 ≤ s ∧ s < 2 + (n + 1))) (fun _ => Iff.rfl) (fun s hs => by omega)).zup (Or.inr rfl) n (.ref c), h2, (k2 q hqL).2.1.trans h3, fun b hb => ?_, by rw [ea]; exact h5, by rw [ea]; exact h6, ?_, fun i hi => ?_⟩
  · obtain ⟨g1, g2, g3⟩ := h4 b hb
    refine ⟨(k2 b g1).1, (k2 b g1).2.1.trans g2, fun hne => ?_⟩
    rw [← g3 hne, ← (k2 b g1).2.2]
    funext i
    exact zup_ne (fun z => h2 (z.1 ▸ hb))
  · rw [ea, h7]
    show Value.ref (Bs 6 0) = .ref ((if 6 = 2 + n then B else Bs 6) 0)
    rw [if_neg (by omega)]
  · show _ = Value.ref ((if 2 + i = 2 + n then B else Bs (2 + i)) 0)
    by_cases e : i = n
    · subst e; rw [zup_eq, if_pos rfl, hB0]
    · rw [zup_ne (fun z => e z.2), if_neg (by omega), (k2 q hqL).2.2]; exact h8 i (by omega)
set_option maxRecDepth 4000 in
theorem l_X2_init {l : Launch} {G0 : zG} {τ : Nat → Nat} {sh : Nat → Nat × Nat} {L : List Nat} {mm : zM} {a : Nat} (ha0 : a ∈ L) (hsh0 : sh a = (2, 3)) : ∀ i, i ≤ 4 → ∀ (q : Nat) (Bs : Nat → Nat → Nat) (sh' : Nat → Nat × Nat) (L' : List Nat) (mm' : zM), zHX a sh L mm i q Bs sh' L' mm' → zX l G0 τ (yX2_init, cX2_init, 2, none) (zRX 3 491 3874) (fun me => me.name = yX2_init.name) (fun below args s => MQ below (zQX G0 (zAX L s.heap.size) (fun sh' L' mm' => ∃ q Bs, zHX a sh L mm 4 q Bs sh' L' mm')) args s 491 3874 (zAX L s.heap.size)) (fun s => zAX L s.heap.size) 25 [some (.ref a), some (.int (nI i))] [] sh' L' mm' (99 + 98 * i) (778 + 774 * i) := by
  refine z_loop (4) (fun i hi ih q Bs sh' L' mm' h => ?_)
  have ha : a ∈ L' := (h.2.2.2.1 a ha0).1
  have hsh : sh' a = (2, 3) := (h.2.2.2.1 a ha0).2.1.trans hsh0
  have hb : q ∈ L' := h.1.2.2 q (Or.inr rfl)
  have hbs : sh' q = (13, 4) := h.2.2.1
  have hv : mm' a 0 = .ref q := h.2.2.2.2.1
  refine x_iload_n 1 rfl rfl dX2_init_25 ?_
  refine x_aload_n 0 rfl rfl dX2_init_26 ?_
  refine x_get (ci := 2) (k := 0) zin2 rfl (by decide) (by decide) rfl rfl zf_X2_11 ha hsh hv dX2_init_27 ?_
  refine x_alen (t0 := 5) (nI 4) hb hbs (by decide) rfl rfl dX2_init_30 ?_
  refine x_icmp_ge 53 dX2_init_31 rfl (fun cT => ?_) (fun cF => ?_)
  · have e : i = 4 := by have := (nI_leI (by omega) (by omega)).mp cT; omega
    subst e
    exact x_vret dX2_init_53 ⟨q, Bs, h⟩
  · have hlt : i < 4 := Nat.lt_of_not_le (fun z => cF ((nI_leI (by omega) (by omega)).mpr z))
    refine x_aload_n 0 rfl rfl dX2_init_34 ?_
    refine x_get (ci := 2) (k := 0) zin2 rfl (by decide) (by decide) rfl rfl zf_X2_11 ha hsh hv dX2_init_35 ?_
    refine x_iload_n 1 rfl rfl dX2_init_38 ?_
    refine x_new (ci := 5) zin5 tyX5_ok rfl (by decide) rfl zc_X2_9 zi_X5 zini_X5 (by show _ ≤ 491; omega) (by show _ ≤ 3874; omega) dX2_init_39 (fun a1 h1 => ?_)
    refine x_dup dX2_init_42 rfl ?_
    refine x_call0 zmi_X5 (c_X5_init (List.mem_append_right _ (List.mem_singleton.mpr rfl)) shU_eq (fun k hk => mmU_eq)) rfl zl_X2_17 ⟨by decide, by decide⟩ ⟨by show _ ≤ 491; omega, by show _ ≤ 3874; omega⟩ (Nat.le_of_ble_eq_true rfl) dX2_init_43 (fun sh2 L2 mm2 hq hN => ?_)
    obtain ⟨B, hB0, hp⟩ := hq
    obtain ⟨Bs', h'⟩ := h.next ha0 hlt h1 hB0 hp
    obtain ⟨-, k2, k3, k4⟩ := h.1.state h1 hB0 hp (s := 2 + i) (by omega)
    refine x_aast (t0 := 5) (ci := 5) (k2 q hb).1 ((k2 q hb).2.1.trans hbs) (by decide) rfl k3 k4 (by decide) rfl rfl hlt (by decide) dX2_init_46 ?_
    refine x_iinc (v := nI (i + 1)) 1 rfl (by rw [show Int32.ofInt 1 = nI 1 from rfl, nI_add]) rfl dX2_init_47 ?_
    refine x_goto 25 dX2_init_50 rfl ?_
    have k := ih hlt q Bs' _ _ _ h'
    rw [show 99 + 98 * (i + 1) = 99 + 98 * i + 1 + 97 by omega, show 778 + 774 * (i + 1) = 778 + 774 * i + 12 + 762 by omega] at k
    exact k
set_option maxRecDepth 4000 in
theorem c_X2_init {l : Launch} {G0 : zG} {τ : Nat → Nat} {sh : Nat → Nat × Nat} {L : List Nat} {mm : zM} {a : Nat} (ha : a ∈ L) (hsh : sh a = (2, 3)) : zSmX l G0 τ yX2_init cX2_init 2 3 491 3874 [.ref a] sh L mm (fun sh' L' mm' => ∃ q Bs, zHX a sh L mm 4 q Bs sh' L' mm') := by
  refine x_met [some (.ref a), none] rfl (zc1 (by rfl)) (Nat.le_of_ble_eq_true rfl) rfl ?_
  refine x_aload_n 0 rfl rfl dX2_init_0 ?_
  refine x_objInit rfl zl_X2_3 (by decide) (by decide) (by decide) dX2_init_1 ?_
  refine x_aload_n 0 rfl rfl dX2_init_4 ?_
  refine x_iconst (nI 4) dX2_init_5 rfl ?_
  refine x_newQ (N := 4) (k := 13) (t0 := 5) rfl (by decide) (by decide) rfl rfl zc_X2_9 (fun _ _ _ h => h.2.2.2.2.2.2.2.2) (by decide) (by decide) dX2_init_6 (fun q hq => ?_)
  have haq : a ≠ q := fun z => hq (z ▸ ha)
  have hs1 : shU sh q (13, 4) a = (2, 3) := (shU_ne haq).trans hsh
  refine x_putF (ci := 2) (k := 0) (fun _ h => h) zin2 tyX2_ok nmX2 rfl (by decide) (by decide) rfl rfl rfl rfl rfl rfl rfl zf_X2_11 (List.mem_append_left _ ha) hs1 dX2_init_9 ?_
  have hD : zDj (fun b => b ∈ L ∨ b = q) (fun _ => False) (fun _ _ => 0) (shU sh q (13, 4)) (L ++ [q]) (zup (mmU mm q (fun _ => .null)) a 0 (.ref q)) := ⟨fun s hs => hs.elim, fun s q i j hs => hs.elim, fun b hb => hb.elim (List.mem_append_left _) (fun z => by rw [z]; simp)⟩
  refine x_aload_n 0 rfl rfl dX2_init_12 ?_
  refine x_new (ci := 5) zin5 tyX5_ok rfl (by decide) rfl zc_X2_9 zi_X5 zini_X5 (by decide) (by decide) dX2_init_13 (fun a1 h1 => ?_)
  refine x_dup dX2_init_16 rfl ?_
  refine x_call0 zmi_X5 (c_X5_init (List.mem_append_right _ (List.mem_singleton.mpr rfl)) shU_eq (fun k hk => mmU_eq)) rfl zl_X2_17 ⟨by decide, by decide⟩ ⟨by decide, by decide⟩ (Nat.le_of_ble_eq_true rfl) dX2_init_17 (fun sh2 L2 mm2 hq2 hN => ?_)
  obtain ⟨B, hB0, hp⟩ := hq2
  obtain ⟨k1, k2, k3, k4⟩ := hD.state h1 hB0 hp (s := 6) (fun z => z)
  have haL := k2 a (List.mem_append_left _ ha)
  have hqL := k2 q (by simp)
  refine x_put (ci := 2) (k := 2) zin2 tyX2_ok nmX2 rfl (by decide) (by decide) rfl rfl rfl rfl rfl rfl zf_X2_18 haL.1 (haL.2.1.trans hs1) dX2_init_20 ?_
  refine x_iconst (nI 0) dX2_init_23 rfl ?_
  refine x_istore_n 1 rfl (Nat.le_of_ble_eq_true rfl) rfl dX2_init_24 ?_
  refine l_X2_init ha hsh 0 (by omega) q _ _ _ _ ⟨((k1.of (Ob' := fun b => b ∈ L ∨ b = q) (S' := fun s => s = 6 ∨ (2 ≤ s ∧ s < 2 + 0)) (fun _ => Iff.rfl) (fun s hs => by rcases hs with hs | hs; exact Or.inr hs; omega)).zup (Or.inl ha) 2 (.ref a1)), hq, hqL.2.1.trans shU_eq, fun b hb => ?_, ?_, ?_, ?_, fun i hi => by omega⟩
  · have hbq : b ≠ q := fun z => hq (z ▸ hb)
    have hbL := k2 b (List.mem_append_left _ hb)
    refine ⟨hbL.1, hbL.2.1.trans (shU_ne hbq), fun hba => ?_⟩
    funext i
    rw [zup_ne (fun z => hba z.1), hbL.2.2, zup_ne (fun z => hba z.1), mmU_ne hbq]
  · rw [zup_ne (fun z => by have := z.2; omega), haL.2.2, zup_eq]
  · rw [zup_ne (fun z => by have := z.2; omega), haL.2.2, zup_ne (fun z => by have := z.2; omega), mmU_ne haq]
  · rw [zup_eq]
    show Value.ref a1 = .ref ((if 6 = 6 then B else fun _ => 0) 0)
    rw [if_pos rfl, hB0]
