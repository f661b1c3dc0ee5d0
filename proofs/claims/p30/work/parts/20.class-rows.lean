/-! ===== the class' State: its 98 cells ===== -/
/-- which of the addresses B j are cells: 0 the State, 1 numbers, 2 stageDays, 3 stageFees, 4 accounts, 5 dates, 6 rights, 7 events, 10+d date d, 20+d its list, 30+r right r, 90+e event row e -/
def zBd (j : Nat) : Prop := j < 8 ∨ (10 ≤ j ∧ j < 100)
def zBsh (j : Nat) : Nat × Nat := if j = 0 then (5, 12) else if j < 4 then (9, 4) else if j = 4 then (9, 10) else if j = 5 then (10, 10) else if j = 6 then (12, 60) else if j = 7 then (11, 10) else if j < 20 then (0, 8) else if j < 30 then (9, 6) else if j < 90 then (4, 8) else (1, 4)
/-- which number of the row stands at place k of cell j -/
def zIx (j k : Nat) : Option Nat :=
  if j = 0 then (if k = 0 then some 0 else if k = 4 then some 1 else if k = 6 then some 2 else if k = 9 then some 7 else if k = 10 then some 8 else none)
  else if j = 1 then (if k < 4 then some (3 + k) else none)
  else if j = 2 then (if k < 4 then some (9 + 2 * k) else none)
  else if j = 3 then (if k < 4 then some (9 + 2 * k + 1) else none)
  else if j = 4 then (if k < 10 then some (17 + k) else none)
  else if 10 ≤ j ∧ j < 20 then (if 1 ≤ k ∧ k < 6 then some (27 + 12 * (j - 10) + (k - 1)) else if k = 7 then some (27 + 12 * (j - 10) + 5) else none)
  else if 20 ≤ j ∧ j < 30 then (if k < 6 then some (27 + 12 * (j - 20) + (6 + k)) else none)
  else if 30 ≤ j ∧ j < 90 then (if 1 ≤ k ∧ k < 8 then some (147 + 7 * (j - 30) + (k - 1)) else none)
  else none
def zIv (i : Nat) : Nat × Nat :=
  if i = 0 then (0, 0) else if i = 1 then (0, 4) else if i = 2 then (0, 6) else if i < 7 then (1, i - 3) else if i = 7 then (0, 9) else if i = 8 then (0, 10)
  else if i < 17 then (if (i - 9) % 2 = 0 then (2, (i - 9) / 2) else (3, (i - 9) / 2)) else if i < 27 then (4, i - 17)
  else if i < 147 then (if (i - 27) % 12 < 5 then (10 + (i - 27) / 12, (i - 27) % 12 + 1) else if (i - 27) % 12 = 5 then (10 + (i - 27) / 12, 7) else (20 + (i - 27) / 12, (i - 27) % 12 - 6))
  else (30 + (i - 147) / 7, (i - 147) % 7 + 1)
theorem zIx_iv {j k i : Nat} (h : zIx j k = some i) : zIv i = (j, k) := by
  unfold zIx at h
  repeat' split at h
  all_goals first | (cases h; done) | skip
  all_goals (have h := Option.some.inj h; subst h)
  · rename_i h1 h2; rw [h1, h2]; rfl
  · rename_i h1 h2 h3; rw [h1, h3]; rfl
  · rename_i h1 h2 h3 h4; rw [h1, h4]; rfl
  · rename_i h1 h2 h3 h4 h5; rw [h1, h5]; rfl
  · rename_i h1 h2 h3 h4 h5 h6; rw [h1, h6]; rfl
  · unfold zIv
    rw [if_neg (by omega), if_neg (by omega), if_neg (by omega), if_pos (by omega)]
    exact Prod.ext (by show 1 = j; omega) (by show 3 + k - 3 = k; omega)
  · unfold zIv
    rw [if_neg (by omega), if_neg (by omega), if_neg (by omega), if_neg (by omega), if_neg (by omega), if_neg (by omega), if_pos (by omega), if_pos (by omega)]
    exact Prod.ext (by show 2 = j; omega) (by show (9 + 2 * k - 9) / 2 = k; omega)
  · unfold zIv
    rw [if_neg (by omega), if_neg (by omega), if_neg (by omega), if_neg (by omega), if_neg (by omega), if_neg (by omega), if_pos (by omega), if_neg (by omega)]
    exact Prod.ext (by show 3 = j; omega) (by show (9 + 2 * k + 1 - 9) / 2 = k; omega)
  · unfold zIv
    rw [if_neg (by omega), if_neg (by omega), if_neg (by omega), if_neg (by omega), if_neg (by omega), if_neg (by omega), if_neg (by omega), if_pos (by omega)]
    exact Prod.ext (by show 4 = j; omega) (by show 17 + k - 17 = k; omega)
  · unfold zIv
    rw [if_neg (by omega), if_neg (by omega), if_neg (by omega), if_neg (by omega), if_neg (by omega), if_neg (by omega), if_neg (by omega), if_neg (by omega), if_pos (by omega), if_pos (by omega)]
    exact Prod.ext (by show 10 + (27 + 12 * (j - 10) + (k - 1) - 27) / 12 = j; omega) (by show (27 + 12 * (j - 10) + (k - 1) - 27) % 12 + 1 = k; omega)
  · unfold zIv
    rw [if_neg (by omega), if_neg (by omega), if_neg (by omega), if_neg (by omega), if_neg (by omega), if_neg (by omega), if_neg (by omega), if_neg (by omega), if_pos (by omega), if_neg (by omega), if_pos (by omega)]
    exact Prod.ext (by show 10 + (27 + 12 * (j - 10) + 5 - 27) / 12 = j; omega) (by show 7 = k; omega)
  · unfold zIv
    rw [if_neg (by omega), if_neg (by omega), if_neg (by omega), if_neg (by omega), if_neg (by omega), if_neg (by omega), if_neg (by omega), if_neg (by omega), if_pos (by omega), if_neg (by omega), if_neg (by omega)]
    exact Prod.ext (by show 20 + (27 + 12 * (j - 20) + (6 + k) - 27) / 12 = j; omega) (by show (27 + 12 * (j - 20) + (6 + k) - 27) % 12 - 6 = k; omega)
  · unfold zIv
    rw [if_neg (by omega), if_neg (by omega), if_neg (by omega), if_neg (by omega), if_neg (by omega), if_neg (by omega), if_neg (by omega), if_neg (by omega), if_neg (by omega)]
    exact Prod.ext (by show 30 + (147 + 7 * (j - 30) + (k - 1) - 147) / 7 = j; omega) (by show (147 + 7 * (j - 30) + (k - 1) - 147) % 7 + 1 = k; omega)
theorem zIx_inj {j k j' k' i : Nat} (h : zIx j k = some i) (h' : zIx j' k' = some i) : j = j' ∧ k = k' := by
  have e := (zIx_iv h).symm.trans (zIx_iv h')
  exact ⟨congrArg Prod.fst e, congrArg Prod.snd e⟩
theorem zIx_lt {j k i : Nat} (h : zIx j k = some i) : j < 90 ∧ i < 567 := by
  unfold zIx at h
  repeat' split at h
  all_goals first | (cases h; done) | (have h := Option.some.inj h; exact ⟨by omega, by omega⟩)
theorem zIx_bd {j k i : Nat} (h : zIx j k = some i) : zBd j := by
  unfold zIx at h
  unfold zBd
  repeat' split at h
  all_goals first | (cases h; done) | omega
/-- the cells that hold what never changes: references (inl) and numbers (inr) -/
def zCt (j k : Nat) : Option (Nat ⊕ Nat) :=
  if j = 0 then (if k = 1 then some (.inl 1) else if k = 2 then some (.inl 2) else if k = 3 then some (.inl 3) else if k = 5 then some (.inl 5) else if k = 7 then some (.inl 6) else if k = 8 then some (.inl 4) else if k = 11 then some (.inl 7) else none)
  else if j = 5 then (if k < 10 then some (.inl (10 + k)) else none)
  else if j = 6 then (if k < 60 then some (.inl (30 + k)) else none)
  else if 10 ≤ j ∧ j < 20 then (if k = 0 then some (.inr (j - 10)) else if k = 6 then some (.inl (20 + (j - 10))) else none)
  else if 30 ≤ j ∧ j < 90 then (if k = 0 then some (.inr (j - 30)) else none)
  else none
theorem zCt_bd {j k : Nat} {c : Nat ⊕ Nat} (h : zCt j k = some c) : zBd j ∧ zIx j k = none ∧ j ≠ 7 ∧ j < 90 := by
  unfold zCt at h
  unfold zBd zIx
  repeat' split at h
  all_goals first | (cases h; done) | (refine ⟨by omega, ?_, by omega, by omega⟩; repeat' split) 
  all_goals first | rfl | omega
def zVal (B : Nat → Nat) (c : Nat ⊕ Nat) : Value := match c with
  | .inl j => .ref (B j)
  | .inr n => .int (nI n)
/-- the picture: u is the row of numbers -/
def zCP (G : zG) (B : Nat → Nat) (m0 : zM) (u : Nat → Int32) (mm : zM) : Prop :=
  (∀ j, zBd j → B j ∈ zL G) ∧ (∀ j, zBd j → zsh G (B j) = zBsh j) ∧ (∀ i j, zBd i → zBd j → B i = B j → i = j) ∧
  (∀ j k c, zCt j k = some c → mm (B j) k = zVal B c) ∧ (∀ j k i, zIx j k = some i → mm (B j) k = .int (u i)) ∧
  (∃ σ : Nat → Nat, (∀ i, i < 10 → σ i < 10) ∧ (∀ i j, i < 10 → j < 10 → σ i = σ j → i = j) ∧ ∀ i, i < 10 → mm (B 7) i = .ref (B (90 + σ i)) ∧ ∀ k, k < 4 → mm (B (90 + σ i)) k = .int (u (567 + 4 * i + k))) ∧
  ∀ b, (∀ j, zBd j → b ≠ B j) → mm b = m0 b
theorem zCP.set {G : zG} {B : Nat → Nat} {m0 mm : zM} {u : Nat → Int32} (h : zCP G B m0 u mm) {j k i : Nat} (hi : zIx j k = some i) (x : Int32) : zCP G B m0 (upd u i x) (zup mm (B j) k (.int x)) := by
  obtain ⟨h1, h2, h3, h4, h5, ⟨σ, s1, s2, s3⟩, h7⟩ := h
  have hb := zIx_bd hi
  have hl := zIx_lt hi
  refine ⟨h1, h2, h3, fun j' k' c hc => ?_, fun j' k' i' hi' => ?_, ⟨σ, s1, s2, fun e he => ⟨?_, fun k' hk' => ?_⟩⟩, fun b hne => ?_⟩
  · obtain ⟨c1, c2, -, -⟩ := zCt_bd hc
    rw [zup_ne (fun q => by have := h3 _ _ c1 hb q.1; subst this; rw [q.2] at c2; rw [c2] at hi; cases hi)]
    exact h4 j' k' c hc
  · by_cases e : j' = j ∧ k' = k
    · obtain ⟨rfl, rfl⟩ := e
      rw [hi] at hi'; cases hi'
      rw [zup_eq, upd_eq]
    · rw [zup_ne (fun q => e ⟨h3 _ _ (zIx_bd hi') hb q.1, q.2⟩), upd_ne (fun q => by subst q; exact e (zIx_inj hi' hi))]
      exact h5 j' k' i' hi'
  · have h77 : zIx 7 k = none := rfl
    rw [zup_ne (fun q => by have := h3 _ _ (Or.inl (by decide)) hb q.1; subst this; rw [h77] at hi; cases hi)]
    exact (s3 e he).1
  · have hs := s1 e he
    rw [zup_ne (fun q => by have := h3 (90 + σ e) j (Or.inr (by omega)) hb q.1; omega), upd_ne (by omega)]
    exact (s3 e he).2 k' hk'
  · have e : zup mm (B j) k (.int x) b = mm b := by funext k'; exact zup_ne (fun q => hne j hb q.1)
    rw [e]; exact h7 b hne
/-- what the class keeps as asking price: 0 where the right isn't offered -/
def kAsk (v : Nat → Int32) (r : Nat) : Int32 := if v (147 + 7 * r + 3) = nI 1 then v (147 + 7 * r + 4) else nI 0
/-- the class' numbers and the reference's: alike but for the asking prices -/
def zRel (u v : Nat → Int32) : Prop := (∀ i, i < 607 → (∀ r, r < 60 → i ≠ 147 + 7 * r + 4) → u i = v i) ∧ ∀ r, r < 60 → u (147 + 7 * r + 4) = kAsk v r
def zCV (G : zG) (B : Nat → Nat) (m0 : zM) (v : Nat → Int32) (mm : zM) : Prop := ∃ u, zRel u v ∧ zCP G B m0 u mm
theorem zRel.set {u v : Nat → Int32} (h : zRel u v) {i : Nat} (hs : ∀ r, r < 60 → i ≠ 147 + 7 * r + 3 ∧ i ≠ 147 + 7 * r + 4) (x : Int32) : zRel (upd u i x) (upd v i x) := by
  refine ⟨fun j hj hn => ?_, fun r hr => ?_⟩
  · by_cases e : j = i
    · subst e; rw [upd_eq, upd_eq]
    · rw [upd_ne e, upd_ne e]; exact h.1 j hj hn
  · rw [upd_ne (Ne.symm (hs r hr).2), h.2 r hr]
    unfold kAsk
    rw [upd_ne (Ne.symm (hs r hr).1), upd_ne (Ne.symm (hs r hr).2)]
theorem zCV.set {G : zG} {B : Nat → Nat} {m0 mm : zM} {v : Nat → Int32} (h : zCV G B m0 v mm) {j k i : Nat} (hi : zIx j k = some i) (hs : ∀ r, r < 60 → i ≠ 147 + 7 * r + 3 ∧ i ≠ 147 + 7 * r + 4) (x : Int32) : zCV G B m0 (upd v i x) (zup mm (B j) k (.int x)) := by
  obtain ⟨u, hr, hc⟩ := h
  exact ⟨_, hr.set hs x, hc.set hi x⟩
theorem zCV.int {G : zG} {B : Nat → Nat} {m0 mm : zM} {v : Nat → Int32} (h : zCV G B m0 v mm) {j k i : Nat} (hi : zIx j k = some i) (hs : ∀ r, r < 60 → i ≠ 147 + 7 * r + 4) : mm (B j) k = .int (v i) := by
  obtain ⟨u, hr, hc⟩ := h
  rw [hc.2.2.2.2.1 j k i hi, hr.1 i (by have := zIx_lt hi; omega) hs]
theorem zCV.ask {G : zG} {B : Nat → Nat} {m0 mm : zM} {v : Nat → Int32} (h : zCV G B m0 v mm) {r : Nat} (hr : r < 60) : mm (B (30 + r)) 5 = .int (kAsk v r) := by
  obtain ⟨u, hR, hc⟩ := h
  rw [hc.2.2.2.2.1 (30 + r) 5 (147 + 7 * r + 4) (by unfold zIx; rw [if_neg (by omega), if_neg (by omega), if_neg (by omega), if_neg (by omega), if_neg (by omega), if_neg (by omega), if_neg (by omega), if_pos (by omega), if_pos (by omega)]; congr 1; omega), hR.2 r hr]
theorem zCV.ct {G : zG} {B : Nat → Nat} {m0 mm : zM} {v : Nat → Int32} (h : zCV G B m0 v mm) {j k : Nat} {c : Nat ⊕ Nat} (hc : zCt j k = some c) : mm (B j) k = zVal B c := by
  obtain ⟨u, hR, hp⟩ := h
  exact hp.2.2.2.1 j k c hc
theorem zCV.at {G : zG} {B : Nat → Nat} {m0 mm : zM} {v : Nat → Int32} (h : zCV G B m0 v mm) {j : Nat} (hj : zBd j) : B j ∈ zL G ∧ zsh G (B j) = zBsh j := by
  obtain ⟨u, hR, hp⟩ := h
  exact ⟨hp.1 j hj, hp.2.1 j hj⟩
theorem zIx_d {d k : Nat} (hd : d < 10) (hk : 1 ≤ k ∧ k < 6) : zIx (10 + d) k = some (27 + 12 * d + (k - 1)) := by
  unfold zIx; rw [if_neg (by omega), if_neg (by omega), if_neg (by omega), if_neg (by omega), if_neg (by omega), if_pos (by omega), if_pos hk]; congr 1; omega
theorem zIx_d7 {d : Nat} (hd : d < 10) : zIx (10 + d) 7 = some (27 + 12 * d + 5) := by
  unfold zIx; rw [if_neg (by omega), if_neg (by omega), if_neg (by omega), if_neg (by omega), if_neg (by omega), if_pos (by omega), if_neg (by omega), if_pos rfl]; congr 1; omega
theorem zIx_l {d k : Nat} (hd : d < 10) (hk : k < 6) : zIx (20 + d) k = some (27 + 12 * d + (6 + k)) := by
  unfold zIx; rw [if_neg (by omega), if_neg (by omega), if_neg (by omega), if_neg (by omega), if_neg (by omega), if_neg (by omega), if_pos (by omega), if_pos hk]; congr 1; omega
theorem zIx_r {r k : Nat} (hr : r < 60) (hk : 1 ≤ k ∧ k < 8) : zIx (30 + r) k = some (147 + 7 * r + (k - 1)) := by
  unfold zIx; rw [if_neg (by omega), if_neg (by omega), if_neg (by omega), if_neg (by omega), if_neg (by omega), if_neg (by omega), if_neg (by omega), if_pos (by omega), if_pos hk]; congr 1; omega
theorem zIx_1 {k : Nat} (hk : k < 4) : zIx 1 k = some (3 + k) := if_pos hk
theorem zIx_2 {k : Nat} (hk : k < 4) : zIx 2 k = some (9 + 2 * k) := if_pos hk
theorem zIx_3 {k : Nat} (hk : k < 4) : zIx 3 k = some (9 + 2 * k + 1) := if_pos hk
theorem zIx_4 {k : Nat} (hk : k < 10) : zIx 4 k = some (17 + k) := if_pos hk
theorem zCt_5 {k : Nat} (hk : k < 10) : zCt 5 k = some (.inl (10 + k)) := if_pos hk
theorem zCt_6 {k : Nat} (hk : k < 60) : zCt 6 k = some (.inl (30 + k)) := if_pos hk
theorem zCt_d0 {d : Nat} (hd : d < 10) : zCt (10 + d) 0 = some (.inr d) := by
  unfold zCt; rw [if_neg (by omega), if_neg (by omega), if_neg (by omega), if_pos (by omega), if_pos rfl]; congr 2; omega
theorem zCt_d6 {d : Nat} (hd : d < 10) : zCt (10 + d) 6 = some (.inl (20 + d)) := by
  unfold zCt; rw [if_neg (by omega), if_neg (by omega), if_neg (by omega), if_pos (by omega), if_neg (by omega), if_pos rfl]; congr 3; omega
theorem zCt_r0 {r : Nat} (hr : r < 60) : zCt (30 + r) 0 = some (.inr r) := by
  unfold zCt; rw [if_neg (by omega), if_neg (by omega), if_neg (by omega), if_neg (by omega), if_pos (by omega), if_pos rfl]; congr 2; omega
theorem zBsh_d {d : Nat} (hd : d < 10) : zBsh (10 + d) = (0, 8) := by
  unfold zBsh; rw [if_neg (by omega), if_neg (by omega), if_neg (by omega), if_neg (by omega), if_neg (by omega), if_neg (by omega), if_pos (by omega)]
theorem zBsh_l {d : Nat} (hd : d < 10) : zBsh (20 + d) = (9, 6) := by
  unfold zBsh; rw [if_neg (by omega), if_neg (by omega), if_neg (by omega), if_neg (by omega), if_neg (by omega), if_neg (by omega), if_neg (by omega), if_pos (by omega)]
theorem zBsh_r {r : Nat} (hr : r < 60) : zBsh (30 + r) = (4, 8) := by
  unfold zBsh; rw [if_neg (by omega), if_neg (by omega), if_neg (by omega), if_neg (by omega), if_neg (by omega), if_neg (by omega), if_neg (by omega), if_neg (by omega), if_pos (by omega)]
theorem zBsh_e {e : Nat} (he : e < 10) : zBsh (90 + e) = (1, 4) := by
  unfold zBsh; rw [if_neg (by omega), if_neg (by omega), if_neg (by omega), if_neg (by omega), if_neg (by omega), if_neg (by omega), if_neg (by omega), if_neg (by omega), if_neg (by omega)]
section ZCR
variable {l : Launch} {G : zG} {y : MethodName} {cc : ByteArray} {nL : Nat} {ret : Option FieldType} {d0 : Nat} {rv : Option Value} {Q : zM → Prop} {pc : Nat} {lv : List (Option Value)} {st : List Value} {mm m0 : zM} {B : Nat → Nat} {v : Nat → Int32} {ix d r n : Nat} {own : String}
theorem zC_S1 (hp : zCV G B m0 v mm) (ho : own = y.cls) (hlink : Cond.fieldLink own ix RX5 (TX5 1).2.1 (TX5 1).2.2.1 ∈ zU) (hd : decode cc pc = .ok (.getfield ix, 3)) (kk : zV l G (y, cc, nL, ret) d0 rv Q (pc + 3) lv (.ref (B 1) :: st) mm) : zV l G (y, cc, nL, ret) d0 rv Q pc lv (.ref (B 0) :: st) mm :=
  z_get (ci := 5) zin5 rfl (by decide) (by decide) rfl ho hlink (hp.at (j := 0) (Or.inl (by decide))).1 (hp.at (j := 0) (Or.inl (by decide))).2 (hp.ct (j := 0) (k := 1) rfl) hd kk
theorem zC_S2 (hp : zCV G B m0 v mm) (ho : own = y.cls) (hlink : Cond.fieldLink own ix RX5 (TX5 2).2.1 (TX5 2).2.2.1 ∈ zU) (hd : decode cc pc = .ok (.getfield ix, 3)) (kk : zV l G (y, cc, nL, ret) d0 rv Q (pc + 3) lv (.ref (B 2) :: st) mm) : zV l G (y, cc, nL, ret) d0 rv Q pc lv (.ref (B 0) :: st) mm :=
  z_get (ci := 5) zin5 rfl (by decide) (by decide) rfl ho hlink (hp.at (j := 0) (Or.inl (by decide))).1 (hp.at (j := 0) (Or.inl (by decide))).2 (hp.ct (j := 0) (k := 2) rfl) hd kk
theorem zC_S3 (hp : zCV G B m0 v mm) (ho : own = y.cls) (hlink : Cond.fieldLink own ix RX5 (TX5 3).2.1 (TX5 3).2.2.1 ∈ zU) (hd : decode cc pc = .ok (.getfield ix, 3)) (kk : zV l G (y, cc, nL, ret) d0 rv Q (pc + 3) lv (.ref (B 3) :: st) mm) : zV l G (y, cc, nL, ret) d0 rv Q pc lv (.ref (B 0) :: st) mm :=
  z_get (ci := 5) zin5 rfl (by decide) (by decide) rfl ho hlink (hp.at (j := 0) (Or.inl (by decide))).1 (hp.at (j := 0) (Or.inl (by decide))).2 (hp.ct (j := 0) (k := 3) rfl) hd kk
theorem zC_S5 (hp : zCV G B m0 v mm) (ho : own = y.cls) (hlink : Cond.fieldLink own ix RX5 (TX5 5).2.1 (TX5 5).2.2.1 ∈ zU) (hd : decode cc pc = .ok (.getfield ix, 3)) (kk : zV l G (y, cc, nL, ret) d0 rv Q (pc + 3) lv (.ref (B 5) :: st) mm) : zV l G (y, cc, nL, ret) d0 rv Q pc lv (.ref (B 0) :: st) mm :=
  z_get (ci := 5) zin5 rfl (by decide) (by decide) rfl ho hlink (hp.at (j := 0) (Or.inl (by decide))).1 (hp.at (j := 0) (Or.inl (by decide))).2 (hp.ct (j := 0) (k := 5) rfl) hd kk
theorem zC_S7 (hp : zCV G B m0 v mm) (ho : own = y.cls) (hlink : Cond.fieldLink own ix RX5 (TX5 7).2.1 (TX5 7).2.2.1 ∈ zU) (hd : decode cc pc = .ok (.getfield ix, 3)) (kk : zV l G (y, cc, nL, ret) d0 rv Q (pc + 3) lv (.ref (B 6) :: st) mm) : zV l G (y, cc, nL, ret) d0 rv Q pc lv (.ref (B 0) :: st) mm :=
  z_get (ci := 5) zin5 rfl (by decide) (by decide) rfl ho hlink (hp.at (j := 0) (Or.inl (by decide))).1 (hp.at (j := 0) (Or.inl (by decide))).2 (hp.ct (j := 0) (k := 7) rfl) hd kk
theorem zC_S8 (hp : zCV G B m0 v mm) (ho : own = y.cls) (hlink : Cond.fieldLink own ix RX5 (TX5 8).2.1 (TX5 8).2.2.1 ∈ zU) (hd : decode cc pc = .ok (.getfield ix, 3)) (kk : zV l G (y, cc, nL, ret) d0 rv Q (pc + 3) lv (.ref (B 4) :: st) mm) : zV l G (y, cc, nL, ret) d0 rv Q pc lv (.ref (B 0) :: st) mm :=
  z_get (ci := 5) zin5 rfl (by decide) (by decide) rfl ho hlink (hp.at (j := 0) (Or.inl (by decide))).1 (hp.at (j := 0) (Or.inl (by decide))).2 (hp.ct (j := 0) (k := 8) rfl) hd kk
theorem zC_S11 (hp : zCV G B m0 v mm) (ho : own = y.cls) (hlink : Cond.fieldLink own ix RX5 (TX5 11).2.1 (TX5 11).2.2.1 ∈ zU) (hd : decode cc pc = .ok (.getfield ix, 3)) (kk : zV l G (y, cc, nL, ret) d0 rv Q (pc + 3) lv (.ref (B 7) :: st) mm) : zV l G (y, cc, nL, ret) d0 rv Q pc lv (.ref (B 0) :: st) mm :=
  z_get (ci := 5) zin5 rfl (by decide) (by decide) rfl ho hlink (hp.at (j := 0) (Or.inl (by decide))).1 (hp.at (j := 0) (Or.inl (by decide))).2 (hp.ct (j := 0) (k := 11) rfl) hd kk
theorem zC_S0 (hp : zCV G B m0 v mm) (ho : own = y.cls) (hlink : Cond.fieldLink own ix RX5 (TX5 0).2.1 (TX5 0).2.2.1 ∈ zU) (hd : decode cc pc = .ok (.getfield ix, 3)) (kk : zV l G (y, cc, nL, ret) d0 rv Q (pc + 3) lv (.int (v 0) :: st) mm) : zV l G (y, cc, nL, ret) d0 rv Q pc lv (.ref (B 0) :: st) mm :=
  z_get (ci := 5) zin5 rfl (by decide) (by decide) rfl ho hlink (hp.at (j := 0) (Or.inl (by decide))).1 (hp.at (j := 0) (Or.inl (by decide))).2 (hp.int (j := 0) (k := 0) (i := 0) rfl (fun _ _ => by omega)) hd kk
theorem zC_Sp0 {x : Int32} (hp : zCV G B m0 v mm) (ho : own = y.cls) (hlink : Cond.fieldLink own ix RX5 (TX5 0).2.1 (TX5 0).2.2.1 ∈ zU) (hd : decode cc pc = .ok (.putfield ix, 3)) (kk : ∀ mm', zCV G B m0 (upd v 0 x) mm' → zV l G (y, cc, nL, ret) d0 rv Q (pc + 3) lv st mm') : zV l G (y, cc, nL, ret) d0 rv Q pc lv (.int x :: .ref (B 0) :: st) mm :=
  z_put (ci := 5) zin5 tyX5_ok nmX5 rfl (by decide) (by decide) rfl rfl rfl rfl rfl ho hlink (hp.at (j := 0) (Or.inl (by decide))).1 (hp.at (j := 0) (Or.inl (by decide))).2 hd (kk _ (hp.set (j := 0) (k := 0) (i := 0) rfl (fun _ _ => ⟨by omega, by omega⟩) x))
theorem zC_S4 (hp : zCV G B m0 v mm) (ho : own = y.cls) (hlink : Cond.fieldLink own ix RX5 (TX5 4).2.1 (TX5 4).2.2.1 ∈ zU) (hd : decode cc pc = .ok (.getfield ix, 3)) (kk : zV l G (y, cc, nL, ret) d0 rv Q (pc + 3) lv (.int (v 1) :: st) mm) : zV l G (y, cc, nL, ret) d0 rv Q pc lv (.ref (B 0) :: st) mm :=
  z_get (ci := 5) zin5 rfl (by decide) (by decide) rfl ho hlink (hp.at (j := 0) (Or.inl (by decide))).1 (hp.at (j := 0) (Or.inl (by decide))).2 (hp.int (j := 0) (k := 4) (i := 1) rfl (fun _ _ => by omega)) hd kk
theorem zC_Sp4 {x : Int32} (hp : zCV G B m0 v mm) (ho : own = y.cls) (hlink : Cond.fieldLink own ix RX5 (TX5 4).2.1 (TX5 4).2.2.1 ∈ zU) (hd : decode cc pc = .ok (.putfield ix, 3)) (kk : ∀ mm', zCV G B m0 (upd v 1 x) mm' → zV l G (y, cc, nL, ret) d0 rv Q (pc + 3) lv st mm') : zV l G (y, cc, nL, ret) d0 rv Q pc lv (.int x :: .ref (B 0) :: st) mm :=
  z_put (ci := 5) zin5 tyX5_ok nmX5 rfl (by decide) (by decide) rfl rfl rfl rfl rfl ho hlink (hp.at (j := 0) (Or.inl (by decide))).1 (hp.at (j := 0) (Or.inl (by decide))).2 hd (kk _ (hp.set (j := 0) (k := 4) (i := 1) rfl (fun _ _ => ⟨by omega, by omega⟩) x))
theorem zC_S6 (hp : zCV G B m0 v mm) (ho : own = y.cls) (hlink : Cond.fieldLink own ix RX5 (TX5 6).2.1 (TX5 6).2.2.1 ∈ zU) (hd : decode cc pc = .ok (.getfield ix, 3)) (kk : zV l G (y, cc, nL, ret) d0 rv Q (pc + 3) lv (.int (v 2) :: st) mm) : zV l G (y, cc, nL, ret) d0 rv Q pc lv (.ref (B 0) :: st) mm :=
  z_get (ci := 5) zin5 rfl (by decide) (by decide) rfl ho hlink (hp.at (j := 0) (Or.inl (by decide))).1 (hp.at (j := 0) (Or.inl (by decide))).2 (hp.int (j := 0) (k := 6) (i := 2) rfl (fun _ _ => by omega)) hd kk
theorem zC_Sp6 {x : Int32} (hp : zCV G B m0 v mm) (ho : own = y.cls) (hlink : Cond.fieldLink own ix RX5 (TX5 6).2.1 (TX5 6).2.2.1 ∈ zU) (hd : decode cc pc = .ok (.putfield ix, 3)) (kk : ∀ mm', zCV G B m0 (upd v 2 x) mm' → zV l G (y, cc, nL, ret) d0 rv Q (pc + 3) lv st mm') : zV l G (y, cc, nL, ret) d0 rv Q pc lv (.int x :: .ref (B 0) :: st) mm :=
  z_put (ci := 5) zin5 tyX5_ok nmX5 rfl (by decide) (by decide) rfl rfl rfl rfl rfl ho hlink (hp.at (j := 0) (Or.inl (by decide))).1 (hp.at (j := 0) (Or.inl (by decide))).2 hd (kk _ (hp.set (j := 0) (k := 6) (i := 2) rfl (fun _ _ => ⟨by omega, by omega⟩) x))
theorem zC_S9 (hp : zCV G B m0 v mm) (ho : own = y.cls) (hlink : Cond.fieldLink own ix RX5 (TX5 9).2.1 (TX5 9).2.2.1 ∈ zU) (hd : decode cc pc = .ok (.getfield ix, 3)) (kk : zV l G (y, cc, nL, ret) d0 rv Q (pc + 3) lv (.int (v 7) :: st) mm) : zV l G (y, cc, nL, ret) d0 rv Q pc lv (.ref (B 0) :: st) mm :=
  z_get (ci := 5) zin5 rfl (by decide) (by decide) rfl ho hlink (hp.at (j := 0) (Or.inl (by decide))).1 (hp.at (j := 0) (Or.inl (by decide))).2 (hp.int (j := 0) (k := 9) (i := 7) rfl (fun _ _ => by omega)) hd kk
theorem zC_Sp9 {x : Int32} (hp : zCV G B m0 v mm) (ho : own = y.cls) (hlink : Cond.fieldLink own ix RX5 (TX5 9).2.1 (TX5 9).2.2.1 ∈ zU) (hd : decode cc pc = .ok (.putfield ix, 3)) (kk : ∀ mm', zCV G B m0 (upd v 7 x) mm' → zV l G (y, cc, nL, ret) d0 rv Q (pc + 3) lv st mm') : zV l G (y, cc, nL, ret) d0 rv Q pc lv (.int x :: .ref (B 0) :: st) mm :=
  z_put (ci := 5) zin5 tyX5_ok nmX5 rfl (by decide) (by decide) rfl rfl rfl rfl rfl ho hlink (hp.at (j := 0) (Or.inl (by decide))).1 (hp.at (j := 0) (Or.inl (by decide))).2 hd (kk _ (hp.set (j := 0) (k := 9) (i := 7) rfl (fun _ _ => ⟨by omega, by omega⟩) x))
theorem zC_S10 (hp : zCV G B m0 v mm) (ho : own = y.cls) (hlink : Cond.fieldLink own ix RX5 (TX5 10).2.1 (TX5 10).2.2.1 ∈ zU) (hd : decode cc pc = .ok (.getfield ix, 3)) (kk : zV l G (y, cc, nL, ret) d0 rv Q (pc + 3) lv (.int (v 8) :: st) mm) : zV l G (y, cc, nL, ret) d0 rv Q pc lv (.ref (B 0) :: st) mm :=
  z_get (ci := 5) zin5 rfl (by decide) (by decide) rfl ho hlink (hp.at (j := 0) (Or.inl (by decide))).1 (hp.at (j := 0) (Or.inl (by decide))).2 (hp.int (j := 0) (k := 10) (i := 8) rfl (fun _ _ => by omega)) hd kk
theorem zC_D0 (hp : zCV G B m0 v mm) (hdd : d < 10) (ho : own = y.cls) (hlink : Cond.fieldLink own ix RX0 (TX0 0).2.1 (TX0 0).2.2.1 ∈ zU) (hd : decode cc pc = .ok (.getfield ix, 3)) (kk : zV l G (y, cc, nL, ret) d0 rv Q (pc + 3) lv (.int (nI d) :: st) mm) : zV l G (y, cc, nL, ret) d0 rv Q pc lv (.ref (B (10 + d)) :: st) mm :=
  z_get (ci := 0) zin0 rfl (by decide) (by decide) rfl ho hlink (hp.at (j := 10 + d) (Or.inr (by omega))).1 ((hp.at (j := 10 + d) (Or.inr (by omega))).2.trans (zBsh_d hdd)) (hp.ct (zCt_d0 hdd)) hd kk
theorem zC_D6 (hp : zCV G B m0 v mm) (hdd : d < 10) (ho : own = y.cls) (hlink : Cond.fieldLink own ix RX0 (TX0 6).2.1 (TX0 6).2.2.1 ∈ zU) (hd : decode cc pc = .ok (.getfield ix, 3)) (kk : zV l G (y, cc, nL, ret) d0 rv Q (pc + 3) lv (.ref (B (20 + d)) :: st) mm) : zV l G (y, cc, nL, ret) d0 rv Q pc lv (.ref (B (10 + d)) :: st) mm :=
  z_get (ci := 0) zin0 rfl (by decide) (by decide) rfl ho hlink (hp.at (j := 10 + d) (Or.inr (by omega))).1 ((hp.at (j := 10 + d) (Or.inr (by omega))).2.trans (zBsh_d hdd)) (hp.ct (zCt_d6 hdd)) hd kk
theorem zC_D1 (hp : zCV G B m0 v mm) (hdd : d < 10) (ho : own = y.cls) (hlink : Cond.fieldLink own ix RX0 (TX0 1).2.1 (TX0 1).2.2.1 ∈ zU) (hd : decode cc pc = .ok (.getfield ix, 3)) (kk : zV l G (y, cc, nL, ret) d0 rv Q (pc + 3) lv (.int (v (27 + 12 * d + 0)) :: st) mm) : zV l G (y, cc, nL, ret) d0 rv Q pc lv (.ref (B (10 + d)) :: st) mm :=
  z_get (ci := 0) zin0 rfl (by decide) (by decide) rfl ho hlink (hp.at (j := 10 + d) (Or.inr (by omega))).1 ((hp.at (j := 10 + d) (Or.inr (by omega))).2.trans (zBsh_d hdd)) (hp.int (zIx_d hdd (k := 1) (by decide)) (fun _ _ => by omega)) hd kk
theorem zC_Dp1 {x : Int32} (hp : zCV G B m0 v mm) (hdd : d < 10) (ho : own = y.cls) (hlink : Cond.fieldLink own ix RX0 (TX0 1).2.1 (TX0 1).2.2.1 ∈ zU) (hd : decode cc pc = .ok (.putfield ix, 3)) (kk : ∀ mm', zCV G B m0 (upd v (27 + 12 * d + 0) x) mm' → zV l G (y, cc, nL, ret) d0 rv Q (pc + 3) lv st mm') : zV l G (y, cc, nL, ret) d0 rv Q pc lv (.int x :: .ref (B (10 + d)) :: st) mm :=
  z_put (ci := 0) zin0 tyX0_ok nmX0 rfl (by decide) (by decide) rfl rfl rfl rfl rfl ho hlink (hp.at (j := 10 + d) (Or.inr (by omega))).1 ((hp.at (j := 10 + d) (Or.inr (by omega))).2.trans (zBsh_d hdd)) hd (kk _ (hp.set (zIx_d hdd (k := 1) (by decide)) (fun _ _ => ⟨by omega, by omega⟩) x))
theorem zC_D2 (hp : zCV G B m0 v mm) (hdd : d < 10) (ho : own = y.cls) (hlink : Cond.fieldLink own ix RX0 (TX0 2).2.1 (TX0 2).2.2.1 ∈ zU) (hd : decode cc pc = .ok (.getfield ix, 3)) (kk : zV l G (y, cc, nL, ret) d0 rv Q (pc + 3) lv (.int (v (27 + 12 * d + 1)) :: st) mm) : zV l G (y, cc, nL, ret) d0 rv Q pc lv (.ref (B (10 + d)) :: st) mm :=
  z_get (ci := 0) zin0 rfl (by decide) (by decide) rfl ho hlink (hp.at (j := 10 + d) (Or.inr (by omega))).1 ((hp.at (j := 10 + d) (Or.inr (by omega))).2.trans (zBsh_d hdd)) (hp.int (zIx_d hdd (k := 2) (by decide)) (fun _ _ => by omega)) hd kk
theorem zC_Dp2 {x : Int32} (hp : zCV G B m0 v mm) (hdd : d < 10) (ho : own = y.cls) (hlink : Cond.fieldLink own ix RX0 (TX0 2).2.1 (TX0 2).2.2.1 ∈ zU) (hd : decode cc pc = .ok (.putfield ix, 3)) (kk : ∀ mm', zCV G B m0 (upd v (27 + 12 * d + 1) x) mm' → zV l G (y, cc, nL, ret) d0 rv Q (pc + 3) lv st mm') : zV l G (y, cc, nL, ret) d0 rv Q pc lv (.int x :: .ref (B (10 + d)) :: st) mm :=
  z_put (ci := 0) zin0 tyX0_ok nmX0 rfl (by decide) (by decide) rfl rfl rfl rfl rfl ho hlink (hp.at (j := 10 + d) (Or.inr (by omega))).1 ((hp.at (j := 10 + d) (Or.inr (by omega))).2.trans (zBsh_d hdd)) hd (kk _ (hp.set (zIx_d hdd (k := 2) (by decide)) (fun _ _ => ⟨by omega, by omega⟩) x))
theorem zC_D3 (hp : zCV G B m0 v mm) (hdd : d < 10) (ho : own = y.cls) (hlink : Cond.fieldLink own ix RX0 (TX0 3).2.1 (TX0 3).2.2.1 ∈ zU) (hd : decode cc pc = .ok (.getfield ix, 3)) (kk : zV l G (y, cc, nL, ret) d0 rv Q (pc + 3) lv (.int (v (27 + 12 * d + 2)) :: st) mm) : zV l G (y, cc, nL, ret) d0 rv Q pc lv (.ref (B (10 + d)) :: st) mm :=
  z_get (ci := 0) zin0 rfl (by decide) (by decide) rfl ho hlink (hp.at (j := 10 + d) (Or.inr (by omega))).1 ((hp.at (j := 10 + d) (Or.inr (by omega))).2.trans (zBsh_d hdd)) (hp.int (zIx_d hdd (k := 3) (by decide)) (fun _ _ => by omega)) hd kk
theorem zC_Dp3 {x : Int32} (hp : zCV G B m0 v mm) (hdd : d < 10) (ho : own = y.cls) (hlink : Cond.fieldLink own ix RX0 (TX0 3).2.1 (TX0 3).2.2.1 ∈ zU) (hd : decode cc pc = .ok (.putfield ix, 3)) (kk : ∀ mm', zCV G B m0 (upd v (27 + 12 * d + 2) x) mm' → zV l G (y, cc, nL, ret) d0 rv Q (pc + 3) lv st mm') : zV l G (y, cc, nL, ret) d0 rv Q pc lv (.int x :: .ref (B (10 + d)) :: st) mm :=
  z_put (ci := 0) zin0 tyX0_ok nmX0 rfl (by decide) (by decide) rfl rfl rfl rfl rfl ho hlink (hp.at (j := 10 + d) (Or.inr (by omega))).1 ((hp.at (j := 10 + d) (Or.inr (by omega))).2.trans (zBsh_d hdd)) hd (kk _ (hp.set (zIx_d hdd (k := 3) (by decide)) (fun _ _ => ⟨by omega, by omega⟩) x))
theorem zC_D4 (hp : zCV G B m0 v mm) (hdd : d < 10) (ho : own = y.cls) (hlink : Cond.fieldLink own ix RX0 (TX0 4).2.1 (TX0 4).2.2.1 ∈ zU) (hd : decode cc pc = .ok (.getfield ix, 3)) (kk : zV l G (y, cc, nL, ret) d0 rv Q (pc + 3) lv (.int (v (27 + 12 * d + 3)) :: st) mm) : zV l G (y, cc, nL, ret) d0 rv Q pc lv (.ref (B (10 + d)) :: st) mm :=
  z_get (ci := 0) zin0 rfl (by decide) (by decide) rfl ho hlink (hp.at (j := 10 + d) (Or.inr (by omega))).1 ((hp.at (j := 10 + d) (Or.inr (by omega))).2.trans (zBsh_d hdd)) (hp.int (zIx_d hdd (k := 4) (by decide)) (fun _ _ => by omega)) hd kk
theorem zC_Dp4 {x : Int32} (hp : zCV G B m0 v mm) (hdd : d < 10) (ho : own = y.cls) (hlink : Cond.fieldLink own ix RX0 (TX0 4).2.1 (TX0 4).2.2.1 ∈ zU) (hd : decode cc pc = .ok (.putfield ix, 3)) (kk : ∀ mm', zCV G B m0 (upd v (27 + 12 * d + 3) x) mm' → zV l G (y, cc, nL, ret) d0 rv Q (pc + 3) lv st mm') : zV l G (y, cc, nL, ret) d0 rv Q pc lv (.int x :: .ref (B (10 + d)) :: st) mm :=
  z_put (ci := 0) zin0 tyX0_ok nmX0 rfl (by decide) (by decide) rfl rfl rfl rfl rfl ho hlink (hp.at (j := 10 + d) (Or.inr (by omega))).1 ((hp.at (j := 10 + d) (Or.inr (by omega))).2.trans (zBsh_d hdd)) hd (kk _ (hp.set (zIx_d hdd (k := 4) (by decide)) (fun _ _ => ⟨by omega, by omega⟩) x))
theorem zC_D5 (hp : zCV G B m0 v mm) (hdd : d < 10) (ho : own = y.cls) (hlink : Cond.fieldLink own ix RX0 (TX0 5).2.1 (TX0 5).2.2.1 ∈ zU) (hd : decode cc pc = .ok (.getfield ix, 3)) (kk : zV l G (y, cc, nL, ret) d0 rv Q (pc + 3) lv (.int (v (27 + 12 * d + 4)) :: st) mm) : zV l G (y, cc, nL, ret) d0 rv Q pc lv (.ref (B (10 + d)) :: st) mm :=
  z_get (ci := 0) zin0 rfl (by decide) (by decide) rfl ho hlink (hp.at (j := 10 + d) (Or.inr (by omega))).1 ((hp.at (j := 10 + d) (Or.inr (by omega))).2.trans (zBsh_d hdd)) (hp.int (zIx_d hdd (k := 5) (by decide)) (fun _ _ => by omega)) hd kk
theorem zC_Dp5 {x : Int32} (hp : zCV G B m0 v mm) (hdd : d < 10) (ho : own = y.cls) (hlink : Cond.fieldLink own ix RX0 (TX0 5).2.1 (TX0 5).2.2.1 ∈ zU) (hd : decode cc pc = .ok (.putfield ix, 3)) (kk : ∀ mm', zCV G B m0 (upd v (27 + 12 * d + 4) x) mm' → zV l G (y, cc, nL, ret) d0 rv Q (pc + 3) lv st mm') : zV l G (y, cc, nL, ret) d0 rv Q pc lv (.int x :: .ref (B (10 + d)) :: st) mm :=
  z_put (ci := 0) zin0 tyX0_ok nmX0 rfl (by decide) (by decide) rfl rfl rfl rfl rfl ho hlink (hp.at (j := 10 + d) (Or.inr (by omega))).1 ((hp.at (j := 10 + d) (Or.inr (by omega))).2.trans (zBsh_d hdd)) hd (kk _ (hp.set (zIx_d hdd (k := 5) (by decide)) (fun _ _ => ⟨by omega, by omega⟩) x))
theorem zC_D7 (hp : zCV G B m0 v mm) (hdd : d < 10) (ho : own = y.cls) (hlink : Cond.fieldLink own ix RX0 (TX0 7).2.1 (TX0 7).2.2.1 ∈ zU) (hd : decode cc pc = .ok (.getfield ix, 3)) (kk : zV l G (y, cc, nL, ret) d0 rv Q (pc + 3) lv (.int (v (27 + 12 * d + 5)) :: st) mm) : zV l G (y, cc, nL, ret) d0 rv Q pc lv (.ref (B (10 + d)) :: st) mm :=
  z_get (ci := 0) zin0 rfl (by decide) (by decide) rfl ho hlink (hp.at (j := 10 + d) (Or.inr (by omega))).1 ((hp.at (j := 10 + d) (Or.inr (by omega))).2.trans (zBsh_d hdd)) (hp.int (zIx_d7 hdd) (fun _ _ => by omega)) hd kk
theorem zC_Dp7 {x : Int32} (hp : zCV G B m0 v mm) (hdd : d < 10) (ho : own = y.cls) (hlink : Cond.fieldLink own ix RX0 (TX0 7).2.1 (TX0 7).2.2.1 ∈ zU) (hd : decode cc pc = .ok (.putfield ix, 3)) (kk : ∀ mm', zCV G B m0 (upd v (27 + 12 * d + 5) x) mm' → zV l G (y, cc, nL, ret) d0 rv Q (pc + 3) lv st mm') : zV l G (y, cc, nL, ret) d0 rv Q pc lv (.int x :: .ref (B (10 + d)) :: st) mm :=
  z_put (ci := 0) zin0 tyX0_ok nmX0 rfl (by decide) (by decide) rfl rfl rfl rfl rfl ho hlink (hp.at (j := 10 + d) (Or.inr (by omega))).1 ((hp.at (j := 10 + d) (Or.inr (by omega))).2.trans (zBsh_d hdd)) hd (kk _ (hp.set (zIx_d7 hdd) (fun _ _ => ⟨by omega, by omega⟩) x))
theorem zC_R0 (hp : zCV G B m0 v mm) (hrr : r < 60) (ho : own = y.cls) (hlink : Cond.fieldLink own ix RX4 (TX4 0).2.1 (TX4 0).2.2.1 ∈ zU) (hd : decode cc pc = .ok (.getfield ix, 3)) (kk : zV l G (y, cc, nL, ret) d0 rv Q (pc + 3) lv (.int (nI r) :: st) mm) : zV l G (y, cc, nL, ret) d0 rv Q pc lv (.ref (B (30 + r)) :: st) mm :=
  z_get (ci := 4) zin4 rfl (by decide) (by decide) rfl ho hlink (hp.at (j := 30 + r) (Or.inr (by omega))).1 ((hp.at (j := 30 + r) (Or.inr (by omega))).2.trans (zBsh_r hrr)) (hp.ct (zCt_r0 hrr)) hd kk
theorem zC_R1 (hp : zCV G B m0 v mm) (hrr : r < 60) (ho : own = y.cls) (hlink : Cond.fieldLink own ix RX4 (TX4 1).2.1 (TX4 1).2.2.1 ∈ zU) (hd : decode cc pc = .ok (.getfield ix, 3)) (kk : zV l G (y, cc, nL, ret) d0 rv Q (pc + 3) lv (.int (v (147 + 7 * r + 0)) :: st) mm) : zV l G (y, cc, nL, ret) d0 rv Q pc lv (.ref (B (30 + r)) :: st) mm :=
  z_get (ci := 4) zin4 rfl (by decide) (by decide) rfl ho hlink (hp.at (j := 30 + r) (Or.inr (by omega))).1 ((hp.at (j := 30 + r) (Or.inr (by omega))).2.trans (zBsh_r hrr)) (hp.int (zIx_r hrr (k := 1) (by decide)) (fun _ _ => by omega)) hd kk
theorem zC_Rp1 {x : Int32} (hp : zCV G B m0 v mm) (hrr : r < 60) (ho : own = y.cls) (hlink : Cond.fieldLink own ix RX4 (TX4 1).2.1 (TX4 1).2.2.1 ∈ zU) (hd : decode cc pc = .ok (.putfield ix, 3)) (kk : ∀ mm', zCV G B m0 (upd v (147 + 7 * r + 0) x) mm' → zV l G (y, cc, nL, ret) d0 rv Q (pc + 3) lv st mm') : zV l G (y, cc, nL, ret) d0 rv Q pc lv (.int x :: .ref (B (30 + r)) :: st) mm :=
  z_put (ci := 4) zin4 tyX4_ok nmX4 rfl (by decide) (by decide) rfl rfl rfl rfl rfl ho hlink (hp.at (j := 30 + r) (Or.inr (by omega))).1 ((hp.at (j := 30 + r) (Or.inr (by omega))).2.trans (zBsh_r hrr)) hd (kk _ (hp.set (zIx_r hrr (k := 1) (by decide)) (fun _ _ => ⟨by omega, by omega⟩) x))
theorem zC_R2 (hp : zCV G B m0 v mm) (hrr : r < 60) (ho : own = y.cls) (hlink : Cond.fieldLink own ix RX4 (TX4 2).2.1 (TX4 2).2.2.1 ∈ zU) (hd : decode cc pc = .ok (.getfield ix, 3)) (kk : zV l G (y, cc, nL, ret) d0 rv Q (pc + 3) lv (.int (v (147 + 7 * r + 1)) :: st) mm) : zV l G (y, cc, nL, ret) d0 rv Q pc lv (.ref (B (30 + r)) :: st) mm :=
  z_get (ci := 4) zin4 rfl (by decide) (by decide) rfl ho hlink (hp.at (j := 30 + r) (Or.inr (by omega))).1 ((hp.at (j := 30 + r) (Or.inr (by omega))).2.trans (zBsh_r hrr)) (hp.int (zIx_r hrr (k := 2) (by decide)) (fun _ _ => by omega)) hd kk
theorem zC_Rp2 {x : Int32} (hp : zCV G B m0 v mm) (hrr : r < 60) (ho : own = y.cls) (hlink : Cond.fieldLink own ix RX4 (TX4 2).2.1 (TX4 2).2.2.1 ∈ zU) (hd : decode cc pc = .ok (.putfield ix, 3)) (kk : ∀ mm', zCV G B m0 (upd v (147 + 7 * r + 1) x) mm' → zV l G (y, cc, nL, ret) d0 rv Q (pc + 3) lv st mm') : zV l G (y, cc, nL, ret) d0 rv Q pc lv (.int x :: .ref (B (30 + r)) :: st) mm :=
  z_put (ci := 4) zin4 tyX4_ok nmX4 rfl (by decide) (by decide) rfl rfl rfl rfl rfl ho hlink (hp.at (j := 30 + r) (Or.inr (by omega))).1 ((hp.at (j := 30 + r) (Or.inr (by omega))).2.trans (zBsh_r hrr)) hd (kk _ (hp.set (zIx_r hrr (k := 2) (by decide)) (fun _ _ => ⟨by omega, by omega⟩) x))
theorem zC_R3 (hp : zCV G B m0 v mm) (hrr : r < 60) (ho : own = y.cls) (hlink : Cond.fieldLink own ix RX4 (TX4 3).2.1 (TX4 3).2.2.1 ∈ zU) (hd : decode cc pc = .ok (.getfield ix, 3)) (kk : zV l G (y, cc, nL, ret) d0 rv Q (pc + 3) lv (.int (v (147 + 7 * r + 2)) :: st) mm) : zV l G (y, cc, nL, ret) d0 rv Q pc lv (.ref (B (30 + r)) :: st) mm :=
  z_get (ci := 4) zin4 rfl (by decide) (by decide) rfl ho hlink (hp.at (j := 30 + r) (Or.inr (by omega))).1 ((hp.at (j := 30 + r) (Or.inr (by omega))).2.trans (zBsh_r hrr)) (hp.int (zIx_r hrr (k := 3) (by decide)) (fun _ _ => by omega)) hd kk
theorem zC_Rp3 {x : Int32} (hp : zCV G B m0 v mm) (hrr : r < 60) (ho : own = y.cls) (hlink : Cond.fieldLink own ix RX4 (TX4 3).2.1 (TX4 3).2.2.1 ∈ zU) (hd : decode cc pc = .ok (.putfield ix, 3)) (kk : ∀ mm', zCV G B m0 (upd v (147 + 7 * r + 2) x) mm' → zV l G (y, cc, nL, ret) d0 rv Q (pc + 3) lv st mm') : zV l G (y, cc, nL, ret) d0 rv Q pc lv (.int x :: .ref (B (30 + r)) :: st) mm :=
  z_put (ci := 4) zin4 tyX4_ok nmX4 rfl (by decide) (by decide) rfl rfl rfl rfl rfl ho hlink (hp.at (j := 30 + r) (Or.inr (by omega))).1 ((hp.at (j := 30 + r) (Or.inr (by omega))).2.trans (zBsh_r hrr)) hd (kk _ (hp.set (zIx_r hrr (k := 3) (by decide)) (fun _ _ => ⟨by omega, by omega⟩) x))
theorem zC_R4 (hp : zCV G B m0 v mm) (hrr : r < 60) (ho : own = y.cls) (hlink : Cond.fieldLink own ix RX4 (TX4 4).2.1 (TX4 4).2.2.1 ∈ zU) (hd : decode cc pc = .ok (.getfield ix, 3)) (kk : zV l G (y, cc, nL, ret) d0 rv Q (pc + 3) lv (.int (v (147 + 7 * r + 3)) :: st) mm) : zV l G (y, cc, nL, ret) d0 rv Q pc lv (.ref (B (30 + r)) :: st) mm :=
  z_get (ci := 4) zin4 rfl (by decide) (by decide) rfl ho hlink (hp.at (j := 30 + r) (Or.inr (by omega))).1 ((hp.at (j := 30 + r) (Or.inr (by omega))).2.trans (zBsh_r hrr)) (hp.int (zIx_r hrr (k := 4) (by decide)) (fun _ _ => by omega)) hd kk
theorem zC_R5 (hp : zCV G B m0 v mm) (hrr : r < 60) (ho : own = y.cls) (hlink : Cond.fieldLink own ix RX4 (TX4 5).2.1 (TX4 5).2.2.1 ∈ zU) (hd : decode cc pc = .ok (.getfield ix, 3)) (kk : zV l G (y, cc, nL, ret) d0 rv Q (pc + 3) lv (.int (kAsk v r) :: st) mm) : zV l G (y, cc, nL, ret) d0 rv Q pc lv (.ref (B (30 + r)) :: st) mm :=
  z_get (ci := 4) zin4 rfl (by decide) (by decide) rfl ho hlink (hp.at (j := 30 + r) (Or.inr (by omega))).1 ((hp.at (j := 30 + r) (Or.inr (by omega))).2.trans (zBsh_r hrr)) (hp.ask hrr) hd kk
theorem zC_R6 (hp : zCV G B m0 v mm) (hrr : r < 60) (ho : own = y.cls) (hlink : Cond.fieldLink own ix RX4 (TX4 6).2.1 (TX4 6).2.2.1 ∈ zU) (hd : decode cc pc = .ok (.getfield ix, 3)) (kk : zV l G (y, cc, nL, ret) d0 rv Q (pc + 3) lv (.int (v (147 + 7 * r + 5)) :: st) mm) : zV l G (y, cc, nL, ret) d0 rv Q pc lv (.ref (B (30 + r)) :: st) mm :=
  z_get (ci := 4) zin4 rfl (by decide) (by decide) rfl ho hlink (hp.at (j := 30 + r) (Or.inr (by omega))).1 ((hp.at (j := 30 + r) (Or.inr (by omega))).2.trans (zBsh_r hrr)) (hp.int (zIx_r hrr (k := 6) (by decide)) (fun _ _ => by omega)) hd kk
theorem zC_Rp6 {x : Int32} (hp : zCV G B m0 v mm) (hrr : r < 60) (ho : own = y.cls) (hlink : Cond.fieldLink own ix RX4 (TX4 6).2.1 (TX4 6).2.2.1 ∈ zU) (hd : decode cc pc = .ok (.putfield ix, 3)) (kk : ∀ mm', zCV G B m0 (upd v (147 + 7 * r + 5) x) mm' → zV l G (y, cc, nL, ret) d0 rv Q (pc + 3) lv st mm') : zV l G (y, cc, nL, ret) d0 rv Q pc lv (.int x :: .ref (B (30 + r)) :: st) mm :=
  z_put (ci := 4) zin4 tyX4_ok nmX4 rfl (by decide) (by decide) rfl rfl rfl rfl rfl ho hlink (hp.at (j := 30 + r) (Or.inr (by omega))).1 ((hp.at (j := 30 + r) (Or.inr (by omega))).2.trans (zBsh_r hrr)) hd (kk _ (hp.set (zIx_r hrr (k := 6) (by decide)) (fun _ _ => ⟨by omega, by omega⟩) x))
theorem zC_R7 (hp : zCV G B m0 v mm) (hrr : r < 60) (ho : own = y.cls) (hlink : Cond.fieldLink own ix RX4 (TX4 7).2.1 (TX4 7).2.2.1 ∈ zU) (hd : decode cc pc = .ok (.getfield ix, 3)) (kk : zV l G (y, cc, nL, ret) d0 rv Q (pc + 3) lv (.int (v (147 + 7 * r + 6)) :: st) mm) : zV l G (y, cc, nL, ret) d0 rv Q pc lv (.ref (B (30 + r)) :: st) mm :=
  z_get (ci := 4) zin4 rfl (by decide) (by decide) rfl ho hlink (hp.at (j := 30 + r) (Or.inr (by omega))).1 ((hp.at (j := 30 + r) (Or.inr (by omega))).2.trans (zBsh_r hrr)) (hp.int (zIx_r hrr (k := 7) (by decide)) (fun _ _ => by omega)) hd kk
theorem zC_Rp7 {x : Int32} (hp : zCV G B m0 v mm) (hrr : r < 60) (ho : own = y.cls) (hlink : Cond.fieldLink own ix RX4 (TX4 7).2.1 (TX4 7).2.2.1 ∈ zU) (hd : decode cc pc = .ok (.putfield ix, 3)) (kk : ∀ mm', zCV G B m0 (upd v (147 + 7 * r + 6) x) mm' → zV l G (y, cc, nL, ret) d0 rv Q (pc + 3) lv st mm') : zV l G (y, cc, nL, ret) d0 rv Q pc lv (.int x :: .ref (B (30 + r)) :: st) mm :=
  z_put (ci := 4) zin4 tyX4_ok nmX4 rfl (by decide) (by decide) rfl rfl rfl rfl rfl ho hlink (hp.at (j := 30 + r) (Or.inr (by omega))).1 ((hp.at (j := 30 + r) (Or.inr (by omega))).2.trans (zBsh_r hrr)) hd (kk _ (hp.set (zIx_r hrr (k := 7) (by decide)) (fun _ _ => ⟨by omega, by omega⟩) x))
theorem zC_a1 (hp : zCV G B m0 v mm) (hn : n < 4) (hd : decode cc pc = .ok (.iaload, 1)) (kk : zV l G (y, cc, nL, ret) d0 rv Q (pc + 1) lv (.int (v (3 + n)) :: st) mm) : zV l G (y, cc, nL, ret) d0 rv Q pc lv (.int (nI n) :: .ref (B 1) :: st) mm :=
  z_iald (hp.at (j := 1) (Or.inl (by decide))).1 ((hp.at (j := 1) (Or.inl (by decide))).2.trans rfl) rfl hn (by decide) (hp.int (zIx_1 hn) (fun _ _ => by omega)) hd kk
theorem zC_a1s {x : Int32} (hp : zCV G B m0 v mm) (hn : n < 4) (hd : decode cc pc = .ok (.iastore, 1)) (kk : ∀ mm', zCV G B m0 (upd v (3 + n) x) mm' → zV l G (y, cc, nL, ret) d0 rv Q (pc + 1) lv st mm') : zV l G (y, cc, nL, ret) d0 rv Q pc lv (.int x :: .int (nI n) :: .ref (B 1) :: st) mm :=
  z_iast (hp.at (j := 1) (Or.inl (by decide))).1 ((hp.at (j := 1) (Or.inl (by decide))).2.trans rfl) rfl hn (by decide) hd (kk _ (hp.set (zIx_1 hn) (fun _ _ => ⟨by omega, by omega⟩) x))
theorem zC_a1l (hp : zCV G B m0 v mm) (hd : decode cc pc = .ok (.arraylength, 1)) (kk : zV l G (y, cc, nL, ret) d0 rv Q (pc + 1) lv (.int (nI 4) :: st) mm) : zV l G (y, cc, nL, ret) d0 rv Q pc lv (.ref (B 1) :: st) mm :=
  z_alen (t0 := 1) (nI 4) (hp.at (j := 1) (Or.inl (by decide))).1 ((hp.at (j := 1) (Or.inl (by decide))).2.trans rfl) (by decide) rfl rfl hd kk
theorem zC_a2 (hp : zCV G B m0 v mm) (hn : n < 4) (hd : decode cc pc = .ok (.iaload, 1)) (kk : zV l G (y, cc, nL, ret) d0 rv Q (pc + 1) lv (.int (v (9 + 2 * n)) :: st) mm) : zV l G (y, cc, nL, ret) d0 rv Q pc lv (.int (nI n) :: .ref (B 2) :: st) mm :=
  z_iald (hp.at (j := 2) (Or.inl (by decide))).1 ((hp.at (j := 2) (Or.inl (by decide))).2.trans rfl) rfl hn (by decide) (hp.int (zIx_2 hn) (fun _ _ => by omega)) hd kk
theorem zC_a2s {x : Int32} (hp : zCV G B m0 v mm) (hn : n < 4) (hd : decode cc pc = .ok (.iastore, 1)) (kk : ∀ mm', zCV G B m0 (upd v (9 + 2 * n) x) mm' → zV l G (y, cc, nL, ret) d0 rv Q (pc + 1) lv st mm') : zV l G (y, cc, nL, ret) d0 rv Q pc lv (.int x :: .int (nI n) :: .ref (B 2) :: st) mm :=
  z_iast (hp.at (j := 2) (Or.inl (by decide))).1 ((hp.at (j := 2) (Or.inl (by decide))).2.trans rfl) rfl hn (by decide) hd (kk _ (hp.set (zIx_2 hn) (fun _ _ => ⟨by omega, by omega⟩) x))
theorem zC_a2l (hp : zCV G B m0 v mm) (hd : decode cc pc = .ok (.arraylength, 1)) (kk : zV l G (y, cc, nL, ret) d0 rv Q (pc + 1) lv (.int (nI 4) :: st) mm) : zV l G (y, cc, nL, ret) d0 rv Q pc lv (.ref (B 2) :: st) mm :=
  z_alen (t0 := 1) (nI 4) (hp.at (j := 2) (Or.inl (by decide))).1 ((hp.at (j := 2) (Or.inl (by decide))).2.trans rfl) (by decide) rfl rfl hd kk
theorem zC_a3 (hp : zCV G B m0 v mm) (hn : n < 4) (hd : decode cc pc = .ok (.iaload, 1)) (kk : zV l G (y, cc, nL, ret) d0 rv Q (pc + 1) lv (.int (v (9 + 2 * n + 1)) :: st) mm) : zV l G (y, cc, nL, ret) d0 rv Q pc lv (.int (nI n) :: .ref (B 3) :: st) mm :=
  z_iald (hp.at (j := 3) (Or.inl (by decide))).1 ((hp.at (j := 3) (Or.inl (by decide))).2.trans rfl) rfl hn (by decide) (hp.int (zIx_3 hn) (fun _ _ => by omega)) hd kk
theorem zC_a3s {x : Int32} (hp : zCV G B m0 v mm) (hn : n < 4) (hd : decode cc pc = .ok (.iastore, 1)) (kk : ∀ mm', zCV G B m0 (upd v (9 + 2 * n + 1) x) mm' → zV l G (y, cc, nL, ret) d0 rv Q (pc + 1) lv st mm') : zV l G (y, cc, nL, ret) d0 rv Q pc lv (.int x :: .int (nI n) :: .ref (B 3) :: st) mm :=
  z_iast (hp.at (j := 3) (Or.inl (by decide))).1 ((hp.at (j := 3) (Or.inl (by decide))).2.trans rfl) rfl hn (by decide) hd (kk _ (hp.set (zIx_3 hn) (fun _ _ => ⟨by omega, by omega⟩) x))
theorem zC_a4 (hp : zCV G B m0 v mm) (hn : n < 10) (hd : decode cc pc = .ok (.iaload, 1)) (kk : zV l G (y, cc, nL, ret) d0 rv Q (pc + 1) lv (.int (v (17 + n)) :: st) mm) : zV l G (y, cc, nL, ret) d0 rv Q pc lv (.int (nI n) :: .ref (B 4) :: st) mm :=
  z_iald (hp.at (j := 4) (Or.inl (by decide))).1 ((hp.at (j := 4) (Or.inl (by decide))).2.trans rfl) rfl hn (by decide) (hp.int (zIx_4 hn) (fun _ _ => by omega)) hd kk
theorem zC_a4s {x : Int32} (hp : zCV G B m0 v mm) (hn : n < 10) (hd : decode cc pc = .ok (.iastore, 1)) (kk : ∀ mm', zCV G B m0 (upd v (17 + n) x) mm' → zV l G (y, cc, nL, ret) d0 rv Q (pc + 1) lv st mm') : zV l G (y, cc, nL, ret) d0 rv Q pc lv (.int x :: .int (nI n) :: .ref (B 4) :: st) mm :=
  z_iast (hp.at (j := 4) (Or.inl (by decide))).1 ((hp.at (j := 4) (Or.inl (by decide))).2.trans rfl) rfl hn (by decide) hd (kk _ (hp.set (zIx_4 hn) (fun _ _ => ⟨by omega, by omega⟩) x))
theorem zC_al (hp : zCV G B m0 v mm) (hdd : d < 10) (hn : n < 6) (hd : decode cc pc = .ok (.iaload, 1)) (kk : zV l G (y, cc, nL, ret) d0 rv Q (pc + 1) lv (.int (v (27 + 12 * d + (6 + n))) :: st) mm) : zV l G (y, cc, nL, ret) d0 rv Q pc lv (.int (nI n) :: .ref (B (20 + d)) :: st) mm :=
  z_iald (hp.at (j := (20 + d)) (Or.inr (by omega))).1 ((hp.at (j := (20 + d)) (Or.inr (by omega))).2.trans (zBsh_l hdd)) rfl hn (by decide) (hp.int (zIx_l hdd hn) (fun _ _ => by omega)) hd kk
theorem zC_als {x : Int32} (hp : zCV G B m0 v mm) (hdd : d < 10) (hn : n < 6) (hd : decode cc pc = .ok (.iastore, 1)) (kk : ∀ mm', zCV G B m0 (upd v (27 + 12 * d + (6 + n)) x) mm' → zV l G (y, cc, nL, ret) d0 rv Q (pc + 1) lv st mm') : zV l G (y, cc, nL, ret) d0 rv Q pc lv (.int x :: .int (nI n) :: .ref (B (20 + d)) :: st) mm :=
  z_iast (hp.at (j := (20 + d)) (Or.inr (by omega))).1 ((hp.at (j := (20 + d)) (Or.inr (by omega))).2.trans (zBsh_l hdd)) rfl hn (by decide) hd (kk _ (hp.set (zIx_l hdd hn) (fun _ _ => ⟨by omega, by omega⟩) x))
theorem zC_all (hp : zCV G B m0 v mm) (hdd : d < 10) (hd : decode cc pc = .ok (.arraylength, 1)) (kk : zV l G (y, cc, nL, ret) d0 rv Q (pc + 1) lv (.int (nI 6) :: st) mm) : zV l G (y, cc, nL, ret) d0 rv Q pc lv (.ref (B (20 + d)) :: st) mm :=
  z_alen (t0 := 1) (nI 6) (hp.at (j := (20 + d)) (Or.inr (by omega))).1 ((hp.at (j := (20 + d)) (Or.inr (by omega))).2.trans (zBsh_l hdd)) (by decide) rfl rfl hd kk
theorem zC_a5 (hp : zCV G B m0 v mm) (hn : n < 10) (hd : decode cc pc = .ok (.aaload, 1)) (kk : zV l G (y, cc, nL, ret) d0 rv Q (pc + 1) lv (.ref (B (10 + n)) :: st) mm) : zV l G (y, cc, nL, ret) d0 rv Q pc lv (.int (nI n) :: .ref (B 5) :: st) mm :=
  z_aald (t0 := 2) (C := RX0) (hp.at (j := 5) (Or.inl (by decide))).1 (hp.at (j := 5) (Or.inl (by decide))).2 (by decide) rfl rfl hn (by decide) (hp.ct (zCt_5 hn)) hd kk
theorem zC_a5l (hp : zCV G B m0 v mm) (hd : decode cc pc = .ok (.arraylength, 1)) (kk : zV l G (y, cc, nL, ret) d0 rv Q (pc + 1) lv (.int (nI 10) :: st) mm) : zV l G (y, cc, nL, ret) d0 rv Q pc lv (.ref (B 5) :: st) mm :=
  z_alen (t0 := 2) (nI 10) (hp.at (j := 5) (Or.inl (by decide))).1 (hp.at (j := 5) (Or.inl (by decide))).2 (by decide) rfl rfl hd kk
theorem zC_a6 (hp : zCV G B m0 v mm) (hn : n < 60) (hd : decode cc pc = .ok (.aaload, 1)) (kk : zV l G (y, cc, nL, ret) d0 rv Q (pc + 1) lv (.ref (B (30 + n)) :: st) mm) : zV l G (y, cc, nL, ret) d0 rv Q pc lv (.int (nI n) :: .ref (B 6) :: st) mm :=
  z_aald (t0 := 4) (C := RX4) (hp.at (j := 6) (Or.inl (by decide))).1 (hp.at (j := 6) (Or.inl (by decide))).2 (by decide) rfl rfl hn (by decide) (hp.ct (zCt_6 hn)) hd kk
theorem zC_a6l (hp : zCV G B m0 v mm) (hd : decode cc pc = .ok (.arraylength, 1)) (kk : zV l G (y, cc, nL, ret) d0 rv Q (pc + 1) lv (.int (nI 60) :: st) mm) : zV l G (y, cc, nL, ret) d0 rv Q pc lv (.ref (B 6) :: st) mm :=
  z_alen (t0 := 4) (nI 60) (hp.at (j := 6) (Or.inl (by decide))).1 (hp.at (j := 6) (Or.inl (by decide))).2 (by decide) rfl rfl hd kk
theorem zC_a7l (hp : zCV G B m0 v mm) (hd : decode cc pc = .ok (.arraylength, 1)) (kk : zV l G (y, cc, nL, ret) d0 rv Q (pc + 1) lv (.int (nI 10) :: st) mm) : zV l G (y, cc, nL, ret) d0 rv Q pc lv (.ref (B 7) :: st) mm :=
  z_alen (t0 := 3) (nI 10) (hp.at (j := 7) (Or.inl (by decide))).1 (hp.at (j := 7) (Or.inl (by decide))).2 (by decide) rfl rfl hd kk
end ZCR
