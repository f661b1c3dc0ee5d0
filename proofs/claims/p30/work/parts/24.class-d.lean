/-! the log: the rows of the events change places -/
def zCPe (G : zG) (B : Nat → Nat) (m0 : zM) (u : Nat → Int32) (σ ρ : Nat → Nat) (f : Nat → Nat → Int32) (mm : zM) : Prop :=
  (∀ j, zBd j → B j ∈ zL G) ∧ (∀ j, zBd j → zsh G (B j) = zBsh j) ∧ (∀ i j, zBd i → zBd j → B i = B j → i = j) ∧
  (∀ j k c, zCt j k = some c → mm (B j) k = zVal B c) ∧ (∀ j k i, zIx j k = some i → mm (B j) k = .int (u i)) ∧
  ((∀ i, i < 10 → σ i < 10) ∧ (∀ i j, i < 10 → j < 10 → σ i = σ j → i = j)) ∧ ((∀ i, i < 10 → ρ i < 10) ∧ ∀ i, i < 10 → mm (B 7) i = .ref (B (90 + σ (ρ i)))) ∧ (∀ i k, i < 10 → k < 4 → mm (B (90 + σ i)) k = .int (f i k)) ∧
  ∀ b, (∀ j, zBd j → b ≠ B j) → mm b = m0 b
def zfu (f : Nat → Nat → Int32) (i k : Nat) (x : Int32) : Nat → Nat → Int32 := fun a b => if a = i ∧ b = k then x else f a b
def zru (ρ : Nat → Nat) (n e : Nat) : Nat → Nat := fun i => if i = n then e else ρ i
theorem zCPe.seti {G : zG} {B : Nat → Nat} {m0 mm : zM} {u : Nat → Int32} {σ ρ : Nat → Nat} {f : Nat → Nat → Int32} (h : zCPe G B m0 u σ ρ f mm) {j k i : Nat} (hi : zIx j k = some i) (x : Int32) : zCPe G B m0 (upd u i x) σ ρ f (zup mm (B j) k (.int x)) := by
  obtain ⟨h1, h2, h3, h4, h5, hs, ⟨hr, h6⟩, h7, h8⟩ := h
  have hb := zIx_bd hi
  have hl := zIx_lt hi
  refine ⟨h1, h2, h3, fun j' k' c hc => ?_, fun j' k' i' hi' => ?_, hs, ⟨hr, fun e he => ?_⟩, fun e k' he hk' => ?_, fun b hne => ?_⟩
  · obtain ⟨c1, c2, -, -⟩ := zCt_bd hc
    rw [zup_ne (fun q => by have := h3 _ _ c1 hb q.1; subst this; rw [q.2] at c2; rw [c2] at hi; cases hi)]
    exact h4 j' k' c hc
  · by_cases e : j' = j ∧ k' = k
    · obtain ⟨rfl, rfl⟩ := e
      rw [hi] at hi'; cases hi'
      rw [zup_eq, upd_eq]
    · rw [zup_ne (fun q => e ⟨h3 _ _ (zIx_bd hi') hb q.1, q.2⟩), upd_ne (fun q => by subst q; exact e (zIx_inj hi' hi))]
      exact h5 j' k' i' hi'
  · have h77 : zIx 7 k = none := rfl
    rw [zup_ne (fun q => by have := h3 _ _ (Or.inl (by decide)) hb q.1; subst this; rw [h77] at hi; cases hi)]
    exact h6 e he
  · have hs1 := hs.1 e he
    rw [zup_ne (fun q => by have := h3 (90 + σ e) j (Or.inr (by omega)) hb q.1; omega)]
    exact h7 e k' he hk'
  · have e : zup mm (B j) k (.int x) b = mm b := by funext k'; exact zup_ne (fun q => hne j hb q.1)
    rw [e]; exact h8 b hne
theorem zCPe.setr {G : zG} {B : Nat → Nat} {m0 mm : zM} {u : Nat → Int32} {σ ρ : Nat → Nat} {f : Nat → Nat → Int32} (h : zCPe G B m0 u σ ρ f mm) {n e : Nat} (hn : n < 10) (he : e < 10) : zCPe G B m0 u σ (zru ρ n e) f (zup mm (B 7) n (.ref (B (90 + σ e)))) := by
  obtain ⟨h1, h2, h3, h4, h5, hs, ⟨hr, h6⟩, h7, h8⟩ := h
  have hb : zBd 7 := Or.inl (by decide)
  refine ⟨h1, h2, h3, fun j' k' c hc => ?_, fun j' k' i' hi' => ?_, hs, ⟨fun i hi => ?_, fun i hi => ?_⟩, fun i k' hi hk' => ?_, fun b hne => ?_⟩
  · obtain ⟨c1, -, c3, -⟩ := zCt_bd hc
    rw [zup_ne (fun q => c3 (h3 _ _ c1 hb q.1))]
    exact h4 j' k' c hc
  · rw [zup_ne (fun q => by have := h3 _ _ (zIx_bd hi') hb q.1; subst this; cases hi')]
    exact h5 j' k' i' hi'
  · unfold zru; split; exact he; exact hr i hi
  · by_cases q : i = n
    · subst q; rw [zup_eq]; unfold zru; rw [if_pos rfl]
    · rw [zup_ne (fun z => q z.2)]; unfold zru; rw [if_neg q]; exact h6 i hi
  · have hs1 := hs.1 i hi
    rw [zup_ne (fun q => by have := h3 (90 + σ i) 7 (Or.inr (by omega)) hb q.1; omega)]
    exact h7 i k' hi hk'
  · have e : zup mm (B 7) n (.ref (B (90 + σ e))) b = mm b := by funext k'; exact zup_ne (fun q => hne 7 hb q.1)
    rw [e]; exact h8 b hne
theorem zCPe.setf {G : zG} {B : Nat → Nat} {m0 mm : zM} {u : Nat → Int32} {σ ρ : Nat → Nat} {f : Nat → Nat → Int32} (h : zCPe G B m0 u σ ρ f mm) {e k : Nat} (he : e < 10) (x : Int32) : zCPe G B m0 u σ ρ (zfu f e k x) (zup mm (B (90 + σ e)) k (.int x)) := by
  obtain ⟨h1, h2, h3, h4, h5, hs, ⟨hr, h6⟩, h7, h8⟩ := h
  have hs1 := hs.1 e he
  have hb : zBd (90 + σ e) := Or.inr (by omega)
  refine ⟨h1, h2, h3, fun j' k' c hc => ?_, fun j' k' i' hi' => ?_, hs, ⟨hr, fun i hi => ?_⟩, fun i k' hi hk' => ?_, fun b hne => ?_⟩
  · obtain ⟨c1, -, -, c4⟩ := zCt_bd hc
    rw [zup_ne (fun q => by have := h3 _ _ c1 hb q.1; omega)]
    exact h4 j' k' c hc
  · rw [zup_ne (fun q => by have := h3 _ _ (zIx_bd hi') hb q.1; have := (zIx_lt hi').1; omega)]
    exact h5 j' k' i' hi'
  · rw [zup_ne (fun q => by have := h3 7 _ (Or.inl (by decide)) hb q.1; omega)]
    exact h6 i hi
  · by_cases q : i = e ∧ k' = k
    · obtain ⟨rfl, rfl⟩ := q; rw [zup_eq]; unfold zfu; rw [if_pos ⟨rfl, rfl⟩]
    · rw [zup_ne (fun z => q ⟨by have h9 := h3 (90 + σ i) _ (Or.inr (by have := hs.1 i hi; omega)) hb z.1; exact hs.2 i e hi he (by omega), z.2⟩)]
      unfold zfu; rw [if_neg q]; exact h7 i k' hi hk'
  · have e : zup mm (B (90 + σ e)) k (.int x) b = mm b := by funext k'; exact zup_ne (fun q => hne _ hb q.1)
    rw [e]; exact h8 b hne
section ZER
variable {l : Launch} {G : zG} {y : MethodName} {cc : ByteArray} {nL : Nat} {ret : Option FieldType} {d0 : Nat} {rv : Option Value} {Q : zM → Prop} {pc : Nat} {lv : List (Option Value)} {st : List Value} {mm m0 : zM} {B : Nat → Nat} {u : Nat → Int32} {ix r n e : Nat} {own : String} {σ ρ : Nat → Nat} {f : Nat → Nat → Int32}
theorem zE_S11 (hp : zCPe G B m0 u σ ρ f mm) (ho : own = y.cls) (hlink : Cond.fieldLink own ix RX5 (TX5 11).2.1 (TX5 11).2.2.1 ∈ zU) (hd : decode cc pc = .ok (.getfield ix, 3)) (kk : zV l G (y, cc, nL, ret) d0 rv Q (pc + 3) lv (.ref (B 7) :: st) mm) : zV l G (y, cc, nL, ret) d0 rv Q pc lv (.ref (B 0) :: st) mm :=
  z_get (ci := 5) zin5 rfl (by decide) (by decide) rfl ho hlink (hp.1 0 (Or.inl (by decide))) (hp.2.1 0 (Or.inl (by decide))) (hp.2.2.2.1 0 11 _ rfl) hd kk
theorem zE_S0 (hp : zCPe G B m0 u σ ρ f mm) (ho : own = y.cls) (hlink : Cond.fieldLink own ix RX5 (TX5 0).2.1 (TX5 0).2.2.1 ∈ zU) (hd : decode cc pc = .ok (.getfield ix, 3)) (kk : zV l G (y, cc, nL, ret) d0 rv Q (pc + 3) lv (.int (u 0) :: st) mm) : zV l G (y, cc, nL, ret) d0 rv Q pc lv (.ref (B 0) :: st) mm :=
  z_get (ci := 5) zin5 rfl (by decide) (by decide) rfl ho hlink (hp.1 0 (Or.inl (by decide))) (hp.2.1 0 (Or.inl (by decide))) (hp.2.2.2.2.1 0 0 0 rfl) hd kk
theorem zE_S10 (hp : zCPe G B m0 u σ ρ f mm) (ho : own = y.cls) (hlink : Cond.fieldLink own ix RX5 (TX5 10).2.1 (TX5 10).2.2.1 ∈ zU) (hd : decode cc pc = .ok (.getfield ix, 3)) (kk : zV l G (y, cc, nL, ret) d0 rv Q (pc + 3) lv (.int (u 8) :: st) mm) : zV l G (y, cc, nL, ret) d0 rv Q pc lv (.ref (B 0) :: st) mm :=
  z_get (ci := 5) zin5 rfl (by decide) (by decide) rfl ho hlink (hp.1 0 (Or.inl (by decide))) (hp.2.1 0 (Or.inl (by decide))) (hp.2.2.2.2.1 0 10 8 rfl) hd kk
theorem zE_Sp10 {x : Int32} (hp : zCPe G B m0 u σ ρ f mm) (ho : own = y.cls) (hlink : Cond.fieldLink own ix RX5 (TX5 10).2.1 (TX5 10).2.2.1 ∈ zU) (hd : decode cc pc = .ok (.putfield ix, 3)) (kk : ∀ mm', zCPe G B m0 (upd u 8 x) σ ρ f mm' → zV l G (y, cc, nL, ret) d0 rv Q (pc + 3) lv st mm') : zV l G (y, cc, nL, ret) d0 rv Q pc lv (.int x :: .ref (B 0) :: st) mm :=
  z_put (ci := 5) zin5 tyX5_ok nmX5 rfl (by decide) (by decide) rfl rfl rfl rfl rfl ho hlink (hp.1 0 (Or.inl (by decide))) (hp.2.1 0 (Or.inl (by decide))) hd (kk _ (hp.seti (j := 0) (k := 10) (i := 8) rfl x))
theorem zE_R0 (hp : zCPe G B m0 u σ ρ f mm) (hrr : r < 60) (ho : own = y.cls) (hlink : Cond.fieldLink own ix RX4 (TX4 0).2.1 (TX4 0).2.2.1 ∈ zU) (hd : decode cc pc = .ok (.getfield ix, 3)) (kk : zV l G (y, cc, nL, ret) d0 rv Q (pc + 3) lv (.int (nI r) :: st) mm) : zV l G (y, cc, nL, ret) d0 rv Q pc lv (.ref (B (30 + r)) :: st) mm :=
  z_get (ci := 4) zin4 rfl (by decide) (by decide) rfl ho hlink (hp.1 _ (Or.inr (by omega))) ((hp.2.1 _ (Or.inr (by omega))).trans (zBsh_r hrr)) (hp.2.2.2.1 _ _ _ (zCt_r0 hrr)) hd kk
theorem zE_ald (hp : zCPe G B m0 u σ ρ f mm) (hn : n < 10) (hd : decode cc pc = .ok (.aaload, 1)) (kk : zV l G (y, cc, nL, ret) d0 rv Q (pc + 1) lv (.ref (B (90 + σ (ρ n))) :: st) mm) : zV l G (y, cc, nL, ret) d0 rv Q pc lv (.int (nI n) :: .ref (B 7) :: st) mm :=
  z_aald (t0 := 3) (C := RX1) (hp.1 7 (Or.inl (by decide))) (hp.2.1 7 (Or.inl (by decide))) (by decide) rfl rfl hn (by decide) (hp.2.2.2.2.2.2.1.2 n hn) hd kk
theorem zE_ast (hp : zCPe G B m0 u σ ρ f mm) (hn : n < 10) (he : e < 10) (hd : decode cc pc = .ok (.aastore, 1)) (kk : ∀ mm', zCPe G B m0 u σ (zru ρ n e) f mm' → zV l G (y, cc, nL, ret) d0 rv Q (pc + 1) lv st mm') : zV l G (y, cc, nL, ret) d0 rv Q pc lv (.ref (B (90 + σ e)) :: .int (nI n) :: .ref (B 7) :: st) mm :=
  z_aast (t0 := 3) (C := RX1) (hp.1 7 (Or.inl (by decide))) (hp.2.1 7 (Or.inl (by decide))) (by decide) rfl (hp.1 _ (Or.inr (by have := hp.2.2.2.2.2.1.1 e he; omega))) ((hp.2.1 _ (Or.inr (by have := hp.2.2.2.2.2.1.1 e he; omega))).trans (zBsh_e (hp.2.2.2.2.2.1.1 e he))) (by decide) rfl rfl hn (by decide) hd (kk _ (hp.setr hn he))
theorem zE_p0 {x : Int32} (hp : zCPe G B m0 u σ ρ f mm) (he : e < 10) (ho : own = y.cls) (hlink : Cond.fieldLink own ix RX1 (TX1 0).2.1 (TX1 0).2.2.1 ∈ zU) (hd : decode cc pc = .ok (.putfield ix, 3)) (kk : ∀ mm', zCPe G B m0 u σ ρ (zfu f e 0 x) mm' → zV l G (y, cc, nL, ret) d0 rv Q (pc + 3) lv st mm') : zV l G (y, cc, nL, ret) d0 rv Q pc lv (.int x :: .ref (B (90 + σ e)) :: st) mm :=
  z_put (ci := 1) (k := 0) zin1 tyX1_ok nmX1 rfl (by decide) (by decide) rfl rfl rfl rfl rfl ho hlink (hp.1 _ (Or.inr (by have := hp.2.2.2.2.2.1.1 e he; omega))) ((hp.2.1 _ (Or.inr (by have := hp.2.2.2.2.2.1.1 e he; omega))).trans (zBsh_e (hp.2.2.2.2.2.1.1 e he))) hd (kk _ (hp.setf he x))
theorem zE_p1 {x : Int32} (hp : zCPe G B m0 u σ ρ f mm) (he : e < 10) (ho : own = y.cls) (hlink : Cond.fieldLink own ix RX1 (TX1 1).2.1 (TX1 1).2.2.1 ∈ zU) (hd : decode cc pc = .ok (.putfield ix, 3)) (kk : ∀ mm', zCPe G B m0 u σ ρ (zfu f e 1 x) mm' → zV l G (y, cc, nL, ret) d0 rv Q (pc + 3) lv st mm') : zV l G (y, cc, nL, ret) d0 rv Q pc lv (.int x :: .ref (B (90 + σ e)) :: st) mm :=
  z_put (ci := 1) (k := 1) zin1 tyX1_ok nmX1 rfl (by decide) (by decide) rfl rfl rfl rfl rfl ho hlink (hp.1 _ (Or.inr (by have := hp.2.2.2.2.2.1.1 e he; omega))) ((hp.2.1 _ (Or.inr (by have := hp.2.2.2.2.2.1.1 e he; omega))).trans (zBsh_e (hp.2.2.2.2.2.1.1 e he))) hd (kk _ (hp.setf he x))
theorem zE_p2 {x : Int32} (hp : zCPe G B m0 u σ ρ f mm) (he : e < 10) (ho : own = y.cls) (hlink : Cond.fieldLink own ix RX1 (TX1 2).2.1 (TX1 2).2.2.1 ∈ zU) (hd : decode cc pc = .ok (.putfield ix, 3)) (kk : ∀ mm', zCPe G B m0 u σ ρ (zfu f e 2 x) mm' → zV l G (y, cc, nL, ret) d0 rv Q (pc + 3) lv st mm') : zV l G (y, cc, nL, ret) d0 rv Q pc lv (.int x :: .ref (B (90 + σ e)) :: st) mm :=
  z_put (ci := 1) (k := 2) zin1 tyX1_ok nmX1 rfl (by decide) (by decide) rfl rfl rfl rfl rfl ho hlink (hp.1 _ (Or.inr (by have := hp.2.2.2.2.2.1.1 e he; omega))) ((hp.2.1 _ (Or.inr (by have := hp.2.2.2.2.2.1.1 e he; omega))).trans (zBsh_e (hp.2.2.2.2.2.1.1 e he))) hd (kk _ (hp.setf he x))
theorem zE_p3 {x : Int32} (hp : zCPe G B m0 u σ ρ f mm) (he : e < 10) (ho : own = y.cls) (hlink : Cond.fieldLink own ix RX1 (TX1 3).2.1 (TX1 3).2.2.1 ∈ zU) (hd : decode cc pc = .ok (.putfield ix, 3)) (kk : ∀ mm', zCPe G B m0 u σ ρ (zfu f e 3 x) mm' → zV l G (y, cc, nL, ret) d0 rv Q (pc + 3) lv st mm') : zV l G (y, cc, nL, ret) d0 rv Q pc lv (.int x :: .ref (B (90 + σ e)) :: st) mm :=
  z_put (ci := 1) (k := 3) zin1 tyX1_ok nmX1 rfl (by decide) (by decide) rfl rfl rfl rfl rfl ho hlink (hp.1 _ (Or.inr (by have := hp.2.2.2.2.2.1.1 e he; omega))) ((hp.2.1 _ (Or.inr (by have := hp.2.2.2.2.2.1.1 e he; omega))).trans (zBsh_e (hp.2.2.2.2.2.1.1 e he))) hd (kk _ (hp.setf he x))
end ZER
/-- the places behind k turns of the loop -/
def kRho (k : Nat) : Nat → Nat := fun i => if 9 - k < i then i - 1 else i
theorem kRho_s {k : Nat} (hk : k < 9) : zru (kRho k) (9 - k) (9 - k - 1) = kRho (k + 1) := by
  funext i
  unfold zru kRho
  by_cases e : i = 9 - k
  · rw [if_pos e, if_pos (by omega)]; omega
  · rw [if_neg e]
    by_cases h : 9 - k < i
    · rw [if_pos h, if_pos (by omega)]
    · rw [if_neg h, if_neg (by omega)]
theorem kLog_end {G : zG} {B : Nat → Nat} {m0 mm : zM} {u : Nat → Int32} {σ : Nat → Nat} {r e : Nat} {k c : Int32} (he : e ≤ 10) (e8 : u 8 = nI e)
    (hp : zCPe G B m0 (upd u 8 (if nI 10 < u 8 + nI 1 then nI 10 else u 8 + nI 1)) σ (zru (kRho 9) 0 9) (zfu (zfu (zfu (zfu (fun i k => u (567 + 4 * i + k)) 9 0 k) 9 1 (nI r)) 9 2 c) 9 3 (u 0)) mm) : zCP G B m0 (sLog u k (nI r) c) mm := by
  obtain ⟨h1, h2, h3, h4, h5, hs, ⟨hr, h6⟩, h7, h8⟩ := hp
  have e0 : ∀ j, j < 567 → sLog0 u k (nI r) c j = u j := fun j hj => by unfold sLog0; rw [upd_ne (by omega), upd_ne (by omega), upd_ne (by omega), upd_ne (by omega), sShf, if_neg (by omega)]
  have ev : sLog u k (nI r) c 8 = (if nI 10 < u 8 + nI 1 then nI 10 else u 8 + nI 1) := by
    unfold sLog
    rw [upd_eq, e0 8 (by omega), e8, nI_add]
    by_cases q : e < 10
    · rw [if_pos (nI_lt q (by omega)), if_neg (nI_nlt (by omega) (by omega)), nI_add]
    · have : e = 10 := by omega
      subst this
      rfl
  refine ⟨h1, h2, h3, h4, fun j k' i hi => ?_, ⟨fun i => σ (zru (kRho 9) 0 9 i), fun i hi => hs.1 _ (hr i hi), fun i j hi hj hij => ?_, fun i hi => ⟨h6 i hi, fun k' hk' => ?_⟩⟩, h8⟩
  · rw [h5 j k' i hi]
    have hl := (zIx_lt hi).2
    by_cases q : i = 8
    · subst q; rw [upd_eq, ev]
    · rw [upd_ne q, sLog_at q hl]
  · have := hs.2 _ _ (hr i hi) (hr j hj) hij
    unfold zru kRho at this
    repeat' split at this
    all_goals omega
  · rw [h7 _ _ (hr i hi) hk']
    congr 1
    unfold sLog
    rw [upd_ne (by omega)]
    by_cases q : i = 0
    · subst q
      have a0 : sLog0 u k (nI r) c 567 = k := by unfold sLog0; rw [upd_ne (by omega), upd_ne (by omega), upd_ne (by omega), upd_eq]
      have a1 : sLog0 u k (nI r) c 568 = nI r := by unfold sLog0; rw [upd_ne (by omega), upd_ne (by omega), upd_eq]
      have a2 : sLog0 u k (nI r) c 569 = c := by unfold sLog0; rw [upd_ne (by omega), upd_eq]
      have a3 : sLog0 u k (nI r) c 570 = u 0 := by
        have a4 : upd (upd (upd (sShf u 36) 567 k) 568 (nI r)) 569 c 0 = u 0 := by rw [upd_ne (by omega), upd_ne (by omega), upd_ne (by omega), sShf, if_neg (by omega)]
        unfold sLog0
        rw [a4, upd_eq]
      rcases (by omega : k' = 0 ∨ k' = 1 ∨ k' = 2 ∨ k' = 3) with rfl | rfl | rfl | rfl
      · exact Eq.trans rfl a0.symm
      · exact Eq.trans rfl a1.symm
      · exact Eq.trans rfl a2.symm
      · exact Eq.trans rfl a3.symm
    · have e1 : zru (kRho 9) 0 9 i = i - 1 := by unfold zru kRho; rw [if_neg q, if_pos (by omega)]
      rw [e1]
      unfold zfu sLog0
      rw [if_neg (by omega), if_neg (by omega), if_neg (by omega), if_neg (by omega), upd_ne (by omega), upd_ne (by omega), upd_ne (by omega), upd_ne (by omega), sShf, if_pos (by omega)]
      exact congrArg u (show 567 + 4 * (i - 1) + k' = 567 + 4 * i + k' - 4 by omega)
theorem zRel.log {u v : Nat → Int32} (h : zRel u v) (k r c : Int32) : zRel (sLog u k r c) (sLog v k r c) := by
  have ha : ∀ j, j < 607 → (∀ r, r < 60 → j ≠ 147 + 7 * r + 4) → u j = v j := h.1
  have h0 : ∀ j, j < 607 → (∀ r, r < 60 → j ≠ 147 + 7 * r + 4) → sLog0 u k r c j = sLog0 v k r c j := fun j hj hn => by
    have hs : ∀ j, j < 607 → (∀ r, r < 60 → j ≠ 147 + 7 * r + 4) → sShf u 36 j = sShf v 36 j := fun j hj hn => by
      unfold sShf
      by_cases q : 606 - 36 < j ∧ j < 607
      · rw [if_pos q, if_pos q]; exact ha _ (by omega) (fun r hr => by omega)
      · rw [if_neg q, if_neg q]; exact ha _ hj hn
    have e00 : upd (upd (upd (sShf u 36) 567 k) 568 r) 569 c 0 = upd (upd (upd (sShf v 36) 567 k) 568 r) 569 c 0 := by
      rw [upd_ne (by omega), upd_ne (by omega), upd_ne (by omega), upd_ne (by omega), upd_ne (by omega), upd_ne (by omega)]; exact hs 0 (by omega) (fun r hr => by omega)
    unfold sLog0
    rw [e00]
    by_cases q3 : j = 570
    · subst q3; rw [upd_eq, upd_eq]
    · rw [upd_ne q3, upd_ne q3]
      by_cases q2 : j = 569
      · subst q2; rw [upd_eq, upd_eq]
      · rw [upd_ne q2, upd_ne q2]
        by_cases q1 : j = 568
        · subst q1; rw [upd_eq, upd_eq]
        · rw [upd_ne q1, upd_ne q1]
          by_cases q0 : j = 567
          · subst q0; rw [upd_eq, upd_eq]
          · rw [upd_ne q0, upd_ne q0]; exact hs j hj hn
  refine ⟨fun j hj hn => ?_, fun q hq => ?_⟩
  · by_cases q8 : j = 8
    · subst q8
      unfold sLog
      rw [upd_eq, upd_eq, h0 8 hj hn]
    · unfold sLog
      rw [upd_ne q8, upd_ne q8]; exact h0 j hj hn
  · rw [sLog_at (by omega) (by omega), h.2 q hq]
    unfold kAsk
    rw [sLog_at (by omega) (by omega), sLog_at (by omega) (by omega)]
set_option maxRecDepth 4000 in
theorem l_X5_log {l : Launch} {G : zG} {B : Nat → Nat} {m0 : zM} {u : Nat → Int32} {σ : Nat → Nat} (k c : Int32) (r e : Nat) (hr : r < 60) (he : e ≤ 10) (e8 : u 8 = nI e) : ∀ i, i ≤ 9 → ∀ (mm : zM), zCPe G B m0 u σ (kRho i) (fun i k => u (567 + 4 * i + k)) mm → zV l G (yX5_log, cX5_log, 6, none) 1 none (fun m' => zCP G B m0 (sLog u k (nI r) c) m') 13 [some (.ref (B 0)), some (.int k), some (.ref (B (30 + r))), some (.int c), some (.ref (B (90 + σ 9))), some (.int (nI (9 - i)))] [] mm := by
  refine z_loop 9 (fun i hi ih mm hp => ?_)
  refine z_iload 5 rfl dX5_log_13 ?_
  refine z_if_le 40 dX5_log_15 rfl (fun c15 => ?_) (fun c15 => ?_)
  · have e : i = 9 := by rcases Nat.lt_or_ge i 9 with q | q; exact absurd c15 (nI_nle (by omega) (by omega)); omega
    subst e
    refine z_aload_n 0 rfl rfl dX5_log_40 ?_
    refine zE_S11 hp rfl zf_X5_52 dX5_log_41 ?_
    refine z_iconst (nI 0) dX5_log_44 rfl ?_
    refine z_aload 4 rfl dX5_log_45 ?_
    refine zE_ast hp (by omega) (by omega) dX5_log_47 (fun mm hp => ?_)
    refine z_aload 4 rfl dX5_log_48 ?_
    refine z_iload_n 1 rfl rfl dX5_log_50 ?_
    refine zE_p0 hp (by omega) rfl zf_X5_256 dX5_log_51 (fun mm hp => ?_)
    refine z_aload 4 rfl dX5_log_54 ?_
    refine z_aload_n 2 rfl rfl dX5_log_56 ?_
    refine zE_R0 hp (by omega) rfl zf_X5_163 dX5_log_57 ?_
    refine zE_p1 hp (by omega) rfl zf_X5_259 dX5_log_60 (fun mm hp => ?_)
    refine z_aload 4 rfl dX5_log_63 ?_
    refine z_iload_n 3 rfl rfl dX5_log_65 ?_
    refine zE_p2 hp (by omega) rfl zf_X5_262 dX5_log_66 (fun mm hp => ?_)
    refine z_aload 4 rfl dX5_log_69 ?_
    refine z_aload_n 0 rfl rfl dX5_log_71 ?_
    refine zE_S0 hp rfl zf_X5_61 dX5_log_72 ?_
    refine zE_p3 hp (by omega) rfl zf_X5_265 dX5_log_75 (fun mm hp => ?_)
    refine z_aload_n 0 rfl rfl dX5_log_78 ?_
    refine z_aload_n 0 rfl rfl dX5_log_79 ?_
    refine zE_S10 hp rfl zf_X5_85 dX5_log_80 ?_
    refine z_iconst (nI 1) dX5_log_83 rfl ?_
    refine z_iadd dX5_log_84 ?_
    refine z_bipush (nI 10) dX5_log_85 rfl ?_
    refine z_min rfl zl_X5_244 (by decide) (Nat.le_of_ble_eq_true rfl) dX5_log_87 ?_
    refine zE_Sp10 hp rfl zf_X5_85 dX5_log_90 (fun mm hp => ?_)
    exact z_vret dX5_log_93 rfl (kLog_end he e8 hp)
  · have hl : i < 9 := by rcases Nat.lt_or_ge i 9 with q | q; exact q; exact absurd (by rw [show 9 - i = 0 by omega]; exact Int32.le_refl _) c15
    refine z_aload_n 0 rfl rfl dX5_log_18 ?_
    refine zE_S11 hp rfl zf_X5_52 dX5_log_19 ?_
    refine z_iload 5 rfl dX5_log_22 ?_
    refine z_aload_n 0 rfl rfl dX5_log_24 ?_
    refine zE_S11 hp rfl zf_X5_52 dX5_log_25 ?_
    refine z_iload 5 rfl dX5_log_28 ?_
    refine z_iconst (nI 1) dX5_log_30 rfl ?_
    refine z_isubN (by omega) dX5_log_31 ?_
    refine zE_ald hp (by omega) dX5_log_32 ?_
    rw [show kRho i (9 - i - 1) = 9 - i - 1 by unfold kRho; rw [if_neg (by omega)]]
    refine zE_ast hp (by omega) (by omega) dX5_log_33 (fun mm hp => ?_)
    rw [kRho_s hl] at hp
    refine z_iincD 5 (by omega) rfl rfl dX5_log_34 ?_
    refine z_goto 13 dX5_log_37 rfl ?_
    exact ih hl _ hp
set_option maxRecDepth 4000 in
theorem c_X5_log {l : Launch} {G : zG} {B : Nat → Nat} {m0 mm : zM} {v : Nat → Int32} (hp : zCV G B m0 v mm) (k c : Int32) (r e : Nat) (hr : r < 60) (he : e ≤ 10) (e8 : v 8 = nI e) : zSem l G (yX5_log, cX5_log, 6, none) 1 [.ref (B 0), .int k, .ref (B (30 + r)), .int c] mm none (fun m' => zCV G B m0 (sLog v k (nI r) c) m') := by
  obtain ⟨u, hR, hc⟩ := hp
  have e8 : u 8 = nI e := (hR.1 8 (by omega) (fun q hq => by omega)).trans e8
  refine zSem.imp (Q := fun m' => zCP G B m0 (sLog u k (nI r) c) m') ?_ (fun m' h => ⟨_, hR.log k (nI r) c, h⟩)
  obtain ⟨h1, h2, h3, h4, h5, ⟨σ, s1, s2, s3⟩, h8⟩ := hc
  have hp : zCPe G B m0 u σ (kRho 0) (fun i k => u (567 + 4 * i + k)) mm := ⟨h1, h2, h3, h4, h5, ⟨s1, s2⟩, ⟨fun i hi => by unfold kRho; rw [if_neg (by omega)]; exact hi, fun i hi => by unfold kRho; rw [if_neg (by omega)]; exact (s3 i hi).1⟩, fun i k hi hk => (s3 i hi).2 k hk, h8⟩
  refine z_met [some (.ref (B 0)), some (.int k), some (.ref (B (30 + r))), some (.int c), none, none] rfl (zc1 (by rfl)) (Nat.le_of_ble_eq_true rfl) rfl ?_
  refine z_aload_n 0 rfl rfl dX5_log_0 ?_
  refine zE_S11 hp rfl zf_X5_52 dX5_log_1 ?_
  refine z_bipush (nI 9) dX5_log_4 rfl ?_
  refine zE_ald hp (by omega) dX5_log_6 ?_
  refine z_astore 4 (Nat.le_of_ble_eq_true rfl) rfl dX5_log_7 ?_
  refine z_bipush (nI 9) dX5_log_9 rfl ?_
  refine z_istore 5 (Nat.le_of_ble_eq_true rfl) rfl dX5_log_11 ?_
  exact l_X5_log k c r e hr he e8 0 (by omega) _ hp
