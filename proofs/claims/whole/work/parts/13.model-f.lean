theorem sLow_spec {v : Nat → Int32} {d : Nat} {s : Int32} {w : Nat} : ∀ {n b : Nat}, sLow v d s w n = some b → b < n ∧ v (147 + 7 * b + 0) = nI d ∧ v (147 + 7 * b + 3) = s
  | 0, _, h => by simp [sLow] at h
  | n + 1, b, h => by
    unfold sLow at h
    split at h
    · rename_i q
      split at h
      · cases h; exact ⟨by omega, q.1, q.2⟩
      · rename_i b' hb
        split at h
        · cases h; exact ⟨by omega, q.1, q.2⟩
        · cases h; have := sLow_spec hb; exact ⟨by omega, this.2⟩
    · have := sLow_spec h; exact ⟨by omega, this.2⟩
theorem sLow_none {v : Nat → Int32} {d : Nat} {s : Int32} {w : Nat} : ∀ {n : Nat}, sLow v d s w n = none → ∀ r, r < n → ¬ (v (147 + 7 * r + 0) = nI d ∧ v (147 + 7 * r + 3) = s)
  | 0, _, _, h => by omega
  | n + 1, h, r, hr => by
    unfold sLow at h
    split at h
    · split at h
      · cases h
      · split at h <;> cases h
    · rename_i q
      by_cases e : r = n
      · subst e; exact q
      · exact sLow_none h r (by omega)
theorem sCnt_ex {v : Nat → Int32} {d : Nat} {lo hi : Int32} : ∀ {n : Nat}, 0 < sCnt v d lo hi n → ∃ r, r < n ∧ v (147 + 7 * r + 0) = nI d ∧ zIn (v (147 + 7 * r + 3)) lo hi = true
  | 0, h => by simp [sCnt] at h
  | n + 1, h => by
    unfold sCnt at h
    by_cases q : v (147 + 7 * n + 0) = nI d ∧ zIn (v (147 + 7 * n + 3)) lo hi = true
    · exact ⟨n, by omega, q⟩
    · rw [if_neg q] at h
      obtain ⟨r, h1, h2⟩ := sCnt_ex (n := n) (by omega)
      exact ⟨r, by omega, h2⟩
theorem sCnt_of {v w : Nat → Int32} {d : Nat} {lo hi : Int32} : ∀ {n : Nat}, (∀ r, r < n → w (147 + 7 * r + 0) = v (147 + 7 * r + 0) ∧ w (147 + 7 * r + 3) = v (147 + 7 * r + 3)) → sCnt w d lo hi n = sCnt v d lo hi n
  | 0, _ => rfl
  | n + 1, h => by
    unfold sCnt
    rw [sCnt_of (fun r hr => h r (by omega)), (h n (by omega)).1, (h n (by omega)).2]
theorem sCnt_dec {v w : Nat → Int32} {d r : Nat} {lo hi : Int32} (h0 : v (147 + 7 * r + 0) = nI d) (h3 : zIn (v (147 + 7 * r + 3)) lo hi = true) (w3 : zIn (w (147 + 7 * r + 3)) lo hi = false) : ∀ {n : Nat}, r < n → (∀ j, j < n → j ≠ r → w (147 + 7 * j + 0) = v (147 + 7 * j + 0) ∧ w (147 + 7 * j + 3) = v (147 + 7 * j + 3)) → sCnt v d lo hi n = sCnt w d lo hi n + 1
  | 0, hr, _ => by omega
  | n + 1, hr, h => by
    unfold sCnt
    by_cases e : r = n
    · subst e
      rw [if_pos ⟨h0, h3⟩, if_neg (fun q => by rw [w3] at q; exact absurd q.2 (by decide)), sCnt_of (fun j hj => h j (by omega) (by omega))]
    · rw [sCnt_dec h0 h3 w3 (n := n) (by omega) (fun j hj hne => h j (by omega) hne), (h n (by omega) (by omega)).1, (h n (by omega) (by omega)).2]
      omega
theorem zIn01 {x : Int32} (h : zIn x (nI 0) (nI 1) = true) : x = nI 0 ∨ x = nI 1 := by
  obtain ⟨j, hj, rfl⟩ := zIn_nI (by decide) h
  rcases (by omega : j = 0 ∨ j = 1) with rfl | rfl
  · exact Or.inl rfl
  · exact Or.inr rfl
theorem sLow_ex {v : Nat → Int32} {d n : Nat} (hc : 0 < sCnt v d (nI 0) (nI 1) n) (h1 : sLow v d (nI 1) 4 n = none) : ∃ r, sLow v d (nI 0) 2 n = some r := by
  obtain ⟨r, hr, h0, h3⟩ := sCnt_ex hc
  rcases zIn01 h3 with e | e
  · cases ho : sLow v d (nI 0) 2 n with
    | some b => exact ⟨b, rfl⟩
    | none => exact absurd ⟨h0, e⟩ (sLow_none ho r hr)
  · exact absurd ⟨h0, e⟩ (sLow_none h1 r hr)
def sLap (v : Nat → Int32) (d : Nat) : Nat → Nat × (Nat → Int32)
  | 0 => (0, v)
  | i + 1 => match sLap v d i with
    | (n, u) => if u (147 + 7 * i + 0) = nI d ∧ u (147 + 7 * i + 3) < nI 2 then (n + 1, sLog (sBec u i (nI 5)) (nI 6) (nI i) (sBec u i (nI 5) (147 + 7 * i + 2))) else (n, u)
def sLapses (v : Nat → Int32) (d : Nat) : Nat × (Nat → Int32) := match sLap v d (nR v) with
  | (n, u) => (n, upd u (27 + 12 * d + 5) (nI 0))
def sCvR (v : Nat → Int32) (d : Nat) : Nat := match sLow v d (nI 1) 4 (nR v) with
  | some r => r
  | none => match sLow v d (nI 0) 2 (nR v) with
    | some r => r
    | none => 0
def sCvC (v : Nat → Int32) (d : Nat) : Int32 := match sLow v d (nI 1) 4 (nR v) with
  | some r => v (147 + 7 * r + 4)
  | none => v (147 + 7 * sCvR v d + 2) * nI 3 / nI 2
def sCv2 (v : Nat → Int32) (r g : Nat) (c : Int32) : Nat → Int32 := sLog (sBec (sPays v g (-c)) r (nI 4)) (nI 5) (nI r) c
def sCv1 (v : Nat → Int32) (d : Nat) : Nat → Int32 := sCv2 v (sCvR v d) (zn (v (147 + 7 * sCvR v d + 1))) (sCvC v d)
def sCov (d : Nat) : Nat → Int32 → (Nat → Int32) → Int32 × (Nat → Int32)
  | 0, s, v => (s, v)
  | n + 1, s, v => if v (27 + 12 * d + 1) < nI (sOut v d) ∧ 0 < nI (sOf v d (nI 0) (nI 1)) then sCov d n (s + sCvC v d) (sCv1 v d) else (s, v)
theorem sCv2_at {v : Nat → Int32} {r g : Nat} {c : Int32} {j : Nat} (hg : g < 10) (h7 : j ≠ 7) (h8 : j ≠ 8) (h1 : j < 17 ∨ 27 ≤ j) (h2 : j < 567) (h3 : j ≠ 147 + 7 * r + 3) (h4 : j ≠ 147 + 7 * r + 4) : sCv2 v r g c j = v j := by
  unfold sCv2
  rw [sLog_at h8 h2, sBec_at h3 h4, sPays_at h7 (by omega)]
theorem sCv2_3 {v : Nat → Int32} {r g : Nat} {c : Int32} (hr : r < 60) : sCv2 v r g c (147 + 7 * r + 3) = nI 4 := by
  unfold sCv2
  rw [sLog_at (by omega) (by omega)]
  unfold sBec
  rw [upd_ne (by omega), upd_eq]
theorem sCv2_cnt {v : Nat → Int32} {d r g : Nat} {c : Int32} (hJ : zJ2 v) (hr : r < nR v) (hg : g < 10) (h0 : v (147 + 7 * r + 0) = nI d) (h3 : zIn (v (147 + 7 * r + 3)) (nI 0) (nI 1) = true) : sOf v d (nI 0) (nI 1) = sOf (sCv2 v r g c) d (nI 0) (nI 1) + 1 := by
  have h60 := hJ.2
  unfold sOf
  rw [nR_of (w := sCv2 v r g c) (v := v) (sCv2_at hg (by omega) (by omega) (by omega) (by omega) (by omega) (by omega))]
  exact sCnt_dec h0 h3 (by rw [sCv2_3 (by omega)]; decide) hr (fun j hj hne => ⟨sCv2_at hg (by omega) (by omega) (by omega) (by omega) (by omega) (by omega), sCv2_at hg (by omega) (by omega) (by omega) (by omega) (by omega) (by omega)⟩)
theorem zK.cv2 {v : Nat → Int32} {r g : Nat} {c : Int32} (hK : zK v) (hg : g < 10) : zK (sCv2 v r g c) := ((hK.pays hg).bec).log
theorem zO_nn {o : Option Nat} (h : 0 ≤ zO o) : ∃ r, o = some r := by
  cases o with
  | none => exact absurd h (by decide)
  | some r => exact ⟨r, rfl⟩
theorem zO_nn' {o : Option Nat} (ho : ∀ r, o = some r → r < 60) (h : ¬ 0 ≤ zO o) : o = none := by
  cases o with
  | none => rfl
  | some r => exact absurd (nI_pos' (by have := ho r rfl; omega)) h
theorem sLap_nn {v : Nat → Int32} {d : Nat} (hK : zK v) : ∀ (i n : Nat) (u : Nat → Int32), sLap v d i = (n, u) → zK u ∧ u 2 = v 2 ∧ u 1 = v 1
  | 0, n, u, h => by cases h; exact ⟨hK, rfl, rfl⟩
  | i + 1, n, u, h => by
    unfold sLap at h
    cases hq : sLap v d i with
    | mk n1 u1 =>
      rw [hq] at h
      obtain ⟨a, b, c⟩ := sLap_nn hK i n1 u1 hq
      by_cases q : u1 (147 + 7 * i + 0) = nI d ∧ u1 (147 + 7 * i + 3) < nI 2
      · simp only [if_pos q] at h
        cases h
        exact ⟨(a.bec).log, by rw [sLog_at (by omega) (by omega), sBec_at (by omega) (by omega)]; exact b, by rw [sLog_at (by omega) (by omega), sBec_at (by omega) (by omega)]; exact c⟩
      · simp only [if_neg q] at h
        cases h
        exact ⟨a, b, c⟩
theorem zK.w0 {v : Nat → Int32} {d : Nat} (hK : zK v) (hd : d < 10) : zK (upd v (27 + 12 * d + 5) (nI 0)) := by
  refine ⟨hK.1.of (upd_ne (by omega)), hK.2.1.of (upd_ne (by omega)), fun d' hd' => ?_, fun d' hd' => ?_, fun r hr => ?_⟩
  · by_cases e : d' = d
    · subst e; exact ⟨0, by omega, upd_eq, fun k hk => by omega⟩
    · exact (hK.2.2.1 d' hd').of (fun k h1 h2 => upd_ne (by omega))
  · rw [nD_of (upd_ne (by omega))] at hd'
    rw [upd_ne (by have := hK.1.2; omega)]; exact hK.2.2.2.1 d' hd'
  · rw [nR_of (upd_ne (by omega))] at hr
    exact (hK.2.2.2.2 r hr).of (upd_ne (by omega)) (fun k hk => upd_ne (by omega))
theorem sLapses_nn {v : Nat → Int32} {d : Nat} (hK : zK v) (hd : d < 10) : zK (sLapses v d).2 ∧ (sLapses v d).2 2 = v 2 ∧ (sLapses v d).2 1 = v 1 := by
  unfold sLapses
  cases hq : sLap v d (nR v) with
  | mk n u =>
    obtain ⟨a, b, c⟩ := sLap_nn hK _ n u hq
    exact ⟨a.w0 hd, (show upd u (27 + 12 * d + 5) (nI 0) 2 = v 2 by rw [upd_ne (by omega)]; exact b), (show upd u (27 + 12 * d + 5) (nI 0) 1 = v 1 by rw [upd_ne (by omega)]; exact c)⟩
theorem sLB_nn {d : Nat} : ∀ (n : Nat) (v : Nat → Int32), zK v → d < nD v → v (27 + 12 * d + 5) = nI n → n ≤ 6 → zK (sLB d n v) ∧ (sLB d n v) 1 = v 1
  | 0, v, hK, _, _, _ => ⟨hK, rfl⟩
  | n + 1, v, hK, hd, h5, hn => by
    have hd10 := hK.1.2
    unfold sLB
    by_cases hc : 0 < sCan v d
    · rw [if_pos hc]
      obtain ⟨hR, -⟩ := sCan_pos hK.2.1 hc
      obtain ⟨n9, q1, q2, q3⟩ := hK.2.2.1 d (by omega)
      have en : n9 = n + 1 := (nI_eq (by omega) (by omega)).mp (q2.symm.trans h5)
      subst en
      obtain ⟨h, hh, e6⟩ := q3 0 (by omega)
      have e6 : v (27 + 12 * d + 6) = nI h := e6
      rw [e6, nI_clamp (by omega)]
      have hK1 := hK.drop (p := 0) (by omega) (by omega) (by omega) h5
      have eR : nR (sDrop v d 0 (n + 1)) = nR v := nR_of (sDrop_at (by omega) (by omega) (by omega))
      have e1 : sDrop v d 0 (n + 1) 1 = v 1 := sDrop_at (by omega) (by omega) (by omega)
      have eD : nD (sDrop v d 0 (n + 1)) = nD v := nD_of e1
      have hK2 := hK1.sells (d := d) (h := h) (by omega) (by omega) hh
      have h5b : sSells (sDrop v d 0 (n + 1)) h d (27 + 12 * d + 5) = nI n := by rw [sSells_at (by omega) (by omega) (by omega) (by omega) (by omega)]; exact sDrop_5 (by omega) h5
      have e1b : sSells (sDrop v d 0 (n + 1)) h d 1 = v 1 := by rw [sSells_at (by omega) (by omega) (by omega) (by omega) (by omega)]; exact e1
      obtain ⟨z1, z2⟩ := sLB_nn n _ hK2 (by rw [nD_of e1b]; exact hd) h5b (by omega)
      exact ⟨z1, z2.trans e1b⟩
    · rw [if_neg hc]; exact ⟨hK, rfl⟩
theorem sCv_r {v : Nat → Int32} {d : Nat} (hK : zK v) (hc : 0 < sOf v d (nI 0) (nI 1)) : sCvR v d < nR v ∧ v (147 + 7 * sCvR v d + 0) = nI d ∧ zIn (v (147 + 7 * sCvR v d + 3)) (nI 0) (nI 1) = true := by
  unfold sCvR
  cases h1 : sLow v d (nI 1) 4 (nR v) with
  | some r =>
    obtain ⟨a, b, c⟩ := sLow_spec h1
    exact ⟨a, b, by show zIn (v (147 + 7 * r + 3)) _ _ = true; rw [c]; decide⟩
  | none =>
    obtain ⟨r, h2⟩ := sLow_ex hc h1
    obtain ⟨a, b, c⟩ := sLow_spec h2
    simp only [h2]
    exact ⟨a, b, by rw [c]; decide⟩
theorem sCov_nn {d : Nat} : ∀ (n : Nat) (s : Int32) (v : Nat → Int32), zK v → zK (sCov d n s v).2 ∧ (sCov d n s v).2 1 = v 1 ∧ (sCov d n s v).2 2 = v 2
  | 0, s, v, hK => ⟨hK, rfl, rfl⟩
  | n + 1, s, v, hK => by
    unfold sCov
    by_cases q : v (27 + 12 * d + 1) < nI (sOut v d) ∧ 0 < nI (sOf v d (nI 0) (nI 1))
    · rw [if_pos q]
      have hc : 0 < sOf v d (nI 0) (nI 1) := by
        rcases Nat.eq_zero_or_pos (sOf v d (nI 0) (nI 1)) with z | z
        · rw [z] at q; exact absurd q.2 (by decide)
        · exact z
      obtain ⟨hr, -, -⟩ := sCv_r hK hc
      obtain ⟨-, g, hg, e1⟩ := hK.2.2.2.2 _ hr
      have h60 := hK.2.1.2
      unfold sCv1
      rw [e1, zn_nI (by omega)]
      obtain ⟨z1, z2, z3⟩ := sCov_nn n (s + sCvC v d) _ (hK.cv2 (r := sCvR v d) (c := sCvC v d) hg)
      exact ⟨z1, z2.trans (sCv2_at hg (by omega) (by omega) (by omega) (by omega) (by omega) (by omega)), z3.trans (sCv2_at hg (by omega) (by omega) (by omega) (by omega) (by omega) (by omega))⟩
    · rw [if_neg q]; exact ⟨hK, rfl, rfl⟩
set_option maxRecDepth 4000 in
theorem l_X7_lapses {l : Launch} {G : zG} {A : Nat → Nat} {m0 : zM} {v : Nat → Int32} {S : Nat → Nat → Int32} (d : Nat) (hK : zK v) (hd : d < 10) : ∀ i, i ≤ nR v → ∀ (n : Nat) (u : Nat → Int32) (hu : sLap v d i = (n, u)) (mm : zM) (hp : zMP G A m0 u S mm), zV l G (yX7_lapses, cX7_lapses, 4, (some .int)) 4 (some (.int (nI (sLapses v d).1))) (fun m' => zMP G A m0 (sLapses v d).2 S m') 4 [some (.ref (A 0)), some (.int (nI d)), some (.int (nI n)), some (.int (nI i))] [] mm := by
  refine z_loop (nR v) (fun i hi ih n u hu mm hp => ?_)
  obtain ⟨hKu, e2, e1⟩ := sLap_nn hK i n u hu
  have h60 := hK.2.1.2
  have eu2 : u 2 = nI (nR v) := e2.trans hK.2.1.1
  refine z_iload_n 3 rfl rfl dX7_lapses_4 ?_
  refine z_aload_n 0 rfl rfl dX7_lapses_5 ?_
  refine zM_ref 0 1 hp (by decide) rfl (by decide) rfl rfl zf_X7_7 dX7_lapses_6 ?_
  refine z_iconst (nI 2) dX7_lapses_9 rfl ?_
  refine zM_vld hp (by omega) dX7_lapses_10 ?_
  rw [eu2]
  refine z_icmp_ge 60 dX7_lapses_11 rfl (fun c11 => ?_) (fun c11 => ?_)
  · have e : i = nR v := by have := (nI_leI (by omega) (by omega)).mp c11; omega
    subst e
    refine z_aload_n 0 rfl rfl dX7_lapses_60 ?_
    refine zM_ref 0 1 hp (by decide) rfl (by decide) rfl rfl zf_X7_7 dX7_lapses_61 ?_
    refine z_iload_n 1 rfl rfl dX7_lapses_64 ?_
    refine z_iconst (nI 5) dX7_lapses_65 rfl ?_
    refine z_pS2 zm_X7_dateAt (c_X7_dateAt _ _) rfl zl_X7_39 (by decide) (Nat.le_of_ble_eq_true rfl) dX7_lapses_66 ?_
    refine z_iconst (nI 0) dX7_lapses_69 rfl ?_
    refine zM_vst hp (by omega) dX7_lapses_70 (fun mm hp => ?_)
    refine z_iload_n 2 rfl rfl dX7_lapses_71 ?_
    exact z_iret dX7_lapses_72 (by unfold sLapses; rw [hu]) (by unfold sLapses; rw [hu]; exact hp)
  · have hl : i < nR v := Nat.lt_of_not_le (fun q => c11 ((nI_leI (by omega) (by omega)).mpr q))
    refine z_aload_n 0 rfl rfl dX7_lapses_14 ?_
    refine z_iload_n 3 rfl rfl dX7_lapses_15 ?_
    refine z_iconst (nI 0) dX7_lapses_16 rfl ?_
    refine zM_p2 zm_X7_of (c_X7_of hp _ _ (by omega) (by omega)) hp rfl rfl zl_X7_53 (by decide) (Nat.le_of_ble_eq_true rfl) dX7_lapses_17 ?_
    refine z_iload_n 1 rfl rfl dX7_lapses_20 ?_
    refine z_icmp_ne 54 dX7_lapses_21 rfl (fun c21 => ?_) (fun c21 => ?_)
    · refine z_iincN (n := 1) 3 rfl rfl dX7_lapses_54 ?_
      refine z_goto 4 dX7_lapses_57 rfl ?_
      first | exact ih hl _ _ (by simp only [sLap, hu]; exact if_pos (And.intro c21 (of_decide_eq_true c29))) _ hp | exact ih hl _ _ (by simp only [sLap, hu]; exact if_neg (fun q => c21 q.1)) _ hp | exact ih hl _ _ (by simp only [sLap, hu]; exact if_neg (fun q => of_decide_eq_false c29 q.2)) _ hp
    · refine z_aload_n 0 rfl rfl dX7_lapses_24 ?_
      refine z_iload_n 3 rfl rfl dX7_lapses_25 ?_
      refine zM_p1 zm_X7_isFree (c_X7_isFree hp _ (by omega)) hp rfl rfl zl_X7_105 (by decide) (Nat.le_of_ble_eq_true rfl) dX7_lapses_26 ?_
      refine z_if_eqB 54 dX7_lapses_29 rfl (fun c29 => ?_) (fun c29 => ?_)
      · refine z_iincN (n := 1) 3 rfl rfl dX7_lapses_54 ?_
        refine z_goto 4 dX7_lapses_57 rfl ?_
        first | exact ih hl _ _ (by simp only [sLap, hu]; exact if_pos (And.intro c21 (of_decide_eq_true c29))) _ hp | exact ih hl _ _ (by simp only [sLap, hu]; exact if_neg (fun q => c21 q.1)) _ hp | exact ih hl _ _ (by simp only [sLap, hu]; exact if_neg (fun q => of_decide_eq_false c29 q.2)) _ hp
      · refine z_aload_n 0 rfl rfl dX7_lapses_32 ?_
        refine z_iload_n 3 rfl rfl dX7_lapses_33 ?_
        refine z_iconst (nI 5) dX7_lapses_34 rfl ?_
        refine zM_v2 zm_X7_becomes (c_X7_becomes hp _ _ (by omega)) hp rfl rfl zl_X7_99 (by decide) (Nat.le_of_ble_eq_true rfl) dX7_lapses_35 (fun mm hp => ?_)
        refine z_aload_n 0 rfl rfl dX7_lapses_38 ?_
        refine z_bipush (nI 6) dX7_lapses_39 rfl ?_
        refine z_iload_n 3 rfl rfl dX7_lapses_41 ?_
        refine z_aload_n 0 rfl rfl dX7_lapses_42 ?_
        refine z_iload_n 3 rfl rfl dX7_lapses_43 ?_
        refine z_iconst (nI 2) dX7_lapses_44 rfl ?_
        refine zM_p2 zm_X7_of (c_X7_of hp _ _ (by omega) (by omega)) hp rfl rfl zl_X7_53 (by decide) (Nat.le_of_ble_eq_true rfl) dX7_lapses_45 ?_
        refine zM_v3 zm_X7_log (c_X7_log hp _ _ _) hp rfl rfl zl_X7_74 (by decide) (Nat.le_of_ble_eq_true rfl) dX7_lapses_48 (fun mm hp => ?_)
        refine z_iincN (n := 1) 2 rfl rfl dX7_lapses_51 ?_
        refine z_iincN (n := 1) 3 rfl rfl dX7_lapses_54 ?_
        refine z_goto 4 dX7_lapses_57 rfl ?_
        first | exact ih hl _ _ (by simp only [sLap, hu]; exact if_pos (And.intro c21 (of_decide_eq_true c29))) _ hp | exact ih hl _ _ (by simp only [sLap, hu]; exact if_neg (fun q => c21 q.1)) _ hp | exact ih hl _ _ (by simp only [sLap, hu]; exact if_neg (fun q => of_decide_eq_false c29 q.2)) _ hp
set_option maxRecDepth 4000 in
theorem c_X7_lapses {l : Launch} {G : zG} {A : Nat → Nat} {m0 mm : zM} {v : Nat → Int32} {S : Nat → Nat → Int32} (hp : zMP G A m0 v S mm) (d : Nat) (hK : zK v) (hd : d < 10) : zSem l G (yX7_lapses, cX7_lapses, 4, (some .int)) 4 [.ref (A 0), .int (nI d)] mm (some (.int (nI (sLapses v d).1))) (fun m' => zMP G A m0 (sLapses v d).2 S m') := by
  refine z_met [some (.ref (A 0)), some (.int (nI d)), none, none] rfl (zc1 (by rfl)) (Nat.le_of_ble_eq_true rfl) rfl ?_
  refine z_iconst (nI 0) dX7_lapses_0 rfl ?_
  refine z_istore_n 2 rfl (Nat.le_of_ble_eq_true rfl) rfl dX7_lapses_1 ?_
  refine z_iconst (nI 0) dX7_lapses_2 rfl ?_
  refine z_istore_n 3 rfl (Nat.le_of_ble_eq_true rfl) rfl dX7_lapses_3 ?_
  exact l_X7_lapses d hK hd 0 (Nat.zero_le _) 0 v rfl mm hp
set_option maxRecDepth 4000 in
theorem l_X7_covers {l : Launch} {G : zG} {A : Nat → Nat} {m0 : zM} {S : Nat → Nat → Int32} (d : Nat) : ∀ (N : Nat) (s : Int32) (v : Nat → Int32) (mm : zM) (x3 x4 : Option Value), zMP G A m0 v S mm → zK v → d < nD v → sOf v d (nI 0) (nI 1) ≤ N → zV l G (yX7_covers, cX7_covers, 5, (some .int)) 5 (some (.int (sCov d N s v).1)) (fun m' => zMP G A m0 (sCov d N s v).2 S m') 2 [some (.ref (A 0)), some (.int (nI d)), some (.int s), x3, x4] [] mm := by
  intro N
  induction N using Nat.strongRecOn with
  | _ N ih =>
  intro s v mm x3 x4 hp hK hd hN
  have hd10 := hK.1.2
  have hJ := hK.2.1
  have h60 := hK.2.1.2
  refine z_aload_n 0 rfl rfl dX7_covers_2 ?_
  refine z_iload_n 1 rfl rfl dX7_covers_3 ?_
  refine zM_p1 zm_X7_out (c_X7_out hp _ hJ) hp rfl rfl zl_X7_60 (by decide) (Nat.le_of_ble_eq_true rfl) dX7_covers_4 ?_
  refine z_aload_n 0 rfl rfl dX7_covers_7 ?_
  refine z_iload_n 1 rfl rfl dX7_covers_8 ?_
  refine z_iconst (nI 1) dX7_covers_9 rfl ?_
  refine zM_p2 zm_X7_ofDate (c_X7_ofDate hp _ _ (by omega) (by omega)) hp rfl rfl zl_X7_46 (by decide) (Nat.le_of_ble_eq_true rfl) dX7_covers_10 ?_
  refine z_icmp_le 109 dX7_covers_13 rfl (fun c13 => ?_) (fun c13 => ?_)
  · have e9 : sCov d N s v = (s, v) := by cases N with
      | zero => rfl
      | succ N => unfold sCov; exact if_neg (fun q => absurd q.1 (i_not_lt.mpr c13))
    refine z_iload_n 2 rfl rfl dX7_covers_109 ?_
    exact z_iret dX7_covers_110 (by rw [e9]) (by rw [e9]; exact hp)
  · have h13 := i_not_le.mp c13
    refine z_aload_n 0 rfl rfl dX7_covers_16 ?_
    refine z_iload_n 1 rfl rfl dX7_covers_17 ?_
    refine z_iconst (nI 0) dX7_covers_18 rfl ?_
    refine z_iconst (nI 1) dX7_covers_19 rfl ?_
    refine zM_p3 zm_X7_rightsOf (c_X7_rightsOf hp _ _ _ hJ) hp rfl rfl zl_X7_56 (by decide) (Nat.le_of_ble_eq_true rfl) dX7_covers_20 ?_
    refine z_if_le 109 dX7_covers_23 rfl (fun c23 => ?_) (fun c23 => ?_)
    · have e9 : sCov d N s v = (s, v) := by cases N with
        | zero => rfl
        | succ N => unfold sCov; exact if_neg (fun q => absurd q.2 (i_not_lt.mpr c23))
      refine z_iload_n 2 rfl rfl dX7_covers_109 ?_
      exact z_iret dX7_covers_110 (by rw [e9]) (by rw [e9]; exact hp)
    · have h23 := i_not_le.mp c23
      have hc : 0 < sOf v d (nI 0) (nI 1) := by
        rcases Nat.eq_zero_or_pos (sOf v d (nI 0) (nI 1)) with z | z
        · rw [z] at h23; exact absurd h23 (by decide)
        · exact z
      refine z_aload_n 0 rfl rfl dX7_covers_26 ?_
      refine z_iload_n 1 rfl rfl dX7_covers_27 ?_
      refine z_iconst (nI 1) dX7_covers_28 rfl ?_
      refine z_iconst (nI 4) dX7_covers_29 rfl ?_
      refine zM_p3 zm_X7_lowest (c_X7_lowest hp _ _ _ (by omega) hJ) hp rfl rfl zl_X7_96 (by decide) (Nat.le_of_ble_eq_true rfl) dX7_covers_30 ?_
      refine z_istore_n 3 rfl (Nat.le_of_ble_eq_true rfl) rfl dX7_covers_33 ?_
      refine z_iload_n 3 rfl rfl dX7_covers_34 ?_
      refine z_if_ge 42 dX7_covers_35 rfl (fun c35 => ?_) (fun c35 => ?_)
      · obtain ⟨r, ho⟩ := zO_nn c35
        obtain ⟨hr, h0, h3⟩ := sLow_spec ho
        obtain ⟨-, g, hg, e1⟩ := hK.2.2.2.2 r hr
        have hR : sCvR v d = r := by unfold sCvR; rw [ho]
        have hC : sCvC v d = v (147 + 7 * r + 4) := by unfold sCvC; rw [ho]
        rw [ho, zO_some]
        refine z_aload_n 0 rfl rfl dX7_covers_42 ?_
        refine z_iload_n 3 rfl rfl dX7_covers_43 ?_
        refine z_iconst (nI 4) dX7_covers_44 rfl ?_
        refine zM_p2 zm_X7_of (c_X7_of hp _ _ (by omega) (by omega)) hp rfl rfl zl_X7_53 (by decide) (Nat.le_of_ble_eq_true rfl) dX7_covers_45 ?_
        refine z_istore 4 (Nat.le_of_ble_eq_true rfl) rfl dX7_covers_48 ?_
        refine z_iload_n 3 rfl rfl dX7_covers_50 ?_
        refine z_if_ge 74 dX7_covers_51 rfl (fun c51 => ?_) (fun c51 => ?_)
        · refine z_aload_n 0 rfl rfl dX7_covers_74 ?_
          refine z_aload_n 0 rfl rfl dX7_covers_75 ?_
          refine z_iload_n 3 rfl rfl dX7_covers_76 ?_
          refine z_iconst (nI 1) dX7_covers_77 rfl ?_
          refine zM_p2 zm_X7_of (c_X7_of hp _ _ (by omega) (by omega)) hp rfl rfl zl_X7_53 (by decide) (Nat.le_of_ble_eq_true rfl) dX7_covers_78 ?_
          rw [e1]
          refine z_iload 4 rfl dX7_covers_81 ?_
          refine z_ineg dX7_covers_83 ?_
          refine zM_v2 zm_X7_pays (c_X7_pays hp _ _ (by omega)) hp rfl rfl zl_X7_70 (by decide) (Nat.le_of_ble_eq_true rfl) dX7_covers_84 (fun mm hp => ?_)
          refine z_aload_n 0 rfl rfl dX7_covers_87 ?_
          refine z_iload_n 3 rfl rfl dX7_covers_88 ?_
          refine z_iconst (nI 4) dX7_covers_89 rfl ?_
          refine zM_v2 zm_X7_becomes (c_X7_becomes hp _ _ (by omega)) hp rfl rfl zl_X7_99 (by decide) (Nat.le_of_ble_eq_true rfl) dX7_covers_90 (fun mm hp => ?_)
          refine z_aload_n 0 rfl rfl dX7_covers_93 ?_
          refine z_iconst (nI 5) dX7_covers_94 rfl ?_
          refine z_iload_n 3 rfl rfl dX7_covers_95 ?_
          refine z_iload 4 rfl dX7_covers_96 ?_
          refine zM_v3 zm_X7_log (c_X7_log hp _ _ _) hp rfl rfl zl_X7_74 (by decide) (Nat.le_of_ble_eq_true rfl) dX7_covers_98 (fun mm hp => ?_)
          have hp : zMP G A m0 (sCv2 v r g (sCvC v d)) S mm := by rw [hC]; exact hp
          refine z_iload_n 2 rfl rfl dX7_covers_101 ?_
          refine z_iload 4 rfl dX7_covers_102 ?_
          refine z_iadd dX7_covers_104 ?_
          refine z_istore_n 2 rfl (Nat.le_of_ble_eq_true rfl) rfl dX7_covers_105 ?_
          refine z_goto 2 dX7_covers_106 rfl ?_
          have hcn := sCv2_cnt (c := sCvC v d) hJ hr hg h0 (by rw [h3]; decide)
          have hN1 : ∃ N1, N = N1 + 1 := ⟨N - 1, by omega⟩
          obtain ⟨N1, rfl⟩ := hN1
          have e9 : sCov d (N1 + 1) s v = sCov d N1 (s + sCvC v d) (sCv2 v r g (sCvC v d)) := by
            conv => lhs; unfold sCov
            rw [if_pos (And.intro h13 h23)]
            unfold sCv1
            rw [hR, e1, zn_nI (by omega)]
          rw [e9, ← hC]
          exact ih N1 (by omega) _ _ _ _ _ hp (hK.cv2 hg) (by have e1' : nD (sCv2 v r g (sCvC v d)) = nD v := nD_of (sCv2_at hg (by omega) (by omega) (by omega) (by omega) (by omega) (by omega)); omega) (by omega)
        · exact absurd (nI_pos' (by omega)) c51
      · have ho1 := zO_nn' (fun r q => by have := sLow_lt q; omega) c35
        obtain ⟨r, ho⟩ := sLow_ex hc ho1
        obtain ⟨hr, h0, h3⟩ := sLow_spec ho
        obtain ⟨-, g, hg, e1⟩ := hK.2.2.2.2 r hr
        have hR : sCvR v d = r := by unfold sCvR; rw [ho1, ho]
        have hC : sCvC v d = v (147 + 7 * r + 2) * nI 3 / nI 2 := by unfold sCvC; rw [ho1, hR]
        rw [ho1, zO_none]
        refine z_iconst (nI 0) dX7_covers_38 rfl ?_
        refine z_goto 48 dX7_covers_39 rfl ?_
        refine z_istore 4 (Nat.le_of_ble_eq_true rfl) rfl dX7_covers_48 ?_
        refine z_iload_n 3 rfl rfl dX7_covers_50 ?_
        refine z_if_ge 74 dX7_covers_51 rfl (fun c51 => ?_) (fun c51 => ?_)
        · exact absurd c51 (by decide)
        · refine z_aload_n 0 rfl rfl dX7_covers_54 ?_
          refine z_iload_n 1 rfl rfl dX7_covers_55 ?_
          refine z_iconst (nI 0) dX7_covers_56 rfl ?_
          refine z_iconst (nI 2) dX7_covers_57 rfl ?_
          refine zM_p3 zm_X7_lowest (c_X7_lowest hp _ _ _ (by omega) hJ) hp rfl rfl zl_X7_96 (by decide) (Nat.le_of_ble_eq_true rfl) dX7_covers_58 ?_
          rw [ho, zO_some]
          refine z_istore_n 3 rfl (Nat.le_of_ble_eq_true rfl) rfl dX7_covers_61 ?_
          refine z_aload_n 0 rfl rfl dX7_covers_62 ?_
          refine z_iload_n 3 rfl rfl dX7_covers_63 ?_
          refine z_iconst (nI 2) dX7_covers_64 rfl ?_
          refine zM_p2 zm_X7_of (c_X7_of hp _ _ (by omega) (by omega)) hp rfl rfl zl_X7_53 (by decide) (Nat.le_of_ble_eq_true rfl) dX7_covers_65 ?_
          refine z_iconst (nI 3) dX7_covers_68 rfl ?_
          refine z_imul dX7_covers_69 ?_
          refine z_iconst (nI 2) dX7_covers_70 rfl ?_
          refine z_idiv dX7_covers_71 (by decide) ?_
          refine z_istore 4 (Nat.le_of_ble_eq_true rfl) rfl dX7_covers_72 ?_
          refine z_aload_n 0 rfl rfl dX7_covers_74 ?_
          refine z_aload_n 0 rfl rfl dX7_covers_75 ?_
          refine z_iload_n 3 rfl rfl dX7_covers_76 ?_
          refine z_iconst (nI 1) dX7_covers_77 rfl ?_
          refine zM_p2 zm_X7_of (c_X7_of hp _ _ (by omega) (by omega)) hp rfl rfl zl_X7_53 (by decide) (Nat.le_of_ble_eq_true rfl) dX7_covers_78 ?_
          rw [e1]
          refine z_iload 4 rfl dX7_covers_81 ?_
          refine z_ineg dX7_covers_83 ?_
          refine zM_v2 zm_X7_pays (c_X7_pays hp _ _ (by omega)) hp rfl rfl zl_X7_70 (by decide) (Nat.le_of_ble_eq_true rfl) dX7_covers_84 (fun mm hp => ?_)
          refine z_aload_n 0 rfl rfl dX7_covers_87 ?_
          refine z_iload_n 3 rfl rfl dX7_covers_88 ?_
          refine z_iconst (nI 4) dX7_covers_89 rfl ?_
          refine zM_v2 zm_X7_becomes (c_X7_becomes hp _ _ (by omega)) hp rfl rfl zl_X7_99 (by decide) (Nat.le_of_ble_eq_true rfl) dX7_covers_90 (fun mm hp => ?_)
          refine z_aload_n 0 rfl rfl dX7_covers_93 ?_
          refine z_iconst (nI 5) dX7_covers_94 rfl ?_
          refine z_iload_n 3 rfl rfl dX7_covers_95 ?_
          refine z_iload 4 rfl dX7_covers_96 ?_
          refine zM_v3 zm_X7_log (c_X7_log hp _ _ _) hp rfl rfl zl_X7_74 (by decide) (Nat.le_of_ble_eq_true rfl) dX7_covers_98 (fun mm hp => ?_)
          have hp : zMP G A m0 (sCv2 v r g (sCvC v d)) S mm := by rw [hC]; exact hp
          refine z_iload_n 2 rfl rfl dX7_covers_101 ?_
          refine z_iload 4 rfl dX7_covers_102 ?_
          refine z_iadd dX7_covers_104 ?_
          refine z_istore_n 2 rfl (Nat.le_of_ble_eq_true rfl) rfl dX7_covers_105 ?_
          refine z_goto 2 dX7_covers_106 rfl ?_
          have hcn := sCv2_cnt (c := sCvC v d) hJ hr hg h0 (by rw [h3]; decide)
          have hN1 : ∃ N1, N = N1 + 1 := ⟨N - 1, by omega⟩
          obtain ⟨N1, rfl⟩ := hN1
          have e9 : sCov d (N1 + 1) s v = sCov d N1 (s + sCvC v d) (sCv2 v r g (sCvC v d)) := by
            conv => lhs; unfold sCov
            rw [if_pos (And.intro h13 h23)]
            unfold sCv1
            rw [hR, e1, zn_nI (by omega)]
          rw [e9, ← hC]
          exact ih N1 (by omega) _ _ _ _ _ hp (hK.cv2 hg) (by have e1' : nD (sCv2 v r g (sCvC v d)) = nD v := nD_of (sCv2_at hg (by omega) (by omega) (by omega) (by omega) (by omega) (by omega)); omega) (by omega)
set_option maxRecDepth 4000 in
theorem c_X7_covers {l : Launch} {G : zG} {A : Nat → Nat} {m0 mm : zM} {v : Nat → Int32} {S : Nat → Nat → Int32} (hp : zMP G A m0 v S mm) (d N : Nat) (hK : zK v) (hd : d < nD v) (hN : sOf v d (nI 0) (nI 1) ≤ N) : zSem l G (yX7_covers, cX7_covers, 5, (some .int)) 5 [.ref (A 0), .int (nI d)] mm (some (.int (sCov d N (nI 0) v).1)) (fun m' => zMP G A m0 (sCov d N (nI 0) v).2 S m') := by
  refine z_met [some (.ref (A 0)), some (.int (nI d)), none, none, none] rfl (zc1 (by rfl)) (Nat.le_of_ble_eq_true rfl) rfl ?_
  refine z_iconst (nI 0) dX7_covers_0 rfl ?_
  refine z_istore_n 2 rfl (Nat.le_of_ble_eq_true rfl) rfl dX7_covers_1 ?_
  exact l_X7_covers d N (nI 0) v mm _ _ hp hK hd hN
