/-! ===== the four numbers of set, and the signs of the answers ===== -/
def zS4 (v u : Nat → Int32) : Prop := ∀ j, 3 ≤ j → j < 7 → u j = v j
def zN4 (v : Nat → Int32) : Prop := ∀ k, k < 4 → 0 ≤ v (3 + k)
theorem zS4.rf (v : Nat → Int32) : zS4 v v := fun _ _ _ => rfl
theorem zS4.up {v u : Nat → Int32} (h : zS4 v u) {i : Nat} {x : Int32} (hi : i < 3 ∨ 7 ≤ i) : zS4 v (upd u i x) := fun j h3 h7 => by rw [upd_ne (by omega)]; exact h j h3 h7
theorem zS4.to {v u w : Nat → Int32} (h : zS4 v u) (h2 : zS4 u w) : zS4 v w := fun j h3 h7 => (h2 j h3 h7).trans (h j h3 h7)
theorem zS4.pays {v u : Nat → Int32} (h : zS4 v u) {g : Nat} {c : Int32} : zS4 v (sPays u g c) := fun j h3 h7 => by rw [sPays_at (by omega) (by omega)]; exact h j h3 h7
theorem zS4.bec {v u : Nat → Int32} (h : zS4 v u) {r : Nat} {s : Int32} : zS4 v (sBec u r s) := fun j h3 h7 => by rw [sBec_at (by omega) (by omega)]; exact h j h3 h7
theorem zS4.log {v u : Nat → Int32} (h : zS4 v u) {k r c : Int32} : zS4 v (sLog u k r c) := fun j h3 h7 => by rw [sLog_at (by omega) (by omega)]; exact h j h3 h7
theorem zS4.sells {v u : Nat → Int32} (h : zS4 v u) {g d : Nat} : zS4 v (sSells u g d) := fun j h3 h7 => by rw [sSells_at (by omega) (by omega) (by omega) (by omega) (by omega)]; exact h j h3 h7
theorem zS4.drop {v u : Nat → Int32} (h : zS4 v u) {d p n : Nat} : zS4 v (sDrop u d p n) := fun j h3 h7 => by
  unfold sDrop sDr
  rw [upd_ne (by omega), if_neg (by omega)]; exact h j h3 h7
theorem zS4.lb {v : Nat → Int32} {d : Nat} : ∀ (n : Nat) {u : Nat → Int32}, zS4 v u → zS4 v (sLB d n u)
  | 0, _, h => h
  | n + 1, u, h => by
    unfold sLB
    split
    · exact zS4.lb n (h.drop.sells)
    · exact h
theorem zS4.cov {v : Nat → Int32} {d : Nat} : ∀ (n : Nat) (s : Int32) {u : Nat → Int32}, zS4 v u → zS4 v (sCov d n s u).2
  | 0, _, _, h => h
  | n + 1, s, u, h => by
    unfold sCov
    split
    · exact zS4.cov n _ (by unfold sCv1 sCv2; exact h.pays.bec.log)
    · exact h
theorem zS4.lap {v : Nat → Int32} {d : Nat} {w : Nat → Int32} (hw : zS4 v w) : ∀ (i n : Nat) (u : Nat → Int32), sLap w d i = (n, u) → zS4 v u
  | 0, n, u, h => by cases h; exact hw
  | i + 1, n, u, h => by
    unfold sLap at h
    cases hq : sLap w d i with
    | mk n1 u1 =>
      rw [hq] at h
      have a := zS4.lap hw i n1 u1 hq
      by_cases q : u1 (147 + 7 * i + 0) = nI d ∧ u1 (147 + 7 * i + 3) < nI 2
      · simp only [if_pos q] at h
        cases h
        exact a.bec.log
      · simp only [if_neg q] at h
        cases h
        exact a
theorem zS4.lapses {v : Nat → Int32} {d : Nat} {w : Nat → Int32} (hw : zS4 v w) : zS4 v (sLapses w d).2 := by
  unfold sLapses
  cases hq : sLap w d (nR w) with
  | mk n u => exact (zS4.lap hw _ n u hq).up (Or.inr (by omega))
theorem zS4.d1 {v : Nat → Int32} {w : Nat → Int32} (hw : zS4 v w) : ∀ (i n : Nat) (u : Nat → Int32), sD1 w i = (n, u) → zS4 v u
  | 0, n, u, h => by cases h; exact hw
  | i + 1, n, u, h => by
    unfold sD1 at h
    cases hq : sD1 w i with
    | mk n1 u1 =>
      rw [hq] at h
      have a := zS4.d1 hw i n1 u1 hq
      by_cases q : sLeft u1 i = 0
      · simp only [if_pos q] at h
        cases h
        exact a.lapses
      · simp only [if_neg q] at h
        cases h
        exact a
theorem zS4.d2 {v : Nat → Int32} {w : Nat → Int32} (hw : zS4 v w) : ∀ (i : Nat), zS4 v (sD2 w i)
  | 0 => hw
  | i + 1 => by
    unfold sD2
    split
    · exact (zS4.d2 hw i).cov _ _
    · exact zS4.d2 hw i
theorem zS4.d3 {v : Nat → Int32} {w : Nat → Int32} (hw : zS4 v w) : ∀ (i : Nat), zS4 v (sD3 w i)
  | 0 => hw
  | i + 1 => by unfold sD3; exact (zS4.d3 hw i).lb _
theorem zS4.days {v : Nat → Int32} {w : Nat → Int32} (hw : zS4 v w) : ∀ (i n : Nat) (u : Nat → Int32), sDays w i = (n, u) → zS4 v u
  | 0, n, u, h => by cases h; exact hw
  | i + 1, n, u, h => by
    unfold sDays at h
    cases hq : sDays w i with
    | mk n1 u1 =>
      rw [hq] at h
      have a := zS4.days hw i n1 u1 hq
      cases h
      exact ((((a.up (i := 0) (Or.inl (by omega))).d1 _ _ _ rfl).d2 _).d3 _)
theorem zN4.of {v u : Nat → Int32} (h : zN4 v) (e : zS4 v u) : zN4 u := fun k hk => by rw [e _ (by omega) (by omega)]; exact h k hk
/-- all that is kept -/
def zY (v : Nat → Int32) : Prop := zI v ∧ zN4 v
theorem zY.buy {v : Nat → Int32} (h : zY v) (x y : Int32) : zY (sDoBuy v x y).2 := ⟨h.1.buy x y, h.2.of (by
  unfold sDoBuy; split
  · split
    · split
      · exact .rf v
      · exact (zS4.rf v).sells
    · exact .rf v
  · exact .rf v)⟩
theorem zY.off {v : Nat → Int32} (h : zY v) (x y : Int32) : zY (sDoOff v x y).2 := ⟨h.1.off x y, h.2.of (by
  unfold sDoOff; split
  · split
    · exact .rf v
    · split
      · exact .rf v
      · unfold sOff sOff2
        exact ((((zS4.rf v).pays.pays.up (Or.inr (by omega))).up (Or.inr (by omega))).bec).log
  · exact .rf v)⟩
theorem zY.can {v : Nat → Int32} (h : zY v) (x : Int32) : zY (sDoCan v x).2 := ⟨h.1.can x, h.2.of (by
  unfold sDoCan; split
  · split
    · unfold sCan1
      exact ((zS4.rf v).pays.bec.log).lb _
    · exact .rf v
  · exact .rf v)⟩
theorem zY.ofr {v : Nat → Int32} (h : zY v) (x p : Int32) : zY (sDoOfr v x p).2 := ⟨h.1.ofr x p, h.2.of (by
  unfold sDoOfr; split
  · split
    · split
      · split
        · exact .rf v
        · exact (((zS4.rf v).up (Or.inr (by omega))).up (Or.inr (by omega))).log
      · exact .rf v
    · exact .rf v
  · exact .rf v)⟩
theorem zY.ex {v : Nat → Int32} (h : zY v) (x : Int32) : zY (sDoEx v x).2 := ⟨h.1.ex x, h.2.of (by
  unfold sDoEx; split
  · split
    · unfold sEx1; exact (zS4.rf v).pays.bec.log
    · exact .rf v
  · exact .rf v)⟩
theorem zY.doO {v : Nat → Int32} (h : zY v) (o : Int32 × Int32 × Int32) : zY (sDoO v o).2 := by
  unfold sDoO
  split
  · exact h.buy _ _
  · split
    · exact h.off _ _
    · split
      · exact h.can _
      · split
        · exact h.ex _
        · exact h.ofr _ _
theorem zY.fo : ∀ (L : List (Int32 × Int32 × Int32)) {v : Nat → Int32}, zY v → zY (sFo L v).2
  | [], _, h => h
  | o :: os, v, h => by
    by_cases q : (sDoO v o).1 < 0
    · rw [sFo_neg q]; exact h.doO o
    · rw [sFo_go q]; exact zY.fo os (h.doO o)
theorem zY.tk {v : Nat → Int32} (h : zY v) (x : Int32) : zY (sTk v x).2.1 := ⟨h.1.tk x, h.2.of (by
  unfold sTk; split
  · split
    · exact (zS4.rf v).bec
    · exact .rf v
  · exact .rf v)⟩
theorem zY.aw {v : Nat → Int32} (h : zY v) (x y : Int32) : zY (sAw v x y).2.1 := ⟨h.1.aw x y, h.2.of (by
  unfold sAw; split
  · split
    · split
      · exact .rf v
      · exact ((zS4.rf v).up (Or.inr (by omega))).up (Or.inr (by omega))
    · exact .rf v
  · exact .rf v)⟩
theorem zY.lv {v : Nat → Int32} (h : zY v) (x y : Int32) : zY (sLv v x y).2.1 := ⟨h.1.lv x y, h.2.of (by
  unfold sLv; split
  · split
    · exact .rf v
    · exact (zS4.rf v).drop
  · exact .rf v)⟩
theorem zY.pass {v : Nat → Int32} (h : zY v) (x : Int32) : zY (sPass v x).2.1 := ⟨h.1.pass x, h.2.of (by
  unfold sPass; split
  · split
    · exact (zS4.rf v).days _ _ _ rfl
    · exact .rf v
  · exact .rf v)⟩
theorem zY.st {v : Nat → Int32} (h : zY v) (x y z : Int32) : zY (sSt v x y z).2.1 := ⟨h.1.st x y z, h.2.of (by
  unfold sSt; split
  · split
    · split
      · exact .rf v
      · exact ((zS4.rf v).up (Or.inr (by omega))).up (Or.inr (by omega))
    · exact .rf v
  · exact .rf v)⟩
theorem zY.add {v : Nat → Int32} (h : zY v) (a b c e f : Int32) : zY (sAdd v a b c e f).2.1 := ⟨h.1.add a b c e f, h.2.of (by
  unfold sAdd; split
  · split
    · exact .rf v
    · unfold sAdd1
      exact ((((((((zS4.rf v).up (Or.inr (by omega))).up (Or.inr (by omega))).up (Or.inr (by omega))).up (Or.inr (by omega))).up (Or.inr (by omega))).up (Or.inr (by omega))).up (Or.inl (by omega)))
  · exact .rf v)⟩
theorem zLow_nn {k : Nat} : nI 0 ≤ zLow k := by unfold zLow; split <;> decide
theorem zY.set {v : Nat → Int32} (h : zY v) (x y : Int32) : zY (sSet v x y).2.1 := by
  refine ⟨h.1.set x y, ?_⟩
  unfold sSet; split
  · split
    · rename_i c
      split
      · exact h.2
      · intro k hk
        show 0 ≤ upd v (3 + zn x) y (3 + k)
        by_cases e : k = zn x
        · subst e
          rw [upd_eq]
          unfold zIn at c
          rw [Bool.and_eq_true, decide_eq_true_eq, decide_eq_true_eq] at c
          exact Int32.le_trans zLow_nn c.1
        · rw [upd_ne (by omega)]; exact h.2 k hk
    · exact h.2
  · exact h.2
/-! the flag is the sign of the answer -/
theorem nI_nn {k : Nat} (h : k < 2 ^ 31) : 0 ≤ nI k := i_not_lt.mp (nI_pos h)
theorem sTk_fl {v : Nat → Int32} (h : zY v) (x : Int32) : (sTk v x).2.2 = decide (0 ≤ (sTk v x).1) := by
  unfold sTk; split
  · rename_i c
    obtain ⟨r, d, g, hr, rfl, -⟩ := zRt h.1.1.1 c
    have h60 := h.1.1.1.2.1.2
    rw [zn_nI (show r < 2 ^ 31 by omega)]
    split
    · rename_i c3
      obtain ⟨a, -, ha, ea⟩ := (h.1.1.2.2.2.2.1 r hr).2.2.1 c3
      exact (decide_eq_true (by rw [ea]; exact nI_nn (by omega))).symm
    · rfl
  · rfl
theorem sAw_fl {v : Nat → Int32} (h : zY v) (x y : Int32) : (sAw v x y).2.2 = decide (0 ≤ (sAw v x y).1) := by
  unfold sAw; split
  · rename_i c
    obtain ⟨d, hd, rfl⟩ := zDt h.1.1.1 c.2
    have h10 := h.1.1.1.1.2
    obtain ⟨n, hn, e5, -⟩ := h.1.1.1.2.2.1 d (by omega)
    rw [zn_nI (show d < 2 ^ 31 by omega), e5, zn_nI (show n < 2 ^ 31 by omega)]
    split
    · split
      · rfl
      · exact (decide_eq_true (nI_nn (by omega))).symm
    · rfl
  · rfl
theorem sLv_fl {v : Nat → Int32} (h : zY v) (x y : Int32) : (sLv v x y).2.2 = decide (0 ≤ (sLv v x y).1) := by
  unfold sLv; split
  · split
    · rename_i c2
      exact (decide_eq_false (i_not_le.mpr c2)).symm
    · rename_i c2
      exact (decide_eq_true (i_not_lt.mp c2)).symm
  · rfl
theorem sLap_bd {v : Nat → Int32} {d : Nat} : ∀ (i n : Nat) (u : Nat → Int32), sLap v d i = (n, u) → n ≤ i
  | 0, n, u, h => by cases h; exact Nat.le_refl _
  | i + 1, n, u, h => by
    unfold sLap at h
    cases hq : sLap v d i with
    | mk n1 u1 =>
      rw [hq] at h
      have a := sLap_bd i n1 u1 hq
      by_cases q : u1 (147 + 7 * i + 0) = nI d ∧ u1 (147 + 7 * i + 3) < nI 2
      · simp only [if_pos q] at h
        cases h; omega
      · simp only [if_neg q] at h
        cases h; omega
theorem sLapses_bd {v : Nat → Int32} {d : Nat} (hK : zK v) : (sLapses v d).1 ≤ 60 := by
  unfold sLapses
  cases hq : sLap v d (nR v) with
  | mk n u => exact Nat.le_trans (sLap_bd _ n u hq) hK.2.1.2
theorem sD1_bd {v : Nat → Int32} (hK : zK v) : ∀ (i n : Nat) (u : Nat → Int32), i ≤ 10 → sD1 v i = (n, u) → n ≤ 60 * i
  | 0, n, u, _, h => by cases h; exact Nat.le_refl _
  | i + 1, n, u, hi, h => by
    unfold sD1 at h
    cases hq : sD1 v i with
    | mk n1 u1 =>
      rw [hq] at h
      have a := sD1_bd hK i n1 u1 (by omega) hq
      have b := sLapses_bd (d := i) (sD1_nn hK i n1 u1 (by omega) hq).1
      by_cases q : sLeft u1 i = 0
      · simp only [if_pos q] at h
        cases h; omega
      · simp only [if_neg q] at h
        cases h; omega
theorem sDays_bd {v : Nat → Int32} (hK : zK v) : ∀ (i n : Nat) (u : Nat → Int32), sDays v i = (n, u) → n ≤ 600 * i
  | 0, n, u, h => by cases h; exact Nat.le_refl _
  | i + 1, n, u, h => by
    unfold sDays at h
    cases hq : sDays v i with
    | mk n1 u1 =>
      rw [hq] at h
      have a := sDays_bd hK i n1 u1 hq
      have k := sDays_nn hK i n1 u1 hq
      have b := sD1_bd k.day0 (nD u1) (sDayA u1).1 (sDayA u1).2 k.1.2 rfl
      have c := k.1.2
      cases h
      omega
theorem sPass_fl {v : Nat → Int32} (h : zY v) (x : Int32) : (sPass v x).2.2 = decide (0 ≤ (sPass v x).1) := by
  unfold sPass; split
  · rename_i c
    obtain ⟨k, hk1, hk, rfl⟩ := zIn_ab (by omega) (by omega) c
    rw [zn_nI (by omega)]
    split
    · have := sDays_bd h.1.1.1 k _ _ rfl
      exact (decide_eq_true (nI_nn (by omega))).symm
    · rfl
  · rfl
theorem sSet_fl {v : Nat → Int32} (h : zY v) (x y : Int32) : (sSet v x y).2.2 = decide (0 ≤ (sSet v x y).1) := by
  unfold sSet; split
  · rename_i c
    obtain ⟨k, hk, rfl⟩ := zIn_nI (by omega) c
    rw [zn_nI (by omega)]
    split
    · split
      · rfl
      · exact (decide_eq_true (h.2 k (by omega))).symm
    · rfl
  · rfl
theorem sSt_fl {v : Nat → Int32} (h : zY v) (x y z : Int32) : (sSt v x y z).2.2 = decide (0 ≤ (sSt v x y z).1) := by
  unfold sSt; split
  · rename_i c
    obtain ⟨k, hk, rfl⟩ := zIn_nI (by omega) c
    rw [zn_nI (by omega)]
    split
    · split
      · rfl
      · obtain ⟨a, ha, ea⟩ := (h.1.1.2.2.1.2 k (by omega)).2
        exact (decide_eq_true (by rw [ea]; exact nI_nn (by omega))).symm
    · rfl
  · rfl
theorem sAdd_fl {v : Nat → Int32} (h : zY v) (a b c e f : Int32) : (sAdd v a b c e f).2.2 = decide (0 ≤ (sAdd v a b c e f).1) := by
  unfold sAdd; split
  · split
    · rfl
    · have := h.1.1.1.1.2
      exact (decide_eq_true (nI_nn (by omega))).symm
  · rfl
