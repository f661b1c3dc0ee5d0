/-! ===== the reference's reader ===== -/
/-- the object's numbers of the reader: the place, the letter, one, other, the number -/
def zPar (S : Nat → Nat → Int32) (p : Nat) (lt a b nm : Int32) : Nat → Nat → Int32 := fun j k => if j = 0 ∧ k = 10 then nI p else if j = 0 ∧ k = 11 then lt else if j = 0 ∧ k = 12 then a else if j = 0 ∧ k = 13 then b else if j = 0 ∧ k = 14 then nm else S j k
theorem zPar_ne {S : Nat → Nat → Int32} {p : Nat} {lt a b nm : Int32} {j k : Nat} (h : j ≠ 0 ∨ k < 10) : zPar S p lt a b nm j k = S j k := by
  unfold zPar
  rw [if_neg (by omega), if_neg (by omega), if_neg (by omega), if_neg (by omega), if_neg (by omega)]
theorem zPar_p10 (S : Nat → Nat → Int32) (p : Nat) (lt a b nm : Int32) (q : Nat) : suS (zPar S p lt a b nm) 0 10 (nI q) = zPar S q lt a b nm := by
  funext j k
  simp only [suS, zPar]
  by_cases e : j = 0 ∧ k = 10
  · obtain ⟨rfl, rfl⟩ := e; simp
  · rw [if_neg e]; simp [e]
theorem zPar_p11 (S : Nat → Nat → Int32) (p : Nat) (lt a b nm : Int32) (x : Int32) : suS (zPar S p lt a b nm) 0 11 (x) = zPar S p x a b nm := by
  funext j k
  simp only [suS, zPar]
  by_cases e : j = 0 ∧ k = 11
  · obtain ⟨rfl, rfl⟩ := e; simp
  · rw [if_neg e]; simp [e]
theorem zPar_p12 (S : Nat → Nat → Int32) (p : Nat) (lt a b nm : Int32) (x : Int32) : suS (zPar S p lt a b nm) 0 12 (x) = zPar S p lt x b nm := by
  funext j k
  simp only [suS, zPar]
  by_cases e : j = 0 ∧ k = 12
  · obtain ⟨rfl, rfl⟩ := e; simp
  · rw [if_neg e]; simp [e]
theorem zPar_p13 (S : Nat → Nat → Int32) (p : Nat) (lt a b nm : Int32) (x : Int32) : suS (zPar S p lt a b nm) 0 13 (x) = zPar S p lt a x nm := by
  funext j k
  simp only [suS, zPar]
  by_cases e : j = 0 ∧ k = 13
  · obtain ⟨rfl, rfl⟩ := e; simp
  · rw [if_neg e]; simp [e]
theorem zPar_p14 (S : Nat → Nat → Int32) (p : Nat) (lt a b nm : Int32) (x : Int32) : suS (zPar S p lt a b nm) 0 14 (x) = zPar S p lt a b x := by
  funext j k
  simp only [suS, zPar]
  by_cases e : j = 0 ∧ k = 14
  · obtain ⟨rfl, rfl⟩ := e; simp
  · rw [if_neg e]; simp [e]
theorem zPar_of (S : Nat → Nat → Int32) (q : Nat) : suS S 0 10 (nI q) = zPar S q (S 0 11) (S 0 12) (S 0 13) (S 0 14) := by
  funext j k
  simp only [suS, zPar]
  by_cases e : j = 0 ∧ k = 10
  · rw [if_pos e, if_pos e]
  · rw [if_neg e, if_neg e]
    by_cases e1 : j = 0 ∧ k = 11
    · rw [if_pos e1, e1.1, e1.2]
    · rw [if_neg e1]
      by_cases e2 : j = 0 ∧ k = 12
      · rw [if_pos e2, e2.1, e2.2]
      · rw [if_neg e2]
        by_cases e3 : j = 0 ∧ k = 13
        · rw [if_pos e3, e3.1, e3.2]
        · rw [if_neg e3]
          by_cases e4 : j = 0 ∧ k = 14
          · rw [if_pos e4, e4.1, e4.2]
          · rw [if_neg e4]
section ZPR
variable {l : Launch} {G : zG} {y : MethodName} {cc : ByteArray} {nL : Nat} {ret : Option FieldType} {d : Nat} {rv : Option Value} {Q : zM → Prop} {pc : Nat} {lv : List (Option Value)} {st : List Value} {mm m0 : zM} {A : Nat → Nat} {v : Nat → Int32} {S : Nat → Nat → Int32} {ix p t : Nat} {lt a b nm : Int32}
theorem zM_par10 (hp : zMP G A m0 v (zPar S p lt a b nm) mm) (ho : RX7 = y.cls) (hlink : Cond.fieldLink RX7 ix RX7 (TX7 10).2.1 (TX7 10).2.2.1 ∈ zU) (hd : decode cc pc = .ok (.getfield ix, 3)) (kk : zV l G (y, cc, nL, ret) d rv Q (pc + 3) lv (.int (nI p) :: st) mm) : zV l G (y, cc, nL, ret) d rv Q pc lv (.ref (A 0) :: st) mm :=
  zM_int 10 hp (by decide) rfl rfl ho hlink hd kk
theorem zM_pput10 {q : Nat} (hp : zMP G A m0 v (zPar S p lt a b nm) mm) (ho : RX7 = y.cls) (hlink : Cond.fieldLink RX7 ix RX7 (TX7 10).2.1 (TX7 10).2.2.1 ∈ zU) (hd : decode cc pc = .ok (.putfield ix, 3)) (kk : ∀ mm', zMP G A m0 v (zPar S q lt a b nm) mm' → zV l G (y, cc, nL, ret) d rv Q (pc + 3) lv st mm') : zV l G (y, cc, nL, ret) d rv Q pc lv (.int (nI q) :: .ref (A 0) :: st) mm :=
  zM_put 10 hp (by decide) rfl rfl rfl rfl rfl rfl ho hlink hd (fun mm' h => kk mm' (by rw [zPar_p10] at h; exact h))
theorem zM_par11 (hp : zMP G A m0 v (zPar S p lt a b nm) mm) (ho : RX7 = y.cls) (hlink : Cond.fieldLink RX7 ix RX7 (TX7 11).2.1 (TX7 11).2.2.1 ∈ zU) (hd : decode cc pc = .ok (.getfield ix, 3)) (kk : zV l G (y, cc, nL, ret) d rv Q (pc + 3) lv (.int (lt) :: st) mm) : zV l G (y, cc, nL, ret) d rv Q pc lv (.ref (A 0) :: st) mm :=
  zM_int 11 hp (by decide) rfl rfl ho hlink hd kk
theorem zM_pput11 {x : Int32} (hp : zMP G A m0 v (zPar S p lt a b nm) mm) (ho : RX7 = y.cls) (hlink : Cond.fieldLink RX7 ix RX7 (TX7 11).2.1 (TX7 11).2.2.1 ∈ zU) (hd : decode cc pc = .ok (.putfield ix, 3)) (kk : ∀ mm', zMP G A m0 v (zPar S p x a b nm) mm' → zV l G (y, cc, nL, ret) d rv Q (pc + 3) lv st mm') : zV l G (y, cc, nL, ret) d rv Q pc lv (.int (x) :: .ref (A 0) :: st) mm :=
  zM_put 11 hp (by decide) rfl rfl rfl rfl rfl rfl ho hlink hd (fun mm' h => kk mm' (by rw [zPar_p11] at h; exact h))
theorem zM_par12 (hp : zMP G A m0 v (zPar S p lt a b nm) mm) (ho : RX7 = y.cls) (hlink : Cond.fieldLink RX7 ix RX7 (TX7 12).2.1 (TX7 12).2.2.1 ∈ zU) (hd : decode cc pc = .ok (.getfield ix, 3)) (kk : zV l G (y, cc, nL, ret) d rv Q (pc + 3) lv (.int (a) :: st) mm) : zV l G (y, cc, nL, ret) d rv Q pc lv (.ref (A 0) :: st) mm :=
  zM_int 12 hp (by decide) rfl rfl ho hlink hd kk
theorem zM_pput12 {x : Int32} (hp : zMP G A m0 v (zPar S p lt a b nm) mm) (ho : RX7 = y.cls) (hlink : Cond.fieldLink RX7 ix RX7 (TX7 12).2.1 (TX7 12).2.2.1 ∈ zU) (hd : decode cc pc = .ok (.putfield ix, 3)) (kk : ∀ mm', zMP G A m0 v (zPar S p lt x b nm) mm' → zV l G (y, cc, nL, ret) d rv Q (pc + 3) lv st mm') : zV l G (y, cc, nL, ret) d rv Q pc lv (.int (x) :: .ref (A 0) :: st) mm :=
  zM_put 12 hp (by decide) rfl rfl rfl rfl rfl rfl ho hlink hd (fun mm' h => kk mm' (by rw [zPar_p12] at h; exact h))
theorem zM_par13 (hp : zMP G A m0 v (zPar S p lt a b nm) mm) (ho : RX7 = y.cls) (hlink : Cond.fieldLink RX7 ix RX7 (TX7 13).2.1 (TX7 13).2.2.1 ∈ zU) (hd : decode cc pc = .ok (.getfield ix, 3)) (kk : zV l G (y, cc, nL, ret) d rv Q (pc + 3) lv (.int (b) :: st) mm) : zV l G (y, cc, nL, ret) d rv Q pc lv (.ref (A 0) :: st) mm :=
  zM_int 13 hp (by decide) rfl rfl ho hlink hd kk
theorem zM_pput13 {x : Int32} (hp : zMP G A m0 v (zPar S p lt a b nm) mm) (ho : RX7 = y.cls) (hlink : Cond.fieldLink RX7 ix RX7 (TX7 13).2.1 (TX7 13).2.2.1 ∈ zU) (hd : decode cc pc = .ok (.putfield ix, 3)) (kk : ∀ mm', zMP G A m0 v (zPar S p lt a x nm) mm' → zV l G (y, cc, nL, ret) d rv Q (pc + 3) lv st mm') : zV l G (y, cc, nL, ret) d rv Q pc lv (.int (x) :: .ref (A 0) :: st) mm :=
  zM_put 13 hp (by decide) rfl rfl rfl rfl rfl rfl ho hlink hd (fun mm' h => kk mm' (by rw [zPar_p13] at h; exact h))
theorem zM_par14 (hp : zMP G A m0 v (zPar S p lt a b nm) mm) (ho : RX7 = y.cls) (hlink : Cond.fieldLink RX7 ix RX7 (TX7 14).2.1 (TX7 14).2.2.1 ∈ zU) (hd : decode cc pc = .ok (.getfield ix, 3)) (kk : zV l G (y, cc, nL, ret) d rv Q (pc + 3) lv (.int (nm) :: st) mm) : zV l G (y, cc, nL, ret) d rv Q pc lv (.ref (A 0) :: st) mm :=
  zM_int 14 hp (by decide) rfl rfl ho hlink hd kk
theorem zM_pput14 {x : Int32} (hp : zMP G A m0 v (zPar S p lt a b nm) mm) (ho : RX7 = y.cls) (hlink : Cond.fieldLink RX7 ix RX7 (TX7 14).2.1 (TX7 14).2.2.1 ∈ zU) (hd : decode cc pc = .ok (.putfield ix, 3)) (kk : ∀ mm', zMP G A m0 v (zPar S p lt a b x) mm' → zV l G (y, cc, nL, ret) d rv Q (pc + 3) lv st mm') : zV l G (y, cc, nL, ret) d rv Q pc lv (.int (x) :: .ref (A 0) :: st) mm :=
  zM_put 14 hp (by decide) rfl rfl rfl rfl rfl rfl ho hlink hd (fun mm' h => kk mm' (by rw [zPar_p14] at h; exact h))
theorem zM_par7 (hp : zMP G A m0 v (zPar S p lt a b nm) mm) (hL : S 0 7 = nI t) (ho : RX7 = y.cls) (hlink : Cond.fieldLink RX7 ix RX7 (TX7 7).2.1 (TX7 7).2.2.1 ∈ zU) (hd : decode cc pc = .ok (.getfield ix, 3)) (kk : zV l G (y, cc, nL, ret) d rv Q (pc + 3) lv (.int (nI t) :: st) mm) : zV l G (y, cc, nL, ret) d rv Q pc lv (.ref (A 0) :: st) mm :=
  zM_int 7 hp (by decide) rfl rfl ho hlink hd (by rw [zPar_ne (Or.inr (by decide)), hL]; exact kk)
theorem zM_parT {n : Nat} (hp : zMP G A m0 v (zPar S p lt a b nm) mm) (hn : n < 60) (hd : decode cc pc = .ok (.iaload, 1)) (kk : zV l G (y, cc, nL, ret) d rv Q (pc + 1) lv (.int (S 5 n) :: st) mm) : zV l G (y, cc, nL, ret) d rv Q pc lv (.int (nI n) :: .ref (A 5) :: st) mm :=
  zM_ald 5 60 hp (by decide) (by decide) rfl (by decide) hn hd (by rw [zPar_ne (Or.inl (by decide))]; exact kk)
end ZPR
/-- is the sign c at the place p of the text T of t signs -/
def sSg (T : Nat → Int32) (t p : Nat) (c : Int32) : Bool := decide (p < t) && decide (T p = c)
def sB1 (b : Bool) : Nat := if b then 1 else 0
def sDg (T : Nat → Int32) (q : Nat) : Nat := zn (T q) - 48
/-- the digits from f on: how many, and their number; r more may be read, i have been -/
def sRN (T : Nat → Int32) (t f : Nat) : Nat → Nat → Nat → Nat × Nat
  | 0, i, n => (i, n)
  | r + 1, i, n => if f + i < t ∧ zIn (T (f + i)) (nI 48) (nI 57) = true ∧ (i = 0 ∨ ¬ T f = nI 48) then sRN T t f r (i + 1) (10 * n + sDg T (f + i)) else (i, n)
theorem sRN_pos {T : Nat → Int32} {t f r i n : Nat} (q : f + i < t ∧ zIn (T (f + i)) (nI 48) (nI 57) = true ∧ (i = 0 ∨ ¬ T f = nI 48)) : sRN T t f (r + 1) i n = sRN T t f r (i + 1) (10 * n + sDg T (f + i)) := if_pos q
theorem sRN_le {T : Nat → Int32} {t f : Nat} : ∀ (r i n : Nat), (sRN T t f r i n).1 ≤ i + r ∧ (f + i ≤ t → f + (sRN T t f r i n).1 ≤ t)
  | 0, i, n => ⟨Nat.le_refl _, fun h => h⟩
  | r + 1, i, n => by
    unfold sRN
    by_cases q : f + i < t ∧ zIn (T (f + i)) (nI 48) (nI 57) = true ∧ (i = 0 ∨ ¬ T f = nI 48)
    · rw [if_pos q]
      have h := sRN_le (T := T) (t := t) (f := f) r (i + 1) (10 * n + sDg T (f + i))
      exact ⟨by omega, fun _ => h.2 (by omega)⟩
    · rw [if_neg q]; exact ⟨by omega, fun h => h⟩
theorem zDig {x : Int32} (h : zIn x (nI 48) (nI 57) = true) : ∃ g, g < 10 ∧ x = nI (48 + g) := by
  have h1 : zIn x (nI 0) (nI 57) = true := by
    unfold zIn at h ⊢
    rw [Bool.and_eq_true, decide_eq_true_eq, decide_eq_true_eq] at h ⊢
    exact ⟨Int32.le_trans (by decide) h.1, h.2⟩
  obtain ⟨j, hj, rfl⟩ := zIn_nI (by decide) h1
  unfold zIn at h
  rw [Bool.and_eq_true, decide_eq_true_eq, decide_eq_true_eq] at h
  have := (nI_leI (by omega) (by omega)).mp h.1
  exact ⟨j - 48, by omega, by congr 1; omega⟩
set_option maxRecDepth 4000 in
theorem c_X7_sign {l : Launch} {G : zG} {A : Nat → Nat} {m0 mm : zM} {v : Nat → Int32} {S : Nat → Nat → Int32} {p t : Nat} {lt a b nm : Int32} (hp : zMP G A m0 v (zPar S p lt a b nm) mm) (hL : S 0 7 = nI t) (ht : t ≤ 60) (hpt : p ≤ t) (c : Int32) : zSem l G (yX7_sign, cX7_sign, 3, (some .boolean)) 1 [.ref (A 0), .int c] mm (some (.int (zB (sSg (S 5) t p c)))) (fun m' => zMP G A m0 v (zPar S (p + sB1 (sSg (S 5) t p c)) lt a b nm) m') := by
  refine z_met [some (.ref (A 0)), some (.int c), none] rfl (zc1 (by rfl)) (Nat.le_of_ble_eq_true rfl) rfl ?_
  refine z_aload_n 0 rfl rfl dX7_sign_0 ?_
  refine zM_par10 hp rfl zf_X7_161 dX7_sign_1 ?_
  refine z_aload_n 0 rfl rfl dX7_sign_4 ?_
  refine zM_par7 hp hL rfl zf_X7_158 dX7_sign_5 ?_
  refine z_icmp_ge 28 dX7_sign_8 rfl (fun c8 => ?_) (fun c8 => ?_)
  · have hpt2 : t ≤ p := (nI_leI (by omega) (by omega)).mp c8
    have e9 : sSg (S 5) t p c = false := by unfold sSg; rw [decide_eq_false (by omega)]; rfl
    refine z_iconst (nI 0) dX7_sign_28 rfl ?_
    refine z_istore_n 2 rfl (Nat.le_of_ble_eq_true rfl) rfl dX7_sign_29 ?_
    refine z_aload_n 0 rfl rfl dX7_sign_30 ?_
    refine z_dup dX7_sign_31 rfl ?_
    refine zM_par10 hp rfl zf_X7_161 dX7_sign_32 ?_
    refine z_iload_n 2 rfl rfl dX7_sign_35 ?_
    refine z_if_eq 43 dX7_sign_36 rfl (fun c36 => ?_) (fun c36 => ?_)
    · refine z_iconst (nI 0) dX7_sign_43 rfl ?_
      refine z_iaddN dX7_sign_44 ?_
      refine zM_pput10 hp rfl zf_X7_161 dX7_sign_45 (fun mm hp => ?_)
      refine z_iload_n 2 rfl rfl dX7_sign_48 ?_
      exact z_zret dX7_sign_49 (by first | rfl | exact zB_nar _) (by rw [e9]; rfl) (by rw [e9]; exact hp)
    · exact absurd c36 (by decide)
  · have hpt2 : p < t := Nat.lt_of_not_le (fun q => c8 ((nI_leI (by omega) (by omega)).mpr q))
    refine z_aload_n 0 rfl rfl dX7_sign_11 ?_
    refine zM_ref 6 5 hp (by decide) rfl (by decide) rfl rfl zf_X7_22 dX7_sign_12 ?_
    refine z_aload_n 0 rfl rfl dX7_sign_15 ?_
    refine zM_par10 hp rfl zf_X7_161 dX7_sign_16 ?_
    refine zM_parT hp (by omega) dX7_sign_19 ?_
    refine z_iload_n 1 rfl rfl dX7_sign_20 ?_
    refine z_icmp_ne 28 dX7_sign_21 rfl (fun c21 => ?_) (fun c21 => ?_)
    · have e9 : sSg (S 5) t p c = false := by unfold sSg; rw [decide_eq_false c21, Bool.and_false]
      refine z_iconst (nI 0) dX7_sign_28 rfl ?_
      refine z_istore_n 2 rfl (Nat.le_of_ble_eq_true rfl) rfl dX7_sign_29 ?_
      refine z_aload_n 0 rfl rfl dX7_sign_30 ?_
      refine z_dup dX7_sign_31 rfl ?_
      refine zM_par10 hp rfl zf_X7_161 dX7_sign_32 ?_
      refine z_iload_n 2 rfl rfl dX7_sign_35 ?_
      refine z_if_eq 43 dX7_sign_36 rfl (fun c36 => ?_) (fun c36 => ?_)
      · refine z_iconst (nI 0) dX7_sign_43 rfl ?_
        refine z_iaddN dX7_sign_44 ?_
        refine zM_pput10 hp rfl zf_X7_161 dX7_sign_45 (fun mm hp => ?_)
        refine z_iload_n 2 rfl rfl dX7_sign_48 ?_
        exact z_zret dX7_sign_49 (by first | rfl | exact zB_nar _) (by rw [e9]; rfl) (by rw [e9]; exact hp)
      · exact absurd c36 (by decide)
    · have e9 : sSg (S 5) t p c = true := by unfold sSg; rw [decide_eq_true hpt2, decide_eq_true c21]; rfl
      refine z_iconst (nI 1) dX7_sign_24 rfl ?_
      refine z_goto 29 dX7_sign_25 rfl ?_
      refine z_istore_n 2 rfl (Nat.le_of_ble_eq_true rfl) rfl dX7_sign_29 ?_
      refine z_aload_n 0 rfl rfl dX7_sign_30 ?_
      refine z_dup dX7_sign_31 rfl ?_
      refine zM_par10 hp rfl zf_X7_161 dX7_sign_32 ?_
      refine z_iload_n 2 rfl rfl dX7_sign_35 ?_
      refine z_if_eq 43 dX7_sign_36 rfl (fun c36 => ?_) (fun c36 => ?_)
      · exact absurd c36 (by decide)
      · refine z_iconst (nI 1) dX7_sign_39 rfl ?_
        refine z_goto 44 dX7_sign_40 rfl ?_
        refine z_iaddN dX7_sign_44 ?_
        refine zM_pput10 hp rfl zf_X7_161 dX7_sign_45 (fun mm hp => ?_)
        refine z_iload_n 2 rfl rfl dX7_sign_48 ?_
        exact z_zret dX7_sign_49 (by first | rfl | exact zB_nar _) (by rw [e9]; rfl) (by rw [e9]; exact hp)
set_option maxRecDepth 4000 in
theorem l_X7_readNumber {l : Launch} {G : zG} {A : Nat → Nat} {m0 : zM} {v : Nat → Int32} {S : Nat → Nat → Int32} {f t k : Nat} {lt a b : Int32} (hL : S 0 7 = nI t) (ht : t ≤ 60) (hk : k ≤ 5) : ∀ (r i n : Nat) (mm : zM), i + r = k → zMP G A m0 v (zPar S (f + i) lt a b (nI n)) mm → f + i ≤ t → zV l G (yX7_readNumber, cX7_readNumber, 3, (some .boolean)) 2 (some (.int (zB (decide (0 < (sRN (S 5) t f r i n).1))))) (fun m' => zMP G A m0 v (zPar S (f + (sRN (S 5) t f r i n).1) lt a b (nI (sRN (S 5) t f r i n).2)) m') 10 [some (.ref (A 0)), some (.int (nI k)), some (.int (nI f))] [] mm := by
  intro r
  induction r with
  | zero =>
    intro i n mm hir hp hft
    refine z_aload_n 0 rfl rfl dX7_readNumber_10 ?_
    refine zM_par10 hp rfl zf_X7_161 dX7_readNumber_11 ?_
    refine z_aload_n 0 rfl rfl dX7_readNumber_14 ?_
    refine zM_par7 hp hL rfl zf_X7_158 dX7_readNumber_15 ?_
    refine z_icmp_ge 106 dX7_readNumber_18 rfl (fun c18 => ?_) (fun c18 => ?_)
    · have e9 : sRN (S 5) t f 0 i n = (i, n) := rfl
      rw [e9]
      refine z_aload_n 0 rfl rfl dX7_readNumber_106 ?_
      refine zM_par10 hp rfl zf_X7_161 dX7_readNumber_107 ?_
      refine z_iload_n 2 rfl rfl dX7_readNumber_110 ?_
      refine z_icmp_le 118 dX7_readNumber_111 rfl (fun c111 => ?_) (fun c111 => ?_)
      · have h0 : i = 0 := by have := (nI_leI (by omega) (by omega)).mp c111; omega
        refine z_iconst (nI 0) dX7_readNumber_118 rfl ?_
        exact z_zret dX7_readNumber_119 (by first | rfl | exact zB_nar _) (by first | (rw [decide_eq_false (by simpa using h0)]; rfl) | (rw [decide_eq_true (by show 0 < i; omega)]; rfl)) hp
      · have h0 : ¬ i = 0 := fun q => c111 (by subst q; exact Int32.le_refl _)
        refine z_iconst (nI 1) dX7_readNumber_114 rfl ?_
        refine z_goto 119 dX7_readNumber_115 rfl ?_
        exact z_zret dX7_readNumber_119 (by first | rfl | exact zB_nar _) (by first | (rw [decide_eq_false (by simpa using h0)]; rfl) | (rw [decide_eq_true (by show 0 < i; omega)]; rfl)) hp
    · refine z_aload_n 0 rfl rfl dX7_readNumber_21 ?_
      refine zM_par10 hp rfl zf_X7_161 dX7_readNumber_22 ?_
      refine z_iload_n 2 rfl rfl dX7_readNumber_25 ?_
      refine z_iload_n 1 rfl rfl dX7_readNumber_26 ?_
      refine z_iaddN dX7_readNumber_27 ?_
      refine z_icmp_ge 106 dX7_readNumber_28 rfl (fun c28 => ?_) (fun c28 => ?_)
      · have e9 : sRN (S 5) t f 0 i n = (i, n) := rfl
        rw [e9]
        refine z_aload_n 0 rfl rfl dX7_readNumber_106 ?_
        refine zM_par10 hp rfl zf_X7_161 dX7_readNumber_107 ?_
        refine z_iload_n 2 rfl rfl dX7_readNumber_110 ?_
        refine z_icmp_le 118 dX7_readNumber_111 rfl (fun c111 => ?_) (fun c111 => ?_)
        · have h0 : i = 0 := by have := (nI_leI (by omega) (by omega)).mp c111; omega
          refine z_iconst (nI 0) dX7_readNumber_118 rfl ?_
          exact z_zret dX7_readNumber_119 (by first | rfl | exact zB_nar _) (by first | (rw [decide_eq_false (by simpa using h0)]; rfl) | (rw [decide_eq_true (by show 0 < i; omega)]; rfl)) hp
        · have h0 : ¬ i = 0 := fun q => c111 (by subst q; exact Int32.le_refl _)
          refine z_iconst (nI 1) dX7_readNumber_114 rfl ?_
          refine z_goto 119 dX7_readNumber_115 rfl ?_
          exact z_zret dX7_readNumber_119 (by first | rfl | exact zB_nar _) (by first | (rw [decide_eq_false (by simpa using h0)]; rfl) | (rw [decide_eq_true (by show 0 < i; omega)]; rfl)) hp
      · exact absurd ((nI_leI (by omega) (by omega)).mpr (by omega)) c28
  | succ r ih =>
    intro i n mm hir hp hft
    refine z_aload_n 0 rfl rfl dX7_readNumber_10 ?_
    refine zM_par10 hp rfl zf_X7_161 dX7_readNumber_11 ?_
    refine z_aload_n 0 rfl rfl dX7_readNumber_14 ?_
    refine zM_par7 hp hL rfl zf_X7_158 dX7_readNumber_15 ?_
    refine z_icmp_ge 106 dX7_readNumber_18 rfl (fun c18 => ?_) (fun c18 => ?_)
    · have e9 : sRN (S 5) t f (r + 1) i n = (i, n) := by unfold sRN; exact if_neg (fun q => by have := (nI_leI (by omega) (by omega)).mp c18; omega)
      rw [e9]
      refine z_aload_n 0 rfl rfl dX7_readNumber_106 ?_
      refine zM_par10 hp rfl zf_X7_161 dX7_readNumber_107 ?_
      refine z_iload_n 2 rfl rfl dX7_readNumber_110 ?_
      refine z_icmp_le 118 dX7_readNumber_111 rfl (fun c111 => ?_) (fun c111 => ?_)
      · have h0 : i = 0 := by have := (nI_leI (by omega) (by omega)).mp c111; omega
        refine z_iconst (nI 0) dX7_readNumber_118 rfl ?_
        exact z_zret dX7_readNumber_119 (by first | rfl | exact zB_nar _) (by first | (rw [decide_eq_false (by simpa using h0)]; rfl) | (rw [decide_eq_true (by show 0 < i; omega)]; rfl)) hp
      · have h0 : ¬ i = 0 := fun q => c111 (by subst q; exact Int32.le_refl _)
        refine z_iconst (nI 1) dX7_readNumber_114 rfl ?_
        refine z_goto 119 dX7_readNumber_115 rfl ?_
        exact z_zret dX7_readNumber_119 (by first | rfl | exact zB_nar _) (by first | (rw [decide_eq_false (by simpa using h0)]; rfl) | (rw [decide_eq_true (by show 0 < i; omega)]; rfl)) hp
    · have h18 : f + i < t := Nat.lt_of_not_le (fun q => c18 ((nI_leI (by omega) (by omega)).mpr q))
      refine z_aload_n 0 rfl rfl dX7_readNumber_21 ?_
      refine zM_par10 hp rfl zf_X7_161 dX7_readNumber_22 ?_
      refine z_iload_n 2 rfl rfl dX7_readNumber_25 ?_
      refine z_iload_n 1 rfl rfl dX7_readNumber_26 ?_
      refine z_iaddN dX7_readNumber_27 ?_
      refine z_icmp_ge 106 dX7_readNumber_28 rfl (fun c28 => ?_) (fun c28 => ?_)
      · exact absurd ((nI_leI (by omega) (by omega)).mp c28) (by omega)
      · refine z_aload_n 0 rfl rfl dX7_readNumber_31 ?_
        refine zM_ref 6 5 hp (by decide) rfl (by decide) rfl rfl zf_X7_22 dX7_readNumber_32 ?_
        refine z_aload_n 0 rfl rfl dX7_readNumber_35 ?_
        refine zM_par10 hp rfl zf_X7_161 dX7_readNumber_36 ?_
        refine zM_parT hp (by omega) dX7_readNumber_39 ?_
        refine z_bipush (nI 48) dX7_readNumber_40 rfl ?_
        refine z_bipush (nI 57) dX7_readNumber_42 rfl ?_
        refine z_pS3 zm_X7_in (c_X7_in _ _ _) rfl zl_X7_35 (by decide) (Nat.le_of_ble_eq_true rfl) dX7_readNumber_44 ?_
        refine z_if_eqB 106 dX7_readNumber_47 rfl (fun c47 => ?_) (fun c47 => ?_)
        · have e9 : sRN (S 5) t f (r + 1) i n = (i, n) := by unfold sRN; exact if_neg (fun q => by rw [c47] at q; exact absurd q.2.1 (by decide))
          rw [e9]
          refine z_aload_n 0 rfl rfl dX7_readNumber_106 ?_
          refine zM_par10 hp rfl zf_X7_161 dX7_readNumber_107 ?_
          refine z_iload_n 2 rfl rfl dX7_readNumber_110 ?_
          refine z_icmp_le 118 dX7_readNumber_111 rfl (fun c111 => ?_) (fun c111 => ?_)
          · have h0 : i = 0 := by have := (nI_leI (by omega) (by omega)).mp c111; omega
            refine z_iconst (nI 0) dX7_readNumber_118 rfl ?_
            exact z_zret dX7_readNumber_119 (by first | rfl | exact zB_nar _) (by first | (rw [decide_eq_false (by simpa using h0)]; rfl) | (rw [decide_eq_true (by show 0 < i; omega)]; rfl)) hp
          · have h0 : ¬ i = 0 := fun q => c111 (by subst q; exact Int32.le_refl _)
            refine z_iconst (nI 1) dX7_readNumber_114 rfl ?_
            refine z_goto 119 dX7_readNumber_115 rfl ?_
            exact z_zret dX7_readNumber_119 (by first | rfl | exact zB_nar _) (by first | (rw [decide_eq_false (by simpa using h0)]; rfl) | (rw [decide_eq_true (by show 0 < i; omega)]; rfl)) hp
        · obtain ⟨g, hg, eg⟩ := zDig c47
          have edg : sDg (S 5) (f + i) = g := by unfold sDg; rw [eg, zn_nI (by omega)]; omega
          refine z_aload_n 0 rfl rfl dX7_readNumber_50 ?_
          refine zM_par10 hp rfl zf_X7_161 dX7_readNumber_51 ?_
          refine z_iload_n 2 rfl rfl dX7_readNumber_54 ?_
          refine z_icmp_eq 69 dX7_readNumber_55 rfl (fun c55 => ?_) (fun c55 => ?_)
          · have hi0 : i = 0 := by have := (nI_eq (by omega) (by omega)).mp c55; omega
            have e9 : sRN (S 5) t f (r + 1) i n = sRN (S 5) t f r (i + 1) (10 * n + g) := by rw [sRN_pos (And.intro h18 (And.intro c47 (Or.inl hi0))), edg]
            refine z_aload_n 0 rfl rfl dX7_readNumber_69 ?_
            refine z_bipush (nI 10) dX7_readNumber_70 rfl ?_
            refine z_aload_n 0 rfl rfl dX7_readNumber_72 ?_
            refine zM_par14 hp rfl zf_X7_164 dX7_readNumber_73 ?_
            refine z_imulN dX7_readNumber_76 ?_
            refine z_aload_n 0 rfl rfl dX7_readNumber_77 ?_
            refine zM_ref 6 5 hp (by decide) rfl (by decide) rfl rfl zf_X7_22 dX7_readNumber_78 ?_
            refine z_aload_n 0 rfl rfl dX7_readNumber_81 ?_
            refine zM_par10 hp rfl zf_X7_161 dX7_readNumber_82 ?_
            refine zM_parT hp (by omega) dX7_readNumber_85 ?_
            rw [eg]
            refine z_iaddN dX7_readNumber_86 ?_
            refine z_bipush (nI 48) dX7_readNumber_87 rfl ?_
            refine z_isubN (by omega) dX7_readNumber_89 ?_
            rw [show 10 * n + (48 + g) - 48 = 10 * n + g by omega]
            refine zM_pput14 hp rfl zf_X7_164 dX7_readNumber_90 (fun mm hp => ?_)
            refine z_aload_n 0 rfl rfl dX7_readNumber_93 ?_
            refine z_dup dX7_readNumber_94 rfl ?_
            refine zM_par10 hp rfl zf_X7_161 dX7_readNumber_95 ?_
            refine z_iconst (nI 1) dX7_readNumber_98 rfl ?_
            refine z_iaddN dX7_readNumber_99 ?_
            refine zM_pput10 hp rfl zf_X7_161 dX7_readNumber_100 (fun mm hp => ?_)
            refine z_goto 10 dX7_readNumber_103 rfl ?_
            rw [e9]
            have e10 : nI (10 * n + (48 + g)) - nI 48 = nI (10 * n + g) := by rw [show 10 * n + (48 + g) = (10 * n + g) + 48 by omega, ← nI_add]; simp
            exact ih (i + 1) (10 * n + g) mm (by omega) hp (by omega)
          · skip
            refine z_aload_n 0 rfl rfl dX7_readNumber_58 ?_
            refine zM_ref 6 5 hp (by decide) rfl (by decide) rfl rfl zf_X7_22 dX7_readNumber_59 ?_
            refine z_iload_n 2 rfl rfl dX7_readNumber_62 ?_
            refine zM_parT hp (by omega) dX7_readNumber_63 ?_
            refine z_bipush (nI 48) dX7_readNumber_64 rfl ?_
            refine z_icmp_eq 106 dX7_readNumber_66 rfl (fun c66 => ?_) (fun c66 => ?_)
            · have e9 : sRN (S 5) t f (r + 1) i n = (i, n) := by unfold sRN; exact if_neg (fun q => by rcases q.2.2 with z | z; subst z; exact c55 rfl; exact z c66)
              rw [e9]
              refine z_aload_n 0 rfl rfl dX7_readNumber_106 ?_
              refine zM_par10 hp rfl zf_X7_161 dX7_readNumber_107 ?_
              refine z_iload_n 2 rfl rfl dX7_readNumber_110 ?_
              refine z_icmp_le 118 dX7_readNumber_111 rfl (fun c111 => ?_) (fun c111 => ?_)
              · have h0 : i = 0 := by have := (nI_leI (by omega) (by omega)).mp c111; omega
                refine z_iconst (nI 0) dX7_readNumber_118 rfl ?_
                exact z_zret dX7_readNumber_119 (by first | rfl | exact zB_nar _) (by first | (rw [decide_eq_false (by simpa using h0)]; rfl) | (rw [decide_eq_true (by show 0 < i; omega)]; rfl)) hp
              · have h0 : ¬ i = 0 := fun q => c111 (by subst q; exact Int32.le_refl _)
                refine z_iconst (nI 1) dX7_readNumber_114 rfl ?_
                refine z_goto 119 dX7_readNumber_115 rfl ?_
                exact z_zret dX7_readNumber_119 (by first | rfl | exact zB_nar _) (by first | (rw [decide_eq_false (by simpa using h0)]; rfl) | (rw [decide_eq_true (by show 0 < i; omega)]; rfl)) hp
            · have e9 : sRN (S 5) t f (r + 1) i n = sRN (S 5) t f r (i + 1) (10 * n + g) := by rw [sRN_pos (And.intro h18 (And.intro c47 (Or.inr c66))), edg]
              refine z_aload_n 0 rfl rfl dX7_readNumber_69 ?_
              refine z_bipush (nI 10) dX7_readNumber_70 rfl ?_
              refine z_aload_n 0 rfl rfl dX7_readNumber_72 ?_
              refine zM_par14 hp rfl zf_X7_164 dX7_readNumber_73 ?_
              refine z_imulN dX7_readNumber_76 ?_
              refine z_aload_n 0 rfl rfl dX7_readNumber_77 ?_
              refine zM_ref 6 5 hp (by decide) rfl (by decide) rfl rfl zf_X7_22 dX7_readNumber_78 ?_
              refine z_aload_n 0 rfl rfl dX7_readNumber_81 ?_
              refine zM_par10 hp rfl zf_X7_161 dX7_readNumber_82 ?_
              refine zM_parT hp (by omega) dX7_readNumber_85 ?_
              rw [eg]
              refine z_iaddN dX7_readNumber_86 ?_
              refine z_bipush (nI 48) dX7_readNumber_87 rfl ?_
              refine z_isubN (by omega) dX7_readNumber_89 ?_
              rw [show 10 * n + (48 + g) - 48 = 10 * n + g by omega]
              refine zM_pput14 hp rfl zf_X7_164 dX7_readNumber_90 (fun mm hp => ?_)
              refine z_aload_n 0 rfl rfl dX7_readNumber_93 ?_
              refine z_dup dX7_readNumber_94 rfl ?_
              refine zM_par10 hp rfl zf_X7_161 dX7_readNumber_95 ?_
              refine z_iconst (nI 1) dX7_readNumber_98 rfl ?_
              refine z_iaddN dX7_readNumber_99 ?_
              refine zM_pput10 hp rfl zf_X7_161 dX7_readNumber_100 (fun mm hp => ?_)
              refine z_goto 10 dX7_readNumber_103 rfl ?_
              rw [e9]
              have e10 : nI (10 * n + (48 + g)) - nI 48 = nI (10 * n + g) := by rw [show 10 * n + (48 + g) = (10 * n + g) + 48 by omega, ← nI_add]; simp
              exact ih (i + 1) (10 * n + g) mm (by omega) hp (by omega)
set_option maxRecDepth 4000 in
theorem c_X7_readNumber {l : Launch} {G : zG} {A : Nat → Nat} {m0 mm : zM} {v : Nat → Int32} {S : Nat → Nat → Int32} {p t : Nat} {lt a b nm : Int32} (hp : zMP G A m0 v (zPar S p lt a b nm) mm) (hL : S 0 7 = nI t) (ht : t ≤ 60) (hpt : p ≤ t) (k : Nat) (hk : k ≤ 5) : zSem l G (yX7_readNumber, cX7_readNumber, 3, (some .boolean)) 2 [.ref (A 0), .int (nI k)] mm (some (.int (zB (decide (0 < (sRN (S 5) t p k 0 0).1))))) (fun m' => zMP G A m0 v (zPar S (p + (sRN (S 5) t p k 0 0).1) lt a b (nI (sRN (S 5) t p k 0 0).2)) m') := by
  refine z_met [some (.ref (A 0)), some (.int (nI k)), none] rfl (zc1 (by rfl)) (Nat.le_of_ble_eq_true rfl) rfl ?_
  refine z_aload_n 0 rfl rfl dX7_readNumber_0 ?_
  refine zM_par10 hp rfl zf_X7_161 dX7_readNumber_1 ?_
  refine z_istore_n 2 rfl (Nat.le_of_ble_eq_true rfl) rfl dX7_readNumber_4 ?_
  refine z_aload_n 0 rfl rfl dX7_readNumber_5 ?_
  refine z_iconst (nI 0) dX7_readNumber_6 rfl ?_
  refine zM_pput14 hp rfl zf_X7_164 dX7_readNumber_7 (fun mm hp => ?_)
  exact l_X7_readNumber hL ht hk k 0 0 mm (by omega) hp (by omega)
