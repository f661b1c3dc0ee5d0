def gP (t p : Nat) (kd fi se : Int32) : Nat → Int32 := fun k => if k = 1 then nI t else if k = 2 then nI p else if k = 3 then kd else if k = 4 then fi else if k = 5 then se else 0
theorem gP_2 {t p : Nat} {kd fi se : Int32} (x : Nat) : upd (gP t p kd fi se) 2 (nI x) = gP t x kd fi se := by
  funext j
  rcases (by omega : j = 1 ∨ j = 2 ∨ j = 3 ∨ j = 4 ∨ j = 5 ∨ (j ≠ 1 ∧ j ≠ 2 ∧ j ≠ 3 ∧ j ≠ 4 ∧ j ≠ 5)) with rfl | rfl | rfl | rfl | rfl | ⟨a1, a2, a3, a4, a5⟩
  · rfl
  · rfl
  · rfl
  · rfl
  · rfl
  · unfold gP upd
    simp only [if_neg a1, if_neg a2, if_neg a3, if_neg a4, if_neg a5]
theorem gP_3 {t p : Nat} {kd fi se : Int32} (x : Int32) : upd (gP t p kd fi se) 3 x = gP t p x fi se := by
  funext j
  rcases (by omega : j = 1 ∨ j = 2 ∨ j = 3 ∨ j = 4 ∨ j = 5 ∨ (j ≠ 1 ∧ j ≠ 2 ∧ j ≠ 3 ∧ j ≠ 4 ∧ j ≠ 5)) with rfl | rfl | rfl | rfl | rfl | ⟨a1, a2, a3, a4, a5⟩
  · rfl
  · rfl
  · rfl
  · rfl
  · rfl
  · unfold gP upd
    simp only [if_neg a1, if_neg a2, if_neg a3, if_neg a4, if_neg a5]
theorem gP_4 {t p : Nat} {kd fi se : Int32} (x : Int32) : upd (gP t p kd fi se) 4 x = gP t p kd x se := by
  funext j
  rcases (by omega : j = 1 ∨ j = 2 ∨ j = 3 ∨ j = 4 ∨ j = 5 ∨ (j ≠ 1 ∧ j ≠ 2 ∧ j ≠ 3 ∧ j ≠ 4 ∧ j ≠ 5)) with rfl | rfl | rfl | rfl | rfl | ⟨a1, a2, a3, a4, a5⟩
  · rfl
  · rfl
  · rfl
  · rfl
  · rfl
  · unfold gP upd
    simp only [if_neg a1, if_neg a2, if_neg a3, if_neg a4, if_neg a5]
theorem gP_5 {t p : Nat} {kd fi se : Int32} (x : Int32) : upd (gP t p kd fi se) 5 x = gP t p kd fi x := by
  funext j
  rcases (by omega : j = 1 ∨ j = 2 ∨ j = 3 ∨ j = 4 ∨ j = 5 ∨ (j ≠ 1 ∧ j ≠ 2 ∧ j ≠ 3 ∧ j ≠ 4 ∧ j ≠ 5)) with rfl | rfl | rfl | rfl | rfl | ⟨a1, a2, a3, a4, a5⟩
  · rfl
  · rfl
  · rfl
  · rfl
  · rfl
  · unfold gP upd
    simp only [if_neg a1, if_neg a2, if_neg a3, if_neg a4, if_neg a5]
section ZGR
variable {l : Launch} {G : zG} {y : MethodName} {cc : ByteArray} {nL : Nat} {ret : Option FieldType} {d0 : Nat} {rv : Option Value} {Q : zM → Prop} {pc : Nat} {lv : List (Option Value)} {st : List Value} {mm m0 : zM} {E D : Nat} {T : Nat → Int32} {ix n t p : Nat} {kd fi se : Int32} {own : String}
theorem zG_1 (hp : zTP G E D m0 T (gP t p kd fi se) mm) (ho : own = y.cls) (hlink : Cond.fieldLink own ix RX3 (TX3 1).2.1 (TX3 1).2.2.1 ∈ zU) (hd : decode cc pc = .ok (.getfield ix, 3)) (kk : zV l G (y, cc, nL, ret) d0 rv Q (pc + 3) lv (.int (nI t) :: st) mm) : zV l G (y, cc, nL, ret) d0 rv Q pc lv (.ref E :: st) mm :=
  zT_1 hp ho hlink hd kk
theorem zG_2 (hp : zTP G E D m0 T (gP t p kd fi se) mm) (ho : own = y.cls) (hlink : Cond.fieldLink own ix RX3 (TX3 2).2.1 (TX3 2).2.2.1 ∈ zU) (hd : decode cc pc = .ok (.getfield ix, 3)) (kk : zV l G (y, cc, nL, ret) d0 rv Q (pc + 3) lv (.int (nI p) :: st) mm) : zV l G (y, cc, nL, ret) d0 rv Q pc lv (.ref E :: st) mm :=
  zT_2 hp ho hlink hd kk
theorem zG_p2 {x : Nat} (hp : zTP G E D m0 T (gP t p kd fi se) mm) (ho : own = y.cls) (hlink : Cond.fieldLink own ix RX3 (TX3 2).2.1 (TX3 2).2.2.1 ∈ zU) (hd : decode cc pc = .ok (.putfield ix, 3)) (kk : ∀ mm', zTP G E D m0 T (gP t x kd fi se) mm' → zV l G (y, cc, nL, ret) d0 rv Q (pc + 3) lv st mm') : zV l G (y, cc, nL, ret) d0 rv Q pc lv (.int (nI x) :: .ref E :: st) mm :=
  zT_p2 hp ho hlink hd (fun mm' h => kk mm' (by rw [gP_2] at h; exact h))
theorem zG_3 (hp : zTP G E D m0 T (gP t p kd fi se) mm) (ho : own = y.cls) (hlink : Cond.fieldLink own ix RX3 (TX3 3).2.1 (TX3 3).2.2.1 ∈ zU) (hd : decode cc pc = .ok (.getfield ix, 3)) (kk : zV l G (y, cc, nL, ret) d0 rv Q (pc + 3) lv (.int kd :: st) mm) : zV l G (y, cc, nL, ret) d0 rv Q pc lv (.ref E :: st) mm :=
  zT_3 hp ho hlink hd kk
theorem zG_p3 {x : Int32} (hp : zTP G E D m0 T (gP t p kd fi se) mm) (ho : own = y.cls) (hlink : Cond.fieldLink own ix RX3 (TX3 3).2.1 (TX3 3).2.2.1 ∈ zU) (hd : decode cc pc = .ok (.putfield ix, 3)) (kk : ∀ mm', zTP G E D m0 T (gP t p x fi se) mm' → zV l G (y, cc, nL, ret) d0 rv Q (pc + 3) lv st mm') : zV l G (y, cc, nL, ret) d0 rv Q pc lv (.int x :: .ref E :: st) mm :=
  zT_p3 hp ho hlink hd (fun mm' h => kk mm' (by rw [gP_3] at h; exact h))
theorem zG_4 (hp : zTP G E D m0 T (gP t p kd fi se) mm) (ho : own = y.cls) (hlink : Cond.fieldLink own ix RX3 (TX3 4).2.1 (TX3 4).2.2.1 ∈ zU) (hd : decode cc pc = .ok (.getfield ix, 3)) (kk : zV l G (y, cc, nL, ret) d0 rv Q (pc + 3) lv (.int fi :: st) mm) : zV l G (y, cc, nL, ret) d0 rv Q pc lv (.ref E :: st) mm :=
  zT_4 hp ho hlink hd kk
theorem zG_p4 {x : Int32} (hp : zTP G E D m0 T (gP t p kd fi se) mm) (ho : own = y.cls) (hlink : Cond.fieldLink own ix RX3 (TX3 4).2.1 (TX3 4).2.2.1 ∈ zU) (hd : decode cc pc = .ok (.putfield ix, 3)) (kk : ∀ mm', zTP G E D m0 T (gP t p kd x se) mm' → zV l G (y, cc, nL, ret) d0 rv Q (pc + 3) lv st mm') : zV l G (y, cc, nL, ret) d0 rv Q pc lv (.int x :: .ref E :: st) mm :=
  zT_p4 hp ho hlink hd (fun mm' h => kk mm' (by rw [gP_4] at h; exact h))
theorem zG_5 (hp : zTP G E D m0 T (gP t p kd fi se) mm) (ho : own = y.cls) (hlink : Cond.fieldLink own ix RX3 (TX3 5).2.1 (TX3 5).2.2.1 ∈ zU) (hd : decode cc pc = .ok (.getfield ix, 3)) (kk : zV l G (y, cc, nL, ret) d0 rv Q (pc + 3) lv (.int se :: st) mm) : zV l G (y, cc, nL, ret) d0 rv Q pc lv (.ref E :: st) mm :=
  zT_5 hp ho hlink hd kk
theorem zG_p5 {x : Int32} (hp : zTP G E D m0 T (gP t p kd fi se) mm) (ho : own = y.cls) (hlink : Cond.fieldLink own ix RX3 (TX3 5).2.1 (TX3 5).2.2.1 ∈ zU) (hd : decode cc pc = .ok (.putfield ix, 3)) (kk : ∀ mm', zTP G E D m0 T (gP t p kd fi x) mm' → zV l G (y, cc, nL, ret) d0 rv Q (pc + 3) lv st mm') : zV l G (y, cc, nL, ret) d0 rv Q pc lv (.int x :: .ref E :: st) mm :=
  zT_p5 hp ho hlink hd (fun mm' h => kk mm' (by rw [gP_5] at h; exact h))
end ZGR
theorem sSg_let {T : Nat → Int32} {t p : Nat} {c : Int32} (hc : ¬ c = nI 0) : sSg T t p c = true ↔ sLet T t p = c := by
  unfold sSg sLet
  rw [Bool.and_eq_true, decide_eq_true_eq, decide_eq_true_eq]
  by_cases q : p < t
  · rw [if_pos q]; exact ⟨fun h => h.2, fun h => ⟨q, h⟩⟩
  · rw [if_neg q]; exact ⟨fun h => absurd h.1 q, fun h => absurd h.symm hc⟩
def sDd (T : Nat → Int32) (t p : Nat) : Bool := decide (p < t) && zIn (T p) (nI 48) (nI 57)
theorem sDd_let {T : Nat → Int32} {t p : Nat} : sDd T t p = zIn (sLet T t p) (nI 48) (nI 57) := by
  unfold sDd sLet
  by_cases q : p < t
  · rw [if_pos q, decide_eq_true q, Bool.true_and]
  · rw [if_neg q, decide_eq_false q, Bool.false_and]; decide
theorem sDd_g {T : Nat → Int32} {t p : Nat} (h : sDd T t p = true) : p < t ∧ sLet T t p = nI (48 + sDg T p) ∧ sDg T p < 10 := by
  have h0 := h
  unfold sDd at h0
  rw [Bool.and_eq_true, decide_eq_true_eq] at h0
  obtain ⟨g, hg, eg⟩ := zDig h0.2
  have e : sDg T p = g := by unfold sDg; rw [eg, zn_nI (by omega)]; omega
  refine ⟨h0.1, ?_, by omega⟩
  unfold sLet
  rw [if_pos h0.1, eg, e]
set_option maxRecDepth 4000 in
theorem c_X3_here {l : Launch} {G : zG} {E D : Nat} {m0 mm : zM} {T : Nat → Int32} {t p : Nat} {kd fi se : Int32} (hp : zTP G E D m0 T (gP t p kd fi se) mm) (ht : t ≤ 60) (hpt : p ≤ t) : zSem l G (yX3_here, cX3_here, 1, (some .char)) 1 [.ref E] mm (some (.int (sLet T t p))) (fun m' => m' = mm) := by
  refine z_met [some (.ref E)] rfl (zc1 (by rfl)) (Nat.le_of_ble_eq_true rfl) rfl ?_
  refine z_aload_n 0 rfl rfl dX3_here_0 ?_
  refine zG_2 hp rfl zf_X3_26 dX3_here_1 ?_
  refine z_if_lt 42 dX3_here_4 rfl (fun c4 => ?_) (fun c4 => ?_)
  · exact absurd (nI_pos' (by omega)) (i_not_le.mpr c4)
  · refine z_aload_n 0 rfl rfl dX3_here_7 ?_
    refine zG_2 hp rfl zf_X3_26 dX3_here_8 ?_
    refine z_aload_n 0 rfl rfl dX3_here_11 ?_
    refine zG_1 hp rfl zf_X3_15 dX3_here_12 ?_
    refine z_icmp_ge 42 dX3_here_15 rfl (fun c15 => ?_) (fun c15 => ?_)
    · have hge := (nI_leI (by omega) (by omega)).mp c15
      have e9 : sLet T t p = nI 0 := by unfold sLet; rw [if_neg (by omega)]
      refine z_iconst (nI 0) dX3_here_42 rfl ?_
      exact z_zret dX3_here_43 (by first | rfl | exact congrArg Value.int (hp.2.2.2.2.2.2.1 p (by omega))) (by rw [e9] <;> rfl) rfl
    · have hlt : p < t := Nat.lt_of_not_le (fun q => c15 ((nI_leI (by omega) (by omega)).mpr q))
      have e9 : sLet T t p = T p := by unfold sLet; rw [if_pos hlt]
      refine z_aload_n 0 rfl rfl dX3_here_18 ?_
      refine zG_2 hp rfl zf_X3_26 dX3_here_19 ?_
      refine z_aload_n 0 rfl rfl dX3_here_22 ?_
      refine zT_0 hp rfl zf_X3_9 dX3_here_23 ?_
      refine zT_l hp dX3_here_26 ?_
      refine z_icmp_ge 42 dX3_here_27 rfl (fun c27 => ?_) (fun c27 => ?_)
      · exact absurd ((nI_leI (by omega) (by omega)).mp c27) (by omega)
      · refine z_aload_n 0 rfl rfl dX3_here_30 ?_
        refine zT_0 hp rfl zf_X3_9 dX3_here_31 ?_
        refine z_aload_n 0 rfl rfl dX3_here_34 ?_
        refine zG_2 hp rfl zf_X3_26 dX3_here_35 ?_
        refine zT_ld hp (by omega) dX3_here_38 ?_
        refine z_goto 43 dX3_here_39 rfl ?_
        exact z_zret dX3_here_43 (by first | rfl | exact congrArg Value.int (hp.2.2.2.2.2.2.1 p (by omega))) (by rw [e9] <;> rfl) rfl
set_option maxRecDepth 4000 in
theorem c_X3_skip {l : Launch} {G : zG} {E D : Nat} {m0 mm : zM} {T : Nat → Int32} {t p : Nat} {kd fi se : Int32} (hp : zTP G E D m0 T (gP t p kd fi se) mm) (ht : t ≤ 60) (hpt : p ≤ t) (c : Int32) (hc : ¬ c = nI 0) : zSem l G (yX3_skip, cX3_skip, 2, (some .boolean)) 2 [.ref E, .int c] mm (some (.int (zB (sSg T t p c)))) (fun m' => zTP G E D m0 T (gP t (p + sB1 (sSg T t p c)) kd fi se) m') := by
  refine z_met [some (.ref E), some (.int c)] rfl (zc1 (by rfl)) (Nat.le_of_ble_eq_true rfl) rfl ?_
  refine z_aload_n 0 rfl rfl dX3_skip_0 ?_
  refine z_pV0 (ci := 3) zm_X3_here (c_X3_here hp (by omega) (by omega)) rfl zl_X3_33 rfl rfl (by decide) hp.1.1 hp.1.2 (by decide) (Nat.le_of_ble_eq_true rfl) dX3_skip_1 ?_
  refine z_iload_n 1 rfl rfl dX3_skip_4 ?_
  refine z_icmp_eq 10 dX3_skip_5 rfl (fun c5 => ?_) (fun c5 => ?_)
  · have e9 : sSg T t p c = true := (sSg_let hc).mpr c5
    refine z_aload_n 0 rfl rfl dX3_skip_10 ?_
    refine z_dup dX3_skip_11 rfl ?_
    refine zG_2 hp rfl zf_X3_26 dX3_skip_12 ?_
    refine z_iconst (nI 1) dX3_skip_15 rfl ?_
    refine z_iaddN dX3_skip_16 ?_
    refine zG_p2 hp rfl zf_X3_26 dX3_skip_17 (fun mm hp => ?_)
    refine z_iconst (nI 1) dX3_skip_20 rfl ?_
    exact z_zret dX3_skip_21 (by first | rfl | exact zB_nar _) (by rw [e9]; rfl) (by rw [e9]; exact hp)
  · have e9 : sSg T t p c = false := by
      cases hq : sSg T t p c with
      | false => rfl
      | true => exact absurd ((sSg_let hc).mp hq) c5
    refine z_iconst (nI 0) dX3_skip_8 rfl ?_
    exact z_zret dX3_skip_9 (by first | rfl | exact zB_nar _) (by rw [e9]; rfl) (by rw [e9]; exact hp)
set_option maxRecDepth 4000 in
theorem c_X3_isDigitHere {l : Launch} {G : zG} {E D : Nat} {m0 mm : zM} {T : Nat → Int32} {t p : Nat} {kd fi se : Int32} (hp : zTP G E D m0 T (gP t p kd fi se) mm) (ht : t ≤ 60) (hpt : p ≤ t) : zSem l G (yX3_isDigitHere, cX3_isDigitHere, 1, (some .boolean)) 2 [.ref E] mm (some (.int (zB (sDd T t p)))) (fun m' => m' = mm) := by
  refine z_met [some (.ref E)] rfl (zc1 (by rfl)) (Nat.le_of_ble_eq_true rfl) rfl ?_
  refine z_aload_n 0 rfl rfl dX3_isDigitHere_0 ?_
  refine z_pV0 (ci := 3) zm_X3_here (c_X3_here hp (by omega) (by omega)) rfl zl_X3_33 rfl rfl (by decide) hp.1.1 hp.1.2 (by decide) (Nat.le_of_ble_eq_true rfl) dX3_isDigitHere_1 ?_
  refine z_bipush (nI 48) dX3_isDigitHere_4 rfl ?_
  refine z_icmp_lt 22 dX3_isDigitHere_6 rfl (fun c6 => ?_) (fun c6 => ?_)
  · have e9 : sDd T t p = false := by rw [sDd_let]; exact zIn_f1 c6
    refine z_iconst (nI 0) dX3_isDigitHere_22 rfl ?_
    exact z_zret dX3_isDigitHere_23 (by first | rfl | exact zB_nar _) (by rw [e9]; rfl) rfl
  · refine z_aload_n 0 rfl rfl dX3_isDigitHere_9 ?_
    refine z_pV0 (ci := 3) zm_X3_here (c_X3_here hp (by omega) (by omega)) rfl zl_X3_33 rfl rfl (by decide) hp.1.1 hp.1.2 (by decide) (Nat.le_of_ble_eq_true rfl) dX3_isDigitHere_10 ?_
    refine z_bipush (nI 57) dX3_isDigitHere_13 rfl ?_
    refine z_icmp_gt 22 dX3_isDigitHere_15 rfl (fun c15 => ?_) (fun c15 => ?_)
    · have e9 : sDd T t p = false := by rw [sDd_let]; exact zIn_f2 c15
      refine z_iconst (nI 0) dX3_isDigitHere_22 rfl ?_
      exact z_zret dX3_isDigitHere_23 (by first | rfl | exact zB_nar _) (by rw [e9]; rfl) rfl
    · have e9 : sDd T t p = true := by rw [sDd_let]; exact zIn_t (i_not_lt.mp c6) (i_not_lt.mp c15)
      refine z_iconst (nI 1) dX3_isDigitHere_18 rfl ?_
      refine z_goto 23 dX3_isDigitHere_19 rfl ?_
      exact z_zret dX3_isDigitHere_23 (by first | rfl | exact zB_nar _) (by rw [e9]; rfl) rfl
set_option maxRecDepth 4000 in
theorem c_X3_takeDigit {l : Launch} {G : zG} {E D : Nat} {m0 mm : zM} {T : Nat → Int32} {t p : Nat} {kd fi se : Int32} (hp : zTP G E D m0 T (gP t p kd fi se) mm) (ht : t ≤ 60) (hpt : p ≤ t) (hdd : sDd T t p = true) : zSem l G (yX3_takeDigit, cX3_takeDigit, 2, (some .int)) 2 [.ref E] mm (some (.int (nI (sDg T p)))) (fun m' => zTP G E D m0 T (gP t (p + 1) kd fi se) m') := by
  refine z_met [some (.ref E), none] rfl (zc1 (by rfl)) (Nat.le_of_ble_eq_true rfl) rfl ?_
  refine z_aload_n 0 rfl rfl dX3_takeDigit_0 ?_
  refine z_pV0 (ci := 3) zm_X3_here (c_X3_here hp (by omega) (by omega)) rfl zl_X3_33 rfl rfl (by decide) hp.1.1 hp.1.2 (by decide) (Nat.le_of_ble_eq_true rfl) dX3_takeDigit_1 ?_
  obtain ⟨hlt, eg, hg⟩ := sDd_g hdd
  rw [eg]
  refine z_bipush (nI 48) dX3_takeDigit_4 rfl ?_
  refine z_isubN (by omega) dX3_takeDigit_6 ?_
  rw [show 48 + sDg T p - 48 = sDg T p by omega]
  refine z_istore_n 1 rfl (Nat.le_of_ble_eq_true rfl) rfl dX3_takeDigit_7 ?_
  refine z_aload_n 0 rfl rfl dX3_takeDigit_8 ?_
  refine z_dup dX3_takeDigit_9 rfl ?_
  refine zG_2 hp rfl zf_X3_26 dX3_takeDigit_10 ?_
  refine z_iconst (nI 1) dX3_takeDigit_13 rfl ?_
  refine z_iaddN dX3_takeDigit_14 ?_
  refine zG_p2 hp rfl zf_X3_26 dX3_takeDigit_15 (fun mm hp => ?_)
  refine z_iload_n 1 rfl rfl dX3_takeDigit_18 ?_
  exact z_iret dX3_takeDigit_19 rfl hp
