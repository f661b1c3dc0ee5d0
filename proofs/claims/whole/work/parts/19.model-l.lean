set_option maxRecDepth 4000 in
theorem c_X7_readOrder {l : Launch} {G : zG} {A : Nat → Nat} {m0 mm : zM} {v : Nat → Int32} {S : Nat → Nat → Int32} {p t : Nat} {lt a b nm : Int32} (hp : zMP G A m0 v (zPar S p lt a b nm) mm) (hL : S 0 7 = nI t) (ht : t ≤ 60) (hpt : p ≤ t) : zSem l G (yX7_readOrder, cX7_readOrder, 2, (some .boolean)) 3 [.ref (A 0)] mm (some (.int (zB (sRO (S 5) t p a b).1))) (fun m' => ∃ nm', zMP G A m0 v (zPar S (sRO (S 5) t p a b).2.1 (sLet (S 5) t p) (sRO (S 5) t p a b).2.2.1 (sRO (S 5) t p a b).2.2.2 nm') m') := by
  refine z_met [some (.ref (A 0)), none] rfl (zc1 (by rfl)) (Nat.le_of_ble_eq_true rfl) rfl ?_
  refine z_aload_n 0 rfl rfl dX7_readOrder_0 ?_
  refine z_aload_n 0 rfl rfl dX7_readOrder_1 ?_
  refine zM_par10 hp rfl zf_X7_161 dX7_readOrder_2 ?_
  refine z_aload_n 0 rfl rfl dX7_readOrder_5 ?_
  refine zM_par7 hp hL rfl zf_X7_158 dX7_readOrder_6 ?_
  refine z_icmp_ge 24 dX7_readOrder_9 rfl (fun c9 => ?_) (fun c9 => ?_)
  · have e : nI 0 = sLet (S 5) t p := by unfold sLet; rw [if_neg (by have := (nI_leI (by omega) (by omega)).mp c9; omega)]
    refine z_iconst (nI 0) dX7_readOrder_24 rfl ?_
    rw [e]
    refine zM_pput11 hp rfl zf_X7_167 dX7_readOrder_25 (fun mm hp => ?_)
    exact l_X7_readOrder hp hL ht hpt
  · have hlt : p < t := Nat.lt_of_not_le (fun q => c9 ((nI_leI (by omega) (by omega)).mpr q))
    have e : S 5 p = sLet (S 5) t p := by unfold sLet; rw [if_pos hlt]
    refine z_aload_n 0 rfl rfl dX7_readOrder_12 ?_
    refine zM_ref 6 5 hp (by decide) rfl (by decide) rfl rfl zf_X7_22 dX7_readOrder_13 ?_
    refine z_aload_n 0 rfl rfl dX7_readOrder_16 ?_
    refine zM_par10 hp rfl zf_X7_161 dX7_readOrder_17 ?_
    refine zM_parT hp (by omega) dX7_readOrder_20 ?_
    refine z_goto 25 dX7_readOrder_21 rfl ?_
    rw [e]
    refine zM_pput11 hp rfl zf_X7_167 dX7_readOrder_25 (fun mm hp => ?_)
    exact l_X7_readOrder hp hL ht hpt
theorem sRO_ab (T : Nat → Int32) (t p : Nat) (a b : Int32) : (sRO T t p a b).1 = (sRO T t p 0 0).1 ∧ (sRO T t p a b).2.1 = (sRO T t p 0 0).2.1 := by
  unfold sRO
  split
  · exact ⟨rfl, rfl⟩
  · split
    · exact ⟨rfl, rfl⟩
    · split <;> exact ⟨rfl, rfl⟩
/-- the orders of the text from p on, whether the text is good, the place where it stops -/
def sPA (T : Nat → Int32) (t : Nat) : Nat → Nat → List (Int32 × Int32 × Int32) × Bool × Nat
  | 0, p => ([], false, p)
  | n + 1, p =>
    if (sRO T t p 0 0).1 = true then
      if (sRO T t p 0 0).2.1 < t then
        if T (sRO T t p 0 0).2.1 = nI 59 then ((sLet T t p, (sRO T t p 0 0).2.2.1, (sRO T t p 0 0).2.2.2) :: (sPA T t n ((sRO T t p 0 0).2.1 + 1)).1, (sPA T t n ((sRO T t p 0 0).2.1 + 1)).2)
        else ([(sLet T t p, (sRO T t p 0 0).2.2.1, (sRO T t p 0 0).2.2.2)], false, (sRO T t p 0 0).2.1)
      else ([(sLet T t p, (sRO T t p 0 0).2.2.1, (sRO T t p 0 0).2.2.2)], true, (sRO T t p 0 0).2.1)
    else ([], false, (sRO T t p 0 0).2.1)
def sPB (T : Nat → Int32) (t n : Nat) (ok : Bool) (q : Nat) : Bool × Nat := if ok = true then (if q < t then (if T q = nI 59 then (sPA T t n (q + 1)).2 else (false, q)) else (true, q)) else (false, q)
theorem sPA_B (T : Nat → Int32) (t n p : Nat) (a b : Int32) : (sPA T t (n + 1) p).2 = sPB T t n (sRO T t p a b).1 (sRO T t p a b).2.1 := by
  rw [(sRO_ab T t p a b).1, (sRO_ab T t p a b).2]
  unfold sPB
  conv => lhs; unfold sPA
  split
  · split
    · split <;> rfl
    · rfl
  · rfl
set_option maxRecDepth 4000 in
theorem l_X7_isGood {l : Launch} {G : zG} {A : Nat → Nat} {m0 : zM} {v : Nat → Int32} {S : Nat → Nat → Int32} {t : Nat} (hL : S 0 7 = nI t) (ht : t ≤ 60) : ∀ (n : Nat) (ok : Bool) (q : Nat) (lt a b nm : Int32) (mm : zM), zMP G A m0 v (zPar S q lt a b nm) mm → q ≤ t → t < q + n → zV l G (yX7_isGood, cX7_isGood, 2, (some .boolean)) 4 (some (.int (zB (sPB (S 5) t n ok q).1))) (fun m' => ∃ lt a b nm, zMP G A m0 v (zPar S (sPB (S 5) t n ok q).2 lt a b nm) m') 10 [some (.ref (A 0)), some (.int (zB ok))] [] mm := by
  intro n
  induction n with
  | zero => intro ok q lt a b nm mm hp h1 h2; omega
  | succ n ih =>
    intro ok q lt a b nm mm hp hpt h2
    refine z_iload_n 1 rfl rfl dX7_isGood_10 ?_
    refine z_if_eqB 50 dX7_isGood_11 rfl (fun c11 => ?_) (fun c11 => ?_)
    · have e9 : sPB (S 5) t (n + 1) ok q = (false, q) := by first | assumption | (unfold sPB; rw [c11]; rfl)
      refine z_iload_n 1 rfl rfl dX7_isGood_50 ?_
      exact z_zret dX7_isGood_51 (by first | rfl | exact zB_nar _) (by rw [e9]; first | rfl | rw [c11]) (by rw [e9]; exact ⟨_, _, _, _, hp⟩)
    · refine z_aload_n 0 rfl rfl dX7_isGood_14 ?_
      refine zM_par10 hp rfl zf_X7_161 dX7_isGood_15 ?_
      refine z_aload_n 0 rfl rfl dX7_isGood_18 ?_
      refine zM_par7 hp hL rfl zf_X7_158 dX7_isGood_19 ?_
      refine z_icmp_ge 50 dX7_isGood_22 rfl (fun c22 => ?_) (fun c22 => ?_)
      · have hge := (nI_leI (by omega) (by omega)).mp c22
        have e9 : sPB (S 5) t (n + 1) ok q = (true, q) := by unfold sPB; rw [c11, if_neg (by omega : ¬ q < t)]; rfl
        refine z_iload_n 1 rfl rfl dX7_isGood_50 ?_
        exact z_zret dX7_isGood_51 (by first | rfl | exact zB_nar _) (by rw [e9]; first | rfl | rw [c11]) (by rw [e9]; exact ⟨_, _, _, _, hp⟩)
      · have hlt : q < t := Nat.lt_of_not_le (fun z => c22 ((nI_leI (by omega) (by omega)).mpr z))
        refine z_aload_n 0 rfl rfl dX7_isGood_25 ?_
        refine z_bipush (nI 59) dX7_isGood_26 rfl ?_
        refine zM_u1 zm_X7_sign (c_X7_sign hp hL (by omega) (by omega) _) hp rfl rfl zl_X7_170 (by decide) (Nat.le_of_ble_eq_true rfl) dX7_isGood_28 (fun mm hp => ?_)
        refine z_if_eqB 45 dX7_isGood_31 rfl (fun c31 => ?_) (fun c31 => ?_)
        · rw [c31] at hp
          simp only [sB1_t, sB1_f, Nat.add_zero] at hp
          have h59 : ¬ S 5 q = nI 59 := fun z => by unfold sSg at c31; rw [decide_eq_true hlt, decide_eq_true z] at c31; exact absurd c31 (by decide)
          have e9 : sPB (S 5) t (n + 1) ok q = (false, q) := by unfold sPB; rw [c11, if_pos hlt, if_neg h59]; rfl
          refine z_iconst (nI 0) dX7_isGood_45 rfl ?_
          refine z_istore_n 1 rfl (Nat.le_of_ble_eq_true rfl) rfl dX7_isGood_46 ?_
          refine z_goto 10 dX7_isGood_47 rfl ?_
          refine z_iload_n 1 rfl rfl dX7_isGood_10 ?_
          refine z_if_eq 50 dX7_isGood_11 rfl (fun c11 => ?_) (fun c11 => ?_)
          · have e9 : sPB (S 5) t (n + 1) ok q = (false, q) := by first | assumption | (unfold sPB; rw [c11]; rfl)
            refine z_iload_n 1 rfl rfl dX7_isGood_50 ?_
            exact z_zret dX7_isGood_51 (by first | rfl | exact zB_nar _) (by rw [e9]; first | rfl | rw [c11]) (by rw [e9]; exact ⟨_, _, _, _, hp⟩)
          · exact absurd c11 (by decide)
        · rw [c31] at hp
          simp only [sB1_t, sB1_f, Nat.add_zero] at hp
          have h59 := (sSg_lt c31).2
          refine z_aload_n 0 rfl rfl dX7_isGood_34 ?_
          refine zM_u0 zm_X7_readOrder (c_X7_readOrder hp hL (by omega) (by omega)) hp rfl rfl zl_X7_182 (by decide) (Nat.le_of_ble_eq_true rfl) dX7_isGood_35 (fun mm hp => ?_)
          obtain ⟨nm1, hp⟩ := hp
          have hq2 := sRO_le (T := S 5) (t := t) (p := q + 1) (a := a) (b := b) (by omega)
          have e9 : sPB (S 5) t (n + 1) ok q = sPB (S 5) t n (sRO (S 5) t (q + 1) a b).1 (sRO (S 5) t (q + 1) a b).2.1 := by rw [← sPA_B]; unfold sPB; rw [c11, if_pos hlt, if_pos h59]; rfl
          refine z_if_eqB 45 dX7_isGood_38 rfl (fun c38 => ?_) (fun c38 => ?_)
          · rw [c38] at e9
            refine z_iconst (nI 0) dX7_isGood_45 rfl ?_
            refine z_istore_n 1 rfl (Nat.le_of_ble_eq_true rfl) rfl dX7_isGood_46 ?_
            refine z_goto 10 dX7_isGood_47 rfl ?_
            rw [e9]
            first | exact ih false _ _ _ _ _ _ hp (by omega) (by omega) | exact ih true _ _ _ _ _ _ hp (by omega) (by omega)
          · rw [c38] at e9
            refine z_iconst (nI 1) dX7_isGood_41 rfl ?_
            refine z_goto 46 dX7_isGood_42 rfl ?_
            refine z_istore_n 1 rfl (Nat.le_of_ble_eq_true rfl) rfl dX7_isGood_46 ?_
            refine z_goto 10 dX7_isGood_47 rfl ?_
            rw [e9]
            first | exact ih false _ _ _ _ _ _ hp (by omega) (by omega) | exact ih true _ _ _ _ _ _ hp (by omega) (by omega)
set_option maxRecDepth 4000 in
theorem c_X7_isGood {l : Launch} {G : zG} {A : Nat → Nat} {m0 mm : zM} {v : Nat → Int32} {S : Nat → Nat → Int32} (hp : zMP G A m0 v S mm) {t : Nat} (hL : S 0 7 = nI t) (ht : t ≤ 60) : zSem l G (yX7_isGood, cX7_isGood, 2, (some .boolean)) 4 [.ref (A 0)] mm (some (.int (zB (sPA (S 5) t 62 0).2.1))) (fun m' => ∃ lt a b nm, zMP G A m0 v (zPar S (sPA (S 5) t 62 0).2.2 lt a b nm) m') := by
  refine z_met [some (.ref (A 0)), none] rfl (zc1 (by rfl)) (Nat.le_of_ble_eq_true rfl) rfl ?_
  refine z_aload_n 0 rfl rfl dX7_isGood_0 ?_
  refine z_iconst (nI 0) dX7_isGood_1 rfl ?_
  refine zM_put 10 hp (by decide) rfl rfl rfl rfl rfl rfl rfl zf_X7_161 dX7_isGood_2 (fun mm hp => ?_)
  rw [zPar_of] at hp
  refine z_aload_n 0 rfl rfl dX7_isGood_5 ?_
  refine zM_u0 zm_X7_readOrder (c_X7_readOrder hp hL (by omega) (by omega)) hp rfl rfl zl_X7_182 (by decide) (Nat.le_of_ble_eq_true rfl) dX7_isGood_6 (fun mm hp => ?_)
  obtain ⟨nm1, hp⟩ := hp
  have hq2 := sRO_le (T := S 5) (t := t) (p := 0) (a := S 0 12) (b := S 0 13) (by omega)
  have e9 := sPA_B (S 5) t 61 0 (S 0 12) (S 0 13)
  rw [e9]
  refine z_istore_n 1 rfl (Nat.le_of_ble_eq_true rfl) rfl dX7_isGood_9 ?_
  exact l_X7_isGood hL ht 61 _ _ _ _ _ _ _ hp (by omega) (by omega)
def sDoO (v : Nat → Int32) (o : Int32 × Int32 × Int32) : Int32 × (Nat → Int32) :=
  if o.1 = nI 98 then sDoBuy v o.2.1 o.2.2 else if o.1 = nI 109 then sDoOff v o.2.1 o.2.2 else if o.1 = nI 99 then sDoCan v o.2.1 else if o.1 = nI 120 then sDoEx v o.2.1 else sDoOfr v o.2.1 o.2.2
set_option maxRecDepth 4000 in
theorem c_X7_doOrder {l : Launch} {G : zG} {A : Nat → Nat} {m0 mm : zM} {v : Nat → Int32} {S : Nat → Nat → Int32} {p : Nat} {lt a b nm : Int32} (hp : zMP G A m0 v (zPar S p lt a b nm) mm) (hK : zK v) (hO : zOpn v) : zSem l G (yX7_doOrder, cX7_doOrder, 1, (some .int)) 9 [.ref (A 0)] mm (some (.int (sDoO v (lt, a, b)).1)) (fun m' => zMP G A m0 (sDoO v (lt, a, b)).2 (zPar S p lt a b nm) m') := by
  refine z_met [some (.ref (A 0))] rfl (zc1 (by rfl)) (Nat.le_of_ble_eq_true rfl) rfl ?_
  refine z_aload_n 0 rfl rfl dX7_doOrder_0 ?_
  refine zM_par11 hp rfl zf_X7_167 dX7_doOrder_1 ?_
  by_cases c98 : lt = nI 98
  · have e9 : sDoO v (lt, a, b) = sDoBuy v a b := by unfold sDoO; rw [if_pos c98]
    refine z_lookup 48 dX7_doOrder_4 rfl (by rw [c98] <;> rfl) rfl ?_
    refine z_aload_n 0 rfl rfl dX7_doOrder_48 ?_
    refine z_aload_n 0 rfl rfl dX7_doOrder_49 ?_
    refine zM_par12 hp rfl zf_X7_176 dX7_doOrder_50 ?_
    refine z_aload_n 0 rfl rfl dX7_doOrder_53 ?_
    refine zM_par13 hp rfl zf_X7_179 dX7_doOrder_54 ?_
    refine zM_u2 zm_X7_doBuy (c_X7_doBuy hp _ _ (by assumption)) hp rfl rfl zl_X7_133 (by decide) (Nat.le_of_ble_eq_true rfl) dX7_doOrder_57 (fun mm hp => ?_)
    exact z_iret dX7_doOrder_60 (by rw [e9]) (by rw [e9]; exact hp)
  · skip
    by_cases c109 : lt = nI 109
    · have e9 : sDoO v (lt, a, b) = sDoOff v a b := by unfold sDoO; rw [if_neg c98, if_pos c109]
      refine z_lookup 61 dX7_doOrder_4 rfl (by rw [c109] <;> rfl) rfl ?_
      refine z_aload_n 0 rfl rfl dX7_doOrder_61 ?_
      refine z_aload_n 0 rfl rfl dX7_doOrder_62 ?_
      refine zM_par12 hp rfl zf_X7_176 dX7_doOrder_63 ?_
      refine z_aload_n 0 rfl rfl dX7_doOrder_66 ?_
      refine zM_par13 hp rfl zf_X7_179 dX7_doOrder_67 ?_
      refine zM_u2 zm_X7_doBuyOffered (c_X7_doBuyOffered hp _ _ (by assumption)) hp rfl rfl zl_X7_139 (by decide) (Nat.le_of_ble_eq_true rfl) dX7_doOrder_70 (fun mm hp => ?_)
      exact z_iret dX7_doOrder_73 (by rw [e9]) (by rw [e9]; exact hp)
    · skip
      by_cases c99 : lt = nI 99
      · have e9 : sDoO v (lt, a, b) = sDoCan v a := by unfold sDoO; rw [if_neg c98, if_neg c109, if_pos c99]
        refine z_lookup 74 dX7_doOrder_4 rfl (by rw [c99] <;> rfl) rfl ?_
        refine z_aload_n 0 rfl rfl dX7_doOrder_74 ?_
        refine z_aload_n 0 rfl rfl dX7_doOrder_75 ?_
        refine zM_par12 hp rfl zf_X7_176 dX7_doOrder_76 ?_
        refine zM_u1 zm_X7_doCancel (c_X7_doCancel hp _ (by assumption) (by assumption)) hp rfl rfl zl_X7_142 (by decide) (Nat.le_of_ble_eq_true rfl) dX7_doOrder_79 (fun mm hp => ?_)
        exact z_iret dX7_doOrder_82 (by rw [e9]) (by rw [e9]; exact hp)
      · skip
        by_cases c120 : lt = nI 120
        · have e9 : sDoO v (lt, a, b) = sDoEx v a := by unfold sDoO; rw [if_neg c98, if_neg c109, if_neg c99, if_pos c120]
          refine z_lookup 83 dX7_doOrder_4 rfl (by rw [c120] <;> rfl) rfl ?_
          refine z_aload_n 0 rfl rfl dX7_doOrder_83 ?_
          refine z_aload_n 0 rfl rfl dX7_doOrder_84 ?_
          refine zM_par12 hp rfl zf_X7_176 dX7_doOrder_85 ?_
          refine zM_u1 zm_X7_doExercise (c_X7_doExercise hp _ (by assumption)) hp rfl rfl zl_X7_148 (by decide) (Nat.le_of_ble_eq_true rfl) dX7_doOrder_88 (fun mm hp => ?_)
          exact z_iret dX7_doOrder_91 (by rw [e9]) (by rw [e9]; exact hp)
        · skip
          have e9 : sDoO v (lt, a, b) = sDoOfr v a b := by unfold sDoO; rw [if_neg c98, if_neg c109, if_neg c99, if_neg c120]
          refine z_lookup 92 dX7_doOrder_4 rfl ((lv_osw (k := nI 98) c98 rfl).trans ((lv_osw (k := nI 99) c99 rfl).trans ((lv_osw (k := nI 109) c109 rfl).trans (lv_osw (k := nI 120) c120 rfl)))) rfl ?_
          refine z_aload_n 0 rfl rfl dX7_doOrder_92 ?_
          refine z_aload_n 0 rfl rfl dX7_doOrder_93 ?_
          refine zM_par12 hp rfl zf_X7_176 dX7_doOrder_94 ?_
          refine z_aload_n 0 rfl rfl dX7_doOrder_97 ?_
          refine zM_par13 hp rfl zf_X7_179 dX7_doOrder_98 ?_
          refine zM_u2 zm_X7_doOffer (c_X7_doOffer hp _ _ (by assumption)) hp rfl rfl zl_X7_145 (by decide) (Nat.le_of_ble_eq_true rfl) dX7_doOrder_101 (fun mm hp => ?_)
          exact z_iret dX7_doOrder_104 (by rw [e9]) (by rw [e9]; exact hp)
