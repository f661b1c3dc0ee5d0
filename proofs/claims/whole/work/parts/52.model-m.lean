theorem zV.imp {l : Launch} {G : zG} {Md : zMd} {d : Nat} {rv : Option Value} {Q Q' : zM → Prop} {pc : Nat} {lv : List (Option Value)} {st : List Value} {mm : zM} (h : zV l G Md d rv Q pc lv st mm) (hq : ∀ m', Q m' → Q' m') : zV l G Md d rv Q' pc lv st mm := by
  intro p e s m args below meth c H locs ls a1 a2 a3 a4 a5 a6 a7 a8 a9 a10 a11 a12 a13
  intro T hT X
  obtain ⟨t, b1, o, q1, q2, ⟨⟨r1, m', r2, r3⟩, r4⟩, q3⟩ := h p e s m args below meth c H locs ls a1 a2 a3 a4 a5 a6 a7 a8 a9 a10 a11 a12 a13 T hT X
  exact ⟨t, b1, o, q1, q2, ⟨⟨r1, m', hq m' r2, r3⟩, r4⟩, q3⟩
/-! ===== the reference's perform() ===== -/
theorem zAs_par {v : Nat → Int32} {S : Nat → Nat → Int32} {p i : Nat} {lt a b nm : Int32} : zAs v (zPar S p lt a b nm) i = zPar (zAs v S i) p lt a b nm := by
  funext j k
  unfold zAs zPar
  by_cases h : j = 2 ∧ k < i
  · rw [if_pos h, if_neg (by omega), if_neg (by omega), if_neg (by omega), if_neg (by omega), if_neg (by omega)]; simp only [if_pos h]
  · rw [if_neg h]; simp only [if_neg h]
theorem zAs_o {v : Nat → Int32} {S : Nat → Nat → Int32} {i j : Nat} (h : j ≠ 2) : zAs v S i j = S j := by
  funext k; unfold zAs; rw [if_neg (fun q => h q.1)]
theorem zPar_o {S : Nat → Nat → Int32} {p j : Nat} {lt a b nm : Int32} (h : j ≠ 0) : zPar S p lt a b nm j = S j := by
  funext k; exact zPar_ne (Or.inl h)
theorem sRO_59 {T : Nat → Int32} {t p : Nat} (h : (sRO T t p 0 0).1 = true) : sSg T t p (nI 59) = false := by
  cases hq : sSg T t p (nI 59) with
  | false => rfl
  | true =>
    have e := (sSg_lt hq).2
    have f : ∀ c, ¬ nI 59 = c → sSg T t p c = false := fun c hc => by unfold sSg; rw [e, decide_eq_false hc, Bool.and_false]
    unfold sRO at h
    rw [f (nI 98) (by decide), f (nI 109) (by decide), f (nI 99) (by decide), f (nI 120) (by decide), f (nI 111) (by decide)] at h
    exact absurd h (by simp)
theorem sDoO_99 (v : Nat → Int32) (a b : Int32) : sDoO v (nI 99, a, b) = sDoCan v a := by
  unfold sDoO
  rw [if_neg (show ¬ nI 99 = nI 98 by decide), if_neg (show ¬ nI 99 = nI 109 by decide), if_pos rfl]
theorem sDoO_120 (v : Nat → Int32) (a b : Int32) : sDoO v (nI 120, a, b) = sDoEx v a := by
  unfold sDoO
  rw [if_neg (show ¬ nI 120 = nI 98 by decide), if_neg (show ¬ nI 120 = nI 109 by decide), if_neg (show ¬ nI 120 = nI 99 by decide), if_pos rfl]
theorem sDoO_ab {T : Nat → Int32} {t p : Nat} {a b : Int32} {v : Nat → Int32} (h : (sRO T t p 0 0).1 = true) : sDoO v (sLet T t p, (sRO T t p a b).2.2.1, (sRO T t p a b).2.2.2) = sDoO v (sLet T t p, (sRO T t p 0 0).2.2.1, (sRO T t p 0 0).2.2.2) := by
  unfold sRO at h ⊢
  split
  · rfl
  · rename_i q1
    rw [if_neg q1] at h
    split
    · rename_i q2
      rw [Bool.or_eq_true] at q2
      have hl : sLet T t p = nI 99 ∨ sLet T t p = nI 120 := q2.imp (fun z => by unfold sLet; rw [if_pos (sSg_lt z).1]; exact (sSg_lt z).2) (fun z => by unfold sLet; rw [if_pos (sSg_lt z).1]; exact (sSg_lt z).2)
      rcases hl with e | e
      · rw [e, sDoO_99, sDoO_99]
      · rw [e, sDoO_120, sDoO_120]
    · rename_i q2
      rw [if_neg q2] at h
      split
      · rfl
      · rename_i q3
        rw [if_neg q3] at h
        exact absurd h (by simp)
theorem sPA_step {T : Nat → Int32} {t n p e : Nat} {R : List (Int32 × Int32 × Int32)} (hL : sPA T t (n + 1) p = (R, true, e)) : (sRO T t p 0 0).1 = true ∧ ∃ R', R = (sLet T t p, (sRO T t p 0 0).2.2.1, (sRO T t p 0 0).2.2.2) :: R' ∧ ((sRO T t p 0 0).2.1 < t → sPA T t n ((sRO T t p 0 0).2.1 + sB1 (sSg T t (sRO T t p 0 0).2.1 (nI 59))) = (R', true, e)) ∧ (¬ (sRO T t p 0 0).2.1 < t → R' = []) := by
  have hg : (sRO T t p 0 0).1 = true := by
    cases hq : (sRO T t p 0 0).1 with
    | true => rfl
    | false => rw [sPA_no hq] at hL; exact absurd (congrArg (fun z => z.2.1) hL) (by simp)
  refine ⟨hg, ?_⟩
  by_cases hlt : (sRO T t p 0 0).2.1 < t
  · have h59 : sSg T t (sRO T t p 0 0).2.1 (nI 59) = true := by
      cases hq : sSg T t (sRO T t p 0 0).2.1 (nI 59) with
      | true => rfl
      | false => rw [sPA_bad hg hlt hq] at hL; exact absurd (congrArg (fun z => z.2.1) hL) (by simp)
    rw [sPA_go hg h59] at hL
    refine ⟨_, (congrArg Prod.fst hL).symm, fun _ => ?_, fun z => absurd hlt z⟩
    rw [h59, sB1_t]
    exact Prod.ext rfl (by have := congrArg Prod.snd hL; exact this)
  · rw [sPA_end hg hlt] at hL
    exact ⟨[], (congrArg Prod.fst hL).symm, fun z => absurd z hlt, fun _ => rfl⟩
theorem sB1_le {T : Nat → Int32} {t p : Nat} {c : Int32} (h : p ≤ t) : p + sB1 (sSg T t p c) ≤ t := by
  cases hq : sSg T t p c with
  | false => rw [sB1_f]; exact h
  | true => rw [sB1_t]; have := (sSg_lt hq).1; omega
set_option maxRecDepth 4000 in
theorem l_X7_performN {l : Launch} {G : zG} {A : Nat → Nat} {m0 mm : zM} {S : Nat → Nat → Int32} {v : Nat → Int32} {q i : Nat} {x lt a b nm : Int32} (hp : zMP G A m0 v (zPar S q lt a b nm) mm) (hx : x < 0) : zV l G (yX7_perform, cX7_perform, 3, (some .int)) 10 (some (.int x)) (fun m' => zMP G A m0 (zBr v (S 2) 607) (zPar S q lt a b nm) m') 28 [some (.ref (A 0)), some (.int (nI i)), some (.int x)] [] mm := by
  refine z_iload_n 2 rfl rfl dX7_perform_28 ?_
  refine z_if_lt 66 dX7_perform_29 rfl (fun c29 => ?_) (fun c29 => ?_)
  · refine z_iload_n 2 rfl rfl dX7_perform_66 ?_
    refine z_if_ge 76 dX7_perform_67 rfl (fun c67 => ?_) (fun c67 => ?_)
    · exact absurd hx (i_not_lt.mpr c67)
    · refine z_aload_n 0 rfl rfl dX7_perform_70 ?_
      refine zM_v0 zm_X7_bringBack (c_X7_bringBack hp) hp rfl rfl zl_X7_127 (by decide) (Nat.le_of_ble_eq_true rfl) dX7_perform_71 (fun mm hp => ?_)
      refine z_iload_n 2 rfl rfl dX7_perform_74 ?_
      exact z_iret dX7_perform_75 rfl (by rw [zPar_o (by decide)] at hp; exact hp)
  · exact absurd hx c29
set_option maxRecDepth 4000 in
theorem l_X7_performE {l : Launch} {G : zG} {A : Nat → Nat} {m0 : zM} {S : Nat → Nat → Int32} {t hn : Nat} (hL : S 0 7 = nI t) (ht : t ≤ 60) (hS3 : S 0 3 = nI hn) (h4 : hn ≤ 4) {mm : zM} {v : Nat → Int32} {q i : Nat} {x lt a b nm : Int32} (hp : zMP G A m0 v (zPar S q lt a b nm) mm) (hx : 0 ≤ x) (hpt : q ≤ t) (hq : ¬ q < t) : zV l G (yX7_perform, cX7_perform, 3, (some .int)) 10 (some (.int (nI i))) (fun m' => zMP G A m0 v (sActd (nI i) v (zPar S q lt a b nm) hn) m') 28 [some (.ref (A 0)), some (.int (nI i)), some (.int x)] [] mm := by
  have hS3b : zPar S q lt a b nm 0 3 = nI _ := (zPar_ne (Or.inr (by decide))).trans hS3
  refine z_iload_n 2 rfl rfl dX7_perform_28 ?_
  refine z_if_lt 66 dX7_perform_29 rfl (fun c29 => ?_) (fun c29 => ?_)
  · exact absurd hx (i_not_le.mpr c29)
  · refine z_aload_n 0 rfl rfl dX7_perform_32 ?_
    refine zM_par10 hp rfl zf_X7_161 dX7_perform_33 ?_
    refine z_aload_n 0 rfl rfl dX7_perform_36 ?_
    refine zM_par7 hp hL rfl zf_X7_158 dX7_perform_37 ?_
    refine z_icmp_ge 66 dX7_perform_40 rfl (fun c40 => ?_) (fun c40 => ?_)
    · refine z_iload_n 2 rfl rfl dX7_perform_66 ?_
      refine z_if_ge 76 dX7_perform_67 rfl (fun c67 => ?_) (fun c67 => ?_)
      · refine z_aload_n 0 rfl rfl dX7_perform_76 ?_
        refine z_iload_n 1 rfl rfl dX7_perform_77 ?_
        refine zM_u1 zm_X7_acted (c_X7_acted hp _ hn h4 hS3b) hp rfl rfl zl_X7_136 (by decide) (Nat.le_of_ble_eq_true rfl) dX7_perform_78 (fun mm hp => ?_)
        exact z_iret dX7_perform_81 rfl hp
      · exact absurd hx c67
    · exact absurd ((nI_leI (by omega) (by omega)).mpr (Nat.le_of_not_lt hq)) c40
set_option maxRecDepth 4000 in
theorem l_X7_perform {l : Launch} {G : zG} {A : Nat → Nat} {m0 : zM} {S : Nat → Nat → Int32} {t hn : Nat} (hL : S 0 7 = nI t) (ht : t ≤ 60) (hS3 : S 0 3 = nI hn) (h4 : hn ≤ 4) : ∀ (n q i : Nat) (x : Int32) (v : Nat → Int32) (lt a b nm : Int32) (mm : zM) (R : List (Int32 × Int32 × Int32)) (e : Nat), zMP G A m0 v (zPar S q lt a b nm) mm → q ≤ t → zI v → 0 ≤ x → (q < t → sPA (S 5) t n (q + sB1 (sSg (S 5) t q (nI 59))) = (R, true, e)) → (¬ q < t → R = []) → i + R.length ≤ 62 → zV l G (yX7_perform, cX7_perform, 3, (some .int)) 10 (some (.int (if (sFo R v).1 < 0 then (sFo R v).1 else nI (i + R.length)))) (fun m' => if (sFo R v).1 < 0 then ∃ p lt a b nm w, zMP G A m0 (zBr w (S 2) 607) (zPar S p lt a b nm) m' else ∃ p lt a b nm, zMP G A m0 (sFo R v).2 (sActd (nI (i + R.length)) (sFo R v).2 (zPar S p lt a b nm) hn) m') 28 [some (.ref (A 0)), some (.int (nI i)), some (.int x)] [] mm := by
  have ende : ∀ (q i : Nat) (x : Int32) (v : Nat → Int32) (lt a b nm : Int32) (mm : zM) (R : List (Int32 × Int32 × Int32)), zMP G A m0 v (zPar S q lt a b nm) mm → q ≤ t → 0 ≤ x → ¬ q < t → (¬ q < t → R = []) → zV l G (yX7_perform, cX7_perform, 3, (some .int)) 10 (some (.int (if (sFo R v).1 < 0 then (sFo R v).1 else nI (i + R.length)))) (fun m' => if (sFo R v).1 < 0 then ∃ p lt a b nm w, zMP G A m0 (zBr w (S 2) 607) (zPar S p lt a b nm) m' else ∃ p lt a b nm, zMP G A m0 (sFo R v).2 (sActd (nI (i + R.length)) (sFo R v).2 (zPar S p lt a b nm) hn) m') 28 [some (.ref (A 0)), some (.int (nI i)), some (.int x)] [] mm := by
    intro q i x v lt a b nm mm R hp hpt hx hq hR
    obtain rfl := hR hq
    simp only [if_neg (sFo_n0 (v := v)), sFo_nil, List.length_nil, Nat.add_zero]
    exact (l_X7_performE hL ht hS3 h4 hp hx hpt hq).imp (fun m' h => ⟨_, _, _, _, _, h⟩)
  intro n
  induction n with
  | zero =>
    intro q i x v lt a b nm mm R e hp hpt hI hx h1 h2 h62
    by_cases hq : q < t
    · exact absurd (congrArg (fun z => z.2.1) (h1 hq)) (by simp [sPA])
    · exact ende q i x v lt a b nm mm R hp hpt hx hq h2
  | succ n ih =>
    intro q i x v lt a b nm mm R e hp hpt hI hx h1 h2 h62
    by_cases hq : q < t
    · have hs := h1 hq
      have hp1t := sB1_le (T := S 5) (c := nI 59) hpt
      obtain ⟨p1, hp1⟩ : ∃ p1, p1 = q + sB1 (sSg (S 5) t q (nI 59)) := ⟨_, rfl⟩
      rw [← hp1] at hs hp1t
      obtain ⟨hg, R', rfl, h1, h2⟩ := sPA_step hs
      have hle := sRO_le (T := S 5) (t := t) (p := p1) (a := 0) (b := 0) hp1t
      rw [List.length_cons] at h62
      refine z_iload_n 2 rfl rfl dX7_perform_28 ?_
      refine z_if_lt 66 dX7_perform_29 rfl (fun c29 => ?_) (fun c29 => ?_)
      · exact absurd hx (i_not_le.mpr c29)
      · refine z_aload_n 0 rfl rfl dX7_perform_32 ?_
        refine zM_par10 hp rfl zf_X7_161 dX7_perform_33 ?_
        refine z_aload_n 0 rfl rfl dX7_perform_36 ?_
        refine zM_par7 hp hL rfl zf_X7_158 dX7_perform_37 ?_
        refine z_icmp_ge 66 dX7_perform_40 rfl (fun c40 => ?_) (fun c40 => ?_)
        · exact absurd hq (Nat.not_lt.mpr ((nI_leI (by omega) (by omega)).mp c40))
        · refine z_aload_n 0 rfl rfl dX7_perform_43 ?_
          refine z_bipush (nI 59) dX7_perform_44 rfl ?_
          refine zM_u1 zm_X7_sign (c_X7_sign hp hL ht hpt (nI 59)) hp rfl rfl zl_X7_170 (by decide) (Nat.le_of_ble_eq_true rfl) dX7_perform_46 (fun mm hp => ?_)
          rw [← hp1] at hp
          refine z_pop dX7_perform_49 rfl ?_
          refine z_aload_n 0 rfl rfl dX7_perform_50 ?_
          refine zM_u0 zm_X7_readOrder (c_X7_readOrder hp hL ht hp1t) hp rfl rfl zl_X7_182 (by decide) (Nat.le_of_ble_eq_true rfl) dX7_perform_51 (fun mm hp => ?_)
          obtain ⟨nm1, hp⟩ := hp
          rw [(sRO_ab (S 5) t _ a b).2] at hp
          refine z_pop dX7_perform_54 rfl ?_
          refine z_aload_n 0 rfl rfl dX7_perform_55 ?_
          refine zM_u0 zm_X7_doOrder (c_X7_doOrder hp hI.1.1 hI.opn) hp rfl rfl zl_X7_189 (by decide) (Nat.le_of_ble_eq_true rfl) dX7_perform_56 (fun mm hp => ?_)
          rw [sDoO_ab hg] at hp ⊢
          refine z_istore_n 2 rfl (Nat.le_of_ble_eq_true rfl) rfl dX7_perform_59 ?_
          refine z_iincN (n := 1) 1 rfl rfl dX7_perform_60 ?_
          refine z_goto 28 dX7_perform_63 rfl ?_
          by_cases hx2 : (sDoO v (sLet (S 5) t p1, (sRO (S 5) t p1 0 0).2.2.1, (sRO (S 5) t p1 0 0).2.2.2)).1 < 0
          · rw [sFo_neg hx2]
            simp only [if_pos hx2]
            exact (l_X7_performN hp hx2).imp (fun m' h => ⟨_, _, _, _, _, _, h⟩)
          · have h9 := ih _ (i + 1) _ _ _ _ _ _ mm R' e hp (by omega) (hI.doO _) (i_not_lt.mp hx2) h1 h2 (by omega)
            rw [sFo_go hx2, List.length_cons, show i + (R'.length + 1) = i + 1 + R'.length by omega]
            exact h9
    · exact ende q i x v lt a b nm mm R hp hpt hx hq h2
set_option maxRecDepth 4000 in
theorem c_X7_performN {l : Launch} {G : zG} {A : Nat → Nat} {m0 mm : zM} {v : Nat → Int32} {S : Nat → Nat → Int32} (hp : zMP G A m0 v S mm) {t : Nat} (hL : S 0 7 = nI t) (ht : t ≤ 60) (hbad : (sPA (S 5) t 62 0).2.1 = false) : zSem l G (yX7_perform, cX7_perform, 3, (some .int)) 10 [.ref (A 0)] mm (some (.int (-100 - nI (sPA (S 5) t 62 0).2.2))) (fun m' => ∃ p lt a b nm, zMP G A m0 v (zPar S p lt a b nm) m') := by
  refine z_met [some (.ref (A 0)), none, none] rfl (zc1 (by rfl)) (Nat.le_of_ble_eq_true rfl) rfl ?_
  refine z_aload_n 0 rfl rfl dX7_perform_0 ?_
  refine zM_u0 zm_X7_isGood (c_X7_isGood hp hL ht) hp rfl rfl zl_X7_186 (by decide) (Nat.le_of_ble_eq_true rfl) dX7_perform_1 (fun mm hp => ?_)
  obtain ⟨lt, a, b, nm, hp⟩ := hp
  refine z_if_neB 15 dX7_perform_4 rfl (fun c4 => ?_) (fun c4 => ?_)
  · exact absurd c4 (by rw [hbad]; decide)
  · refine z_bipush (-100) dX7_perform_7 (by decide) ?_
    refine z_aload_n 0 rfl rfl dX7_perform_9 ?_
    refine zM_par10 hp rfl zf_X7_161 dX7_perform_10 ?_
    refine z_isub dX7_perform_13 ?_
    exact z_iret dX7_perform_14 rfl ⟨_, _, _, _, _, hp⟩
set_option maxRecDepth 4000 in
theorem c_X7_perform {l : Launch} {G : zG} {A : Nat → Nat} {m0 mm : zM} {v : Nat → Int32} {S : Nat → Nat → Int32} (hp : zMP G A m0 v S mm) {t hn : Nat} (hL : S 0 7 = nI t) (ht : t ≤ 60) (hS3 : S 0 3 = nI hn) (h4 : hn ≤ 4) (hI : zI v) (hgood : (sPA (S 5) t 62 0).2.1 = true) : zSem l G (yX7_perform, cX7_perform, 3, (some .int)) 10 [.ref (A 0)] mm (some (.int (if (sFo (sPA (S 5) t 62 0).1 v).1 < 0 then (sFo (sPA (S 5) t 62 0).1 v).1 else nI ((sPA (S 5) t 62 0).1.length)))) (fun m' => if (sFo (sPA (S 5) t 62 0).1 v).1 < 0 then ∃ p lt a b nm w, zMP G A m0 (zBr w ((zAs v S 607) 2) 607) (zPar (zAs v S 607) p lt a b nm) m' else ∃ p lt a b nm, zMP G A m0 (sFo (sPA (S 5) t 62 0).1 v).2 (sActd (nI ((sPA (S 5) t 62 0).1.length)) (sFo (sPA (S 5) t 62 0).1 v).2 (zPar (zAs v S 607) p lt a b nm) hn) m') := by
  refine z_met [some (.ref (A 0)), none, none] rfl (zc1 (by rfl)) (Nat.le_of_ble_eq_true rfl) rfl ?_
  refine z_aload_n 0 rfl rfl dX7_perform_0 ?_
  refine zM_u0 zm_X7_isGood (c_X7_isGood hp hL ht) hp rfl rfl zl_X7_186 (by decide) (Nat.le_of_ble_eq_true rfl) dX7_perform_1 (fun mm hp => ?_)
  obtain ⟨lt, a, b, nm, hp⟩ := hp
  refine z_if_neB 15 dX7_perform_4 rfl (fun c4 => ?_) (fun c4 => ?_)
  · refine z_aload_n 0 rfl rfl dX7_perform_15 ?_
    refine zM_v0 zm_X7_aside (c_X7_aside hp) hp rfl rfl zl_X7_130 (by decide) (Nat.le_of_ble_eq_true rfl) dX7_perform_16 (fun mm hp => ?_)
    rw [zAs_par] at hp
    refine z_aload_n 0 rfl rfl dX7_perform_19 ?_
    refine z_iconst (nI 0) dX7_perform_20 rfl ?_
    refine zM_pput10 hp rfl zf_X7_161 dX7_perform_21 (fun mm hp => ?_)
    refine z_iconst (nI 0) dX7_perform_24 rfl ?_
    refine z_istore_n 1 rfl (Nat.le_of_ble_eq_true rfl) rfl dX7_perform_25 ?_
    refine z_iconst (nI 0) dX7_perform_26 rfl ?_
    refine z_istore_n 2 rfl (Nat.le_of_ble_eq_true rfl) rfl dX7_perform_27 ?_
    have hln := sPA_len (T := S 5) (t := t) 62 0
    have e5 : (zAs v S 607) 5 = S 5 := zAs_o (by decide)
    have hs : sPA (S 5) t (61 + 1) 0 = ((sPA (S 5) t 62 0).1, true, (sPA (S 5) t 62 0).2.2) := Prod.ext rfl (Prod.ext hgood rfl)
    obtain ⟨hg, R', hR, -⟩ := sPA_step hs
    have h59 := sRO_59 hg
    have hgt := sRO_gt (T := S 5) (t := t) (p := 0) (a := 0) (b := 0) hg (by omega)
    have hle := sRO_le (T := S 5) (t := t) (p := 0) (a := 0) (b := 0) (by omega)
    have h9 := l_X7_perform (l := l) (S := (zAs v S 607)) (t := t) (hn := hn) (by rw [zAs_o (by decide)]; exact hL) ht (by rw [zAs_o (by decide)]; exact hS3) h4 62 0 0 (nI 0) v _ _ _ _ mm (sPA (S 5) t 62 0).1 (sPA (S 5) t 62 0).2.2 hp (by omega) hI (by decide) (fun _ => by rw [e5, h59, sB1_f]; exact hs) (fun z => by omega) (by omega)
    simp only [Nat.zero_add] at h9
    exact h9
  · exact absurd c4 (by rw [hgood]; decide)
