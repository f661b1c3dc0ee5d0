def sLet (T : Nat → Int32) (t p : Nat) : Int32 := if p < t then T p else nI 0
def sNum (T : Nat → Int32) (t p k : Nat) : Nat × Nat := sRN T t p k 0 0
def sROb (T : Nat → Int32) (t p : Nat) : Bool × Nat × Int32 × Int32 :=
  if (decide (0 < (sNum T t p 1).1) && sSg T t (p + (sNum T t p 1).1) (nI 64)) = true then
    (decide (0 < (sNum T t (p + (sNum T t p 1).1 + 1) 1).1), p + (sNum T t p 1).1 + 1 + (sNum T t (p + (sNum T t p 1).1 + 1) 1).1, nI (sNum T t p 1).2, nI (sNum T t (p + (sNum T t p 1).1 + 1) 1).2)
  else (false, p + (sNum T t p 1).1, nI (sNum T t p 1).2, nI (sNum T t p 1).2)
def sROo (T : Nat → Int32) (t p : Nat) : Bool × Nat × Int32 × Int32 :=
  if (decide (0 < (sNum T t p 2).1) && sSg T t (p + (sNum T t p 2).1) (nI 61)) = true then
    if (decide (p + (sNum T t p 2).1 + 1 < t) && !decide (T (p + (sNum T t p 2).1 + 1) = nI 48)) = true then
      (decide (0 < (sNum T t (p + (sNum T t p 2).1 + 1) 5).1), p + (sNum T t p 2).1 + 1 + (sNum T t (p + (sNum T t p 2).1 + 1) 5).1, nI (sNum T t p 2).2, nI (sNum T t (p + (sNum T t p 2).1 + 1) 5).2)
    else (false, p + (sNum T t p 2).1 + 1, nI (sNum T t p 2).2, nI (sNum T t p 2).2)
  else (false, p + (sNum T t p 2).1, nI (sNum T t p 2).2, nI (sNum T t p 2).2)
def sRO (T : Nat → Int32) (t p : Nat) (a b : Int32) : Bool × Nat × Int32 × Int32 :=
  if (sSg T t p (nI 98) || sSg T t p (nI 109)) = true then sROb T t (p + 1)
  else if (sSg T t p (nI 99) || sSg T t p (nI 120)) = true then (decide (0 < (sNum T t (p + 1) 2).1), p + 1 + (sNum T t (p + 1) 2).1, nI (sNum T t (p + 1) 2).2, b)
  else if sSg T t p (nI 111) = true then sROo T t (p + 1)
  else (false, p, a, b)
theorem sSg_lt {T : Nat → Int32} {t p : Nat} {c : Int32} (h : sSg T t p c = true) : p < t ∧ T p = c := by
  unfold sSg at h
  rw [Bool.and_eq_true, decide_eq_true_eq, decide_eq_true_eq] at h
  exact h
theorem sB1_t : sB1 true = 1 := rfl
theorem sB1_f : sB1 false = 0 := rfl
theorem sNum_t {T : Nat → Int32} {t p k : Nat} (h : p ≤ t) : p + (sNum T t p k).1 ≤ t := (sRN_le k 0 0).2 h
theorem sROb_le {T : Nat → Int32} {t p : Nat} (h : p ≤ t) : p ≤ (sROb T t p).2.1 ∧ (sROb T t p).2.1 ≤ t := by
  have h1 := sNum_t (T := T) (k := 1) h
  unfold sROb
  split
  · rename_i q
    rw [Bool.and_eq_true] at q
    have h2 := (sSg_lt q.2).1
    have h3 := sNum_t (T := T) (t := t) (p := p + (sNum T t p 1).1 + 1) (k := 1) (by omega)
    exact ⟨by show p ≤ p + _ + 1 + _; omega, h3⟩
  · exact ⟨by show p ≤ p + _; omega, h1⟩
theorem sROo_le {T : Nat → Int32} {t p : Nat} (h : p ≤ t) : p ≤ (sROo T t p).2.1 ∧ (sROo T t p).2.1 ≤ t := by
  have h1 := sNum_t (T := T) (k := 2) h
  unfold sROo
  split
  · rename_i q
    rw [Bool.and_eq_true] at q
    have h2 := (sSg_lt q.2).1
    split
    · have h3 := sNum_t (T := T) (t := t) (p := p + (sNum T t p 2).1 + 1) (k := 5) (by omega)
      exact ⟨by show p ≤ p + _ + 1 + _; omega, h3⟩
    · exact ⟨by show p ≤ p + _ + 1; omega, by show p + _ + 1 ≤ t; omega⟩
  · exact ⟨by show p ≤ p + _; omega, h1⟩
theorem sRO_le {T : Nat → Int32} {t p : Nat} {a b : Int32} (h : p ≤ t) : p ≤ (sRO T t p a b).2.1 ∧ (sRO T t p a b).2.1 ≤ t := by
  unfold sRO
  split
  · rename_i q
    rw [Bool.or_eq_true] at q
    have : p < t := q.elim (fun z => (sSg_lt z).1) (fun z => (sSg_lt z).1)
    have := sROb_le (T := T) (t := t) (p := p + 1) (by omega)
    exact ⟨by omega, this.2⟩
  · split
    · rename_i q
      rw [Bool.or_eq_true] at q
      have : p < t := q.elim (fun z => (sSg_lt z).1) (fun z => (sSg_lt z).1)
      have := sNum_t (T := T) (t := t) (p := p + 1) (k := 2) (by omega)
      exact ⟨by show p ≤ p + 1 + _; omega, this⟩
    · split
      · rename_i q
        have : p < t := (sSg_lt q).1
        have := sROo_le (T := T) (t := t) (p := p + 1) (by omega)
        exact ⟨by omega, this.2⟩
      · exact ⟨Nat.le_refl _, h⟩
set_option maxRecDepth 4000 in
theorem l_X7_readOrder {l : Launch} {G : zG} {A : Nat → Nat} {m0 mm : zM} {v : Nat → Int32} {S : Nat → Nat → Int32} {p t : Nat} {a b nm : Int32} (hp : zMP G A m0 v (zPar S p (sLet (S 5) t p) a b nm) mm) (hL : S 0 7 = nI t) (ht : t ≤ 60) (hpt : p ≤ t) : zV l G (yX7_readOrder, cX7_readOrder, 2, (some .boolean)) 3 (some (.int (zB (sRO (S 5) t p a b).1))) (fun m' => ∃ nm', zMP G A m0 v (zPar S (sRO (S 5) t p a b).2.1 (sLet (S 5) t p) (sRO (S 5) t p a b).2.2.1 (sRO (S 5) t p a b).2.2.2 nm') m') 28 [some (.ref (A 0)), none] [] mm := by
  refine z_aload_n 0 rfl rfl dX7_readOrder_28 ?_
  refine z_bipush (nI 98) dX7_readOrder_29 rfl ?_
  refine zM_u1 zm_X7_sign (c_X7_sign hp hL (by omega) (by omega) _) hp rfl rfl zl_X7_170 (by decide) (Nat.le_of_ble_eq_true rfl) dX7_readOrder_31 (fun mm hp => ?_)
  refine z_if_neB 46 dX7_readOrder_34 rfl (fun c34 => ?_) (fun c34 => ?_)
  · rw [c34] at hp
    simp only [sB1_t, sB1_f, Nat.add_zero] at hp
    have hlt := (sSg_lt c34).1
    have hTp := (sSg_lt c34).2
    have e1 : sRO (S 5) t p a b = sROb (S 5) t (p + 1) := by unfold sRO; rw [c34]; rfl
    refine z_aload_n 0 rfl rfl dX7_readOrder_46 ?_
    refine z_iconst (nI 1) dX7_readOrder_47 rfl ?_
    refine zM_u1 zm_X7_readNumber (c_X7_readNumber hp hL (by omega) (by omega) _ (by omega)) hp rfl rfl zl_X7_173 (by decide) (Nat.le_of_ble_eq_true rfl) dX7_readOrder_48 (fun mm hp => ?_)
    have hq1 := sNum_t (T := S 5) (t := t) (p := p + 1) (k := 1) (by omega)
    unfold sNum at hq1
    refine z_istore_n 1 rfl (Nat.le_of_ble_eq_true rfl) rfl dX7_readOrder_51 ?_
    refine z_aload_n 0 rfl rfl dX7_readOrder_52 ?_
    refine z_aload_n 0 rfl rfl dX7_readOrder_53 ?_
    refine zM_par14 hp rfl zf_X7_164 dX7_readOrder_54 ?_
    refine zM_pput12 hp rfl zf_X7_176 dX7_readOrder_57 (fun mm hp => ?_)
    refine z_iload_n 1 rfl rfl dX7_readOrder_60 ?_
    refine z_if_eqB 85 dX7_readOrder_61 rfl (fun c61 => ?_) (fun c61 => ?_)
    · have e9 : sRO (S 5) t p a b = (false, p + 1 + (sRN (S 5) t (p + 1) 1 0 0).1, nI (sRN (S 5) t (p + 1) 1 0 0).2, nI (sRN (S 5) t (p + 1) 1 0 0).2) := by rw [e1]; unfold sROb sNum; rw [c61]; rfl
      refine z_iconst (nI 0) dX7_readOrder_85 rfl ?_
      refine z_istore_n 1 rfl (Nat.le_of_ble_eq_true rfl) rfl dX7_readOrder_86 ?_
      refine z_aload_n 0 rfl rfl dX7_readOrder_87 ?_
      refine z_aload_n 0 rfl rfl dX7_readOrder_88 ?_
      refine zM_par14 hp rfl zf_X7_164 dX7_readOrder_89 ?_
      refine zM_pput13 hp rfl zf_X7_179 dX7_readOrder_92 (fun mm hp => ?_)
      refine z_iload_n 1 rfl rfl dX7_readOrder_95 ?_
      exact z_zret dX7_readOrder_96 (by first | rfl | exact zB_nar _) (by first | (rw [e9]; rfl) | (rw [e1])) (by first | (rw [e9]; exact ⟨_, hp⟩) | (rw [e1]; exact ⟨_, hp⟩))
    · refine z_aload_n 0 rfl rfl dX7_readOrder_64 ?_
      refine z_bipush (nI 64) dX7_readOrder_65 rfl ?_
      refine zM_u1 zm_X7_sign (c_X7_sign hp hL (by omega) (by omega) _) hp rfl rfl zl_X7_170 (by decide) (Nat.le_of_ble_eq_true rfl) dX7_readOrder_67 (fun mm hp => ?_)
      refine z_if_eqB 85 dX7_readOrder_70 rfl (fun c70 => ?_) (fun c70 => ?_)
      · rw [c70] at hp
        simp only [sB1_t, sB1_f, Nat.add_zero] at hp
        have e9 : sRO (S 5) t p a b = (false, p + 1 + (sRN (S 5) t (p + 1) 1 0 0).1, nI (sRN (S 5) t (p + 1) 1 0 0).2, nI (sRN (S 5) t (p + 1) 1 0 0).2) := by rw [e1]; unfold sROb sNum; rw [c61, c70]; rfl
        refine z_iconst (nI 0) dX7_readOrder_85 rfl ?_
        refine z_istore_n 1 rfl (Nat.le_of_ble_eq_true rfl) rfl dX7_readOrder_86 ?_
        refine z_aload_n 0 rfl rfl dX7_readOrder_87 ?_
        refine z_aload_n 0 rfl rfl dX7_readOrder_88 ?_
        refine zM_par14 hp rfl zf_X7_164 dX7_readOrder_89 ?_
        refine zM_pput13 hp rfl zf_X7_179 dX7_readOrder_92 (fun mm hp => ?_)
        refine z_iload_n 1 rfl rfl dX7_readOrder_95 ?_
        exact z_zret dX7_readOrder_96 (by first | rfl | exact zB_nar _) (by first | (rw [e9]; rfl) | (rw [e1])) (by first | (rw [e9]; exact ⟨_, hp⟩) | (rw [e1]; exact ⟨_, hp⟩))
      · rw [c70] at hp
        simp only [sB1_t, sB1_f, Nat.add_zero] at hp
        have hlt2 := (sSg_lt c70).1
        have e2 : sRO (S 5) t p a b = (decide (0 < (sRN (S 5) t (p + 1 + (sRN (S 5) t (p + 1) 1 0 0).1 + 1) 1 0 0).1), p + 1 + (sRN (S 5) t (p + 1) 1 0 0).1 + 1 + (sRN (S 5) t (p + 1 + (sRN (S 5) t (p + 1) 1 0 0).1 + 1) 1 0 0).1, nI (sRN (S 5) t (p + 1) 1 0 0).2, nI (sRN (S 5) t (p + 1 + (sRN (S 5) t (p + 1) 1 0 0).1 + 1) 1 0 0).2) := by rw [e1]; unfold sROb sNum; rw [c61, c70]; rfl
        refine z_aload_n 0 rfl rfl dX7_readOrder_73 ?_
        refine z_iconst (nI 1) dX7_readOrder_74 rfl ?_
        refine zM_u1 zm_X7_readNumber (c_X7_readNumber hp hL (by omega) (by omega) _ (by omega)) hp rfl rfl zl_X7_173 (by decide) (Nat.le_of_ble_eq_true rfl) dX7_readOrder_75 (fun mm hp => ?_)
        refine z_if_eqB 85 dX7_readOrder_78 rfl (fun c78 => ?_) (fun c78 => ?_)
        · have e9 := e2
          rw [c78] at e9
          refine z_iconst (nI 0) dX7_readOrder_85 rfl ?_
          refine z_istore_n 1 rfl (Nat.le_of_ble_eq_true rfl) rfl dX7_readOrder_86 ?_
          refine z_aload_n 0 rfl rfl dX7_readOrder_87 ?_
          refine z_aload_n 0 rfl rfl dX7_readOrder_88 ?_
          refine zM_par14 hp rfl zf_X7_164 dX7_readOrder_89 ?_
          refine zM_pput13 hp rfl zf_X7_179 dX7_readOrder_92 (fun mm hp => ?_)
          refine z_iload_n 1 rfl rfl dX7_readOrder_95 ?_
          exact z_zret dX7_readOrder_96 (by first | rfl | exact zB_nar _) (by first | (rw [e9]; rfl) | (rw [e1])) (by first | (rw [e9]; exact ⟨_, hp⟩) | (rw [e1]; exact ⟨_, hp⟩))
        · have e9 := e2
          rw [c78] at e9
          refine z_iconst (nI 1) dX7_readOrder_81 rfl ?_
          refine z_goto 86 dX7_readOrder_82 rfl ?_
          refine z_istore_n 1 rfl (Nat.le_of_ble_eq_true rfl) rfl dX7_readOrder_86 ?_
          refine z_aload_n 0 rfl rfl dX7_readOrder_87 ?_
          refine z_aload_n 0 rfl rfl dX7_readOrder_88 ?_
          refine zM_par14 hp rfl zf_X7_164 dX7_readOrder_89 ?_
          refine zM_pput13 hp rfl zf_X7_179 dX7_readOrder_92 (fun mm hp => ?_)
          refine z_iload_n 1 rfl rfl dX7_readOrder_95 ?_
          exact z_zret dX7_readOrder_96 (by first | rfl | exact zB_nar _) (by first | (rw [e9]; rfl) | (rw [e1])) (by first | (rw [e9]; exact ⟨_, hp⟩) | (rw [e1]; exact ⟨_, hp⟩))
  · rw [c34] at hp
    simp only [sB1_t, sB1_f, Nat.add_zero] at hp
    refine z_aload_n 0 rfl rfl dX7_readOrder_37 ?_
    refine z_bipush (nI 109) dX7_readOrder_38 rfl ?_
    refine zM_u1 zm_X7_sign (c_X7_sign hp hL (by omega) (by omega) _) hp rfl rfl zl_X7_170 (by decide) (Nat.le_of_ble_eq_true rfl) dX7_readOrder_40 (fun mm hp => ?_)
    refine z_if_eqB 97 dX7_readOrder_43 rfl (fun c43 => ?_) (fun c43 => ?_)
    · rw [c43] at hp
      simp only [sB1_t, sB1_f, Nat.add_zero] at hp
      refine z_aload_n 0 rfl rfl dX7_readOrder_97 ?_
      refine z_bipush (nI 99) dX7_readOrder_98 rfl ?_
      refine zM_u1 zm_X7_sign (c_X7_sign hp hL (by omega) (by omega) _) hp rfl rfl zl_X7_170 (by decide) (Nat.le_of_ble_eq_true rfl) dX7_readOrder_100 (fun mm hp => ?_)
      refine z_if_neB 126 dX7_readOrder_103 rfl (fun c103 => ?_) (fun c103 => ?_)
      · rw [c103] at hp
        simp only [sB1_t, sB1_f, Nat.add_zero] at hp
        have hlt := (sSg_lt c103).1
        have hTp := (sSg_lt c103).2
        have e1 : sRO (S 5) t p a b = (decide (0 < (sRN (S 5) t (p + 1) 2 0 0).1), p + 1 + (sRN (S 5) t (p + 1) 2 0 0).1, nI (sRN (S 5) t (p + 1) 2 0 0).2, b) := by unfold sRO sNum; rw [c34, c43, c103]; rfl
        have hl0 : sLet (S 5) t p = nI 99 := by unfold sLet; rw [if_pos hlt, hTp]
        have hne : ¬ sLet (S 5) t p = nI 111 := by rw [hl0]; decide
        refine z_aload_n 0 rfl rfl dX7_readOrder_126 ?_
        refine z_iconst (nI 2) dX7_readOrder_127 rfl ?_
        refine zM_u1 zm_X7_readNumber (c_X7_readNumber hp hL (by omega) (by omega) _ (by omega)) hp rfl rfl zl_X7_173 (by decide) (Nat.le_of_ble_eq_true rfl) dX7_readOrder_128 (fun mm hp => ?_)
        have hq1 := sNum_t (T := S 5) (t := t) (p := p + 1) (k := 2) (by omega)
        unfold sNum at hq1
        refine z_istore_n 1 rfl (Nat.le_of_ble_eq_true rfl) rfl dX7_readOrder_131 ?_
        refine z_aload_n 0 rfl rfl dX7_readOrder_132 ?_
        refine z_aload_n 0 rfl rfl dX7_readOrder_133 ?_
        refine zM_par14 hp rfl zf_X7_164 dX7_readOrder_134 ?_
        refine zM_pput12 hp rfl zf_X7_176 dX7_readOrder_137 (fun mm hp => ?_)
        refine z_aload_n 0 rfl rfl dX7_readOrder_140 ?_
        refine zM_par11 hp rfl zf_X7_167 dX7_readOrder_141 ?_
        refine z_bipush (nI 111) dX7_readOrder_144 rfl ?_
        refine z_icmp_ne 209 dX7_readOrder_146 rfl (fun c146 => ?_) (fun c146 => ?_)
        · refine z_iload_n 1 rfl rfl dX7_readOrder_209 ?_
          exact z_zret dX7_readOrder_210 (by first | rfl | exact zB_nar _) (by first | (rw [e9]; rfl) | (rw [e1])) (by first | (rw [e9]; exact ⟨_, hp⟩) | (rw [e1]; exact ⟨_, hp⟩))
        · exact absurd c146 hne
      · rw [c103] at hp
        simp only [sB1_t, sB1_f, Nat.add_zero] at hp
        refine z_aload_n 0 rfl rfl dX7_readOrder_106 ?_
        refine z_bipush (nI 120) dX7_readOrder_107 rfl ?_
        refine zM_u1 zm_X7_sign (c_X7_sign hp hL (by omega) (by omega) _) hp rfl rfl zl_X7_170 (by decide) (Nat.le_of_ble_eq_true rfl) dX7_readOrder_109 (fun mm hp => ?_)
        refine z_if_neB 126 dX7_readOrder_112 rfl (fun c112 => ?_) (fun c112 => ?_)
        · rw [c112] at hp
          simp only [sB1_t, sB1_f, Nat.add_zero] at hp
          have hlt := (sSg_lt c112).1
          have hTp := (sSg_lt c112).2
          have e1 : sRO (S 5) t p a b = (decide (0 < (sRN (S 5) t (p + 1) 2 0 0).1), p + 1 + (sRN (S 5) t (p + 1) 2 0 0).1, nI (sRN (S 5) t (p + 1) 2 0 0).2, b) := by unfold sRO sNum; rw [c34, c43, c103, c112]; rfl
          have hl0 : sLet (S 5) t p = nI 120 := by unfold sLet; rw [if_pos hlt, hTp]
          have hne : ¬ sLet (S 5) t p = nI 111 := by rw [hl0]; decide
          refine z_aload_n 0 rfl rfl dX7_readOrder_126 ?_
          refine z_iconst (nI 2) dX7_readOrder_127 rfl ?_
          refine zM_u1 zm_X7_readNumber (c_X7_readNumber hp hL (by omega) (by omega) _ (by omega)) hp rfl rfl zl_X7_173 (by decide) (Nat.le_of_ble_eq_true rfl) dX7_readOrder_128 (fun mm hp => ?_)
          have hq1 := sNum_t (T := S 5) (t := t) (p := p + 1) (k := 2) (by omega)
          unfold sNum at hq1
          refine z_istore_n 1 rfl (Nat.le_of_ble_eq_true rfl) rfl dX7_readOrder_131 ?_
          refine z_aload_n 0 rfl rfl dX7_readOrder_132 ?_
          refine z_aload_n 0 rfl rfl dX7_readOrder_133 ?_
          refine zM_par14 hp rfl zf_X7_164 dX7_readOrder_134 ?_
          refine zM_pput12 hp rfl zf_X7_176 dX7_readOrder_137 (fun mm hp => ?_)
          refine z_aload_n 0 rfl rfl dX7_readOrder_140 ?_
          refine zM_par11 hp rfl zf_X7_167 dX7_readOrder_141 ?_
          refine z_bipush (nI 111) dX7_readOrder_144 rfl ?_
          refine z_icmp_ne 209 dX7_readOrder_146 rfl (fun c146 => ?_) (fun c146 => ?_)
          · refine z_iload_n 1 rfl rfl dX7_readOrder_209 ?_
            exact z_zret dX7_readOrder_210 (by first | rfl | exact zB_nar _) (by first | (rw [e9]; rfl) | (rw [e1])) (by first | (rw [e9]; exact ⟨_, hp⟩) | (rw [e1]; exact ⟨_, hp⟩))
          · exact absurd c146 hne
        · rw [c112] at hp
          simp only [sB1_t, sB1_f, Nat.add_zero] at hp
          refine z_aload_n 0 rfl rfl dX7_readOrder_115 ?_
          refine z_bipush (nI 111) dX7_readOrder_116 rfl ?_
          refine zM_u1 zm_X7_sign (c_X7_sign hp hL (by omega) (by omega) _) hp rfl rfl zl_X7_170 (by decide) (Nat.le_of_ble_eq_true rfl) dX7_readOrder_118 (fun mm hp => ?_)
          refine z_if_neB 126 dX7_readOrder_121 rfl (fun c121 => ?_) (fun c121 => ?_)
          · rw [c121] at hp
            simp only [sB1_t, sB1_f, Nat.add_zero] at hp
            have hlt := (sSg_lt c121).1
            have hTp := (sSg_lt c121).2
            have e1 : sRO (S 5) t p a b = sROo (S 5) t (p + 1) := by unfold sRO; rw [c34, c43, c103, c112, c121]; rfl
            have hl0 : sLet (S 5) t p = nI 111 := by unfold sLet; rw [if_pos hlt, hTp]
            refine z_aload_n 0 rfl rfl dX7_readOrder_126 ?_
            refine z_iconst (nI 2) dX7_readOrder_127 rfl ?_
            refine zM_u1 zm_X7_readNumber (c_X7_readNumber hp hL (by omega) (by omega) _ (by omega)) hp rfl rfl zl_X7_173 (by decide) (Nat.le_of_ble_eq_true rfl) dX7_readOrder_128 (fun mm hp => ?_)
            have hq1 := sNum_t (T := S 5) (t := t) (p := p + 1) (k := 2) (by omega)
            unfold sNum at hq1
            refine z_istore_n 1 rfl (Nat.le_of_ble_eq_true rfl) rfl dX7_readOrder_131 ?_
            refine z_aload_n 0 rfl rfl dX7_readOrder_132 ?_
            refine z_aload_n 0 rfl rfl dX7_readOrder_133 ?_
            refine zM_par14 hp rfl zf_X7_164 dX7_readOrder_134 ?_
            refine zM_pput12 hp rfl zf_X7_176 dX7_readOrder_137 (fun mm hp => ?_)
            refine z_aload_n 0 rfl rfl dX7_readOrder_140 ?_
            refine zM_par11 hp rfl zf_X7_167 dX7_readOrder_141 ?_
            refine z_bipush (nI 111) dX7_readOrder_144 rfl ?_
            refine z_icmp_ne 209 dX7_readOrder_146 rfl (fun c146 => ?_) (fun c146 => ?_)
            · exact absurd hl0 c146
            · refine z_iload_n 1 rfl rfl dX7_readOrder_149 ?_
              refine z_if_eqB 199 dX7_readOrder_150 rfl (fun c150 => ?_) (fun c150 => ?_)
              · have e9 : sRO (S 5) t p a b = (false, p + 1 + (sRN (S 5) t (p + 1) 2 0 0).1, nI (sRN (S 5) t (p + 1) 2 0 0).2, nI (sRN (S 5) t (p + 1) 2 0 0).2) := by rw [e1]; unfold sROo sNum; rw [c150]; rfl
                refine z_iconst (nI 0) dX7_readOrder_199 rfl ?_
                refine z_istore_n 1 rfl (Nat.le_of_ble_eq_true rfl) rfl dX7_readOrder_200 ?_
                refine z_aload_n 0 rfl rfl dX7_readOrder_201 ?_
                refine z_aload_n 0 rfl rfl dX7_readOrder_202 ?_
                refine zM_par14 hp rfl zf_X7_164 dX7_readOrder_203 ?_
                refine zM_pput13 hp rfl zf_X7_179 dX7_readOrder_206 (fun mm hp => ?_)
                refine z_iload_n 1 rfl rfl dX7_readOrder_209 ?_
                exact z_zret dX7_readOrder_210 (by first | rfl | exact zB_nar _) (by first | (rw [e9]; rfl) | (rw [e1])) (by first | (rw [e9]; exact ⟨_, hp⟩) | (rw [e1]; exact ⟨_, hp⟩))
              · refine z_aload_n 0 rfl rfl dX7_readOrder_153 ?_
                refine z_bipush (nI 61) dX7_readOrder_154 rfl ?_
                refine zM_u1 zm_X7_sign (c_X7_sign hp hL (by omega) (by omega) _) hp rfl rfl zl_X7_170 (by decide) (Nat.le_of_ble_eq_true rfl) dX7_readOrder_156 (fun mm hp => ?_)
                refine z_if_eqB 199 dX7_readOrder_159 rfl (fun c159 => ?_) (fun c159 => ?_)
                · rw [c159] at hp
                  simp only [sB1_t, sB1_f, Nat.add_zero] at hp
                  have e9 : sRO (S 5) t p a b = (false, p + 1 + (sRN (S 5) t (p + 1) 2 0 0).1, nI (sRN (S 5) t (p + 1) 2 0 0).2, nI (sRN (S 5) t (p + 1) 2 0 0).2) := by rw [e1]; unfold sROo sNum; rw [c150, c159]; rfl
                  refine z_iconst (nI 0) dX7_readOrder_199 rfl ?_
                  refine z_istore_n 1 rfl (Nat.le_of_ble_eq_true rfl) rfl dX7_readOrder_200 ?_
                  refine z_aload_n 0 rfl rfl dX7_readOrder_201 ?_
                  refine z_aload_n 0 rfl rfl dX7_readOrder_202 ?_
                  refine zM_par14 hp rfl zf_X7_164 dX7_readOrder_203 ?_
                  refine zM_pput13 hp rfl zf_X7_179 dX7_readOrder_206 (fun mm hp => ?_)
                  refine z_iload_n 1 rfl rfl dX7_readOrder_209 ?_
                  exact z_zret dX7_readOrder_210 (by first | rfl | exact zB_nar _) (by first | (rw [e9]; rfl) | (rw [e1])) (by first | (rw [e9]; exact ⟨_, hp⟩) | (rw [e1]; exact ⟨_, hp⟩))
                · rw [c159] at hp
                  simp only [sB1_t, sB1_f, Nat.add_zero] at hp
                  have hlt2 := (sSg_lt c159).1
                  refine z_aload_n 0 rfl rfl dX7_readOrder_162 ?_
                  refine zM_par10 hp rfl zf_X7_161 dX7_readOrder_163 ?_
                  refine z_aload_n 0 rfl rfl dX7_readOrder_166 ?_
                  refine zM_par7 hp hL rfl zf_X7_158 dX7_readOrder_167 ?_
                  refine z_icmp_ge 199 dX7_readOrder_170 rfl (fun c170 => ?_) (fun c170 => ?_)
                  · have hge := (nI_leI (by omega) (by omega)).mp c170
                    have e9 : sRO (S 5) t p a b = (false, p + 1 + (sRN (S 5) t (p + 1) 2 0 0).1 + 1, nI (sRN (S 5) t (p + 1) 2 0 0).2, nI (sRN (S 5) t (p + 1) 2 0 0).2) := by rw [e1]; unfold sROo sNum; rw [c150, c159, decide_eq_false (by omega : ¬ p + 1 + (sRN (S 5) t (p + 1) 2 0 0).1 + 1 < t)]; rfl
                    refine z_iconst (nI 0) dX7_readOrder_199 rfl ?_
                    refine z_istore_n 1 rfl (Nat.le_of_ble_eq_true rfl) rfl dX7_readOrder_200 ?_
                    refine z_aload_n 0 rfl rfl dX7_readOrder_201 ?_
                    refine z_aload_n 0 rfl rfl dX7_readOrder_202 ?_
                    refine zM_par14 hp rfl zf_X7_164 dX7_readOrder_203 ?_
                    refine zM_pput13 hp rfl zf_X7_179 dX7_readOrder_206 (fun mm hp => ?_)
                    refine z_iload_n 1 rfl rfl dX7_readOrder_209 ?_
                    exact z_zret dX7_readOrder_210 (by first | rfl | exact zB_nar _) (by first | (rw [e9]; rfl) | (rw [e1])) (by first | (rw [e9]; exact ⟨_, hp⟩) | (rw [e1]; exact ⟨_, hp⟩))
                  · have hl3 : p + 1 + (sRN (S 5) t (p + 1) 2 0 0).1 + 1 < t := Nat.lt_of_not_le (fun q => c170 ((nI_leI (by omega) (by omega)).mpr q))
                    refine z_aload_n 0 rfl rfl dX7_readOrder_173 ?_
                    refine zM_ref 6 5 hp (by decide) rfl (by decide) rfl rfl zf_X7_22 dX7_readOrder_174 ?_
                    refine z_aload_n 0 rfl rfl dX7_readOrder_177 ?_
                    refine zM_par10 hp rfl zf_X7_161 dX7_readOrder_178 ?_
                    refine zM_parT hp (by omega) dX7_readOrder_181 ?_
                    refine z_bipush (nI 48) dX7_readOrder_182 rfl ?_
                    refine z_icmp_eq 199 dX7_readOrder_184 rfl (fun c184 => ?_) (fun c184 => ?_)
                    · have e9 : sRO (S 5) t p a b = (false, p + 1 + (sRN (S 5) t (p + 1) 2 0 0).1 + 1, nI (sRN (S 5) t (p + 1) 2 0 0).2, nI (sRN (S 5) t (p + 1) 2 0 0).2) := by rw [e1]; unfold sROo sNum; rw [c150, c159, decide_eq_true hl3, decide_eq_true c184]; rfl
                      refine z_iconst (nI 0) dX7_readOrder_199 rfl ?_
                      refine z_istore_n 1 rfl (Nat.le_of_ble_eq_true rfl) rfl dX7_readOrder_200 ?_
                      refine z_aload_n 0 rfl rfl dX7_readOrder_201 ?_
                      refine z_aload_n 0 rfl rfl dX7_readOrder_202 ?_
                      refine zM_par14 hp rfl zf_X7_164 dX7_readOrder_203 ?_
                      refine zM_pput13 hp rfl zf_X7_179 dX7_readOrder_206 (fun mm hp => ?_)
                      refine z_iload_n 1 rfl rfl dX7_readOrder_209 ?_
                      exact z_zret dX7_readOrder_210 (by first | rfl | exact zB_nar _) (by first | (rw [e9]; rfl) | (rw [e1])) (by first | (rw [e9]; exact ⟨_, hp⟩) | (rw [e1]; exact ⟨_, hp⟩))
                    · have e2 : sRO (S 5) t p a b = (decide (0 < (sRN (S 5) t (p + 1 + (sRN (S 5) t (p + 1) 2 0 0).1 + 1) 5 0 0).1), p + 1 + (sRN (S 5) t (p + 1) 2 0 0).1 + 1 + (sRN (S 5) t (p + 1 + (sRN (S 5) t (p + 1) 2 0 0).1 + 1) 5 0 0).1, nI (sRN (S 5) t (p + 1) 2 0 0).2, nI (sRN (S 5) t (p + 1 + (sRN (S 5) t (p + 1) 2 0 0).1 + 1) 5 0 0).2) := by rw [e1]; unfold sROo sNum; rw [c150, c159, decide_eq_true hl3, decide_eq_false c184]; rfl
                      refine z_aload_n 0 rfl rfl dX7_readOrder_187 ?_
                      refine z_iconst (nI 5) dX7_readOrder_188 rfl ?_
                      refine zM_u1 zm_X7_readNumber (c_X7_readNumber hp hL (by omega) (by omega) _ (by omega)) hp rfl rfl zl_X7_173 (by decide) (Nat.le_of_ble_eq_true rfl) dX7_readOrder_189 (fun mm hp => ?_)
                      refine z_if_eqB 199 dX7_readOrder_192 rfl (fun c192 => ?_) (fun c192 => ?_)
                      · have e9 := e2
                        rw [c192] at e9
                        refine z_iconst (nI 0) dX7_readOrder_199 rfl ?_
                        refine z_istore_n 1 rfl (Nat.le_of_ble_eq_true rfl) rfl dX7_readOrder_200 ?_
                        refine z_aload_n 0 rfl rfl dX7_readOrder_201 ?_
                        refine z_aload_n 0 rfl rfl dX7_readOrder_202 ?_
                        refine zM_par14 hp rfl zf_X7_164 dX7_readOrder_203 ?_
                        refine zM_pput13 hp rfl zf_X7_179 dX7_readOrder_206 (fun mm hp => ?_)
                        refine z_iload_n 1 rfl rfl dX7_readOrder_209 ?_
                        exact z_zret dX7_readOrder_210 (by first | rfl | exact zB_nar _) (by first | (rw [e9]; rfl) | (rw [e1])) (by first | (rw [e9]; exact ⟨_, hp⟩) | (rw [e1]; exact ⟨_, hp⟩))
                      · have e9 := e2
                        rw [c192] at e9
                        refine z_iconst (nI 1) dX7_readOrder_195 rfl ?_
                        refine z_goto 200 dX7_readOrder_196 rfl ?_
                        refine z_istore_n 1 rfl (Nat.le_of_ble_eq_true rfl) rfl dX7_readOrder_200 ?_
                        refine z_aload_n 0 rfl rfl dX7_readOrder_201 ?_
                        refine z_aload_n 0 rfl rfl dX7_readOrder_202 ?_
                        refine zM_par14 hp rfl zf_X7_164 dX7_readOrder_203 ?_
                        refine zM_pput13 hp rfl zf_X7_179 dX7_readOrder_206 (fun mm hp => ?_)
                        refine z_iload_n 1 rfl rfl dX7_readOrder_209 ?_
                        exact z_zret dX7_readOrder_210 (by first | rfl | exact zB_nar _) (by first | (rw [e9]; rfl) | (rw [e1])) (by first | (rw [e9]; exact ⟨_, hp⟩) | (rw [e1]; exact ⟨_, hp⟩))
          · rw [c121] at hp
            simp only [sB1_t, sB1_f, Nat.add_zero] at hp
            have e9 : sRO (S 5) t p a b = (false, p, a, b) := by unfold sRO; rw [c34, c43, c103, c112, c121]; rfl
            refine z_iconst (nI 0) dX7_readOrder_124 rfl ?_
            exact z_zret dX7_readOrder_125 (by first | rfl | exact zB_nar _) (by first | (rw [e9]; rfl) | (rw [e1])) (by first | (rw [e9]; exact ⟨_, hp⟩) | (rw [e1]; exact ⟨_, hp⟩))
    · rw [c43] at hp
      simp only [sB1_t, sB1_f, Nat.add_zero] at hp
      have hlt := (sSg_lt c43).1
      have hTp := (sSg_lt c43).2
      have e1 : sRO (S 5) t p a b = sROb (S 5) t (p + 1) := by unfold sRO; rw [c34, c43]; rfl
      refine z_aload_n 0 rfl rfl dX7_readOrder_46 ?_
      refine z_iconst (nI 1) dX7_readOrder_47 rfl ?_
      refine zM_u1 zm_X7_readNumber (c_X7_readNumber hp hL (by omega) (by omega) _ (by omega)) hp rfl rfl zl_X7_173 (by decide) (Nat.le_of_ble_eq_true rfl) dX7_readOrder_48 (fun mm hp => ?_)
      have hq1 := sNum_t (T := S 5) (t := t) (p := p + 1) (k := 1) (by omega)
      unfold sNum at hq1
      refine z_istore_n 1 rfl (Nat.le_of_ble_eq_true rfl) rfl dX7_readOrder_51 ?_
      refine z_aload_n 0 rfl rfl dX7_readOrder_52 ?_
      refine z_aload_n 0 rfl rfl dX7_readOrder_53 ?_
      refine zM_par14 hp rfl zf_X7_164 dX7_readOrder_54 ?_
      refine zM_pput12 hp rfl zf_X7_176 dX7_readOrder_57 (fun mm hp => ?_)
      refine z_iload_n 1 rfl rfl dX7_readOrder_60 ?_
      refine z_if_eqB 85 dX7_readOrder_61 rfl (fun c61 => ?_) (fun c61 => ?_)
      · have e9 : sRO (S 5) t p a b = (false, p + 1 + (sRN (S 5) t (p + 1) 1 0 0).1, nI (sRN (S 5) t (p + 1) 1 0 0).2, nI (sRN (S 5) t (p + 1) 1 0 0).2) := by rw [e1]; unfold sROb sNum; rw [c61]; rfl
        refine z_iconst (nI 0) dX7_readOrder_85 rfl ?_
        refine z_istore_n 1 rfl (Nat.le_of_ble_eq_true rfl) rfl dX7_readOrder_86 ?_
        refine z_aload_n 0 rfl rfl dX7_readOrder_87 ?_
        refine z_aload_n 0 rfl rfl dX7_readOrder_88 ?_
        refine zM_par14 hp rfl zf_X7_164 dX7_readOrder_89 ?_
        refine zM_pput13 hp rfl zf_X7_179 dX7_readOrder_92 (fun mm hp => ?_)
        refine z_iload_n 1 rfl rfl dX7_readOrder_95 ?_
        exact z_zret dX7_readOrder_96 (by first | rfl | exact zB_nar _) (by first | (rw [e9]; rfl) | (rw [e1])) (by first | (rw [e9]; exact ⟨_, hp⟩) | (rw [e1]; exact ⟨_, hp⟩))
      · refine z_aload_n 0 rfl rfl dX7_readOrder_64 ?_
        refine z_bipush (nI 64) dX7_readOrder_65 rfl ?_
        refine zM_u1 zm_X7_sign (c_X7_sign hp hL (by omega) (by omega) _) hp rfl rfl zl_X7_170 (by decide) (Nat.le_of_ble_eq_true rfl) dX7_readOrder_67 (fun mm hp => ?_)
        refine z_if_eqB 85 dX7_readOrder_70 rfl (fun c70 => ?_) (fun c70 => ?_)
        · rw [c70] at hp
          simp only [sB1_t, sB1_f, Nat.add_zero] at hp
          have e9 : sRO (S 5) t p a b = (false, p + 1 + (sRN (S 5) t (p + 1) 1 0 0).1, nI (sRN (S 5) t (p + 1) 1 0 0).2, nI (sRN (S 5) t (p + 1) 1 0 0).2) := by rw [e1]; unfold sROb sNum; rw [c61, c70]; rfl
          refine z_iconst (nI 0) dX7_readOrder_85 rfl ?_
          refine z_istore_n 1 rfl (Nat.le_of_ble_eq_true rfl) rfl dX7_readOrder_86 ?_
          refine z_aload_n 0 rfl rfl dX7_readOrder_87 ?_
          refine z_aload_n 0 rfl rfl dX7_readOrder_88 ?_
          refine zM_par14 hp rfl zf_X7_164 dX7_readOrder_89 ?_
          refine zM_pput13 hp rfl zf_X7_179 dX7_readOrder_92 (fun mm hp => ?_)
          refine z_iload_n 1 rfl rfl dX7_readOrder_95 ?_
          exact z_zret dX7_readOrder_96 (by first | rfl | exact zB_nar _) (by first | (rw [e9]; rfl) | (rw [e1])) (by first | (rw [e9]; exact ⟨_, hp⟩) | (rw [e1]; exact ⟨_, hp⟩))
        · rw [c70] at hp
          simp only [sB1_t, sB1_f, Nat.add_zero] at hp
          have hlt2 := (sSg_lt c70).1
          have e2 : sRO (S 5) t p a b = (decide (0 < (sRN (S 5) t (p + 1 + (sRN (S 5) t (p + 1) 1 0 0).1 + 1) 1 0 0).1), p + 1 + (sRN (S 5) t (p + 1) 1 0 0).1 + 1 + (sRN (S 5) t (p + 1 + (sRN (S 5) t (p + 1) 1 0 0).1 + 1) 1 0 0).1, nI (sRN (S 5) t (p + 1) 1 0 0).2, nI (sRN (S 5) t (p + 1 + (sRN (S 5) t (p + 1) 1 0 0).1 + 1) 1 0 0).2) := by rw [e1]; unfold sROb sNum; rw [c61, c70]; rfl
          refine z_aload_n 0 rfl rfl dX7_readOrder_73 ?_
          refine z_iconst (nI 1) dX7_readOrder_74 rfl ?_
          refine zM_u1 zm_X7_readNumber (c_X7_readNumber hp hL (by omega) (by omega) _ (by omega)) hp rfl rfl zl_X7_173 (by decide) (Nat.le_of_ble_eq_true rfl) dX7_readOrder_75 (fun mm hp => ?_)
          refine z_if_eqB 85 dX7_readOrder_78 rfl (fun c78 => ?_) (fun c78 => ?_)
          · have e9 := e2
            rw [c78] at e9
            refine z_iconst (nI 0) dX7_readOrder_85 rfl ?_
            refine z_istore_n 1 rfl (Nat.le_of_ble_eq_true rfl) rfl dX7_readOrder_86 ?_
            refine z_aload_n 0 rfl rfl dX7_readOrder_87 ?_
            refine z_aload_n 0 rfl rfl dX7_readOrder_88 ?_
            refine zM_par14 hp rfl zf_X7_164 dX7_readOrder_89 ?_
            refine zM_pput13 hp rfl zf_X7_179 dX7_readOrder_92 (fun mm hp => ?_)
            refine z_iload_n 1 rfl rfl dX7_readOrder_95 ?_
            exact z_zret dX7_readOrder_96 (by first | rfl | exact zB_nar _) (by first | (rw [e9]; rfl) | (rw [e1])) (by first | (rw [e9]; exact ⟨_, hp⟩) | (rw [e1]; exact ⟨_, hp⟩))
          · have e9 := e2
            rw [c78] at e9
            refine z_iconst (nI 1) dX7_readOrder_81 rfl ?_
            refine z_goto 86 dX7_readOrder_82 rfl ?_
            refine z_istore_n 1 rfl (Nat.le_of_ble_eq_true rfl) rfl dX7_readOrder_86 ?_
            refine z_aload_n 0 rfl rfl dX7_readOrder_87 ?_
            refine z_aload_n 0 rfl rfl dX7_readOrder_88 ?_
            refine zM_par14 hp rfl zf_X7_164 dX7_readOrder_89 ?_
            refine zM_pput13 hp rfl zf_X7_179 dX7_readOrder_92 (fun mm hp => ?_)
            refine z_iload_n 1 rfl rfl dX7_readOrder_95 ?_
            exact z_zret dX7_readOrder_96 (by first | rfl | exact zB_nar _) (by first | (rw [e9]; rfl) | (rw [e1])) (by first | (rw [e9]; exact ⟨_, hp⟩) | (rw [e1]; exact ⟨_, hp⟩))
