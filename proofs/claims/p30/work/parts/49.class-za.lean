set_option maxRecDepth 4000 in
theorem c_X6_performNext {l : Launch} {G : zG} {Bs : Nat → Nat → Nat} {O : Nat → Nat} {m0 mm : zM} {π : Nat → Nat} {vs : Nat → Nat → Int32} {hk cn : Int32} {T : Nat → Int32} {t p : Nat} {kd fi se : Int32} (hp : zDk G Bs O m0 π vs hk cn T (gP t p kd fi se) mm) (ht : t ≤ 60) (hpt : p ≤ t) (hH : zH (vs 0)) (hO : zOp (vs 0)) (hg : (sRO T t p 0 0).1 = true) : zSem l G (yX6_performNext, cX6_performNext, 1, (some .int)) 6 [.ref (O 0)] mm (some (.int (sDoO (vs 0) (sLet T t p, (sRO T t p 0 0).2.2.1, (sRO T t p 0 0).2.2.2)).1)) (fun m' => ∃ a b c, zDk G Bs O m0 π (zUs vs 0 (sDoO (vs 0) (sLet T t p, (sRO T t p 0 0).2.2.1, (sRO T t p 0 0).2.2.2)).2) hk cn T (gP t ((sRO T t p 0 0).2.1 + sB1 (sSg T t (sRO T t p 0 0).2.1 (nI 59))) a b c) m') := by
  have ht3 := hp.2.2.2.2.2.1
  refine z_met [some (.ref (O 0))] rfl (zc1 (by rfl)) (Nat.le_of_ble_eq_true rfl) rfl ?_
  refine z_aload_n 0 rfl rfl dX6_performNext_0 ?_
  refine zK6_4 hp rfl zf_X6_29 dX6_performNext_1 ?_
  refine z_uV0 (ci := 3) zm_X3_readOrder (c_X3_readOrder ht3 ht hpt) rfl zl_X6_181 rfl rfl (by decide) (hp.2.1.2.1 3 (by decide)).1 (hp.2.1.2.1 3 (by decide)).2 (by decide) (Nat.le_of_ble_eq_true rfl) dX6_performNext_4 (fun mm hp2 => ?_)
  obtain ⟨fa, fb, hp2, hab⟩ := hp2
  have hp := hp.text hp2
  have ht3 := hp.2.2.2.2.2.1
  obtain ⟨ha, hb⟩ := hab hg
  have hle := sRO_le (T := T) (t := t) (p := p) (a := 0) (b := 0) hpt
  refine z_pop dX6_performNext_7 rfl ?_
  refine z_aload_n 0 rfl rfl dX6_performNext_8 ?_
  refine zK6_4 hp rfl zf_X6_29 dX6_performNext_9 ?_
  refine z_bipush (nI 59) dX6_performNext_12 rfl ?_
  refine z_uV1 (ci := 3) zm_X3_skip (c_X3_skip ht3 ht (by omega) (nI 59) (by decide)) rfl zl_X6_185 rfl rfl (by decide) (hp.2.1.2.1 3 (by decide)).1 (hp.2.1.2.1 3 (by decide)).2 (by decide) (Nat.le_of_ble_eq_true rfl) dX6_performNext_14 (fun mm hp2 => ?_)
  have hp := hp.text hp2
  have hq := hp.1 0 (by decide)
  refine z_pop dX6_performNext_17 rfl ?_
  refine z_aload_n 0 rfl rfl dX6_performNext_18 ?_
  refine zK6_4 hp rfl zf_X6_29 dX6_performNext_19 ?_
  refine zG_3 hp.2.2.2.2.2.1 rfl zf_X6_189 dX6_performNext_22 ?_
  by_cases c98 : sLet T t p = nI 98
  · have hb1 := hb (by rw [c98]; decide) (by rw [c98]; decide)
    have e9 : sDoO (vs 0) (sLet T t p, (sRO T t p 0 0).2.2.1, (sRO T t p 0 0).2.2.2) = sDoBuy (vs 0) fa fb := by unfold sDoO; rw [if_pos c98, ha, hb1]
    refine z_lookup 68 dX6_performNext_25 rfl (by rw [c98] <;> rfl) rfl ?_
    refine z_aload_n 0 rfl rfl dX6_performNext_68 ?_
    refine zK6_0 hp rfl zf_X6_10 dX6_performNext_69 ?_
    refine z_aload_n 0 rfl rfl dX6_performNext_72 ?_
    refine zK6_4 hp rfl zf_X6_29 dX6_performNext_73 ?_
    refine zG_4 hp.2.2.2.2.2.1 rfl zf_X6_192 dX6_performNext_76 ?_
    refine z_aload_n 0 rfl rfl dX6_performNext_79 ?_
    refine zK6_4 hp rfl zf_X6_29 dX6_performNext_80 ?_
    refine zG_5 hp.2.2.2.2.2.1 rfl zf_X6_195 dX6_performNext_83 ?_
    refine z_uV2 (ci := 5) zm_X5_sellTo (c_X5_sellTo hq _ _ hH) rfl zl_X6_53 rfl rfl (by decide) ((hp.1 _ (by decide)).at (j := 0) (Or.inl (by decide))).1 ((hp.1 _ (by decide)).at (j := 0) (Or.inl (by decide))).2 (by decide) (Nat.le_of_ble_eq_true rfl) dX6_performNext_86 (fun mm hp2 => ?_)
    have hp := hp.step (s := 0) (by decide) hp2
    exact z_iret dX6_performNext_89 (by rw [e9]) ⟨_, _, _, by rw [e9]; exact hp⟩
  · skip
    by_cases c109 : sLet T t p = nI 109
    · have hb1 := hb (by rw [c109]; decide) (by rw [c109]; decide)
      have e9 : sDoO (vs 0) (sLet T t p, (sRO T t p 0 0).2.2.1, (sRO T t p 0 0).2.2.2) = sDoOff (vs 0) fa fb := by unfold sDoO; rw [if_neg c98, if_pos c109, ha, hb1]
      refine z_lookup 90 dX6_performNext_25 rfl (by rw [c109] <;> rfl) rfl ?_
      refine z_aload_n 0 rfl rfl dX6_performNext_90 ?_
      refine zK6_0 hp rfl zf_X6_10 dX6_performNext_91 ?_
      refine z_aload_n 0 rfl rfl dX6_performNext_94 ?_
      refine zK6_4 hp rfl zf_X6_29 dX6_performNext_95 ?_
      refine zG_4 hp.2.2.2.2.2.1 rfl zf_X6_192 dX6_performNext_98 ?_
      refine z_aload_n 0 rfl rfl dX6_performNext_101 ?_
      refine zK6_4 hp rfl zf_X6_29 dX6_performNext_102 ?_
      refine zG_5 hp.2.2.2.2.2.1 rfl zf_X6_195 dX6_performNext_105 ?_
      refine z_uV2 (ci := 5) zm_X5_resellTo (c_X5_resellTo hq _ _ hH) rfl zl_X6_56 rfl rfl (by decide) ((hp.1 _ (by decide)).at (j := 0) (Or.inl (by decide))).1 ((hp.1 _ (by decide)).at (j := 0) (Or.inl (by decide))).2 (by decide) (Nat.le_of_ble_eq_true rfl) dX6_performNext_108 (fun mm hp2 => ?_)
      have hp := hp.step (s := 0) (by decide) hp2
      exact z_iret dX6_performNext_111 (by rw [e9]) ⟨_, _, _, by rw [e9]; exact hp⟩
    · skip
      by_cases c99 : sLet T t p = nI 99
      · skip
        have e9 : sDoO (vs 0) (sLet T t p, (sRO T t p 0 0).2.2.1, (sRO T t p 0 0).2.2.2) = sDoCan (vs 0) fa := by unfold sDoO; rw [if_neg c98, if_neg c109, if_pos c99, ha]
        refine z_lookup 112 dX6_performNext_25 rfl (by rw [c99] <;> rfl) rfl ?_
        refine z_aload_n 0 rfl rfl dX6_performNext_112 ?_
        refine zK6_0 hp rfl zf_X6_10 dX6_performNext_113 ?_
        refine z_aload_n 0 rfl rfl dX6_performNext_116 ?_
        refine zK6_4 hp rfl zf_X6_29 dX6_performNext_117 ?_
        refine zG_4 hp.2.2.2.2.2.1 rfl zf_X6_192 dX6_performNext_120 ?_
        refine z_uV1 (ci := 5) zm_X5_cancelRight (c_X5_cancelRight hq _ hO hH) rfl zl_X6_59 rfl rfl (by decide) ((hp.1 _ (by decide)).at (j := 0) (Or.inl (by decide))).1 ((hp.1 _ (by decide)).at (j := 0) (Or.inl (by decide))).2 (by decide) (Nat.le_of_ble_eq_true rfl) dX6_performNext_123 (fun mm hp2 => ?_)
        have hp := hp.step (s := 0) (by decide) hp2
        exact z_iret dX6_performNext_126 (by rw [e9]) ⟨_, _, _, by rw [e9]; exact hp⟩
      · skip
        by_cases c120 : sLet T t p = nI 120
        · skip
          have e9 : sDoO (vs 0) (sLet T t p, (sRO T t p 0 0).2.2.1, (sRO T t p 0 0).2.2.2) = sDoEx (vs 0) fa := by unfold sDoO; rw [if_neg c98, if_neg c109, if_neg c99, if_pos c120, ha]
          refine z_lookup 127 dX6_performNext_25 rfl (by rw [c120] <;> rfl) rfl ?_
          refine z_aload_n 0 rfl rfl dX6_performNext_127 ?_
          refine zK6_0 hp rfl zf_X6_10 dX6_performNext_128 ?_
          refine z_aload_n 0 rfl rfl dX6_performNext_131 ?_
          refine zK6_4 hp rfl zf_X6_29 dX6_performNext_132 ?_
          refine zG_4 hp.2.2.2.2.2.1 rfl zf_X6_192 dX6_performNext_135 ?_
          refine z_uV1 (ci := 5) zm_X5_exerciseRight (c_X5_exerciseRight hq _ hH) rfl zl_X6_68 rfl rfl (by decide) ((hp.1 _ (by decide)).at (j := 0) (Or.inl (by decide))).1 ((hp.1 _ (by decide)).at (j := 0) (Or.inl (by decide))).2 (by decide) (Nat.le_of_ble_eq_true rfl) dX6_performNext_138 (fun mm hp2 => ?_)
          have hp := hp.step (s := 0) (by decide) hp2
          exact z_iret dX6_performNext_141 (by rw [e9]) ⟨_, _, _, by rw [e9]; exact hp⟩
        · skip
          have hb1 := hb c99 c120
          have e9 : sDoO (vs 0) (sLet T t p, (sRO T t p 0 0).2.2.1, (sRO T t p 0 0).2.2.2) = sDoOfr (vs 0) fa fb := by unfold sDoO; rw [if_neg c98, if_neg c109, if_neg c99, if_neg c120, ha, hb1]
          refine z_lookup 142 dX6_performNext_25 rfl ((lv_osw (k := nI 98) c98 rfl).trans ((lv_osw (k := nI 99) c99 rfl).trans ((lv_osw (k := nI 109) c109 rfl).trans (lv_osw (k := nI 120) c120 rfl)))) rfl ?_
          refine z_aload_n 0 rfl rfl dX6_performNext_142 ?_
          refine zK6_0 hp rfl zf_X6_10 dX6_performNext_143 ?_
          refine z_aload_n 0 rfl rfl dX6_performNext_146 ?_
          refine zK6_4 hp rfl zf_X6_29 dX6_performNext_147 ?_
          refine zG_4 hp.2.2.2.2.2.1 rfl zf_X6_192 dX6_performNext_150 ?_
          refine z_aload_n 0 rfl rfl dX6_performNext_153 ?_
          refine zK6_4 hp rfl zf_X6_29 dX6_performNext_154 ?_
          refine zG_5 hp.2.2.2.2.2.1 rfl zf_X6_195 dX6_performNext_157 ?_
          refine z_uV2 (ci := 5) zm_X5_offerRight (c_X5_offerRight hq _ _ hH) rfl zl_X6_62 rfl rfl (by decide) ((hp.1 _ (by decide)).at (j := 0) (Or.inl (by decide))).1 ((hp.1 _ (by decide)).at (j := 0) (Or.inl (by decide))).2 (by decide) (Nat.le_of_ble_eq_true rfl) dX6_performNext_160 (fun mm hp2 => ?_)
          have hp := hp.step (s := 0) (by decide) hp2
          exact z_iret dX6_performNext_163 (by rw [e9]) ⟨_, _, _, by rw [e9]; exact hp⟩
