set_option maxRecDepth 4000 in
theorem c_L_account {l : Launch} {G : zG} {Bs : Nat → Nat → Nat} {O : Nat → Nat} {v w : Nat → Int32} {hk : Int32} {mm : zM} (hO : O 0 ∈ zL G ∧ zsh G (O 0) = (6, 5)) (hA : zAll v) (hp : lT G Bs O v w hk mm) {g : Nat} (hg : g < 10) {x : Int32} (e : v (17 + g) = x) : zSem l G (yL_account, cL_account, 2, (some .int)) 7 [.ref (O 0), .int (nI g)] mm (some (.int x)) (lT G Bs O v w hk) := by
  refine z_met [some (.ref (O 0)), some (.int (nI g))] rfl (zc1 (by rfl)) (Nat.le_of_ble_eq_true rfl) rfl ?_
  refine z_aload_n 0 rfl rfl dL_account_0 ?_
  refine z_iload_n 1 rfl rfl dL_account_1 ?_
  refine z_iconst (nI 0) dL_account_2 rfl ?_
  refine z_uV2 (ci := 6) zm_X6_holder (q_holdW hp hA hg (by omega) rfl) rfl zl_L_9 rfl rfl (by decide) hO.1 hO.2 (by decide) (Nat.le_of_ble_eq_true rfl) dL_account_3 (fun mm hp => ?_)
  refine z_ldc zk_L_15 rfl dL_account_6 ?_
  refine z_isub dL_account_8 ?_
  exact z_iret dL_account_9 (by rw [acc_h, e]) hp
theorem Int32.sub_sub_nI {a : Int32} {b c : Nat} : a - nI b - nI c = a - nI (b + c) := by
  rw [← nI_add]
  simp only [Int32.sub_eq_add_neg, Int32.neg_add]
  ac_rfl
theorem zn5_of {v : Nat → Int32} (hA : zAll v) (d : Nat) (hd : d < nD v) : v (27 + 12 * d + 5) = nI (zn (v (27 + 12 * d + 5))) := by
  have h10 := hA.1.1.1.1.1.2
  obtain ⟨n, hn, h5, -⟩ := hA.1.1.1.1.2.2.1 d (by omega)
  rw [h5, zn_nI (by omega)]
set_option maxRecDepth 4000 in
theorem l_sums_3 {l : Launch} {G : zG} {Bs : Nat → Nat → Nat} {O : Nat → Nat} {v w : Nat → Int32} {hk : Int32} (hO : O 0 ∈ zL G ∧ zsh G (O 0) = (6, 5)) (hA : zAll v) {x1 x2 x3 x5 : Int32} (h1 : x1 = v 7 + aSum v 10) (h2 : x2 = nI (nS (fun h => sHa v h (nR v)) 10)) (h3 : x3 = nI (nS (fun h => sHe v h (nR v)) 10)) (h5 : x5 = nI (nS (fun k => sCs v (nI k) (nR v)) 6)) : ∀ i, i ≤ nD v → ∀ (x4 x6 : Int32) (mm : zM) (h6 : x6 = nI (nS (fun d => sOut v d) i)) (h4 : x4 = nI (nS (fun h => sHl v h (nD v)) 10) - nI (nS (fun d => zn (v (27 + 12 * d + 5))) i)) (hp : lT G Bs O v w hk mm), zV l G (yL_sums, cL_sums, 8, (some .boolean)) 8 (some (.int (zB true))) (lT G Bs O v w hk) 112 [some (.ref (O 0)), some (.int x1), some (.int x2), some (.int x3), some (.int x4), some (.int x5), some (.int x6), some (.int (nI i))] [] mm := by
  obtain ⟨k1, k2, k3, k4, k5, k6⟩ := sums_ok hA
  have zn5 := zn5_of hA
  have h10 := hA.1.1.1.1.1.2
  have h60 := hA.1.1.1.1.2.1.2
  refine z_loop (nD v) (fun i hi ih x4 x6 mm h6 h4 hp => ?_)
  refine z_iload 7 rfl dL_sums_112 ?_
  refine z_aload_n 0 rfl rfl dL_sums_114 ?_
  refine z_iconst (nI 1) dL_sums_115 rfl ?_
  refine z_uV1 (ci := 6) zm_X6_count (q_count hp hA (by omega) (x := nI (nD v)) hA.1.1.1.1.1.1) rfl zl_L_16 rfl rfl (by decide) hO.1 hO.2 (by decide) (Nat.le_of_ble_eq_true rfl) dL_sums_116 (fun mm hp => ?_)
  refine z_icmp_ge 154 dL_sums_119 rfl (fun c119 => ?_) (fun c119 => ?_)
  · have hi2 : i = nD v := by have := (nI_leI (by omega) (by omega)).mp c119; omega
    subst hi2
    refine z_iload_n 1 rfl rfl dL_sums_154 ?_
    refine z_if_ne 209 dL_sums_155 rfl (fun c155 => ?_) (fun c155 => ?_)
    · exact absurd (h1.trans k1) c155
    · refine z_iload 5 rfl dL_sums_158 ?_
      refine z_aload_n 0 rfl rfl dL_sums_160 ?_
      refine z_iconst (nI 2) dL_sums_161 rfl ?_
      refine z_uV1 (ci := 6) zm_X6_count (q_count hp hA (by omega) (x := nI (nR v)) hA.1.1.1.1.2.1.1) rfl zl_L_16 rfl rfl (by decide) hO.1 hO.2 (by decide) (Nat.le_of_ble_eq_true rfl) dL_sums_162 (fun mm hp => ?_)
      refine z_icmp_ne 209 dL_sums_165 rfl (fun c165 => ?_) (fun c165 => ?_)
      · exact absurd (by rw [h5, k2]) c165
      · refine z_iload_n 2 rfl rfl dL_sums_168 ?_
        refine z_aload_n 0 rfl rfl dL_sums_169 ?_
        refine z_iconst (nI 3) dL_sums_170 rfl ?_
        refine z_uV1 (ci := 6) zm_X6_count (q_count hp hA (by omega) (e_countS (k := 0) (by omega))) rfl zl_L_16 rfl rfl (by decide) hO.1 hO.2 (by decide) (Nat.le_of_ble_eq_true rfl) dL_sums_171 (fun mm hp => ?_)
        refine z_aload_n 0 rfl rfl dL_sums_174 ?_
        refine z_iconst (nI 4) dL_sums_175 rfl ?_
        refine z_uV1 (ci := 6) zm_X6_count (q_count hp hA (by omega) (e_countS (k := 1) (by omega))) rfl zl_L_16 rfl rfl (by decide) hO.1 hO.2 (by decide) (Nat.le_of_ble_eq_true rfl) dL_sums_176 (fun mm hp => ?_)
        refine z_iaddN dL_sums_179 ?_
        refine z_icmp_ne 209 dL_sums_180 rfl (fun c180 => ?_) (fun c180 => ?_)
        · exact absurd (by rw [h2, k3]) c180
        · refine z_iload_n 3 rfl rfl dL_sums_183 ?_
          refine z_aload_n 0 rfl rfl dL_sums_184 ?_
          refine z_iconst (nI 5) dL_sums_185 rfl ?_
          refine z_uV1 (ci := 6) zm_X6_count (q_count hp hA (by omega) (e_countS (k := 2) (by omega))) rfl zl_L_16 rfl rfl (by decide) hO.1 hO.2 (by decide) (Nat.le_of_ble_eq_true rfl) dL_sums_186 (fun mm hp => ?_)
          refine z_icmp_ne 209 dL_sums_189 rfl (fun c189 => ?_) (fun c189 => ?_)
          · exact absurd (by rw [h3, k4]) c189
          · refine z_iload 6 rfl dL_sums_192 ?_
            refine z_iload_n 2 rfl rfl dL_sums_194 ?_
            refine z_iload_n 3 rfl rfl dL_sums_195 ?_
            refine z_iadd dL_sums_196 ?_
            refine z_icmp_ne 209 dL_sums_197 rfl (fun c197 => ?_) (fun c197 => ?_)
            · exact absurd (by rw [h6, h2, h3, nI_add, k5]) c197
            · refine z_iload 4 rfl dL_sums_200 ?_
              refine z_if_ne 209 dL_sums_202 rfl (fun c202 => ?_) (fun c202 => ?_)
              · exact absurd (by rw [h4, k6, Int32.sub_self]) c202
              · refine z_iconst (nI 1) dL_sums_205 rfl ?_
                refine z_goto 210 dL_sums_206 rfl ?_
                exact z_zret dL_sums_210 (by first | rfl | exact zB_nar _) rfl hp
  · have hi2 : i < nD v := Nat.lt_of_not_le (fun z => c119 (nI_le z (by omega)))
    refine z_iload 6 rfl dL_sums_122 ?_
    refine z_aload_n 0 rfl rfl dL_sums_124 ?_
    refine z_iload 7 rfl dL_sums_125 ?_
    refine z_bipush (nI 6) dL_sums_127 rfl ?_
    refine z_uV2 (ci := 6) zm_X6_date (q_dateW hp hA hi2 (by omega) (x := nI (sOut v i)) rfl) rfl zl_L_26 rfl rfl (by decide) hO.1 hO.2 (by decide) (Nat.le_of_ble_eq_true rfl) dL_sums_129 (fun mm hp => ?_)
    refine z_iadd dL_sums_132 ?_
    refine z_istore 6 (Nat.le_of_ble_eq_true rfl) rfl dL_sums_133 ?_
    refine z_iload 4 rfl dL_sums_135 ?_
    refine z_aload_n 0 rfl rfl dL_sums_137 ?_
    refine z_iload 7 rfl dL_sums_138 ?_
    refine z_bipush (nI 12) dL_sums_140 rfl ?_
    refine z_uV2 (ci := 6) zm_X6_date (q_dateW hp hA hi2 (by omega) (x := nI (zn (v (27 + 12 * i + 5)))) (by show v (27 + 12 * i + 5) = _; exact zn5 i hi2)) rfl zl_L_26 rfl rfl (by decide) hO.1 hO.2 (by decide) (Nat.le_of_ble_eq_true rfl) dL_sums_142 (fun mm hp => ?_)
    refine z_isub dL_sums_145 ?_
    refine z_istore 4 (Nat.le_of_ble_eq_true rfl) rfl dL_sums_146 ?_
    refine z_iincN (n := 1) 7 rfl rfl dL_sums_148 ?_
    refine z_goto 112 dL_sums_151 rfl ?_
    exact ih (by omega) _ _ mm (by rw [h6, nI_add]; rfl) (by rw [h4, Int32.sub_sub_nI]; rfl) hp
set_option maxRecDepth 4000 in
theorem l_sums_2 {l : Launch} {G : zG} {Bs : Nat → Nat → Nat} {O : Nat → Nat} {v w : Nat → Int32} {hk : Int32} (hO : O 0 ∈ zL G ∧ zsh G (O 0) = (6, 5)) (hA : zAll v) {x1 x2 x3 x4 : Int32} (h1 : x1 = v 7 + aSum v 10) (h2 : x2 = nI (nS (fun h => sHa v h (nR v)) 10)) (h3 : x3 = nI (nS (fun h => sHe v h (nR v)) 10)) (h4 : x4 = nI (nS (fun h => sHl v h (nD v)) 10)) : ∀ i, i ≤ 6 → ∀ (x5 : Int32) (x7 : Option Value) (mm : zM) (h5 : x5 = nI (nS (fun k => sCs v (nI k) (nR v)) i)) (hp : lT G Bs O v w hk mm), zV l G (yL_sums, cL_sums, 8, (some .boolean)) 8 (some (.int (zB true))) (lT G Bs O v w hk) 80 [some (.ref (O 0)), some (.int x1), some (.int x2), some (.int x3), some (.int x4), some (.int x5), some (.int (nI i)), x7] [] mm := by
  refine z_loop 6 (fun i hi ih x5 x7 mm h5 hp => ?_)
  refine z_iload 6 rfl dL_sums_80 ?_
  refine z_bipush (nI 6) dL_sums_82 rfl ?_
  refine z_icmp_ge 106 dL_sums_84 rfl (fun c84 => ?_) (fun c84 => ?_)
  · have hi2 : i = 6 := by have := (nI_leI (by omega) (by omega)).mp c84; omega
    subst hi2
    refine z_iconst (nI 0) dL_sums_106 rfl ?_
    refine z_istore 6 (Nat.le_of_ble_eq_true rfl) rfl dL_sums_107 ?_
    refine z_iconst (nI 0) dL_sums_109 rfl ?_
    refine z_istore 7 (Nat.le_of_ble_eq_true rfl) rfl dL_sums_110 ?_
    exact l_sums_3 hO hA h1 h2 h3 h5 0 (Nat.zero_le _) _ _ mm rfl (by rw [h4]; exact (Int32.sub_zero _).symm) hp
  · have hi2 : i < 6 := Nat.lt_of_not_le (fun z => c84 (nI_le z (by omega)))
    refine z_iload 5 rfl dL_sums_87 ?_
    refine z_aload_n 0 rfl rfl dL_sums_89 ?_
    refine z_iconst (nI 3) dL_sums_90 rfl ?_
    refine z_iload 6 rfl dL_sums_91 ?_
    refine z_iaddN dL_sums_93 ?_
    refine z_uV1 (ci := 6) zm_X6_count (q_count hp hA (by omega) (e_countS hi2)) rfl zl_L_16 rfl rfl (by decide) hO.1 hO.2 (by decide) (Nat.le_of_ble_eq_true rfl) dL_sums_94 (fun mm hp => ?_)
    refine z_iadd dL_sums_97 ?_
    refine z_istore 5 (Nat.le_of_ble_eq_true rfl) rfl dL_sums_98 ?_
    refine z_iincN (n := 1) 6 rfl rfl dL_sums_100 ?_
    refine z_goto 80 dL_sums_103 rfl ?_
    exact ih (by omega) _ _ mm (by rw [h5, nI_add]; rfl) hp
set_option maxRecDepth 4000 in
theorem l_sums_1 {l : Launch} {G : zG} {Bs : Nat → Nat → Nat} {O : Nat → Nat} {v w : Nat → Int32} {hk : Int32} (hO : O 0 ∈ zL G ∧ zsh G (O 0) = (6, 5)) (hA : zAll v) : ∀ i, i ≤ 10 → ∀ (x1 x2 x3 x4 : Int32) (x6 x7 : Option Value) (mm : zM) (h1 : x1 = v 7 + aSum v i) (h2 : x2 = nI (nS (fun h => sHa v h (nR v)) i)) (h3 : x3 = nI (nS (fun h => sHe v h (nR v)) i)) (h4 : x4 = nI (nS (fun h => sHl v h (nD v)) i)) (hp : lT G Bs O v w hk mm), zV l G (yL_sums, cL_sums, 8, (some .boolean)) 8 (some (.int (zB true))) (lT G Bs O v w hk) 20 [some (.ref (O 0)), some (.int x1), some (.int x2), some (.int x3), some (.int x4), some (.int (nI i)), x6, x7] [] mm := by
  refine z_loop 10 (fun i hi ih x1 x2 x3 x4 x6 x7 mm h1 h2 h3 h4 hp => ?_)
  refine z_iload 5 rfl dL_sums_20 ?_
  refine z_bipush (nI 10) dL_sums_22 rfl ?_
  refine z_icmp_ge 74 dL_sums_24 rfl (fun c24 => ?_) (fun c24 => ?_)
  · have hi2 : i = 10 := by have := (nI_leI (by omega) (by omega)).mp c24; omega
    subst hi2
    refine z_iconst (nI 0) dL_sums_74 rfl ?_
    refine z_istore 5 (Nat.le_of_ble_eq_true rfl) rfl dL_sums_75 ?_
    refine z_iconst (nI 0) dL_sums_77 rfl ?_
    refine z_istore 6 (Nat.le_of_ble_eq_true rfl) rfl dL_sums_78 ?_
    exact l_sums_2 hO hA h1 h2 h3 h4 0 (Nat.zero_le _) _ _ mm rfl hp
  · have hi2 : i < 10 := Nat.lt_of_not_le (fun z => c24 (nI_le z (by omega)))
    refine z_iload_n 1 rfl rfl dL_sums_27 ?_
    refine z_aload_n 0 rfl rfl dL_sums_28 ?_
    refine z_iload 5 rfl dL_sums_29 ?_
    refine z_uS2 zm_L_account (c_L_account hO hA hp hi2 rfl) rfl zl_L_20 (by decide) (Nat.le_of_ble_eq_true rfl) dL_sums_31 (fun mm hp => ?_)
    refine z_iadd dL_sums_34 ?_
    refine z_istore_n 1 rfl (Nat.le_of_ble_eq_true rfl) rfl dL_sums_35 ?_
    refine z_iload_n 2 rfl rfl dL_sums_36 ?_
    refine z_aload_n 0 rfl rfl dL_sums_37 ?_
    refine z_iload 5 rfl dL_sums_38 ?_
    refine z_iconst (nI 1) dL_sums_40 rfl ?_
    refine z_uV2 (ci := 6) zm_X6_holder (q_holdW hp hA hi2 (by omega) (x := nI (sHa v i (nR v))) rfl) rfl zl_L_9 rfl rfl (by decide) hO.1 hO.2 (by decide) (Nat.le_of_ble_eq_true rfl) dL_sums_41 (fun mm hp => ?_)
    refine z_iadd dL_sums_44 ?_
    refine z_istore_n 2 rfl (Nat.le_of_ble_eq_true rfl) rfl dL_sums_45 ?_
    refine z_iload_n 3 rfl rfl dL_sums_46 ?_
    refine z_aload_n 0 rfl rfl dL_sums_47 ?_
    refine z_iload 5 rfl dL_sums_48 ?_
    refine z_iconst (nI 2) dL_sums_50 rfl ?_
    refine z_uV2 (ci := 6) zm_X6_holder (q_holdW hp hA hi2 (by omega) (x := nI (sHe v i (nR v))) rfl) rfl zl_L_9 rfl rfl (by decide) hO.1 hO.2 (by decide) (Nat.le_of_ble_eq_true rfl) dL_sums_51 (fun mm hp => ?_)
    refine z_iadd dL_sums_54 ?_
    refine z_istore_n 3 rfl (Nat.le_of_ble_eq_true rfl) rfl dL_sums_55 ?_
    refine z_iload 4 rfl dL_sums_56 ?_
    refine z_aload_n 0 rfl rfl dL_sums_58 ?_
    refine z_iload 5 rfl dL_sums_59 ?_
    refine z_iconst (nI 3) dL_sums_61 rfl ?_
    refine z_uV2 (ci := 6) zm_X6_holder (q_holdW hp hA hi2 (by omega) (x := nI (sHl v i (nD v))) rfl) rfl zl_L_9 rfl rfl (by decide) hO.1 hO.2 (by decide) (Nat.le_of_ble_eq_true rfl) dL_sums_62 (fun mm hp => ?_)
    refine z_iadd dL_sums_65 ?_
    refine z_istore 4 (Nat.le_of_ble_eq_true rfl) rfl dL_sums_66 ?_
    refine z_iincN (n := 1) 5 rfl rfl dL_sums_68 ?_
    refine z_goto 20 dL_sums_71 rfl ?_
    exact ih (by omega) _ _ _ _ _ _ mm (by rw [h1, Int32.add_assoc]; rfl) (by rw [h2, nI_add]; rfl) (by rw [h3, nI_add]; rfl) (by rw [h4, nI_add]; rfl) hp
set_option maxRecDepth 4000 in
theorem c_L_sums {l : Launch} {G : zG} {Bs : Nat → Nat → Nat} {O : Nat → Nat} {v w : Nat → Int32} {hk : Int32} {mm : zM} (hO : O 0 ∈ zL G ∧ zsh G (O 0) = (6, 5)) (hA : zAll v) (hp : lT G Bs O v w hk mm) : zSem l G (yL_sums, cL_sums, 8, (some .boolean)) 8 [.ref (O 0)] mm (some (.int (zB true))) (lT G Bs O v w hk) := by
  refine z_met [some (.ref (O 0)), none, none, none, none, none, none, none] rfl (zc1 (by rfl)) (Nat.le_of_ble_eq_true rfl) rfl ?_
  refine z_aload_n 0 rfl rfl dL_sums_0 ?_
  refine z_bipush (nI 9) dL_sums_1 rfl ?_
  refine z_uV1 (ci := 6) zm_X6_count (q_count hp hA (by omega) rfl) rfl zl_L_16 rfl rfl (by decide) hO.1 hO.2 (by decide) (Nat.le_of_ble_eq_true rfl) dL_sums_3 (fun mm hp => ?_)
  refine z_ldc zk_L_15 rfl dL_sums_6 ?_
  refine z_isub dL_sums_8 ?_
  refine z_istore_n 1 rfl (Nat.le_of_ble_eq_true rfl) rfl dL_sums_9 ?_
  refine z_iconst (nI 0) dL_sums_10 rfl ?_
  refine z_istore_n 2 rfl (Nat.le_of_ble_eq_true rfl) rfl dL_sums_11 ?_
  refine z_iconst (nI 0) dL_sums_12 rfl ?_
  refine z_istore_n 3 rfl (Nat.le_of_ble_eq_true rfl) rfl dL_sums_13 ?_
  refine z_iconst (nI 0) dL_sums_14 rfl ?_
  refine z_istore 4 (Nat.le_of_ble_eq_true rfl) rfl dL_sums_15 ?_
  refine z_iconst (nI 0) dL_sums_17 rfl ?_
  refine z_istore 5 (Nat.le_of_ble_eq_true rfl) rfl dL_sums_18 ?_
  exact l_sums_1 hO hA 0 (Nat.zero_le _) _ _ _ _ _ _ mm (by rw [acc_9]; exact (Int32.add_zero _).symm) rfl rfl rfl hp
