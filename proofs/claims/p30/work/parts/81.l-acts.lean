theorem nI_nm4 {n : Nat} (h : n < 2 ^ 31) : ¬ nI n = -4 := fun z => absurd (nI_nneg h) (by rw [z]; decide)
theorem nI_nm3 {n : Nat} (h : n < 2 ^ 31) : ¬ nI n = -3 := fun z => absurd (nI_nneg h) (by rw [z]; decide)
theorem kp.set {v : Nat → Int32} (x y : Int32) : kp v (sSet v x y).2.1 := by
  unfold sSet
  split
  · rename_i c
    obtain ⟨k, hk, rfl⟩ := zIn_nI (by omega) c
    rw [zn_nI (by omega)]
    split
    · split
      · exact kp.rf v
      · exact ⟨upd_ne (by omega), upd_ne (by omega)⟩
    · exact kp.rf v
  · exact kp.rf v
theorem kp.st {v : Nat → Int32} (x y z : Int32) : kp v (sSt v x y z).2.1 := by
  unfold sSt
  split
  · rename_i c
    obtain ⟨k, hk, rfl⟩ := zIn_nI (by omega) c
    rw [zn_nI (by omega)]
    split
    · split
      · exact kp.rf v
      · show kp v (upd (upd v (9 + 2 * k) y) (9 + 2 * k + 1) z)
        exact ⟨by rw [upd_ne (by omega), upd_ne (by omega)], by rw [upd_ne (by omega), upd_ne (by omega)]⟩
    · exact kp.rf v
  · exact kp.rf v
set_option maxRecDepth 4000 in
set_option maxHeartbeats 4000000 in
theorem l_acts_BN {l : Launch} {G : zG} {Bs : Nat → Nat → Nat} {O : Nat → Nat} {v w : Nat → Int32} {hk : Int32} (hO : O 0 ∈ zL G ∧ zsh G (O 0) = (6, 5)) (hA : zAll v) {Y Z d h : Nat} (hZ : Z < 2 ^ 31) (hd : d < nD v) (hh : h < 10) {c : Int32} (e9 : sDateW v d 9 = c) (e5 : sDateW v d 5 = nI 0) (ec : sDoBuy v (nI h) (nI d) = (-4, v)) (mm : zM) (hp : lT G Bs O v w hk mm) : zV l G (yL_acts, cL_acts, 17, (some .boolean)) 9 (some (.int (zB true))) (lT G Bs O (v) w hk) 76 [some (.ref (O 0)), some (.int (nI Y)), some (.int (nI Z)), some (.int (nI d)), some (.int (nI h)), some (.int (v (17 + h))), none, none, none, none, none, none, none, none, none, none, none] [] mm := by
  refine z_aload_n 0 rfl rfl dL_acts_76 ?_
  refine z_iload_n 3 rfl rfl dL_acts_77 ?_
  refine z_bipush (nI 9) dL_acts_78 rfl ?_
  refine z_uV2 (ci := 6) zm_X6_date (q_dateW hp hA hd (by omega) e9) rfl zl_L_26 rfl rfl (by decide) hO.1 hO.2 (by decide) (Nat.le_of_ble_eq_true rfl) dL_acts_80 (fun mm hp => ?_)
  refine z_istore 6 (Nat.le_of_ble_eq_true rfl) rfl dL_acts_83 ?_
  refine z_aload_n 0 rfl rfl dL_acts_85 ?_
  refine z_iload_n 3 rfl rfl dL_acts_86 ?_
  refine z_bipush (nI 10) dL_acts_87 rfl ?_
  refine z_uV2 (ci := 6) zm_X6_date (q_dateW hp hA hd (by omega) rfl) rfl zl_L_26 rfl rfl (by decide) hO.1 hO.2 (by decide) (Nat.le_of_ble_eq_true rfl) dL_acts_89 (fun mm hp => ?_)
  refine z_istore 7 (Nat.le_of_ble_eq_true rfl) rfl dL_acts_92 ?_
  refine z_aload_n 0 rfl rfl dL_acts_94 ?_
  refine z_iconst (nI 2) dL_acts_95 rfl ?_
  refine z_uV1 (ci := 6) zm_X6_count (q_count hp hA (by omega) (x := nI (nR v)) hA.1.1.1.1.2.1.1) rfl zl_L_16 rfl rfl (by decide) hO.1 hO.2 (by decide) (Nat.le_of_ble_eq_true rfl) dL_acts_96 (fun mm hp => ?_)
  refine z_istore 8 (Nat.le_of_ble_eq_true rfl) rfl dL_acts_99 ?_
  refine z_aload_n 0 rfl rfl dL_acts_101 ?_
  refine z_iload 4 rfl dL_acts_102 ?_
  refine z_iload_n 3 rfl rfl dL_acts_104 ?_
  refine z_uV2 (ci := 6) zm_X6_buy (q_buy hp hA ec) rfl zl_L_59 rfl rfl (by decide) hO.1 hO.2 (by decide) (Nat.le_of_ble_eq_true rfl) dL_acts_105 (fun mm hp => ?_)
  refine z_istore 9 (Nat.le_of_ble_eq_true rfl) rfl dL_acts_108 ?_
  refine z_aload_n 0 rfl rfl dL_acts_110 ?_
  refine z_iload_n 3 rfl rfl dL_acts_111 ?_
  refine z_iconst (nI 5) dL_acts_112 rfl ?_
  refine z_uV2 (ci := 6) zm_X6_date (q_dateW hp hA hd (by omega) e5) rfl zl_L_26 rfl rfl (by decide) hO.1 hO.2 (by decide) (Nat.le_of_ble_eq_true rfl) dL_acts_113 (fun mm hp => ?_)
  refine z_if_ne 134 dL_acts_116 rfl (fun c116 => ?_) (fun c116 => ?_)
  · exact absurd c116 (by decide)
  · refine z_iload 9 rfl dL_acts_119 ?_
    refine z_bipush (-4) dL_acts_121 (by decide) ?_
    refine z_icmp_ne 130 dL_acts_123 rfl (fun c123 => ?_) (fun c123 => ?_)
    · exact absurd c123 (by decide)
    · refine z_iconst (nI 1) dL_acts_126 rfl ?_
      refine z_goto 218 dL_acts_127 rfl ?_
      exact z_zret dL_acts_218 (by first | rfl | exact zB_nar _) rfl hp
set_option maxRecDepth 4000 in
set_option maxHeartbeats 4000000 in
theorem l_acts_BF {l : Launch} {G : zG} {Bs : Nat → Nat → Nat} {O : Nat → Nat} {v w : Nat → Int32} {hk : Int32} (hO : O 0 ∈ zL G ∧ zsh G (O 0) = (6, 5)) (hA : zAll v) {Y Z d h : Nat} (hZ : Z < 2 ^ 31) (hd : d < nD v) (hh : h < 10) {c : Int32} {L : Nat} (e9 : sDateW v d 9 = c) (hL0 : 0 < L) (hL : L ≤ 999) (e5 : sDateW v d 5 = nI L) (e10 : sDateW v d 10 = nI 0) (ec : sDoBuy v (nI h) (nI d) = (-3, v)) (mm : zM) (hp : lT G Bs O v w hk mm) : zV l G (yL_acts, cL_acts, 17, (some .boolean)) 9 (some (.int (zB true))) (lT G Bs O (v) w hk) 76 [some (.ref (O 0)), some (.int (nI Y)), some (.int (nI Z)), some (.int (nI d)), some (.int (nI h)), some (.int (v (17 + h))), none, none, none, none, none, none, none, none, none, none, none] [] mm := by
  refine z_aload_n 0 rfl rfl dL_acts_76 ?_
  refine z_iload_n 3 rfl rfl dL_acts_77 ?_
  refine z_bipush (nI 9) dL_acts_78 rfl ?_
  refine z_uV2 (ci := 6) zm_X6_date (q_dateW hp hA hd (by omega) e9) rfl zl_L_26 rfl rfl (by decide) hO.1 hO.2 (by decide) (Nat.le_of_ble_eq_true rfl) dL_acts_80 (fun mm hp => ?_)
  refine z_istore 6 (Nat.le_of_ble_eq_true rfl) rfl dL_acts_83 ?_
  refine z_aload_n 0 rfl rfl dL_acts_85 ?_
  refine z_iload_n 3 rfl rfl dL_acts_86 ?_
  refine z_bipush (nI 10) dL_acts_87 rfl ?_
  refine z_uV2 (ci := 6) zm_X6_date (q_dateW hp hA hd (by omega) e10) rfl zl_L_26 rfl rfl (by decide) hO.1 hO.2 (by decide) (Nat.le_of_ble_eq_true rfl) dL_acts_89 (fun mm hp => ?_)
  refine z_istore 7 (Nat.le_of_ble_eq_true rfl) rfl dL_acts_92 ?_
  refine z_aload_n 0 rfl rfl dL_acts_94 ?_
  refine z_iconst (nI 2) dL_acts_95 rfl ?_
  refine z_uV1 (ci := 6) zm_X6_count (q_count hp hA (by omega) (x := nI (nR v)) hA.1.1.1.1.2.1.1) rfl zl_L_16 rfl rfl (by decide) hO.1 hO.2 (by decide) (Nat.le_of_ble_eq_true rfl) dL_acts_96 (fun mm hp => ?_)
  refine z_istore 8 (Nat.le_of_ble_eq_true rfl) rfl dL_acts_99 ?_
  refine z_aload_n 0 rfl rfl dL_acts_101 ?_
  refine z_iload 4 rfl dL_acts_102 ?_
  refine z_iload_n 3 rfl rfl dL_acts_104 ?_
  refine z_uV2 (ci := 6) zm_X6_buy (q_buy hp hA ec) rfl zl_L_59 rfl rfl (by decide) hO.1 hO.2 (by decide) (Nat.le_of_ble_eq_true rfl) dL_acts_105 (fun mm hp => ?_)
  refine z_istore 9 (Nat.le_of_ble_eq_true rfl) rfl dL_acts_108 ?_
  refine z_aload_n 0 rfl rfl dL_acts_110 ?_
  refine z_iload_n 3 rfl rfl dL_acts_111 ?_
  refine z_iconst (nI 5) dL_acts_112 rfl ?_
  refine z_uV2 (ci := 6) zm_X6_date (q_dateW hp hA hd (by omega) e5) rfl zl_L_26 rfl rfl (by decide) hO.1 hO.2 (by decide) (Nat.le_of_ble_eq_true rfl) dL_acts_113 (fun mm hp => ?_)
  refine z_if_ne 134 dL_acts_116 rfl (fun c116 => ?_) (fun c116 => ?_)
  · refine z_iload 7 rfl dL_acts_134 ?_
    refine z_if_ne 154 dL_acts_136 rfl (fun c136 => ?_) (fun c136 => ?_)
    · exact absurd c136 (by decide)
    · refine z_iload 9 rfl dL_acts_139 ?_
      refine z_bipush (-3) dL_acts_141 (by decide) ?_
      refine z_icmp_ne 150 dL_acts_143 rfl (fun c143 => ?_) (fun c143 => ?_)
      · exact absurd c143 (by decide)
      · refine z_iconst (nI 1) dL_acts_146 rfl ?_
        refine z_goto 218 dL_acts_147 rfl ?_
        exact z_zret dL_acts_218 (by first | rfl | exact zB_nar _) rfl hp
  · exact absurd c116 (nI_ne0 hL0 (by omega))
set_option maxRecDepth 4000 in
set_option maxHeartbeats 4000000 in
theorem l_acts_BC {l : Launch} {G : zG} {Bs : Nat → Nat → Nat} {O : Nat → Nat} {v u w : Nat → Int32} {hk : Int32} (hO : O 0 ∈ zL G ∧ zsh G (O 0) = (6, 5)) (hA : zAll v) {Y Z d h : Nat} (hZ : Z < 2 ^ 31) (hd : d < nD v) (hh : h < 10) {c x : Int32} {L : Nat} (e9 : sDateW v d 9 = c) (hL0 : 0 < L) (hL : L ≤ 999) (e10 : sDateW v d 10 = x) (hx : ¬ x = 0) (hB : zAll u) (hdu : d < nD u) (hru : nR v < nR u) (e5 : sDateW u d 5 = nI L) (ec : sDoBuy v (nI h) (nI d) = (nI (nR v), u)) (f2 : u (147 + 7 * nR v + 2) = c) (f5 : u (147 + 7 * nR v + 5) = v 0) (f0 : u 0 = v 0) (fa : u (17 + h) = v (17 + h) - c) (fe : sEv u (nI 0) (nI 2) = c) (mm : zM) (hp : lT G Bs O v w hk mm) : zV l G (yL_acts, cL_acts, 17, (some .boolean)) 9 (some (.int (zB true))) (lT G Bs O (u) w hk) 76 [some (.ref (O 0)), some (.int (nI Y)), some (.int (nI Z)), some (.int (nI d)), some (.int (nI h)), some (.int (v (17 + h))), none, none, none, none, none, none, none, none, none, none, none] [] mm := by
  refine z_aload_n 0 rfl rfl dL_acts_76 ?_
  refine z_iload_n 3 rfl rfl dL_acts_77 ?_
  refine z_bipush (nI 9) dL_acts_78 rfl ?_
  refine z_uV2 (ci := 6) zm_X6_date (q_dateW hp hA hd (by omega) e9) rfl zl_L_26 rfl rfl (by decide) hO.1 hO.2 (by decide) (Nat.le_of_ble_eq_true rfl) dL_acts_80 (fun mm hp => ?_)
  refine z_istore 6 (Nat.le_of_ble_eq_true rfl) rfl dL_acts_83 ?_
  refine z_aload_n 0 rfl rfl dL_acts_85 ?_
  refine z_iload_n 3 rfl rfl dL_acts_86 ?_
  refine z_bipush (nI 10) dL_acts_87 rfl ?_
  refine z_uV2 (ci := 6) zm_X6_date (q_dateW hp hA hd (by omega) e10) rfl zl_L_26 rfl rfl (by decide) hO.1 hO.2 (by decide) (Nat.le_of_ble_eq_true rfl) dL_acts_89 (fun mm hp => ?_)
  refine z_istore 7 (Nat.le_of_ble_eq_true rfl) rfl dL_acts_92 ?_
  refine z_aload_n 0 rfl rfl dL_acts_94 ?_
  refine z_iconst (nI 2) dL_acts_95 rfl ?_
  refine z_uV1 (ci := 6) zm_X6_count (q_count hp hA (by omega) (x := nI (nR v)) hA.1.1.1.1.2.1.1) rfl zl_L_16 rfl rfl (by decide) hO.1 hO.2 (by decide) (Nat.le_of_ble_eq_true rfl) dL_acts_96 (fun mm hp => ?_)
  refine z_istore 8 (Nat.le_of_ble_eq_true rfl) rfl dL_acts_99 ?_
  refine z_aload_n 0 rfl rfl dL_acts_101 ?_
  refine z_iload 4 rfl dL_acts_102 ?_
  refine z_iload_n 3 rfl rfl dL_acts_104 ?_
  refine z_uV2 (ci := 6) zm_X6_buy (q_buy hp hA ec) rfl zl_L_59 rfl rfl (by decide) hO.1 hO.2 (by decide) (Nat.le_of_ble_eq_true rfl) dL_acts_105 (fun mm hp => ?_)
  refine z_istore 9 (Nat.le_of_ble_eq_true rfl) rfl dL_acts_108 ?_
  refine z_aload_n 0 rfl rfl dL_acts_110 ?_
  refine z_iload_n 3 rfl rfl dL_acts_111 ?_
  refine z_iconst (nI 5) dL_acts_112 rfl ?_
  refine z_uV2 (ci := 6) zm_X6_date (q_dateW hp hB hdu (by omega) e5) rfl zl_L_26 rfl rfl (by decide) hO.1 hO.2 (by decide) (Nat.le_of_ble_eq_true rfl) dL_acts_113 (fun mm hp => ?_)
  refine z_if_ne 134 dL_acts_116 rfl (fun c116 => ?_) (fun c116 => ?_)
  · refine z_iload 7 rfl dL_acts_134 ?_
    refine z_if_ne 154 dL_acts_136 rfl (fun c136 => ?_) (fun c136 => ?_)
    · refine z_iload 9 rfl dL_acts_154 ?_
      refine z_iload 8 rfl dL_acts_156 ?_
      refine z_icmp_ne 217 dL_acts_158 rfl (fun c158 => ?_) (fun c158 => ?_)
      · exact absurd rfl c158
      · refine z_aload_n 0 rfl rfl dL_acts_161 ?_
        refine z_iload 8 rfl dL_acts_162 ?_
        refine z_iconst (nI 2) dL_acts_164 rfl ?_
        refine z_uV2 (ci := 6) zm_X6_right (q_rightW hp hB hru (by omega) f2) rfl zl_L_29 rfl rfl (by decide) hO.1 hO.2 (by decide) (Nat.le_of_ble_eq_true rfl) dL_acts_165 (fun mm hp => ?_)
        refine z_iload 6 rfl dL_acts_168 ?_
        refine z_icmp_ne 217 dL_acts_170 rfl (fun c170 => ?_) (fun c170 => ?_)
        · exact absurd rfl c170
        · refine z_aload_n 0 rfl rfl dL_acts_173 ?_
          refine z_iload 4 rfl dL_acts_174 ?_
          refine z_uS2 zm_L_account (c_L_account hO hB hp hh fa) rfl zl_L_20 (by decide) (Nat.le_of_ble_eq_true rfl) dL_acts_176 (fun mm hp => ?_)
          refine z_iload 5 rfl dL_acts_179 ?_
          refine z_iload 6 rfl dL_acts_181 ?_
          refine z_isub dL_acts_183 ?_
          refine z_icmp_ne 217 dL_acts_184 rfl (fun c184 => ?_) (fun c184 => ?_)
          · exact absurd rfl c184
          · refine z_aload_n 0 rfl rfl dL_acts_187 ?_
            refine z_iload 8 rfl dL_acts_188 ?_
            refine z_iconst (nI 5) dL_acts_190 rfl ?_
            refine z_uV2 (ci := 6) zm_X6_right (q_rightW hp hB hru (by omega) f5) rfl zl_L_29 rfl rfl (by decide) hO.1 hO.2 (by decide) (Nat.le_of_ble_eq_true rfl) dL_acts_191 (fun mm hp => ?_)
            refine z_aload_n 0 rfl rfl dL_acts_194 ?_
            refine z_iconst (nI 0) dL_acts_195 rfl ?_
            refine z_uV1 (ci := 6) zm_X6_count (q_count hp hB (by omega) (x := v 0) f0) rfl zl_L_16 rfl rfl (by decide) hO.1 hO.2 (by decide) (Nat.le_of_ble_eq_true rfl) dL_acts_196 (fun mm hp => ?_)
            refine z_icmp_ne 217 dL_acts_199 rfl (fun c199 => ?_) (fun c199 => ?_)
            · exact absurd rfl c199
            · refine z_aload_n 0 rfl rfl dL_acts_202 ?_
              refine z_iconst (nI 0) dL_acts_203 rfl ?_
              refine z_iconst (nI 2) dL_acts_204 rfl ?_
              refine z_uV2 (ci := 6) zm_X6_event (q_event hp hB fe) rfl zl_L_47 rfl rfl (by decide) hO.1 hO.2 (by decide) (Nat.le_of_ble_eq_true rfl) dL_acts_205 (fun mm hp => ?_)
              refine z_iload 6 rfl dL_acts_208 ?_
              refine z_icmp_ne 217 dL_acts_210 rfl (fun c210 => ?_) (fun c210 => ?_)
              · exact absurd rfl c210
              · refine z_iconst (nI 1) dL_acts_213 rfl ?_
                refine z_goto 218 dL_acts_214 rfl ?_
                exact z_zret dL_acts_218 (by first | rfl | exact zB_nar _) rfl hp
    · exact absurd c136 hx
  · exact absurd c116 (nI_ne0 hL0 (by omega))
set_option maxRecDepth 4000 in
set_option maxHeartbeats 4000000 in
theorem l_acts_ON {l : Launch} {G : zG} {Bs : Nat → Nat → Nat} {O : Nat → Nat} {v w : Nat → Int32} {hk : Int32} (hO : O 0 ∈ zL G ∧ zsh G (O 0) = (6, 5)) (hA : zAll v) {Y Z d h : Nat} (hZ : Z < 2 ^ 31) (hd : d < nD v) (hh : h < 10) {a : Int32} (e13 : sDateW v d 13 = a) (ec : sDoOff v (nI h) (nI d) = (-4, v)) (mm : zM) (hp : lT G Bs O v w hk mm) : zV l G (yL_acts, cL_acts, 17, (some .boolean)) 9 (some (.int (zB true))) (lT G Bs O (v) w hk) 219 [some (.ref (O 0)), some (.int (nI Y)), some (.int (nI Z)), some (.int (nI d)), some (.int (nI h)), some (.int (v (17 + h))), none, none, none, none, none, none, none, none, none, none, none] [] mm := by
  refine z_aload_n 0 rfl rfl dL_acts_219 ?_
  refine z_iload_n 3 rfl rfl dL_acts_220 ?_
  refine z_bipush (nI 13) dL_acts_221 rfl ?_
  refine z_uV2 (ci := 6) zm_X6_date (q_dateW hp hA hd (by omega) e13) rfl zl_L_26 rfl rfl (by decide) hO.1 hO.2 (by decide) (Nat.le_of_ble_eq_true rfl) dL_acts_223 (fun mm hp => ?_)
  refine z_istore 10 (Nat.le_of_ble_eq_true rfl) rfl dL_acts_226 ?_
  refine z_aload_n 0 rfl rfl dL_acts_228 ?_
  refine z_bipush (nI 9) dL_acts_229 rfl ?_
  refine z_uV1 (ci := 6) zm_X6_count (q_count hp hA (by omega) rfl) rfl zl_L_16 rfl rfl (by decide) hO.1 hO.2 (by decide) (Nat.le_of_ble_eq_true rfl) dL_acts_231 (fun mm hp => ?_)
  refine z_istore 11 (Nat.le_of_ble_eq_true rfl) rfl dL_acts_234 ?_
  refine z_aload_n 0 rfl rfl dL_acts_236 ?_
  refine z_iload 4 rfl dL_acts_237 ?_
  refine z_iload_n 3 rfl rfl dL_acts_239 ?_
  refine z_uV2 (ci := 6) zm_X6_buyOffered (q_buyOffered hp hA ec) rfl zl_L_62 rfl rfl (by decide) hO.1 hO.2 (by decide) (Nat.le_of_ble_eq_true rfl) dL_acts_240 (fun mm hp => ?_)
  refine z_istore 12 (Nat.le_of_ble_eq_true rfl) rfl dL_acts_243 ?_
  refine z_iload 12 rfl dL_acts_245 ?_
  refine z_bipush (-4) dL_acts_247 (by decide) ?_
  refine z_icmp_ne 272 dL_acts_249 rfl (fun c249 => ?_) (fun c249 => ?_)
  · exact absurd c249 (by decide)
  · refine z_aload_n 0 rfl rfl dL_acts_252 ?_
    refine z_iload_n 3 rfl rfl dL_acts_253 ?_
    refine z_bipush (nI 13) dL_acts_254 rfl ?_
    refine z_uV2 (ci := 6) zm_X6_date (q_dateW hp hA hd (by omega) e13) rfl zl_L_26 rfl rfl (by decide) hO.1 hO.2 (by decide) (Nat.le_of_ble_eq_true rfl) dL_acts_256 (fun mm hp => ?_)
    refine z_iload 10 rfl dL_acts_259 ?_
    refine z_icmp_ne 268 dL_acts_261 rfl (fun c261 => ?_) (fun c261 => ?_)
    · exact absurd rfl c261
    · refine z_iconst (nI 1) dL_acts_264 rfl ?_
      refine z_goto 342 dL_acts_265 rfl ?_
      exact z_zret dL_acts_342 (by first | rfl | exact zB_nar _) rfl hp
set_option maxRecDepth 4000 in
set_option maxHeartbeats 4000000 in
theorem l_acts_OC {l : Launch} {G : zG} {Bs : Nat → Nat → Nat} {O : Nat → Nat} {v u w : Nat → Int32} {hk : Int32} (hO : O 0 ∈ zL G ∧ zsh G (O 0) = (6, 5)) (hA : zAll v) {Y Z d h : Nat} (hZ : Z < 2 ^ 31) (hd : d < nD v) (hh : h < 10) {A r : Nat} {pv : Int32} (hA1 : 1 ≤ A) (hA2 : A ≤ 19998) (hr : r < 60) (e13 : sDateW v d 13 = nI A) (epv : sCountW v (fun _ _ => 0) 9 = pv) (hB : zAll u) (hru : r < nR u) (ec : sDoOff v (nI h) (nI d) = (nI r, u)) (f1 : u (147 + 7 * r + 1) = nI h) (f3 : u (147 + 7 * r + 3) = nI 0) (fa : u (17 + h) = v (17 + h) - nI A) (f4 : u 4 = v 4) (f9 : sCountW u (fun _ _ => 0) 9 = pv + nI A * v 4 / nI 100) (mm : zM) (hp : lT G Bs O v w hk mm) : zV l G (yL_acts, cL_acts, 17, (some .boolean)) 9 (some (.int (zB true))) (lT G Bs O (u) w hk) 219 [some (.ref (O 0)), some (.int (nI Y)), some (.int (nI Z)), some (.int (nI d)), some (.int (nI h)), some (.int (v (17 + h))), none, none, none, none, none, none, none, none, none, none, none] [] mm := by
  refine z_aload_n 0 rfl rfl dL_acts_219 ?_
  refine z_iload_n 3 rfl rfl dL_acts_220 ?_
  refine z_bipush (nI 13) dL_acts_221 rfl ?_
  refine z_uV2 (ci := 6) zm_X6_date (q_dateW hp hA hd (by omega) e13) rfl zl_L_26 rfl rfl (by decide) hO.1 hO.2 (by decide) (Nat.le_of_ble_eq_true rfl) dL_acts_223 (fun mm hp => ?_)
  refine z_istore 10 (Nat.le_of_ble_eq_true rfl) rfl dL_acts_226 ?_
  refine z_aload_n 0 rfl rfl dL_acts_228 ?_
  refine z_bipush (nI 9) dL_acts_229 rfl ?_
  refine z_uV1 (ci := 6) zm_X6_count (q_count hp hA (by omega) epv) rfl zl_L_16 rfl rfl (by decide) hO.1 hO.2 (by decide) (Nat.le_of_ble_eq_true rfl) dL_acts_231 (fun mm hp => ?_)
  refine z_istore 11 (Nat.le_of_ble_eq_true rfl) rfl dL_acts_234 ?_
  refine z_aload_n 0 rfl rfl dL_acts_236 ?_
  refine z_iload 4 rfl dL_acts_237 ?_
  refine z_iload_n 3 rfl rfl dL_acts_239 ?_
  refine z_uV2 (ci := 6) zm_X6_buyOffered (q_buyOffered hp hA ec) rfl zl_L_62 rfl rfl (by decide) hO.1 hO.2 (by decide) (Nat.le_of_ble_eq_true rfl) dL_acts_240 (fun mm hp => ?_)
  refine z_istore 12 (Nat.le_of_ble_eq_true rfl) rfl dL_acts_243 ?_
  refine z_iload 12 rfl dL_acts_245 ?_
  refine z_bipush (-4) dL_acts_247 (by decide) ?_
  refine z_icmp_ne 272 dL_acts_249 rfl (fun c249 => ?_) (fun c249 => ?_)
  · refine z_iload 10 rfl dL_acts_272 ?_
    refine z_if_le 341 dL_acts_274 rfl (fun c274 => ?_) (fun c274 => ?_)
    · exact absurd c274 (nI_nle (by omega) (by omega))
    · refine z_aload_n 0 rfl rfl dL_acts_277 ?_
      refine z_iload 12 rfl dL_acts_278 ?_
      refine z_iconst (nI 1) dL_acts_280 rfl ?_
      refine z_uV2 (ci := 6) zm_X6_right (q_rightW hp hB hru (by omega) f1) rfl zl_L_29 rfl rfl (by decide) hO.1 hO.2 (by decide) (Nat.le_of_ble_eq_true rfl) dL_acts_281 (fun mm hp => ?_)
      refine z_iload 4 rfl dL_acts_284 ?_
      refine z_icmp_ne 341 dL_acts_286 rfl (fun c286 => ?_) (fun c286 => ?_)
      · exact absurd rfl c286
      · refine z_aload_n 0 rfl rfl dL_acts_289 ?_
        refine z_iload 4 rfl dL_acts_290 ?_
        refine z_uS2 zm_L_account (c_L_account hO hB hp hh fa) rfl zl_L_20 (by decide) (Nat.le_of_ble_eq_true rfl) dL_acts_292 (fun mm hp => ?_)
        refine z_iload 5 rfl dL_acts_295 ?_
        refine z_iload 10 rfl dL_acts_297 ?_
        refine z_isub dL_acts_299 ?_
        refine z_icmp_ne 341 dL_acts_300 rfl (fun c300 => ?_) (fun c300 => ?_)
        · exact absurd rfl c300
        · refine z_aload_n 0 rfl rfl dL_acts_303 ?_
          refine z_bipush (nI 9) dL_acts_304 rfl ?_
          refine z_uV1 (ci := 6) zm_X6_count (q_count hp hB (by omega) f9) rfl zl_L_16 rfl rfl (by decide) hO.1 hO.2 (by decide) (Nat.le_of_ble_eq_true rfl) dL_acts_306 (fun mm hp => ?_)
          refine z_iload 11 rfl dL_acts_309 ?_
          refine z_iload 10 rfl dL_acts_311 ?_
          refine z_aload_n 0 rfl rfl dL_acts_313 ?_
          refine z_bipush (nI 11) dL_acts_314 rfl ?_
          refine z_uV1 (ci := 6) zm_X6_count (q_count hp hB (by omega) (x := v 4) f4) rfl zl_L_16 rfl rfl (by decide) hO.1 hO.2 (by decide) (Nat.le_of_ble_eq_true rfl) dL_acts_316 (fun mm hp => ?_)
          refine z_imul dL_acts_319 ?_
          refine z_bipush (nI 100) dL_acts_320 rfl ?_
          refine z_idiv dL_acts_322 (by decide) ?_
          refine z_iadd dL_acts_323 ?_
          refine z_icmp_ne 341 dL_acts_324 rfl (fun c324 => ?_) (fun c324 => ?_)
          · exact absurd rfl c324
          · refine z_aload_n 0 rfl rfl dL_acts_327 ?_
            refine z_iload 12 rfl dL_acts_328 ?_
            refine z_iconst (nI 3) dL_acts_330 rfl ?_
            refine z_uV2 (ci := 6) zm_X6_right (q_rightW hp hB hru (by omega) f3) rfl zl_L_29 rfl rfl (by decide) hO.1 hO.2 (by decide) (Nat.le_of_ble_eq_true rfl) dL_acts_331 (fun mm hp => ?_)
            refine z_if_ne 341 dL_acts_334 rfl (fun c334 => ?_) (fun c334 => ?_)
            · exact absurd c334 (by decide)
            · refine z_iconst (nI 1) dL_acts_337 rfl ?_
              refine z_goto 342 dL_acts_338 rfl ?_
              exact z_zret dL_acts_342 (by first | rfl | exact zB_nar _) rfl hp
  · exact absurd c249 (nI_nm4 (by omega))
set_option maxRecDepth 4000 in
set_option maxHeartbeats 4000000 in
theorem l_acts_DD {l : Launch} {G : zG} {Bs : Nat → Nat → Nat} {O : Nat → Nat} {v u w : Nat → Int32} {hk : Int32} (hO : O 0 ∈ zL G ∧ zsh G (O 0) = (6, 5)) (hA : zAll v) {Y Z d h : Nat} (hZ : Z < 2 ^ 31) (hd : d < nD v) (hh : h < 10) (hK : ∀ mm, lT G Bs O v w hk mm → zSem l G (yL_deed, cL_deed, 16, (some .boolean)) 8 [.ref (O 0), .int (nI (Z / 2))] mm (some (.int (zB true))) (lT G Bs O u w hk)) (mm : zM) (hp : lT G Bs O v w hk mm) : zV l G (yL_acts, cL_acts, 17, (some .boolean)) 9 (some (.int (zB true))) (lT G Bs O (u) w hk) 343 [some (.ref (O 0)), some (.int (nI Y)), some (.int (nI Z)), some (.int (nI d)), some (.int (nI h)), some (.int (v (17 + h))), none, none, none, none, none, none, none, none, none, none, none] [] mm := by
  refine z_aload_n 0 rfl rfl dL_acts_343 ?_
  refine z_iload_n 2 rfl rfl dL_acts_344 ?_
  refine z_iconst (nI 1) dL_acts_345 rfl ?_
  refine z_ishrN 2 (by decide) dL_acts_346 (by omega) (by decide) ?_
  refine z_uS2 zm_L_deed (hK _ hp) rfl zl_L_65 (by decide) (Nat.le_of_ble_eq_true rfl) dL_acts_347 (fun mm hp => ?_)
  exact z_zret dL_acts_350 (by first | rfl | exact zB_nar _) rfl hp
set_option maxRecDepth 4000 in
set_option maxHeartbeats 4000000 in
theorem l_acts_AN {l : Launch} {G : zG} {Bs : Nat → Nat → Nat} {O : Nat → Nat} {v w : Nat → Int32} {hk : Int32} (hO : O 0 ∈ zL G ∧ zsh G (O 0) = (6, 5)) (hA : zAll v) {Y Z d h : Nat} (hZ : Z < 2 ^ 31) (hd : d < nD v) (hh : h < 10) {N : Nat} (hN : N ≤ 6) (e12 : sDateW v d 12 = nI N) (ec : sAw v (nI h) (nI d) = (-4, v, false)) (mm : zM) (hp : lT G Bs O v w hk mm) : zV l G (yL_acts, cL_acts, 17, (some .boolean)) 9 (some (.int (zB true))) (lT G Bs O (v) w hk) 351 [some (.ref (O 0)), some (.int (nI Y)), some (.int (nI Z)), some (.int (nI d)), some (.int (nI h)), some (.int (v (17 + h))), none, none, none, none, none, none, none, none, none, none, none] [] mm := by
  refine z_aload_n 0 rfl rfl dL_acts_351 ?_
  refine z_iload_n 3 rfl rfl dL_acts_352 ?_
  refine z_bipush (nI 12) dL_acts_353 rfl ?_
  refine z_uV2 (ci := 6) zm_X6_date (q_dateW hp hA hd (by omega) e12) rfl zl_L_26 rfl rfl (by decide) hO.1 hO.2 (by decide) (Nat.le_of_ble_eq_true rfl) dL_acts_355 (fun mm hp => ?_)
  refine z_istore 13 (Nat.le_of_ble_eq_true rfl) rfl dL_acts_358 ?_
  refine z_aload_n 0 rfl rfl dL_acts_360 ?_
  refine z_iload 4 rfl dL_acts_361 ?_
  refine z_iload_n 3 rfl rfl dL_acts_363 ?_
  refine z_uV2 (ci := 6) zm_X6_await (q_await hp hA ec) rfl zl_L_69 rfl rfl (by decide) hO.1 hO.2 (by decide) (Nat.le_of_ble_eq_true rfl) dL_acts_364 (fun mm hp => ?_)
  refine z_istore 14 (Nat.le_of_ble_eq_true rfl) rfl dL_acts_367 ?_
  refine z_iload 14 rfl dL_acts_369 ?_
  refine z_bipush (-4) dL_acts_371 (by decide) ?_
  refine z_icmp_eq 444 dL_acts_373 rfl (fun c373 => ?_) (fun c373 => ?_)
  · refine z_iconst (nI 1) dL_acts_444 rfl ?_
    refine z_goto 449 dL_acts_445 rfl ?_
    exact z_zret dL_acts_449 (by first | rfl | exact zB_nar _) rfl hp
  · exact absurd c373 (by decide)
set_option maxRecDepth 4000 in
set_option maxHeartbeats 4000000 in
theorem l_acts_AF {l : Launch} {G : zG} {Bs : Nat → Nat → Nat} {O : Nat → Nat} {v w : Nat → Int32} {hk : Int32} (hO : O 0 ∈ zL G ∧ zsh G (O 0) = (6, 5)) (hA : zAll v) {Y Z d h : Nat} (hZ : Z < 2 ^ 31) (hd : d < nD v) (hh : h < 10) (e12 : sDateW v d 12 = nI 6) (ec : sAw v (nI h) (nI d) = (-3, v, false)) (mm : zM) (hp : lT G Bs O v w hk mm) : zV l G (yL_acts, cL_acts, 17, (some .boolean)) 9 (some (.int (zB true))) (lT G Bs O (v) w hk) 351 [some (.ref (O 0)), some (.int (nI Y)), some (.int (nI Z)), some (.int (nI d)), some (.int (nI h)), some (.int (v (17 + h))), none, none, none, none, none, none, none, none, none, none, none] [] mm := by
  refine z_aload_n 0 rfl rfl dL_acts_351 ?_
  refine z_iload_n 3 rfl rfl dL_acts_352 ?_
  refine z_bipush (nI 12) dL_acts_353 rfl ?_
  refine z_uV2 (ci := 6) zm_X6_date (q_dateW hp hA hd (by omega) e12) rfl zl_L_26 rfl rfl (by decide) hO.1 hO.2 (by decide) (Nat.le_of_ble_eq_true rfl) dL_acts_355 (fun mm hp => ?_)
  refine z_istore 13 (Nat.le_of_ble_eq_true rfl) rfl dL_acts_358 ?_
  refine z_aload_n 0 rfl rfl dL_acts_360 ?_
  refine z_iload 4 rfl dL_acts_361 ?_
  refine z_iload_n 3 rfl rfl dL_acts_363 ?_
  refine z_uV2 (ci := 6) zm_X6_await (q_await hp hA ec) rfl zl_L_69 rfl rfl (by decide) hO.1 hO.2 (by decide) (Nat.le_of_ble_eq_true rfl) dL_acts_364 (fun mm hp => ?_)
  refine z_istore 14 (Nat.le_of_ble_eq_true rfl) rfl dL_acts_367 ?_
  refine z_iload 14 rfl dL_acts_369 ?_
  refine z_bipush (-4) dL_acts_371 (by decide) ?_
  refine z_icmp_eq 444 dL_acts_373 rfl (fun c373 => ?_) (fun c373 => ?_)
  · exact absurd c373 (by decide)
  · refine z_iload 14 rfl dL_acts_376 ?_
    refine z_bipush (-3) dL_acts_378 (by decide) ?_
    refine z_icmp_ne 390 dL_acts_380 rfl (fun c380 => ?_) (fun c380 => ?_)
    · exact absurd c380 (by decide)
    · refine z_iload 13 rfl dL_acts_383 ?_
      refine z_bipush (nI 6) dL_acts_385 rfl ?_
      refine z_icmp_eq 444 dL_acts_387 rfl (fun c387 => ?_) (fun c387 => ?_)
      · refine z_iconst (nI 1) dL_acts_444 rfl ?_
        refine z_goto 449 dL_acts_445 rfl ?_
        exact z_zret dL_acts_449 (by first | rfl | exact zB_nar _) rfl hp
      · exact absurd c387 (by decide)
set_option maxRecDepth 4000 in
set_option maxHeartbeats 4000000 in
theorem l_acts_AC1 {l : Launch} {G : zG} {Bs : Nat → Nat → Nat} {O : Nat → Nat} {v w : Nat → Int32} {hk : Int32} (hO : O 0 ∈ zL G ∧ zsh G (O 0) = (6, 5)) (hA : zAll v) {Y Z d h : Nat} (hZ : Z < 2 ^ 31) (hd : d < nD v) (hh : h < 10) {N : Nat} {u1 : Nat → Int32} (hN : N < 6) (e12 : sDateW v d 12 = nI N) (hB1 : zAll u1) (ec : sAw v (nI h) (nI d) = (nI (N + 1), u1, true)) (ew : sWait u1 (nI d) (nI N) = nI h) (hz : 0 < Z / 512 % 4) (mm : zM) (hp : lT G Bs O v w hk mm) : zV l G (yL_acts, cL_acts, 17, (some .boolean)) 9 (some (.int (zB true))) (lT G Bs O (u1) w hk) 351 [some (.ref (O 0)), some (.int (nI Y)), some (.int (nI Z)), some (.int (nI d)), some (.int (nI h)), some (.int (v (17 + h))), none, none, none, none, none, none, none, none, none, none, none] [] mm := by
  refine z_aload_n 0 rfl rfl dL_acts_351 ?_
  refine z_iload_n 3 rfl rfl dL_acts_352 ?_
  refine z_bipush (nI 12) dL_acts_353 rfl ?_
  refine z_uV2 (ci := 6) zm_X6_date (q_dateW hp hA hd (by omega) e12) rfl zl_L_26 rfl rfl (by decide) hO.1 hO.2 (by decide) (Nat.le_of_ble_eq_true rfl) dL_acts_355 (fun mm hp => ?_)
  refine z_istore 13 (Nat.le_of_ble_eq_true rfl) rfl dL_acts_358 ?_
  refine z_aload_n 0 rfl rfl dL_acts_360 ?_
  refine z_iload 4 rfl dL_acts_361 ?_
  refine z_iload_n 3 rfl rfl dL_acts_363 ?_
  refine z_uV2 (ci := 6) zm_X6_await (q_await hp hA ec) rfl zl_L_69 rfl rfl (by decide) hO.1 hO.2 (by decide) (Nat.le_of_ble_eq_true rfl) dL_acts_364 (fun mm hp => ?_)
  refine z_istore 14 (Nat.le_of_ble_eq_true rfl) rfl dL_acts_367 ?_
  refine z_iload 14 rfl dL_acts_369 ?_
  refine z_bipush (-4) dL_acts_371 (by decide) ?_
  refine z_icmp_eq 444 dL_acts_373 rfl (fun c373 => ?_) (fun c373 => ?_)
  · exact absurd c373 (nI_nm4 (by omega))
  · refine z_iload 14 rfl dL_acts_376 ?_
    refine z_bipush (-3) dL_acts_378 (by decide) ?_
    refine z_icmp_ne 390 dL_acts_380 rfl (fun c380 => ?_) (fun c380 => ?_)
    · refine z_iload 14 rfl dL_acts_390 ?_
      refine z_iload 13 rfl dL_acts_392 ?_
      refine z_iconst (nI 1) dL_acts_394 rfl ?_
      refine z_iaddN dL_acts_395 ?_
      refine z_icmp_ne 448 dL_acts_396 rfl (fun c396 => ?_) (fun c396 => ?_)
      · exact absurd rfl c396
      · refine z_aload_n 0 rfl rfl dL_acts_399 ?_
        refine z_iload_n 3 rfl rfl dL_acts_400 ?_
        refine z_iload 13 rfl dL_acts_401 ?_
        refine z_uV2 (ci := 6) zm_X6_waiting (q_waiting hp hB1 ew) rfl zl_L_41 rfl rfl (by decide) hO.1 hO.2 (by decide) (Nat.le_of_ble_eq_true rfl) dL_acts_403 (fun mm hp => ?_)
        refine z_iload 4 rfl dL_acts_406 ?_
        refine z_icmp_ne 448 dL_acts_408 rfl (fun c408 => ?_) (fun c408 => ?_)
        · exact absurd rfl c408
        · refine z_iload_n 2 rfl rfl dL_acts_411 ?_
          refine z_bipush (nI 9) dL_acts_412 rfl ?_
          refine z_ishrN 512 (by decide) dL_acts_414 (by omega) (by decide) ?_
          refine z_iconst (nI 3) dL_acts_415 rfl ?_
          refine z_iandN 3 2 4 (by decide) (by decide) dL_acts_416 (by omega) ?_
          refine z_if_gt 444 dL_acts_417 rfl (fun c417 => ?_) (fun c417 => ?_)
          · refine z_iconst (nI 1) dL_acts_444 rfl ?_
            refine z_goto 449 dL_acts_445 rfl ?_
            exact z_zret dL_acts_449 (by first | rfl | exact zB_nar _) rfl hp
          · exact absurd (nI_lt (a := 0) hz (by omega)) c417
    · exact absurd c380 (nI_nm3 (by omega))
set_option maxRecDepth 4000 in
set_option maxHeartbeats 4000000 in
theorem l_acts_AC2 {l : Launch} {G : zG} {Bs : Nat → Nat → Nat} {O : Nat → Nat} {v w : Nat → Int32} {hk : Int32} (hO : O 0 ∈ zL G ∧ zsh G (O 0) = (6, 5)) (hA : zAll v) {Y Z d h : Nat} (hZ : Z < 2 ^ 31) (hd : d < nD v) (hh : h < 10) {N : Nat} {u1 : Nat → Int32} (hN : N < 6) (e12 : sDateW v d 12 = nI N) (hB1 : zAll u1) (ec : sAw v (nI h) (nI d) = (nI (N + 1), u1, true)) (ew : sWait u1 (nI d) (nI N) = nI h) (hz : Z / 512 % 4 = 0) {u2 : Nat → Int32} (hB2 : zAll u2) (ec2 : sLv u1 (nI h) (nI d) = (nI N, u2, true)) (ec3 : sLv u2 (nI h) (nI d) = (-5, u2, false)) (mm : zM) (hp : lT G Bs O v w hk mm) : zV l G (yL_acts, cL_acts, 17, (some .boolean)) 9 (some (.int (zB true))) (lT G Bs O (u2) w hk) 351 [some (.ref (O 0)), some (.int (nI Y)), some (.int (nI Z)), some (.int (nI d)), some (.int (nI h)), some (.int (v (17 + h))), none, none, none, none, none, none, none, none, none, none, none] [] mm := by
  refine z_aload_n 0 rfl rfl dL_acts_351 ?_
  refine z_iload_n 3 rfl rfl dL_acts_352 ?_
  refine z_bipush (nI 12) dL_acts_353 rfl ?_
  refine z_uV2 (ci := 6) zm_X6_date (q_dateW hp hA hd (by omega) e12) rfl zl_L_26 rfl rfl (by decide) hO.1 hO.2 (by decide) (Nat.le_of_ble_eq_true rfl) dL_acts_355 (fun mm hp => ?_)
  refine z_istore 13 (Nat.le_of_ble_eq_true rfl) rfl dL_acts_358 ?_
  refine z_aload_n 0 rfl rfl dL_acts_360 ?_
  refine z_iload 4 rfl dL_acts_361 ?_
  refine z_iload_n 3 rfl rfl dL_acts_363 ?_
  refine z_uV2 (ci := 6) zm_X6_await (q_await hp hA ec) rfl zl_L_69 rfl rfl (by decide) hO.1 hO.2 (by decide) (Nat.le_of_ble_eq_true rfl) dL_acts_364 (fun mm hp => ?_)
  refine z_istore 14 (Nat.le_of_ble_eq_true rfl) rfl dL_acts_367 ?_
  refine z_iload 14 rfl dL_acts_369 ?_
  refine z_bipush (-4) dL_acts_371 (by decide) ?_
  refine z_icmp_eq 444 dL_acts_373 rfl (fun c373 => ?_) (fun c373 => ?_)
  · exact absurd c373 (nI_nm4 (by omega))
  · refine z_iload 14 rfl dL_acts_376 ?_
    refine z_bipush (-3) dL_acts_378 (by decide) ?_
    refine z_icmp_ne 390 dL_acts_380 rfl (fun c380 => ?_) (fun c380 => ?_)
    · refine z_iload 14 rfl dL_acts_390 ?_
      refine z_iload 13 rfl dL_acts_392 ?_
      refine z_iconst (nI 1) dL_acts_394 rfl ?_
      refine z_iaddN dL_acts_395 ?_
      refine z_icmp_ne 448 dL_acts_396 rfl (fun c396 => ?_) (fun c396 => ?_)
      · exact absurd rfl c396
      · refine z_aload_n 0 rfl rfl dL_acts_399 ?_
        refine z_iload_n 3 rfl rfl dL_acts_400 ?_
        refine z_iload 13 rfl dL_acts_401 ?_
        refine z_uV2 (ci := 6) zm_X6_waiting (q_waiting hp hB1 ew) rfl zl_L_41 rfl rfl (by decide) hO.1 hO.2 (by decide) (Nat.le_of_ble_eq_true rfl) dL_acts_403 (fun mm hp => ?_)
        refine z_iload 4 rfl dL_acts_406 ?_
        refine z_icmp_ne 448 dL_acts_408 rfl (fun c408 => ?_) (fun c408 => ?_)
        · exact absurd rfl c408
        · refine z_iload_n 2 rfl rfl dL_acts_411 ?_
          refine z_bipush (nI 9) dL_acts_412 rfl ?_
          refine z_ishrN 512 (by decide) dL_acts_414 (by omega) (by decide) ?_
          refine z_iconst (nI 3) dL_acts_415 rfl ?_
          refine z_iandN 3 2 4 (by decide) (by decide) dL_acts_416 (by omega) ?_
          refine z_if_gt 444 dL_acts_417 rfl (fun c417 => ?_) (fun c417 => ?_)
          · rw [hz] at c417
            exact absurd c417 (by decide)
          · refine z_aload_n 0 rfl rfl dL_acts_420 ?_
            refine z_iload 4 rfl dL_acts_421 ?_
            refine z_iload_n 3 rfl rfl dL_acts_423 ?_
            refine z_uV2 (ci := 6) zm_X6_leave (q_leave hp hB1 ec2) rfl zl_L_72 rfl rfl (by decide) hO.1 hO.2 (by decide) (Nat.le_of_ble_eq_true rfl) dL_acts_424 (fun mm hp => ?_)
            refine z_iload 13 rfl dL_acts_427 ?_
            refine z_icmp_ne 448 dL_acts_429 rfl (fun c429 => ?_) (fun c429 => ?_)
            · exact absurd rfl c429
            · refine z_aload_n 0 rfl rfl dL_acts_432 ?_
              refine z_iload 4 rfl dL_acts_433 ?_
              refine z_iload_n 3 rfl rfl dL_acts_435 ?_
              refine z_uV2 (ci := 6) zm_X6_leave (q_leave hp hB2 ec3) rfl zl_L_72 rfl rfl (by decide) hO.1 hO.2 (by decide) (Nat.le_of_ble_eq_true rfl) dL_acts_436 (fun mm hp => ?_)
              refine z_bipush (-5) dL_acts_439 (by decide) ?_
              refine z_icmp_ne 448 dL_acts_441 rfl (fun c441 => ?_) (fun c441 => ?_)
              · exact absurd c441 (by decide)
              · refine z_iconst (nI 1) dL_acts_444 rfl ?_
                refine z_goto 449 dL_acts_445 rfl ?_
                exact z_zret dL_acts_449 (by first | rfl | exact zB_nar _) rfl hp
    · exact absurd c380 (nI_nm3 (by omega))
set_option maxRecDepth 4000 in
set_option maxHeartbeats 4000000 in
theorem l_acts_P {l : Launch} {G : zG} {Bs : Nat → Nat → Nat} {O : Nat → Nat} {v u w : Nat → Int32} {hk : Int32} (hO : O 0 ∈ zL G ∧ zsh G (O 0) = (6, 5)) (hA : zAll v) {Y Z d h : Nat} (hZ : Z < 2 ^ 31) (hd : d < nD v) (hh : h < 10) {t n : Nat} (ht : t ≤ 9000) (e0 : v 0 = nI t) (hn : n ≤ 36000) (hB : zAll u) (ec : sPass v (nI (1 + Z % 4)) = (nI n, u, true)) (e8 : c5 u = c5 v + n) (f0 : u 0 = nI (t + 1 + Z % 4)) (h5 : c5 v ≤ 60) (mm : zM) (hp : lT G Bs O v w hk mm) : zV l G (yL_acts, cL_acts, 17, (some .boolean)) 9 (some (.int (zB true))) (lT G Bs O (u) w hk) 450 [some (.ref (O 0)), some (.int (nI Y)), some (.int (nI Z)), some (.int (nI d)), some (.int (nI h)), some (.int (v (17 + h))), none, none, none, none, none, none, none, none, none, none, none] [] mm := by
  refine z_aload_n 0 rfl rfl dL_acts_450 ?_
  refine z_iconst (nI 0) dL_acts_451 rfl ?_
  refine z_uV1 (ci := 6) zm_X6_count (q_count hp hA (by omega) (x := nI t) e0) rfl zl_L_16 rfl rfl (by decide) hO.1 hO.2 (by decide) (Nat.le_of_ble_eq_true rfl) dL_acts_452 (fun mm hp => ?_)
  refine z_istore 15 (Nat.le_of_ble_eq_true rfl) rfl dL_acts_455 ?_
  refine z_aload_n 0 rfl rfl dL_acts_457 ?_
  refine z_bipush (nI 8) dL_acts_458 rfl ?_
  refine z_uV1 (ci := 6) zm_X6_count (q_count hp hA (by omega) (x := nI (c5 v)) (e_countS (k := 5) (by omega))) rfl zl_L_16 rfl rfl (by decide) hO.1 hO.2 (by decide) (Nat.le_of_ble_eq_true rfl) dL_acts_460 (fun mm hp => ?_)
  refine z_istore 16 (Nat.le_of_ble_eq_true rfl) rfl dL_acts_463 ?_
  refine z_aload_n 0 rfl rfl dL_acts_465 ?_
  refine z_iconst (nI 1) dL_acts_466 rfl ?_
  refine z_iload_n 2 rfl rfl dL_acts_467 ?_
  refine z_iconst (nI 4) dL_acts_468 rfl ?_
  refine z_iremN dL_acts_469 (by omega) (by omega) (by omega) ?_
  refine z_iaddN dL_acts_470 ?_
  refine z_uV1 (ci := 6) zm_X6_pass (q_pass hp hA ec) rfl zl_L_75 rfl rfl (by decide) hO.1 hO.2 (by decide) (Nat.le_of_ble_eq_true rfl) dL_acts_471 (fun mm hp => ?_)
  refine z_aload_n 0 rfl rfl dL_acts_474 ?_
  refine z_bipush (nI 8) dL_acts_475 rfl ?_
  refine z_uV1 (ci := 6) zm_X6_count (q_count hp hB (by omega) (x := nI (c5 u)) (e_countS (k := 5) (by omega))) rfl zl_L_16 rfl rfl (by decide) hO.1 hO.2 (by decide) (Nat.le_of_ble_eq_true rfl) dL_acts_477 (fun mm hp => ?_)
  refine z_iload 16 rfl dL_acts_480 ?_
  refine z_isubN (by omega) dL_acts_482 ?_
  refine z_icmp_ne 506 dL_acts_483 rfl (fun c483 => ?_) (fun c483 => ?_)
  · exact absurd (by congr 1; omega) c483
  · refine z_aload_n 0 rfl rfl dL_acts_486 ?_
    refine z_iconst (nI 0) dL_acts_487 rfl ?_
    refine z_uV1 (ci := 6) zm_X6_count (q_count hp hB (by omega) (x := nI (t + 1 + Z % 4)) f0) rfl zl_L_16 rfl rfl (by decide) hO.1 hO.2 (by decide) (Nat.le_of_ble_eq_true rfl) dL_acts_488 (fun mm hp => ?_)
    refine z_iload 15 rfl dL_acts_491 ?_
    refine z_iconst (nI 1) dL_acts_493 rfl ?_
    refine z_iaddN dL_acts_494 ?_
    refine z_iload_n 2 rfl rfl dL_acts_495 ?_
    refine z_iconst (nI 4) dL_acts_496 rfl ?_
    refine z_iremN dL_acts_497 (by omega) (by omega) (by omega) ?_
    refine z_iaddN dL_acts_498 ?_
    refine z_icmp_ne 506 dL_acts_499 rfl (fun c499 => ?_) (fun c499 => ?_)
    · exact absurd rfl c499
    · refine z_iconst (nI 1) dL_acts_502 rfl ?_
      refine z_goto 507 dL_acts_503 rfl ?_
      exact z_zret dL_acts_507 (by first | rfl | exact zB_nar _) rfl hp
set_option maxRecDepth 4000 in
set_option maxHeartbeats 4000000 in
theorem l_acts_D0 {l : Launch} {G : zG} {Bs : Nat → Nat → Nat} {O : Nat → Nat} {v w : Nat → Int32} {hk : Int32} (hO : O 0 ∈ zL G ∧ zsh G (O 0) = (6, 5)) (hA : zAll v) {Y Z d h : Nat} (hZ : Z < 2 ^ 31) (hd : d < nD v) (hh : h < 10) (hz : Z % 4 = 0) (mm : zM) (hp : lT G Bs O v w hk mm) : zV l G (yL_acts, cL_acts, 17, (some .boolean)) 9 (some (.int (zB true))) (lT G Bs O ((sSet v (nI 3) (nI (Z / 4 % 3000))).2.1) w hk) 508 [some (.ref (O 0)), some (.int (nI Y)), some (.int (nI Z)), some (.int (nI d)), some (.int (nI h)), some (.int (v (17 + h))), none, none, none, none, none, none, none, none, none, none, none] [] mm := by
  refine z_iload_n 2 rfl rfl dL_acts_508 ?_
  refine z_iconst (nI 3) dL_acts_509 rfl ?_
  refine z_iandN 3 2 4 (by decide) (by decide) dL_acts_510 (by omega) ?_
  refine z_if_ne 539 dL_acts_511 rfl (fun c511 => ?_) (fun c511 => ?_)
  · exact absurd (by rw [hz]; rfl) c511
  · refine z_aload_n 0 rfl rfl dL_acts_514 ?_
    refine z_iconst (nI 3) dL_acts_515 rfl ?_
    refine z_iload_n 2 rfl rfl dL_acts_516 ?_
    refine z_iconst (nI 2) dL_acts_517 rfl ?_
    refine z_ishrN 4 (by decide) dL_acts_518 (by omega) (by decide) ?_
    refine z_sipush (nI 3000) dL_acts_519 rfl ?_
    refine z_iremN dL_acts_522 (by omega) (by omega) (by omega) ?_
    refine z_uV2 (ci := 6) zm_X6_set (q_set hp hA (x := (sSet v (nI 3) (nI (Z / 4 % 3000))).1) (v' := (sSet v (nI 3) (nI (Z / 4 % 3000))).2.1) (f' := (sSet v (nI 3) (nI (Z / 4 % 3000))).2.2) rfl) rfl zl_L_78 rfl rfl (by decide) hO.1 hO.2 (by decide) (Nat.le_of_ble_eq_true rfl) dL_acts_523 (fun mm hp => ?_)
    refine z_bipush (-5) dL_acts_526 (by decide) ?_
    refine z_icmp_lt 535 dL_acts_528 rfl (fun c528 => ?_) (fun c528 => ?_)
    · exact absurd c528 (set_m5 hA.1 _ _)
    · refine z_iconst (nI 1) dL_acts_531 rfl ?_
      refine z_goto 602 dL_acts_532 rfl ?_
      exact z_zret dL_acts_602 (by first | rfl | exact zB_nar _) rfl hp
set_option maxRecDepth 4000 in
set_option maxHeartbeats 4000000 in
theorem l_acts_D1 {l : Launch} {G : zG} {Bs : Nat → Nat → Nat} {O : Nat → Nat} {v w : Nat → Int32} {hk : Int32} (hO : O 0 ∈ zL G ∧ zsh G (O 0) = (6, 5)) (hA : zAll v) {Y Z d h : Nat} (hZ : Z < 2 ^ 31) (hd : d < nD v) (hh : h < 10) (hz : Z % 4 = 1) (mm : zM) (hp : lT G Bs O v w hk mm) : zV l G (yL_acts, cL_acts, 17, (some .boolean)) 9 (some (.int (zB true))) (lT G Bs O ((sSet v (nI 1) (nI (Z / 4 % 51))).2.1) w hk) 508 [some (.ref (O 0)), some (.int (nI Y)), some (.int (nI Z)), some (.int (nI d)), some (.int (nI h)), some (.int (v (17 + h))), none, none, none, none, none, none, none, none, none, none, none] [] mm := by
  refine z_iload_n 2 rfl rfl dL_acts_508 ?_
  refine z_iconst (nI 3) dL_acts_509 rfl ?_
  refine z_iandN 3 2 4 (by decide) (by decide) dL_acts_510 (by omega) ?_
  refine z_if_ne 539 dL_acts_511 rfl (fun c511 => ?_) (fun c511 => ?_)
  · refine z_iload_n 2 rfl rfl dL_acts_539 ?_
    refine z_iconst (nI 3) dL_acts_540 rfl ?_
    refine z_iandN 3 2 4 (by decide) (by decide) dL_acts_541 (by omega) ?_
    refine z_iconst (nI 1) dL_acts_542 rfl ?_
    refine z_icmp_ne 570 dL_acts_543 rfl (fun c543 => ?_) (fun c543 => ?_)
    · exact absurd (by rw [hz]) c543
    · refine z_aload_n 0 rfl rfl dL_acts_546 ?_
      refine z_iconst (nI 1) dL_acts_547 rfl ?_
      refine z_iload_n 2 rfl rfl dL_acts_548 ?_
      refine z_iconst (nI 2) dL_acts_549 rfl ?_
      refine z_ishrN 4 (by decide) dL_acts_550 (by omega) (by decide) ?_
      refine z_bipush (nI 51) dL_acts_551 rfl ?_
      refine z_iremN dL_acts_553 (by omega) (by omega) (by omega) ?_
      refine z_uV2 (ci := 6) zm_X6_set (q_set hp hA (x := (sSet v (nI 1) (nI (Z / 4 % 51))).1) (v' := (sSet v (nI 1) (nI (Z / 4 % 51))).2.1) (f' := (sSet v (nI 1) (nI (Z / 4 % 51))).2.2) rfl) rfl zl_L_78 rfl rfl (by decide) hO.1 hO.2 (by decide) (Nat.le_of_ble_eq_true rfl) dL_acts_554 (fun mm hp => ?_)
      refine z_bipush (-5) dL_acts_557 (by decide) ?_
      refine z_icmp_lt 566 dL_acts_559 rfl (fun c559 => ?_) (fun c559 => ?_)
      · exact absurd c559 (set_m5 hA.1 _ _)
      · refine z_iconst (nI 1) dL_acts_562 rfl ?_
        refine z_goto 602 dL_acts_563 rfl ?_
        exact z_zret dL_acts_602 (by first | rfl | exact zB_nar _) rfl hp
  · rw [hz] at c511
    exact absurd c511 (by decide)
set_option maxRecDepth 4000 in
set_option maxHeartbeats 4000000 in
theorem l_acts_D2 {l : Launch} {G : zG} {Bs : Nat → Nat → Nat} {O : Nat → Nat} {v w : Nat → Int32} {hk : Int32} (hO : O 0 ∈ zL G ∧ zsh G (O 0) = (6, 5)) (hA : zAll v) {Y Z d h : Nat} (hZ : Z < 2 ^ 31) (hd : d < nD v) (hh : h < 10) (hz : 2 ≤ Z % 4) (mm : zM) (hp : lT G Bs O v w hk mm) : zV l G (yL_acts, cL_acts, 17, (some .boolean)) 9 (some (.int (zB true))) (lT G Bs O ((sSt v (nI (Z / 4 % 4)) (nI (Z / 16 % 40)) (nI (Z / 1024 % 101))).2.1) w hk) 508 [some (.ref (O 0)), some (.int (nI Y)), some (.int (nI Z)), some (.int (nI d)), some (.int (nI h)), some (.int (v (17 + h))), none, none, none, none, none, none, none, none, none, none, none] [] mm := by
  refine z_iload_n 2 rfl rfl dL_acts_508 ?_
  refine z_iconst (nI 3) dL_acts_509 rfl ?_
  refine z_iandN 3 2 4 (by decide) (by decide) dL_acts_510 (by omega) ?_
  refine z_if_ne 539 dL_acts_511 rfl (fun c511 => ?_) (fun c511 => ?_)
  · refine z_iload_n 2 rfl rfl dL_acts_539 ?_
    refine z_iconst (nI 3) dL_acts_540 rfl ?_
    refine z_iandN 3 2 4 (by decide) (by decide) dL_acts_541 (by omega) ?_
    refine z_iconst (nI 1) dL_acts_542 rfl ?_
    refine z_icmp_ne 570 dL_acts_543 rfl (fun c543 => ?_) (fun c543 => ?_)
    · refine z_aload_n 0 rfl rfl dL_acts_570 ?_
      refine z_iload_n 2 rfl rfl dL_acts_571 ?_
      refine z_iconst (nI 2) dL_acts_572 rfl ?_
      refine z_ishrN 4 (by decide) dL_acts_573 (by omega) (by decide) ?_
      refine z_iconst (nI 3) dL_acts_574 rfl ?_
      refine z_iandN 3 2 4 (by decide) (by decide) dL_acts_575 (by omega) ?_
      refine z_iload_n 2 rfl rfl dL_acts_576 ?_
      refine z_iconst (nI 4) dL_acts_577 rfl ?_
      refine z_ishrN 16 (by decide) dL_acts_578 (by omega) (by decide) ?_
      refine z_bipush (nI 40) dL_acts_579 rfl ?_
      refine z_iremN dL_acts_581 (by omega) (by omega) (by omega) ?_
      refine z_iload_n 2 rfl rfl dL_acts_582 ?_
      refine z_bipush (nI 10) dL_acts_583 rfl ?_
      refine z_ishrN 1024 (by decide) dL_acts_585 (by omega) (by decide) ?_
      refine z_bipush (nI 101) dL_acts_586 rfl ?_
      refine z_iremN dL_acts_588 (by omega) (by omega) (by omega) ?_
      refine z_uV3 (ci := 6) zm_X6_setStage (q_setStage hp hA (x := (sSt v (nI (Z / 4 % 4)) (nI (Z / 16 % 40)) (nI (Z / 1024 % 101))).1) (v' := (sSt v (nI (Z / 4 % 4)) (nI (Z / 16 % 40)) (nI (Z / 1024 % 101))).2.1) (f' := (sSt v (nI (Z / 4 % 4)) (nI (Z / 16 % 40)) (nI (Z / 1024 % 101))).2.2) rfl) rfl zl_L_81 rfl rfl (by decide) hO.1 hO.2 (by decide) (Nat.le_of_ble_eq_true rfl) dL_acts_589 (fun mm hp => ?_)
      refine z_bipush (-5) dL_acts_592 (by decide) ?_
      refine z_icmp_lt 601 dL_acts_594 rfl (fun c594 => ?_) (fun c594 => ?_)
      · exact absurd c594 (st_m5 hA.1 _ _ _)
      · refine z_iconst (nI 1) dL_acts_597 rfl ?_
        refine z_goto 602 dL_acts_598 rfl ?_
        exact z_zret dL_acts_602 (by first | rfl | exact zB_nar _) rfl hp
    · exact absurd ((nI_eq (by omega) (by omega)).mp c543) (by omega)
  · exact absurd c511 (nI_ne0 (by omega) (by omega))
