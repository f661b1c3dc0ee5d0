set_option maxRecDepth 4000 in
set_option maxHeartbeats 4000000 in
theorem l_dates_s0t {l : Launch} {G : zG} {Bs : Nat → Nat → Nat} {O : Nat → Nat} {v w : Nat → Int32} {hk : Int32} (hO : O 0 ∈ zL G ∧ zsh G (O 0) = (6, 5)) (hA : zAll v) {d L p su bs W cd r A B C c k : Nat} {lo : Int32} {x9 : Option Value} (hd : d < nD v) (hr : r < nR v) (F : dF v d L p su bs W cd) (e0 : v (147 + 7 * r + 0) = nI d) (e3 : v (147 + 7 * r + 3) = nI 0) (hc : c ≤ 700000) (e2 : v (147 + 7 * r + 2) = nI c) (hk7 : k ≤ c) (e7 : sRight v (nI r) (nI 7) = nI k) (hLp : 0 < L) (e4 : v (147 + 7 * r + 4) = -5) (e8 : sRight v (nI r) (nI 8) = nI 1) (hLW : L ≤ W) (hXp : sOf v d (nI 2) (nI 2) < p) (K : ∀ (x9 : Option Value) (mm : zM), lT G Bs O v w hk mm → zV l G (yL_dates, cL_dates, 10, (some .boolean)) 7 (some (.int (zB true))) (lT G Bs O v w hk) 40 [some (.ref (O 0)), some (.int (nI 1)), some (.int (nI d)), some (.int (nI (A + 1))), some (.int (nI (B + 0))), some (.int (nI (C + 0))), some (.int (lo)), some (.int (nI L)), some (.int (nI (r + 1))), x9] [] mm) (mm : zM) (hp : lT G Bs O v w hk mm) : zV l G (yL_dates, cL_dates, 10, (some .boolean)) 7 (some (.int (zB true))) (lT G Bs O v w hk) 50 [some (.ref (O 0)), some (.int (nI 1)), some (.int (nI d)), some (.int (nI A)), some (.int (nI B)), some (.int (nI C)), some (.int (lo)), some (.int (nI L)), some (.int (nI r)), x9] [] mm := by
  obtain ⟨hL, eL, ⟨hp1, hp20, ep⟩, ⟨hsu, es⟩, ⟨hb1, hb, eb⟩, ⟨hW, eW⟩, ⟨hcd, ecd⟩, f1, f0⟩ := F
  have h10 := hA.1.1.1.1.1.2
  have h60 := hA.1.1.1.1.2.1.2
  have hX : sOf v d (nI 2) (nI 2) ≤ 60 := Nat.le_trans sCnt_le h60
  refine z_aload_n 0 rfl rfl dL_dates_50 ?_
  refine z_iload 8 rfl dL_dates_51 ?_
  refine z_iconst (nI 3) dL_dates_53 rfl ?_
  refine z_uV2 (ci := 6) zm_X6_right (q_rightW hp hA hr (by omega) e3) rfl zl_L_29 rfl rfl (by decide) hO.1 hO.2 (by decide) (Nat.le_of_ble_eq_true rfl) dL_dates_54 (fun mm hp => ?_)
  refine z_istore 9 (Nat.le_of_ble_eq_true rfl) rfl dL_dates_57 ?_
  refine z_aload_n 0 rfl rfl dL_dates_59 ?_
  refine z_iload 8 rfl dL_dates_60 ?_
  refine z_iconst (nI 0) dL_dates_62 rfl ?_
  refine z_uV2 (ci := 6) zm_X6_right (q_rightW hp hA hr (by omega) e0) rfl zl_L_29 rfl rfl (by decide) hO.1 hO.2 (by decide) (Nat.le_of_ble_eq_true rfl) dL_dates_63 (fun mm hp => ?_)
  refine z_iload_n 2 rfl rfl dL_dates_66 ?_
  refine z_icmp_ne 347 dL_dates_67 rfl (fun c67 => ?_) (fun c67 => ?_)
  · exact absurd rfl c67
  · refine z_iload_n 3 rfl rfl dL_dates_70 ?_
    refine z_iload 9 rfl dL_dates_71 ?_
    refine z_iconst (nI 3) dL_dates_73 rfl ?_
    refine z_icmp_ge 81 dL_dates_74 rfl (fun c74 => ?_) (fun c74 => ?_)
    · exact absurd c74 (by decide)
    · refine z_iconst (nI 1) dL_dates_77 rfl ?_
      refine z_goto 82 dL_dates_78 rfl ?_
      refine z_iaddN dL_dates_82 ?_
      refine z_istore_n 3 rfl (Nat.le_of_ble_eq_true rfl) rfl dL_dates_83 ?_
      refine z_iload 4 rfl dL_dates_84 ?_
      refine z_iload 9 rfl dL_dates_86 ?_
      refine z_iconst (nI 1) dL_dates_88 rfl ?_
      refine z_icmp_ne 96 dL_dates_89 rfl (fun c89 => ?_) (fun c89 => ?_)
      · refine z_iconst (nI 0) dL_dates_96 rfl ?_
        refine z_iaddN dL_dates_97 ?_
        refine z_istore 4 (Nat.le_of_ble_eq_true rfl) rfl dL_dates_98 ?_
        refine z_iload 5 rfl dL_dates_100 ?_
        refine z_iload 9 rfl dL_dates_102 ?_
        refine z_iconst (nI 2) dL_dates_104 rfl ?_
        refine z_icmp_ne 112 dL_dates_105 rfl (fun c105 => ?_) (fun c105 => ?_)
        · refine z_iconst (nI 0) dL_dates_112 rfl ?_
          refine z_iaddN dL_dates_113 ?_
          refine z_istore 5 (Nat.le_of_ble_eq_true rfl) rfl dL_dates_114 ?_
          refine z_iload 9 rfl dL_dates_116 ?_
          refine z_iconst (nI 1) dL_dates_118 rfl ?_
          refine z_icmp_ne 149 dL_dates_119 rfl (fun c119 => ?_) (fun c119 => ?_)
          · refine z_iload 6 rfl dL_dates_149 ?_
            refine z_istore 6 (Nat.le_of_ble_eq_true rfl) rfl dL_dates_151 ?_
            refine z_iload_n 1 rfl rfl dL_dates_153 ?_
            refine z_if_eq 249 dL_dates_154 rfl (fun c154 => ?_) (fun c154 => ?_)
            · exact absurd c154 (by decide)
            · refine z_iload 9 rfl dL_dates_157 ?_
              refine z_iconst (nI 1) dL_dates_159 rfl ?_
              refine z_icmp_gt 168 dL_dates_160 rfl (fun c160 => ?_) (fun c160 => ?_)
              · exact absurd c160 (by decide)
              · refine z_iload 7 rfl dL_dates_163 ?_
                refine z_if_le 249 dL_dates_165 rfl (fun c165 => ?_) (fun c165 => ?_)
                · exact absurd c165 (nI_nle (by omega) (by omega))
                · refine z_iload 9 rfl dL_dates_168 ?_
                  refine z_iconst (nI 1) dL_dates_170 rfl ?_
                  refine z_icmp_ne 178 dL_dates_171 rfl (fun c171 => ?_) (fun c171 => ?_)
                  · refine z_iconst (nI 0) dL_dates_178 rfl ?_
                    refine z_aload_n 0 rfl rfl dL_dates_179 ?_
                    refine z_iload 8 rfl dL_dates_180 ?_
                    refine z_iconst (nI 4) dL_dates_182 rfl ?_
                    refine z_uV2 (ci := 6) zm_X6_right (q_rightW hp hA hr (by omega) e4) rfl zl_L_29 rfl rfl (by decide) hO.1 hO.2 (by decide) (Nat.le_of_ble_eq_true rfl) dL_dates_183 (fun mm hp => ?_)
                    refine z_if_le 193 dL_dates_186 rfl (fun c186 => ?_) (fun c186 => ?_)
                    · refine z_iconst (nI 0) dL_dates_193 rfl ?_
                      refine z_icmp_ne 249 dL_dates_194 rfl (fun c194 => ?_) (fun c194 => ?_)
                      · exact absurd c194 (by decide)
                      · refine z_iload 9 rfl dL_dates_197 ?_
                        refine z_iconst (nI 2) dL_dates_199 rfl ?_
                        refine z_icmp_ge 207 dL_dates_200 rfl (fun c200 => ?_) (fun c200 => ?_)
                        · exact absurd c200 (by decide)
                        · refine z_iconst (nI 1) dL_dates_203 rfl ?_
                          refine z_goto 208 dL_dates_204 rfl ?_
                          refine z_aload_n 0 rfl rfl dL_dates_208 ?_
                          refine z_iload 8 rfl dL_dates_209 ?_
                          refine z_bipush (nI 7) dL_dates_211 rfl ?_
                          refine z_uV2 (ci := 6) zm_X6_right (q_right hp hA e7) rfl zl_L_29 rfl rfl (by decide) hO.1 hO.2 (by decide) (Nat.le_of_ble_eq_true rfl) dL_dates_213 (fun mm hp => ?_)
                          refine z_if_lt 223 dL_dates_216 rfl (fun c216 => ?_) (fun c216 => ?_)
                          · exact absurd c216 (nI_pos (by omega))
                          · refine z_iconst (nI 1) dL_dates_219 rfl ?_
                            refine z_goto 224 dL_dates_220 rfl ?_
                            refine z_icmp_ne 249 dL_dates_224 rfl (fun c224 => ?_) (fun c224 => ?_)
                            · exact absurd c224 (by decide)
                            · refine z_aload_n 0 rfl rfl dL_dates_227 ?_
                              refine z_iload 8 rfl dL_dates_228 ?_
                              refine z_bipush (nI 7) dL_dates_230 rfl ?_
                              refine z_uV2 (ci := 6) zm_X6_right (q_right hp hA e7) rfl zl_L_29 rfl rfl (by decide) hO.1 hO.2 (by decide) (Nat.le_of_ble_eq_true rfl) dL_dates_232 (fun mm hp => ?_)
                              refine z_aload_n 0 rfl rfl dL_dates_235 ?_
                              refine z_iload 8 rfl dL_dates_236 ?_
                              refine z_iconst (nI 2) dL_dates_238 rfl ?_
                              refine z_uV2 (ci := 6) zm_X6_right (q_rightW hp hA hr (by omega) e2) rfl zl_L_29 rfl rfl (by decide) hO.1 hO.2 (by decide) (Nat.le_of_ble_eq_true rfl) dL_dates_239 (fun mm hp => ?_)
                              refine z_icmp_gt 249 dL_dates_242 rfl (fun c242 => ?_) (fun c242 => ?_)
                              · exact absurd c242 (nI_nlt (by omega) (by omega))
                              · refine z_iconst (nI 1) dL_dates_245 rfl ?_
                                refine z_goto 250 dL_dates_246 rfl ?_
                                refine z_istore_n 1 rfl (Nat.le_of_ble_eq_true rfl) rfl dL_dates_250 ?_
                                refine z_iload_n 1 rfl rfl dL_dates_251 ?_
                                refine z_if_eq 345 dL_dates_252 rfl (fun c252 => ?_) (fun c252 => ?_)
                                · exact absurd c252 (by decide)
                                · refine z_aload_n 0 rfl rfl dL_dates_255 ?_
                                  refine z_iload 8 rfl dL_dates_256 ?_
                                  refine z_bipush (nI 8) dL_dates_258 rfl ?_
                                  refine z_uV2 (ci := 6) zm_X6_right (q_right hp hA e8) rfl zl_L_29 rfl rfl (by decide) hO.1 hO.2 (by decide) (Nat.le_of_ble_eq_true rfl) dL_dates_260 (fun mm hp => ?_)
                                  refine z_iconst (nI 1) dL_dates_263 rfl ?_
                                  refine z_icmp_ne 271 dL_dates_264 rfl (fun c264 => ?_) (fun c264 => ?_)
                                  · exact absurd c264 (by decide)
                                  · refine z_iconst (nI 1) dL_dates_267 rfl ?_
                                    refine z_goto 272 dL_dates_268 rfl ?_
                                    refine z_iload 9 rfl dL_dates_272 ?_
                                    refine z_if_ne 313 dL_dates_274 rfl (fun c274 => ?_) (fun c274 => ?_)
                                    · exact absurd c274 (by decide)
                                    · refine z_iload 7 rfl dL_dates_277 ?_
                                      refine z_if_le 313 dL_dates_279 rfl (fun c279 => ?_) (fun c279 => ?_)
                                      · exact absurd c279 (nI_nle (by omega) (by omega))
                                      · refine z_iload 7 rfl dL_dates_282 ?_
                                        refine z_aload_n 0 rfl rfl dL_dates_284 ?_
                                        refine z_bipush (nI 12) dL_dates_285 rfl ?_
                                        refine z_uV1 (ci := 6) zm_X6_count (q_count hp hA (by omega) (x := nI W) eW) rfl zl_L_16 rfl rfl (by decide) hO.1 hO.2 (by decide) (Nat.le_of_ble_eq_true rfl) dL_dates_287 (fun mm hp => ?_)
                                        refine z_icmp_gt 313 dL_dates_290 rfl (fun c290 => ?_) (fun c290 => ?_)
                                        · exact absurd c290 (nI_nlt hLW (by omega))
                                        · refine z_aload_n 0 rfl rfl dL_dates_293 ?_
                                          refine z_iload_n 2 rfl rfl dL_dates_294 ?_
                                          refine z_bipush (nI 7) dL_dates_295 rfl ?_
                                          refine z_uV2 (ci := 6) zm_X6_date (q_dateW hp hA hd (by omega) (x := nI (sOf v d (nI 2) (nI 2))) rfl) rfl zl_L_26 rfl rfl (by decide) hO.1 hO.2 (by decide) (Nat.le_of_ble_eq_true rfl) dL_dates_297 (fun mm hp => ?_)
                                          refine z_aload_n 0 rfl rfl dL_dates_300 ?_
                                          refine z_iload_n 2 rfl rfl dL_dates_301 ?_
                                          refine z_iconst (nI 1) dL_dates_302 rfl ?_
                                          refine z_uV2 (ci := 6) zm_X6_date (q_dateW hp hA hd (by omega) (x := nI p) ep) rfl zl_L_26 rfl rfl (by decide) hO.1 hO.2 (by decide) (Nat.le_of_ble_eq_true rfl) dL_dates_303 (fun mm hp => ?_)
                                          refine z_icmp_ge 313 dL_dates_306 rfl (fun c306 => ?_) (fun c306 => ?_)
                                          · exact absurd c306 (nI_ge hXp (by omega))
                                          · refine z_iconst (nI 1) dL_dates_309 rfl ?_
                                            refine z_goto 314 dL_dates_310 rfl ?_
                                            refine z_icmp_ne 345 dL_dates_314 rfl (fun c314 => ?_) (fun c314 => ?_)
                                            · exact absurd c314 (by decide)
                                            · refine z_iload 9 rfl dL_dates_317 ?_
                                              refine z_iconst (nI 1) dL_dates_319 rfl ?_
                                              refine z_icmp_ne 341 dL_dates_320 rfl (fun c320 => ?_) (fun c320 => ?_)
                                              · refine z_iconst (nI 1) dL_dates_341 rfl ?_
                                                refine z_goto 346 dL_dates_342 rfl ?_
                                                refine z_istore_n 1 rfl (Nat.le_of_ble_eq_true rfl) rfl dL_dates_346 ?_
                                                refine z_iincN (n := 1) 8 rfl rfl dL_dates_347 ?_
                                                refine z_goto 40 dL_dates_350 rfl ?_
                                                exact K _ mm hp
                                              · exact absurd c320 (by decide)
                    · exact absurd c186 (by decide)
                  · exact absurd c171 (by decide)
          · exact absurd c119 (by decide)
        · exact absurd c105 (by decide)
      · exact absurd c89 (by decide)
set_option maxRecDepth 4000 in
set_option maxHeartbeats 4000000 in
theorem l_dates_s0f {l : Launch} {G : zG} {Bs : Nat → Nat → Nat} {O : Nat → Nat} {v w : Nat → Int32} {hk : Int32} (hO : O 0 ∈ zL G ∧ zsh G (O 0) = (6, 5)) (hA : zAll v) {d L p su bs W cd r A B C c k : Nat} {lo : Int32} {x9 : Option Value} (hd : d < nD v) (hr : r < nR v) (F : dF v d L p su bs W cd) (e0 : v (147 + 7 * r + 0) = nI d) (e3 : v (147 + 7 * r + 3) = nI 0) (hc : c ≤ 700000) (e2 : v (147 + 7 * r + 2) = nI c) (hk7 : k ≤ c) (e7 : sRight v (nI r) (nI 7) = nI k) (hLp : 0 < L) (e4 : v (147 + 7 * r + 4) = -5) (e8 : sRight v (nI r) (nI 8) = nI 0) (hno : ¬ (L ≤ W ∧ sOf v d (nI 2) (nI 2) < p)) (K : ∀ (x9 : Option Value) (mm : zM), lT G Bs O v w hk mm → zV l G (yL_dates, cL_dates, 10, (some .boolean)) 7 (some (.int (zB true))) (lT G Bs O v w hk) 40 [some (.ref (O 0)), some (.int (nI 1)), some (.int (nI d)), some (.int (nI (A + 1))), some (.int (nI (B + 0))), some (.int (nI (C + 0))), some (.int (lo)), some (.int (nI L)), some (.int (nI (r + 1))), x9] [] mm) (mm : zM) (hp : lT G Bs O v w hk mm) : zV l G (yL_dates, cL_dates, 10, (some .boolean)) 7 (some (.int (zB true))) (lT G Bs O v w hk) 50 [some (.ref (O 0)), some (.int (nI 1)), some (.int (nI d)), some (.int (nI A)), some (.int (nI B)), some (.int (nI C)), some (.int (lo)), some (.int (nI L)), some (.int (nI r)), x9] [] mm := by
  obtain ⟨hL, eL, ⟨hp1, hp20, ep⟩, ⟨hsu, es⟩, ⟨hb1, hb, eb⟩, ⟨hW, eW⟩, ⟨hcd, ecd⟩, f1, f0⟩ := F
  have h10 := hA.1.1.1.1.1.2
  have h60 := hA.1.1.1.1.2.1.2
  have hX : sOf v d (nI 2) (nI 2) ≤ 60 := Nat.le_trans sCnt_le h60
  refine z_aload_n 0 rfl rfl dL_dates_50 ?_
  refine z_iload 8 rfl dL_dates_51 ?_
  refine z_iconst (nI 3) dL_dates_53 rfl ?_
  refine z_uV2 (ci := 6) zm_X6_right (q_rightW hp hA hr (by omega) e3) rfl zl_L_29 rfl rfl (by decide) hO.1 hO.2 (by decide) (Nat.le_of_ble_eq_true rfl) dL_dates_54 (fun mm hp => ?_)
  refine z_istore 9 (Nat.le_of_ble_eq_true rfl) rfl dL_dates_57 ?_
  refine z_aload_n 0 rfl rfl dL_dates_59 ?_
  refine z_iload 8 rfl dL_dates_60 ?_
  refine z_iconst (nI 0) dL_dates_62 rfl ?_
  refine z_uV2 (ci := 6) zm_X6_right (q_rightW hp hA hr (by omega) e0) rfl zl_L_29 rfl rfl (by decide) hO.1 hO.2 (by decide) (Nat.le_of_ble_eq_true rfl) dL_dates_63 (fun mm hp => ?_)
  refine z_iload_n 2 rfl rfl dL_dates_66 ?_
  refine z_icmp_ne 347 dL_dates_67 rfl (fun c67 => ?_) (fun c67 => ?_)
  · exact absurd rfl c67
  · refine z_iload_n 3 rfl rfl dL_dates_70 ?_
    refine z_iload 9 rfl dL_dates_71 ?_
    refine z_iconst (nI 3) dL_dates_73 rfl ?_
    refine z_icmp_ge 81 dL_dates_74 rfl (fun c74 => ?_) (fun c74 => ?_)
    · exact absurd c74 (by decide)
    · refine z_iconst (nI 1) dL_dates_77 rfl ?_
      refine z_goto 82 dL_dates_78 rfl ?_
      refine z_iaddN dL_dates_82 ?_
      refine z_istore_n 3 rfl (Nat.le_of_ble_eq_true rfl) rfl dL_dates_83 ?_
      refine z_iload 4 rfl dL_dates_84 ?_
      refine z_iload 9 rfl dL_dates_86 ?_
      refine z_iconst (nI 1) dL_dates_88 rfl ?_
      refine z_icmp_ne 96 dL_dates_89 rfl (fun c89 => ?_) (fun c89 => ?_)
      · refine z_iconst (nI 0) dL_dates_96 rfl ?_
        refine z_iaddN dL_dates_97 ?_
        refine z_istore 4 (Nat.le_of_ble_eq_true rfl) rfl dL_dates_98 ?_
        refine z_iload 5 rfl dL_dates_100 ?_
        refine z_iload 9 rfl dL_dates_102 ?_
        refine z_iconst (nI 2) dL_dates_104 rfl ?_
        refine z_icmp_ne 112 dL_dates_105 rfl (fun c105 => ?_) (fun c105 => ?_)
        · refine z_iconst (nI 0) dL_dates_112 rfl ?_
          refine z_iaddN dL_dates_113 ?_
          refine z_istore 5 (Nat.le_of_ble_eq_true rfl) rfl dL_dates_114 ?_
          refine z_iload 9 rfl dL_dates_116 ?_
          refine z_iconst (nI 1) dL_dates_118 rfl ?_
          refine z_icmp_ne 149 dL_dates_119 rfl (fun c119 => ?_) (fun c119 => ?_)
          · refine z_iload 6 rfl dL_dates_149 ?_
            refine z_istore 6 (Nat.le_of_ble_eq_true rfl) rfl dL_dates_151 ?_
            refine z_iload_n 1 rfl rfl dL_dates_153 ?_
            refine z_if_eq 249 dL_dates_154 rfl (fun c154 => ?_) (fun c154 => ?_)
            · exact absurd c154 (by decide)
            · refine z_iload 9 rfl dL_dates_157 ?_
              refine z_iconst (nI 1) dL_dates_159 rfl ?_
              refine z_icmp_gt 168 dL_dates_160 rfl (fun c160 => ?_) (fun c160 => ?_)
              · exact absurd c160 (by decide)
              · refine z_iload 7 rfl dL_dates_163 ?_
                refine z_if_le 249 dL_dates_165 rfl (fun c165 => ?_) (fun c165 => ?_)
                · exact absurd c165 (nI_nle (by omega) (by omega))
                · refine z_iload 9 rfl dL_dates_168 ?_
                  refine z_iconst (nI 1) dL_dates_170 rfl ?_
                  refine z_icmp_ne 178 dL_dates_171 rfl (fun c171 => ?_) (fun c171 => ?_)
                  · refine z_iconst (nI 0) dL_dates_178 rfl ?_
                    refine z_aload_n 0 rfl rfl dL_dates_179 ?_
                    refine z_iload 8 rfl dL_dates_180 ?_
                    refine z_iconst (nI 4) dL_dates_182 rfl ?_
                    refine z_uV2 (ci := 6) zm_X6_right (q_rightW hp hA hr (by omega) e4) rfl zl_L_29 rfl rfl (by decide) hO.1 hO.2 (by decide) (Nat.le_of_ble_eq_true rfl) dL_dates_183 (fun mm hp => ?_)
                    refine z_if_le 193 dL_dates_186 rfl (fun c186 => ?_) (fun c186 => ?_)
                    · refine z_iconst (nI 0) dL_dates_193 rfl ?_
                      refine z_icmp_ne 249 dL_dates_194 rfl (fun c194 => ?_) (fun c194 => ?_)
                      · exact absurd c194 (by decide)
                      · refine z_iload 9 rfl dL_dates_197 ?_
                        refine z_iconst (nI 2) dL_dates_199 rfl ?_
                        refine z_icmp_ge 207 dL_dates_200 rfl (fun c200 => ?_) (fun c200 => ?_)
                        · exact absurd c200 (by decide)
                        · refine z_iconst (nI 1) dL_dates_203 rfl ?_
                          refine z_goto 208 dL_dates_204 rfl ?_
                          refine z_aload_n 0 rfl rfl dL_dates_208 ?_
                          refine z_iload 8 rfl dL_dates_209 ?_
                          refine z_bipush (nI 7) dL_dates_211 rfl ?_
                          refine z_uV2 (ci := 6) zm_X6_right (q_right hp hA e7) rfl zl_L_29 rfl rfl (by decide) hO.1 hO.2 (by decide) (Nat.le_of_ble_eq_true rfl) dL_dates_213 (fun mm hp => ?_)
                          refine z_if_lt 223 dL_dates_216 rfl (fun c216 => ?_) (fun c216 => ?_)
                          · exact absurd c216 (nI_pos (by omega))
                          · refine z_iconst (nI 1) dL_dates_219 rfl ?_
                            refine z_goto 224 dL_dates_220 rfl ?_
                            refine z_icmp_ne 249 dL_dates_224 rfl (fun c224 => ?_) (fun c224 => ?_)
                            · exact absurd c224 (by decide)
                            · refine z_aload_n 0 rfl rfl dL_dates_227 ?_
                              refine z_iload 8 rfl dL_dates_228 ?_
                              refine z_bipush (nI 7) dL_dates_230 rfl ?_
                              refine z_uV2 (ci := 6) zm_X6_right (q_right hp hA e7) rfl zl_L_29 rfl rfl (by decide) hO.1 hO.2 (by decide) (Nat.le_of_ble_eq_true rfl) dL_dates_232 (fun mm hp => ?_)
                              refine z_aload_n 0 rfl rfl dL_dates_235 ?_
                              refine z_iload 8 rfl dL_dates_236 ?_
                              refine z_iconst (nI 2) dL_dates_238 rfl ?_
                              refine z_uV2 (ci := 6) zm_X6_right (q_rightW hp hA hr (by omega) e2) rfl zl_L_29 rfl rfl (by decide) hO.1 hO.2 (by decide) (Nat.le_of_ble_eq_true rfl) dL_dates_239 (fun mm hp => ?_)
                              refine z_icmp_gt 249 dL_dates_242 rfl (fun c242 => ?_) (fun c242 => ?_)
                              · exact absurd c242 (nI_nlt (by omega) (by omega))
                              · refine z_iconst (nI 1) dL_dates_245 rfl ?_
                                refine z_goto 250 dL_dates_246 rfl ?_
                                refine z_istore_n 1 rfl (Nat.le_of_ble_eq_true rfl) rfl dL_dates_250 ?_
                                refine z_iload_n 1 rfl rfl dL_dates_251 ?_
                                refine z_if_eq 345 dL_dates_252 rfl (fun c252 => ?_) (fun c252 => ?_)
                                · exact absurd c252 (by decide)
                                · refine z_aload_n 0 rfl rfl dL_dates_255 ?_
                                  refine z_iload 8 rfl dL_dates_256 ?_
                                  refine z_bipush (nI 8) dL_dates_258 rfl ?_
                                  refine z_uV2 (ci := 6) zm_X6_right (q_right hp hA e8) rfl zl_L_29 rfl rfl (by decide) hO.1 hO.2 (by decide) (Nat.le_of_ble_eq_true rfl) dL_dates_260 (fun mm hp => ?_)
                                  refine z_iconst (nI 1) dL_dates_263 rfl ?_
                                  refine z_icmp_ne 271 dL_dates_264 rfl (fun c264 => ?_) (fun c264 => ?_)
                                  · refine z_iconst (nI 0) dL_dates_271 rfl ?_
                                    refine z_iload 9 rfl dL_dates_272 ?_
                                    refine z_if_ne 313 dL_dates_274 rfl (fun c274 => ?_) (fun c274 => ?_)
                                    · exact absurd c274 (by decide)
                                    · refine z_iload 7 rfl dL_dates_277 ?_
                                      refine z_if_le 313 dL_dates_279 rfl (fun c279 => ?_) (fun c279 => ?_)
                                      · exact absurd c279 (nI_nle (by omega) (by omega))
                                      · refine z_iload 7 rfl dL_dates_282 ?_
                                        refine z_aload_n 0 rfl rfl dL_dates_284 ?_
                                        refine z_bipush (nI 12) dL_dates_285 rfl ?_
                                        refine z_uV1 (ci := 6) zm_X6_count (q_count hp hA (by omega) (x := nI W) eW) rfl zl_L_16 rfl rfl (by decide) hO.1 hO.2 (by decide) (Nat.le_of_ble_eq_true rfl) dL_dates_287 (fun mm hp => ?_)
                                        refine z_icmp_gt 313 dL_dates_290 rfl (fun c290 => ?_) (fun c290 => ?_)
                                        · refine z_iconst (nI 0) dL_dates_313 rfl ?_
                                          refine z_icmp_ne 345 dL_dates_314 rfl (fun c314 => ?_) (fun c314 => ?_)
                                          · exact absurd c314 (by decide)
                                          · refine z_iload 9 rfl dL_dates_317 ?_
                                            refine z_iconst (nI 1) dL_dates_319 rfl ?_
                                            refine z_icmp_ne 341 dL_dates_320 rfl (fun c320 => ?_) (fun c320 => ?_)
                                            · refine z_iconst (nI 1) dL_dates_341 rfl ?_
                                              refine z_goto 346 dL_dates_342 rfl ?_
                                              refine z_istore_n 1 rfl (Nat.le_of_ble_eq_true rfl) rfl dL_dates_346 ?_
                                              refine z_iincN (n := 1) 8 rfl rfl dL_dates_347 ?_
                                              refine z_goto 40 dL_dates_350 rfl ?_
                                              exact K _ mm hp
                                            · exact absurd c320 (by decide)
                                        · refine z_aload_n 0 rfl rfl dL_dates_293 ?_
                                          refine z_iload_n 2 rfl rfl dL_dates_294 ?_
                                          refine z_bipush (nI 7) dL_dates_295 rfl ?_
                                          refine z_uV2 (ci := 6) zm_X6_date (q_dateW hp hA hd (by omega) (x := nI (sOf v d (nI 2) (nI 2))) rfl) rfl zl_L_26 rfl rfl (by decide) hO.1 hO.2 (by decide) (Nat.le_of_ble_eq_true rfl) dL_dates_297 (fun mm hp => ?_)
                                          refine z_aload_n 0 rfl rfl dL_dates_300 ?_
                                          refine z_iload_n 2 rfl rfl dL_dates_301 ?_
                                          refine z_iconst (nI 1) dL_dates_302 rfl ?_
                                          refine z_uV2 (ci := 6) zm_X6_date (q_dateW hp hA hd (by omega) (x := nI p) ep) rfl zl_L_26 rfl rfl (by decide) hO.1 hO.2 (by decide) (Nat.le_of_ble_eq_true rfl) dL_dates_303 (fun mm hp => ?_)
                                          refine z_icmp_ge 313 dL_dates_306 rfl (fun c306 => ?_) (fun c306 => ?_)
                                          · refine z_iconst (nI 0) dL_dates_313 rfl ?_
                                            refine z_icmp_ne 345 dL_dates_314 rfl (fun c314 => ?_) (fun c314 => ?_)
                                            · exact absurd c314 (by decide)
                                            · refine z_iload 9 rfl dL_dates_317 ?_
                                              refine z_iconst (nI 1) dL_dates_319 rfl ?_
                                              refine z_icmp_ne 341 dL_dates_320 rfl (fun c320 => ?_) (fun c320 => ?_)
                                              · refine z_iconst (nI 1) dL_dates_341 rfl ?_
                                                refine z_goto 346 dL_dates_342 rfl ?_
                                                refine z_istore_n 1 rfl (Nat.le_of_ble_eq_true rfl) rfl dL_dates_346 ?_
                                                refine z_iincN (n := 1) 8 rfl rfl dL_dates_347 ?_
                                                refine z_goto 40 dL_dates_350 rfl ?_
                                                exact K _ mm hp
                                              · exact absurd c320 (by decide)
                                          · exact absurd ⟨Nat.le_of_not_lt (fun z => c290 (nI_lt z (by omega))), Nat.lt_of_not_le (fun z => c306 (nI_le z (by omega)))⟩ hno
                                  · exact absurd c264 (by decide)
                    · exact absurd c186 (by decide)
                  · exact absurd c171 (by decide)
          · exact absurd c119 (by decide)
        · exact absurd c105 (by decide)
      · exact absurd c89 (by decide)
set_option maxRecDepth 4000 in
set_option maxHeartbeats 4000000 in
theorem l_dates_s1u {l : Launch} {G : zG} {Bs : Nat → Nat → Nat} {O : Nat → Nat} {v w : Nat → Int32} {hk : Int32} (hO : O 0 ∈ zL G ∧ zsh G (O 0) = (6, 5)) (hA : zAll v) {d L p su bs W cd r A B C c k : Nat} {lo : Int32} {x9 : Option Value} (hd : d < nD v) (hr : r < nR v) (F : dF v d L p su bs W cd) (e0 : v (147 + 7 * r + 0) = nI d) (e3 : v (147 + 7 * r + 3) = nI 1) (hc : c ≤ 700000) (e2 : v (147 + 7 * r + 2) = nI c) (hk7 : k ≤ c) (e7 : sRight v (nI r) (nI 7) = nI k) (hLp : 0 < L) {E : Nat} (e4 : v (147 + 7 * r + 4) = nI E) (hE1 : 1 ≤ E) (hE2 : E ≤ 2 * bs) (e8 : sRight v (nI r) (nI 8) = nI 0) (hlo : lo < 0 ∨ nI E < lo) (K : ∀ (x9 : Option Value) (mm : zM), lT G Bs O v w hk mm → zV l G (yL_dates, cL_dates, 10, (some .boolean)) 7 (some (.int (zB true))) (lT G Bs O v w hk) 40 [some (.ref (O 0)), some (.int (nI 1)), some (.int (nI d)), some (.int (nI (A + 1))), some (.int (nI (B + 1))), some (.int (nI (C + 0))), some (.int (nI E)), some (.int (nI L)), some (.int (nI (r + 1))), x9] [] mm) (mm : zM) (hp : lT G Bs O v w hk mm) : zV l G (yL_dates, cL_dates, 10, (some .boolean)) 7 (some (.int (zB true))) (lT G Bs O v w hk) 50 [some (.ref (O 0)), some (.int (nI 1)), some (.int (nI d)), some (.int (nI A)), some (.int (nI B)), some (.int (nI C)), some (.int (lo)), some (.int (nI L)), some (.int (nI r)), x9] [] mm := by
  obtain ⟨hL, eL, ⟨hp1, hp20, ep⟩, ⟨hsu, es⟩, ⟨hb1, hb, eb⟩, ⟨hW, eW⟩, ⟨hcd, ecd⟩, f1, f0⟩ := F
  have h10 := hA.1.1.1.1.1.2
  have h60 := hA.1.1.1.1.2.1.2
  refine z_aload_n 0 rfl rfl dL_dates_50 ?_
  refine z_iload 8 rfl dL_dates_51 ?_
  refine z_iconst (nI 3) dL_dates_53 rfl ?_
  refine z_uV2 (ci := 6) zm_X6_right (q_rightW hp hA hr (by omega) e3) rfl zl_L_29 rfl rfl (by decide) hO.1 hO.2 (by decide) (Nat.le_of_ble_eq_true rfl) dL_dates_54 (fun mm hp => ?_)
  refine z_istore 9 (Nat.le_of_ble_eq_true rfl) rfl dL_dates_57 ?_
  refine z_aload_n 0 rfl rfl dL_dates_59 ?_
  refine z_iload 8 rfl dL_dates_60 ?_
  refine z_iconst (nI 0) dL_dates_62 rfl ?_
  refine z_uV2 (ci := 6) zm_X6_right (q_rightW hp hA hr (by omega) e0) rfl zl_L_29 rfl rfl (by decide) hO.1 hO.2 (by decide) (Nat.le_of_ble_eq_true rfl) dL_dates_63 (fun mm hp => ?_)
  refine z_iload_n 2 rfl rfl dL_dates_66 ?_
  refine z_icmp_ne 347 dL_dates_67 rfl (fun c67 => ?_) (fun c67 => ?_)
  · exact absurd rfl c67
  · refine z_iload_n 3 rfl rfl dL_dates_70 ?_
    refine z_iload 9 rfl dL_dates_71 ?_
    refine z_iconst (nI 3) dL_dates_73 rfl ?_
    refine z_icmp_ge 81 dL_dates_74 rfl (fun c74 => ?_) (fun c74 => ?_)
    · exact absurd c74 (by decide)
    · refine z_iconst (nI 1) dL_dates_77 rfl ?_
      refine z_goto 82 dL_dates_78 rfl ?_
      refine z_iaddN dL_dates_82 ?_
      refine z_istore_n 3 rfl (Nat.le_of_ble_eq_true rfl) rfl dL_dates_83 ?_
      refine z_iload 4 rfl dL_dates_84 ?_
      refine z_iload 9 rfl dL_dates_86 ?_
      refine z_iconst (nI 1) dL_dates_88 rfl ?_
      refine z_icmp_ne 96 dL_dates_89 rfl (fun c89 => ?_) (fun c89 => ?_)
      · exact absurd c89 (by decide)
      · refine z_iconst (nI 1) dL_dates_92 rfl ?_
        refine z_goto 97 dL_dates_93 rfl ?_
        refine z_iaddN dL_dates_97 ?_
        refine z_istore 4 (Nat.le_of_ble_eq_true rfl) rfl dL_dates_98 ?_
        refine z_iload 5 rfl dL_dates_100 ?_
        refine z_iload 9 rfl dL_dates_102 ?_
        refine z_iconst (nI 2) dL_dates_104 rfl ?_
        refine z_icmp_ne 112 dL_dates_105 rfl (fun c105 => ?_) (fun c105 => ?_)
        · refine z_iconst (nI 0) dL_dates_112 rfl ?_
          refine z_iaddN dL_dates_113 ?_
          refine z_istore 5 (Nat.le_of_ble_eq_true rfl) rfl dL_dates_114 ?_
          refine z_iload 9 rfl dL_dates_116 ?_
          refine z_iconst (nI 1) dL_dates_118 rfl ?_
          refine z_icmp_ne 149 dL_dates_119 rfl (fun c119 => ?_) (fun c119 => ?_)
          · exact absurd c119 (by decide)
          · refine z_iload 6 rfl dL_dates_122 ?_
            refine z_if_lt 139 dL_dates_124 rfl (fun c124 => ?_) (fun c124 => ?_)
            · refine z_aload_n 0 rfl rfl dL_dates_139 ?_
              refine z_iload 8 rfl dL_dates_140 ?_
              refine z_iconst (nI 4) dL_dates_142 rfl ?_
              refine z_uV2 (ci := 6) zm_X6_right (q_rightW hp hA hr (by omega) e4) rfl zl_L_29 rfl rfl (by decide) hO.1 hO.2 (by decide) (Nat.le_of_ble_eq_true rfl) dL_dates_143 (fun mm hp => ?_)
              refine z_goto 151 dL_dates_146 rfl ?_
              refine z_istore 6 (Nat.le_of_ble_eq_true rfl) rfl dL_dates_151 ?_
              refine z_iload_n 1 rfl rfl dL_dates_153 ?_
              refine z_if_eq 249 dL_dates_154 rfl (fun c154 => ?_) (fun c154 => ?_)
              · exact absurd c154 (by decide)
              · refine z_iload 9 rfl dL_dates_157 ?_
                refine z_iconst (nI 1) dL_dates_159 rfl ?_
                refine z_icmp_gt 168 dL_dates_160 rfl (fun c160 => ?_) (fun c160 => ?_)
                · exact absurd c160 (by decide)
                · refine z_iload 7 rfl dL_dates_163 ?_
                  refine z_if_le 249 dL_dates_165 rfl (fun c165 => ?_) (fun c165 => ?_)
                  · exact absurd c165 (nI_nle (by omega) (by omega))
                  · refine z_iload 9 rfl dL_dates_168 ?_
                    refine z_iconst (nI 1) dL_dates_170 rfl ?_
                    refine z_icmp_ne 178 dL_dates_171 rfl (fun c171 => ?_) (fun c171 => ?_)
                    · exact absurd c171 (by decide)
                    · refine z_iconst (nI 1) dL_dates_174 rfl ?_
                      refine z_goto 179 dL_dates_175 rfl ?_
                      refine z_aload_n 0 rfl rfl dL_dates_179 ?_
                      refine z_iload 8 rfl dL_dates_180 ?_
                      refine z_iconst (nI 4) dL_dates_182 rfl ?_
                      refine z_uV2 (ci := 6) zm_X6_right (q_rightW hp hA hr (by omega) e4) rfl zl_L_29 rfl rfl (by decide) hO.1 hO.2 (by decide) (Nat.le_of_ble_eq_true rfl) dL_dates_183 (fun mm hp => ?_)
                      refine z_if_le 193 dL_dates_186 rfl (fun c186 => ?_) (fun c186 => ?_)
                      · exact absurd c186 (nI_nle (by omega) (by omega))
                      · refine z_iconst (nI 1) dL_dates_189 rfl ?_
                        refine z_goto 194 dL_dates_190 rfl ?_
                        refine z_icmp_ne 249 dL_dates_194 rfl (fun c194 => ?_) (fun c194 => ?_)
                        · exact absurd c194 (by decide)
                        · refine z_iload 9 rfl dL_dates_197 ?_
                          refine z_iconst (nI 2) dL_dates_199 rfl ?_
                          refine z_icmp_ge 207 dL_dates_200 rfl (fun c200 => ?_) (fun c200 => ?_)
                          · exact absurd c200 (by decide)
                          · refine z_iconst (nI 1) dL_dates_203 rfl ?_
                            refine z_goto 208 dL_dates_204 rfl ?_
                            refine z_aload_n 0 rfl rfl dL_dates_208 ?_
                            refine z_iload 8 rfl dL_dates_209 ?_
                            refine z_bipush (nI 7) dL_dates_211 rfl ?_
                            refine z_uV2 (ci := 6) zm_X6_right (q_right hp hA e7) rfl zl_L_29 rfl rfl (by decide) hO.1 hO.2 (by decide) (Nat.le_of_ble_eq_true rfl) dL_dates_213 (fun mm hp => ?_)
                            refine z_if_lt 223 dL_dates_216 rfl (fun c216 => ?_) (fun c216 => ?_)
                            · exact absurd c216 (nI_pos (by omega))
                            · refine z_iconst (nI 1) dL_dates_219 rfl ?_
                              refine z_goto 224 dL_dates_220 rfl ?_
                              refine z_icmp_ne 249 dL_dates_224 rfl (fun c224 => ?_) (fun c224 => ?_)
                              · exact absurd c224 (by decide)
                              · refine z_aload_n 0 rfl rfl dL_dates_227 ?_
                                refine z_iload 8 rfl dL_dates_228 ?_
                                refine z_bipush (nI 7) dL_dates_230 rfl ?_
                                refine z_uV2 (ci := 6) zm_X6_right (q_right hp hA e7) rfl zl_L_29 rfl rfl (by decide) hO.1 hO.2 (by decide) (Nat.le_of_ble_eq_true rfl) dL_dates_232 (fun mm hp => ?_)
                                refine z_aload_n 0 rfl rfl dL_dates_235 ?_
                                refine z_iload 8 rfl dL_dates_236 ?_
                                refine z_iconst (nI 2) dL_dates_238 rfl ?_
                                refine z_uV2 (ci := 6) zm_X6_right (q_rightW hp hA hr (by omega) e2) rfl zl_L_29 rfl rfl (by decide) hO.1 hO.2 (by decide) (Nat.le_of_ble_eq_true rfl) dL_dates_239 (fun mm hp => ?_)
                                refine z_icmp_gt 249 dL_dates_242 rfl (fun c242 => ?_) (fun c242 => ?_)
                                · exact absurd c242 (nI_nlt (by omega) (by omega))
                                · refine z_iconst (nI 1) dL_dates_245 rfl ?_
                                  refine z_goto 250 dL_dates_246 rfl ?_
                                  refine z_istore_n 1 rfl (Nat.le_of_ble_eq_true rfl) rfl dL_dates_250 ?_
                                  refine z_iload_n 1 rfl rfl dL_dates_251 ?_
                                  refine z_if_eq 345 dL_dates_252 rfl (fun c252 => ?_) (fun c252 => ?_)
                                  · exact absurd c252 (by decide)
                                  · refine z_aload_n 0 rfl rfl dL_dates_255 ?_
                                    refine z_iload 8 rfl dL_dates_256 ?_
                                    refine z_bipush (nI 8) dL_dates_258 rfl ?_
                                    refine z_uV2 (ci := 6) zm_X6_right (q_right hp hA e8) rfl zl_L_29 rfl rfl (by decide) hO.1 hO.2 (by decide) (Nat.le_of_ble_eq_true rfl) dL_dates_260 (fun mm hp => ?_)
                                    refine z_iconst (nI 1) dL_dates_263 rfl ?_
                                    refine z_icmp_ne 271 dL_dates_264 rfl (fun c264 => ?_) (fun c264 => ?_)
                                    · refine z_iconst (nI 0) dL_dates_271 rfl ?_
                                      refine z_iload 9 rfl dL_dates_272 ?_
                                      refine z_if_ne 313 dL_dates_274 rfl (fun c274 => ?_) (fun c274 => ?_)
                                      · refine z_iconst (nI 0) dL_dates_313 rfl ?_
                                        refine z_icmp_ne 345 dL_dates_314 rfl (fun c314 => ?_) (fun c314 => ?_)
                                        · exact absurd c314 (by decide)
                                        · refine z_iload 9 rfl dL_dates_317 ?_
                                          refine z_iconst (nI 1) dL_dates_319 rfl ?_
                                          refine z_icmp_ne 341 dL_dates_320 rfl (fun c320 => ?_) (fun c320 => ?_)
                                          · exact absurd c320 (by decide)
                                          · refine z_aload_n 0 rfl rfl dL_dates_323 ?_
                                            refine z_iload 8 rfl dL_dates_324 ?_
                                            refine z_iconst (nI 4) dL_dates_326 rfl ?_
                                            refine z_uV2 (ci := 6) zm_X6_right (q_rightW hp hA hr (by omega) e4) rfl zl_L_29 rfl rfl (by decide) hO.1 hO.2 (by decide) (Nat.le_of_ble_eq_true rfl) dL_dates_327 (fun mm hp => ?_)
                                            refine z_iconst (nI 2) dL_dates_330 rfl ?_
                                            refine z_aload_n 0 rfl rfl dL_dates_331 ?_
                                            refine z_iload_n 2 rfl rfl dL_dates_332 ?_
                                            refine z_iconst (nI 3) dL_dates_333 rfl ?_
                                            refine z_uV2 (ci := 6) zm_X6_date (q_dateW hp hA hd (by omega) (x := nI bs) eb) rfl zl_L_26 rfl rfl (by decide) hO.1 hO.2 (by decide) (Nat.le_of_ble_eq_true rfl) dL_dates_334 (fun mm hp => ?_)
                                            refine z_imulN dL_dates_337 ?_
                                            refine z_icmp_gt 345 dL_dates_338 rfl (fun c338 => ?_) (fun c338 => ?_)
                                            · exact absurd c338 (nI_nlt (by omega) (by omega))
                                            · refine z_iconst (nI 1) dL_dates_341 rfl ?_
                                              refine z_goto 346 dL_dates_342 rfl ?_
                                              refine z_istore_n 1 rfl (Nat.le_of_ble_eq_true rfl) rfl dL_dates_346 ?_
                                              refine z_iincN (n := 1) 8 rfl rfl dL_dates_347 ?_
                                              refine z_goto 40 dL_dates_350 rfl ?_
                                              exact K _ mm hp
                                      · exact absurd c274 (by decide)
                                    · exact absurd c264 (by decide)
            · refine z_aload_n 0 rfl rfl dL_dates_127 ?_
              refine z_iload 8 rfl dL_dates_128 ?_
              refine z_iconst (nI 4) dL_dates_130 rfl ?_
              refine z_uV2 (ci := 6) zm_X6_right (q_rightW hp hA hr (by omega) e4) rfl zl_L_29 rfl rfl (by decide) hO.1 hO.2 (by decide) (Nat.le_of_ble_eq_true rfl) dL_dates_131 (fun mm hp => ?_)
              refine z_iload 6 rfl dL_dates_134 ?_
              refine z_icmp_ge 149 dL_dates_136 rfl (fun c136 => ?_) (fun c136 => ?_)
              · exact absurd (hlo.resolve_left c124) (Int32.not_lt.mpr c136)
              · refine z_aload_n 0 rfl rfl dL_dates_139 ?_
                refine z_iload 8 rfl dL_dates_140 ?_
                refine z_iconst (nI 4) dL_dates_142 rfl ?_
                refine z_uV2 (ci := 6) zm_X6_right (q_rightW hp hA hr (by omega) e4) rfl zl_L_29 rfl rfl (by decide) hO.1 hO.2 (by decide) (Nat.le_of_ble_eq_true rfl) dL_dates_143 (fun mm hp => ?_)
                refine z_goto 151 dL_dates_146 rfl ?_
                refine z_istore 6 (Nat.le_of_ble_eq_true rfl) rfl dL_dates_151 ?_
                refine z_iload_n 1 rfl rfl dL_dates_153 ?_
                refine z_if_eq 249 dL_dates_154 rfl (fun c154 => ?_) (fun c154 => ?_)
                · exact absurd c154 (by decide)
                · refine z_iload 9 rfl dL_dates_157 ?_
                  refine z_iconst (nI 1) dL_dates_159 rfl ?_
                  refine z_icmp_gt 168 dL_dates_160 rfl (fun c160 => ?_) (fun c160 => ?_)
                  · exact absurd c160 (by decide)
                  · refine z_iload 7 rfl dL_dates_163 ?_
                    refine z_if_le 249 dL_dates_165 rfl (fun c165 => ?_) (fun c165 => ?_)
                    · exact absurd c165 (nI_nle (by omega) (by omega))
                    · refine z_iload 9 rfl dL_dates_168 ?_
                      refine z_iconst (nI 1) dL_dates_170 rfl ?_
                      refine z_icmp_ne 178 dL_dates_171 rfl (fun c171 => ?_) (fun c171 => ?_)
                      · exact absurd c171 (by decide)
                      · refine z_iconst (nI 1) dL_dates_174 rfl ?_
                        refine z_goto 179 dL_dates_175 rfl ?_
                        refine z_aload_n 0 rfl rfl dL_dates_179 ?_
                        refine z_iload 8 rfl dL_dates_180 ?_
                        refine z_iconst (nI 4) dL_dates_182 rfl ?_
                        refine z_uV2 (ci := 6) zm_X6_right (q_rightW hp hA hr (by omega) e4) rfl zl_L_29 rfl rfl (by decide) hO.1 hO.2 (by decide) (Nat.le_of_ble_eq_true rfl) dL_dates_183 (fun mm hp => ?_)
                        refine z_if_le 193 dL_dates_186 rfl (fun c186 => ?_) (fun c186 => ?_)
                        · exact absurd c186 (nI_nle (by omega) (by omega))
                        · refine z_iconst (nI 1) dL_dates_189 rfl ?_
                          refine z_goto 194 dL_dates_190 rfl ?_
                          refine z_icmp_ne 249 dL_dates_194 rfl (fun c194 => ?_) (fun c194 => ?_)
                          · exact absurd c194 (by decide)
                          · refine z_iload 9 rfl dL_dates_197 ?_
                            refine z_iconst (nI 2) dL_dates_199 rfl ?_
                            refine z_icmp_ge 207 dL_dates_200 rfl (fun c200 => ?_) (fun c200 => ?_)
                            · exact absurd c200 (by decide)
                            · refine z_iconst (nI 1) dL_dates_203 rfl ?_
                              refine z_goto 208 dL_dates_204 rfl ?_
                              refine z_aload_n 0 rfl rfl dL_dates_208 ?_
                              refine z_iload 8 rfl dL_dates_209 ?_
                              refine z_bipush (nI 7) dL_dates_211 rfl ?_
                              refine z_uV2 (ci := 6) zm_X6_right (q_right hp hA e7) rfl zl_L_29 rfl rfl (by decide) hO.1 hO.2 (by decide) (Nat.le_of_ble_eq_true rfl) dL_dates_213 (fun mm hp => ?_)
                              refine z_if_lt 223 dL_dates_216 rfl (fun c216 => ?_) (fun c216 => ?_)
                              · exact absurd c216 (nI_pos (by omega))
                              · refine z_iconst (nI 1) dL_dates_219 rfl ?_
                                refine z_goto 224 dL_dates_220 rfl ?_
                                refine z_icmp_ne 249 dL_dates_224 rfl (fun c224 => ?_) (fun c224 => ?_)
                                · exact absurd c224 (by decide)
                                · refine z_aload_n 0 rfl rfl dL_dates_227 ?_
                                  refine z_iload 8 rfl dL_dates_228 ?_
                                  refine z_bipush (nI 7) dL_dates_230 rfl ?_
                                  refine z_uV2 (ci := 6) zm_X6_right (q_right hp hA e7) rfl zl_L_29 rfl rfl (by decide) hO.1 hO.2 (by decide) (Nat.le_of_ble_eq_true rfl) dL_dates_232 (fun mm hp => ?_)
                                  refine z_aload_n 0 rfl rfl dL_dates_235 ?_
                                  refine z_iload 8 rfl dL_dates_236 ?_
                                  refine z_iconst (nI 2) dL_dates_238 rfl ?_
                                  refine z_uV2 (ci := 6) zm_X6_right (q_rightW hp hA hr (by omega) e2) rfl zl_L_29 rfl rfl (by decide) hO.1 hO.2 (by decide) (Nat.le_of_ble_eq_true rfl) dL_dates_239 (fun mm hp => ?_)
                                  refine z_icmp_gt 249 dL_dates_242 rfl (fun c242 => ?_) (fun c242 => ?_)
                                  · exact absurd c242 (nI_nlt (by omega) (by omega))
                                  · refine z_iconst (nI 1) dL_dates_245 rfl ?_
                                    refine z_goto 250 dL_dates_246 rfl ?_
                                    refine z_istore_n 1 rfl (Nat.le_of_ble_eq_true rfl) rfl dL_dates_250 ?_
                                    refine z_iload_n 1 rfl rfl dL_dates_251 ?_
                                    refine z_if_eq 345 dL_dates_252 rfl (fun c252 => ?_) (fun c252 => ?_)
                                    · exact absurd c252 (by decide)
                                    · refine z_aload_n 0 rfl rfl dL_dates_255 ?_
                                      refine z_iload 8 rfl dL_dates_256 ?_
                                      refine z_bipush (nI 8) dL_dates_258 rfl ?_
                                      refine z_uV2 (ci := 6) zm_X6_right (q_right hp hA e8) rfl zl_L_29 rfl rfl (by decide) hO.1 hO.2 (by decide) (Nat.le_of_ble_eq_true rfl) dL_dates_260 (fun mm hp => ?_)
                                      refine z_iconst (nI 1) dL_dates_263 rfl ?_
                                      refine z_icmp_ne 271 dL_dates_264 rfl (fun c264 => ?_) (fun c264 => ?_)
                                      · refine z_iconst (nI 0) dL_dates_271 rfl ?_
                                        refine z_iload 9 rfl dL_dates_272 ?_
                                        refine z_if_ne 313 dL_dates_274 rfl (fun c274 => ?_) (fun c274 => ?_)
                                        · refine z_iconst (nI 0) dL_dates_313 rfl ?_
                                          refine z_icmp_ne 345 dL_dates_314 rfl (fun c314 => ?_) (fun c314 => ?_)
                                          · exact absurd c314 (by decide)
                                          · refine z_iload 9 rfl dL_dates_317 ?_
                                            refine z_iconst (nI 1) dL_dates_319 rfl ?_
                                            refine z_icmp_ne 341 dL_dates_320 rfl (fun c320 => ?_) (fun c320 => ?_)
                                            · exact absurd c320 (by decide)
                                            · refine z_aload_n 0 rfl rfl dL_dates_323 ?_
                                              refine z_iload 8 rfl dL_dates_324 ?_
                                              refine z_iconst (nI 4) dL_dates_326 rfl ?_
                                              refine z_uV2 (ci := 6) zm_X6_right (q_rightW hp hA hr (by omega) e4) rfl zl_L_29 rfl rfl (by decide) hO.1 hO.2 (by decide) (Nat.le_of_ble_eq_true rfl) dL_dates_327 (fun mm hp => ?_)
                                              refine z_iconst (nI 2) dL_dates_330 rfl ?_
                                              refine z_aload_n 0 rfl rfl dL_dates_331 ?_
                                              refine z_iload_n 2 rfl rfl dL_dates_332 ?_
                                              refine z_iconst (nI 3) dL_dates_333 rfl ?_
                                              refine z_uV2 (ci := 6) zm_X6_date (q_dateW hp hA hd (by omega) (x := nI bs) eb) rfl zl_L_26 rfl rfl (by decide) hO.1 hO.2 (by decide) (Nat.le_of_ble_eq_true rfl) dL_dates_334 (fun mm hp => ?_)
                                              refine z_imulN dL_dates_337 ?_
                                              refine z_icmp_gt 345 dL_dates_338 rfl (fun c338 => ?_) (fun c338 => ?_)
                                              · exact absurd c338 (nI_nlt (by omega) (by omega))
                                              · refine z_iconst (nI 1) dL_dates_341 rfl ?_
                                                refine z_goto 346 dL_dates_342 rfl ?_
                                                refine z_istore_n 1 rfl (Nat.le_of_ble_eq_true rfl) rfl dL_dates_346 ?_
                                                refine z_iincN (n := 1) 8 rfl rfl dL_dates_347 ?_
                                                refine z_goto 40 dL_dates_350 rfl ?_
                                                exact K _ mm hp
                                        · exact absurd c274 (by decide)
                                      · exact absurd c264 (by decide)
        · exact absurd c105 (by decide)
set_option maxRecDepth 4000 in
set_option maxHeartbeats 4000000 in
theorem l_dates_s1k {l : Launch} {G : zG} {Bs : Nat → Nat → Nat} {O : Nat → Nat} {v w : Nat → Int32} {hk : Int32} (hO : O 0 ∈ zL G ∧ zsh G (O 0) = (6, 5)) (hA : zAll v) {d L p su bs W cd r A B C c k : Nat} {lo : Int32} {x9 : Option Value} (hd : d < nD v) (hr : r < nR v) (F : dF v d L p su bs W cd) (e0 : v (147 + 7 * r + 0) = nI d) (e3 : v (147 + 7 * r + 3) = nI 1) (hc : c ≤ 700000) (e2 : v (147 + 7 * r + 2) = nI c) (hk7 : k ≤ c) (e7 : sRight v (nI r) (nI 7) = nI k) (hLp : 0 < L) {E : Nat} (e4 : v (147 + 7 * r + 4) = nI E) (hE1 : 1 ≤ E) (hE2 : E ≤ 2 * bs) (e8 : sRight v (nI r) (nI 8) = nI 0) (hlo : ¬ lo < 0) (hlo2 : ¬ nI E < lo) (K : ∀ (x9 : Option Value) (mm : zM), lT G Bs O v w hk mm → zV l G (yL_dates, cL_dates, 10, (some .boolean)) 7 (some (.int (zB true))) (lT G Bs O v w hk) 40 [some (.ref (O 0)), some (.int (nI 1)), some (.int (nI d)), some (.int (nI (A + 1))), some (.int (nI (B + 1))), some (.int (nI (C + 0))), some (.int (lo)), some (.int (nI L)), some (.int (nI (r + 1))), x9] [] mm) (mm : zM) (hp : lT G Bs O v w hk mm) : zV l G (yL_dates, cL_dates, 10, (some .boolean)) 7 (some (.int (zB true))) (lT G Bs O v w hk) 50 [some (.ref (O 0)), some (.int (nI 1)), some (.int (nI d)), some (.int (nI A)), some (.int (nI B)), some (.int (nI C)), some (.int (lo)), some (.int (nI L)), some (.int (nI r)), x9] [] mm := by
  obtain ⟨hL, eL, ⟨hp1, hp20, ep⟩, ⟨hsu, es⟩, ⟨hb1, hb, eb⟩, ⟨hW, eW⟩, ⟨hcd, ecd⟩, f1, f0⟩ := F
  have h10 := hA.1.1.1.1.1.2
  have h60 := hA.1.1.1.1.2.1.2
  refine z_aload_n 0 rfl rfl dL_dates_50 ?_
  refine z_iload 8 rfl dL_dates_51 ?_
  refine z_iconst (nI 3) dL_dates_53 rfl ?_
  refine z_uV2 (ci := 6) zm_X6_right (q_rightW hp hA hr (by omega) e3) rfl zl_L_29 rfl rfl (by decide) hO.1 hO.2 (by decide) (Nat.le_of_ble_eq_true rfl) dL_dates_54 (fun mm hp => ?_)
  refine z_istore 9 (Nat.le_of_ble_eq_true rfl) rfl dL_dates_57 ?_
  refine z_aload_n 0 rfl rfl dL_dates_59 ?_
  refine z_iload 8 rfl dL_dates_60 ?_
  refine z_iconst (nI 0) dL_dates_62 rfl ?_
  refine z_uV2 (ci := 6) zm_X6_right (q_rightW hp hA hr (by omega) e0) rfl zl_L_29 rfl rfl (by decide) hO.1 hO.2 (by decide) (Nat.le_of_ble_eq_true rfl) dL_dates_63 (fun mm hp => ?_)
  refine z_iload_n 2 rfl rfl dL_dates_66 ?_
  refine z_icmp_ne 347 dL_dates_67 rfl (fun c67 => ?_) (fun c67 => ?_)
  · exact absurd rfl c67
  · refine z_iload_n 3 rfl rfl dL_dates_70 ?_
    refine z_iload 9 rfl dL_dates_71 ?_
    refine z_iconst (nI 3) dL_dates_73 rfl ?_
    refine z_icmp_ge 81 dL_dates_74 rfl (fun c74 => ?_) (fun c74 => ?_)
    · exact absurd c74 (by decide)
    · refine z_iconst (nI 1) dL_dates_77 rfl ?_
      refine z_goto 82 dL_dates_78 rfl ?_
      refine z_iaddN dL_dates_82 ?_
      refine z_istore_n 3 rfl (Nat.le_of_ble_eq_true rfl) rfl dL_dates_83 ?_
      refine z_iload 4 rfl dL_dates_84 ?_
      refine z_iload 9 rfl dL_dates_86 ?_
      refine z_iconst (nI 1) dL_dates_88 rfl ?_
      refine z_icmp_ne 96 dL_dates_89 rfl (fun c89 => ?_) (fun c89 => ?_)
      · exact absurd c89 (by decide)
      · refine z_iconst (nI 1) dL_dates_92 rfl ?_
        refine z_goto 97 dL_dates_93 rfl ?_
        refine z_iaddN dL_dates_97 ?_
        refine z_istore 4 (Nat.le_of_ble_eq_true rfl) rfl dL_dates_98 ?_
        refine z_iload 5 rfl dL_dates_100 ?_
        refine z_iload 9 rfl dL_dates_102 ?_
        refine z_iconst (nI 2) dL_dates_104 rfl ?_
        refine z_icmp_ne 112 dL_dates_105 rfl (fun c105 => ?_) (fun c105 => ?_)
        · refine z_iconst (nI 0) dL_dates_112 rfl ?_
          refine z_iaddN dL_dates_113 ?_
          refine z_istore 5 (Nat.le_of_ble_eq_true rfl) rfl dL_dates_114 ?_
          refine z_iload 9 rfl dL_dates_116 ?_
          refine z_iconst (nI 1) dL_dates_118 rfl ?_
          refine z_icmp_ne 149 dL_dates_119 rfl (fun c119 => ?_) (fun c119 => ?_)
          · exact absurd c119 (by decide)
          · refine z_iload 6 rfl dL_dates_122 ?_
            refine z_if_lt 139 dL_dates_124 rfl (fun c124 => ?_) (fun c124 => ?_)
            · exact absurd c124 hlo
            · refine z_aload_n 0 rfl rfl dL_dates_127 ?_
              refine z_iload 8 rfl dL_dates_128 ?_
              refine z_iconst (nI 4) dL_dates_130 rfl ?_
              refine z_uV2 (ci := 6) zm_X6_right (q_rightW hp hA hr (by omega) e4) rfl zl_L_29 rfl rfl (by decide) hO.1 hO.2 (by decide) (Nat.le_of_ble_eq_true rfl) dL_dates_131 (fun mm hp => ?_)
              refine z_iload 6 rfl dL_dates_134 ?_
              refine z_icmp_ge 149 dL_dates_136 rfl (fun c136 => ?_) (fun c136 => ?_)
              · refine z_iload 6 rfl dL_dates_149 ?_
                refine z_istore 6 (Nat.le_of_ble_eq_true rfl) rfl dL_dates_151 ?_
                refine z_iload_n 1 rfl rfl dL_dates_153 ?_
                refine z_if_eq 249 dL_dates_154 rfl (fun c154 => ?_) (fun c154 => ?_)
                · exact absurd c154 (by decide)
                · refine z_iload 9 rfl dL_dates_157 ?_
                  refine z_iconst (nI 1) dL_dates_159 rfl ?_
                  refine z_icmp_gt 168 dL_dates_160 rfl (fun c160 => ?_) (fun c160 => ?_)
                  · exact absurd c160 (by decide)
                  · refine z_iload 7 rfl dL_dates_163 ?_
                    refine z_if_le 249 dL_dates_165 rfl (fun c165 => ?_) (fun c165 => ?_)
                    · exact absurd c165 (nI_nle (by omega) (by omega))
                    · refine z_iload 9 rfl dL_dates_168 ?_
                      refine z_iconst (nI 1) dL_dates_170 rfl ?_
                      refine z_icmp_ne 178 dL_dates_171 rfl (fun c171 => ?_) (fun c171 => ?_)
                      · exact absurd c171 (by decide)
                      · refine z_iconst (nI 1) dL_dates_174 rfl ?_
                        refine z_goto 179 dL_dates_175 rfl ?_
                        refine z_aload_n 0 rfl rfl dL_dates_179 ?_
                        refine z_iload 8 rfl dL_dates_180 ?_
                        refine z_iconst (nI 4) dL_dates_182 rfl ?_
                        refine z_uV2 (ci := 6) zm_X6_right (q_rightW hp hA hr (by omega) e4) rfl zl_L_29 rfl rfl (by decide) hO.1 hO.2 (by decide) (Nat.le_of_ble_eq_true rfl) dL_dates_183 (fun mm hp => ?_)
                        refine z_if_le 193 dL_dates_186 rfl (fun c186 => ?_) (fun c186 => ?_)
                        · exact absurd c186 (nI_nle (by omega) (by omega))
                        · refine z_iconst (nI 1) dL_dates_189 rfl ?_
                          refine z_goto 194 dL_dates_190 rfl ?_
                          refine z_icmp_ne 249 dL_dates_194 rfl (fun c194 => ?_) (fun c194 => ?_)
                          · exact absurd c194 (by decide)
                          · refine z_iload 9 rfl dL_dates_197 ?_
                            refine z_iconst (nI 2) dL_dates_199 rfl ?_
                            refine z_icmp_ge 207 dL_dates_200 rfl (fun c200 => ?_) (fun c200 => ?_)
                            · exact absurd c200 (by decide)
                            · refine z_iconst (nI 1) dL_dates_203 rfl ?_
                              refine z_goto 208 dL_dates_204 rfl ?_
                              refine z_aload_n 0 rfl rfl dL_dates_208 ?_
                              refine z_iload 8 rfl dL_dates_209 ?_
                              refine z_bipush (nI 7) dL_dates_211 rfl ?_
                              refine z_uV2 (ci := 6) zm_X6_right (q_right hp hA e7) rfl zl_L_29 rfl rfl (by decide) hO.1 hO.2 (by decide) (Nat.le_of_ble_eq_true rfl) dL_dates_213 (fun mm hp => ?_)
                              refine z_if_lt 223 dL_dates_216 rfl (fun c216 => ?_) (fun c216 => ?_)
                              · exact absurd c216 (nI_pos (by omega))
                              · refine z_iconst (nI 1) dL_dates_219 rfl ?_
                                refine z_goto 224 dL_dates_220 rfl ?_
                                refine z_icmp_ne 249 dL_dates_224 rfl (fun c224 => ?_) (fun c224 => ?_)
                                · exact absurd c224 (by decide)
                                · refine z_aload_n 0 rfl rfl dL_dates_227 ?_
                                  refine z_iload 8 rfl dL_dates_228 ?_
                                  refine z_bipush (nI 7) dL_dates_230 rfl ?_
                                  refine z_uV2 (ci := 6) zm_X6_right (q_right hp hA e7) rfl zl_L_29 rfl rfl (by decide) hO.1 hO.2 (by decide) (Nat.le_of_ble_eq_true rfl) dL_dates_232 (fun mm hp => ?_)
                                  refine z_aload_n 0 rfl rfl dL_dates_235 ?_
                                  refine z_iload 8 rfl dL_dates_236 ?_
                                  refine z_iconst (nI 2) dL_dates_238 rfl ?_
                                  refine z_uV2 (ci := 6) zm_X6_right (q_rightW hp hA hr (by omega) e2) rfl zl_L_29 rfl rfl (by decide) hO.1 hO.2 (by decide) (Nat.le_of_ble_eq_true rfl) dL_dates_239 (fun mm hp => ?_)
                                  refine z_icmp_gt 249 dL_dates_242 rfl (fun c242 => ?_) (fun c242 => ?_)
                                  · exact absurd c242 (nI_nlt (by omega) (by omega))
                                  · refine z_iconst (nI 1) dL_dates_245 rfl ?_
                                    refine z_goto 250 dL_dates_246 rfl ?_
                                    refine z_istore_n 1 rfl (Nat.le_of_ble_eq_true rfl) rfl dL_dates_250 ?_
                                    refine z_iload_n 1 rfl rfl dL_dates_251 ?_
                                    refine z_if_eq 345 dL_dates_252 rfl (fun c252 => ?_) (fun c252 => ?_)
                                    · exact absurd c252 (by decide)
                                    · refine z_aload_n 0 rfl rfl dL_dates_255 ?_
                                      refine z_iload 8 rfl dL_dates_256 ?_
                                      refine z_bipush (nI 8) dL_dates_258 rfl ?_
                                      refine z_uV2 (ci := 6) zm_X6_right (q_right hp hA e8) rfl zl_L_29 rfl rfl (by decide) hO.1 hO.2 (by decide) (Nat.le_of_ble_eq_true rfl) dL_dates_260 (fun mm hp => ?_)
                                      refine z_iconst (nI 1) dL_dates_263 rfl ?_
                                      refine z_icmp_ne 271 dL_dates_264 rfl (fun c264 => ?_) (fun c264 => ?_)
                                      · refine z_iconst (nI 0) dL_dates_271 rfl ?_
                                        refine z_iload 9 rfl dL_dates_272 ?_
                                        refine z_if_ne 313 dL_dates_274 rfl (fun c274 => ?_) (fun c274 => ?_)
                                        · refine z_iconst (nI 0) dL_dates_313 rfl ?_
                                          refine z_icmp_ne 345 dL_dates_314 rfl (fun c314 => ?_) (fun c314 => ?_)
                                          · exact absurd c314 (by decide)
                                          · refine z_iload 9 rfl dL_dates_317 ?_
                                            refine z_iconst (nI 1) dL_dates_319 rfl ?_
                                            refine z_icmp_ne 341 dL_dates_320 rfl (fun c320 => ?_) (fun c320 => ?_)
                                            · exact absurd c320 (by decide)
                                            · refine z_aload_n 0 rfl rfl dL_dates_323 ?_
                                              refine z_iload 8 rfl dL_dates_324 ?_
                                              refine z_iconst (nI 4) dL_dates_326 rfl ?_
                                              refine z_uV2 (ci := 6) zm_X6_right (q_rightW hp hA hr (by omega) e4) rfl zl_L_29 rfl rfl (by decide) hO.1 hO.2 (by decide) (Nat.le_of_ble_eq_true rfl) dL_dates_327 (fun mm hp => ?_)
                                              refine z_iconst (nI 2) dL_dates_330 rfl ?_
                                              refine z_aload_n 0 rfl rfl dL_dates_331 ?_
                                              refine z_iload_n 2 rfl rfl dL_dates_332 ?_
                                              refine z_iconst (nI 3) dL_dates_333 rfl ?_
                                              refine z_uV2 (ci := 6) zm_X6_date (q_dateW hp hA hd (by omega) (x := nI bs) eb) rfl zl_L_26 rfl rfl (by decide) hO.1 hO.2 (by decide) (Nat.le_of_ble_eq_true rfl) dL_dates_334 (fun mm hp => ?_)
                                              refine z_imulN dL_dates_337 ?_
                                              refine z_icmp_gt 345 dL_dates_338 rfl (fun c338 => ?_) (fun c338 => ?_)
                                              · exact absurd c338 (nI_nlt (by omega) (by omega))
                                              · refine z_iconst (nI 1) dL_dates_341 rfl ?_
                                                refine z_goto 346 dL_dates_342 rfl ?_
                                                refine z_istore_n 1 rfl (Nat.le_of_ble_eq_true rfl) rfl dL_dates_346 ?_
                                                refine z_iincN (n := 1) 8 rfl rfl dL_dates_347 ?_
                                                refine z_goto 40 dL_dates_350 rfl ?_
                                                exact K _ mm hp
                                        · exact absurd c274 (by decide)
                                      · exact absurd c264 (by decide)
              · exact absurd (Int32.not_le.mp c136) hlo2
        · exact absurd c105 (by decide)
set_option maxRecDepth 4000 in
set_option maxHeartbeats 4000000 in
theorem l_dates_ne {l : Launch} {G : zG} {Bs : Nat → Nat → Nat} {O : Nat → Nat} {v w : Nat → Int32} {hk : Int32} (hO : O 0 ∈ zL G ∧ zsh G (O 0) = (6, 5)) (hA : zAll v) {d L r A B C : Nat} {lo : Int32} {x9 : Option Value} (hr : r < nR v) (hdd : ¬ v (147 + 7 * r + 0) = nI d) (K : ∀ (x9 : Option Value) (mm : zM), lT G Bs O v w hk mm → zV l G (yL_dates, cL_dates, 10, (some .boolean)) 7 (some (.int (zB true))) (lT G Bs O v w hk) 40 [some (.ref (O 0)), some (.int (nI 1)), some (.int (nI d)), some (.int (nI A)), some (.int (nI B)), some (.int (nI C)), some (.int (lo)), some (.int (nI L)), some (.int (nI (r + 1))), x9] [] mm) (mm : zM) (hp : lT G Bs O v w hk mm) : zV l G (yL_dates, cL_dates, 10, (some .boolean)) 7 (some (.int (zB true))) (lT G Bs O v w hk) 50 [some (.ref (O 0)), some (.int (nI 1)), some (.int (nI d)), some (.int (nI A)), some (.int (nI B)), some (.int (nI C)), some (.int (lo)), some (.int (nI L)), some (.int (nI r)), x9] [] mm := by
  refine z_aload_n 0 rfl rfl dL_dates_50 ?_
  refine z_iload 8 rfl dL_dates_51 ?_
  refine z_iconst (nI 3) dL_dates_53 rfl ?_
  refine z_uV2 (ci := 6) zm_X6_right (q_rightW hp hA hr (by omega) rfl) rfl zl_L_29 rfl rfl (by decide) hO.1 hO.2 (by decide) (Nat.le_of_ble_eq_true rfl) dL_dates_54 (fun mm hp => ?_)
  refine z_istore 9 (Nat.le_of_ble_eq_true rfl) rfl dL_dates_57 ?_
  refine z_aload_n 0 rfl rfl dL_dates_59 ?_
  refine z_iload 8 rfl dL_dates_60 ?_
  refine z_iconst (nI 0) dL_dates_62 rfl ?_
  refine z_uV2 (ci := 6) zm_X6_right (q_rightW hp hA hr (by omega) rfl) rfl zl_L_29 rfl rfl (by decide) hO.1 hO.2 (by decide) (Nat.le_of_ble_eq_true rfl) dL_dates_63 (fun mm hp => ?_)
  refine z_iload_n 2 rfl rfl dL_dates_66 ?_
  refine z_icmp_ne 347 dL_dates_67 rfl (fun c67 => ?_) (fun c67 => ?_)
  · refine z_iincN (n := 1) 8 rfl rfl dL_dates_347 ?_
    refine z_goto 40 dL_dates_350 rfl ?_
    exact K _ mm hp
  · exact absurd c67 hdd
set_option maxRecDepth 4000 in
set_option maxHeartbeats 4000000 in
theorem l_dates_s2 {l : Launch} {G : zG} {Bs : Nat → Nat → Nat} {O : Nat → Nat} {v w : Nat → Int32} {hk : Int32} (hO : O 0 ∈ zL G ∧ zsh G (O 0) = (6, 5)) (hA : zAll v) {d L p su bs W cd r A B C c k : Nat} {lo : Int32} {x9 : Option Value} (hd : d < nD v) (hr : r < nR v) (F : dF v d L p su bs W cd) (e0 : v (147 + 7 * r + 0) = nI d) (e3 : v (147 + 7 * r + 3) = nI 2) (hc : c ≤ 700000) (e2 : v (147 + 7 * r + 2) = nI c) (e7 : sRight v (nI r) (nI 7) = -5) (e4 : v (147 + 7 * r + 4) = -5) (e8 : sRight v (nI r) (nI 8) = nI 0) (K : ∀ (x9 : Option Value) (mm : zM), lT G Bs O v w hk mm → zV l G (yL_dates, cL_dates, 10, (some .boolean)) 7 (some (.int (zB true))) (lT G Bs O v w hk) 40 [some (.ref (O 0)), some (.int (nI 1)), some (.int (nI d)), some (.int (nI (A + 1))), some (.int (nI (B + 0))), some (.int (nI (C + 1))), some (.int (lo)), some (.int (nI L)), some (.int (nI (r + 1))), x9] [] mm) (mm : zM) (hp : lT G Bs O v w hk mm) : zV l G (yL_dates, cL_dates, 10, (some .boolean)) 7 (some (.int (zB true))) (lT G Bs O v w hk) 50 [some (.ref (O 0)), some (.int (nI 1)), some (.int (nI d)), some (.int (nI A)), some (.int (nI B)), some (.int (nI C)), some (.int (lo)), some (.int (nI L)), some (.int (nI r)), x9] [] mm := by
  obtain ⟨hL, eL, ⟨hp1, hp20, ep⟩, ⟨hsu, es⟩, ⟨hb1, hb, eb⟩, ⟨hW, eW⟩, ⟨hcd, ecd⟩, f1, f0⟩ := F
  have h10 := hA.1.1.1.1.1.2
  have h60 := hA.1.1.1.1.2.1.2
  refine z_aload_n 0 rfl rfl dL_dates_50 ?_
  refine z_iload 8 rfl dL_dates_51 ?_
  refine z_iconst (nI 3) dL_dates_53 rfl ?_
  refine z_uV2 (ci := 6) zm_X6_right (q_rightW hp hA hr (by omega) e3) rfl zl_L_29 rfl rfl (by decide) hO.1 hO.2 (by decide) (Nat.le_of_ble_eq_true rfl) dL_dates_54 (fun mm hp => ?_)
  refine z_istore 9 (Nat.le_of_ble_eq_true rfl) rfl dL_dates_57 ?_
  refine z_aload_n 0 rfl rfl dL_dates_59 ?_
  refine z_iload 8 rfl dL_dates_60 ?_
  refine z_iconst (nI 0) dL_dates_62 rfl ?_
  refine z_uV2 (ci := 6) zm_X6_right (q_rightW hp hA hr (by omega) e0) rfl zl_L_29 rfl rfl (by decide) hO.1 hO.2 (by decide) (Nat.le_of_ble_eq_true rfl) dL_dates_63 (fun mm hp => ?_)
  refine z_iload_n 2 rfl rfl dL_dates_66 ?_
  refine z_icmp_ne 347 dL_dates_67 rfl (fun c67 => ?_) (fun c67 => ?_)
  · exact absurd rfl c67
  · refine z_iload_n 3 rfl rfl dL_dates_70 ?_
    refine z_iload 9 rfl dL_dates_71 ?_
    refine z_iconst (nI 3) dL_dates_73 rfl ?_
    refine z_icmp_ge 81 dL_dates_74 rfl (fun c74 => ?_) (fun c74 => ?_)
    · exact absurd c74 (by decide)
    · refine z_iconst (nI 1) dL_dates_77 rfl ?_
      refine z_goto 82 dL_dates_78 rfl ?_
      refine z_iaddN dL_dates_82 ?_
      refine z_istore_n 3 rfl (Nat.le_of_ble_eq_true rfl) rfl dL_dates_83 ?_
      refine z_iload 4 rfl dL_dates_84 ?_
      refine z_iload 9 rfl dL_dates_86 ?_
      refine z_iconst (nI 1) dL_dates_88 rfl ?_
      refine z_icmp_ne 96 dL_dates_89 rfl (fun c89 => ?_) (fun c89 => ?_)
      · refine z_iconst (nI 0) dL_dates_96 rfl ?_
        refine z_iaddN dL_dates_97 ?_
        refine z_istore 4 (Nat.le_of_ble_eq_true rfl) rfl dL_dates_98 ?_
        refine z_iload 5 rfl dL_dates_100 ?_
        refine z_iload 9 rfl dL_dates_102 ?_
        refine z_iconst (nI 2) dL_dates_104 rfl ?_
        refine z_icmp_ne 112 dL_dates_105 rfl (fun c105 => ?_) (fun c105 => ?_)
        · exact absurd c105 (by decide)
        · refine z_iconst (nI 1) dL_dates_108 rfl ?_
          refine z_goto 113 dL_dates_109 rfl ?_
          refine z_iaddN dL_dates_113 ?_
          refine z_istore 5 (Nat.le_of_ble_eq_true rfl) rfl dL_dates_114 ?_
          refine z_iload 9 rfl dL_dates_116 ?_
          refine z_iconst (nI 1) dL_dates_118 rfl ?_
          refine z_icmp_ne 149 dL_dates_119 rfl (fun c119 => ?_) (fun c119 => ?_)
          · refine z_iload 6 rfl dL_dates_149 ?_
            refine z_istore 6 (Nat.le_of_ble_eq_true rfl) rfl dL_dates_151 ?_
            refine z_iload_n 1 rfl rfl dL_dates_153 ?_
            refine z_if_eq 249 dL_dates_154 rfl (fun c154 => ?_) (fun c154 => ?_)
            · exact absurd c154 (by decide)
            · refine z_iload 9 rfl dL_dates_157 ?_
              refine z_iconst (nI 1) dL_dates_159 rfl ?_
              refine z_icmp_gt 168 dL_dates_160 rfl (fun c160 => ?_) (fun c160 => ?_)
              · refine z_iload 9 rfl dL_dates_168 ?_
                refine z_iconst (nI 1) dL_dates_170 rfl ?_
                refine z_icmp_ne 178 dL_dates_171 rfl (fun c171 => ?_) (fun c171 => ?_)
                · refine z_iconst (nI 0) dL_dates_178 rfl ?_
                  refine z_aload_n 0 rfl rfl dL_dates_179 ?_
                  refine z_iload 8 rfl dL_dates_180 ?_
                  refine z_iconst (nI 4) dL_dates_182 rfl ?_
                  refine z_uV2 (ci := 6) zm_X6_right (q_rightW hp hA hr (by omega) e4) rfl zl_L_29 rfl rfl (by decide) hO.1 hO.2 (by decide) (Nat.le_of_ble_eq_true rfl) dL_dates_183 (fun mm hp => ?_)
                  refine z_if_le 193 dL_dates_186 rfl (fun c186 => ?_) (fun c186 => ?_)
                  · refine z_iconst (nI 0) dL_dates_193 rfl ?_
                    refine z_icmp_ne 249 dL_dates_194 rfl (fun c194 => ?_) (fun c194 => ?_)
                    · exact absurd c194 (by decide)
                    · refine z_iload 9 rfl dL_dates_197 ?_
                      refine z_iconst (nI 2) dL_dates_199 rfl ?_
                      refine z_icmp_ge 207 dL_dates_200 rfl (fun c200 => ?_) (fun c200 => ?_)
                      · refine z_iconst (nI 0) dL_dates_207 rfl ?_
                        refine z_aload_n 0 rfl rfl dL_dates_208 ?_
                        refine z_iload 8 rfl dL_dates_209 ?_
                        refine z_bipush (nI 7) dL_dates_211 rfl ?_
                        refine z_uV2 (ci := 6) zm_X6_right (q_right hp hA e7) rfl zl_L_29 rfl rfl (by decide) hO.1 hO.2 (by decide) (Nat.le_of_ble_eq_true rfl) dL_dates_213 (fun mm hp => ?_)
                        refine z_if_lt 223 dL_dates_216 rfl (fun c216 => ?_) (fun c216 => ?_)
                        · refine z_iconst (nI 0) dL_dates_223 rfl ?_
                          refine z_icmp_ne 249 dL_dates_224 rfl (fun c224 => ?_) (fun c224 => ?_)
                          · exact absurd c224 (by decide)
                          · refine z_aload_n 0 rfl rfl dL_dates_227 ?_
                            refine z_iload 8 rfl dL_dates_228 ?_
                            refine z_bipush (nI 7) dL_dates_230 rfl ?_
                            refine z_uV2 (ci := 6) zm_X6_right (q_right hp hA e7) rfl zl_L_29 rfl rfl (by decide) hO.1 hO.2 (by decide) (Nat.le_of_ble_eq_true rfl) dL_dates_232 (fun mm hp => ?_)
                            refine z_aload_n 0 rfl rfl dL_dates_235 ?_
                            refine z_iload 8 rfl dL_dates_236 ?_
                            refine z_iconst (nI 2) dL_dates_238 rfl ?_
                            refine z_uV2 (ci := 6) zm_X6_right (q_rightW hp hA hr (by omega) e2) rfl zl_L_29 rfl rfl (by decide) hO.1 hO.2 (by decide) (Nat.le_of_ble_eq_true rfl) dL_dates_239 (fun mm hp => ?_)
                            refine z_icmp_gt 249 dL_dates_242 rfl (fun c242 => ?_) (fun c242 => ?_)
                            · exact absurd c242 (nI_m5 (by omega))
                            · refine z_iconst (nI 1) dL_dates_245 rfl ?_
                              refine z_goto 250 dL_dates_246 rfl ?_
                              refine z_istore_n 1 rfl (Nat.le_of_ble_eq_true rfl) rfl dL_dates_250 ?_
                              refine z_iload_n 1 rfl rfl dL_dates_251 ?_
                              refine z_if_eq 345 dL_dates_252 rfl (fun c252 => ?_) (fun c252 => ?_)
                              · exact absurd c252 (by decide)
                              · refine z_aload_n 0 rfl rfl dL_dates_255 ?_
                                refine z_iload 8 rfl dL_dates_256 ?_
                                refine z_bipush (nI 8) dL_dates_258 rfl ?_
                                refine z_uV2 (ci := 6) zm_X6_right (q_right hp hA e8) rfl zl_L_29 rfl rfl (by decide) hO.1 hO.2 (by decide) (Nat.le_of_ble_eq_true rfl) dL_dates_260 (fun mm hp => ?_)
                                refine z_iconst (nI 1) dL_dates_263 rfl ?_
                                refine z_icmp_ne 271 dL_dates_264 rfl (fun c264 => ?_) (fun c264 => ?_)
                                · refine z_iconst (nI 0) dL_dates_271 rfl ?_
                                  refine z_iload 9 rfl dL_dates_272 ?_
                                  refine z_if_ne 313 dL_dates_274 rfl (fun c274 => ?_) (fun c274 => ?_)
                                  · refine z_iconst (nI 0) dL_dates_313 rfl ?_
                                    refine z_icmp_ne 345 dL_dates_314 rfl (fun c314 => ?_) (fun c314 => ?_)
                                    · exact absurd c314 (by decide)
                                    · refine z_iload 9 rfl dL_dates_317 ?_
                                      refine z_iconst (nI 1) dL_dates_319 rfl ?_
                                      refine z_icmp_ne 341 dL_dates_320 rfl (fun c320 => ?_) (fun c320 => ?_)
                                      · refine z_iconst (nI 1) dL_dates_341 rfl ?_
                                        refine z_goto 346 dL_dates_342 rfl ?_
                                        refine z_istore_n 1 rfl (Nat.le_of_ble_eq_true rfl) rfl dL_dates_346 ?_
                                        refine z_iincN (n := 1) 8 rfl rfl dL_dates_347 ?_
                                        refine z_goto 40 dL_dates_350 rfl ?_
                                        exact K _ mm hp
                                      · exact absurd c320 (by decide)
                                  · exact absurd c274 (by decide)
                                · exact absurd c264 (by decide)
                        · exact absurd c216 (by decide)
                      · exact absurd c200 (by decide)
                  · exact absurd c186 (by decide)
                · exact absurd c171 (by decide)
              · exact absurd c160 (by decide)
          · exact absurd c119 (by decide)
      · exact absurd c89 (by decide)
set_option maxRecDepth 4000 in
set_option maxHeartbeats 4000000 in
theorem l_dates_s3 {l : Launch} {G : zG} {Bs : Nat → Nat → Nat} {O : Nat → Nat} {v w : Nat → Int32} {hk : Int32} (hO : O 0 ∈ zL G ∧ zsh G (O 0) = (6, 5)) (hA : zAll v) {d L p su bs W cd r A B C c k : Nat} {lo : Int32} {x9 : Option Value} (hd : d < nD v) (hr : r < nR v) (F : dF v d L p su bs W cd) (e0 : v (147 + 7 * r + 0) = nI d) (e3 : v (147 + 7 * r + 3) = nI 3) (hc : c ≤ 700000) (e2 : v (147 + 7 * r + 2) = nI c) (e7 : sRight v (nI r) (nI 7) = -5) (e4 : v (147 + 7 * r + 4) = -5) (e8 : sRight v (nI r) (nI 8) = nI 0) (K : ∀ (x9 : Option Value) (mm : zM), lT G Bs O v w hk mm → zV l G (yL_dates, cL_dates, 10, (some .boolean)) 7 (some (.int (zB true))) (lT G Bs O v w hk) 40 [some (.ref (O 0)), some (.int (nI 1)), some (.int (nI d)), some (.int (nI (A + 0))), some (.int (nI (B + 0))), some (.int (nI (C + 0))), some (.int (lo)), some (.int (nI L)), some (.int (nI (r + 1))), x9] [] mm) (mm : zM) (hp : lT G Bs O v w hk mm) : zV l G (yL_dates, cL_dates, 10, (some .boolean)) 7 (some (.int (zB true))) (lT G Bs O v w hk) 50 [some (.ref (O 0)), some (.int (nI 1)), some (.int (nI d)), some (.int (nI A)), some (.int (nI B)), some (.int (nI C)), some (.int (lo)), some (.int (nI L)), some (.int (nI r)), x9] [] mm := by
  obtain ⟨hL, eL, ⟨hp1, hp20, ep⟩, ⟨hsu, es⟩, ⟨hb1, hb, eb⟩, ⟨hW, eW⟩, ⟨hcd, ecd⟩, f1, f0⟩ := F
  have h10 := hA.1.1.1.1.1.2
  have h60 := hA.1.1.1.1.2.1.2
  refine z_aload_n 0 rfl rfl dL_dates_50 ?_
  refine z_iload 8 rfl dL_dates_51 ?_
  refine z_iconst (nI 3) dL_dates_53 rfl ?_
  refine z_uV2 (ci := 6) zm_X6_right (q_rightW hp hA hr (by omega) e3) rfl zl_L_29 rfl rfl (by decide) hO.1 hO.2 (by decide) (Nat.le_of_ble_eq_true rfl) dL_dates_54 (fun mm hp => ?_)
  refine z_istore 9 (Nat.le_of_ble_eq_true rfl) rfl dL_dates_57 ?_
  refine z_aload_n 0 rfl rfl dL_dates_59 ?_
  refine z_iload 8 rfl dL_dates_60 ?_
  refine z_iconst (nI 0) dL_dates_62 rfl ?_
  refine z_uV2 (ci := 6) zm_X6_right (q_rightW hp hA hr (by omega) e0) rfl zl_L_29 rfl rfl (by decide) hO.1 hO.2 (by decide) (Nat.le_of_ble_eq_true rfl) dL_dates_63 (fun mm hp => ?_)
  refine z_iload_n 2 rfl rfl dL_dates_66 ?_
  refine z_icmp_ne 347 dL_dates_67 rfl (fun c67 => ?_) (fun c67 => ?_)
  · exact absurd rfl c67
  · refine z_iload_n 3 rfl rfl dL_dates_70 ?_
    refine z_iload 9 rfl dL_dates_71 ?_
    refine z_iconst (nI 3) dL_dates_73 rfl ?_
    refine z_icmp_ge 81 dL_dates_74 rfl (fun c74 => ?_) (fun c74 => ?_)
    · refine z_iconst (nI 0) dL_dates_81 rfl ?_
      refine z_iaddN dL_dates_82 ?_
      refine z_istore_n 3 rfl (Nat.le_of_ble_eq_true rfl) rfl dL_dates_83 ?_
      refine z_iload 4 rfl dL_dates_84 ?_
      refine z_iload 9 rfl dL_dates_86 ?_
      refine z_iconst (nI 1) dL_dates_88 rfl ?_
      refine z_icmp_ne 96 dL_dates_89 rfl (fun c89 => ?_) (fun c89 => ?_)
      · refine z_iconst (nI 0) dL_dates_96 rfl ?_
        refine z_iaddN dL_dates_97 ?_
        refine z_istore 4 (Nat.le_of_ble_eq_true rfl) rfl dL_dates_98 ?_
        refine z_iload 5 rfl dL_dates_100 ?_
        refine z_iload 9 rfl dL_dates_102 ?_
        refine z_iconst (nI 2) dL_dates_104 rfl ?_
        refine z_icmp_ne 112 dL_dates_105 rfl (fun c105 => ?_) (fun c105 => ?_)
        · refine z_iconst (nI 0) dL_dates_112 rfl ?_
          refine z_iaddN dL_dates_113 ?_
          refine z_istore 5 (Nat.le_of_ble_eq_true rfl) rfl dL_dates_114 ?_
          refine z_iload 9 rfl dL_dates_116 ?_
          refine z_iconst (nI 1) dL_dates_118 rfl ?_
          refine z_icmp_ne 149 dL_dates_119 rfl (fun c119 => ?_) (fun c119 => ?_)
          · refine z_iload 6 rfl dL_dates_149 ?_
            refine z_istore 6 (Nat.le_of_ble_eq_true rfl) rfl dL_dates_151 ?_
            refine z_iload_n 1 rfl rfl dL_dates_153 ?_
            refine z_if_eq 249 dL_dates_154 rfl (fun c154 => ?_) (fun c154 => ?_)
            · exact absurd c154 (by decide)
            · refine z_iload 9 rfl dL_dates_157 ?_
              refine z_iconst (nI 1) dL_dates_159 rfl ?_
              refine z_icmp_gt 168 dL_dates_160 rfl (fun c160 => ?_) (fun c160 => ?_)
              · refine z_iload 9 rfl dL_dates_168 ?_
                refine z_iconst (nI 1) dL_dates_170 rfl ?_
                refine z_icmp_ne 178 dL_dates_171 rfl (fun c171 => ?_) (fun c171 => ?_)
                · refine z_iconst (nI 0) dL_dates_178 rfl ?_
                  refine z_aload_n 0 rfl rfl dL_dates_179 ?_
                  refine z_iload 8 rfl dL_dates_180 ?_
                  refine z_iconst (nI 4) dL_dates_182 rfl ?_
                  refine z_uV2 (ci := 6) zm_X6_right (q_rightW hp hA hr (by omega) e4) rfl zl_L_29 rfl rfl (by decide) hO.1 hO.2 (by decide) (Nat.le_of_ble_eq_true rfl) dL_dates_183 (fun mm hp => ?_)
                  refine z_if_le 193 dL_dates_186 rfl (fun c186 => ?_) (fun c186 => ?_)
                  · refine z_iconst (nI 0) dL_dates_193 rfl ?_
                    refine z_icmp_ne 249 dL_dates_194 rfl (fun c194 => ?_) (fun c194 => ?_)
                    · exact absurd c194 (by decide)
                    · refine z_iload 9 rfl dL_dates_197 ?_
                      refine z_iconst (nI 2) dL_dates_199 rfl ?_
                      refine z_icmp_ge 207 dL_dates_200 rfl (fun c200 => ?_) (fun c200 => ?_)
                      · refine z_iconst (nI 0) dL_dates_207 rfl ?_
                        refine z_aload_n 0 rfl rfl dL_dates_208 ?_
                        refine z_iload 8 rfl dL_dates_209 ?_
                        refine z_bipush (nI 7) dL_dates_211 rfl ?_
                        refine z_uV2 (ci := 6) zm_X6_right (q_right hp hA e7) rfl zl_L_29 rfl rfl (by decide) hO.1 hO.2 (by decide) (Nat.le_of_ble_eq_true rfl) dL_dates_213 (fun mm hp => ?_)
                        refine z_if_lt 223 dL_dates_216 rfl (fun c216 => ?_) (fun c216 => ?_)
                        · refine z_iconst (nI 0) dL_dates_223 rfl ?_
                          refine z_icmp_ne 249 dL_dates_224 rfl (fun c224 => ?_) (fun c224 => ?_)
                          · exact absurd c224 (by decide)
                          · refine z_aload_n 0 rfl rfl dL_dates_227 ?_
                            refine z_iload 8 rfl dL_dates_228 ?_
                            refine z_bipush (nI 7) dL_dates_230 rfl ?_
                            refine z_uV2 (ci := 6) zm_X6_right (q_right hp hA e7) rfl zl_L_29 rfl rfl (by decide) hO.1 hO.2 (by decide) (Nat.le_of_ble_eq_true rfl) dL_dates_232 (fun mm hp => ?_)
                            refine z_aload_n 0 rfl rfl dL_dates_235 ?_
                            refine z_iload 8 rfl dL_dates_236 ?_
                            refine z_iconst (nI 2) dL_dates_238 rfl ?_
                            refine z_uV2 (ci := 6) zm_X6_right (q_rightW hp hA hr (by omega) e2) rfl zl_L_29 rfl rfl (by decide) hO.1 hO.2 (by decide) (Nat.le_of_ble_eq_true rfl) dL_dates_239 (fun mm hp => ?_)
                            refine z_icmp_gt 249 dL_dates_242 rfl (fun c242 => ?_) (fun c242 => ?_)
                            · exact absurd c242 (nI_m5 (by omega))
                            · refine z_iconst (nI 1) dL_dates_245 rfl ?_
                              refine z_goto 250 dL_dates_246 rfl ?_
                              refine z_istore_n 1 rfl (Nat.le_of_ble_eq_true rfl) rfl dL_dates_250 ?_
                              refine z_iload_n 1 rfl rfl dL_dates_251 ?_
                              refine z_if_eq 345 dL_dates_252 rfl (fun c252 => ?_) (fun c252 => ?_)
                              · exact absurd c252 (by decide)
                              · refine z_aload_n 0 rfl rfl dL_dates_255 ?_
                                refine z_iload 8 rfl dL_dates_256 ?_
                                refine z_bipush (nI 8) dL_dates_258 rfl ?_
                                refine z_uV2 (ci := 6) zm_X6_right (q_right hp hA e8) rfl zl_L_29 rfl rfl (by decide) hO.1 hO.2 (by decide) (Nat.le_of_ble_eq_true rfl) dL_dates_260 (fun mm hp => ?_)
                                refine z_iconst (nI 1) dL_dates_263 rfl ?_
                                refine z_icmp_ne 271 dL_dates_264 rfl (fun c264 => ?_) (fun c264 => ?_)
                                · refine z_iconst (nI 0) dL_dates_271 rfl ?_
                                  refine z_iload 9 rfl dL_dates_272 ?_
                                  refine z_if_ne 313 dL_dates_274 rfl (fun c274 => ?_) (fun c274 => ?_)
                                  · refine z_iconst (nI 0) dL_dates_313 rfl ?_
                                    refine z_icmp_ne 345 dL_dates_314 rfl (fun c314 => ?_) (fun c314 => ?_)
                                    · exact absurd c314 (by decide)
                                    · refine z_iload 9 rfl dL_dates_317 ?_
                                      refine z_iconst (nI 1) dL_dates_319 rfl ?_
                                      refine z_icmp_ne 341 dL_dates_320 rfl (fun c320 => ?_) (fun c320 => ?_)
                                      · refine z_iconst (nI 1) dL_dates_341 rfl ?_
                                        refine z_goto 346 dL_dates_342 rfl ?_
                                        refine z_istore_n 1 rfl (Nat.le_of_ble_eq_true rfl) rfl dL_dates_346 ?_
                                        refine z_iincN (n := 1) 8 rfl rfl dL_dates_347 ?_
                                        refine z_goto 40 dL_dates_350 rfl ?_
                                        exact K _ mm hp
                                      · exact absurd c320 (by decide)
                                  · exact absurd c274 (by decide)
                                · exact absurd c264 (by decide)
                        · exact absurd c216 (by decide)
                      · exact absurd c200 (by decide)
                  · exact absurd c186 (by decide)
                · exact absurd c171 (by decide)
              · exact absurd c160 (by decide)
          · exact absurd c119 (by decide)
        · exact absurd c105 (by decide)
      · exact absurd c89 (by decide)
    · exact absurd c74 (by decide)
set_option maxRecDepth 4000 in
set_option maxHeartbeats 4000000 in
theorem l_dates_s4 {l : Launch} {G : zG} {Bs : Nat → Nat → Nat} {O : Nat → Nat} {v w : Nat → Int32} {hk : Int32} (hO : O 0 ∈ zL G ∧ zsh G (O 0) = (6, 5)) (hA : zAll v) {d L p su bs W cd r A B C c k : Nat} {lo : Int32} {x9 : Option Value} (hd : d < nD v) (hr : r < nR v) (F : dF v d L p su bs W cd) (e0 : v (147 + 7 * r + 0) = nI d) (e3 : v (147 + 7 * r + 3) = nI 4) (hc : c ≤ 700000) (e2 : v (147 + 7 * r + 2) = nI c) (e7 : sRight v (nI r) (nI 7) = -5) (e4 : v (147 + 7 * r + 4) = -5) (e8 : sRight v (nI r) (nI 8) = nI 0) (K : ∀ (x9 : Option Value) (mm : zM), lT G Bs O v w hk mm → zV l G (yL_dates, cL_dates, 10, (some .boolean)) 7 (some (.int (zB true))) (lT G Bs O v w hk) 40 [some (.ref (O 0)), some (.int (nI 1)), some (.int (nI d)), some (.int (nI (A + 0))), some (.int (nI (B + 0))), some (.int (nI (C + 0))), some (.int (lo)), some (.int (nI L)), some (.int (nI (r + 1))), x9] [] mm) (mm : zM) (hp : lT G Bs O v w hk mm) : zV l G (yL_dates, cL_dates, 10, (some .boolean)) 7 (some (.int (zB true))) (lT G Bs O v w hk) 50 [some (.ref (O 0)), some (.int (nI 1)), some (.int (nI d)), some (.int (nI A)), some (.int (nI B)), some (.int (nI C)), some (.int (lo)), some (.int (nI L)), some (.int (nI r)), x9] [] mm := by
  obtain ⟨hL, eL, ⟨hp1, hp20, ep⟩, ⟨hsu, es⟩, ⟨hb1, hb, eb⟩, ⟨hW, eW⟩, ⟨hcd, ecd⟩, f1, f0⟩ := F
  have h10 := hA.1.1.1.1.1.2
  have h60 := hA.1.1.1.1.2.1.2
  refine z_aload_n 0 rfl rfl dL_dates_50 ?_
  refine z_iload 8 rfl dL_dates_51 ?_
  refine z_iconst (nI 3) dL_dates_53 rfl ?_
  refine z_uV2 (ci := 6) zm_X6_right (q_rightW hp hA hr (by omega) e3) rfl zl_L_29 rfl rfl (by decide) hO.1 hO.2 (by decide) (Nat.le_of_ble_eq_true rfl) dL_dates_54 (fun mm hp => ?_)
  refine z_istore 9 (Nat.le_of_ble_eq_true rfl) rfl dL_dates_57 ?_
  refine z_aload_n 0 rfl rfl dL_dates_59 ?_
  refine z_iload 8 rfl dL_dates_60 ?_
  refine z_iconst (nI 0) dL_dates_62 rfl ?_
  refine z_uV2 (ci := 6) zm_X6_right (q_rightW hp hA hr (by omega) e0) rfl zl_L_29 rfl rfl (by decide) hO.1 hO.2 (by decide) (Nat.le_of_ble_eq_true rfl) dL_dates_63 (fun mm hp => ?_)
  refine z_iload_n 2 rfl rfl dL_dates_66 ?_
  refine z_icmp_ne 347 dL_dates_67 rfl (fun c67 => ?_) (fun c67 => ?_)
  · exact absurd rfl c67
  · refine z_iload_n 3 rfl rfl dL_dates_70 ?_
    refine z_iload 9 rfl dL_dates_71 ?_
    refine z_iconst (nI 3) dL_dates_73 rfl ?_
    refine z_icmp_ge 81 dL_dates_74 rfl (fun c74 => ?_) (fun c74 => ?_)
    · refine z_iconst (nI 0) dL_dates_81 rfl ?_
      refine z_iaddN dL_dates_82 ?_
      refine z_istore_n 3 rfl (Nat.le_of_ble_eq_true rfl) rfl dL_dates_83 ?_
      refine z_iload 4 rfl dL_dates_84 ?_
      refine z_iload 9 rfl dL_dates_86 ?_
      refine z_iconst (nI 1) dL_dates_88 rfl ?_
      refine z_icmp_ne 96 dL_dates_89 rfl (fun c89 => ?_) (fun c89 => ?_)
      · refine z_iconst (nI 0) dL_dates_96 rfl ?_
        refine z_iaddN dL_dates_97 ?_
        refine z_istore 4 (Nat.le_of_ble_eq_true rfl) rfl dL_dates_98 ?_
        refine z_iload 5 rfl dL_dates_100 ?_
        refine z_iload 9 rfl dL_dates_102 ?_
        refine z_iconst (nI 2) dL_dates_104 rfl ?_
        refine z_icmp_ne 112 dL_dates_105 rfl (fun c105 => ?_) (fun c105 => ?_)
        · refine z_iconst (nI 0) dL_dates_112 rfl ?_
          refine z_iaddN dL_dates_113 ?_
          refine z_istore 5 (Nat.le_of_ble_eq_true rfl) rfl dL_dates_114 ?_
          refine z_iload 9 rfl dL_dates_116 ?_
          refine z_iconst (nI 1) dL_dates_118 rfl ?_
          refine z_icmp_ne 149 dL_dates_119 rfl (fun c119 => ?_) (fun c119 => ?_)
          · refine z_iload 6 rfl dL_dates_149 ?_
            refine z_istore 6 (Nat.le_of_ble_eq_true rfl) rfl dL_dates_151 ?_
            refine z_iload_n 1 rfl rfl dL_dates_153 ?_
            refine z_if_eq 249 dL_dates_154 rfl (fun c154 => ?_) (fun c154 => ?_)
            · exact absurd c154 (by decide)
            · refine z_iload 9 rfl dL_dates_157 ?_
              refine z_iconst (nI 1) dL_dates_159 rfl ?_
              refine z_icmp_gt 168 dL_dates_160 rfl (fun c160 => ?_) (fun c160 => ?_)
              · refine z_iload 9 rfl dL_dates_168 ?_
                refine z_iconst (nI 1) dL_dates_170 rfl ?_
                refine z_icmp_ne 178 dL_dates_171 rfl (fun c171 => ?_) (fun c171 => ?_)
                · refine z_iconst (nI 0) dL_dates_178 rfl ?_
                  refine z_aload_n 0 rfl rfl dL_dates_179 ?_
                  refine z_iload 8 rfl dL_dates_180 ?_
                  refine z_iconst (nI 4) dL_dates_182 rfl ?_
                  refine z_uV2 (ci := 6) zm_X6_right (q_rightW hp hA hr (by omega) e4) rfl zl_L_29 rfl rfl (by decide) hO.1 hO.2 (by decide) (Nat.le_of_ble_eq_true rfl) dL_dates_183 (fun mm hp => ?_)
                  refine z_if_le 193 dL_dates_186 rfl (fun c186 => ?_) (fun c186 => ?_)
                  · refine z_iconst (nI 0) dL_dates_193 rfl ?_
                    refine z_icmp_ne 249 dL_dates_194 rfl (fun c194 => ?_) (fun c194 => ?_)
                    · exact absurd c194 (by decide)
                    · refine z_iload 9 rfl dL_dates_197 ?_
                      refine z_iconst (nI 2) dL_dates_199 rfl ?_
                      refine z_icmp_ge 207 dL_dates_200 rfl (fun c200 => ?_) (fun c200 => ?_)
                      · refine z_iconst (nI 0) dL_dates_207 rfl ?_
                        refine z_aload_n 0 rfl rfl dL_dates_208 ?_
                        refine z_iload 8 rfl dL_dates_209 ?_
                        refine z_bipush (nI 7) dL_dates_211 rfl ?_
                        refine z_uV2 (ci := 6) zm_X6_right (q_right hp hA e7) rfl zl_L_29 rfl rfl (by decide) hO.1 hO.2 (by decide) (Nat.le_of_ble_eq_true rfl) dL_dates_213 (fun mm hp => ?_)
                        refine z_if_lt 223 dL_dates_216 rfl (fun c216 => ?_) (fun c216 => ?_)
                        · refine z_iconst (nI 0) dL_dates_223 rfl ?_
                          refine z_icmp_ne 249 dL_dates_224 rfl (fun c224 => ?_) (fun c224 => ?_)
                          · exact absurd c224 (by decide)
                          · refine z_aload_n 0 rfl rfl dL_dates_227 ?_
                            refine z_iload 8 rfl dL_dates_228 ?_
                            refine z_bipush (nI 7) dL_dates_230 rfl ?_
                            refine z_uV2 (ci := 6) zm_X6_right (q_right hp hA e7) rfl zl_L_29 rfl rfl (by decide) hO.1 hO.2 (by decide) (Nat.le_of_ble_eq_true rfl) dL_dates_232 (fun mm hp => ?_)
                            refine z_aload_n 0 rfl rfl dL_dates_235 ?_
                            refine z_iload 8 rfl dL_dates_236 ?_
                            refine z_iconst (nI 2) dL_dates_238 rfl ?_
                            refine z_uV2 (ci := 6) zm_X6_right (q_rightW hp hA hr (by omega) e2) rfl zl_L_29 rfl rfl (by decide) hO.1 hO.2 (by decide) (Nat.le_of_ble_eq_true rfl) dL_dates_239 (fun mm hp => ?_)
                            refine z_icmp_gt 249 dL_dates_242 rfl (fun c242 => ?_) (fun c242 => ?_)
                            · exact absurd c242 (nI_m5 (by omega))
                            · refine z_iconst (nI 1) dL_dates_245 rfl ?_
                              refine z_goto 250 dL_dates_246 rfl ?_
                              refine z_istore_n 1 rfl (Nat.le_of_ble_eq_true rfl) rfl dL_dates_250 ?_
                              refine z_iload_n 1 rfl rfl dL_dates_251 ?_
                              refine z_if_eq 345 dL_dates_252 rfl (fun c252 => ?_) (fun c252 => ?_)
                              · exact absurd c252 (by decide)
                              · refine z_aload_n 0 rfl rfl dL_dates_255 ?_
                                refine z_iload 8 rfl dL_dates_256 ?_
                                refine z_bipush (nI 8) dL_dates_258 rfl ?_
                                refine z_uV2 (ci := 6) zm_X6_right (q_right hp hA e8) rfl zl_L_29 rfl rfl (by decide) hO.1 hO.2 (by decide) (Nat.le_of_ble_eq_true rfl) dL_dates_260 (fun mm hp => ?_)
                                refine z_iconst (nI 1) dL_dates_263 rfl ?_
                                refine z_icmp_ne 271 dL_dates_264 rfl (fun c264 => ?_) (fun c264 => ?_)
                                · refine z_iconst (nI 0) dL_dates_271 rfl ?_
                                  refine z_iload 9 rfl dL_dates_272 ?_
                                  refine z_if_ne 313 dL_dates_274 rfl (fun c274 => ?_) (fun c274 => ?_)
                                  · refine z_iconst (nI 0) dL_dates_313 rfl ?_
                                    refine z_icmp_ne 345 dL_dates_314 rfl (fun c314 => ?_) (fun c314 => ?_)
                                    · exact absurd c314 (by decide)
                                    · refine z_iload 9 rfl dL_dates_317 ?_
                                      refine z_iconst (nI 1) dL_dates_319 rfl ?_
                                      refine z_icmp_ne 341 dL_dates_320 rfl (fun c320 => ?_) (fun c320 => ?_)
                                      · refine z_iconst (nI 1) dL_dates_341 rfl ?_
                                        refine z_goto 346 dL_dates_342 rfl ?_
                                        refine z_istore_n 1 rfl (Nat.le_of_ble_eq_true rfl) rfl dL_dates_346 ?_
                                        refine z_iincN (n := 1) 8 rfl rfl dL_dates_347 ?_
                                        refine z_goto 40 dL_dates_350 rfl ?_
                                        exact K _ mm hp
                                      · exact absurd c320 (by decide)
                                  · exact absurd c274 (by decide)
                                · exact absurd c264 (by decide)
                        · exact absurd c216 (by decide)
                      · exact absurd c200 (by decide)
                  · exact absurd c186 (by decide)
                · exact absurd c171 (by decide)
              · exact absurd c160 (by decide)
          · exact absurd c119 (by decide)
        · exact absurd c105 (by decide)
      · exact absurd c89 (by decide)
    · exact absurd c74 (by decide)
set_option maxRecDepth 4000 in
set_option maxHeartbeats 4000000 in
theorem l_dates_s5 {l : Launch} {G : zG} {Bs : Nat → Nat → Nat} {O : Nat → Nat} {v w : Nat → Int32} {hk : Int32} (hO : O 0 ∈ zL G ∧ zsh G (O 0) = (6, 5)) (hA : zAll v) {d L p su bs W cd r A B C c k : Nat} {lo : Int32} {x9 : Option Value} (hd : d < nD v) (hr : r < nR v) (F : dF v d L p su bs W cd) (e0 : v (147 + 7 * r + 0) = nI d) (e3 : v (147 + 7 * r + 3) = nI 5) (hc : c ≤ 700000) (e2 : v (147 + 7 * r + 2) = nI c) (e7 : sRight v (nI r) (nI 7) = -5) (e4 : v (147 + 7 * r + 4) = -5) (e8 : sRight v (nI r) (nI 8) = nI 0) (K : ∀ (x9 : Option Value) (mm : zM), lT G Bs O v w hk mm → zV l G (yL_dates, cL_dates, 10, (some .boolean)) 7 (some (.int (zB true))) (lT G Bs O v w hk) 40 [some (.ref (O 0)), some (.int (nI 1)), some (.int (nI d)), some (.int (nI (A + 0))), some (.int (nI (B + 0))), some (.int (nI (C + 0))), some (.int (lo)), some (.int (nI L)), some (.int (nI (r + 1))), x9] [] mm) (mm : zM) (hp : lT G Bs O v w hk mm) : zV l G (yL_dates, cL_dates, 10, (some .boolean)) 7 (some (.int (zB true))) (lT G Bs O v w hk) 50 [some (.ref (O 0)), some (.int (nI 1)), some (.int (nI d)), some (.int (nI A)), some (.int (nI B)), some (.int (nI C)), some (.int (lo)), some (.int (nI L)), some (.int (nI r)), x9] [] mm := by
  obtain ⟨hL, eL, ⟨hp1, hp20, ep⟩, ⟨hsu, es⟩, ⟨hb1, hb, eb⟩, ⟨hW, eW⟩, ⟨hcd, ecd⟩, f1, f0⟩ := F
  have h10 := hA.1.1.1.1.1.2
  have h60 := hA.1.1.1.1.2.1.2
  refine z_aload_n 0 rfl rfl dL_dates_50 ?_
  refine z_iload 8 rfl dL_dates_51 ?_
  refine z_iconst (nI 3) dL_dates_53 rfl ?_
  refine z_uV2 (ci := 6) zm_X6_right (q_rightW hp hA hr (by omega) e3) rfl zl_L_29 rfl rfl (by decide) hO.1 hO.2 (by decide) (Nat.le_of_ble_eq_true rfl) dL_dates_54 (fun mm hp => ?_)
  refine z_istore 9 (Nat.le_of_ble_eq_true rfl) rfl dL_dates_57 ?_
  refine z_aload_n 0 rfl rfl dL_dates_59 ?_
  refine z_iload 8 rfl dL_dates_60 ?_
  refine z_iconst (nI 0) dL_dates_62 rfl ?_
  refine z_uV2 (ci := 6) zm_X6_right (q_rightW hp hA hr (by omega) e0) rfl zl_L_29 rfl rfl (by decide) hO.1 hO.2 (by decide) (Nat.le_of_ble_eq_true rfl) dL_dates_63 (fun mm hp => ?_)
  refine z_iload_n 2 rfl rfl dL_dates_66 ?_
  refine z_icmp_ne 347 dL_dates_67 rfl (fun c67 => ?_) (fun c67 => ?_)
  · exact absurd rfl c67
  · refine z_iload_n 3 rfl rfl dL_dates_70 ?_
    refine z_iload 9 rfl dL_dates_71 ?_
    refine z_iconst (nI 3) dL_dates_73 rfl ?_
    refine z_icmp_ge 81 dL_dates_74 rfl (fun c74 => ?_) (fun c74 => ?_)
    · refine z_iconst (nI 0) dL_dates_81 rfl ?_
      refine z_iaddN dL_dates_82 ?_
      refine z_istore_n 3 rfl (Nat.le_of_ble_eq_true rfl) rfl dL_dates_83 ?_
      refine z_iload 4 rfl dL_dates_84 ?_
      refine z_iload 9 rfl dL_dates_86 ?_
      refine z_iconst (nI 1) dL_dates_88 rfl ?_
      refine z_icmp_ne 96 dL_dates_89 rfl (fun c89 => ?_) (fun c89 => ?_)
      · refine z_iconst (nI 0) dL_dates_96 rfl ?_
        refine z_iaddN dL_dates_97 ?_
        refine z_istore 4 (Nat.le_of_ble_eq_true rfl) rfl dL_dates_98 ?_
        refine z_iload 5 rfl dL_dates_100 ?_
        refine z_iload 9 rfl dL_dates_102 ?_
        refine z_iconst (nI 2) dL_dates_104 rfl ?_
        refine z_icmp_ne 112 dL_dates_105 rfl (fun c105 => ?_) (fun c105 => ?_)
        · refine z_iconst (nI 0) dL_dates_112 rfl ?_
          refine z_iaddN dL_dates_113 ?_
          refine z_istore 5 (Nat.le_of_ble_eq_true rfl) rfl dL_dates_114 ?_
          refine z_iload 9 rfl dL_dates_116 ?_
          refine z_iconst (nI 1) dL_dates_118 rfl ?_
          refine z_icmp_ne 149 dL_dates_119 rfl (fun c119 => ?_) (fun c119 => ?_)
          · refine z_iload 6 rfl dL_dates_149 ?_
            refine z_istore 6 (Nat.le_of_ble_eq_true rfl) rfl dL_dates_151 ?_
            refine z_iload_n 1 rfl rfl dL_dates_153 ?_
            refine z_if_eq 249 dL_dates_154 rfl (fun c154 => ?_) (fun c154 => ?_)
            · exact absurd c154 (by decide)
            · refine z_iload 9 rfl dL_dates_157 ?_
              refine z_iconst (nI 1) dL_dates_159 rfl ?_
              refine z_icmp_gt 168 dL_dates_160 rfl (fun c160 => ?_) (fun c160 => ?_)
              · refine z_iload 9 rfl dL_dates_168 ?_
                refine z_iconst (nI 1) dL_dates_170 rfl ?_
                refine z_icmp_ne 178 dL_dates_171 rfl (fun c171 => ?_) (fun c171 => ?_)
                · refine z_iconst (nI 0) dL_dates_178 rfl ?_
                  refine z_aload_n 0 rfl rfl dL_dates_179 ?_
                  refine z_iload 8 rfl dL_dates_180 ?_
                  refine z_iconst (nI 4) dL_dates_182 rfl ?_
                  refine z_uV2 (ci := 6) zm_X6_right (q_rightW hp hA hr (by omega) e4) rfl zl_L_29 rfl rfl (by decide) hO.1 hO.2 (by decide) (Nat.le_of_ble_eq_true rfl) dL_dates_183 (fun mm hp => ?_)
                  refine z_if_le 193 dL_dates_186 rfl (fun c186 => ?_) (fun c186 => ?_)
                  · refine z_iconst (nI 0) dL_dates_193 rfl ?_
                    refine z_icmp_ne 249 dL_dates_194 rfl (fun c194 => ?_) (fun c194 => ?_)
                    · exact absurd c194 (by decide)
                    · refine z_iload 9 rfl dL_dates_197 ?_
                      refine z_iconst (nI 2) dL_dates_199 rfl ?_
                      refine z_icmp_ge 207 dL_dates_200 rfl (fun c200 => ?_) (fun c200 => ?_)
                      · refine z_iconst (nI 0) dL_dates_207 rfl ?_
                        refine z_aload_n 0 rfl rfl dL_dates_208 ?_
                        refine z_iload 8 rfl dL_dates_209 ?_
                        refine z_bipush (nI 7) dL_dates_211 rfl ?_
                        refine z_uV2 (ci := 6) zm_X6_right (q_right hp hA e7) rfl zl_L_29 rfl rfl (by decide) hO.1 hO.2 (by decide) (Nat.le_of_ble_eq_true rfl) dL_dates_213 (fun mm hp => ?_)
                        refine z_if_lt 223 dL_dates_216 rfl (fun c216 => ?_) (fun c216 => ?_)
                        · refine z_iconst (nI 0) dL_dates_223 rfl ?_
                          refine z_icmp_ne 249 dL_dates_224 rfl (fun c224 => ?_) (fun c224 => ?_)
                          · exact absurd c224 (by decide)
                          · refine z_aload_n 0 rfl rfl dL_dates_227 ?_
                            refine z_iload 8 rfl dL_dates_228 ?_
                            refine z_bipush (nI 7) dL_dates_230 rfl ?_
                            refine z_uV2 (ci := 6) zm_X6_right (q_right hp hA e7) rfl zl_L_29 rfl rfl (by decide) hO.1 hO.2 (by decide) (Nat.le_of_ble_eq_true rfl) dL_dates_232 (fun mm hp => ?_)
                            refine z_aload_n 0 rfl rfl dL_dates_235 ?_
                            refine z_iload 8 rfl dL_dates_236 ?_
                            refine z_iconst (nI 2) dL_dates_238 rfl ?_
                            refine z_uV2 (ci := 6) zm_X6_right (q_rightW hp hA hr (by omega) e2) rfl zl_L_29 rfl rfl (by decide) hO.1 hO.2 (by decide) (Nat.le_of_ble_eq_true rfl) dL_dates_239 (fun mm hp => ?_)
                            refine z_icmp_gt 249 dL_dates_242 rfl (fun c242 => ?_) (fun c242 => ?_)
                            · exact absurd c242 (nI_m5 (by omega))
                            · refine z_iconst (nI 1) dL_dates_245 rfl ?_
                              refine z_goto 250 dL_dates_246 rfl ?_
                              refine z_istore_n 1 rfl (Nat.le_of_ble_eq_true rfl) rfl dL_dates_250 ?_
                              refine z_iload_n 1 rfl rfl dL_dates_251 ?_
                              refine z_if_eq 345 dL_dates_252 rfl (fun c252 => ?_) (fun c252 => ?_)
                              · exact absurd c252 (by decide)
                              · refine z_aload_n 0 rfl rfl dL_dates_255 ?_
                                refine z_iload 8 rfl dL_dates_256 ?_
                                refine z_bipush (nI 8) dL_dates_258 rfl ?_
                                refine z_uV2 (ci := 6) zm_X6_right (q_right hp hA e8) rfl zl_L_29 rfl rfl (by decide) hO.1 hO.2 (by decide) (Nat.le_of_ble_eq_true rfl) dL_dates_260 (fun mm hp => ?_)
                                refine z_iconst (nI 1) dL_dates_263 rfl ?_
                                refine z_icmp_ne 271 dL_dates_264 rfl (fun c264 => ?_) (fun c264 => ?_)
                                · refine z_iconst (nI 0) dL_dates_271 rfl ?_
                                  refine z_iload 9 rfl dL_dates_272 ?_
                                  refine z_if_ne 313 dL_dates_274 rfl (fun c274 => ?_) (fun c274 => ?_)
                                  · refine z_iconst (nI 0) dL_dates_313 rfl ?_
                                    refine z_icmp_ne 345 dL_dates_314 rfl (fun c314 => ?_) (fun c314 => ?_)
                                    · exact absurd c314 (by decide)
                                    · refine z_iload 9 rfl dL_dates_317 ?_
                                      refine z_iconst (nI 1) dL_dates_319 rfl ?_
                                      refine z_icmp_ne 341 dL_dates_320 rfl (fun c320 => ?_) (fun c320 => ?_)
                                      · refine z_iconst (nI 1) dL_dates_341 rfl ?_
                                        refine z_goto 346 dL_dates_342 rfl ?_
                                        refine z_istore_n 1 rfl (Nat.le_of_ble_eq_true rfl) rfl dL_dates_346 ?_
                                        refine z_iincN (n := 1) 8 rfl rfl dL_dates_347 ?_
                                        refine z_goto 40 dL_dates_350 rfl ?_
                                        exact K _ mm hp
                                      · exact absurd c320 (by decide)
                                  · exact absurd c274 (by decide)
                                · exact absurd c264 (by decide)
                        · exact absurd c216 (by decide)
                      · exact absurd c200 (by decide)
                  · exact absurd c186 (by decide)
                · exact absurd c171 (by decide)
              · exact absurd c160 (by decide)
          · exact absurd c119 (by decide)
        · exact absurd c105 (by decide)
      · exact absurd c89 (by decide)
    · exact absurd c74 (by decide)
