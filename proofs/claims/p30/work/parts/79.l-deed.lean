theorem nI_nm5 {n : Nat} (h : n < 2 ^ 31) : ¬ nI n = -5 := fun z => absurd (nI_nneg h) (by rw [z]; decide)
set_option maxRecDepth 4000 in
set_option maxHeartbeats 4000000 in
theorem l_deed_N0 {l : Launch} {G : zG} {Bs : Nat → Nat → Nat} {O : Nat → Nat} {v w : Nat → Int32} {hk : Int32} (hO : O 0 ∈ zL G ∧ zsh G (O 0) = (6, 5)) (hA : zAll v) {Q : Nat} (hz : zIn (nI 0) (nI 0) (v 2 - nI 1) = false) (hQ : Q < 2 ^ 31) (mm : zM) (hp : lT G Bs O v w hk mm) : zV l G (yL_deed, cL_deed, 16, (some .boolean)) 8 (some (.int (zB true))) (lT G Bs O v w hk) 84 [some (.ref (O 0)), some (.int (nI Q)), some (.int (nI 0)), some (.int (nI 0)), some (.int (-1)), some (.int (v 17)), none, none, none, none, none, none, none, none, none, none] [] mm := by
  refine z_aload_n 0 rfl rfl dL_deed_84 ?_
  refine z_iload_n 2 rfl rfl dL_deed_85 ?_
  refine z_bipush (nI 7) dL_deed_86 rfl ?_
  refine z_uV2 (ci := 6) zm_X6_right (q_right hp hA (e_rightN hz)) rfl zl_L_29 rfl rfl (by decide) hO.1 hO.2 (by decide) (Nat.le_of_ble_eq_true rfl) dL_deed_88 (fun mm hp => ?_)
  refine z_istore 6 (Nat.le_of_ble_eq_true rfl) rfl dL_deed_91 ?_
  refine z_aload_n 0 rfl rfl dL_deed_93 ?_
  refine z_iload_n 2 rfl rfl dL_deed_94 ?_
  refine z_uV1 (ci := 6) zm_X6_cancel (q_cancel hp hA (a_canN hz)) rfl zl_L_44 rfl rfl (by decide) hO.1 hO.2 (by decide) (Nat.le_of_ble_eq_true rfl) dL_deed_95 (fun mm hp => ?_)
  refine z_istore 7 (Nat.le_of_ble_eq_true rfl) rfl dL_deed_98 ?_
  refine z_iload 4 rfl dL_deed_100 ?_
  refine z_if_eq 111 dL_deed_102 rfl (fun c102 => ?_) (fun c102 => ?_)
  · exact absurd c102 (by decide)
  · refine z_iload 4 rfl dL_deed_105 ?_
    refine z_iconst (nI 1) dL_deed_107 rfl ?_
    refine z_icmp_ne 158 dL_deed_108 rfl (fun c108 => ?_) (fun c108 => ?_)
    · refine z_iload 7 rfl dL_deed_158 ?_
      refine z_iload 4 rfl dL_deed_160 ?_
      refine z_if_ge 169 dL_deed_162 rfl (fun c162 => ?_) (fun c162 => ?_)
      · exact absurd c162 (by decide)
      · refine z_iconst (-1) dL_deed_165 (by decide) ?_
        refine z_goto 171 dL_deed_166 rfl ?_
        refine z_icmp_ne 178 dL_deed_171 rfl (fun c171 => ?_) (fun c171 => ?_)
        · exact absurd c171 (by decide)
        · refine z_iconst (nI 1) dL_deed_174 rfl ?_
          refine z_goto 179 dL_deed_175 rfl ?_
          exact z_zret dL_deed_179 (by first | rfl | exact zB_nar _) rfl hp
    · exact absurd c108 (by decide)
set_option maxRecDepth 4000 in
set_option maxHeartbeats 4000000 in
theorem l_deed_N1 {l : Launch} {G : zG} {Bs : Nat → Nat → Nat} {O : Nat → Nat} {v w : Nat → Int32} {hk : Int32} (hO : O 0 ∈ zL G ∧ zsh G (O 0) = (6, 5)) (hA : zAll v) {Q : Nat} (hz : zIn (nI 0) (nI 0) (v 2 - nI 1) = false) (hQ : Q < 2 ^ 31) (mm : zM) (hp : lT G Bs O v w hk mm) : zV l G (yL_deed, cL_deed, 16, (some .boolean)) 8 (some (.int (zB true))) (lT G Bs O v w hk) 180 [some (.ref (O 0)), some (.int (nI Q)), some (.int (nI 0)), some (.int (nI 0)), some (.int (-1)), some (.int (v 17)), none, none, none, none, none, none, none, none, none, none] [] mm := by
  refine z_aload_n 0 rfl rfl dL_deed_180 ?_
  refine z_iload_n 2 rfl rfl dL_deed_181 ?_
  refine z_bipush (nI 8) dL_deed_182 rfl ?_
  refine z_uV2 (ci := 6) zm_X6_right (q_right hp hA (e_rightN hz)) rfl zl_L_29 rfl rfl (by decide) hO.1 hO.2 (by decide) (Nat.le_of_ble_eq_true rfl) dL_deed_184 (fun mm hp => ?_)
  refine z_iconst (nI 1) dL_deed_187 rfl ?_
  refine z_icmp_ne 195 dL_deed_188 rfl (fun c188 => ?_) (fun c188 => ?_)
  · refine z_iconst (nI 0) dL_deed_195 rfl ?_
    refine z_istore 8 (Nat.le_of_ble_eq_true rfl) rfl dL_deed_196 ?_
    refine z_iload 4 rfl dL_deed_198 ?_
    refine z_if_ge 207 dL_deed_200 rfl (fun c200 => ?_) (fun c200 => ?_)
    · exact absurd c200 (by decide)
    · refine z_iconst (nI 0) dL_deed_203 rfl ?_
      refine z_goto 219 dL_deed_204 rfl ?_
      refine z_istore 9 (Nat.le_of_ble_eq_true rfl) rfl dL_deed_219 ?_
      refine z_aload_n 0 rfl rfl dL_deed_221 ?_
      refine z_iload_n 2 rfl rfl dL_deed_222 ?_
      refine z_uV1 (ci := 6) zm_X6_exercise (q_exercise hp hA (a_exN hz)) rfl zl_L_50 rfl rfl (by decide) hO.1 hO.2 (by decide) (Nat.le_of_ble_eq_true rfl) dL_deed_223 (fun mm hp => ?_)
      refine z_istore 10 (Nat.le_of_ble_eq_true rfl) rfl dL_deed_226 ?_
      refine z_iload 8 rfl dL_deed_228 ?_
      refine z_if_eq 277 dL_deed_230 rfl (fun c230 => ?_) (fun c230 => ?_)
      · refine z_iload 10 rfl dL_deed_277 ?_
        refine z_iload 4 rfl dL_deed_279 ?_
        refine z_if_ge 288 dL_deed_281 rfl (fun c281 => ?_) (fun c281 => ?_)
        · exact absurd c281 (by decide)
        · refine z_iconst (-1) dL_deed_284 (by decide) ?_
          refine z_goto 290 dL_deed_285 rfl ?_
          refine z_icmp_ne 297 dL_deed_290 rfl (fun c290 => ?_) (fun c290 => ?_)
          · exact absurd c290 (by decide)
          · refine z_iconst (nI 1) dL_deed_293 rfl ?_
            refine z_goto 298 dL_deed_294 rfl ?_
            exact z_zret dL_deed_298 (by first | rfl | exact zB_nar _) rfl hp
      · exact absurd c230 (by decide)
  · exact absurd c188 (by decide)
set_option maxRecDepth 4000 in
set_option maxHeartbeats 4000000 in
theorem l_deed_N2 {l : Launch} {G : zG} {Bs : Nat → Nat → Nat} {O : Nat → Nat} {v w : Nat → Int32} {hk : Int32} (hO : O 0 ∈ zL G ∧ zsh G (O 0) = (6, 5)) (hA : zAll v) {Q : Nat} (hz : zIn (nI 0) (nI 0) (v 2 - nI 1) = false) (hQ : Q < 2 ^ 31) (mm : zM) (hp : lT G Bs O v w hk mm) : zV l G (yL_deed, cL_deed, 16, (some .boolean)) 8 (some (.int (zB true))) (lT G Bs O v w hk) 299 [some (.ref (O 0)), some (.int (nI Q)), some (.int (nI 0)), some (.int (nI 0)), some (.int (-1)), some (.int (v 17)), none, none, none, none, none, none, none, none, none, none] [] mm := by
  refine z_iload 4 rfl dL_deed_299 ?_
  refine z_if_ge 308 dL_deed_301 rfl (fun c301 => ?_) (fun c301 => ?_)
  · exact absurd c301 (by decide)
  · refine z_iconst (nI 1) dL_deed_304 rfl ?_
    refine z_goto 319 dL_deed_305 rfl ?_
    refine z_istore 11 (Nat.le_of_ble_eq_true rfl) rfl dL_deed_319 ?_
    refine z_iconst (nI 1) dL_deed_321 rfl ?_
    refine z_iload_n 1 rfl rfl dL_deed_322 ?_
    refine z_bipush (nI 8) dL_deed_323 rfl ?_
    refine z_ishrN 256 (by decide) dL_deed_325 (by omega) (by decide) ?_
    refine z_iconst (nI 2) dL_deed_326 rfl ?_
    refine z_iload 11 rfl dL_deed_327 ?_
    refine z_imulN dL_deed_329 ?_
    refine z_iconst (nI 2) dL_deed_330 rfl ?_
    refine z_iaddN dL_deed_331 ?_
    refine z_iremN dL_deed_332 (by omega) (by omega) (by omega) ?_
    refine z_iaddN dL_deed_333 ?_
    refine z_istore 12 (Nat.le_of_ble_eq_true rfl) rfl dL_deed_334 ?_
    refine z_aload_n 0 rfl rfl dL_deed_336 ?_
    refine z_iload_n 2 rfl rfl dL_deed_337 ?_
    refine z_iconst (nI 4) dL_deed_338 rfl ?_
    refine z_uV2 (ci := 6) zm_X6_right (q_right hp hA (e_rightN hz)) rfl zl_L_29 rfl rfl (by decide) hO.1 hO.2 (by decide) (Nat.le_of_ble_eq_true rfl) dL_deed_339 (fun mm hp => ?_)
    refine z_istore 13 (Nat.le_of_ble_eq_true rfl) rfl dL_deed_342 ?_
    refine z_aload_n 0 rfl rfl dL_deed_344 ?_
    refine z_iload_n 2 rfl rfl dL_deed_345 ?_
    refine z_iload 12 rfl dL_deed_346 ?_
    refine z_uV2 (ci := 6) zm_X6_offer (q_offer hp hA (a_ofrN hz)) rfl zl_L_53 rfl rfl (by decide) hO.1 hO.2 (by decide) (Nat.le_of_ble_eq_true rfl) dL_deed_348 (fun mm hp => ?_)
    refine z_istore 14 (Nat.le_of_ble_eq_true rfl) rfl dL_deed_351 ?_
    refine z_iload 4 rfl dL_deed_353 ?_
    refine z_if_eq 388 dL_deed_355 rfl (fun c355 => ?_) (fun c355 => ?_)
    · exact absurd c355 (by decide)
    · refine z_iload 4 rfl dL_deed_358 ?_
      refine z_iconst (nI 1) dL_deed_360 rfl ?_
      refine z_icmp_eq 388 dL_deed_361 rfl (fun c361 => ?_) (fun c361 => ?_)
      · exact absurd c361 (by decide)
      · refine z_iload 14 rfl dL_deed_364 ?_
        refine z_iload 4 rfl dL_deed_366 ?_
        refine z_if_ge 375 dL_deed_368 rfl (fun c368 => ?_) (fun c368 => ?_)
        · exact absurd c368 (by decide)
        · refine z_iconst (-1) dL_deed_371 (by decide) ?_
          refine z_goto 377 dL_deed_372 rfl ?_
          refine z_icmp_ne 384 dL_deed_377 rfl (fun c377 => ?_) (fun c377 => ?_)
          · exact absurd c377 (by decide)
          · refine z_iconst (nI 1) dL_deed_380 rfl ?_
            refine z_goto 466 dL_deed_381 rfl ?_
            exact z_zret dL_deed_466 (by first | rfl | exact zB_nar _) rfl hp
set_option maxRecDepth 4000 in
set_option maxHeartbeats 4000000 in
theorem l_deed_N3 {l : Launch} {G : zG} {Bs : Nat → Nat → Nat} {O : Nat → Nat} {v w : Nat → Int32} {hk : Int32} (hO : O 0 ∈ zL G ∧ zsh G (O 0) = (6, 5)) (hA : zAll v) {Q : Nat} (hz : zIn (nI 0) (nI 0) (v 2 - nI 1) = false) (hQ : Q < 2 ^ 31) (mm : zM) (hp : lT G Bs O v w hk mm) : zV l G (yL_deed, cL_deed, 16, (some .boolean)) 8 (some (.int (zB true))) (lT G Bs O v w hk) 467 [some (.ref (O 0)), some (.int (nI Q)), some (.int (nI 0)), some (.int (nI 0)), some (.int (-1)), some (.int (v 17)), none, none, none, none, none, none, none, none, none, none] [] mm := by
  refine z_aload_n 0 rfl rfl dL_deed_467 ?_
  refine z_iload_n 2 rfl rfl dL_deed_468 ?_
  refine z_iconst (nI 4) dL_deed_469 rfl ?_
  refine z_uV2 (ci := 6) zm_X6_right (q_right hp hA (e_rightN hz)) rfl zl_L_29 rfl rfl (by decide) hO.1 hO.2 (by decide) (Nat.le_of_ble_eq_true rfl) dL_deed_470 (fun mm hp => ?_)
  refine z_istore 15 (Nat.le_of_ble_eq_true rfl) rfl dL_deed_473 ?_
  refine z_iload 4 rfl dL_deed_475 ?_
  refine z_iconst (nI 1) dL_deed_477 rfl ?_
  refine z_icmp_ne 508 dL_deed_478 rfl (fun c478 => ?_) (fun c478 => ?_)
  · refine z_aload_n 0 rfl rfl dL_deed_508 ?_
    refine z_iload_n 2 rfl rfl dL_deed_509 ?_
    refine z_uV1 (ci := 6) zm_X6_takeBack (q_takeBack hp hA (a_tkN hz)) rfl zl_L_56 rfl rfl (by decide) hO.1 hO.2 (by decide) (Nat.le_of_ble_eq_true rfl) dL_deed_510 (fun mm hp => ?_)
    refine z_iload 4 rfl dL_deed_513 ?_
    refine z_if_ge 522 dL_deed_515 rfl (fun c515 => ?_) (fun c515 => ?_)
    · exact absurd c515 (by decide)
    · refine z_iconst (-1) dL_deed_518 (by decide) ?_
      refine z_goto 524 dL_deed_519 rfl ?_
      refine z_icmp_ne 531 dL_deed_524 rfl (fun c524 => ?_) (fun c524 => ?_)
      · exact absurd c524 (by decide)
      · refine z_iconst (nI 1) dL_deed_527 rfl ?_
        refine z_goto 532 dL_deed_528 rfl ?_
        exact z_zret dL_deed_532 (by first | rfl | exact zB_nar _) rfl hp
  · exact absurd c478 (by decide)
set_option maxRecDepth 4000 in
set_option maxHeartbeats 4000000 in
theorem l_deed_A0p {l : Launch} {G : zG} {Bs : Nat → Nat → Nat} {O : Nat → Nat} {v w : Nat → Int32} {hk : Int32} (hO : O 0 ∈ zL G ∧ zsh G (O 0) = (6, 5)) (hA : zAll v) {Q r g s : Nat} (hQ : Q < 2 ^ 31) (hr : r < nR v) (hg : g < 10) (hs : s ≤ 5) (h2 : 2 ≤ s) (e7 : sRight v (nI r) (nI 7) = -5) (ec : sDoCan v (nI r) = (-4, v)) (mm : zM) (hp : lT G Bs O v w hk mm) : zV l G (yL_deed, cL_deed, 16, (some .boolean)) 8 (some (.int (zB true))) (lT G Bs O v w hk) 84 [some (.ref (O 0)), some (.int (nI Q)), some (.int (nI r)), some (.int (nI g)), some (.int (nI s)), some (.int (v (17 + g))), none, none, none, none, none, none, none, none, none, none] [] mm := by
  refine z_aload_n 0 rfl rfl dL_deed_84 ?_
  refine z_iload_n 2 rfl rfl dL_deed_85 ?_
  refine z_bipush (nI 7) dL_deed_86 rfl ?_
  refine z_uV2 (ci := 6) zm_X6_right (q_right hp hA e7) rfl zl_L_29 rfl rfl (by decide) hO.1 hO.2 (by decide) (Nat.le_of_ble_eq_true rfl) dL_deed_88 (fun mm hp => ?_)
  refine z_istore 6 (Nat.le_of_ble_eq_true rfl) rfl dL_deed_91 ?_
  refine z_aload_n 0 rfl rfl dL_deed_93 ?_
  refine z_iload_n 2 rfl rfl dL_deed_94 ?_
  refine z_uV1 (ci := 6) zm_X6_cancel (q_cancel hp hA ec) rfl zl_L_44 rfl rfl (by decide) hO.1 hO.2 (by decide) (Nat.le_of_ble_eq_true rfl) dL_deed_95 (fun mm hp => ?_)
  refine z_istore 7 (Nat.le_of_ble_eq_true rfl) rfl dL_deed_98 ?_
  refine z_iload 4 rfl dL_deed_100 ?_
  refine z_if_eq 111 dL_deed_102 rfl (fun c102 => ?_) (fun c102 => ?_)
  · exact absurd c102 (nI_ne0 (by omega) (by omega))
  · refine z_iload 4 rfl dL_deed_105 ?_
    refine z_iconst (nI 1) dL_deed_107 rfl ?_
    refine z_icmp_ne 158 dL_deed_108 rfl (fun c108 => ?_) (fun c108 => ?_)
    · refine z_iload 7 rfl dL_deed_158 ?_
      refine z_iload 4 rfl dL_deed_160 ?_
      refine z_if_ge 169 dL_deed_162 rfl (fun c162 => ?_) (fun c162 => ?_)
      · refine z_bipush (-4) dL_deed_169 (by decide) ?_
        refine z_icmp_ne 178 dL_deed_171 rfl (fun c171 => ?_) (fun c171 => ?_)
        · exact absurd c171 (by decide)
        · refine z_iconst (nI 1) dL_deed_174 rfl ?_
          refine z_goto 179 dL_deed_175 rfl ?_
          exact z_zret dL_deed_179 (by first | rfl | exact zB_nar _) rfl hp
      · exact absurd (nI_nneg (by omega)) c162
    · exact absurd ((nI_eq (by omega) (by omega)).mp c108) (by omega)
set_option maxRecDepth 4000 in
set_option maxHeartbeats 4000000 in
theorem l_deed_A0c {l : Launch} {G : zG} {Bs : Nat → Nat → Nat} {O : Nat → Nat} {v u w : Nat → Int32} {hk : Int32} (hO : O 0 ∈ zL G ∧ zsh G (O 0) = (6, 5)) (hA : zAll v) {Q r g s : Nat} (hQ : Q < 2 ^ 31) (hr : r < nR v) (hg : g < 10) (hs : s ≤ 5) (h2 : s < 2) {k : Nat} (e7 : sRight v (nI r) (nI 7) = nI k) (hB : zAll u) (hru : r < nR u) (ec : sDoCan v (nI r) = (nI k, u)) (e3 : u (147 + 7 * r + 3) = nI 3) (ea : u (17 + g) = v (17 + g) + nI k) (mm : zM) (hp : lT G Bs O v w hk mm) : zV l G (yL_deed, cL_deed, 16, (some .boolean)) 8 (some (.int (zB true))) (lT G Bs O u w hk) 84 [some (.ref (O 0)), some (.int (nI Q)), some (.int (nI r)), some (.int (nI g)), some (.int (nI s)), some (.int (v (17 + g))), none, none, none, none, none, none, none, none, none, none] [] mm := by
  refine z_aload_n 0 rfl rfl dL_deed_84 ?_
  refine z_iload_n 2 rfl rfl dL_deed_85 ?_
  refine z_bipush (nI 7) dL_deed_86 rfl ?_
  refine z_uV2 (ci := 6) zm_X6_right (q_right hp hA e7) rfl zl_L_29 rfl rfl (by decide) hO.1 hO.2 (by decide) (Nat.le_of_ble_eq_true rfl) dL_deed_88 (fun mm hp => ?_)
  refine z_istore 6 (Nat.le_of_ble_eq_true rfl) rfl dL_deed_91 ?_
  refine z_aload_n 0 rfl rfl dL_deed_93 ?_
  refine z_iload_n 2 rfl rfl dL_deed_94 ?_
  refine z_uV1 (ci := 6) zm_X6_cancel (q_cancel hp hA ec) rfl zl_L_44 rfl rfl (by decide) hO.1 hO.2 (by decide) (Nat.le_of_ble_eq_true rfl) dL_deed_95 (fun mm hp => ?_)
  refine z_istore 7 (Nat.le_of_ble_eq_true rfl) rfl dL_deed_98 ?_
  refine z_iload 4 rfl dL_deed_100 ?_
  refine z_if_eq 111 dL_deed_102 rfl (fun c102 => ?_) (fun c102 => ?_)
  · refine z_iload 7 rfl dL_deed_111 ?_
    refine z_iload 6 rfl dL_deed_113 ?_
    refine z_icmp_ne 154 dL_deed_115 rfl (fun c115 => ?_) (fun c115 => ?_)
    · exact absurd rfl c115
    · refine z_aload_n 0 rfl rfl dL_deed_118 ?_
      refine z_iload_n 2 rfl rfl dL_deed_119 ?_
      refine z_iconst (nI 3) dL_deed_120 rfl ?_
      refine z_uV2 (ci := 6) zm_X6_right (q_rightW hp hB hru (by omega) e3) rfl zl_L_29 rfl rfl (by decide) hO.1 hO.2 (by decide) (Nat.le_of_ble_eq_true rfl) dL_deed_121 (fun mm hp => ?_)
      refine z_iconst (nI 3) dL_deed_124 rfl ?_
      refine z_icmp_ne 154 dL_deed_125 rfl (fun c125 => ?_) (fun c125 => ?_)
      · exact absurd c125 (by decide)
      · refine z_aload_n 0 rfl rfl dL_deed_128 ?_
        refine z_iload_n 3 rfl rfl dL_deed_129 ?_
        refine z_uS2 zm_L_account (c_L_account hO hB hp hg ea) rfl zl_L_20 (by decide) (Nat.le_of_ble_eq_true rfl) dL_deed_130 (fun mm hp => ?_)
        refine z_iload 5 rfl dL_deed_133 ?_
        refine z_iload 6 rfl dL_deed_135 ?_
        refine z_iadd dL_deed_137 ?_
        refine z_icmp_eq 150 dL_deed_138 rfl (fun c138 => ?_) (fun c138 => ?_)
        · refine z_iconst (nI 1) dL_deed_150 rfl ?_
          refine z_goto 179 dL_deed_151 rfl ?_
          exact z_zret dL_deed_179 (by first | rfl | exact zB_nar _) rfl hp
        · exact absurd rfl c138
  · refine z_iload 4 rfl dL_deed_105 ?_
    refine z_iconst (nI 1) dL_deed_107 rfl ?_
    refine z_icmp_ne 158 dL_deed_108 rfl (fun c108 => ?_) (fun c108 => ?_)
    · have h0 : s ≠ 0 := fun z => c102 (by rw [z]; rfl)
      exact absurd (by rw [show s = 1 by omega]) c108
    · refine z_iload 7 rfl dL_deed_111 ?_
      refine z_iload 6 rfl dL_deed_113 ?_
      refine z_icmp_ne 154 dL_deed_115 rfl (fun c115 => ?_) (fun c115 => ?_)
      · exact absurd rfl c115
      · refine z_aload_n 0 rfl rfl dL_deed_118 ?_
        refine z_iload_n 2 rfl rfl dL_deed_119 ?_
        refine z_iconst (nI 3) dL_deed_120 rfl ?_
        refine z_uV2 (ci := 6) zm_X6_right (q_rightW hp hB hru (by omega) e3) rfl zl_L_29 rfl rfl (by decide) hO.1 hO.2 (by decide) (Nat.le_of_ble_eq_true rfl) dL_deed_121 (fun mm hp => ?_)
        refine z_iconst (nI 3) dL_deed_124 rfl ?_
        refine z_icmp_ne 154 dL_deed_125 rfl (fun c125 => ?_) (fun c125 => ?_)
        · exact absurd c125 (by decide)
        · refine z_aload_n 0 rfl rfl dL_deed_128 ?_
          refine z_iload_n 3 rfl rfl dL_deed_129 ?_
          refine z_uS2 zm_L_account (c_L_account hO hB hp hg ea) rfl zl_L_20 (by decide) (Nat.le_of_ble_eq_true rfl) dL_deed_130 (fun mm hp => ?_)
          refine z_iload 5 rfl dL_deed_133 ?_
          refine z_iload 6 rfl dL_deed_135 ?_
          refine z_iadd dL_deed_137 ?_
          refine z_icmp_eq 150 dL_deed_138 rfl (fun c138 => ?_) (fun c138 => ?_)
          · refine z_iconst (nI 1) dL_deed_150 rfl ?_
            refine z_goto 179 dL_deed_151 rfl ?_
            exact z_zret dL_deed_179 (by first | rfl | exact zB_nar _) rfl hp
          · exact absurd rfl c138
set_option maxRecDepth 4000 in
set_option maxHeartbeats 4000000 in
theorem l_deed_A0d {l : Launch} {G : zG} {Bs : Nat → Nat → Nat} {O : Nat → Nat} {v u w : Nat → Int32} {hk : Int32} (hO : O 0 ∈ zL G ∧ zsh G (O 0) = (6, 5)) (hA : zAll v) {Q r g s : Nat} (hQ : Q < 2 ^ 31) (hr : r < nR v) (hg : g < 10) (hs : s ≤ 5) (h2 : s < 2) {k : Nat} (e7 : sRight v (nI r) (nI 7) = nI k) (hB : zAll u) (hru : r < nR u) (ec : sDoCan v (nI r) = (nI k, u)) (e3 : u (147 + 7 * r + 3) = nI 3) (ee : sEv u (nI 0) (nI 0) = nI 0) (mm : zM) (hp : lT G Bs O v w hk mm) : zV l G (yL_deed, cL_deed, 16, (some .boolean)) 8 (some (.int (zB true))) (lT G Bs O u w hk) 84 [some (.ref (O 0)), some (.int (nI Q)), some (.int (nI r)), some (.int (nI g)), some (.int (nI s)), some (.int (v (17 + g))), none, none, none, none, none, none, none, none, none, none] [] mm := by
  refine z_aload_n 0 rfl rfl dL_deed_84 ?_
  refine z_iload_n 2 rfl rfl dL_deed_85 ?_
  refine z_bipush (nI 7) dL_deed_86 rfl ?_
  refine z_uV2 (ci := 6) zm_X6_right (q_right hp hA e7) rfl zl_L_29 rfl rfl (by decide) hO.1 hO.2 (by decide) (Nat.le_of_ble_eq_true rfl) dL_deed_88 (fun mm hp => ?_)
  refine z_istore 6 (Nat.le_of_ble_eq_true rfl) rfl dL_deed_91 ?_
  refine z_aload_n 0 rfl rfl dL_deed_93 ?_
  refine z_iload_n 2 rfl rfl dL_deed_94 ?_
  refine z_uV1 (ci := 6) zm_X6_cancel (q_cancel hp hA ec) rfl zl_L_44 rfl rfl (by decide) hO.1 hO.2 (by decide) (Nat.le_of_ble_eq_true rfl) dL_deed_95 (fun mm hp => ?_)
  refine z_istore 7 (Nat.le_of_ble_eq_true rfl) rfl dL_deed_98 ?_
  refine z_iload 4 rfl dL_deed_100 ?_
  refine z_if_eq 111 dL_deed_102 rfl (fun c102 => ?_) (fun c102 => ?_)
  · refine z_iload 7 rfl dL_deed_111 ?_
    refine z_iload 6 rfl dL_deed_113 ?_
    refine z_icmp_ne 154 dL_deed_115 rfl (fun c115 => ?_) (fun c115 => ?_)
    · exact absurd rfl c115
    · refine z_aload_n 0 rfl rfl dL_deed_118 ?_
      refine z_iload_n 2 rfl rfl dL_deed_119 ?_
      refine z_iconst (nI 3) dL_deed_120 rfl ?_
      refine z_uV2 (ci := 6) zm_X6_right (q_rightW hp hB hru (by omega) e3) rfl zl_L_29 rfl rfl (by decide) hO.1 hO.2 (by decide) (Nat.le_of_ble_eq_true rfl) dL_deed_121 (fun mm hp => ?_)
      refine z_iconst (nI 3) dL_deed_124 rfl ?_
      refine z_icmp_ne 154 dL_deed_125 rfl (fun c125 => ?_) (fun c125 => ?_)
      · exact absurd c125 (by decide)
      · refine z_aload_n 0 rfl rfl dL_deed_128 ?_
        refine z_iload_n 3 rfl rfl dL_deed_129 ?_
        refine z_uS2 zm_L_account (c_L_account hO hB hp hg rfl) rfl zl_L_20 (by decide) (Nat.le_of_ble_eq_true rfl) dL_deed_130 (fun mm hp => ?_)
        refine z_iload 5 rfl dL_deed_133 ?_
        refine z_iload 6 rfl dL_deed_135 ?_
        refine z_iadd dL_deed_137 ?_
        refine z_icmp_eq 150 dL_deed_138 rfl (fun c138 => ?_) (fun c138 => ?_)
        · refine z_iconst (nI 1) dL_deed_150 rfl ?_
          refine z_goto 179 dL_deed_151 rfl ?_
          exact z_zret dL_deed_179 (by first | rfl | exact zB_nar _) rfl hp
        · refine z_aload_n 0 rfl rfl dL_deed_141 ?_
          refine z_iconst (nI 0) dL_deed_142 rfl ?_
          refine z_iconst (nI 0) dL_deed_143 rfl ?_
          refine z_uV2 (ci := 6) zm_X6_event (q_event hp hB ee) rfl zl_L_47 rfl rfl (by decide) hO.1 hO.2 (by decide) (Nat.le_of_ble_eq_true rfl) dL_deed_144 (fun mm hp => ?_)
          refine z_if_ne 154 dL_deed_147 rfl (fun c147 => ?_) (fun c147 => ?_)
          · exact absurd c147 (by decide)
          · refine z_iconst (nI 1) dL_deed_150 rfl ?_
            refine z_goto 179 dL_deed_151 rfl ?_
            exact z_zret dL_deed_179 (by first | rfl | exact zB_nar _) rfl hp
  · refine z_iload 4 rfl dL_deed_105 ?_
    refine z_iconst (nI 1) dL_deed_107 rfl ?_
    refine z_icmp_ne 158 dL_deed_108 rfl (fun c108 => ?_) (fun c108 => ?_)
    · have h0 : s ≠ 0 := fun z => c102 (by rw [z]; rfl)
      exact absurd (by rw [show s = 1 by omega]) c108
    · refine z_iload 7 rfl dL_deed_111 ?_
      refine z_iload 6 rfl dL_deed_113 ?_
      refine z_icmp_ne 154 dL_deed_115 rfl (fun c115 => ?_) (fun c115 => ?_)
      · exact absurd rfl c115
      · refine z_aload_n 0 rfl rfl dL_deed_118 ?_
        refine z_iload_n 2 rfl rfl dL_deed_119 ?_
        refine z_iconst (nI 3) dL_deed_120 rfl ?_
        refine z_uV2 (ci := 6) zm_X6_right (q_rightW hp hB hru (by omega) e3) rfl zl_L_29 rfl rfl (by decide) hO.1 hO.2 (by decide) (Nat.le_of_ble_eq_true rfl) dL_deed_121 (fun mm hp => ?_)
        refine z_iconst (nI 3) dL_deed_124 rfl ?_
        refine z_icmp_ne 154 dL_deed_125 rfl (fun c125 => ?_) (fun c125 => ?_)
        · exact absurd c125 (by decide)
        · refine z_aload_n 0 rfl rfl dL_deed_128 ?_
          refine z_iload_n 3 rfl rfl dL_deed_129 ?_
          refine z_uS2 zm_L_account (c_L_account hO hB hp hg rfl) rfl zl_L_20 (by decide) (Nat.le_of_ble_eq_true rfl) dL_deed_130 (fun mm hp => ?_)
          refine z_iload 5 rfl dL_deed_133 ?_
          refine z_iload 6 rfl dL_deed_135 ?_
          refine z_iadd dL_deed_137 ?_
          refine z_icmp_eq 150 dL_deed_138 rfl (fun c138 => ?_) (fun c138 => ?_)
          · refine z_iconst (nI 1) dL_deed_150 rfl ?_
            refine z_goto 179 dL_deed_151 rfl ?_
            exact z_zret dL_deed_179 (by first | rfl | exact zB_nar _) rfl hp
          · refine z_aload_n 0 rfl rfl dL_deed_141 ?_
            refine z_iconst (nI 0) dL_deed_142 rfl ?_
            refine z_iconst (nI 0) dL_deed_143 rfl ?_
            refine z_uV2 (ci := 6) zm_X6_event (q_event hp hB ee) rfl zl_L_47 rfl rfl (by decide) hO.1 hO.2 (by decide) (Nat.le_of_ble_eq_true rfl) dL_deed_144 (fun mm hp => ?_)
            refine z_if_ne 154 dL_deed_147 rfl (fun c147 => ?_) (fun c147 => ?_)
            · exact absurd c147 (by decide)
            · refine z_iconst (nI 1) dL_deed_150 rfl ?_
              refine z_goto 179 dL_deed_151 rfl ?_
              exact z_zret dL_deed_179 (by first | rfl | exact zB_nar _) rfl hp
set_option maxRecDepth 4000 in
set_option maxHeartbeats 4000000 in
theorem l_deed_A1t {l : Launch} {G : zG} {Bs : Nat → Nat → Nat} {O : Nat → Nat} {v u w : Nat → Int32} {hk : Int32} (hO : O 0 ∈ zL G ∧ zsh G (O 0) = (6, 5)) (hA : zAll v) {Q r g : Nat} (hQ : Q < 2 ^ 31) (hr : r < nR v) (hg : g < 10) {X d : Nat} (hd : d < nD v) (e0 : v (147 + 7 * r + 0) = nI d) (e8 : sRight v (nI r) (nI 8) = nI 1) (eX : sDateW v d 7 = nI X) (hX : X ≤ 60) (hB : zAll u) (hru : r < nR u) (ec : sDoEx v (nI r) = (nI (X + 1), u)) (ea : u (17 + g) = v (17 + g) - v 6) (e6 : u 6 = v 6) (e3 : u (147 + 7 * r + 3) = nI 2) (mm : zM) (hp : lT G Bs O v w hk mm) : zV l G (yL_deed, cL_deed, 16, (some .boolean)) 8 (some (.int (zB true))) (lT G Bs O u w hk) 180 [some (.ref (O 0)), some (.int (nI Q)), some (.int (nI r)), some (.int (nI g)), some (.int (nI 0)), some (.int (v (17 + g))), none, none, none, none, none, none, none, none, none, none] [] mm := by
  refine z_aload_n 0 rfl rfl dL_deed_180 ?_
  refine z_iload_n 2 rfl rfl dL_deed_181 ?_
  refine z_bipush (nI 8) dL_deed_182 rfl ?_
  refine z_uV2 (ci := 6) zm_X6_right (q_right hp hA e8) rfl zl_L_29 rfl rfl (by decide) hO.1 hO.2 (by decide) (Nat.le_of_ble_eq_true rfl) dL_deed_184 (fun mm hp => ?_)
  refine z_iconst (nI 1) dL_deed_187 rfl ?_
  refine z_icmp_ne 195 dL_deed_188 rfl (fun c188 => ?_) (fun c188 => ?_)
  · exact absurd c188 (by decide)
  · refine z_iconst (nI 1) dL_deed_191 rfl ?_
    refine z_goto 196 dL_deed_192 rfl ?_
    refine z_istore 8 (Nat.le_of_ble_eq_true rfl) rfl dL_deed_196 ?_
    refine z_iload 4 rfl dL_deed_198 ?_
    refine z_if_ge 207 dL_deed_200 rfl (fun c200 => ?_) (fun c200 => ?_)
    · refine z_aload_n 0 rfl rfl dL_deed_207 ?_
      refine z_aload_n 0 rfl rfl dL_deed_208 ?_
      refine z_iload_n 2 rfl rfl dL_deed_209 ?_
      refine z_iconst (nI 0) dL_deed_210 rfl ?_
      refine z_uV2 (ci := 6) zm_X6_right (q_rightW hp hA hr (by omega) e0) rfl zl_L_29 rfl rfl (by decide) hO.1 hO.2 (by decide) (Nat.le_of_ble_eq_true rfl) dL_deed_211 (fun mm hp => ?_)
      refine z_bipush (nI 7) dL_deed_214 rfl ?_
      refine z_uV2 (ci := 6) zm_X6_date (q_dateW hp hA hd (by omega) eX) rfl zl_L_26 rfl rfl (by decide) hO.1 hO.2 (by decide) (Nat.le_of_ble_eq_true rfl) dL_deed_216 (fun mm hp => ?_)
      refine z_istore 9 (Nat.le_of_ble_eq_true rfl) rfl dL_deed_219 ?_
      refine z_aload_n 0 rfl rfl dL_deed_221 ?_
      refine z_iload_n 2 rfl rfl dL_deed_222 ?_
      refine z_uV1 (ci := 6) zm_X6_exercise (q_exercise hp hA ec) rfl zl_L_50 rfl rfl (by decide) hO.1 hO.2 (by decide) (Nat.le_of_ble_eq_true rfl) dL_deed_223 (fun mm hp => ?_)
      refine z_istore 10 (Nat.le_of_ble_eq_true rfl) rfl dL_deed_226 ?_
      refine z_iload 8 rfl dL_deed_228 ?_
      refine z_if_eq 277 dL_deed_230 rfl (fun c230 => ?_) (fun c230 => ?_)
      · exact absurd c230 (by decide)
      · refine z_iload 10 rfl dL_deed_233 ?_
        refine z_iload 9 rfl dL_deed_235 ?_
        refine z_iconst (nI 1) dL_deed_237 rfl ?_
        refine z_iaddN dL_deed_238 ?_
        refine z_icmp_ne 273 dL_deed_239 rfl (fun c239 => ?_) (fun c239 => ?_)
        · exact absurd rfl c239
        · refine z_aload_n 0 rfl rfl dL_deed_242 ?_
          refine z_iload_n 3 rfl rfl dL_deed_243 ?_
          refine z_uS2 zm_L_account (c_L_account hO hB hp hg ea) rfl zl_L_20 (by decide) (Nat.le_of_ble_eq_true rfl) dL_deed_244 (fun mm hp => ?_)
          refine z_iload 5 rfl dL_deed_247 ?_
          refine z_aload_n 0 rfl rfl dL_deed_249 ?_
          refine z_bipush (nI 13) dL_deed_250 rfl ?_
          refine z_uV1 (ci := 6) zm_X6_count (q_count hp hB (by omega) (x := v 6) e6) rfl zl_L_16 rfl rfl (by decide) hO.1 hO.2 (by decide) (Nat.le_of_ble_eq_true rfl) dL_deed_252 (fun mm hp => ?_)
          refine z_isub dL_deed_255 ?_
          refine z_icmp_ne 273 dL_deed_256 rfl (fun c256 => ?_) (fun c256 => ?_)
          · exact absurd rfl c256
          · refine z_aload_n 0 rfl rfl dL_deed_259 ?_
            refine z_iload_n 2 rfl rfl dL_deed_260 ?_
            refine z_iconst (nI 3) dL_deed_261 rfl ?_
            refine z_uV2 (ci := 6) zm_X6_right (q_rightW hp hB hru (by omega) e3) rfl zl_L_29 rfl rfl (by decide) hO.1 hO.2 (by decide) (Nat.le_of_ble_eq_true rfl) dL_deed_262 (fun mm hp => ?_)
            refine z_iconst (nI 2) dL_deed_265 rfl ?_
            refine z_icmp_ne 273 dL_deed_266 rfl (fun c266 => ?_) (fun c266 => ?_)
            · exact absurd c266 (by decide)
            · refine z_iconst (nI 1) dL_deed_269 rfl ?_
              refine z_goto 298 dL_deed_270 rfl ?_
              exact z_zret dL_deed_298 (by first | rfl | exact zB_nar _) rfl hp
    · exact absurd c200 (by decide)
set_option maxRecDepth 4000 in
set_option maxHeartbeats 4000000 in
theorem l_deed_A1f {l : Launch} {G : zG} {Bs : Nat → Nat → Nat} {O : Nat → Nat} {v w : Nat → Int32} {hk : Int32} (hO : O 0 ∈ zL G ∧ zsh G (O 0) = (6, 5)) (hA : zAll v) {Q r g s : Nat} (hQ : Q < 2 ^ 31) (hr : r < nR v) (hg : g < 10) (hs : s ≤ 5) {X d : Nat} (hd : d < nD v) (e0 : v (147 + 7 * r + 0) = nI d) (e8 : sRight v (nI r) (nI 8) = nI 0) (eX : sDateW v d 7 = nI X) (ec : sDoEx v (nI r) = (-4, v)) (mm : zM) (hp : lT G Bs O v w hk mm) : zV l G (yL_deed, cL_deed, 16, (some .boolean)) 8 (some (.int (zB true))) (lT G Bs O v w hk) 180 [some (.ref (O 0)), some (.int (nI Q)), some (.int (nI r)), some (.int (nI g)), some (.int (nI s)), some (.int (v (17 + g))), none, none, none, none, none, none, none, none, none, none] [] mm := by
  refine z_aload_n 0 rfl rfl dL_deed_180 ?_
  refine z_iload_n 2 rfl rfl dL_deed_181 ?_
  refine z_bipush (nI 8) dL_deed_182 rfl ?_
  refine z_uV2 (ci := 6) zm_X6_right (q_right hp hA e8) rfl zl_L_29 rfl rfl (by decide) hO.1 hO.2 (by decide) (Nat.le_of_ble_eq_true rfl) dL_deed_184 (fun mm hp => ?_)
  refine z_iconst (nI 1) dL_deed_187 rfl ?_
  refine z_icmp_ne 195 dL_deed_188 rfl (fun c188 => ?_) (fun c188 => ?_)
  · refine z_iconst (nI 0) dL_deed_195 rfl ?_
    refine z_istore 8 (Nat.le_of_ble_eq_true rfl) rfl dL_deed_196 ?_
    refine z_iload 4 rfl dL_deed_198 ?_
    refine z_if_ge 207 dL_deed_200 rfl (fun c200 => ?_) (fun c200 => ?_)
    · refine z_aload_n 0 rfl rfl dL_deed_207 ?_
      refine z_aload_n 0 rfl rfl dL_deed_208 ?_
      refine z_iload_n 2 rfl rfl dL_deed_209 ?_
      refine z_iconst (nI 0) dL_deed_210 rfl ?_
      refine z_uV2 (ci := 6) zm_X6_right (q_rightW hp hA hr (by omega) e0) rfl zl_L_29 rfl rfl (by decide) hO.1 hO.2 (by decide) (Nat.le_of_ble_eq_true rfl) dL_deed_211 (fun mm hp => ?_)
      refine z_bipush (nI 7) dL_deed_214 rfl ?_
      refine z_uV2 (ci := 6) zm_X6_date (q_dateW hp hA hd (by omega) eX) rfl zl_L_26 rfl rfl (by decide) hO.1 hO.2 (by decide) (Nat.le_of_ble_eq_true rfl) dL_deed_216 (fun mm hp => ?_)
      refine z_istore 9 (Nat.le_of_ble_eq_true rfl) rfl dL_deed_219 ?_
      refine z_aload_n 0 rfl rfl dL_deed_221 ?_
      refine z_iload_n 2 rfl rfl dL_deed_222 ?_
      refine z_uV1 (ci := 6) zm_X6_exercise (q_exercise hp hA ec) rfl zl_L_50 rfl rfl (by decide) hO.1 hO.2 (by decide) (Nat.le_of_ble_eq_true rfl) dL_deed_223 (fun mm hp => ?_)
      refine z_istore 10 (Nat.le_of_ble_eq_true rfl) rfl dL_deed_226 ?_
      refine z_iload 8 rfl dL_deed_228 ?_
      refine z_if_eq 277 dL_deed_230 rfl (fun c230 => ?_) (fun c230 => ?_)
      · refine z_iload 10 rfl dL_deed_277 ?_
        refine z_iload 4 rfl dL_deed_279 ?_
        refine z_if_ge 288 dL_deed_281 rfl (fun c281 => ?_) (fun c281 => ?_)
        · refine z_bipush (-4) dL_deed_288 (by decide) ?_
          refine z_icmp_ne 297 dL_deed_290 rfl (fun c290 => ?_) (fun c290 => ?_)
          · exact absurd c290 (by decide)
          · refine z_iconst (nI 1) dL_deed_293 rfl ?_
            refine z_goto 298 dL_deed_294 rfl ?_
            exact z_zret dL_deed_298 (by first | rfl | exact zB_nar _) rfl hp
        · exact absurd (nI_nneg (by omega)) c281
      · exact absurd c230 (by decide)
    · exact absurd (nI_nneg (by omega)) c200
  · exact absurd c188 (by decide)
set_option maxRecDepth 4000 in
set_option maxHeartbeats 4000000 in
theorem l_deed_A2p {l : Launch} {G : zG} {Bs : Nat → Nat → Nat} {O : Nat → Nat} {v w : Nat → Int32} {hk : Int32} (hO : O 0 ∈ zL G ∧ zsh G (O 0) = (6, 5)) (hA : zAll v) {Q r g s : Nat} (hQ : Q < 2 ^ 31) (hr : r < nR v) (hg : g < 10) (hs : s ≤ 5) {b d : Nat} (hd : d < nD v) (e0 : v (147 + 7 * r + 0) = nI d) (hb1 : 1 ≤ b) (hb : b ≤ 9999) (eb : sDateW v d 3 = nI b) {a : Int32} (h2 : 2 ≤ s) (e4 : v (147 + 7 * r + 4) = a) (ec : sDoOfr v (nI r) (nI (1 + Q / 256 % (2 * b + 2))) = (-4, v)) (mm : zM) (hp : lT G Bs O v w hk mm) : zV l G (yL_deed, cL_deed, 16, (some .boolean)) 8 (some (.int (zB true))) (lT G Bs O v w hk) 299 [some (.ref (O 0)), some (.int (nI Q)), some (.int (nI r)), some (.int (nI g)), some (.int (nI s)), some (.int (v (17 + g))), none, none, none, none, none, none, none, none, none, none] [] mm := by
  refine z_iload 4 rfl dL_deed_299 ?_
  refine z_if_ge 308 dL_deed_301 rfl (fun c301 => ?_) (fun c301 => ?_)
  · refine z_aload_n 0 rfl rfl dL_deed_308 ?_
    refine z_aload_n 0 rfl rfl dL_deed_309 ?_
    refine z_iload_n 2 rfl rfl dL_deed_310 ?_
    refine z_iconst (nI 0) dL_deed_311 rfl ?_
    refine z_uV2 (ci := 6) zm_X6_right (q_rightW hp hA hr (by omega) e0) rfl zl_L_29 rfl rfl (by decide) hO.1 hO.2 (by decide) (Nat.le_of_ble_eq_true rfl) dL_deed_312 (fun mm hp => ?_)
    refine z_iconst (nI 3) dL_deed_315 rfl ?_
    refine z_uV2 (ci := 6) zm_X6_date (q_dateW hp hA hd (by omega) eb) rfl zl_L_26 rfl rfl (by decide) hO.1 hO.2 (by decide) (Nat.le_of_ble_eq_true rfl) dL_deed_316 (fun mm hp => ?_)
    refine z_istore 11 (Nat.le_of_ble_eq_true rfl) rfl dL_deed_319 ?_
    refine z_iconst (nI 1) dL_deed_321 rfl ?_
    refine z_iload_n 1 rfl rfl dL_deed_322 ?_
    refine z_bipush (nI 8) dL_deed_323 rfl ?_
    refine z_ishrN 256 (by decide) dL_deed_325 (by omega) (by decide) ?_
    refine z_iconst (nI 2) dL_deed_326 rfl ?_
    refine z_iload 11 rfl dL_deed_327 ?_
    refine z_imulN dL_deed_329 ?_
    refine z_iconst (nI 2) dL_deed_330 rfl ?_
    refine z_iaddN dL_deed_331 ?_
    refine z_iremN dL_deed_332 (by omega) (by omega) (by omega) ?_
    refine z_iaddN dL_deed_333 ?_
    refine z_istore 12 (Nat.le_of_ble_eq_true rfl) rfl dL_deed_334 ?_
    refine z_aload_n 0 rfl rfl dL_deed_336 ?_
    refine z_iload_n 2 rfl rfl dL_deed_337 ?_
    refine z_iconst (nI 4) dL_deed_338 rfl ?_
    refine z_uV2 (ci := 6) zm_X6_right (q_rightW hp hA hr (by omega) e4) rfl zl_L_29 rfl rfl (by decide) hO.1 hO.2 (by decide) (Nat.le_of_ble_eq_true rfl) dL_deed_339 (fun mm hp => ?_)
    refine z_istore 13 (Nat.le_of_ble_eq_true rfl) rfl dL_deed_342 ?_
    refine z_aload_n 0 rfl rfl dL_deed_344 ?_
    refine z_iload_n 2 rfl rfl dL_deed_345 ?_
    refine z_iload 12 rfl dL_deed_346 ?_
    refine z_uV2 (ci := 6) zm_X6_offer (q_offer hp hA ec) rfl zl_L_53 rfl rfl (by decide) hO.1 hO.2 (by decide) (Nat.le_of_ble_eq_true rfl) dL_deed_348 (fun mm hp => ?_)
    refine z_istore 14 (Nat.le_of_ble_eq_true rfl) rfl dL_deed_351 ?_
    refine z_iload 4 rfl dL_deed_353 ?_
    refine z_if_eq 388 dL_deed_355 rfl (fun c355 => ?_) (fun c355 => ?_)
    · exact absurd c355 (nI_ne0 (by omega) (by omega))
    · refine z_iload 4 rfl dL_deed_358 ?_
      refine z_iconst (nI 1) dL_deed_360 rfl ?_
      refine z_icmp_eq 388 dL_deed_361 rfl (fun c361 => ?_) (fun c361 => ?_)
      · exact absurd ((nI_eq (by omega) (by omega)).mp c361) (by omega)
      · refine z_iload 14 rfl dL_deed_364 ?_
        refine z_iload 4 rfl dL_deed_366 ?_
        refine z_if_ge 375 dL_deed_368 rfl (fun c368 => ?_) (fun c368 => ?_)
        · refine z_bipush (-4) dL_deed_375 (by decide) ?_
          refine z_icmp_ne 384 dL_deed_377 rfl (fun c377 => ?_) (fun c377 => ?_)
          · exact absurd c377 (by decide)
          · refine z_iconst (nI 1) dL_deed_380 rfl ?_
            refine z_goto 466 dL_deed_381 rfl ?_
            exact z_zret dL_deed_466 (by first | rfl | exact zB_nar _) rfl hp
        · exact absurd (nI_nneg (by omega)) c368
  · exact absurd (nI_nneg (by omega)) c301
set_option maxRecDepth 4000 in
set_option maxHeartbeats 4000000 in
theorem l_deed_A2b {l : Launch} {G : zG} {Bs : Nat → Nat → Nat} {O : Nat → Nat} {v w : Nat → Int32} {hk : Int32} (hO : O 0 ∈ zL G ∧ zsh G (O 0) = (6, 5)) (hA : zAll v) {Q r g s : Nat} (hQ : Q < 2 ^ 31) (hr : r < nR v) (hg : g < 10) (hs : s ≤ 5) {b d : Nat} (hd : d < nD v) (e0 : v (147 + 7 * r + 0) = nI d) (hb1 : 1 ≤ b) (hb : b ≤ 9999) (eb : sDateW v d 3 = nI b) {a : Int32} (h2 : s < 2) (e4 : v (147 + 7 * r + 4) = a) (hP : 2 * b < 1 + Q / 256 % (2 * b + 2)) (ec : sDoOfr v (nI r) (nI (1 + Q / 256 % (2 * b + 2))) = (-2, v)) (mm : zM) (hp : lT G Bs O v w hk mm) : zV l G (yL_deed, cL_deed, 16, (some .boolean)) 8 (some (.int (zB true))) (lT G Bs O v w hk) 299 [some (.ref (O 0)), some (.int (nI Q)), some (.int (nI r)), some (.int (nI g)), some (.int (nI s)), some (.int (v (17 + g))), none, none, none, none, none, none, none, none, none, none] [] mm := by
  have hml : Q / 256 % (2 * b + 2) < 2 * b + 2 := Nat.mod_lt _ (by omega)
  refine z_iload 4 rfl dL_deed_299 ?_
  refine z_if_ge 308 dL_deed_301 rfl (fun c301 => ?_) (fun c301 => ?_)
  · refine z_aload_n 0 rfl rfl dL_deed_308 ?_
    refine z_aload_n 0 rfl rfl dL_deed_309 ?_
    refine z_iload_n 2 rfl rfl dL_deed_310 ?_
    refine z_iconst (nI 0) dL_deed_311 rfl ?_
    refine z_uV2 (ci := 6) zm_X6_right (q_rightW hp hA hr (by omega) e0) rfl zl_L_29 rfl rfl (by decide) hO.1 hO.2 (by decide) (Nat.le_of_ble_eq_true rfl) dL_deed_312 (fun mm hp => ?_)
    refine z_iconst (nI 3) dL_deed_315 rfl ?_
    refine z_uV2 (ci := 6) zm_X6_date (q_dateW hp hA hd (by omega) eb) rfl zl_L_26 rfl rfl (by decide) hO.1 hO.2 (by decide) (Nat.le_of_ble_eq_true rfl) dL_deed_316 (fun mm hp => ?_)
    refine z_istore 11 (Nat.le_of_ble_eq_true rfl) rfl dL_deed_319 ?_
    refine z_iconst (nI 1) dL_deed_321 rfl ?_
    refine z_iload_n 1 rfl rfl dL_deed_322 ?_
    refine z_bipush (nI 8) dL_deed_323 rfl ?_
    refine z_ishrN 256 (by decide) dL_deed_325 (by omega) (by decide) ?_
    refine z_iconst (nI 2) dL_deed_326 rfl ?_
    refine z_iload 11 rfl dL_deed_327 ?_
    refine z_imulN dL_deed_329 ?_
    refine z_iconst (nI 2) dL_deed_330 rfl ?_
    refine z_iaddN dL_deed_331 ?_
    refine z_iremN dL_deed_332 (by omega) (by omega) (by omega) ?_
    refine z_iaddN dL_deed_333 ?_
    refine z_istore 12 (Nat.le_of_ble_eq_true rfl) rfl dL_deed_334 ?_
    refine z_aload_n 0 rfl rfl dL_deed_336 ?_
    refine z_iload_n 2 rfl rfl dL_deed_337 ?_
    refine z_iconst (nI 4) dL_deed_338 rfl ?_
    refine z_uV2 (ci := 6) zm_X6_right (q_rightW hp hA hr (by omega) e4) rfl zl_L_29 rfl rfl (by decide) hO.1 hO.2 (by decide) (Nat.le_of_ble_eq_true rfl) dL_deed_339 (fun mm hp => ?_)
    refine z_istore 13 (Nat.le_of_ble_eq_true rfl) rfl dL_deed_342 ?_
    refine z_aload_n 0 rfl rfl dL_deed_344 ?_
    refine z_iload_n 2 rfl rfl dL_deed_345 ?_
    refine z_iload 12 rfl dL_deed_346 ?_
    refine z_uV2 (ci := 6) zm_X6_offer (q_offer hp hA ec) rfl zl_L_53 rfl rfl (by decide) hO.1 hO.2 (by decide) (Nat.le_of_ble_eq_true rfl) dL_deed_348 (fun mm hp => ?_)
    refine z_istore 14 (Nat.le_of_ble_eq_true rfl) rfl dL_deed_351 ?_
    refine z_iload 4 rfl dL_deed_353 ?_
    refine z_if_eq 388 dL_deed_355 rfl (fun c355 => ?_) (fun c355 => ?_)
    · refine z_iload 12 rfl dL_deed_388 ?_
      refine z_iconst (nI 2) dL_deed_390 rfl ?_
      refine z_iload 11 rfl dL_deed_391 ?_
      refine z_imulN dL_deed_393 ?_
      refine z_icmp_le 412 dL_deed_394 rfl (fun c394 => ?_) (fun c394 => ?_)
      · exact absurd c394 (nI_ge hP (by omega))
      · refine z_iload 14 rfl dL_deed_397 ?_
        refine z_bipush (-2) dL_deed_399 (by decide) ?_
        refine z_icmp_ne 408 dL_deed_401 rfl (fun c401 => ?_) (fun c401 => ?_)
        · exact absurd c401 (by decide)
        · refine z_iconst (nI 1) dL_deed_404 rfl ?_
          refine z_goto 466 dL_deed_405 rfl ?_
          exact z_zret dL_deed_466 (by first | rfl | exact zB_nar _) rfl hp
    · refine z_iload 4 rfl dL_deed_358 ?_
      refine z_iconst (nI 1) dL_deed_360 rfl ?_
      refine z_icmp_eq 388 dL_deed_361 rfl (fun c361 => ?_) (fun c361 => ?_)
      · refine z_iload 12 rfl dL_deed_388 ?_
        refine z_iconst (nI 2) dL_deed_390 rfl ?_
        refine z_iload 11 rfl dL_deed_391 ?_
        refine z_imulN dL_deed_393 ?_
        refine z_icmp_le 412 dL_deed_394 rfl (fun c394 => ?_) (fun c394 => ?_)
        · exact absurd c394 (nI_ge hP (by omega))
        · refine z_iload 14 rfl dL_deed_397 ?_
          refine z_bipush (-2) dL_deed_399 (by decide) ?_
          refine z_icmp_ne 408 dL_deed_401 rfl (fun c401 => ?_) (fun c401 => ?_)
          · exact absurd c401 (by decide)
          · refine z_iconst (nI 1) dL_deed_404 rfl ?_
            refine z_goto 466 dL_deed_405 rfl ?_
            exact z_zret dL_deed_466 (by first | rfl | exact zB_nar _) rfl hp
      · have h0 : s ≠ 0 := fun z => c355 (by rw [z]; rfl)
        exact absurd (by rw [show s = 1 by omega]) c361
  · exact absurd (nI_nneg (by omega)) c301
set_option maxRecDepth 4000 in
set_option maxHeartbeats 4000000 in
theorem l_deed_A2s {l : Launch} {G : zG} {Bs : Nat → Nat → Nat} {O : Nat → Nat} {v w : Nat → Int32} {hk : Int32} (hO : O 0 ∈ zL G ∧ zsh G (O 0) = (6, 5)) (hA : zAll v) {Q r g s : Nat} (hQ : Q < 2 ^ 31) (hr : r < nR v) (hg : g < 10) (hs : s ≤ 5) {b d : Nat} (hd : d < nD v) (e0 : v (147 + 7 * r + 0) = nI d) (hb1 : 1 ≤ b) (hb : b ≤ 9999) (eb : sDateW v d 3 = nI b) (h2 : s < 2) (e4 : v (147 + 7 * r + 4) = nI (1 + Q / 256 % (2 * b + 2))) (hP : 1 + Q / 256 % (2 * b + 2) ≤ 2 * b) (ec : sDoOfr v (nI r) (nI (1 + Q / 256 % (2 * b + 2))) = (-5, v)) (mm : zM) (hp : lT G Bs O v w hk mm) : zV l G (yL_deed, cL_deed, 16, (some .boolean)) 8 (some (.int (zB true))) (lT G Bs O v w hk) 299 [some (.ref (O 0)), some (.int (nI Q)), some (.int (nI r)), some (.int (nI g)), some (.int (nI s)), some (.int (v (17 + g))), none, none, none, none, none, none, none, none, none, none] [] mm := by
  refine z_iload 4 rfl dL_deed_299 ?_
  refine z_if_ge 308 dL_deed_301 rfl (fun c301 => ?_) (fun c301 => ?_)
  · refine z_aload_n 0 rfl rfl dL_deed_308 ?_
    refine z_aload_n 0 rfl rfl dL_deed_309 ?_
    refine z_iload_n 2 rfl rfl dL_deed_310 ?_
    refine z_iconst (nI 0) dL_deed_311 rfl ?_
    refine z_uV2 (ci := 6) zm_X6_right (q_rightW hp hA hr (by omega) e0) rfl zl_L_29 rfl rfl (by decide) hO.1 hO.2 (by decide) (Nat.le_of_ble_eq_true rfl) dL_deed_312 (fun mm hp => ?_)
    refine z_iconst (nI 3) dL_deed_315 rfl ?_
    refine z_uV2 (ci := 6) zm_X6_date (q_dateW hp hA hd (by omega) eb) rfl zl_L_26 rfl rfl (by decide) hO.1 hO.2 (by decide) (Nat.le_of_ble_eq_true rfl) dL_deed_316 (fun mm hp => ?_)
    refine z_istore 11 (Nat.le_of_ble_eq_true rfl) rfl dL_deed_319 ?_
    refine z_iconst (nI 1) dL_deed_321 rfl ?_
    refine z_iload_n 1 rfl rfl dL_deed_322 ?_
    refine z_bipush (nI 8) dL_deed_323 rfl ?_
    refine z_ishrN 256 (by decide) dL_deed_325 (by omega) (by decide) ?_
    refine z_iconst (nI 2) dL_deed_326 rfl ?_
    refine z_iload 11 rfl dL_deed_327 ?_
    refine z_imulN dL_deed_329 ?_
    refine z_iconst (nI 2) dL_deed_330 rfl ?_
    refine z_iaddN dL_deed_331 ?_
    refine z_iremN dL_deed_332 (by omega) (by omega) (by omega) ?_
    refine z_iaddN dL_deed_333 ?_
    refine z_istore 12 (Nat.le_of_ble_eq_true rfl) rfl dL_deed_334 ?_
    refine z_aload_n 0 rfl rfl dL_deed_336 ?_
    refine z_iload_n 2 rfl rfl dL_deed_337 ?_
    refine z_iconst (nI 4) dL_deed_338 rfl ?_
    refine z_uV2 (ci := 6) zm_X6_right (q_rightW hp hA hr (by omega) e4) rfl zl_L_29 rfl rfl (by decide) hO.1 hO.2 (by decide) (Nat.le_of_ble_eq_true rfl) dL_deed_339 (fun mm hp => ?_)
    refine z_istore 13 (Nat.le_of_ble_eq_true rfl) rfl dL_deed_342 ?_
    refine z_aload_n 0 rfl rfl dL_deed_344 ?_
    refine z_iload_n 2 rfl rfl dL_deed_345 ?_
    refine z_iload 12 rfl dL_deed_346 ?_
    refine z_uV2 (ci := 6) zm_X6_offer (q_offer hp hA ec) rfl zl_L_53 rfl rfl (by decide) hO.1 hO.2 (by decide) (Nat.le_of_ble_eq_true rfl) dL_deed_348 (fun mm hp => ?_)
    refine z_istore 14 (Nat.le_of_ble_eq_true rfl) rfl dL_deed_351 ?_
    refine z_iload 4 rfl dL_deed_353 ?_
    refine z_if_eq 388 dL_deed_355 rfl (fun c355 => ?_) (fun c355 => ?_)
    · refine z_iload 12 rfl dL_deed_388 ?_
      refine z_iconst (nI 2) dL_deed_390 rfl ?_
      refine z_iload 11 rfl dL_deed_391 ?_
      refine z_imulN dL_deed_393 ?_
      refine z_icmp_le 412 dL_deed_394 rfl (fun c394 => ?_) (fun c394 => ?_)
      · refine z_iload 13 rfl dL_deed_412 ?_
        refine z_iload 12 rfl dL_deed_414 ?_
        refine z_icmp_ne 434 dL_deed_416 rfl (fun c416 => ?_) (fun c416 => ?_)
        · exact absurd rfl c416
        · refine z_iload 14 rfl dL_deed_419 ?_
          refine z_bipush (-5) dL_deed_421 (by decide) ?_
          refine z_icmp_ne 430 dL_deed_423 rfl (fun c423 => ?_) (fun c423 => ?_)
          · exact absurd c423 (by decide)
          · refine z_iconst (nI 1) dL_deed_426 rfl ?_
            refine z_goto 466 dL_deed_427 rfl ?_
            exact z_zret dL_deed_466 (by first | rfl | exact zB_nar _) rfl hp
      · exact absurd (nI_le hP (by omega)) c394
    · refine z_iload 4 rfl dL_deed_358 ?_
      refine z_iconst (nI 1) dL_deed_360 rfl ?_
      refine z_icmp_eq 388 dL_deed_361 rfl (fun c361 => ?_) (fun c361 => ?_)
      · refine z_iload 12 rfl dL_deed_388 ?_
        refine z_iconst (nI 2) dL_deed_390 rfl ?_
        refine z_iload 11 rfl dL_deed_391 ?_
        refine z_imulN dL_deed_393 ?_
        refine z_icmp_le 412 dL_deed_394 rfl (fun c394 => ?_) (fun c394 => ?_)
        · refine z_iload 13 rfl dL_deed_412 ?_
          refine z_iload 12 rfl dL_deed_414 ?_
          refine z_icmp_ne 434 dL_deed_416 rfl (fun c416 => ?_) (fun c416 => ?_)
          · exact absurd rfl c416
          · refine z_iload 14 rfl dL_deed_419 ?_
            refine z_bipush (-5) dL_deed_421 (by decide) ?_
            refine z_icmp_ne 430 dL_deed_423 rfl (fun c423 => ?_) (fun c423 => ?_)
            · exact absurd c423 (by decide)
            · refine z_iconst (nI 1) dL_deed_426 rfl ?_
              refine z_goto 466 dL_deed_427 rfl ?_
              exact z_zret dL_deed_466 (by first | rfl | exact zB_nar _) rfl hp
        · exact absurd (nI_le hP (by omega)) c394
      · have h0 : s ≠ 0 := fun z => c355 (by rw [z]; rfl)
        exact absurd (by rw [show s = 1 by omega]) c361
  · exact absurd (nI_nneg (by omega)) c301
set_option maxRecDepth 4000 in
set_option maxHeartbeats 4000000 in
theorem l_deed_A2n {l : Launch} {G : zG} {Bs : Nat → Nat → Nat} {O : Nat → Nat} {v u w : Nat → Int32} {hk : Int32} (hO : O 0 ∈ zL G ∧ zsh G (O 0) = (6, 5)) (hA : zAll v) {Q r g s : Nat} (hQ : Q < 2 ^ 31) (hr : r < nR v) (hg : g < 10) (hs : s ≤ 5) {b d : Nat} (hd : d < nD v) (e0 : v (147 + 7 * r + 0) = nI d) (hb1 : 1 ≤ b) (hb : b ≤ 9999) (eb : sDateW v d 3 = nI b) (h2 : s < 2) (e4 : v (147 + 7 * r + 4) = -5) (hP : 1 + Q / 256 % (2 * b + 2) ≤ 2 * b) (hB : zAll u) (hru : r < nR u) (e4u : u (147 + 7 * r + 4) = nI (1 + Q / 256 % (2 * b + 2))) (ec : sDoOfr v (nI r) (nI (1 + Q / 256 % (2 * b + 2))) = (nI 0, u)) (mm : zM) (hp : lT G Bs O v w hk mm) : zV l G (yL_deed, cL_deed, 16, (some .boolean)) 8 (some (.int (zB true))) (lT G Bs O u w hk) 299 [some (.ref (O 0)), some (.int (nI Q)), some (.int (nI r)), some (.int (nI g)), some (.int (nI s)), some (.int (v (17 + g))), none, none, none, none, none, none, none, none, none, none] [] mm := by
  refine z_iload 4 rfl dL_deed_299 ?_
  refine z_if_ge 308 dL_deed_301 rfl (fun c301 => ?_) (fun c301 => ?_)
  · refine z_aload_n 0 rfl rfl dL_deed_308 ?_
    refine z_aload_n 0 rfl rfl dL_deed_309 ?_
    refine z_iload_n 2 rfl rfl dL_deed_310 ?_
    refine z_iconst (nI 0) dL_deed_311 rfl ?_
    refine z_uV2 (ci := 6) zm_X6_right (q_rightW hp hA hr (by omega) e0) rfl zl_L_29 rfl rfl (by decide) hO.1 hO.2 (by decide) (Nat.le_of_ble_eq_true rfl) dL_deed_312 (fun mm hp => ?_)
    refine z_iconst (nI 3) dL_deed_315 rfl ?_
    refine z_uV2 (ci := 6) zm_X6_date (q_dateW hp hA hd (by omega) eb) rfl zl_L_26 rfl rfl (by decide) hO.1 hO.2 (by decide) (Nat.le_of_ble_eq_true rfl) dL_deed_316 (fun mm hp => ?_)
    refine z_istore 11 (Nat.le_of_ble_eq_true rfl) rfl dL_deed_319 ?_
    refine z_iconst (nI 1) dL_deed_321 rfl ?_
    refine z_iload_n 1 rfl rfl dL_deed_322 ?_
    refine z_bipush (nI 8) dL_deed_323 rfl ?_
    refine z_ishrN 256 (by decide) dL_deed_325 (by omega) (by decide) ?_
    refine z_iconst (nI 2) dL_deed_326 rfl ?_
    refine z_iload 11 rfl dL_deed_327 ?_
    refine z_imulN dL_deed_329 ?_
    refine z_iconst (nI 2) dL_deed_330 rfl ?_
    refine z_iaddN dL_deed_331 ?_
    refine z_iremN dL_deed_332 (by omega) (by omega) (by omega) ?_
    refine z_iaddN dL_deed_333 ?_
    refine z_istore 12 (Nat.le_of_ble_eq_true rfl) rfl dL_deed_334 ?_
    refine z_aload_n 0 rfl rfl dL_deed_336 ?_
    refine z_iload_n 2 rfl rfl dL_deed_337 ?_
    refine z_iconst (nI 4) dL_deed_338 rfl ?_
    refine z_uV2 (ci := 6) zm_X6_right (q_rightW hp hA hr (by omega) e4) rfl zl_L_29 rfl rfl (by decide) hO.1 hO.2 (by decide) (Nat.le_of_ble_eq_true rfl) dL_deed_339 (fun mm hp => ?_)
    refine z_istore 13 (Nat.le_of_ble_eq_true rfl) rfl dL_deed_342 ?_
    refine z_aload_n 0 rfl rfl dL_deed_344 ?_
    refine z_iload_n 2 rfl rfl dL_deed_345 ?_
    refine z_iload 12 rfl dL_deed_346 ?_
    refine z_uV2 (ci := 6) zm_X6_offer (q_offer hp hA ec) rfl zl_L_53 rfl rfl (by decide) hO.1 hO.2 (by decide) (Nat.le_of_ble_eq_true rfl) dL_deed_348 (fun mm hp => ?_)
    refine z_istore 14 (Nat.le_of_ble_eq_true rfl) rfl dL_deed_351 ?_
    refine z_iload 4 rfl dL_deed_353 ?_
    refine z_if_eq 388 dL_deed_355 rfl (fun c355 => ?_) (fun c355 => ?_)
    · refine z_iload 12 rfl dL_deed_388 ?_
      refine z_iconst (nI 2) dL_deed_390 rfl ?_
      refine z_iload 11 rfl dL_deed_391 ?_
      refine z_imulN dL_deed_393 ?_
      refine z_icmp_le 412 dL_deed_394 rfl (fun c394 => ?_) (fun c394 => ?_)
      · refine z_iload 13 rfl dL_deed_412 ?_
        refine z_iload 12 rfl dL_deed_414 ?_
        refine z_icmp_ne 434 dL_deed_416 rfl (fun c416 => ?_) (fun c416 => ?_)
        · refine z_iload 14 rfl dL_deed_434 ?_
          refine z_iload 13 rfl dL_deed_436 ?_
          refine z_if_ge 445 dL_deed_438 rfl (fun c438 => ?_) (fun c438 => ?_)
          · exact absurd c438 (by decide)
          · refine z_iconst (nI 0) dL_deed_441 rfl ?_
            refine z_goto 447 dL_deed_442 rfl ?_
            refine z_icmp_ne 465 dL_deed_447 rfl (fun c447 => ?_) (fun c447 => ?_)
            · exact absurd c447 (by decide)
            · refine z_aload_n 0 rfl rfl dL_deed_450 ?_
              refine z_iload_n 2 rfl rfl dL_deed_451 ?_
              refine z_iconst (nI 4) dL_deed_452 rfl ?_
              refine z_uV2 (ci := 6) zm_X6_right (q_rightW hp hB hru (by omega) e4u) rfl zl_L_29 rfl rfl (by decide) hO.1 hO.2 (by decide) (Nat.le_of_ble_eq_true rfl) dL_deed_453 (fun mm hp => ?_)
              refine z_iload 12 rfl dL_deed_456 ?_
              refine z_icmp_ne 465 dL_deed_458 rfl (fun c458 => ?_) (fun c458 => ?_)
              · exact absurd rfl c458
              · refine z_iconst (nI 1) dL_deed_461 rfl ?_
                refine z_goto 466 dL_deed_462 rfl ?_
                exact z_zret dL_deed_466 (by first | rfl | exact zB_nar _) rfl hp
        · exact absurd c416.symm (nI_nm5 (by omega))
      · exact absurd (nI_le hP (by omega)) c394
    · refine z_iload 4 rfl dL_deed_358 ?_
      refine z_iconst (nI 1) dL_deed_360 rfl ?_
      refine z_icmp_eq 388 dL_deed_361 rfl (fun c361 => ?_) (fun c361 => ?_)
      · refine z_iload 12 rfl dL_deed_388 ?_
        refine z_iconst (nI 2) dL_deed_390 rfl ?_
        refine z_iload 11 rfl dL_deed_391 ?_
        refine z_imulN dL_deed_393 ?_
        refine z_icmp_le 412 dL_deed_394 rfl (fun c394 => ?_) (fun c394 => ?_)
        · refine z_iload 13 rfl dL_deed_412 ?_
          refine z_iload 12 rfl dL_deed_414 ?_
          refine z_icmp_ne 434 dL_deed_416 rfl (fun c416 => ?_) (fun c416 => ?_)
          · refine z_iload 14 rfl dL_deed_434 ?_
            refine z_iload 13 rfl dL_deed_436 ?_
            refine z_if_ge 445 dL_deed_438 rfl (fun c438 => ?_) (fun c438 => ?_)
            · exact absurd c438 (by decide)
            · refine z_iconst (nI 0) dL_deed_441 rfl ?_
              refine z_goto 447 dL_deed_442 rfl ?_
              refine z_icmp_ne 465 dL_deed_447 rfl (fun c447 => ?_) (fun c447 => ?_)
              · exact absurd c447 (by decide)
              · refine z_aload_n 0 rfl rfl dL_deed_450 ?_
                refine z_iload_n 2 rfl rfl dL_deed_451 ?_
                refine z_iconst (nI 4) dL_deed_452 rfl ?_
                refine z_uV2 (ci := 6) zm_X6_right (q_rightW hp hB hru (by omega) e4u) rfl zl_L_29 rfl rfl (by decide) hO.1 hO.2 (by decide) (Nat.le_of_ble_eq_true rfl) dL_deed_453 (fun mm hp => ?_)
                refine z_iload 12 rfl dL_deed_456 ?_
                refine z_icmp_ne 465 dL_deed_458 rfl (fun c458 => ?_) (fun c458 => ?_)
                · exact absurd rfl c458
                · refine z_iconst (nI 1) dL_deed_461 rfl ?_
                  refine z_goto 466 dL_deed_462 rfl ?_
                  exact z_zret dL_deed_466 (by first | rfl | exact zB_nar _) rfl hp
          · exact absurd c416.symm (nI_nm5 (by omega))
        · exact absurd (nI_le hP (by omega)) c394
      · have h0 : s ≠ 0 := fun z => c355 (by rw [z]; rfl)
        exact absurd (by rw [show s = 1 by omega]) c361
  · exact absurd (nI_nneg (by omega)) c301
set_option maxRecDepth 4000 in
set_option maxHeartbeats 4000000 in
theorem l_deed_A2o {l : Launch} {G : zG} {Bs : Nat → Nat → Nat} {O : Nat → Nat} {v u w : Nat → Int32} {hk : Int32} (hO : O 0 ∈ zL G ∧ zsh G (O 0) = (6, 5)) (hA : zAll v) {Q r g s : Nat} (hQ : Q < 2 ^ 31) (hr : r < nR v) (hg : g < 10) (hs : s ≤ 5) {b d : Nat} (hd : d < nD v) (e0 : v (147 + 7 * r + 0) = nI d) (hb1 : 1 ≤ b) (hb : b ≤ 9999) (eb : sDateW v d 3 = nI b) {E : Nat} (hE : E ≤ 19998) (h2 : s < 2) (e4 : v (147 + 7 * r + 4) = nI E) (hne : E ≠ 1 + Q / 256 % (2 * b + 2)) (hP : 1 + Q / 256 % (2 * b + 2) ≤ 2 * b) (hB : zAll u) (hru : r < nR u) (e4u : u (147 + 7 * r + 4) = nI (1 + Q / 256 % (2 * b + 2))) (ec : sDoOfr v (nI r) (nI (1 + Q / 256 % (2 * b + 2))) = (nI E, u)) (mm : zM) (hp : lT G Bs O v w hk mm) : zV l G (yL_deed, cL_deed, 16, (some .boolean)) 8 (some (.int (zB true))) (lT G Bs O u w hk) 299 [some (.ref (O 0)), some (.int (nI Q)), some (.int (nI r)), some (.int (nI g)), some (.int (nI s)), some (.int (v (17 + g))), none, none, none, none, none, none, none, none, none, none] [] mm := by
  refine z_iload 4 rfl dL_deed_299 ?_
  refine z_if_ge 308 dL_deed_301 rfl (fun c301 => ?_) (fun c301 => ?_)
  · refine z_aload_n 0 rfl rfl dL_deed_308 ?_
    refine z_aload_n 0 rfl rfl dL_deed_309 ?_
    refine z_iload_n 2 rfl rfl dL_deed_310 ?_
    refine z_iconst (nI 0) dL_deed_311 rfl ?_
    refine z_uV2 (ci := 6) zm_X6_right (q_rightW hp hA hr (by omega) e0) rfl zl_L_29 rfl rfl (by decide) hO.1 hO.2 (by decide) (Nat.le_of_ble_eq_true rfl) dL_deed_312 (fun mm hp => ?_)
    refine z_iconst (nI 3) dL_deed_315 rfl ?_
    refine z_uV2 (ci := 6) zm_X6_date (q_dateW hp hA hd (by omega) eb) rfl zl_L_26 rfl rfl (by decide) hO.1 hO.2 (by decide) (Nat.le_of_ble_eq_true rfl) dL_deed_316 (fun mm hp => ?_)
    refine z_istore 11 (Nat.le_of_ble_eq_true rfl) rfl dL_deed_319 ?_
    refine z_iconst (nI 1) dL_deed_321 rfl ?_
    refine z_iload_n 1 rfl rfl dL_deed_322 ?_
    refine z_bipush (nI 8) dL_deed_323 rfl ?_
    refine z_ishrN 256 (by decide) dL_deed_325 (by omega) (by decide) ?_
    refine z_iconst (nI 2) dL_deed_326 rfl ?_
    refine z_iload 11 rfl dL_deed_327 ?_
    refine z_imulN dL_deed_329 ?_
    refine z_iconst (nI 2) dL_deed_330 rfl ?_
    refine z_iaddN dL_deed_331 ?_
    refine z_iremN dL_deed_332 (by omega) (by omega) (by omega) ?_
    refine z_iaddN dL_deed_333 ?_
    refine z_istore 12 (Nat.le_of_ble_eq_true rfl) rfl dL_deed_334 ?_
    refine z_aload_n 0 rfl rfl dL_deed_336 ?_
    refine z_iload_n 2 rfl rfl dL_deed_337 ?_
    refine z_iconst (nI 4) dL_deed_338 rfl ?_
    refine z_uV2 (ci := 6) zm_X6_right (q_rightW hp hA hr (by omega) e4) rfl zl_L_29 rfl rfl (by decide) hO.1 hO.2 (by decide) (Nat.le_of_ble_eq_true rfl) dL_deed_339 (fun mm hp => ?_)
    refine z_istore 13 (Nat.le_of_ble_eq_true rfl) rfl dL_deed_342 ?_
    refine z_aload_n 0 rfl rfl dL_deed_344 ?_
    refine z_iload_n 2 rfl rfl dL_deed_345 ?_
    refine z_iload 12 rfl dL_deed_346 ?_
    refine z_uV2 (ci := 6) zm_X6_offer (q_offer hp hA ec) rfl zl_L_53 rfl rfl (by decide) hO.1 hO.2 (by decide) (Nat.le_of_ble_eq_true rfl) dL_deed_348 (fun mm hp => ?_)
    refine z_istore 14 (Nat.le_of_ble_eq_true rfl) rfl dL_deed_351 ?_
    refine z_iload 4 rfl dL_deed_353 ?_
    refine z_if_eq 388 dL_deed_355 rfl (fun c355 => ?_) (fun c355 => ?_)
    · refine z_iload 12 rfl dL_deed_388 ?_
      refine z_iconst (nI 2) dL_deed_390 rfl ?_
      refine z_iload 11 rfl dL_deed_391 ?_
      refine z_imulN dL_deed_393 ?_
      refine z_icmp_le 412 dL_deed_394 rfl (fun c394 => ?_) (fun c394 => ?_)
      · refine z_iload 13 rfl dL_deed_412 ?_
        refine z_iload 12 rfl dL_deed_414 ?_
        refine z_icmp_ne 434 dL_deed_416 rfl (fun c416 => ?_) (fun c416 => ?_)
        · refine z_iload 14 rfl dL_deed_434 ?_
          refine z_iload 13 rfl dL_deed_436 ?_
          refine z_if_ge 445 dL_deed_438 rfl (fun c438 => ?_) (fun c438 => ?_)
          · refine z_iload 13 rfl dL_deed_445 ?_
            refine z_icmp_ne 465 dL_deed_447 rfl (fun c447 => ?_) (fun c447 => ?_)
            · exact absurd rfl c447
            · refine z_aload_n 0 rfl rfl dL_deed_450 ?_
              refine z_iload_n 2 rfl rfl dL_deed_451 ?_
              refine z_iconst (nI 4) dL_deed_452 rfl ?_
              refine z_uV2 (ci := 6) zm_X6_right (q_rightW hp hB hru (by omega) e4u) rfl zl_L_29 rfl rfl (by decide) hO.1 hO.2 (by decide) (Nat.le_of_ble_eq_true rfl) dL_deed_453 (fun mm hp => ?_)
              refine z_iload 12 rfl dL_deed_456 ?_
              refine z_icmp_ne 465 dL_deed_458 rfl (fun c458 => ?_) (fun c458 => ?_)
              · exact absurd rfl c458
              · refine z_iconst (nI 1) dL_deed_461 rfl ?_
                refine z_goto 466 dL_deed_462 rfl ?_
                exact z_zret dL_deed_466 (by first | rfl | exact zB_nar _) rfl hp
          · exact absurd (nI_nneg (by omega)) c438
        · exact absurd ((nI_eq (by omega) (by omega)).mp c416) hne
      · exact absurd (nI_le hP (by omega)) c394
    · refine z_iload 4 rfl dL_deed_358 ?_
      refine z_iconst (nI 1) dL_deed_360 rfl ?_
      refine z_icmp_eq 388 dL_deed_361 rfl (fun c361 => ?_) (fun c361 => ?_)
      · refine z_iload 12 rfl dL_deed_388 ?_
        refine z_iconst (nI 2) dL_deed_390 rfl ?_
        refine z_iload 11 rfl dL_deed_391 ?_
        refine z_imulN dL_deed_393 ?_
        refine z_icmp_le 412 dL_deed_394 rfl (fun c394 => ?_) (fun c394 => ?_)
        · refine z_iload 13 rfl dL_deed_412 ?_
          refine z_iload 12 rfl dL_deed_414 ?_
          refine z_icmp_ne 434 dL_deed_416 rfl (fun c416 => ?_) (fun c416 => ?_)
          · refine z_iload 14 rfl dL_deed_434 ?_
            refine z_iload 13 rfl dL_deed_436 ?_
            refine z_if_ge 445 dL_deed_438 rfl (fun c438 => ?_) (fun c438 => ?_)
            · refine z_iload 13 rfl dL_deed_445 ?_
              refine z_icmp_ne 465 dL_deed_447 rfl (fun c447 => ?_) (fun c447 => ?_)
              · exact absurd rfl c447
              · refine z_aload_n 0 rfl rfl dL_deed_450 ?_
                refine z_iload_n 2 rfl rfl dL_deed_451 ?_
                refine z_iconst (nI 4) dL_deed_452 rfl ?_
                refine z_uV2 (ci := 6) zm_X6_right (q_rightW hp hB hru (by omega) e4u) rfl zl_L_29 rfl rfl (by decide) hO.1 hO.2 (by decide) (Nat.le_of_ble_eq_true rfl) dL_deed_453 (fun mm hp => ?_)
                refine z_iload 12 rfl dL_deed_456 ?_
                refine z_icmp_ne 465 dL_deed_458 rfl (fun c458 => ?_) (fun c458 => ?_)
                · exact absurd rfl c458
                · refine z_iconst (nI 1) dL_deed_461 rfl ?_
                  refine z_goto 466 dL_deed_462 rfl ?_
                  exact z_zret dL_deed_466 (by first | rfl | exact zB_nar _) rfl hp
            · exact absurd (nI_nneg (by omega)) c438
          · exact absurd ((nI_eq (by omega) (by omega)).mp c416) hne
        · exact absurd (nI_le hP (by omega)) c394
      · have h0 : s ≠ 0 := fun z => c355 (by rw [z]; rfl)
        exact absurd (by rw [show s = 1 by omega]) c361
  · exact absurd (nI_nneg (by omega)) c301
set_option maxRecDepth 4000 in
set_option maxHeartbeats 4000000 in
theorem l_deed_A3t {l : Launch} {G : zG} {Bs : Nat → Nat → Nat} {O : Nat → Nat} {v u w : Nat → Int32} {hk : Int32} (hO : O 0 ∈ zL G ∧ zsh G (O 0) = (6, 5)) (hA : zAll v) {Q r g : Nat} (hQ : Q < 2 ^ 31) (hr : r < nR v) (hg : g < 10) {a : Int32} (e4 : v (147 + 7 * r + 4) = a) (hB : zAll u) (hru : r < nR u) (ec : sTk v (nI r) = (a, u, true)) (e3 : u (147 + 7 * r + 3) = nI 0) (mm : zM) (hp : lT G Bs O v w hk mm) : zV l G (yL_deed, cL_deed, 16, (some .boolean)) 8 (some (.int (zB true))) (lT G Bs O u w hk) 467 [some (.ref (O 0)), some (.int (nI Q)), some (.int (nI r)), some (.int (nI g)), some (.int (nI 1)), some (.int (v (17 + g))), none, none, none, none, none, none, none, none, none, none] [] mm := by
  refine z_aload_n 0 rfl rfl dL_deed_467 ?_
  refine z_iload_n 2 rfl rfl dL_deed_468 ?_
  refine z_iconst (nI 4) dL_deed_469 rfl ?_
  refine z_uV2 (ci := 6) zm_X6_right (q_rightW hp hA hr (by omega) e4) rfl zl_L_29 rfl rfl (by decide) hO.1 hO.2 (by decide) (Nat.le_of_ble_eq_true rfl) dL_deed_470 (fun mm hp => ?_)
  refine z_istore 15 (Nat.le_of_ble_eq_true rfl) rfl dL_deed_473 ?_
  refine z_iload 4 rfl dL_deed_475 ?_
  refine z_iconst (nI 1) dL_deed_477 rfl ?_
  refine z_icmp_ne 508 dL_deed_478 rfl (fun c478 => ?_) (fun c478 => ?_)
  · exact absurd c478 (by decide)
  · refine z_aload_n 0 rfl rfl dL_deed_481 ?_
    refine z_iload_n 2 rfl rfl dL_deed_482 ?_
    refine z_uV1 (ci := 6) zm_X6_takeBack (q_takeBack hp hA ec) rfl zl_L_56 rfl rfl (by decide) hO.1 hO.2 (by decide) (Nat.le_of_ble_eq_true rfl) dL_deed_483 (fun mm hp => ?_)
    refine z_iload 15 rfl dL_deed_486 ?_
    refine z_icmp_ne 504 dL_deed_488 rfl (fun c488 => ?_) (fun c488 => ?_)
    · exact absurd rfl c488
    · refine z_aload_n 0 rfl rfl dL_deed_491 ?_
      refine z_iload_n 2 rfl rfl dL_deed_492 ?_
      refine z_iconst (nI 3) dL_deed_493 rfl ?_
      refine z_uV2 (ci := 6) zm_X6_right (q_rightW hp hB hru (by omega) e3) rfl zl_L_29 rfl rfl (by decide) hO.1 hO.2 (by decide) (Nat.le_of_ble_eq_true rfl) dL_deed_494 (fun mm hp => ?_)
      refine z_if_ne 504 dL_deed_497 rfl (fun c497 => ?_) (fun c497 => ?_)
      · exact absurd c497 (by decide)
      · refine z_iconst (nI 1) dL_deed_500 rfl ?_
        refine z_goto 532 dL_deed_501 rfl ?_
        exact z_zret dL_deed_532 (by first | rfl | exact zB_nar _) rfl hp
set_option maxRecDepth 4000 in
set_option maxHeartbeats 4000000 in
theorem l_deed_A3p {l : Launch} {G : zG} {Bs : Nat → Nat → Nat} {O : Nat → Nat} {v w : Nat → Int32} {hk : Int32} (hO : O 0 ∈ zL G ∧ zsh G (O 0) = (6, 5)) (hA : zAll v) {Q r g s : Nat} (hQ : Q < 2 ^ 31) (hr : r < nR v) (hg : g < 10) (hs : s ≤ 5) {a : Int32} (h1 : s ≠ 1) (e4 : v (147 + 7 * r + 4) = a) (ec : sTk v (nI r) = (-4, v, false)) (mm : zM) (hp : lT G Bs O v w hk mm) : zV l G (yL_deed, cL_deed, 16, (some .boolean)) 8 (some (.int (zB true))) (lT G Bs O v w hk) 467 [some (.ref (O 0)), some (.int (nI Q)), some (.int (nI r)), some (.int (nI g)), some (.int (nI s)), some (.int (v (17 + g))), none, none, none, none, none, none, none, none, none, none] [] mm := by
  refine z_aload_n 0 rfl rfl dL_deed_467 ?_
  refine z_iload_n 2 rfl rfl dL_deed_468 ?_
  refine z_iconst (nI 4) dL_deed_469 rfl ?_
  refine z_uV2 (ci := 6) zm_X6_right (q_rightW hp hA hr (by omega) e4) rfl zl_L_29 rfl rfl (by decide) hO.1 hO.2 (by decide) (Nat.le_of_ble_eq_true rfl) dL_deed_470 (fun mm hp => ?_)
  refine z_istore 15 (Nat.le_of_ble_eq_true rfl) rfl dL_deed_473 ?_
  refine z_iload 4 rfl dL_deed_475 ?_
  refine z_iconst (nI 1) dL_deed_477 rfl ?_
  refine z_icmp_ne 508 dL_deed_478 rfl (fun c478 => ?_) (fun c478 => ?_)
  · refine z_aload_n 0 rfl rfl dL_deed_508 ?_
    refine z_iload_n 2 rfl rfl dL_deed_509 ?_
    refine z_uV1 (ci := 6) zm_X6_takeBack (q_takeBack hp hA ec) rfl zl_L_56 rfl rfl (by decide) hO.1 hO.2 (by decide) (Nat.le_of_ble_eq_true rfl) dL_deed_510 (fun mm hp => ?_)
    refine z_iload 4 rfl dL_deed_513 ?_
    refine z_if_ge 522 dL_deed_515 rfl (fun c515 => ?_) (fun c515 => ?_)
    · refine z_bipush (-4) dL_deed_522 (by decide) ?_
      refine z_icmp_ne 531 dL_deed_524 rfl (fun c524 => ?_) (fun c524 => ?_)
      · exact absurd c524 (by decide)
      · refine z_iconst (nI 1) dL_deed_527 rfl ?_
        refine z_goto 532 dL_deed_528 rfl ?_
        exact z_zret dL_deed_532 (by first | rfl | exact zB_nar _) rfl hp
    · exact absurd (nI_nneg (by omega)) c515
  · exact absurd ((nI_eq (by omega) (by omega)).mp c478) h1
