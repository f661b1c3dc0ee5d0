set_option maxRecDepth 4000 in
set_option maxHeartbeats 4000000 in
theorem l_dates_m {l : Launch} {G : zG} {Bs : Nat → Nat → Nat} {O : Nat → Nat} {v w : Nat → Int32} {hk : Int32} (hO : O 0 ∈ zL G ∧ zsh G (O 0) = (6, 5)) (hA : zAll v) {d L p su bs W cd : Nat} {x9 : Option Value} (hd : d < nD v) (F : dF v d L p su bs W cd) (K : ∀ (x3 x4 x5 x6 x7 x8 x9 : Option Value) (mm : zM), lT G Bs O v w hk mm → zV l G (yL_dates, cL_dates, 10, (some .boolean)) 7 (some (.int (zB true))) (lT G Bs O v w hk) 4 [some (.ref (O 0)), some (.int (nI 1)), some (.int (nI (d + 1))), x3, x4, x5, x6, x7, x8, x9] [] mm) (mm : zM) (hp : lT G Bs O v w hk mm) : zV l G (yL_dates, cL_dates, 10, (some .boolean)) 7 (some (.int (zB true))) (lT G Bs O v w hk) 353 [some (.ref (O 0)), some (.int (nI 1)), some (.int (nI d)), some (.int (nI (sOut v d))), some (.int (nI (sOf v d (nI 1) (nI 1)))), some (.int (nI (sOf v d (nI 2) (nI 2)))), some (.int (lLow v d (nR v))), some (.int (nI L)), some (.int (nI (nR v))), x9] [] mm := by
  obtain ⟨hL, eL, ⟨hp1, hp20, ep⟩, ⟨hsu, es⟩, ⟨hb1, hb, eb⟩, ⟨hW, eW⟩, ⟨hcd, ecd⟩, f1, f0⟩ := id F
  have h10 := hA.1.1.1.1.1.2
  have h60 := hA.1.1.1.1.2.1.2
  obtain ⟨N, hN, h5, hl⟩ := hA.1.1.1.1.2.2.1 d (by omega)
  have hdis := hA.1.1.1.2.2.2.2.2.1 d (by omega)
  have hE := hA.2.1.2.1 d hd p hp20 ep
  have hout : sOut v d ≤ 60 := Nat.le_trans sCnt_le h60
  have hc0 : L = 0 → sCan v d = nI 0 := fun z => sCan_no (f0 z).1
  have hc1 : 0 < L → sCan v d = nI (min (p + (if cd < L then su else 0) - sOut v d) (60 - nR v)) := fun z => sCan_ok hA.1.1.1.1.2.1 (f1 z).1 (f1 z).2.1 hL hp20 ep hsu es hcd ecd
  refine z_aload_n 0 rfl rfl dL_dates_353 ?_
  refine z_iload_n 2 rfl rfl dL_dates_354 ?_
  refine z_iconst (nI 1) dL_dates_355 rfl ?_
  refine z_uV2 (ci := 6) zm_X6_date (q_dateW hp hA hd (by omega) (x := nI p) ep) rfl zl_L_26 rfl rfl (by decide) hO.1 hO.2 (by decide) (Nat.le_of_ble_eq_true rfl) dL_dates_356 (fun mm hp => ?_)
  refine z_iload 7 rfl dL_dates_359 ?_
  refine z_aload_n 0 rfl rfl dL_dates_361 ?_
  refine z_bipush (nI 10) dL_dates_362 rfl ?_
  refine z_uV1 (ci := 6) zm_X6_count (q_count hp hA (by omega) (x := nI cd) ecd) rfl zl_L_16 rfl rfl (by decide) hO.1 hO.2 (by decide) (Nat.le_of_ble_eq_true rfl) dL_dates_364 (fun mm hp => ?_)
  refine z_icmp_le 379 dL_dates_367 rfl (fun c367 => ?_) (fun c367 => ?_)
  · obtain ⟨x, hx, ex⟩ : ∃ x, x = 0 ∧ (if cd < L then su else 0) = x := ⟨0, rfl, if_neg (fun z => absurd ((nI_leI (by omega) (by omega)).mp c367) (by omega))⟩
    subst hx
    refine z_iconst (nI 0) dL_dates_379 rfl ?_
    refine z_iaddN dL_dates_380 ?_
    refine z_iload_n 3 rfl rfl dL_dates_381 ?_
    refine z_isub dL_dates_382 ?_
    refine z_istore 8 (Nat.le_of_ble_eq_true rfl) rfl dL_dates_383 ?_
    refine z_iload 8 rfl dL_dates_385 ?_
    refine z_bipush (nI 60) dL_dates_387 rfl ?_
    refine z_aload_n 0 rfl rfl dL_dates_389 ?_
    refine z_iconst (nI 2) dL_dates_390 rfl ?_
    refine z_uV1 (ci := 6) zm_X6_count (q_count hp hA (by omega) (x := nI (nR v)) hA.1.1.1.1.2.1.1) rfl zl_L_16 rfl rfl (by decide) hO.1 hO.2 (by decide) (Nat.le_of_ble_eq_true rfl) dL_dates_391 (fun mm hp => ?_)
    refine z_isubN h60 dL_dates_394 ?_
    refine z_icmp_le 409 dL_dates_395 rfl (fun c395 => ?_) (fun c395 => ?_)
    · refine z_iload 8 rfl dL_dates_409 ?_
      refine z_istore 8 (Nat.le_of_ble_eq_true rfl) rfl dL_dates_411 ?_
      refine z_iload_n 1 rfl rfl dL_dates_413 ?_
      refine z_if_eq 505 dL_dates_414 rfl (fun c414 => ?_) (fun c414 => ?_)
      · exact absurd c414 (by decide)
      · refine z_aload_n 0 rfl rfl dL_dates_417 ?_
        refine z_iload_n 2 rfl rfl dL_dates_418 ?_
        refine z_bipush (nI 6) dL_dates_419 rfl ?_
        refine z_uV2 (ci := 6) zm_X6_date (q_dateW hp hA hd (by omega) (x := nI (sOut v d)) rfl) rfl zl_L_26 rfl rfl (by decide) hO.1 hO.2 (by decide) (Nat.le_of_ble_eq_true rfl) dL_dates_421 (fun mm hp => ?_)
        refine z_iload_n 3 rfl rfl dL_dates_424 ?_
        refine z_icmp_ne 505 dL_dates_425 rfl (fun c425 => ?_) (fun c425 => ?_)
        · exact absurd rfl c425
        · refine z_aload_n 0 rfl rfl dL_dates_428 ?_
          refine z_iload_n 2 rfl rfl dL_dates_429 ?_
          refine z_bipush (nI 8) dL_dates_430 rfl ?_
          refine z_uV2 (ci := 6) zm_X6_date (q_dateW hp hA hd (by omega) (x := nI (sOf v d (nI 1) (nI 1))) rfl) rfl zl_L_26 rfl rfl (by decide) hO.1 hO.2 (by decide) (Nat.le_of_ble_eq_true rfl) dL_dates_432 (fun mm hp => ?_)
          refine z_iload 4 rfl dL_dates_435 ?_
          refine z_icmp_ne 505 dL_dates_437 rfl (fun c437 => ?_) (fun c437 => ?_)
          · exact absurd rfl c437
          · refine z_aload_n 0 rfl rfl dL_dates_440 ?_
            refine z_iload_n 2 rfl rfl dL_dates_441 ?_
            refine z_bipush (nI 7) dL_dates_442 rfl ?_
            refine z_uV2 (ci := 6) zm_X6_date (q_dateW hp hA hd (by omega) (x := nI (sOf v d (nI 2) (nI 2))) rfl) rfl zl_L_26 rfl rfl (by decide) hO.1 hO.2 (by decide) (Nat.le_of_ble_eq_true rfl) dL_dates_444 (fun mm hp => ?_)
            refine z_iload 5 rfl dL_dates_447 ?_
            refine z_icmp_ne 505 dL_dates_449 rfl (fun c449 => ?_) (fun c449 => ?_)
            · exact absurd rfl c449
            · refine z_iload 5 rfl dL_dates_452 ?_
              refine z_aload_n 0 rfl rfl dL_dates_454 ?_
              refine z_iload_n 2 rfl rfl dL_dates_455 ?_
              refine z_iconst (nI 1) dL_dates_456 rfl ?_
              refine z_uV2 (ci := 6) zm_X6_date (q_dateW hp hA hd (by omega) (x := nI p) ep) rfl zl_L_26 rfl rfl (by decide) hO.1 hO.2 (by decide) (Nat.le_of_ble_eq_true rfl) dL_dates_457 (fun mm hp => ?_)
              refine z_icmp_gt 505 dL_dates_460 rfl (fun c460 => ?_) (fun c460 => ?_)
              · exact absurd c460 (nI_nlt hE (by omega))
              · refine z_aload_n 0 rfl rfl dL_dates_463 ?_
                refine z_iload_n 2 rfl rfl dL_dates_464 ?_
                refine z_bipush (nI 13) dL_dates_465 rfl ?_
                refine z_uV2 (ci := 6) zm_X6_date (q_dateW hp hA hd (by omega) (x := lLow v d (nR v)) rfl) rfl zl_L_26 rfl rfl (by decide) hO.1 hO.2 (by decide) (Nat.le_of_ble_eq_true rfl) dL_dates_467 (fun mm hp => ?_)
                refine z_iload 6 rfl dL_dates_470 ?_
                refine z_icmp_ne 505 dL_dates_472 rfl (fun c472 => ?_) (fun c472 => ?_)
                · exact absurd rfl c472
                · refine z_aload_n 0 rfl rfl dL_dates_475 ?_
                  refine z_iload_n 2 rfl rfl dL_dates_476 ?_
                  refine z_bipush (nI 10) dL_dates_477 rfl ?_
                  refine z_uV2 (ci := 6) zm_X6_date (q_dateW hp hA hd (by omega) (x := sCan v d) rfl) rfl zl_L_26 rfl rfl (by decide) hO.1 hO.2 (by decide) (Nat.le_of_ble_eq_true rfl) dL_dates_479 (fun mm hp => ?_)
                  refine z_iload 7 rfl dL_dates_482 ?_
                  refine z_if_eq 492 dL_dates_484 rfl (fun c484 => ?_) (fun c484 => ?_)
                  · have hL0 : L = 0 := (nI_eq (b := 0) (by omega) (by omega)).mp c484
                    refine z_iconst (nI 0) dL_dates_492 rfl ?_
                    refine z_goto 498 dL_dates_493 rfl ?_
                    refine z_icmp_ne 505 dL_dates_498 rfl (fun c498 => ?_) (fun c498 => ?_)
                    · exact absurd (hc0 hL0) c498
                    · refine z_iconst (nI 1) dL_dates_501 rfl ?_
                      refine z_goto 506 dL_dates_502 rfl ?_
                      refine z_istore_n 1 rfl (Nat.le_of_ble_eq_true rfl) rfl dL_dates_506 ?_
                      exact l_dates_m2 hO hA hd F K mm hp
                  · have hL0 : 0 < L := Nat.pos_of_ne_zero (fun z => c484 (by rw [z]; rfl))
                    have hc := hc1 hL0
                    rw [ex] at hc
                    refine z_iload 8 rfl dL_dates_487 ?_
                    refine z_if_ge 496 dL_dates_489 rfl (fun c489 => ?_) (fun c489 => ?_)
                    · refine z_iload 8 rfl dL_dates_496 ?_
                      refine z_icmp_ne 505 dL_dates_498 rfl (fun c498 => ?_) (fun c498 => ?_)
                      · exact absurd (hc.trans (room_1b (by omega) (by omega) (by omega) c395 c489)) c498
                      · refine z_iconst (nI 1) dL_dates_501 rfl ?_
                        refine z_goto 506 dL_dates_502 rfl ?_
                        refine z_istore_n 1 rfl (Nat.le_of_ble_eq_true rfl) rfl dL_dates_506 ?_
                        exact l_dates_m2 hO hA hd F K mm hp
                    · refine z_iconst (nI 0) dL_dates_492 rfl ?_
                      refine z_goto 498 dL_dates_493 rfl ?_
                      refine z_icmp_ne 505 dL_dates_498 rfl (fun c498 => ?_) (fun c498 => ?_)
                      · exact absurd (by rw [hc, room_1c (by omega) (by omega) c489]) c498
                      · refine z_iconst (nI 1) dL_dates_501 rfl ?_
                        refine z_goto 506 dL_dates_502 rfl ?_
                        refine z_istore_n 1 rfl (Nat.le_of_ble_eq_true rfl) rfl dL_dates_506 ?_
                        exact l_dates_m2 hO hA hd F K mm hp
    · refine z_bipush (nI 60) dL_dates_398 rfl ?_
      refine z_aload_n 0 rfl rfl dL_dates_400 ?_
      refine z_iconst (nI 2) dL_dates_401 rfl ?_
      refine z_uV1 (ci := 6) zm_X6_count (q_count hp hA (by omega) (x := nI (nR v)) hA.1.1.1.1.2.1.1) rfl zl_L_16 rfl rfl (by decide) hO.1 hO.2 (by decide) (Nat.le_of_ble_eq_true rfl) dL_dates_402 (fun mm hp => ?_)
      refine z_isubN h60 dL_dates_405 ?_
      refine z_goto 411 dL_dates_406 rfl ?_
      refine z_istore 8 (Nat.le_of_ble_eq_true rfl) rfl dL_dates_411 ?_
      refine z_iload_n 1 rfl rfl dL_dates_413 ?_
      refine z_if_eq 505 dL_dates_414 rfl (fun c414 => ?_) (fun c414 => ?_)
      · exact absurd c414 (by decide)
      · refine z_aload_n 0 rfl rfl dL_dates_417 ?_
        refine z_iload_n 2 rfl rfl dL_dates_418 ?_
        refine z_bipush (nI 6) dL_dates_419 rfl ?_
        refine z_uV2 (ci := 6) zm_X6_date (q_dateW hp hA hd (by omega) (x := nI (sOut v d)) rfl) rfl zl_L_26 rfl rfl (by decide) hO.1 hO.2 (by decide) (Nat.le_of_ble_eq_true rfl) dL_dates_421 (fun mm hp => ?_)
        refine z_iload_n 3 rfl rfl dL_dates_424 ?_
        refine z_icmp_ne 505 dL_dates_425 rfl (fun c425 => ?_) (fun c425 => ?_)
        · exact absurd rfl c425
        · refine z_aload_n 0 rfl rfl dL_dates_428 ?_
          refine z_iload_n 2 rfl rfl dL_dates_429 ?_
          refine z_bipush (nI 8) dL_dates_430 rfl ?_
          refine z_uV2 (ci := 6) zm_X6_date (q_dateW hp hA hd (by omega) (x := nI (sOf v d (nI 1) (nI 1))) rfl) rfl zl_L_26 rfl rfl (by decide) hO.1 hO.2 (by decide) (Nat.le_of_ble_eq_true rfl) dL_dates_432 (fun mm hp => ?_)
          refine z_iload 4 rfl dL_dates_435 ?_
          refine z_icmp_ne 505 dL_dates_437 rfl (fun c437 => ?_) (fun c437 => ?_)
          · exact absurd rfl c437
          · refine z_aload_n 0 rfl rfl dL_dates_440 ?_
            refine z_iload_n 2 rfl rfl dL_dates_441 ?_
            refine z_bipush (nI 7) dL_dates_442 rfl ?_
            refine z_uV2 (ci := 6) zm_X6_date (q_dateW hp hA hd (by omega) (x := nI (sOf v d (nI 2) (nI 2))) rfl) rfl zl_L_26 rfl rfl (by decide) hO.1 hO.2 (by decide) (Nat.le_of_ble_eq_true rfl) dL_dates_444 (fun mm hp => ?_)
            refine z_iload 5 rfl dL_dates_447 ?_
            refine z_icmp_ne 505 dL_dates_449 rfl (fun c449 => ?_) (fun c449 => ?_)
            · exact absurd rfl c449
            · refine z_iload 5 rfl dL_dates_452 ?_
              refine z_aload_n 0 rfl rfl dL_dates_454 ?_
              refine z_iload_n 2 rfl rfl dL_dates_455 ?_
              refine z_iconst (nI 1) dL_dates_456 rfl ?_
              refine z_uV2 (ci := 6) zm_X6_date (q_dateW hp hA hd (by omega) (x := nI p) ep) rfl zl_L_26 rfl rfl (by decide) hO.1 hO.2 (by decide) (Nat.le_of_ble_eq_true rfl) dL_dates_457 (fun mm hp => ?_)
              refine z_icmp_gt 505 dL_dates_460 rfl (fun c460 => ?_) (fun c460 => ?_)
              · exact absurd c460 (nI_nlt hE (by omega))
              · refine z_aload_n 0 rfl rfl dL_dates_463 ?_
                refine z_iload_n 2 rfl rfl dL_dates_464 ?_
                refine z_bipush (nI 13) dL_dates_465 rfl ?_
                refine z_uV2 (ci := 6) zm_X6_date (q_dateW hp hA hd (by omega) (x := lLow v d (nR v)) rfl) rfl zl_L_26 rfl rfl (by decide) hO.1 hO.2 (by decide) (Nat.le_of_ble_eq_true rfl) dL_dates_467 (fun mm hp => ?_)
                refine z_iload 6 rfl dL_dates_470 ?_
                refine z_icmp_ne 505 dL_dates_472 rfl (fun c472 => ?_) (fun c472 => ?_)
                · exact absurd rfl c472
                · refine z_aload_n 0 rfl rfl dL_dates_475 ?_
                  refine z_iload_n 2 rfl rfl dL_dates_476 ?_
                  refine z_bipush (nI 10) dL_dates_477 rfl ?_
                  refine z_uV2 (ci := 6) zm_X6_date (q_dateW hp hA hd (by omega) (x := sCan v d) rfl) rfl zl_L_26 rfl rfl (by decide) hO.1 hO.2 (by decide) (Nat.le_of_ble_eq_true rfl) dL_dates_479 (fun mm hp => ?_)
                  refine z_iload 7 rfl dL_dates_482 ?_
                  refine z_if_eq 492 dL_dates_484 rfl (fun c484 => ?_) (fun c484 => ?_)
                  · have hL0 : L = 0 := (nI_eq (b := 0) (by omega) (by omega)).mp c484
                    refine z_iconst (nI 0) dL_dates_492 rfl ?_
                    refine z_goto 498 dL_dates_493 rfl ?_
                    refine z_icmp_ne 505 dL_dates_498 rfl (fun c498 => ?_) (fun c498 => ?_)
                    · exact absurd (hc0 hL0) c498
                    · refine z_iconst (nI 1) dL_dates_501 rfl ?_
                      refine z_goto 506 dL_dates_502 rfl ?_
                      refine z_istore_n 1 rfl (Nat.le_of_ble_eq_true rfl) rfl dL_dates_506 ?_
                      exact l_dates_m2 hO hA hd F K mm hp
                  · have hL0 : 0 < L := Nat.pos_of_ne_zero (fun z => c484 (by rw [z]; rfl))
                    have hc := hc1 hL0
                    rw [ex] at hc
                    refine z_iload 8 rfl dL_dates_487 ?_
                    refine z_if_ge 496 dL_dates_489 rfl (fun c489 => ?_) (fun c489 => ?_)
                    · refine z_iload 8 rfl dL_dates_496 ?_
                      refine z_icmp_ne 505 dL_dates_498 rfl (fun c498 => ?_) (fun c498 => ?_)
                      · exact absurd (by rw [hc, room_1a (by omega) (by omega) (by omega) c395]) c498
                      · refine z_iconst (nI 1) dL_dates_501 rfl ?_
                        refine z_goto 506 dL_dates_502 rfl ?_
                        refine z_istore_n 1 rfl (Nat.le_of_ble_eq_true rfl) rfl dL_dates_506 ?_
                        exact l_dates_m2 hO hA hd F K mm hp
                    · exact absurd (nI_nneg (by omega)) c489
  · obtain ⟨x, hx, ex⟩ : ∃ x, x = su ∧ (if cd < L then su else 0) = x := ⟨su, rfl, if_pos (Nat.lt_of_not_le (fun z => c367 (nI_le z (by omega))))⟩
    subst hx
    refine z_aload_n 0 rfl rfl dL_dates_370 ?_
    refine z_iload_n 2 rfl rfl dL_dates_371 ?_
    refine z_iconst (nI 2) dL_dates_372 rfl ?_
    refine z_uV2 (ci := 6) zm_X6_date (q_dateW hp hA hd (by omega) (x := nI x) es) rfl zl_L_26 rfl rfl (by decide) hO.1 hO.2 (by decide) (Nat.le_of_ble_eq_true rfl) dL_dates_373 (fun mm hp => ?_)
    refine z_goto 380 dL_dates_376 rfl ?_
    refine z_iaddN dL_dates_380 ?_
    refine z_iload_n 3 rfl rfl dL_dates_381 ?_
    refine z_isub dL_dates_382 ?_
    refine z_istore 8 (Nat.le_of_ble_eq_true rfl) rfl dL_dates_383 ?_
    refine z_iload 8 rfl dL_dates_385 ?_
    refine z_bipush (nI 60) dL_dates_387 rfl ?_
    refine z_aload_n 0 rfl rfl dL_dates_389 ?_
    refine z_iconst (nI 2) dL_dates_390 rfl ?_
    refine z_uV1 (ci := 6) zm_X6_count (q_count hp hA (by omega) (x := nI (nR v)) hA.1.1.1.1.2.1.1) rfl zl_L_16 rfl rfl (by decide) hO.1 hO.2 (by decide) (Nat.le_of_ble_eq_true rfl) dL_dates_391 (fun mm hp => ?_)
    refine z_isubN h60 dL_dates_394 ?_
    refine z_icmp_le 409 dL_dates_395 rfl (fun c395 => ?_) (fun c395 => ?_)
    · refine z_iload 8 rfl dL_dates_409 ?_
      refine z_istore 8 (Nat.le_of_ble_eq_true rfl) rfl dL_dates_411 ?_
      refine z_iload_n 1 rfl rfl dL_dates_413 ?_
      refine z_if_eq 505 dL_dates_414 rfl (fun c414 => ?_) (fun c414 => ?_)
      · exact absurd c414 (by decide)
      · refine z_aload_n 0 rfl rfl dL_dates_417 ?_
        refine z_iload_n 2 rfl rfl dL_dates_418 ?_
        refine z_bipush (nI 6) dL_dates_419 rfl ?_
        refine z_uV2 (ci := 6) zm_X6_date (q_dateW hp hA hd (by omega) (x := nI (sOut v d)) rfl) rfl zl_L_26 rfl rfl (by decide) hO.1 hO.2 (by decide) (Nat.le_of_ble_eq_true rfl) dL_dates_421 (fun mm hp => ?_)
        refine z_iload_n 3 rfl rfl dL_dates_424 ?_
        refine z_icmp_ne 505 dL_dates_425 rfl (fun c425 => ?_) (fun c425 => ?_)
        · exact absurd rfl c425
        · refine z_aload_n 0 rfl rfl dL_dates_428 ?_
          refine z_iload_n 2 rfl rfl dL_dates_429 ?_
          refine z_bipush (nI 8) dL_dates_430 rfl ?_
          refine z_uV2 (ci := 6) zm_X6_date (q_dateW hp hA hd (by omega) (x := nI (sOf v d (nI 1) (nI 1))) rfl) rfl zl_L_26 rfl rfl (by decide) hO.1 hO.2 (by decide) (Nat.le_of_ble_eq_true rfl) dL_dates_432 (fun mm hp => ?_)
          refine z_iload 4 rfl dL_dates_435 ?_
          refine z_icmp_ne 505 dL_dates_437 rfl (fun c437 => ?_) (fun c437 => ?_)
          · exact absurd rfl c437
          · refine z_aload_n 0 rfl rfl dL_dates_440 ?_
            refine z_iload_n 2 rfl rfl dL_dates_441 ?_
            refine z_bipush (nI 7) dL_dates_442 rfl ?_
            refine z_uV2 (ci := 6) zm_X6_date (q_dateW hp hA hd (by omega) (x := nI (sOf v d (nI 2) (nI 2))) rfl) rfl zl_L_26 rfl rfl (by decide) hO.1 hO.2 (by decide) (Nat.le_of_ble_eq_true rfl) dL_dates_444 (fun mm hp => ?_)
            refine z_iload 5 rfl dL_dates_447 ?_
            refine z_icmp_ne 505 dL_dates_449 rfl (fun c449 => ?_) (fun c449 => ?_)
            · exact absurd rfl c449
            · refine z_iload 5 rfl dL_dates_452 ?_
              refine z_aload_n 0 rfl rfl dL_dates_454 ?_
              refine z_iload_n 2 rfl rfl dL_dates_455 ?_
              refine z_iconst (nI 1) dL_dates_456 rfl ?_
              refine z_uV2 (ci := 6) zm_X6_date (q_dateW hp hA hd (by omega) (x := nI p) ep) rfl zl_L_26 rfl rfl (by decide) hO.1 hO.2 (by decide) (Nat.le_of_ble_eq_true rfl) dL_dates_457 (fun mm hp => ?_)
              refine z_icmp_gt 505 dL_dates_460 rfl (fun c460 => ?_) (fun c460 => ?_)
              · exact absurd c460 (nI_nlt hE (by omega))
              · refine z_aload_n 0 rfl rfl dL_dates_463 ?_
                refine z_iload_n 2 rfl rfl dL_dates_464 ?_
                refine z_bipush (nI 13) dL_dates_465 rfl ?_
                refine z_uV2 (ci := 6) zm_X6_date (q_dateW hp hA hd (by omega) (x := lLow v d (nR v)) rfl) rfl zl_L_26 rfl rfl (by decide) hO.1 hO.2 (by decide) (Nat.le_of_ble_eq_true rfl) dL_dates_467 (fun mm hp => ?_)
                refine z_iload 6 rfl dL_dates_470 ?_
                refine z_icmp_ne 505 dL_dates_472 rfl (fun c472 => ?_) (fun c472 => ?_)
                · exact absurd rfl c472
                · refine z_aload_n 0 rfl rfl dL_dates_475 ?_
                  refine z_iload_n 2 rfl rfl dL_dates_476 ?_
                  refine z_bipush (nI 10) dL_dates_477 rfl ?_
                  refine z_uV2 (ci := 6) zm_X6_date (q_dateW hp hA hd (by omega) (x := sCan v d) rfl) rfl zl_L_26 rfl rfl (by decide) hO.1 hO.2 (by decide) (Nat.le_of_ble_eq_true rfl) dL_dates_479 (fun mm hp => ?_)
                  refine z_iload 7 rfl dL_dates_482 ?_
                  refine z_if_eq 492 dL_dates_484 rfl (fun c484 => ?_) (fun c484 => ?_)
                  · have hL0 : L = 0 := (nI_eq (b := 0) (by omega) (by omega)).mp c484
                    refine z_iconst (nI 0) dL_dates_492 rfl ?_
                    refine z_goto 498 dL_dates_493 rfl ?_
                    refine z_icmp_ne 505 dL_dates_498 rfl (fun c498 => ?_) (fun c498 => ?_)
                    · exact absurd (hc0 hL0) c498
                    · refine z_iconst (nI 1) dL_dates_501 rfl ?_
                      refine z_goto 506 dL_dates_502 rfl ?_
                      refine z_istore_n 1 rfl (Nat.le_of_ble_eq_true rfl) rfl dL_dates_506 ?_
                      exact l_dates_m2 hO hA hd F K mm hp
                  · have hL0 : 0 < L := Nat.pos_of_ne_zero (fun z => c484 (by rw [z]; rfl))
                    have hc := hc1 hL0
                    rw [ex] at hc
                    refine z_iload 8 rfl dL_dates_487 ?_
                    refine z_if_ge 496 dL_dates_489 rfl (fun c489 => ?_) (fun c489 => ?_)
                    · refine z_iload 8 rfl dL_dates_496 ?_
                      refine z_icmp_ne 505 dL_dates_498 rfl (fun c498 => ?_) (fun c498 => ?_)
                      · exact absurd (hc.trans (room_1b (by omega) (by omega) (by omega) c395 c489)) c498
                      · refine z_iconst (nI 1) dL_dates_501 rfl ?_
                        refine z_goto 506 dL_dates_502 rfl ?_
                        refine z_istore_n 1 rfl (Nat.le_of_ble_eq_true rfl) rfl dL_dates_506 ?_
                        exact l_dates_m2 hO hA hd F K mm hp
                    · refine z_iconst (nI 0) dL_dates_492 rfl ?_
                      refine z_goto 498 dL_dates_493 rfl ?_
                      refine z_icmp_ne 505 dL_dates_498 rfl (fun c498 => ?_) (fun c498 => ?_)
                      · exact absurd (by rw [hc, room_1c (by omega) (by omega) c489]) c498
                      · refine z_iconst (nI 1) dL_dates_501 rfl ?_
                        refine z_goto 506 dL_dates_502 rfl ?_
                        refine z_istore_n 1 rfl (Nat.le_of_ble_eq_true rfl) rfl dL_dates_506 ?_
                        exact l_dates_m2 hO hA hd F K mm hp
    · refine z_bipush (nI 60) dL_dates_398 rfl ?_
      refine z_aload_n 0 rfl rfl dL_dates_400 ?_
      refine z_iconst (nI 2) dL_dates_401 rfl ?_
      refine z_uV1 (ci := 6) zm_X6_count (q_count hp hA (by omega) (x := nI (nR v)) hA.1.1.1.1.2.1.1) rfl zl_L_16 rfl rfl (by decide) hO.1 hO.2 (by decide) (Nat.le_of_ble_eq_true rfl) dL_dates_402 (fun mm hp => ?_)
      refine z_isubN h60 dL_dates_405 ?_
      refine z_goto 411 dL_dates_406 rfl ?_
      refine z_istore 8 (Nat.le_of_ble_eq_true rfl) rfl dL_dates_411 ?_
      refine z_iload_n 1 rfl rfl dL_dates_413 ?_
      refine z_if_eq 505 dL_dates_414 rfl (fun c414 => ?_) (fun c414 => ?_)
      · exact absurd c414 (by decide)
      · refine z_aload_n 0 rfl rfl dL_dates_417 ?_
        refine z_iload_n 2 rfl rfl dL_dates_418 ?_
        refine z_bipush (nI 6) dL_dates_419 rfl ?_
        refine z_uV2 (ci := 6) zm_X6_date (q_dateW hp hA hd (by omega) (x := nI (sOut v d)) rfl) rfl zl_L_26 rfl rfl (by decide) hO.1 hO.2 (by decide) (Nat.le_of_ble_eq_true rfl) dL_dates_421 (fun mm hp => ?_)
        refine z_iload_n 3 rfl rfl dL_dates_424 ?_
        refine z_icmp_ne 505 dL_dates_425 rfl (fun c425 => ?_) (fun c425 => ?_)
        · exact absurd rfl c425
        · refine z_aload_n 0 rfl rfl dL_dates_428 ?_
          refine z_iload_n 2 rfl rfl dL_dates_429 ?_
          refine z_bipush (nI 8) dL_dates_430 rfl ?_
          refine z_uV2 (ci := 6) zm_X6_date (q_dateW hp hA hd (by omega) (x := nI (sOf v d (nI 1) (nI 1))) rfl) rfl zl_L_26 rfl rfl (by decide) hO.1 hO.2 (by decide) (Nat.le_of_ble_eq_true rfl) dL_dates_432 (fun mm hp => ?_)
          refine z_iload 4 rfl dL_dates_435 ?_
          refine z_icmp_ne 505 dL_dates_437 rfl (fun c437 => ?_) (fun c437 => ?_)
          · exact absurd rfl c437
          · refine z_aload_n 0 rfl rfl dL_dates_440 ?_
            refine z_iload_n 2 rfl rfl dL_dates_441 ?_
            refine z_bipush (nI 7) dL_dates_442 rfl ?_
            refine z_uV2 (ci := 6) zm_X6_date (q_dateW hp hA hd (by omega) (x := nI (sOf v d (nI 2) (nI 2))) rfl) rfl zl_L_26 rfl rfl (by decide) hO.1 hO.2 (by decide) (Nat.le_of_ble_eq_true rfl) dL_dates_444 (fun mm hp => ?_)
            refine z_iload 5 rfl dL_dates_447 ?_
            refine z_icmp_ne 505 dL_dates_449 rfl (fun c449 => ?_) (fun c449 => ?_)
            · exact absurd rfl c449
            · refine z_iload 5 rfl dL_dates_452 ?_
              refine z_aload_n 0 rfl rfl dL_dates_454 ?_
              refine z_iload_n 2 rfl rfl dL_dates_455 ?_
              refine z_iconst (nI 1) dL_dates_456 rfl ?_
              refine z_uV2 (ci := 6) zm_X6_date (q_dateW hp hA hd (by omega) (x := nI p) ep) rfl zl_L_26 rfl rfl (by decide) hO.1 hO.2 (by decide) (Nat.le_of_ble_eq_true rfl) dL_dates_457 (fun mm hp => ?_)
              refine z_icmp_gt 505 dL_dates_460 rfl (fun c460 => ?_) (fun c460 => ?_)
              · exact absurd c460 (nI_nlt hE (by omega))
              · refine z_aload_n 0 rfl rfl dL_dates_463 ?_
                refine z_iload_n 2 rfl rfl dL_dates_464 ?_
                refine z_bipush (nI 13) dL_dates_465 rfl ?_
                refine z_uV2 (ci := 6) zm_X6_date (q_dateW hp hA hd (by omega) (x := lLow v d (nR v)) rfl) rfl zl_L_26 rfl rfl (by decide) hO.1 hO.2 (by decide) (Nat.le_of_ble_eq_true rfl) dL_dates_467 (fun mm hp => ?_)
                refine z_iload 6 rfl dL_dates_470 ?_
                refine z_icmp_ne 505 dL_dates_472 rfl (fun c472 => ?_) (fun c472 => ?_)
                · exact absurd rfl c472
                · refine z_aload_n 0 rfl rfl dL_dates_475 ?_
                  refine z_iload_n 2 rfl rfl dL_dates_476 ?_
                  refine z_bipush (nI 10) dL_dates_477 rfl ?_
                  refine z_uV2 (ci := 6) zm_X6_date (q_dateW hp hA hd (by omega) (x := sCan v d) rfl) rfl zl_L_26 rfl rfl (by decide) hO.1 hO.2 (by decide) (Nat.le_of_ble_eq_true rfl) dL_dates_479 (fun mm hp => ?_)
                  refine z_iload 7 rfl dL_dates_482 ?_
                  refine z_if_eq 492 dL_dates_484 rfl (fun c484 => ?_) (fun c484 => ?_)
                  · have hL0 : L = 0 := (nI_eq (b := 0) (by omega) (by omega)).mp c484
                    refine z_iconst (nI 0) dL_dates_492 rfl ?_
                    refine z_goto 498 dL_dates_493 rfl ?_
                    refine z_icmp_ne 505 dL_dates_498 rfl (fun c498 => ?_) (fun c498 => ?_)
                    · exact absurd (hc0 hL0) c498
                    · refine z_iconst (nI 1) dL_dates_501 rfl ?_
                      refine z_goto 506 dL_dates_502 rfl ?_
                      refine z_istore_n 1 rfl (Nat.le_of_ble_eq_true rfl) rfl dL_dates_506 ?_
                      exact l_dates_m2 hO hA hd F K mm hp
                  · have hL0 : 0 < L := Nat.pos_of_ne_zero (fun z => c484 (by rw [z]; rfl))
                    have hc := hc1 hL0
                    rw [ex] at hc
                    refine z_iload 8 rfl dL_dates_487 ?_
                    refine z_if_ge 496 dL_dates_489 rfl (fun c489 => ?_) (fun c489 => ?_)
                    · refine z_iload 8 rfl dL_dates_496 ?_
                      refine z_icmp_ne 505 dL_dates_498 rfl (fun c498 => ?_) (fun c498 => ?_)
                      · exact absurd (by rw [hc, room_1a (by omega) (by omega) (by omega) c395]) c498
                      · refine z_iconst (nI 1) dL_dates_501 rfl ?_
                        refine z_goto 506 dL_dates_502 rfl ?_
                        refine z_istore_n 1 rfl (Nat.le_of_ble_eq_true rfl) rfl dL_dates_506 ?_
                        exact l_dates_m2 hO hA hd F K mm hp
                    · exact absurd (nI_nneg (by omega)) c489
