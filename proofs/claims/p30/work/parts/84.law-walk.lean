theorem a_pass2 {v : Nat → Int32} {t k : Nat} (hA : zAll v) (e : v 0 = nI t) (hk1 : 1 ≤ k) (hk : k ≤ 60) (ht : t + k ≤ 9999) : ∃ n u, sPass v (nI k) = (nI n, u, true) ∧ zAll u ∧ n ≤ 600 * k := by
  have ea := a_pass e hk1 hk ht
  have hB : zAll (sDays v k).2 := by have z := hA.pass (nI k); rw [ea] at z; exact z
  exact ⟨_, _, ea, hB, sDays_bd hA.1.1.1.1 k _ _ rfl⟩
theorem a_add {v : Nat → Int32} {a p c e f : Nat} (hA : zAll v) (hD : nD v < 10) (h0 : v 0 = nI 0) (ha : 1 ≤ a ∧ a ≤ 999) (hp : 1 ≤ p ∧ p ≤ 20) (hc : c ≤ 5) (he : 1 ≤ e ∧ e ≤ 9999) (hf : f ≤ 2) : ∃ u, sAdd v (nI a) (nI p) (nI c) (nI e) (nI f) = (nI (nD v), u, true) ∧ zAll u ∧ nD u = nD v + 1 ∧ u 0 = nI 0 := by
  have hJ := hA.1.1.1.1.1
  have hok : sAddOk v (nI a) (nI p) (nI c) (nI e) (nI f) = true := by
    unfold sAddOk
    rw [h0, nI_add, zIn_ok (by omega) ha.2 (by omega), zIn_ok hp.1 hp.2 (by omega), zIn_ok (Nat.zero_le _) hc (by omega), zIn_ok he.1 he.2 (by omega), zIn_ok (Nat.zero_le _) hf (by omega)]; rfl
  have w1 : sAdd1 v (nD v) (nI a) (nI p) (nI c) (nI e) (nI f) 1 = v 1 := by unfold sAdd1; rw [upd_ne (by omega), upd_ne (by omega), upd_ne (by omega), upd_ne (by omega), upd_ne (by omega), upd_ne (by omega)]
  have ex : sAdd v (nI a) (nI p) (nI c) (nI e) (nI f) = (nI (nD v), upd (sAdd1 v (nD v) (nI a) (nI p) (nI c) (nI e) (nI f)) 1 (sAdd1 v (nD v) (nI a) (nI p) (nI c) (nI e) (nI f) 1 + nI 1), true) := by
    unfold sAdd
    rw [hok, if_pos rfl, if_neg (by rw [hJ.1]; exact fun z => by have := (nI_eq (by omega) (by omega)).mp z; omega)]
  have hB := hA.add (nI a) (nI p) (nI c) (nI e) (nI f)
  rw [ex] at hB
  refine ⟨_, ex, hB, ?_, ?_⟩
  · have z : upd (sAdd1 v (nD v) (nI a) (nI p) (nI c) (nI e) (nI f)) 1 (sAdd1 v (nD v) (nI a) (nI p) (nI c) (nI e) (nI f) 1 + nI 1) 1 = nI (nD v + 1) := by rw [upd_eq, w1, hJ.1, nI_add]
    show (upd (sAdd1 v (nD v) (nI a) (nI p) (nI c) (nI e) (nI f)) 1 (sAdd1 v (nD v) (nI a) (nI p) (nI c) (nI e) (nI f) 1 + nI 1) 1).toNatClampNeg = _
    rw [z]; exact nI_clamp (by omega)
  · rw [upd_ne (by omega)]
    unfold sAdd1
    rw [upd_ne (by omega), upd_ne (by omega), upd_ne (by omega), upd_ne (by omega), upd_ne (by omega), upd_ne (by omega)]; exact h0
theorem set0_m2 {v : Nat → Int32} (hA : zAll v) {q : Nat} (hq : q ≤ 9) : ¬ (sSet v (nI 0) (nI q)).1 = -2 := by
  unfold sSet
  rw [if_pos (by decide), zn_nI (by omega), if_pos (show zIn (nI q) (zLow 0) (zHigh 0) = true from zIn_ok (a := 0) (b := 9) (Nat.zero_le _) hq (by omega))]
  split
  · show ¬ (-5 : Int32) = -2; decide
  · obtain ⟨a, ha, ea⟩ := nI_of (i_not_lt.mpr (hA.1.2 0 (by omega)))
    show ¬ v (3 + 0) = -2
    rw [ea]; exact fun z => absurd (nI_nneg ha) (by rw [z]; decide)
set_option maxRecDepth 8000 in
set_option maxHeartbeats 4000000 in
theorem law_end {l : Launch} {G0 : zG} {τ : Nat → Nat} {Kp : Method → Prop} {b Ls : Nat} {xs : Nat → Int32} {sh : Nat → Nat × Nat} {L : List Nat} {cells slots : Nat} {Bs : Nat → Nat → Nat} {O : Nat → Nat} (hLs : Ls ≤ 260) (hfc : cells ≤ 600000) (hfs : slots ≤ 7302250) (hO : O 0 ∈ L ∧ sh (O 0) = (6, 5)) {v w : Nat → Int32} {hk : Int32} {t X : Nat} {x4 x5 : Option Value} (hA : zAll v) (e0 : v 0 = nI t) (ht : t ≤ 9000) (mm : zM) (hp : lT (gx G0 sh L) Bs O v w hk mm) : zX l G0 τ (yL_law, cL_law, 6, ret) room_1 Kp (lwF G0 b Ls xs) lwA 192 [some (.ref b), some (.ref (O 0)), some (.int (nI X)), some (.int (nI 1)), x4, x5] [] sh L mm cells slots := by
  obtain ⟨na, ua, ea, hB, hna⟩ := a_pass2 hA e0 (k := 20) (by omega) (by omega) (by omega)
  obtain ⟨nc, uc, ec, hC, hnc⟩ := a_pass2 hA e0 (k := 3) (by omega) (by omega) (by omega)
  refine x_aload_n 1 rfl rfl dL_law_192 ?_
  refine x_iconst (nI 0) dL_law_193 rfl ?_
  refine x_V1 zm_X6_count (q_count hp hA (by omega) (x := v 0) rfl) zl_L_16 rfl rfl (by decide) hO.1 hO.2 (by decide) (Nat.le_of_ble_eq_true rfl) dL_law_194 hfc hfs (fun mm hp => ?_)
  refine x_istore 4 (Nat.le_of_ble_eq_true rfl) rfl dL_law_197 ?_
  refine x_aload_n 1 rfl rfl dL_law_199 ?_
  refine x_bipush (nI 9) dL_law_200 rfl ?_
  refine x_V1 zm_X6_count (q_count hp hA (by omega) rfl) zl_L_16 rfl rfl (by decide) hO.1 hO.2 (by decide) (Nat.le_of_ble_eq_true rfl) dL_law_202 hfc hfs (fun mm hp => ?_)
  refine x_istore 5 (Nat.le_of_ble_eq_true rfl) rfl dL_law_205 ?_
  refine x_iload_n 3 rfl rfl dL_law_207 ?_
  refine x_if_eq 268 dL_law_208 rfl (fun c208 => ?_) (fun c208 => ?_)
  · exact absurd c208 (by decide)
  · refine x_aload_n 1 rfl rfl dL_law_211 ?_
    refine x_V0 zm_X6_keep (q_keep hp hA (x := v 0) rfl) zl_L_108 rfl rfl (by decide) hO.1 hO.2 (by decide) (Nat.le_of_ble_eq_true rfl) dL_law_212 hfc hfs (fun mm hp => ?_)
    refine x_iload 4 rfl dL_law_215 ?_
    refine x_icmp_ne 268 dL_law_217 rfl (fun c217 => ?_) (fun c217 => ?_)
    · exact absurd rfl c217
    · refine x_aload_n 1 rfl rfl dL_law_220 ?_
      refine x_bipush (nI 20) dL_law_221 rfl ?_
      refine x_V1 zm_X6_pass (q_passS hp hA ea (nI_nneg (by omega))) zl_L_75 rfl rfl (by decide) hO.1 hO.2 (by decide) (Nat.le_of_ble_eq_true rfl) dL_law_223 hfc hfs (fun mm hp => ?_)
      refine x_if_lt 268 dL_law_226 rfl (fun c226 => ?_) (fun c226 => ?_)
      · exact absurd c226 (nI_pos (by omega))
      · refine x_aload_n 1 rfl rfl dL_law_229 ?_
        obtain ⟨k, hk3, hs⟩ := q_undo (l := l) hp hB
        refine x_V0 zm_X6_undo (hs) zl_L_111 rfl rfl (by decide) hO.1 hO.2 (by decide) (Nat.le_of_ble_eq_true rfl) dL_law_230 hfc hfs (fun mm hp => ?_)
        refine x_if_lt 268 dL_law_233 rfl (fun c233 => ?_) (fun c233 => ?_)
        · exact absurd c233 (nI_pos (by omega))
        · refine x_aload_n 1 rfl rfl dL_law_236 ?_
          refine x_bipush (nI 9) dL_law_237 rfl ?_
          refine x_V1 zm_X6_count (q_count hp hA (by omega) rfl) zl_L_16 rfl rfl (by decide) hO.1 hO.2 (by decide) (Nat.le_of_ble_eq_true rfl) dL_law_239 hfc hfs (fun mm hp => ?_)
          refine x_iload 5 rfl dL_law_242 ?_
          refine x_icmp_ne 268 dL_law_244 rfl (fun c244 => ?_) (fun c244 => ?_)
          · exact absurd rfl c244
          · refine x_aload_n 1 rfl rfl dL_law_247 ?_
            refine x_iconst (nI 3) dL_law_248 rfl ?_
            refine x_V1 zm_X6_pass (q_pass hp hA ec) zl_L_75 rfl rfl (by decide) hO.1 hO.2 (by decide) (Nat.le_of_ble_eq_true rfl) dL_law_249 hfc hfs (fun mm hp => ?_)
            refine x_if_lt 268 dL_law_252 rfl (fun c252 => ?_) (fun c252 => ?_)
            · exact absurd c252 (nI_pos (by omega))
            · refine x_aload_n 1 rfl rfl dL_law_255 ?_
              refine x_V0 zm_X6_restore (q_restore (hk := nI 1) hp hC hA (x := v 0) rfl) zl_L_114 rfl rfl (by decide) hO.1 hO.2 (by decide) (Nat.le_of_ble_eq_true rfl) dL_law_256 hfc hfs (fun mm hp => ?_)
              refine x_iload 4 rfl dL_law_259 ?_
              refine x_icmp_ne 268 dL_law_261 rfl (fun c261 => ?_) (fun c261 => ?_)
              · exact absurd rfl c261
              · refine x_iconst (nI 1) dL_law_264 rfl ?_
                refine x_goto 269 dL_law_265 rfl ?_
                refine x_istore_n 3 rfl (Nat.le_of_ble_eq_true rfl) rfl dL_law_269 ?_
                refine x_iload_n 3 rfl rfl dL_law_270 ?_
                refine x_if_eq 303 dL_law_271 rfl (fun c271 => ?_) (fun c271 => ?_)
                · exact absurd c271 (by decide)
                · refine x_aload_n 1 rfl rfl dL_law_274 ?_
                  refine x_bipush (nI 9) dL_law_275 rfl ?_
                  refine x_V1 zm_X6_count (q_count hp hA (by omega) rfl) zl_L_16 rfl rfl (by decide) hO.1 hO.2 (by decide) (Nat.le_of_ble_eq_true rfl) dL_law_277 hfc hfs (fun mm hp => ?_)
                  refine x_iload 5 rfl dL_law_280 ?_
                  refine x_icmp_ne 303 dL_law_282 rfl (fun c282 => ?_) (fun c282 => ?_)
                  · exact absurd rfl c282
                  · refine x_aload_n 1 rfl rfl dL_law_285 ?_
                    refine x_S1 zm_L_sums (c_L_sums hO hA hp) zl_L_101 (by decide) (Nat.le_of_ble_eq_true rfl) dL_law_286 hfc hfs (fun mm hp => ?_)
                    refine x_if_eq 303 dL_law_289 rfl (fun c289 => ?_) (fun c289 => ?_)
                    · exact absurd c289 (by decide)
                    · refine x_aload_n 1 rfl rfl dL_law_292 ?_
                      refine x_S1 zm_L_dates (c_L_dates hO hA hp) zl_L_105 (by decide) (Nat.le_of_ble_eq_true rfl) dL_law_293 hfc hfs (fun mm hp => ?_)
                      refine x_if_eq 303 dL_law_296 rfl (fun c296 => ?_) (fun c296 => ?_)
                      · exact absurd c296 (by decide)
                      · refine x_iconst (nI 1) dL_law_299 rfl ?_
                        refine x_goto 304 dL_law_300 rfl ?_
                        exact x_ret1 hfc hfs dL_law_304
set_option maxRecDepth 8000 in
set_option maxHeartbeats 4000000 in
theorem law_turn {l : Launch} {G0 : zG} {τ : Nat → Nat} {Kp : Method → Prop} {b Ls : Nat} {xs : Nat → Int32} {sh : Nat → Nat × Nat} {L : List Nat} {cells slots : Nat} {Bs : Nat → Nat → Nat} {O : Nat → Nat} (hLs : Ls ≤ 260) (hfc : cells ≤ 600000) (hfs : slots ≤ 7302250) (hO : O 0 ∈ L ∧ sh (O 0) = (6, 5)) {w : Nat → Int32} {hk : Int32} {X : Nat} : ∀ i, i ≤ 44 → ∀ (v : Nat → Int32) (t : Nat) (x5 : Option Value) (mm : zM), zAll v → 0 < nD v → v 0 = nI t → t ≤ 4 * i → lT (gx G0 sh L) Bs O v w hk mm → zX l G0 τ (yL_law, cL_law, 6, ret) room_1 Kp (lwF G0 b Ls xs) lwA 139 [some (.ref b), some (.ref (O 0)), some (.int (nI X)), some (.int (nI 1)), some (.int (nI i)), x5] [] sh L mm cells slots := by
  refine z_loop 44 (fun i hi ih v t x5 mm hA hD e0 ht hp => ?_)
  refine x_iload 4 rfl dL_law_139 ?_
  refine x_bipush (nI 44) dL_law_141 rfl ?_
  refine x_icmp_ge 192 dL_law_143 rfl (fun c143 => ?_) (fun c143 => ?_)
  · have hi2 : i = 44 := by have := (nI_leI (by omega) (by omega)).mp c143; omega
    subst hi2
    exact law_end hLs hfc hfs hO hA e0 (by omega) mm hp
  · have hi2 : i < 44 := Nat.lt_of_not_le (fun z => c143 (nI_le z (by omega)))
    obtain ⟨u, hB, hDu, ⟨t2, ht2, e2⟩, hK⟩ := c_L_acts (l := l) (G := gx G0 sh L) (Bs := Bs) (w := w) (hk := hk) hO hA (Y := cY Ls xs (6 + i)) cY_lt hD e0 (by omega)
    refine x_iload_n 3 rfl rfl dL_law_146 ?_
    refine x_if_eq 192 dL_law_147 rfl (fun c147 => ?_) (fun c147 => ?_)
    · exact absurd c147 (by decide)
    · refine x_aload_n 1 rfl rfl dL_law_150 ?_
      refine x_aload_n 0 rfl rfl dL_law_151 ?_
      refine x_bipush (nI 6) dL_law_152 rfl ?_
      refine x_iload 4 rfl dL_law_154 ?_
      refine x_iaddN dL_law_156 ?_
      refine x_cell (by omega) hLs (Nat.le_of_ble_eq_true rfl) dL_law_157 hfc hfs ?_
      refine x_S2 zm_L_acts (hK _ hp) zl_L_98 (by decide) (Nat.le_of_ble_eq_true rfl) dL_law_160 hfc hfs (fun mm hp => ?_)
      refine x_if_eq 184 dL_law_163 rfl (fun c163 => ?_) (fun c163 => ?_)
      · exact absurd c163 (by decide)
      · refine x_aload_n 1 rfl rfl dL_law_166 ?_
        refine x_S1 zm_L_sums (c_L_sums hO hB hp) zl_L_101 (by decide) (Nat.le_of_ble_eq_true rfl) dL_law_167 hfc hfs (fun mm hp => ?_)
        refine x_if_eq 184 dL_law_170 rfl (fun c170 => ?_) (fun c170 => ?_)
        · exact absurd c170 (by decide)
        · refine x_aload_n 1 rfl rfl dL_law_173 ?_
          refine x_S1 zm_L_dates (c_L_dates hO hB hp) zl_L_105 (by decide) (Nat.le_of_ble_eq_true rfl) dL_law_174 hfc hfs (fun mm hp => ?_)
          refine x_if_eq 184 dL_law_177 rfl (fun c177 => ?_) (fun c177 => ?_)
          · exact absurd c177 (by decide)
          · refine x_iconst (nI 1) dL_law_180 rfl ?_
            refine x_goto 185 dL_law_181 rfl ?_
            refine x_istore_n 3 rfl (Nat.le_of_ble_eq_true rfl) rfl dL_law_185 ?_
            refine x_iincN (n := 1) 4 rfl rfl dL_law_186 ?_
            refine x_goto 139 dL_law_189 rfl ?_
            exact ih (by omega) u t2 _ mm hB (by omega) e2 (by omega) hp
set_option maxRecDepth 8000 in
set_option maxHeartbeats 4000000 in
theorem law_adds {l : Launch} {G0 : zG} {τ : Nat → Nat} {Kp : Method → Prop} {b Ls : Nat} {xs : Nat → Int32} {sh : Nat → Nat × Nat} {L : List Nat} {cells slots : Nat} {Bs : Nat → Nat → Nat} {O : Nat → Nat} (hLs : Ls ≤ 260) (hfc : cells ≤ 600000) (hfs : slots ≤ 7302250) (hO : O 0 ∈ L ∧ sh (O 0) = (6, 5)) {w : Nat → Int32} {hk : Int32} {X : Nat} (hX : X < 2 ^ 31) : ∀ i, i ≤ 2 + X / 16 % 3 → ∀ (v : Nat → Int32) (x5 : Option Value) (mm : zM), zAll v → nD v = i → v 0 = nI 0 → lT (gx G0 sh L) Bs O v w hk mm → zX l G0 τ (yL_law, cL_law, 6, ret) room_1 Kp (lwF G0 b Ls xs) lwA 46 [some (.ref b), some (.ref (O 0)), some (.int (nI X)), some (.int (nI 1)), some (.int (nI i)), x5] [] sh L mm cells slots := by
  refine z_loop (2 + X / 16 % 3) (fun i hi ih v x5 mm hA hDi h0 hp => ?_)
  refine x_iload 4 rfl dL_law_46 ?_
  refine x_iconst (nI 2) dL_law_48 rfl ?_
  refine x_iload_n 2 rfl rfl dL_law_49 ?_
  refine x_iconst (nI 4) dL_law_50 rfl ?_
  refine x_ishrN 16 (by decide) dL_law_51 (by omega) (by decide) ?_
  refine x_iconst (nI 3) dL_law_52 rfl ?_
  refine x_iremN dL_law_53 (by omega) (by omega) (by omega) ?_
  refine x_iaddN dL_law_54 ?_
  refine x_icmp_ge 136 dL_law_55 rfl (fun c55 => ?_) (fun c55 => ?_)
  · have hi2 : i = 2 + X / 16 % 3 := by have := (nI_leI (by omega) (by omega)).mp c55; omega
    refine x_iconst (nI 0) dL_law_136 rfl ?_
    refine x_istore 4 (Nat.le_of_ble_eq_true rfl) rfl dL_law_137 ?_
    exact law_turn hLs hfc hfs hO 0 (Nat.zero_le _) v 0 _ mm hA (by omega) h0 (Nat.le_refl _) hp
  · have hi2 : i < 2 + X / 16 % 3 := Nat.lt_of_not_le (fun z => c55 (nI_le z (by omega)))
    have hy := cY_lt (Ls := Ls) (xs := xs) (k := 1 + i)
    obtain ⟨u, ec, hB, hDu, f0⟩ := a_add (a := 3 + cY Ls xs (1 + i) % 60) (p := 1 + cY Ls xs (1 + i) / 64 % 6) (c := cY Ls xs (1 + i) / 512 % 4) (e := 10 + cY Ls xs (1 + i) / 2048 % 3000) (f := cY Ls xs (1 + i) / 8388608 % 3) hA (by omega) h0 (by omega) (by omega) (by omega) (by omega) (by omega)
    refine x_iload_n 3 rfl rfl dL_law_58 ?_
    refine x_if_eq 136 dL_law_59 rfl (fun c59 => ?_) (fun c59 => ?_)
    · exact absurd c59 (by decide)
    · refine x_aload_n 0 rfl rfl dL_law_62 ?_
      refine x_iconst (nI 1) dL_law_63 rfl ?_
      refine x_iload 4 rfl dL_law_64 ?_
      refine x_iaddN dL_law_66 ?_
      refine x_cell (by omega) hLs (Nat.le_of_ble_eq_true rfl) dL_law_67 hfc hfs ?_
      refine x_istore 5 (Nat.le_of_ble_eq_true rfl) rfl dL_law_70 ?_
      refine x_aload_n 1 rfl rfl dL_law_72 ?_
      refine x_iconst (nI 3) dL_law_73 rfl ?_
      refine x_iload 5 rfl dL_law_74 ?_
      refine x_bipush (nI 60) dL_law_76 rfl ?_
      refine x_iremN dL_law_78 (by omega) (by omega) (by omega) ?_
      refine x_iaddN dL_law_79 ?_
      refine x_iconst (nI 1) dL_law_80 rfl ?_
      refine x_iload 5 rfl dL_law_81 ?_
      refine x_bipush (nI 6) dL_law_83 rfl ?_
      refine x_ishrN 64 (by decide) dL_law_85 (by omega) (by decide) ?_
      refine x_bipush (nI 6) dL_law_86 rfl ?_
      refine x_iremN dL_law_88 (by omega) (by omega) (by omega) ?_
      refine x_iaddN dL_law_89 ?_
      refine x_iload 5 rfl dL_law_90 ?_
      refine x_bipush (nI 9) dL_law_92 rfl ?_
      refine x_ishrN 512 (by decide) dL_law_94 (by omega) (by decide) ?_
      refine x_iconst (nI 4) dL_law_95 rfl ?_
      refine x_iremN dL_law_96 (by omega) (by omega) (by omega) ?_
      refine x_bipush (nI 10) dL_law_97 rfl ?_
      refine x_iload 5 rfl dL_law_99 ?_
      refine x_bipush (nI 11) dL_law_101 rfl ?_
      refine x_ishrN 2048 (by decide) dL_law_103 (by omega) (by decide) ?_
      refine x_sipush (nI 3000) dL_law_104 rfl ?_
      refine x_iremN dL_law_107 (by omega) (by omega) (by omega) ?_
      refine x_iaddN dL_law_108 ?_
      refine x_iload 5 rfl dL_law_109 ?_
      refine x_bipush (nI 23) dL_law_111 rfl ?_
      refine x_ishrN 8388608 (by decide) dL_law_113 (by omega) (by decide) ?_
      refine x_iconst (nI 3) dL_law_114 rfl ?_
      refine x_iremN dL_law_115 (by omega) (by omega) (by omega) ?_
      refine x_V5 zm_X6_addDate (q_addDate hp hA ec) zl_L_94 rfl rfl (by decide) hO.1 hO.2 (by decide) (Nat.le_of_ble_eq_true rfl) dL_law_116 hfc hfs (fun mm hp => ?_)
      refine x_iload 4 rfl dL_law_119 ?_
      refine x_icmp_ne 128 dL_law_121 rfl (fun c121 => ?_) (fun c121 => ?_)
      · exact absurd (by rw [hDi]) c121
      · refine x_iconst (nI 1) dL_law_124 rfl ?_
        refine x_goto 129 dL_law_125 rfl ?_
        refine x_istore_n 3 rfl (Nat.le_of_ble_eq_true rfl) rfl dL_law_129 ?_
        refine x_iincN (n := 1) 4 rfl rfl dL_law_130 ?_
        refine x_goto 46 dL_law_133 rfl ?_
        exact ih (by omega) u _ mm hB (by omega) f0 hp
set_option maxRecDepth 8000 in
set_option maxHeartbeats 4000000 in
theorem law_go {l : Launch} {G0 : zG} {τ : Nat → Nat} {Kp : Method → Prop} {b Ls : Nat} {xs : Nat → Int32} {sh : Nat → Nat × Nat} {L : List Nat} {cells slots : Nat} {Bs : Nat → Nat → Nat} {O : Nat → Nat} (hLs : Ls ≤ 260) (hfc : cells ≤ 600000) (hfs : slots ≤ 7302250) (hO : O 0 ∈ L ∧ sh (O 0) = (6, 5)) {v w : Nat → Int32} {hk : Int32} (hA : zAll v) (hD : nD v = 0) (h0 : v 0 = nI 0) (mm : zM) (hp : lT (gx G0 sh L) Bs O v w hk mm) : zX l G0 τ (yL_law, cL_law, 6, ret) room_1 Kp (lwF G0 b Ls xs) lwA 8 [some (.ref b), some (.ref (O 0)), none, none, none, none] [] sh L mm cells slots := by
  have hy := cY_lt (Ls := Ls) (xs := xs) (k := 0)
  have hB := hA.set (nI 0) (nI (cY Ls xs 0 % 10))
  have kk := kp.set (v := v) (nI 0) (nI (cY Ls xs 0 % 10))
  refine x_aload_n 0 rfl rfl dL_law_8 ?_
  refine x_iconst (nI 0) dL_law_9 rfl ?_
  refine x_cell (k := 0) (by omega) hLs (Nat.le_of_ble_eq_true rfl) dL_law_10 hfc hfs ?_
  refine x_istore_n 2 rfl (Nat.le_of_ble_eq_true rfl) rfl dL_law_13 ?_
  refine x_aload_n 1 rfl rfl dL_law_14 ?_
  refine x_iconst (nI 0) dL_law_15 rfl ?_
  refine x_iload_n 2 rfl rfl dL_law_16 ?_
  refine x_bipush (nI 10) dL_law_17 rfl ?_
  refine x_iremN dL_law_19 (by omega) (by omega) (by omega) ?_
  refine x_V2 zm_X6_set (q_set hp hA (x := (sSet v (nI 0) (nI (cY Ls xs 0 % 10))).1) (v' := (sSet v (nI 0) (nI (cY Ls xs 0 % 10))).2.1) (f' := (sSet v (nI 0) (nI (cY Ls xs 0 % 10))).2.2) rfl) zl_L_78 rfl rfl (by decide) hO.1 hO.2 (by decide) (Nat.le_of_ble_eq_true rfl) dL_law_20 hfc hfs (fun mm hp => ?_)
  refine x_bipush (-2) dL_law_23 (by decide) ?_
  refine x_icmp_eq 41 dL_law_25 rfl (fun c25 => ?_) (fun c25 => ?_)
  · exact absurd c25 (set0_m2 hA (by omega))
  · refine x_aload_n 1 rfl rfl dL_law_28 ?_
    refine x_V0 zm_X6_perform (q_perform hp hB) zl_L_90 rfl rfl (by decide) hO.1 hO.2 (by decide) (Nat.le_of_ble_eq_true rfl) dL_law_29 hfc hfs (fun mm hp => ?_)
    refine x_bipush (-100) dL_law_32 (by decide) ?_
    refine x_icmp_ne 41 dL_law_34 rfl (fun c34 => ?_) (fun c34 => ?_)
    · exact absurd c34 (by decide)
    · refine x_iconst (nI 1) dL_law_37 rfl ?_
      refine x_goto 42 dL_law_38 rfl ?_
      refine x_istore_n 3 rfl (Nat.le_of_ble_eq_true rfl) rfl dL_law_42 ?_
      refine x_iconst (nI 0) dL_law_43 rfl ?_
      refine x_istore 4 (Nat.le_of_ble_eq_true rfl) rfl dL_law_44 ?_
      exact law_adds hLs hfc hfs hO hy 0 (Nat.zero_le _) _ _ mm hB (kk.nd.trans hD) (kk.1.trans h0) hp
