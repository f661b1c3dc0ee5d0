set_option maxRecDepth 4000 in
theorem c_X5_lowestAsking {l : Launch} {G : zG} {B : Nat → Nat} {m0 mm : zM} {v : Nat → Int32} (hp : zCV G B m0 v mm) (d : Nat) (hJ : zJ2 v) (hd : d < 10) : zSem l G (yX5_lowestAsking, cX5_lowestAsking, 3, (some .int)) 2 [.ref (B 0), .ref (B (10 + d))] mm (some (.int (sDateW v d 13))) (fun m' => m' = mm) := by
  have hJ2 := hJ.2
  refine z_met [some (.ref (B 0)), some (.ref (B (10 + d))), none] rfl (zc1 (by rfl)) (Nat.le_of_ble_eq_true rfl) rfl ?_
  refine z_aload_n 0 rfl rfl dX5_lowestAsking_0 ?_
  refine z_aload_n 1 rfl rfl dX5_lowestAsking_1 ?_
  by_cases co : sLow v d (nI 1) 4 (nR v) = none
  · refine z_pV1 (ci := 5) zm_X5_cheapestOffered (c_X5_cheapestOffered hp _ _ (Or.inl ⟨rfl, by omega⟩) hJ) rfl zl_X5_139 rfl rfl (by decide) (hp.at (j := 0) (Or.inl (by decide))).1 (hp.at (j := 0) (Or.inl (by decide))).2 (by decide) (Nat.le_of_ble_eq_true rfl) dX5_lowestAsking_2 ?_
    rw [co]
    have e9 : sDateW v d 13 = -5 := by unfold sDateW; simp only [co]
    refine z_astore_nN 2 rfl (Nat.le_of_ble_eq_true rfl) rfl dX5_lowestAsking_5 ?_
    refine z_aload_nN 2 rfl rfl dX5_lowestAsking_6 ?_
    refine z_ifnonnullN dX5_lowestAsking_7 ?_
    refine z_bipush (-5) dX5_lowestAsking_10 (by decide) ?_
    refine z_goto 19 dX5_lowestAsking_12 rfl ?_
    try rw [kAsk_1 h1]
    exact z_iret dX5_lowestAsking_19 (by rw [e9]) rfl
  · obtain ⟨r, ho⟩ := Option.ne_none_iff_exists'.mp co
    obtain ⟨hr, -, h1⟩ := sLow_spec ho
    refine z_pV1 (ci := 5) zm_X5_cheapestOffered (c_X5_cheapestOffered hp _ _ (Or.inl ⟨rfl, by omega⟩) hJ) rfl zl_X5_139 rfl rfl (by decide) (hp.at (j := 0) (Or.inl (by decide))).1 (hp.at (j := 0) (Or.inl (by decide))).2 (by decide) (Nat.le_of_ble_eq_true rfl) dX5_lowestAsking_2 ?_
    rw [ho, show zRf B (some r) = Value.ref (B (30 + r)) from rfl]
    have e9 : sDateW v d 13 = v (147 + 7 * r + 4) := by unfold sDateW; simp only [ho]
    refine z_astore_n 2 rfl (Nat.le_of_ble_eq_true rfl) rfl dX5_lowestAsking_5 ?_
    refine z_aload_n 2 rfl rfl dX5_lowestAsking_6 ?_
    refine z_ifnonnull 15 dX5_lowestAsking_7 rfl ?_
    refine z_aload_n 2 rfl rfl dX5_lowestAsking_15 ?_
    refine zC_R5 hp (by omega) rfl zf_X5_146 dX5_lowestAsking_16 ?_
    try rw [kAsk_1 h1]
    exact z_iret dX5_lowestAsking_19 (by rw [e9]) rfl
set_option maxRecDepth 4000 in
theorem c_X5_tellOfDate {l : Launch} {G : zG} {B : Nat → Nat} {m0 mm : zM} {v : Nat → Int32} (hp : zCV G B m0 v mm) (d : Nat) (w : Int32) (hH : zH v) (hd : d < nD v) : zSem l G (yX5_tellOfDate, cX5_tellOfDate, 3, (some .int)) 3 [.ref (B 0), .ref (B (10 + d)), .int w] mm (some (.int (if zIn w (nI 0) (nI 13) = true then sDateW v d (zn w) else -2))) (fun m' => m' = mm) := by
  have hd10 := hH.1.1.2
  have hJ := hH.1.2.1
  have hJ2 := hJ.2
  refine z_met [some (.ref (B 0)), some (.ref (B (10 + d))), some (.int w)] rfl (zc1 (by rfl)) (Nat.le_of_ble_eq_true rfl) rfl ?_
  refine z_iload_n 2 rfl rfl dX5_tellOfDate_0 ?_
  by_cases hx : zIn w (nI 0) (nI 13) = true
  · obtain ⟨j, hj, rfl⟩ := zIn_nI (by decide) hx
    rcases (by omega : j = 0 ∨ j = 1 ∨ j = 2 ∨ j = 3 ∨ j = 4 ∨ j = 5 ∨ j = 6 ∨ j = 7 ∨ j = 8 ∨ j = 9 ∨ j = 10 ∨ j = 11 ∨ j = 12 ∨ j = 13) with rfl | rfl | rfl | rfl | rfl | rfl | rfl | rfl | rfl | rfl | rfl | rfl | rfl | rfl
    · refine z_tableIn 72 dX5_tellOfDate_1 (by decide) (by decide) rfl rfl ?_
      have e9 : (if zIn (nI 0) (nI 0) (nI 13) = true then sDateW v d (zn (nI 0)) else -2) = sDateW v d 0 := by rw [if_pos hx]; rfl
      refine z_aload_n 1 rfl rfl dX5_tellOfDate_72 ?_
      refine zC_D1 hp (by omega) rfl zf_X5_91 dX5_tellOfDate_73 ?_
      exact z_iret dX5_tellOfDate_76 (by rw [e9] <;> rfl) rfl
    · refine z_tableIn 77 dX5_tellOfDate_1 (by decide) (by decide) rfl rfl ?_
      have e9 : (if zIn (nI 1) (nI 0) (nI 13) = true then sDateW v d (zn (nI 1)) else -2) = sDateW v d 1 := by rw [if_pos hx]; rfl
      refine z_aload_n 1 rfl rfl dX5_tellOfDate_77 ?_
      refine zC_D2 hp (by omega) rfl zf_X5_92 dX5_tellOfDate_78 ?_
      exact z_iret dX5_tellOfDate_81 (by rw [e9] <;> rfl) rfl
    · refine z_tableIn 82 dX5_tellOfDate_1 (by decide) (by decide) rfl rfl ?_
      have e9 : (if zIn (nI 2) (nI 0) (nI 13) = true then sDateW v d (zn (nI 2)) else -2) = sDateW v d 2 := by rw [if_pos hx]; rfl
      refine z_aload_n 1 rfl rfl dX5_tellOfDate_82 ?_
      refine zC_D3 hp (by omega) rfl zf_X5_95 dX5_tellOfDate_83 ?_
      exact z_iret dX5_tellOfDate_86 (by rw [e9] <;> rfl) rfl
    · refine z_tableIn 87 dX5_tellOfDate_1 (by decide) (by decide) rfl rfl ?_
      have e9 : (if zIn (nI 3) (nI 0) (nI 13) = true then sDateW v d (zn (nI 3)) else -2) = sDateW v d 3 := by rw [if_pos hx]; rfl
      refine z_aload_n 1 rfl rfl dX5_tellOfDate_87 ?_
      refine zC_D4 hp (by omega) rfl zf_X5_98 dX5_tellOfDate_88 ?_
      exact z_iret dX5_tellOfDate_91 (by rw [e9] <;> rfl) rfl
    · refine z_tableIn 92 dX5_tellOfDate_1 (by decide) (by decide) rfl rfl ?_
      have e9 : (if zIn (nI 4) (nI 0) (nI 13) = true then sDateW v d (zn (nI 4)) else -2) = sDateW v d 4 := by rw [if_pos hx]; rfl
      refine z_aload_n 1 rfl rfl dX5_tellOfDate_92 ?_
      refine zC_D5 hp (by omega) rfl zf_X5_101 dX5_tellOfDate_93 ?_
      exact z_iret dX5_tellOfDate_96 (by rw [e9] <;> rfl) rfl
    · refine z_tableIn 97 dX5_tellOfDate_1 (by decide) (by decide) rfl rfl ?_
      have e9 : (if zIn (nI 5) (nI 0) (nI 13) = true then sDateW v d (zn (nI 5)) else -2) = sDateW v d 5 := by rw [if_pos hx]; rfl
      refine z_iconst (nI 0) dX5_tellOfDate_97 rfl ?_
      refine z_aload_n 0 rfl rfl dX5_tellOfDate_98 ?_
      refine z_aload_n 1 rfl rfl dX5_tellOfDate_99 ?_
      refine z_pV1 (ci := 5) zm_X5_daysLeft (c_X5_daysLeft hp _ (by omega)) rfl zl_X5_207 rfl rfl (by decide) (hp.at (j := 0) (Or.inl (by decide))).1 (hp.at (j := 0) (Or.inl (by decide))).2 (by decide) (Nat.le_of_ble_eq_true rfl) dX5_tellOfDate_100 ?_
      refine z_max rfl zl_X5_250 (by decide) (Nat.le_of_ble_eq_true rfl) dX5_tellOfDate_103 ?_
      have e8 : sDateW v d 5 = if nI 0 < sLeft v d then sLeft v d else nI 0 := by
        show (if decide (0 < sLeft v d) = true then sLeft v d else nI 0) = _
        by_cases q : nI 0 < sLeft v d
        · rw [decide_eq_true (show 0 < sLeft v d from q), if_pos rfl, if_pos q]
        · rw [decide_eq_false (show ¬ 0 < sLeft v d from q), if_neg (by decide), if_neg q]
      rw [e8] at e9
      exact z_iret dX5_tellOfDate_106 (by rw [e9] <;> rfl) rfl
    · refine z_tableIn 107 dX5_tellOfDate_1 (by decide) (by decide) rfl rfl ?_
      have e9 : (if zIn (nI 6) (nI 0) (nI 13) = true then sDateW v d (zn (nI 6)) else -2) = sDateW v d 6 := by rw [if_pos hx]; rfl
      refine z_aload_n 0 rfl rfl dX5_tellOfDate_107 ?_
      refine z_aload_n 1 rfl rfl dX5_tellOfDate_108 ?_
      refine z_pV1 (ci := 5) zm_X5_rightsOut (c_X5_rightsOut hp _ _ (Or.inl ⟨rfl, by omega⟩) hH) rfl zl_X5_220 rfl rfl (by decide) (hp.at (j := 0) (Or.inl (by decide))).1 (hp.at (j := 0) (Or.inl (by decide))).2 (by decide) (Nat.le_of_ble_eq_true rfl) dX5_tellOfDate_109 ?_
      exact z_iret dX5_tellOfDate_112 (by rw [e9] <;> rfl) rfl
    · refine z_tableIn 113 dX5_tellOfDate_1 (by decide) (by decide) rfl rfl ?_
      have e9 : (if zIn (nI 7) (nI 0) (nI 13) = true then sDateW v d (zn (nI 7)) else -2) = sDateW v d 7 := by rw [if_pos hx]; rfl
      refine z_aload_n 0 rfl rfl dX5_tellOfDate_113 ?_
      refine z_aload_n 1 rfl rfl dX5_tellOfDate_114 ?_
      refine z_iconst (nI 2) dX5_tellOfDate_115 rfl ?_
      refine z_pV2 (ci := 5) zm_X5_rightsIn (c_X5_rightsIn hp _ _ _ (Or.inl ⟨rfl, by omega⟩) hJ) rfl zl_X5_189 rfl rfl (by decide) (hp.at (j := 0) (Or.inl (by decide))).1 (hp.at (j := 0) (Or.inl (by decide))).2 (by decide) (Nat.le_of_ble_eq_true rfl) dX5_tellOfDate_116 ?_
      exact z_iret dX5_tellOfDate_119 (by rw [e9] <;> rfl) rfl
    · refine z_tableIn 120 dX5_tellOfDate_1 (by decide) (by decide) rfl rfl ?_
      have e9 : (if zIn (nI 8) (nI 0) (nI 13) = true then sDateW v d (zn (nI 8)) else -2) = sDateW v d 8 := by rw [if_pos hx]; rfl
      refine z_aload_n 0 rfl rfl dX5_tellOfDate_120 ?_
      refine z_aload_n 1 rfl rfl dX5_tellOfDate_121 ?_
      refine z_iconst (nI 1) dX5_tellOfDate_122 rfl ?_
      refine z_pV2 (ci := 5) zm_X5_rightsIn (c_X5_rightsIn hp _ _ _ (Or.inl ⟨rfl, by omega⟩) hJ) rfl zl_X5_189 rfl rfl (by decide) (hp.at (j := 0) (Or.inl (by decide))).1 (hp.at (j := 0) (Or.inl (by decide))).2 (by decide) (Nat.le_of_ble_eq_true rfl) dX5_tellOfDate_123 ?_
      exact z_iret dX5_tellOfDate_126 (by rw [e9] <;> rfl) rfl
    · refine z_tableIn 127 dX5_tellOfDate_1 (by decide) (by decide) rfl rfl ?_
      have e9 : (if zIn (nI 9) (nI 0) (nI 13) = true then sDateW v d (zn (nI 9)) else -2) = sDateW v d 9 := by rw [if_pos hx]; rfl
      refine z_aload_n 0 rfl rfl dX5_tellOfDate_127 ?_
      refine z_aload_n 1 rfl rfl dX5_tellOfDate_128 ?_
      refine z_pV1 (ci := 5) zm_X5_priceNow (c_X5_priceNow hp _ hH (by omega)) rfl zl_X5_238 rfl rfl (by decide) (hp.at (j := 0) (Or.inl (by decide))).1 (hp.at (j := 0) (Or.inl (by decide))).2 (by decide) (Nat.le_of_ble_eq_true rfl) dX5_tellOfDate_129 ?_
      exact z_iret dX5_tellOfDate_132 (by rw [e9] <;> rfl) rfl
    · refine z_tableIn 133 dX5_tellOfDate_1 (by decide) (by decide) rfl rfl ?_
      have e9 : (if zIn (nI 10) (nI 0) (nI 13) = true then sDateW v d (zn (nI 10)) else -2) = sDateW v d 10 := by rw [if_pos hx]; rfl
      refine z_aload_n 0 rfl rfl dX5_tellOfDate_133 ?_
      refine z_aload_n 1 rfl rfl dX5_tellOfDate_134 ?_
      refine z_pV1 (ci := 5) zm_X5_sellable (c_X5_sellable hp _ hH (by omega)) rfl zl_X5_235 rfl rfl (by decide) (hp.at (j := 0) (Or.inl (by decide))).1 (hp.at (j := 0) (Or.inl (by decide))).2 (by decide) (Nat.le_of_ble_eq_true rfl) dX5_tellOfDate_135 ?_
      exact z_iret dX5_tellOfDate_138 (by rw [e9] <;> rfl) rfl
    · refine z_tableIn 139 dX5_tellOfDate_1 (by decide) (by decide) rfl rfl ?_
      have e9 : (if zIn (nI 11) (nI 0) (nI 13) = true then sDateW v d (zn (nI 11)) else -2) = sDateW v d 11 := by rw [if_pos hx]; rfl
      refine z_aload_n 0 rfl rfl dX5_tellOfDate_139 ?_
      refine z_aload_n 1 rfl rfl dX5_tellOfDate_140 ?_
      by_cases ho : sOpen v d = true
      · refine z_pV1 (ci := 5) zm_X5_stageOf (c_X5_stageOf hp d hH hd ho) rfl zl_X5_266 rfl rfl (by decide) (hp.at (j := 0) (Or.inl (by decide))).1 (hp.at (j := 0) (Or.inl (by decide))).2 (by decide) (Nat.le_of_ble_eq_true rfl) dX5_tellOfDate_141 ?_
        have e8 : sDateW v d 11 = nI (sStage v d) := by show (if sOpen v d = true then nI (sStage v d) else -5) = _; rw [if_pos ho]
        rw [e8] at e9
        exact z_iret dX5_tellOfDate_144 (by rw [e9] <;> rfl) rfl
      · refine z_pV1 (ci := 5) zm_X5_stageOf (c_X5_stageOfN hp d hH hd (by simpa using ho)) rfl zl_X5_266 rfl rfl (by decide) (hp.at (j := 0) (Or.inl (by decide))).1 (hp.at (j := 0) (Or.inl (by decide))).2 (by decide) (Nat.le_of_ble_eq_true rfl) dX5_tellOfDate_141 ?_
        have e8 : sDateW v d 11 = -5 := by show (if sOpen v d = true then nI (sStage v d) else -5) = _; rw [if_neg ho]
        rw [e8] at e9
        exact z_iret dX5_tellOfDate_144 (by rw [e9] <;> rfl) rfl
    · refine z_tableIn 145 dX5_tellOfDate_1 (by decide) (by decide) rfl rfl ?_
      have e9 : (if zIn (nI 12) (nI 0) (nI 13) = true then sDateW v d (zn (nI 12)) else -2) = sDateW v d 12 := by rw [if_pos hx]; rfl
      refine z_aload_n 1 rfl rfl dX5_tellOfDate_145 ?_
      refine zC_D7 hp (by omega) rfl zf_X5_104 dX5_tellOfDate_146 ?_
      exact z_iret dX5_tellOfDate_149 (by rw [e9] <;> rfl) rfl
    · refine z_tableIn 150 dX5_tellOfDate_1 (by decide) (by decide) rfl rfl ?_
      have e9 : (if zIn (nI 13) (nI 0) (nI 13) = true then sDateW v d (zn (nI 13)) else -2) = sDateW v d 13 := by rw [if_pos hx]; rfl
      refine z_aload_n 0 rfl rfl dX5_tellOfDate_150 ?_
      refine z_aload_n 1 rfl rfl dX5_tellOfDate_151 ?_
      refine z_pV1 (ci := 5) zm_X5_lowestAsking (c_X5_lowestAsking hp _ hJ (by omega)) rfl zl_X5_269 rfl rfl (by decide) (hp.at (j := 0) (Or.inl (by decide))).1 (hp.at (j := 0) (Or.inl (by decide))).2 (by decide) (Nat.le_of_ble_eq_true rfl) dX5_tellOfDate_152 ?_
      exact z_iret dX5_tellOfDate_155 (by rw [e9] <;> rfl) rfl
  · refine z_tableOut 156 dX5_tellOfDate_1 (zIn_out (by decide) (by simpa using hx)) rfl ?_
    have e9 : (if zIn w (nI 0) (nI 13) = true then sDateW v d (zn w) else -2) = -2 := if_neg hx
    refine z_bipush (-2) dX5_tellOfDate_156 (by decide) ?_
    exact z_iret dX5_tellOfDate_158 (by rw [e9] <;> rfl) rfl
set_option maxRecDepth 4000 in
theorem c_X5_tellExercisable {l : Launch} {G : zG} {B : Nat → Nat} {m0 mm : zM} {v : Nat → Int32} (hp : zCV G B m0 v mm) (r d : Nat) (hH : zH v) (hr : r < nR v) (hd : d < nD v) (e0 : v (147 + 7 * r + 0) = nI d) : zSem l G (yX5_tellExercisable, cX5_tellExercisable, 3, (some .int)) 3 [.ref (B 0), .ref (B (30 + r))] mm (some (.int (zB (sEx v r d)))) (fun m' => m' = mm) := by
  have hd10 := hH.1.1.2
  have hJ := hH.1.2.1
  have hJ2 := hJ.2
  refine z_met [some (.ref (B 0)), some (.ref (B (30 + r))), none] rfl (zc1 (by rfl)) (Nat.le_of_ble_eq_true rfl) rfl ?_
  refine z_aload_n 0 rfl rfl dX5_tellExercisable_0 ?_
  refine z_aload_n 1 rfl rfl dX5_tellExercisable_1 ?_
  refine zC_R1 hp (by omega) rfl zf_X5_172 dX5_tellExercisable_2 ?_
  rw [e0]
  refine z_pV1 (ci := 5) zm_X5_dateRow (c_X5_dateRow hp d hH.1.1 hd) rfl zl_X5_124 rfl rfl (by decide) (hp.at (j := 0) (Or.inl (by decide))).1 (hp.at (j := 0) (Or.inl (by decide))).2 (by decide) (Nat.le_of_ble_eq_true rfl) dX5_tellExercisable_5 ?_
  refine z_astore_n 2 rfl (Nat.le_of_ble_eq_true rfl) rfl dX5_tellExercisable_8 ?_
  refine z_aload_n 2 rfl rfl dX5_tellExercisable_9 ?_
  refine z_ifnull dX5_tellExercisable_10 ?_
  refine z_aload_n 0 rfl rfl dX5_tellExercisable_13 ?_
  refine z_aload_n 1 rfl rfl dX5_tellExercisable_14 ?_
  refine z_aload_n 2 rfl rfl dX5_tellExercisable_15 ?_
  refine z_pV2 (ci := 5) zm_X5_canBeExercised (c_X5_canBeExercised hp r d hH hr hd) rfl zl_X5_185 rfl rfl (by decide) (hp.at (j := 0) (Or.inl (by decide))).1 (hp.at (j := 0) (Or.inl (by decide))).2 (by decide) (Nat.le_of_ble_eq_true rfl) dX5_tellExercisable_16 ?_
  refine z_if_eqB 26 dX5_tellExercisable_19 rfl (fun c19 => ?_) (fun c19 => ?_)
  · refine z_iconst (nI 0) dX5_tellExercisable_26 rfl ?_
    exact z_iret dX5_tellExercisable_27 (by rw [c19]; rfl) rfl
  · refine z_iconst (nI 1) dX5_tellExercisable_22 rfl ?_
    refine z_goto 27 dX5_tellExercisable_23 rfl ?_
    exact z_iret dX5_tellExercisable_27 (by rw [c19]; rfl) rfl
def sRightW (v : Nat → Int32) (r d w : Nat) : Int32 := if w < 7 then v (147 + 7 * r + w) else if w = 8 then zB (sEx v r d) else if v (147 + 7 * r + 3) < nI 2 then sRef v r d else -5
set_option maxRecDepth 4000 in
theorem c_X5_tellOfRight {l : Launch} {G : zG} {B : Nat → Nat} {m0 mm : zM} {v : Nat → Int32} (hp : zCV G B m0 v mm) (r d : Nat) (w : Int32) (hH : zH v) (hr : r < nR v) (hd : d < nD v) (e0 : v (147 + 7 * r + 0) = nI d) (ho : v (147 + 7 * r + 3) < nI 2 → sOpen v d = true) : zSem l G (yX5_tellOfRight, cX5_tellOfRight, 3, (some .int)) 4 [.ref (B 0), .ref (B (30 + r)), .int w] mm (some (.int (if zIn w (nI 0) (nI 8) = true then sRightW v r d (zn w) else -2))) (fun m' => m' = mm) := by
  have hd10 := hH.1.1.2
  have hJ := hH.1.2.1
  have hJ2 := hJ.2
  refine z_met [some (.ref (B 0)), some (.ref (B (30 + r))), some (.int w)] rfl (zc1 (by rfl)) (Nat.le_of_ble_eq_true rfl) rfl ?_
  refine z_iload_n 2 rfl rfl dX5_tellOfRight_0 ?_
  by_cases hx : zIn w (nI 0) (nI 8) = true
  · obtain ⟨j, hj, rfl⟩ := zIn_nI (by decide) hx
    rcases (by omega : j = 0 ∨ j = 1 ∨ j = 2 ∨ j = 3 ∨ j = 4 ∨ j = 5 ∨ j = 6 ∨ j = 7 ∨ j = 8) with rfl | rfl | rfl | rfl | rfl | rfl | rfl | rfl | rfl
    · refine z_tableIn 52 dX5_tellOfRight_1 (by decide) (by decide) rfl rfl ?_
      have e9 : (if zIn (nI 0) (nI 0) (nI 8) = true then sRightW v r d (zn (nI 0)) else -2) = sRightW v r d 0 := by rw [if_pos hx]; rfl
      refine z_aload_n 1 rfl rfl dX5_tellOfRight_52 ?_
      refine zC_R1 hp (by omega) rfl zf_X5_172 dX5_tellOfRight_53 ?_
      exact z_iret dX5_tellOfRight_56 (by rw [e9] <;> rfl) rfl
    · refine z_tableIn 57 dX5_tellOfRight_1 (by decide) (by decide) rfl rfl ?_
      have e9 : (if zIn (nI 1) (nI 0) (nI 8) = true then sRightW v r d (zn (nI 1)) else -2) = sRightW v r d 1 := by rw [if_pos hx]; rfl
      refine z_aload_n 1 rfl rfl dX5_tellOfRight_57 ?_
      refine zC_R2 hp (by omega) rfl zf_X5_143 dX5_tellOfRight_58 ?_
      exact z_iret dX5_tellOfRight_61 (by rw [e9] <;> rfl) rfl
    · refine z_tableIn 62 dX5_tellOfRight_1 (by decide) (by decide) rfl rfl ?_
      have e9 : (if zIn (nI 2) (nI 0) (nI 8) = true then sRightW v r d (zn (nI 2)) else -2) = sRightW v r d 2 := by rw [if_pos hx]; rfl
      refine z_aload_n 1 rfl rfl dX5_tellOfRight_62 ?_
      refine zC_R3 hp (by omega) rfl zf_X5_217 dX5_tellOfRight_63 ?_
      exact z_iret dX5_tellOfRight_66 (by rw [e9] <;> rfl) rfl
    · refine z_tableIn 67 dX5_tellOfRight_1 (by decide) (by decide) rfl rfl ?_
      have e9 : (if zIn (nI 3) (nI 0) (nI 8) = true then sRightW v r d (zn (nI 3)) else -2) = sRightW v r d 3 := by rw [if_pos hx]; rfl
      refine z_aload_n 1 rfl rfl dX5_tellOfRight_67 ?_
      refine zC_R4 hp (by omega) rfl zf_X5_182 dX5_tellOfRight_68 ?_
      exact z_iret dX5_tellOfRight_71 (by rw [e9] <;> rfl) rfl
    · refine z_tableIn 72 dX5_tellOfRight_1 (by decide) (by decide) rfl rfl ?_
      have e9 : (if zIn (nI 4) (nI 0) (nI 8) = true then sRightW v r d (zn (nI 4)) else -2) = sRightW v r d 4 := by rw [if_pos hx]; rfl
      refine z_aload_n 1 rfl rfl dX5_tellOfRight_72 ?_
      refine zC_R4 hp (by omega) rfl zf_X5_182 dX5_tellOfRight_73 ?_
      refine z_iconst (nI 1) dX5_tellOfRight_76 rfl ?_
      refine z_icmp_ne 87 dX5_tellOfRight_77 rfl (fun c77 => ?_) (fun c77 => ?_)
      · have e8 : sRightW v r d 4 = -5 := (hH.2.2.2.2.1 r hr).2.2.2 c77
        rw [e8] at e9
        refine z_bipush (-5) dX5_tellOfRight_87 (by decide) ?_
        exact z_iret dX5_tellOfRight_89 (by rw [e9] <;> rfl) rfl
      · have c77 : v (147 + 7 * r + 3) = nI 1 := c77
        have e8 : sRightW v r d 4 = kAsk v r := (kAsk_1 c77).symm
        rw [e8] at e9
        refine z_aload_n 1 rfl rfl dX5_tellOfRight_80 ?_
        refine zC_R5 hp (by omega) rfl zf_X5_146 dX5_tellOfRight_81 ?_
        refine z_goto 89 dX5_tellOfRight_84 rfl ?_
        exact z_iret dX5_tellOfRight_89 (by rw [e9] <;> rfl) rfl
    · refine z_tableIn 90 dX5_tellOfRight_1 (by decide) (by decide) rfl rfl ?_
      have e9 : (if zIn (nI 5) (nI 0) (nI 8) = true then sRightW v r d (zn (nI 5)) else -2) = sRightW v r d 5 := by rw [if_pos hx]; rfl
      refine z_aload_n 1 rfl rfl dX5_tellOfRight_90 ?_
      refine zC_R6 hp (by omega) rfl zf_X5_241 dX5_tellOfRight_91 ?_
      exact z_iret dX5_tellOfRight_94 (by rw [e9] <;> rfl) rfl
    · refine z_tableIn 95 dX5_tellOfRight_1 (by decide) (by decide) rfl rfl ?_
      have e9 : (if zIn (nI 6) (nI 0) (nI 8) = true then sRightW v r d (zn (nI 6)) else -2) = sRightW v r d 6 := by rw [if_pos hx]; rfl
      refine z_aload_n 1 rfl rfl dX5_tellOfRight_95 ?_
      refine zC_R7 hp (by omega) rfl zf_X5_153 dX5_tellOfRight_96 ?_
      exact z_iret dX5_tellOfRight_99 (by rw [e9] <;> rfl) rfl
    · refine z_tableIn 100 dX5_tellOfRight_1 (by decide) (by decide) rfl rfl ?_
      have e9 : (if zIn (nI 7) (nI 0) (nI 8) = true then sRightW v r d (zn (nI 7)) else -2) = sRightW v r d 7 := by rw [if_pos hx]; rfl
      refine z_aload_n 0 rfl rfl dX5_tellOfRight_100 ?_
      refine z_aload_n 1 rfl rfl dX5_tellOfRight_101 ?_
      refine z_pV1 (ci := 5) zm_X5_refund (c_X5_refund hp r d hH hr hd e0 ho) rfl zl_X5_168 rfl rfl (by decide) (hp.at (j := 0) (Or.inl (by decide))).1 (hp.at (j := 0) (Or.inl (by decide))).2 (by decide) (Nat.le_of_ble_eq_true rfl) dX5_tellOfRight_102 ?_
      exact z_iret dX5_tellOfRight_105 (by rw [e9] <;> rfl) rfl
    · refine z_tableIn 106 dX5_tellOfRight_1 (by decide) (by decide) rfl rfl ?_
      have e9 : (if zIn (nI 8) (nI 0) (nI 8) = true then sRightW v r d (zn (nI 8)) else -2) = sRightW v r d 8 := by rw [if_pos hx]; rfl
      refine z_aload_n 0 rfl rfl dX5_tellOfRight_106 ?_
      refine z_aload_n 1 rfl rfl dX5_tellOfRight_107 ?_
      refine z_pV1 (ci := 5) zm_X5_tellExercisable (c_X5_tellExercisable hp r d hH hr hd e0) rfl zl_X5_272 rfl rfl (by decide) (hp.at (j := 0) (Or.inl (by decide))).1 (hp.at (j := 0) (Or.inl (by decide))).2 (by decide) (Nat.le_of_ble_eq_true rfl) dX5_tellOfRight_108 ?_
      exact z_iret dX5_tellOfRight_111 (by rw [e9] <;> rfl) rfl
  · refine z_tableOut 112 dX5_tellOfRight_1 (zIn_out (by decide) (by simpa using hx)) rfl ?_
    have e9 : (if zIn w (nI 0) (nI 8) = true then sRightW v r d (zn w) else -2) = -2 := if_neg hx
    refine z_bipush (-2) dX5_tellOfRight_112 (by decide) ?_
    exact z_iret dX5_tellOfRight_114 (by rw [e9] <;> rfl) rfl
theorem kHs_2 (v : Nat → Int32) (h : Nat) : ∀ n, kHs v (nI h) (nI 2) n = sHe v h n
  | 0 => rfl
  | n + 1 => by rw [kHs, sHe, kHs_2 v h n]
theorem kHs_01 {v : Nat → Int32} {h : Nat} (hH : zH v) : ∀ n, n ≤ nR v → kHs v (nI h) (nI 0) n + kHs v (nI h) (nI 1) n = sHa v h n
  | 0, _ => rfl
  | n + 1, hn => by
    have ih := kHs_01 (h := h) hH n (by omega)
    obtain ⟨⟨s, hs, e3⟩, -⟩ := hH.2.2.2.2.1 n (by omega)
    rw [kHs, kHs, sHa, ← ih, e3]
    by_cases q : v (147 + 7 * n + 1) = nI h
    · rcases (by omega : s = 0 ∨ s = 1 ∨ 2 ≤ s) with z | z | z
      · subst z; rw [if_pos ⟨q, rfl⟩, if_neg (fun z => absurd z.2 (by decide)), if_pos ⟨q, by decide⟩]; omega
      · subst z; rw [if_neg (fun z => absurd z.2 (by decide)), if_pos ⟨q, rfl⟩, if_pos ⟨q, by decide⟩]; omega
      · rw [if_neg (fun w => by have := (nI_eq (by omega) (by omega)).mp w.2; omega), if_neg (fun w => by have := (nI_eq (by omega) (by omega)).mp w.2; omega), if_neg (fun w => by have := (nI_ltI (by omega) (by omega)).mp w.2; omega)]; omega
    · rw [if_neg (fun w => q w.1), if_neg (fun w => q w.1), if_neg (fun w => q w.1)]; omega
set_option maxRecDepth 4000 in
theorem l_X5_listsWith {l : Launch} {G : zG} {B : Nat → Nat} {m0 mm : zM} {v : Nat → Int32} (hp : zCV G B m0 v mm) (h : Nat) (hH : zH v) : ∀ i, i ≤ nD v → ∀ (cnt : Nat) (hc : cnt = sHl v h i), zV l G (yX5_listsWith, cX5_listsWith, 4, (some .int)) 2 (some (.int (nI (sHl v h (nD v))))) (fun m' => m' = mm) 4 [some (.ref (B 0)), some (.int (nI h)), some (.int (nI cnt)), some (.int (nI i))] [] mm := by
  refine z_loop (nD v) (fun i hi ih cnt hc => ?_)
  have hJ := hH.1.1
  have hD2 := hJ.2
  refine z_iload_n 3 rfl rfl dX5_listsWith_4 ?_
  refine z_aload_n 0 rfl rfl dX5_listsWith_5 ?_
  refine zC_S4 hp rfl zf_X5_69 dX5_listsWith_6 ?_
  rw [hJ.1]
  refine z_icmp_ge 43 dX5_listsWith_9 rfl (fun c9 => ?_) (fun c9 => ?_)
  · have e : i = nD v := by have := (nI_leI (by omega) (by omega)).mp c9; omega
    subst e
    refine z_iload_n 2 rfl rfl dX5_listsWith_43 ?_
    exact z_iret dX5_listsWith_44 (by rw [hc]) rfl
  · have hl : i < nD v := Nat.lt_of_not_le (fun q => c9 ((nI_leI (by omega) (by omega)).mpr (by omega)))
    refine z_iload_n 3 rfl rfl dX5_listsWith_12 ?_
    refine z_aload_n 0 rfl rfl dX5_listsWith_13 ?_
    refine zC_S5 hp rfl zf_X5_37 dX5_listsWith_14 ?_
    refine zC_a5l hp dX5_listsWith_17 ?_
    refine z_icmp_ge 43 dX5_listsWith_18 rfl (fun c18 => ?_) (fun c18 => ?_)
    · exact absurd ((nI_leI (by omega) (by omega)).mp c18) (by omega)
    · obtain ⟨n, hn, h5, -⟩ := hH.1.2.2.1 i (by omega)
      refine z_aload_n 0 rfl rfl dX5_listsWith_21 ?_
      refine zC_S5 hp rfl zf_X5_37 dX5_listsWith_22 ?_
      refine z_iload_n 3 rfl rfl dX5_listsWith_25 ?_
      refine zC_a5 hp (by omega) dX5_listsWith_26 ?_
      refine z_iload_n 1 rfl rfl dX5_listsWith_27 ?_
      refine z_pV1 (ci := 0) zm_X0_placeOf (c_X0_placeOf hp i n _ (by omega) h5 hn (hH.2.2.2.2.2.1 i (by omega))) rfl zl_X5_193 rfl rfl (by decide) (hp.at (j := 10 + _) (Or.inr (by omega))).1 ((hp.at (j := 10 + _) (Or.inr (by omega))).2.trans (zBsh_d (by omega))) (by decide) (Nat.le_of_ble_eq_true rfl) dX5_listsWith_28 ?_
      have e8 : sHl v h (i + 1) = sHl v h i + if 0 ≤ sPl v i (nI h) n then 1 else 0 := by rw [sHl, h5, zn_nI (by omega)]
      refine z_if_lt 37 dX5_listsWith_31 rfl (fun c31 => ?_) (fun c31 => ?_)
      · refine z_iincN (n := 1) 3 rfl rfl dX5_listsWith_37 ?_
        refine z_goto 4 dX5_listsWith_40 rfl ?_
        first | exact ih (by assumption) _ (by rw [e8, if_neg (i_not_le.mpr c31), hc]; rfl) | exact ih (by assumption) _ (by rw [e8, if_pos (i_not_lt.mp c31), hc])
      · refine z_iincN (n := 1) 2 rfl rfl dX5_listsWith_34 ?_
        refine z_iincN (n := 1) 3 rfl rfl dX5_listsWith_37 ?_
        refine z_goto 4 dX5_listsWith_40 rfl ?_
        first | exact ih (by assumption) _ (by rw [e8, if_neg (i_not_le.mpr c31), hc]; rfl) | exact ih (by assumption) _ (by rw [e8, if_pos (i_not_lt.mp c31), hc])
set_option maxRecDepth 4000 in
theorem c_X5_listsWith {l : Launch} {G : zG} {B : Nat → Nat} {m0 mm : zM} {v : Nat → Int32} (hp : zCV G B m0 v mm) (h : Nat) (hH : zH v) : zSem l G (yX5_listsWith, cX5_listsWith, 4, (some .int)) 2 [.ref (B 0), .int (nI h)] mm (some (.int (nI (sHl v h (nD v))))) (fun m' => m' = mm) := by
  refine z_met [some (.ref (B 0)), some (.int (nI h)), none, none] rfl (zc1 (by rfl)) (Nat.le_of_ble_eq_true rfl) rfl ?_
  refine z_iconst (nI 0) dX5_listsWith_0 rfl ?_
  refine z_istore_n 2 rfl (Nat.le_of_ble_eq_true rfl) rfl dX5_listsWith_1 ?_
  refine z_iconst (nI 0) dX5_listsWith_2 rfl ?_
  refine z_istore_n 3 rfl (Nat.le_of_ble_eq_true rfl) rfl dX5_listsWith_3 ?_
  exact l_X5_listsWith hp h hH 0 (Nat.zero_le _) 0 rfl
set_option maxRecDepth 4000 in
theorem c_X5_tellOfHolder {l : Launch} {G : zG} {B : Nat → Nat} {m0 mm : zM} {v : Nat → Int32} (hp : zCV G B m0 v mm) (h : Nat) (w : Int32) (hH : zH v) (hh : h < 10) : zSem l G (yX5_tellOfHolder, cX5_tellOfHolder, 3, (some .int)) 3 [.ref (B 0), .int (nI h), .int w] mm (some (.int (if zIn w (nI 0) (nI 3) = true then sHoldW v h (zn w) else -2))) (fun m' => m' = mm) := by
  have hd10 := hH.1.1.2
  have hJ := hH.1.2.1
  have hJ2 := hJ.2
  have ch : zIn (nI h) (nI 0) (nI 9) = true := zIn_le (by omega) (by omega)
  refine z_met [some (.ref (B 0)), some (.int (nI h)), some (.int w)] rfl (zc1 (by rfl)) (Nat.le_of_ble_eq_true rfl) rfl ?_
  refine z_iload_n 2 rfl rfl dX5_tellOfHolder_0 ?_
  by_cases hx : zIn w (nI 0) (nI 3) = true
  · obtain ⟨j, hj, rfl⟩ := zIn_nI (by decide) hx
    rcases (by omega : j = 0 ∨ j = 1 ∨ j = 2 ∨ j = 3) with rfl | rfl | rfl | rfl
    · refine z_tableIn 32 dX5_tellOfHolder_1 (by decide) (by decide) rfl rfl ?_
      have e9 : (if zIn (nI 0) (nI 0) (nI 3) = true then sHoldW v h (zn (nI 0)) else -2) = sHoldW v h 0 := by rw [if_pos hx]; rfl
      refine z_iload_n 1 rfl rfl dX5_tellOfHolder_32 ?_
      refine z_pN1 zm_X6_isHolder (c_X6_isHolder _) rfl zl_X5_128 (by decide) (Nat.le_of_ble_eq_true rfl) dX5_tellOfHolder_33 ?_
      refine z_if_eqB 52 dX5_tellOfHolder_36 rfl (fun c36 => ?_) (fun c36 => ?_)
      · exact absurd c36 (by rw [ch]; decide)
      · have e8 : sHoldW v h 0 = 1000000000 + v (17 + h) := Int32.add_comm _ _
        rw [e8] at e9
        refine z_ldcw zk_X5_275 rfl dX5_tellOfHolder_39 ?_
        refine z_aload_n 0 rfl rfl dX5_tellOfHolder_42 ?_
        refine zC_S8 hp rfl zf_X5_47 dX5_tellOfHolder_43 ?_
        refine z_iload_n 1 rfl rfl dX5_tellOfHolder_46 ?_
        refine zC_a4 hp (by omega) dX5_tellOfHolder_47 ?_
        refine z_iadd dX5_tellOfHolder_48 ?_
        refine z_goto 53 dX5_tellOfHolder_49 rfl ?_
        exact z_iret dX5_tellOfHolder_53 (by rw [e9] <;> rfl) rfl
    · refine z_tableIn 54 dX5_tellOfHolder_1 (by decide) (by decide) rfl rfl ?_
      have e9 : (if zIn (nI 1) (nI 0) (nI 3) = true then sHoldW v h (zn (nI 1)) else -2) = sHoldW v h 1 := by rw [if_pos hx]; rfl
      refine z_aload_n 0 rfl rfl dX5_tellOfHolder_54 ?_
      refine z_iload_n 1 rfl rfl dX5_tellOfHolder_55 ?_
      refine z_iconst (nI 0) dX5_tellOfHolder_56 rfl ?_
      refine z_pV2 (ci := 5) zm_X5_rightsOfHolder (c_X5_rightsOfHolder hp _ _ hJ) rfl zl_X5_276 rfl rfl (by decide) (hp.at (j := 0) (Or.inl (by decide))).1 (hp.at (j := 0) (Or.inl (by decide))).2 (by decide) (Nat.le_of_ble_eq_true rfl) dX5_tellOfHolder_57 ?_
      refine z_aload_n 0 rfl rfl dX5_tellOfHolder_60 ?_
      refine z_iload_n 1 rfl rfl dX5_tellOfHolder_61 ?_
      refine z_iconst (nI 1) dX5_tellOfHolder_62 rfl ?_
      refine z_pV2 (ci := 5) zm_X5_rightsOfHolder (c_X5_rightsOfHolder hp _ _ hJ) rfl zl_X5_276 rfl rfl (by decide) (hp.at (j := 0) (Or.inl (by decide))).1 (hp.at (j := 0) (Or.inl (by decide))).2 (by decide) (Nat.le_of_ble_eq_true rfl) dX5_tellOfHolder_63 ?_
      refine z_iaddN dX5_tellOfHolder_66 ?_
      have e8 : sHoldW v h 1 = nI (kHs v (nI h) (nI 0) (nR v) + kHs v (nI h) (nI 1) (nR v)) := by rw [kHs_01 hH _ (Nat.le_refl _)]; rfl
      rw [e8] at e9
      exact z_iret dX5_tellOfHolder_67 (by rw [e9] <;> rfl) rfl
    · refine z_tableIn 68 dX5_tellOfHolder_1 (by decide) (by decide) rfl rfl ?_
      have e9 : (if zIn (nI 2) (nI 0) (nI 3) = true then sHoldW v h (zn (nI 2)) else -2) = sHoldW v h 2 := by rw [if_pos hx]; rfl
      refine z_aload_n 0 rfl rfl dX5_tellOfHolder_68 ?_
      refine z_iload_n 1 rfl rfl dX5_tellOfHolder_69 ?_
      refine z_iconst (nI 2) dX5_tellOfHolder_70 rfl ?_
      refine z_pV2 (ci := 5) zm_X5_rightsOfHolder (c_X5_rightsOfHolder hp _ _ hJ) rfl zl_X5_276 rfl rfl (by decide) (hp.at (j := 0) (Or.inl (by decide))).1 (hp.at (j := 0) (Or.inl (by decide))).2 (by decide) (Nat.le_of_ble_eq_true rfl) dX5_tellOfHolder_71 ?_
      have e8 : sHoldW v h 2 = nI (kHs v (nI h) (nI 2) (nR v)) := by rw [kHs_2]; rfl
      rw [e8] at e9
      exact z_iret dX5_tellOfHolder_74 (by rw [e9] <;> rfl) rfl
    · refine z_tableIn 75 dX5_tellOfHolder_1 (by decide) (by decide) rfl rfl ?_
      have e9 : (if zIn (nI 3) (nI 0) (nI 3) = true then sHoldW v h (zn (nI 3)) else -2) = sHoldW v h 3 := by rw [if_pos hx]; rfl
      refine z_aload_n 0 rfl rfl dX5_tellOfHolder_75 ?_
      refine z_iload_n 1 rfl rfl dX5_tellOfHolder_76 ?_
      refine z_pV1 (ci := 5) zm_X5_listsWith (c_X5_listsWith hp _ hH) rfl zl_X5_279 rfl rfl (by decide) (hp.at (j := 0) (Or.inl (by decide))).1 (hp.at (j := 0) (Or.inl (by decide))).2 (by decide) (Nat.le_of_ble_eq_true rfl) dX5_tellOfHolder_77 ?_
      exact z_iret dX5_tellOfHolder_80 (by rw [e9] <;> rfl) rfl
  · refine z_tableOut 81 dX5_tellOfHolder_1 (zIn_out (by decide) (by simpa using hx)) rfl ?_
    have e9 : (if zIn w (nI 0) (nI 3) = true then sHoldW v h (zn w) else -2) = -2 := if_neg hx
    refine z_bipush (-2) dX5_tellOfHolder_81 (by decide) ?_
    exact z_iret dX5_tellOfHolder_83 (by rw [e9] <;> rfl) rfl
set_option maxRecDepth 4000 in
theorem c_X5_tellOfStage {l : Launch} {G : zG} {B : Nat → Nat} {m0 mm : zM} {v : Nat → Int32} (hp : zCV G B m0 v mm) (x w : Int32) : zSem l G (yX5_tellOfStage, cX5_tellOfStage, 3, (some .int)) 2 [.ref (B 0), .int x, .int w] mm (some (.int (sStg v x w))) (fun m' => m' = mm) := by
  refine z_met [some (.ref (B 0)), some (.int x), some (.int w)] rfl (zc1 (by rfl)) (Nat.le_of_ble_eq_true rfl) rfl ?_
  refine z_aload_n 0 rfl rfl dX5_tellOfStage_0 ?_
  refine z_iload_n 1 rfl rfl dX5_tellOfStage_1 ?_
  refine z_pV1 (ci := 5) zm_X5_isStage (c_X5_isStage hp _) rfl zl_X5_110 rfl rfl (by decide) (hp.at (j := 0) (Or.inl (by decide))).1 (hp.at (j := 0) (Or.inl (by decide))).2 (by decide) (Nat.le_of_ble_eq_true rfl) dX5_tellOfStage_2 ?_
  refine z_if_neB 10 dX5_tellOfStage_5 rfl (fun c5 => ?_) (fun c5 => ?_)
  · obtain ⟨k, hk, rfl⟩ := zIn_nI (by decide) c5
    have znk := zn_nI (show k < 2 ^ 31 by omega)
    refine z_iload_n 2 rfl rfl dX5_tellOfStage_10 ?_
    refine z_if_ne 21 dX5_tellOfStage_11 rfl (fun c11 => ?_) (fun c11 => ?_)
    · refine z_iload_n 2 rfl rfl dX5_tellOfStage_21 ?_
      refine z_iconst (nI 1) dX5_tellOfStage_22 rfl ?_
      refine z_icmp_ne 35 dX5_tellOfStage_23 rfl (fun c23 => ?_) (fun c23 => ?_)
      · have e9 : sStg v (nI k) w = -2 := by
          unfold sStg
          rw [if_pos c5, if_neg (fun z => ?_)]
          obtain ⟨j, hj, rfl⟩ := zIn_nI (by decide) z
          rcases (by omega : j = 0 ∨ j = 1) with rfl | rfl
          · exact c11 rfl
          · exact c23 rfl
        refine z_bipush (-2) dX5_tellOfStage_35 (by decide) ?_
        exact z_iret dX5_tellOfStage_37 (by rw [e9] <;> rfl) rfl
      · have c23 : w = nI 1 := c23
        have e9 : sStg v (nI k) w = v (9 + 2 * k + 1) := by subst c23; unfold sStg; rw [if_pos c5, if_pos (by decide), znk]; rfl
        refine z_aload_n 0 rfl rfl dX5_tellOfStage_26 ?_
        refine zC_S3 hp rfl zf_X5_32 dX5_tellOfStage_27 ?_
        refine z_iload_n 1 rfl rfl dX5_tellOfStage_30 ?_
        refine zC_a3 hp (by omega) dX5_tellOfStage_31 ?_
        refine z_goto 37 dX5_tellOfStage_32 rfl ?_
        exact z_iret dX5_tellOfStage_37 (by rw [e9] <;> rfl) rfl
    · have c11 : w = nI 0 := c11
      have e9 : sStg v (nI k) w = v (9 + 2 * k) := by subst c11; unfold sStg; rw [if_pos c5, if_pos (by decide), znk]; rfl
      refine z_aload_n 0 rfl rfl dX5_tellOfStage_14 ?_
      refine zC_S2 hp rfl zf_X5_26 dX5_tellOfStage_15 ?_
      refine z_iload_n 1 rfl rfl dX5_tellOfStage_18 ?_
      refine zC_a2 hp (by omega) dX5_tellOfStage_19 ?_
      exact z_iret dX5_tellOfStage_20 (by rw [e9] <;> rfl) rfl
  · refine z_iconst (-1) dX5_tellOfStage_8 (by decide) ?_
    have e9 : sStg v x w = -1 := by simp only [sStg, c5, and_self, and_true, true_and, and_false, false_and, reduceIte, Bool.false_eq_true, reduceCtorEq]
    exact z_iret dX5_tellOfStage_9 (by rw [e9] <;> rfl) rfl
def kCount (v : Nat → Int32) (w : Int32) : Int32 := if zIn w (nI 0) (nI 13) = true then sCountW v (fun _ _ => 0) (zn w) else -2
set_option maxRecDepth 4000 in
theorem c_X5_tellCount {l : Launch} {G : zG} {B : Nat → Nat} {m0 mm : zM} {v : Nat → Int32} (hp : zCV G B m0 v mm) (w : Int32) (hH : zH v) : zSem l G (yX5_tellCount, cX5_tellCount, 2, (some .int)) 2 [.ref (B 0), .int w] mm (some (.int (kCount v w))) (fun m' => m' = mm) := by
  have hd10 := hH.1.1.2
  have hJ := hH.1.2.1
  have hJ2 := hJ.2
  refine z_met [some (.ref (B 0)), some (.int w)] rfl (zc1 (by rfl)) (Nat.le_of_ble_eq_true rfl) rfl ?_
  refine z_iload_n 1 rfl rfl dX5_tellCount_0 ?_
  refine z_iconst (nI 3) dX5_tellCount_1 rfl ?_
  refine z_icmp_lt 19 dX5_tellCount_2 rfl (fun c2 => ?_) (fun c2 => ?_)
  · refine z_iload_n 1 rfl rfl dX5_tellCount_19 ?_
    refine z_bipush (nI 10) dX5_tellCount_20 rfl ?_
    refine z_icmp_lt 41 dX5_tellCount_22 rfl (fun c22 => ?_) (fun c22 => ?_)
    · refine z_iload_n 1 rfl rfl dX5_tellCount_41 ?_
      by_cases hx : zIn w (nI 0) (nI 9) = true
      · obtain ⟨j, hj, rfl⟩ := zIn_nI (by decide) hx
        rcases (by omega : j = 0 ∨ j = 1 ∨ j = 2 ∨ j = 3 ∨ j = 4 ∨ j = 5 ∨ j = 6 ∨ j = 7 ∨ j = 8 ∨ j = 9) with rfl | rfl | rfl | rfl | rfl | rfl | rfl | rfl | rfl | rfl
        · refine z_tableIn 96 dX5_tellCount_42 (by decide) (by decide) rfl rfl ?_
          have e9 : kCount v (nI 0) = v 0 := by first | exact absurd c2 (by decide) | exact absurd c8 (by decide) | exact absurd c28 (by decide) | (unfold kCount; rw [if_pos (by decide)]; rfl)
          refine z_aload_n 0 rfl rfl dX5_tellCount_96 ?_
          refine zC_S0 hp rfl zf_X5_61 dX5_tellCount_97 ?_
          exact z_iret dX5_tellCount_100 (by rw [e9] <;> rfl) rfl
        · refine z_tableIn 101 dX5_tellCount_42 (by decide) (by decide) rfl rfl ?_
          have e9 : kCount v (nI 1) = v 1 := by first | exact absurd c2 (by decide) | exact absurd c8 (by decide) | exact absurd c28 (by decide) | (unfold kCount; rw [if_pos (by decide)]; rfl)
          refine z_aload_n 0 rfl rfl dX5_tellCount_101 ?_
          refine zC_S4 hp rfl zf_X5_69 dX5_tellCount_102 ?_
          exact z_iret dX5_tellCount_105 (by rw [e9] <;> rfl) rfl
        · refine z_tableIn 106 dX5_tellCount_42 (by decide) (by decide) rfl rfl ?_
          have e9 : kCount v (nI 2) = v 2 := by first | exact absurd c2 (by decide) | exact absurd c8 (by decide) | exact absurd c28 (by decide) | (unfold kCount; rw [if_pos (by decide)]; rfl)
          refine z_aload_n 0 rfl rfl dX5_tellCount_106 ?_
          refine zC_S6 hp rfl zf_X5_76 dX5_tellCount_107 ?_
          exact z_iret dX5_tellCount_110 (by rw [e9] <;> rfl) rfl
        · refine z_tableIn 120 dX5_tellCount_42 (by decide) (by decide) rfl rfl ?_
          have e9 : kCount v (nI 3) = -2 := by first | exact absurd c2 (by decide) | exact absurd c8 (by decide) | exact absurd c28 (by decide) | (unfold kCount; rw [if_pos (by decide)]; rfl)
          refine z_bipush (-2) dX5_tellCount_120 (by decide) ?_
          exact z_iret dX5_tellCount_122 (by rw [e9] <;> rfl) rfl
        · refine z_tableIn 120 dX5_tellCount_42 (by decide) (by decide) rfl rfl ?_
          have e9 : kCount v (nI 4) = -2 := by first | exact absurd c2 (by decide) | exact absurd c8 (by decide) | exact absurd c28 (by decide) | (unfold kCount; rw [if_pos (by decide)]; rfl)
          refine z_bipush (-2) dX5_tellCount_120 (by decide) ?_
          exact z_iret dX5_tellCount_122 (by rw [e9] <;> rfl) rfl
        · refine z_tableIn 120 dX5_tellCount_42 (by decide) (by decide) rfl rfl ?_
          have e9 : kCount v (nI 5) = -2 := by first | exact absurd c2 (by decide) | exact absurd c8 (by decide) | exact absurd c28 (by decide) | (unfold kCount; rw [if_pos (by decide)]; rfl)
          refine z_bipush (-2) dX5_tellCount_120 (by decide) ?_
          exact z_iret dX5_tellCount_122 (by rw [e9] <;> rfl) rfl
        · refine z_tableIn 120 dX5_tellCount_42 (by decide) (by decide) rfl rfl ?_
          have e9 : kCount v (nI 6) = -2 := by first | exact absurd c2 (by decide) | exact absurd c8 (by decide) | exact absurd c28 (by decide) | (unfold kCount; rw [if_pos (by decide)]; rfl)
          refine z_bipush (-2) dX5_tellCount_120 (by decide) ?_
          exact z_iret dX5_tellCount_122 (by rw [e9] <;> rfl) rfl
        · refine z_tableIn 120 dX5_tellCount_42 (by decide) (by decide) rfl rfl ?_
          have e9 : kCount v (nI 7) = -2 := by first | exact absurd c2 (by decide) | exact absurd c8 (by decide) | exact absurd c28 (by decide) | (unfold kCount; rw [if_pos (by decide)]; rfl)
          refine z_bipush (-2) dX5_tellCount_120 (by decide) ?_
          exact z_iret dX5_tellCount_122 (by rw [e9] <;> rfl) rfl
        · refine z_tableIn 120 dX5_tellCount_42 (by decide) (by decide) rfl rfl ?_
          have e9 : kCount v (nI 8) = -2 := by first | exact absurd c2 (by decide) | exact absurd c8 (by decide) | exact absurd c28 (by decide) | (unfold kCount; rw [if_pos (by decide)]; rfl)
          refine z_bipush (-2) dX5_tellCount_120 (by decide) ?_
          exact z_iret dX5_tellCount_122 (by rw [e9] <;> rfl) rfl
        · refine z_tableIn 111 dX5_tellCount_42 (by decide) (by decide) rfl rfl ?_
          have e9 : kCount v (nI 9) = 1000000000 + v 7 := by first | exact absurd c2 (by decide) | exact absurd c8 (by decide) | exact absurd c28 (by decide) | (unfold kCount; rw [if_pos (by decide)]; exact Int32.add_comm (v 7) 1000000000)
          refine z_ldcw zk_X5_275 rfl dX5_tellCount_111 ?_
          refine z_aload_n 0 rfl rfl dX5_tellCount_114 ?_
          refine zC_S9 hp rfl zf_X5_82 dX5_tellCount_115 ?_
          refine z_iadd dX5_tellCount_118 ?_
          exact z_iret dX5_tellCount_119 (by rw [e9] <;> rfl) rfl
      · refine z_tableOut 120 dX5_tellCount_42 (zIn_out (by decide) (by simpa using hx)) rfl ?_
        have e9 : kCount v w = -2 := by
          refine if_neg (fun z => ?_)
          obtain ⟨j, hj, rfl⟩ := zIn_nI (by decide) z
          have q9 : 9 < j := by rcases Nat.lt_or_ge 9 j with q | q; exact q; exact absurd (zIn_le (by omega) (by omega)) hx
          first | (have := (nI_ltI (by omega) (by omega)).mp c2; omega) | (have := (nI_ltI (by omega) (by omega)).mp c22; omega) | (have := (nI_ltI (by omega) (by omega)).mp c28; omega)
        refine z_bipush (-2) dX5_tellCount_120 (by decide) ?_
        exact z_iret dX5_tellCount_122 (by rw [e9] <;> rfl) rfl
    · exact absurd c2 (fun q => c22 (by rw [Int32.lt_iff_toInt_lt] at *; have z1 : (nI 3).toInt = 3 := rfl; have z0 : (nI 10).toInt = 10 := rfl; omega))
  · refine z_iload_n 1 rfl rfl dX5_tellCount_5 ?_
    refine z_bipush (nI 8) dX5_tellCount_6 rfl ?_
    refine z_icmp_gt 19 dX5_tellCount_8 rfl (fun c8 => ?_) (fun c8 => ?_)
    · refine z_iload_n 1 rfl rfl dX5_tellCount_19 ?_
      refine z_bipush (nI 10) dX5_tellCount_20 rfl ?_
      refine z_icmp_lt 41 dX5_tellCount_22 rfl (fun c22 => ?_) (fun c22 => ?_)
      · refine z_iload_n 1 rfl rfl dX5_tellCount_41 ?_
        by_cases hx : zIn w (nI 0) (nI 9) = true
        · obtain ⟨j, hj, rfl⟩ := zIn_nI (by decide) hx
          rcases (by omega : j = 0 ∨ j = 1 ∨ j = 2 ∨ j = 3 ∨ j = 4 ∨ j = 5 ∨ j = 6 ∨ j = 7 ∨ j = 8 ∨ j = 9) with rfl | rfl | rfl | rfl | rfl | rfl | rfl | rfl | rfl | rfl
          · refine z_tableIn 96 dX5_tellCount_42 (by decide) (by decide) rfl rfl ?_
            have e9 : kCount v (nI 0) = v 0 := by first | exact absurd c2 (by decide) | exact absurd c8 (by decide) | exact absurd c28 (by decide) | (unfold kCount; rw [if_pos (by decide)]; rfl)
            refine z_aload_n 0 rfl rfl dX5_tellCount_96 ?_
            refine zC_S0 hp rfl zf_X5_61 dX5_tellCount_97 ?_
            exact z_iret dX5_tellCount_100 (by rw [e9] <;> rfl) rfl
          · refine z_tableIn 101 dX5_tellCount_42 (by decide) (by decide) rfl rfl ?_
            have e9 : kCount v (nI 1) = v 1 := by first | exact absurd c2 (by decide) | exact absurd c8 (by decide) | exact absurd c28 (by decide) | (unfold kCount; rw [if_pos (by decide)]; rfl)
            refine z_aload_n 0 rfl rfl dX5_tellCount_101 ?_
            refine zC_S4 hp rfl zf_X5_69 dX5_tellCount_102 ?_
            exact z_iret dX5_tellCount_105 (by rw [e9] <;> rfl) rfl
          · refine z_tableIn 106 dX5_tellCount_42 (by decide) (by decide) rfl rfl ?_
            have e9 : kCount v (nI 2) = v 2 := by first | exact absurd c2 (by decide) | exact absurd c8 (by decide) | exact absurd c28 (by decide) | (unfold kCount; rw [if_pos (by decide)]; rfl)
            refine z_aload_n 0 rfl rfl dX5_tellCount_106 ?_
            refine zC_S6 hp rfl zf_X5_76 dX5_tellCount_107 ?_
            exact z_iret dX5_tellCount_110 (by rw [e9] <;> rfl) rfl
          · refine z_tableIn 120 dX5_tellCount_42 (by decide) (by decide) rfl rfl ?_
            have e9 : kCount v (nI 3) = -2 := by first | exact absurd c2 (by decide) | exact absurd c8 (by decide) | exact absurd c28 (by decide) | (unfold kCount; rw [if_pos (by decide)]; rfl)
            refine z_bipush (-2) dX5_tellCount_120 (by decide) ?_
            exact z_iret dX5_tellCount_122 (by rw [e9] <;> rfl) rfl
          · refine z_tableIn 120 dX5_tellCount_42 (by decide) (by decide) rfl rfl ?_
            have e9 : kCount v (nI 4) = -2 := by first | exact absurd c2 (by decide) | exact absurd c8 (by decide) | exact absurd c28 (by decide) | (unfold kCount; rw [if_pos (by decide)]; rfl)
            refine z_bipush (-2) dX5_tellCount_120 (by decide) ?_
            exact z_iret dX5_tellCount_122 (by rw [e9] <;> rfl) rfl
          · refine z_tableIn 120 dX5_tellCount_42 (by decide) (by decide) rfl rfl ?_
            have e9 : kCount v (nI 5) = -2 := by first | exact absurd c2 (by decide) | exact absurd c8 (by decide) | exact absurd c28 (by decide) | (unfold kCount; rw [if_pos (by decide)]; rfl)
            refine z_bipush (-2) dX5_tellCount_120 (by decide) ?_
            exact z_iret dX5_tellCount_122 (by rw [e9] <;> rfl) rfl
          · refine z_tableIn 120 dX5_tellCount_42 (by decide) (by decide) rfl rfl ?_
            have e9 : kCount v (nI 6) = -2 := by first | exact absurd c2 (by decide) | exact absurd c8 (by decide) | exact absurd c28 (by decide) | (unfold kCount; rw [if_pos (by decide)]; rfl)
            refine z_bipush (-2) dX5_tellCount_120 (by decide) ?_
            exact z_iret dX5_tellCount_122 (by rw [e9] <;> rfl) rfl
          · refine z_tableIn 120 dX5_tellCount_42 (by decide) (by decide) rfl rfl ?_
            have e9 : kCount v (nI 7) = -2 := by first | exact absurd c2 (by decide) | exact absurd c8 (by decide) | exact absurd c28 (by decide) | (unfold kCount; rw [if_pos (by decide)]; rfl)
            refine z_bipush (-2) dX5_tellCount_120 (by decide) ?_
            exact z_iret dX5_tellCount_122 (by rw [e9] <;> rfl) rfl
          · refine z_tableIn 120 dX5_tellCount_42 (by decide) (by decide) rfl rfl ?_
            have e9 : kCount v (nI 8) = -2 := by first | exact absurd c2 (by decide) | exact absurd c8 (by decide) | exact absurd c28 (by decide) | (unfold kCount; rw [if_pos (by decide)]; rfl)
            refine z_bipush (-2) dX5_tellCount_120 (by decide) ?_
            exact z_iret dX5_tellCount_122 (by rw [e9] <;> rfl) rfl
          · refine z_tableIn 111 dX5_tellCount_42 (by decide) (by decide) rfl rfl ?_
            have e9 : kCount v (nI 9) = 1000000000 + v 7 := by first | exact absurd c2 (by decide) | exact absurd c8 (by decide) | exact absurd c28 (by decide) | (unfold kCount; rw [if_pos (by decide)]; exact Int32.add_comm (v 7) 1000000000)
            refine z_ldcw zk_X5_275 rfl dX5_tellCount_111 ?_
            refine z_aload_n 0 rfl rfl dX5_tellCount_114 ?_
            refine zC_S9 hp rfl zf_X5_82 dX5_tellCount_115 ?_
            refine z_iadd dX5_tellCount_118 ?_
            exact z_iret dX5_tellCount_119 (by rw [e9] <;> rfl) rfl
        · refine z_tableOut 120 dX5_tellCount_42 (zIn_out (by decide) (by simpa using hx)) rfl ?_
          have e9 : kCount v w = -2 := by
            refine if_neg (fun z => ?_)
            obtain ⟨j, hj, rfl⟩ := zIn_nI (by decide) z
            have q9 : 9 < j := by rcases Nat.lt_or_ge 9 j with q | q; exact q; exact absurd (zIn_le (by omega) (by omega)) hx
            first | (have := (nI_ltI (by omega) (by omega)).mp c2; omega) | (have := (nI_ltI (by omega) (by omega)).mp c22; omega) | (have := (nI_ltI (by omega) (by omega)).mp c28; omega)
          refine z_bipush (-2) dX5_tellCount_120 (by decide) ?_
          exact z_iret dX5_tellCount_122 (by rw [e9] <;> rfl) rfl
      · refine z_iload_n 1 rfl rfl dX5_tellCount_25 ?_
        refine z_bipush (nI 13) dX5_tellCount_26 rfl ?_
        refine z_icmp_gt 41 dX5_tellCount_28 rfl (fun c28 => ?_) (fun c28 => ?_)
        · refine z_iload_n 1 rfl rfl dX5_tellCount_41 ?_
          by_cases hx : zIn w (nI 0) (nI 9) = true
          · obtain ⟨j, hj, rfl⟩ := zIn_nI (by decide) hx
            rcases (by omega : j = 0 ∨ j = 1 ∨ j = 2 ∨ j = 3 ∨ j = 4 ∨ j = 5 ∨ j = 6 ∨ j = 7 ∨ j = 8 ∨ j = 9) with rfl | rfl | rfl | rfl | rfl | rfl | rfl | rfl | rfl | rfl
            · refine z_tableIn 96 dX5_tellCount_42 (by decide) (by decide) rfl rfl ?_
              have e9 : kCount v (nI 0) = v 0 := by first | exact absurd c2 (by decide) | exact absurd c8 (by decide) | exact absurd c28 (by decide) | (unfold kCount; rw [if_pos (by decide)]; rfl)
              refine z_aload_n 0 rfl rfl dX5_tellCount_96 ?_
              refine zC_S0 hp rfl zf_X5_61 dX5_tellCount_97 ?_
              exact z_iret dX5_tellCount_100 (by rw [e9] <;> rfl) rfl
            · refine z_tableIn 101 dX5_tellCount_42 (by decide) (by decide) rfl rfl ?_
              have e9 : kCount v (nI 1) = v 1 := by first | exact absurd c2 (by decide) | exact absurd c8 (by decide) | exact absurd c28 (by decide) | (unfold kCount; rw [if_pos (by decide)]; rfl)
              refine z_aload_n 0 rfl rfl dX5_tellCount_101 ?_
              refine zC_S4 hp rfl zf_X5_69 dX5_tellCount_102 ?_
              exact z_iret dX5_tellCount_105 (by rw [e9] <;> rfl) rfl
            · refine z_tableIn 106 dX5_tellCount_42 (by decide) (by decide) rfl rfl ?_
              have e9 : kCount v (nI 2) = v 2 := by first | exact absurd c2 (by decide) | exact absurd c8 (by decide) | exact absurd c28 (by decide) | (unfold kCount; rw [if_pos (by decide)]; rfl)
              refine z_aload_n 0 rfl rfl dX5_tellCount_106 ?_
              refine zC_S6 hp rfl zf_X5_76 dX5_tellCount_107 ?_
              exact z_iret dX5_tellCount_110 (by rw [e9] <;> rfl) rfl
            · refine z_tableIn 120 dX5_tellCount_42 (by decide) (by decide) rfl rfl ?_
              have e9 : kCount v (nI 3) = -2 := by first | exact absurd c2 (by decide) | exact absurd c8 (by decide) | exact absurd c28 (by decide) | (unfold kCount; rw [if_pos (by decide)]; rfl)
              refine z_bipush (-2) dX5_tellCount_120 (by decide) ?_
              exact z_iret dX5_tellCount_122 (by rw [e9] <;> rfl) rfl
            · refine z_tableIn 120 dX5_tellCount_42 (by decide) (by decide) rfl rfl ?_
              have e9 : kCount v (nI 4) = -2 := by first | exact absurd c2 (by decide) | exact absurd c8 (by decide) | exact absurd c28 (by decide) | (unfold kCount; rw [if_pos (by decide)]; rfl)
              refine z_bipush (-2) dX5_tellCount_120 (by decide) ?_
              exact z_iret dX5_tellCount_122 (by rw [e9] <;> rfl) rfl
            · refine z_tableIn 120 dX5_tellCount_42 (by decide) (by decide) rfl rfl ?_
              have e9 : kCount v (nI 5) = -2 := by first | exact absurd c2 (by decide) | exact absurd c8 (by decide) | exact absurd c28 (by decide) | (unfold kCount; rw [if_pos (by decide)]; rfl)
              refine z_bipush (-2) dX5_tellCount_120 (by decide) ?_
              exact z_iret dX5_tellCount_122 (by rw [e9] <;> rfl) rfl
            · refine z_tableIn 120 dX5_tellCount_42 (by decide) (by decide) rfl rfl ?_
              have e9 : kCount v (nI 6) = -2 := by first | exact absurd c2 (by decide) | exact absurd c8 (by decide) | exact absurd c28 (by decide) | (unfold kCount; rw [if_pos (by decide)]; rfl)
              refine z_bipush (-2) dX5_tellCount_120 (by decide) ?_
              exact z_iret dX5_tellCount_122 (by rw [e9] <;> rfl) rfl
            · refine z_tableIn 120 dX5_tellCount_42 (by decide) (by decide) rfl rfl ?_
              have e9 : kCount v (nI 7) = -2 := by first | exact absurd c2 (by decide) | exact absurd c8 (by decide) | exact absurd c28 (by decide) | (unfold kCount; rw [if_pos (by decide)]; rfl)
              refine z_bipush (-2) dX5_tellCount_120 (by decide) ?_
              exact z_iret dX5_tellCount_122 (by rw [e9] <;> rfl) rfl
            · refine z_tableIn 120 dX5_tellCount_42 (by decide) (by decide) rfl rfl ?_
              have e9 : kCount v (nI 8) = -2 := by first | exact absurd c2 (by decide) | exact absurd c8 (by decide) | exact absurd c28 (by decide) | (unfold kCount; rw [if_pos (by decide)]; rfl)
              refine z_bipush (-2) dX5_tellCount_120 (by decide) ?_
              exact z_iret dX5_tellCount_122 (by rw [e9] <;> rfl) rfl
            · refine z_tableIn 111 dX5_tellCount_42 (by decide) (by decide) rfl rfl ?_
              have e9 : kCount v (nI 9) = 1000000000 + v 7 := by first | exact absurd c2 (by decide) | exact absurd c8 (by decide) | exact absurd c28 (by decide) | (unfold kCount; rw [if_pos (by decide)]; exact Int32.add_comm (v 7) 1000000000)
              refine z_ldcw zk_X5_275 rfl dX5_tellCount_111 ?_
              refine z_aload_n 0 rfl rfl dX5_tellCount_114 ?_
              refine zC_S9 hp rfl zf_X5_82 dX5_tellCount_115 ?_
              refine z_iadd dX5_tellCount_118 ?_
              exact z_iret dX5_tellCount_119 (by rw [e9] <;> rfl) rfl
          · refine z_tableOut 120 dX5_tellCount_42 (zIn_out (by decide) (by simpa using hx)) rfl ?_
            have e9 : kCount v w = -2 := by
              refine if_neg (fun z => ?_)
              obtain ⟨j, hj, rfl⟩ := zIn_nI (by decide) z
              have q9 : 9 < j := by rcases Nat.lt_or_ge 9 j with q | q; exact q; exact absurd (zIn_le (by omega) (by omega)) hx
              first | (have := (nI_ltI (by omega) (by omega)).mp c2; omega) | (have := (nI_ltI (by omega) (by omega)).mp c22; omega) | (have := (nI_ltI (by omega) (by omega)).mp c28; omega)
            refine z_bipush (-2) dX5_tellCount_120 (by decide) ?_
            exact z_iret dX5_tellCount_122 (by rw [e9] <;> rfl) rfl
        · obtain ⟨k, hk31, rfl⟩ := nI_of (x := w) (fun q => c22 (by rw [Int32.lt_iff_toInt_lt] at *; have z1 : (nI 10).toInt = 10 := rfl; have z0 : (0 : Int32).toInt = 0 := rfl; omega))
          have q1 : 10 ≤ k := by rcases Nat.lt_or_ge k 10 with z | z; exact absurd (nI_lt z (by omega)) c22; exact z
          have q2 : k ≤ 13 := by rcases Nat.lt_or_ge 13 k with z | z; exact absurd (nI_lt z (by omega)) c28; exact z
          have e9 : kCount v (nI k) = v (3 + (k - 10)) := by
            unfold kCount
            rw [if_pos (zIn_le (by omega) (by omega)), zn_nI (by omega)]
            rcases (by omega : k = 10 ∨ k = 11 ∨ k = 12 ∨ k = 13) with rfl | rfl | rfl | rfl <;> rfl
          refine z_aload_n 0 rfl rfl dX5_tellCount_31 ?_
          refine zC_S1 hp rfl zf_X5_18 dX5_tellCount_32 ?_
          refine z_iload_n 1 rfl rfl dX5_tellCount_35 ?_
          refine z_bipush (nI 10) dX5_tellCount_36 rfl ?_
          refine z_isubN (by omega) dX5_tellCount_38 ?_
          refine zC_a1 hp (by omega) dX5_tellCount_39 ?_
          exact z_iret dX5_tellCount_40 (by rw [e9] <;> rfl) rfl
    · obtain ⟨k, hk31, rfl⟩ := nI_of (x := w) (fun q => c2 (by rw [Int32.lt_iff_toInt_lt] at *; have z1 : (nI 3).toInt = 3 := rfl; have z0 : (0 : Int32).toInt = 0 := rfl; omega))
      have q1 : 3 ≤ k := by rcases Nat.lt_or_ge k 3 with z | z; exact absurd (nI_lt z (by omega)) c2; exact z
      have q2 : k ≤ 8 := by rcases Nat.lt_or_ge 8 k with z | z; exact absurd (nI_lt z (by omega)) c8; exact z
      have e9 : kCount v (nI k) = nI (sCs v (nI k - nI 3) (nR v)) := by
        unfold kCount
        rw [if_pos (zIn_le (by omega) (by omega)), zn_nI (by omega)]
        rcases (by omega : k = 3 ∨ k = 4 ∨ k = 5 ∨ k = 6 ∨ k = 7 ∨ k = 8) with rfl | rfl | rfl | rfl | rfl | rfl <;> rfl
      refine z_aload_n 0 rfl rfl dX5_tellCount_11 ?_
      refine z_iload_n 1 rfl rfl dX5_tellCount_12 ?_
      refine z_iconst (nI 3) dX5_tellCount_13 rfl ?_
      refine z_isub dX5_tellCount_14 ?_
      refine z_pV1 (ci := 5) zm_X5_rightsInAll (c_X5_rightsInAll hp _ hJ) rfl zl_X5_282 rfl rfl (by decide) (hp.at (j := 0) (Or.inl (by decide))).1 (hp.at (j := 0) (Or.inl (by decide))).2 (by decide) (Nat.le_of_ble_eq_true rfl) dX5_tellCount_15 ?_
      exact z_iret dX5_tellCount_18 (by rw [e9] <;> rfl) rfl
