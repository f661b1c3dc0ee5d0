def kP1 (i j : Nat) : Prop := j = 0 ∨ j = 1 ∨ (3 ≤ j ∧ j < 7) ∨ (9 ≤ j ∧ j < 17) ∨ (27 ≤ j ∧ j < 27 + 12 * i)
def kP2 (i j : Nat) : Prop := j = 2 ∨ kP1 10 j ∨ (147 ≤ j ∧ j < 147 + 7 * i)
theorem kCp_end {G : zG} {B : Nat → Nat} {m0 mm : zM} {u w : Nat → Int32} {σ : Nat → Nat} {f : Nat → Nat → Int32} (hp : zCPe G B m0 u σ (fun i => i) f mm) (hA : ∀ j, j < 567 → u j = w j) (hF : ∀ i, i < 10 → ∀ k, k < 4 → f i k = w (567 + 4 * i + k)) : zCP G B m0 w mm := by
  obtain ⟨h1, h2, h3, h4, h5, hs, ⟨hr, h6⟩, h7, h8⟩ := hp
  refine ⟨h1, h2, h3, h4, fun j k i hi => ?_, ⟨σ, hs.1, hs.2, fun i hi => ⟨h6 i hi, fun k hk => ?_⟩⟩, h8⟩
  · rw [h5 j k i hi, hA i (zIx_lt hi).2]
  · rw [h7 i k hi hk, hF i hi k hk]
set_option maxRecDepth 4000 in
theorem l_X5_copyFrom_c {l : Launch} {G : zG} {B C : Nat → Nat} {m0 m1 : zM} {w : Nat → Int32} {σ : Nat → Nat} (hs : zCP G C m1 w m0) (hD : ∀ i j, zBd i → zBd j → C i ≠ B j) (τ : Nat → Nat) (t1 : ∀ i, i < 10 → τ i < 10) (t3 : ∀ i, i < 10 → m0 (C 7) i = .ref (C (90 + τ i)) ∧ ∀ k, k < 4 → m0 (C (90 + τ i)) k = .int (w (567 + 4 * i + k))) : ∀ i, i ≤ 10 → ∀ (f : Nat → Nat → Int32) (u : Nat → Int32) (mm : zM) (hp : zCPe G B m0 u σ (fun i => i) f mm) (hA : ∀ j, j < 567 → u j = w j) (hF : ∀ a, a < i → ∀ k, k < 4 → f a k = w (567 + 4 * a + k)), zV l G (yX5_copyFrom, cX5_copyFrom, 3, none) 3 none (fun m' => zCP G B m0 w m') 150 [some (.ref (B 0)), some (.ref (C 0)), some (.int (nI i))] [] mm := by
  refine z_loop 10 (fun i hi ih f u mm hp hA hF => ?_)
  refine z_iload_n 2 rfl rfl dX5_copyFrom_150 ?_
  refine z_aload_n 0 rfl rfl dX5_copyFrom_151 ?_
  refine zE_S11 hp rfl zf_X5_52 dX5_copyFrom_152 ?_
  refine zE_a7l hp dX5_copyFrom_155 ?_
  refine z_icmp_ge 180 dX5_copyFrom_156 rfl (fun c156 => ?_) (fun c156 => ?_)
  · have e : i = 10 := by have := (nI_leI (by omega) (by omega)).mp c156; omega
    subst e
    exact z_vret dX5_copyFrom_180 rfl (kCp_end hp hA hF)
  · have hl : i < 10 := Nat.lt_of_not_le (fun q => c156 ((nI_leI (by omega) (by omega)).mpr q))
    refine z_aload_n 0 rfl rfl dX5_copyFrom_159 ?_
    refine zE_S11 hp rfl zf_X5_52 dX5_copyFrom_160 ?_
    refine z_iload_n 2 rfl rfl dX5_copyFrom_163 ?_
    refine zE_ald hp (by omega) dX5_copyFrom_164 ?_
    refine z_aload_n 1 rfl rfl dX5_copyFrom_165 ?_
    refine zX_S11 hp hs hD rfl zf_X5_52 dX5_copyFrom_166 ?_
    refine z_iload_n 2 rfl rfl dX5_copyFrom_169 ?_
    refine zX_a7 hp hs hD (by omega) (t1 i (by omega)) (t3 i (by omega)).1 dX5_copyFrom_170 ?_
    refine z_vV1 (ci := 1) zm_X1_copyFrom (c_X1_copyFrom hp hs hD i (τ i) (fun k => w (567 + 4 * i + k)) (by omega) (t1 i (by omega)) (t3 i (by omega)).2) rfl zl_X5_88 rfl rfl (by decide) (hp.1 _ (Or.inr (by have := hp.2.2.2.2.2.1.1 i (by omega); omega))) ((hp.2.1 _ (Or.inr (by have := hp.2.2.2.2.2.1.1 i (by omega); omega))).trans (zBsh_e (hp.2.2.2.2.2.1.1 i (by omega)))) (by decide) (Nat.le_of_ble_eq_true rfl) dX5_copyFrom_171 (fun mm hp => ?_)
    obtain ⟨f2, hp, a1, a2⟩ := hp
    refine z_iincN (n := 1) 2 rfl rfl dX5_copyFrom_174 ?_
    refine z_goto 150 dX5_copyFrom_177 rfl ?_
    exact ih hl f2 u mm hp hA (fun a ha k hk => by
      by_cases e : a = i
      · subst e; exact a2 k hk
      · rw [a1 a k e]; exact hF a (by omega) k hk)
set_option maxRecDepth 4000 in
theorem l_X5_copyFrom_b {l : Launch} {G : zG} {B C : Nat → Nat} {m0 m1 : zM} {w : Nat → Int32} {σ : Nat → Nat} (hs : zCP G C m1 w m0) (hD : ∀ i j, zBd i → zBd j → C i ≠ B j) (τ : Nat → Nat) (t1 : ∀ i, i < 10 → τ i < 10) (t3 : ∀ i, i < 10 → m0 (C 7) i = .ref (C (90 + τ i)) ∧ ∀ k, k < 4 → m0 (C (90 + τ i)) k = .int (w (567 + 4 * i + k))) : ∀ i, i ≤ 60 → ∀ (f : Nat → Nat → Int32) (u : Nat → Int32) (mm : zM) (hp : zCPe G B m0 u σ (fun i => i) f mm) (hA : ∀ j, kP2 i j → u j = w j), zV l G (yX5_copyFrom, cX5_copyFrom, 3, none) 3 none (fun m' => zCP G B m0 w m') 91 [some (.ref (B 0)), some (.ref (C 0)), some (.int (nI i))] [] mm := by
  refine z_loop 60 (fun i hi ih f u mm hp hA => ?_)
  refine z_iload_n 2 rfl rfl dX5_copyFrom_91 ?_
  refine z_aload_n 0 rfl rfl dX5_copyFrom_92 ?_
  refine zE_S7 hp rfl zf_X5_43 dX5_copyFrom_93 ?_
  refine zE_a6l hp dX5_copyFrom_96 ?_
  refine z_icmp_ge 121 dX5_copyFrom_97 rfl (fun c97 => ?_) (fun c97 => ?_)
  · have e : i = 60 := by have := (nI_leI (by omega) (by omega)).mp c97; omega
    subst e
    refine z_aload_n 1 rfl rfl dX5_copyFrom_121 ?_
    refine zX_S8 hp hs hD rfl zf_X5_47 dX5_copyFrom_122 ?_
    refine z_aload_n 0 rfl rfl dX5_copyFrom_125 ?_
    refine zE_S8 hp rfl zf_X5_47 dX5_copyFrom_126 ?_
    refine z_vN2 zm_X6_copyAll (c_X6_copyAll hp hs hD 4 10 (fun k => 17 + k) (Or.inl (by decide)) (by omega) rfl (fun k hk => zIx_4 hk)) rfl zl_X5_65 (by decide) (Nat.le_of_ble_eq_true rfl) dX5_copyFrom_129 (fun mm hp => ?_)
    refine z_aload_n 0 rfl rfl dX5_copyFrom_132 ?_
    refine z_aload_n 1 rfl rfl dX5_copyFrom_133 ?_
    refine zX_S9 hp hs hD rfl zf_X5_82 dX5_copyFrom_134 ?_
    refine zE_Sp9 hp rfl zf_X5_82 dX5_copyFrom_137 (fun mm hp => ?_)
    refine z_aload_n 0 rfl rfl dX5_copyFrom_140 ?_
    refine z_aload_n 1 rfl rfl dX5_copyFrom_141 ?_
    refine zX_S10 hp hs hD rfl zf_X5_85 dX5_copyFrom_142 ?_
    refine zE_Sp10 hp rfl zf_X5_85 dX5_copyFrom_145 (fun mm hp => ?_)
    refine z_iconst (nI 0) dX5_copyFrom_148 rfl ?_
    refine z_istore_n 2 rfl (Nat.le_of_ble_eq_true rfl) rfl dX5_copyFrom_149 ?_
    refine l_X5_copyFrom_c hs hD τ t1 t3 0 (by omega) f _ mm hp (fun j hj => ?_) (fun a ha => by omega)
    by_cases q8 : j = 8
    · subst q8; exact zWs
    · refine zWu ?_
      by_cases q7 : j = 7
      · subst q7; exact zWs
      · refine zWu ?_
        by_cases q : 17 ≤ j ∧ j < 27
        · have := kCpy_s (u := u) (w := w) (ι := fun k => 17 + k) (k := j - 17) 10 (by omega)
          have e : 17 + (j - 17) = j := by omega
          simp only [e] at this
          exact this
        · exact kCpy_u (hA j (by unfold kP2 kP1; omega)) 10
  · have hl : i < 60 := Nat.lt_of_not_le (fun q => c97 ((nI_leI (by omega) (by omega)).mpr q))
    refine z_aload_n 0 rfl rfl dX5_copyFrom_100 ?_
    refine zE_S7 hp rfl zf_X5_43 dX5_copyFrom_101 ?_
    refine z_iload_n 2 rfl rfl dX5_copyFrom_104 ?_
    refine zE_a6 hp (by omega) dX5_copyFrom_105 ?_
    refine z_aload_n 1 rfl rfl dX5_copyFrom_106 ?_
    refine zX_S7 hp hs hD rfl zf_X5_43 dX5_copyFrom_107 ?_
    refine z_iload_n 2 rfl rfl dX5_copyFrom_110 ?_
    refine zX_a6 hp hs hD (by omega) dX5_copyFrom_111 ?_
    refine z_vV1 (ci := 4) zm_X4_copyFrom (c_X4_copyFrom hp hs hD i (by omega)) rfl zl_X5_79 rfl rfl (by decide) (hp.1 _ (Or.inr (by omega))) ((hp.2.1 _ (Or.inr (by omega))).trans (zBsh_r (by omega))) (by decide) (Nat.le_of_ble_eq_true rfl) dX5_copyFrom_112 (fun mm hp => ?_)
    obtain ⟨u2, hp, a1, a2⟩ := hp
    refine z_iincN (n := 1) 2 rfl rfl dX5_copyFrom_115 ?_
    refine z_goto 91 dX5_copyFrom_118 rfl ?_
    refine ih hl f u2 mm hp (fun j hj => ?_)
    unfold kP2 kP1 at hj
    by_cases q : j < 147 + 7 * i
    · exact a1 j (hA j (by unfold kP2 kP1; omega))
    · have hj2 : 147 + 7 * i ≤ j ∧ j < 147 + 7 * i + 7 := by omega
      have := a2 (j - (147 + 7 * i)) (by omega)
      rw [show 147 + 7 * i + (j - (147 + 7 * i)) = j by omega] at this
      exact this
set_option maxRecDepth 4000 in
theorem l_X5_copyFrom_a {l : Launch} {G : zG} {B C : Nat → Nat} {m0 m1 : zM} {w : Nat → Int32} {σ : Nat → Nat} (hs : zCP G C m1 w m0) (hD : ∀ i j, zBd i → zBd j → C i ≠ B j) (τ : Nat → Nat) (t1 : ∀ i, i < 10 → τ i < 10) (t3 : ∀ i, i < 10 → m0 (C 7) i = .ref (C (90 + τ i)) ∧ ∀ k, k < 4 → m0 (C (90 + τ i)) k = .int (w (567 + 4 * i + k))) : ∀ i, i ≤ 10 → ∀ (f : Nat → Nat → Int32) (u : Nat → Int32) (mm : zM) (hp : zCPe G B m0 u σ (fun i => i) f mm) (hA : ∀ j, kP1 i j → u j = w j), zV l G (yX5_copyFrom, cX5_copyFrom, 3, none) 3 none (fun m' => zCP G B m0 w m') 51 [some (.ref (B 0)), some (.ref (C 0)), some (.int (nI i))] [] mm := by
  refine z_loop 10 (fun i hi ih f u mm hp hA => ?_)
  refine z_iload_n 2 rfl rfl dX5_copyFrom_51 ?_
  refine z_aload_n 0 rfl rfl dX5_copyFrom_52 ?_
  refine zE_S5 hp rfl zf_X5_37 dX5_copyFrom_53 ?_
  refine zE_a5l hp dX5_copyFrom_56 ?_
  refine z_icmp_ge 81 dX5_copyFrom_57 rfl (fun c57 => ?_) (fun c57 => ?_)
  · have e : i = 10 := by have := (nI_leI (by omega) (by omega)).mp c57; omega
    subst e
    refine z_aload_n 0 rfl rfl dX5_copyFrom_81 ?_
    refine z_aload_n 1 rfl rfl dX5_copyFrom_82 ?_
    refine zX_S6 hp hs hD rfl zf_X5_76 dX5_copyFrom_83 ?_
    refine zE_Sp6 hp rfl zf_X5_76 dX5_copyFrom_86 (fun mm hp => ?_)
    refine z_iconst (nI 0) dX5_copyFrom_89 rfl ?_
    refine z_istore_n 2 rfl (Nat.le_of_ble_eq_true rfl) rfl dX5_copyFrom_90 ?_
    refine l_X5_copyFrom_b hs hD τ t1 t3 0 (by omega) f _ mm hp (fun j hj => ?_)
    unfold kP2 at hj
    by_cases q2 : j = 2
    · subst q2; exact zWs
    · exact zWu (hA j (by unfold kP1 at hj ⊢; omega))
  · have hl : i < 10 := Nat.lt_of_not_le (fun q => c57 ((nI_leI (by omega) (by omega)).mpr q))
    refine z_aload_n 0 rfl rfl dX5_copyFrom_60 ?_
    refine zE_S5 hp rfl zf_X5_37 dX5_copyFrom_61 ?_
    refine z_iload_n 2 rfl rfl dX5_copyFrom_64 ?_
    refine zE_a5 hp (by omega) dX5_copyFrom_65 ?_
    refine z_aload_n 1 rfl rfl dX5_copyFrom_66 ?_
    refine zX_S5 hp hs hD rfl zf_X5_37 dX5_copyFrom_67 ?_
    refine z_iload_n 2 rfl rfl dX5_copyFrom_70 ?_
    refine zX_a5 hp hs hD (by omega) dX5_copyFrom_71 ?_
    refine z_vV1 (ci := 0) zm_X0_copyFrom (c_X0_copyFrom hp hs hD i (by omega)) rfl zl_X5_72 rfl rfl (by decide) (hp.1 _ (Or.inr (by omega))) ((hp.2.1 _ (Or.inr (by omega))).trans (zBsh_d (by omega))) (by decide) (Nat.le_of_ble_eq_true rfl) dX5_copyFrom_72 (fun mm hp => ?_)
    obtain ⟨u2, hp, a1, a2⟩ := hp
    refine z_iincN (n := 1) 2 rfl rfl dX5_copyFrom_75 ?_
    refine z_goto 51 dX5_copyFrom_78 rfl ?_
    refine ih hl f u2 mm hp (fun j hj => ?_)
    unfold kP1 at hj
    by_cases q : j < 27 + 12 * i
    · exact a1 j (hA j (by unfold kP1; omega))
    · have hj2 : 27 + 12 * i ≤ j ∧ j < 27 + 12 * i + 12 := by omega
      have := a2 (j - (27 + 12 * i)) (by omega)
      rw [show 27 + 12 * i + (j - (27 + 12 * i)) = j by omega] at this
      exact this
set_option maxRecDepth 4000 in
theorem c_X5_copyFrom {l : Launch} {G : zG} {B C : Nat → Nat} {m0 m1 mm : zM} {u w : Nat → Int32} (hc : zCP G B m0 u mm) (hs : zCP G C m1 w m0) (hD : ∀ i j, zBd i → zBd j → C i ≠ B j) : zSem l G (yX5_copyFrom, cX5_copyFrom, 3, none) 3 [.ref (B 0), .ref (C 0)] mm none (fun m' => zCP G B m0 w m') := by
  obtain ⟨h1, h2, h3, h4, h5, ⟨σ, s1, s2, s3⟩, h8⟩ := hc
  have hp : zCPe G B m0 u σ (fun i => i) (fun i k => u (567 + 4 * i + k)) mm := ⟨h1, h2, h3, h4, h5, ⟨s1, s2⟩, ⟨fun i hi => hi, fun i hi => (s3 i hi).1⟩, fun i k hi hk => (s3 i hi).2 k hk, h8⟩
  have hs0 := hs
  obtain ⟨-, -, -, -, -, ⟨τ, t1, t2, t3⟩, -⟩ := hs0
  refine z_met [some (.ref (B 0)), some (.ref (C 0)), none] rfl (zc1 (by rfl)) (Nat.le_of_ble_eq_true rfl) rfl ?_
  refine z_aload_n 0 rfl rfl dX5_copyFrom_0 ?_
  refine z_aload_n 1 rfl rfl dX5_copyFrom_1 ?_
  refine zX_S0 hp hs hD rfl zf_X5_61 dX5_copyFrom_2 ?_
  refine zE_Sp0 hp rfl zf_X5_61 dX5_copyFrom_5 (fun mm hp => ?_)
  refine z_aload_n 1 rfl rfl dX5_copyFrom_8 ?_
  refine zX_S1 hp hs hD rfl zf_X5_18 dX5_copyFrom_9 ?_
  refine z_aload_n 0 rfl rfl dX5_copyFrom_12 ?_
  refine zE_S1 hp rfl zf_X5_18 dX5_copyFrom_13 ?_
  refine z_vN2 zm_X6_copyAll (c_X6_copyAll hp hs hD 1 4 (fun k => 3 + k) (Or.inl (by decide)) (by omega) rfl (fun k hk => zIx_1 hk)) rfl zl_X5_65 (by decide) (Nat.le_of_ble_eq_true rfl) dX5_copyFrom_16 (fun mm hp => ?_)
  refine z_aload_n 1 rfl rfl dX5_copyFrom_19 ?_
  refine zX_S2 hp hs hD rfl zf_X5_26 dX5_copyFrom_20 ?_
  refine z_aload_n 0 rfl rfl dX5_copyFrom_23 ?_
  refine zE_S2 hp rfl zf_X5_26 dX5_copyFrom_24 ?_
  refine z_vN2 zm_X6_copyAll (c_X6_copyAll hp hs hD 2 4 (fun k => 9 + 2 * k) (Or.inl (by decide)) (by omega) rfl (fun k hk => zIx_2 hk)) rfl zl_X5_65 (by decide) (Nat.le_of_ble_eq_true rfl) dX5_copyFrom_27 (fun mm hp => ?_)
  refine z_aload_n 1 rfl rfl dX5_copyFrom_30 ?_
  refine zX_S3 hp hs hD rfl zf_X5_32 dX5_copyFrom_31 ?_
  refine z_aload_n 0 rfl rfl dX5_copyFrom_34 ?_
  refine zE_S3 hp rfl zf_X5_32 dX5_copyFrom_35 ?_
  refine z_vN2 zm_X6_copyAll (c_X6_copyAll hp hs hD 3 4 (fun k => 9 + 2 * k + 1) (Or.inl (by decide)) (by omega) rfl (fun k hk => zIx_3 hk)) rfl zl_X5_65 (by decide) (Nat.le_of_ble_eq_true rfl) dX5_copyFrom_38 (fun mm hp => ?_)
  refine z_aload_n 0 rfl rfl dX5_copyFrom_41 ?_
  refine z_aload_n 1 rfl rfl dX5_copyFrom_42 ?_
  refine zX_S4 hp hs hD rfl zf_X5_69 dX5_copyFrom_43 ?_
  refine zE_Sp4 hp rfl zf_X5_69 dX5_copyFrom_46 (fun mm hp => ?_)
  refine z_iconst (nI 0) dX5_copyFrom_49 rfl ?_
  refine z_istore_n 2 rfl (Nat.le_of_ble_eq_true rfl) rfl dX5_copyFrom_50 ?_
  refine l_X5_copyFrom_a hs hD τ t1 t3 0 (by omega) (fun i k => u (567 + 4 * i + k)) _ mm hp (fun j hj => ?_)
  unfold kP1 at hj
  by_cases q1 : j = 1
  · subst q1; exact zWs
  · refine zWu ?_
    by_cases q0 : j = 0
    · subst q0; exact kCpy_u (kCpy_u (kCpy_u zWs 4) 4) 4
    · by_cases q3 : 3 ≤ j ∧ j < 7
      · have := kCpy_s (u := upd u 0 (w 0)) (w := w) (ι := fun k => 3 + k) (k := j - 3) 4 (by omega)
        have e : 3 + (j - 3) = j := by omega
        simp only [e] at this
        exact kCpy_u (kCpy_u this 4) 4
      · by_cases q9 : j % 2 = 1
        · have := kCpy_s (u := kCpy (upd u 0 (w 0)) w (fun k => 3 + k) 4) (w := w) (ι := fun k => 9 + 2 * k) (k := (j - 9) / 2) 4 (by omega)
          have e : 9 + 2 * ((j - 9) / 2) = j := by omega
          simp only [e] at this
          exact kCpy_u this 4
        · have := kCpy_s (u := kCpy (kCpy (upd u 0 (w 0)) w (fun k => 3 + k) 4) w (fun k => 9 + 2 * k) 4) (w := w) (ι := fun k => 9 + 2 * k + 1) (k := (j - 9) / 2) 4 (by omega)
          have e : 9 + 2 * ((j - 9) / 2) + 1 = j := by omega
          simp only [e] at this
          exact this
