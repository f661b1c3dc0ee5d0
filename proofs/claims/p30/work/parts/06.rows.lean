section ZR
variable {l : Launch} {G : zG} {y : MethodName} {cc : ByteArray} {nL : Nat} {ret : Option FieldType} {d : Nat} {rv : Option Value} {Q : zM → Prop} {pc : Nat} {lv : List (Option Value)} {st : List Value} {mm : zM}
theorem z_icmp_eq {a b : Int32} {off : Int} (tgt : Nat) (hd : decode cc pc = .ok (.if_icmp .eq off, 3)) (ht : (pc : Int) + off = (tgt : Int)) (kt : a = b → zV l G (y, cc, nL, ret) d rv Q tgt lv st mm) (kf : ¬ a = b → zV l G (y, cc, nL, ret) d rv Q (pc + 3) lv st mm) : zV l G (y, cc, nL, ret) d rv Q pc lv (.int b :: .int a :: st) mm := by
  intro p e s m args below meth c H locs ls hx hb hml hrt hown hlk hts hK hSt hN hl hP hS
  exact lv_icmp_eq hx hb hd ht (fun h => kt h p e s m args below meth c H locs ls hx hb hml hrt hown hlk hts hK hSt hN hl hP hS) (fun h => kf h p e s m args below meth c H locs ls hx hb hml hrt hown hlk hts hK hSt hN hl hP hS)
theorem z_icmp_ne {a b : Int32} {off : Int} (tgt : Nat) (hd : decode cc pc = .ok (.if_icmp .ne off, 3)) (ht : (pc : Int) + off = (tgt : Int)) (kt : ¬ a = b → zV l G (y, cc, nL, ret) d rv Q tgt lv st mm) (kf : a = b → zV l G (y, cc, nL, ret) d rv Q (pc + 3) lv st mm) : zV l G (y, cc, nL, ret) d rv Q pc lv (.int b :: .int a :: st) mm := by
  intro p e s m args below meth c H locs ls hx hb hml hrt hown hlk hts hK hSt hN hl hP hS
  exact lv_icmp_ne hx hb hd ht (fun h => kt h p e s m args below meth c H locs ls hx hb hml hrt hown hlk hts hK hSt hN hl hP hS) (fun h => kf h p e s m args below meth c H locs ls hx hb hml hrt hown hlk hts hK hSt hN hl hP hS)
theorem z_icmp_lt {a b : Int32} {off : Int} (tgt : Nat) (hd : decode cc pc = .ok (.if_icmp .lt off, 3)) (ht : (pc : Int) + off = (tgt : Int)) (kt : a < b → zV l G (y, cc, nL, ret) d rv Q tgt lv st mm) (kf : ¬ a < b → zV l G (y, cc, nL, ret) d rv Q (pc + 3) lv st mm) : zV l G (y, cc, nL, ret) d rv Q pc lv (.int b :: .int a :: st) mm := by
  intro p e s m args below meth c H locs ls hx hb hml hrt hown hlk hts hK hSt hN hl hP hS
  exact lv_icmp_lt hx hb hd ht (fun h => kt h p e s m args below meth c H locs ls hx hb hml hrt hown hlk hts hK hSt hN hl hP hS) (fun h => kf h p e s m args below meth c H locs ls hx hb hml hrt hown hlk hts hK hSt hN hl hP hS)
theorem z_icmp_ge {a b : Int32} {off : Int} (tgt : Nat) (hd : decode cc pc = .ok (.if_icmp .ge off, 3)) (ht : (pc : Int) + off = (tgt : Int)) (kt : b ≤ a → zV l G (y, cc, nL, ret) d rv Q tgt lv st mm) (kf : ¬ b ≤ a → zV l G (y, cc, nL, ret) d rv Q (pc + 3) lv st mm) : zV l G (y, cc, nL, ret) d rv Q pc lv (.int b :: .int a :: st) mm := by
  intro p e s m args below meth c H locs ls hx hb hml hrt hown hlk hts hK hSt hN hl hP hS
  exact lv_icmp_ge hx hb hd ht (fun h => kt h p e s m args below meth c H locs ls hx hb hml hrt hown hlk hts hK hSt hN hl hP hS) (fun h => kf h p e s m args below meth c H locs ls hx hb hml hrt hown hlk hts hK hSt hN hl hP hS)
theorem z_icmp_gt {a b : Int32} {off : Int} (tgt : Nat) (hd : decode cc pc = .ok (.if_icmp .gt off, 3)) (ht : (pc : Int) + off = (tgt : Int)) (kt : b < a → zV l G (y, cc, nL, ret) d rv Q tgt lv st mm) (kf : ¬ b < a → zV l G (y, cc, nL, ret) d rv Q (pc + 3) lv st mm) : zV l G (y, cc, nL, ret) d rv Q pc lv (.int b :: .int a :: st) mm := by
  intro p e s m args below meth c H locs ls hx hb hml hrt hown hlk hts hK hSt hN hl hP hS
  exact lv_icmp_gt hx hb hd ht (fun h => kt h p e s m args below meth c H locs ls hx hb hml hrt hown hlk hts hK hSt hN hl hP hS) (fun h => kf h p e s m args below meth c H locs ls hx hb hml hrt hown hlk hts hK hSt hN hl hP hS)
theorem z_icmp_le {a b : Int32} {off : Int} (tgt : Nat) (hd : decode cc pc = .ok (.if_icmp .le off, 3)) (ht : (pc : Int) + off = (tgt : Int)) (kt : a ≤ b → zV l G (y, cc, nL, ret) d rv Q tgt lv st mm) (kf : ¬ a ≤ b → zV l G (y, cc, nL, ret) d rv Q (pc + 3) lv st mm) : zV l G (y, cc, nL, ret) d rv Q pc lv (.int b :: .int a :: st) mm := by
  intro p e s m args below meth c H locs ls hx hb hml hrt hown hlk hts hK hSt hN hl hP hS
  exact lv_icmp_le hx hb hd ht (fun h => kt h p e s m args below meth c H locs ls hx hb hml hrt hown hlk hts hK hSt hN hl hP hS) (fun h => kf h p e s m args below meth c H locs ls hx hb hml hrt hown hlk hts hK hSt hN hl hP hS)
theorem z_if_eq {a : Int32} {off : Int} (tgt : Nat) (hd : decode cc pc = .ok (.ifCond .eq off, 3)) (ht : (pc : Int) + off = (tgt : Int)) (kt : a = 0 → zV l G (y, cc, nL, ret) d rv Q tgt lv st mm) (kf : ¬ a = 0 → zV l G (y, cc, nL, ret) d rv Q (pc + 3) lv st mm) : zV l G (y, cc, nL, ret) d rv Q pc lv (.int a :: st) mm := by
  intro p e s m args below meth c H locs ls hx hb hml hrt hown hlk hts hK hSt hN hl hP hS
  exact lv_if_eq hx hb hd ht (fun h => kt h p e s m args below meth c H locs ls hx hb hml hrt hown hlk hts hK hSt hN hl hP hS) (fun h => kf h p e s m args below meth c H locs ls hx hb hml hrt hown hlk hts hK hSt hN hl hP hS)
theorem z_if_ne {a : Int32} {off : Int} (tgt : Nat) (hd : decode cc pc = .ok (.ifCond .ne off, 3)) (ht : (pc : Int) + off = (tgt : Int)) (kt : ¬ a = 0 → zV l G (y, cc, nL, ret) d rv Q tgt lv st mm) (kf : a = 0 → zV l G (y, cc, nL, ret) d rv Q (pc + 3) lv st mm) : zV l G (y, cc, nL, ret) d rv Q pc lv (.int a :: st) mm := by
  intro p e s m args below meth c H locs ls hx hb hml hrt hown hlk hts hK hSt hN hl hP hS
  exact lv_if_ne hx hb hd ht (fun h => kt h p e s m args below meth c H locs ls hx hb hml hrt hown hlk hts hK hSt hN hl hP hS) (fun h => kf h p e s m args below meth c H locs ls hx hb hml hrt hown hlk hts hK hSt hN hl hP hS)
theorem z_if_lt {a : Int32} {off : Int} (tgt : Nat) (hd : decode cc pc = .ok (.ifCond .lt off, 3)) (ht : (pc : Int) + off = (tgt : Int)) (kt : a < 0 → zV l G (y, cc, nL, ret) d rv Q tgt lv st mm) (kf : ¬ a < 0 → zV l G (y, cc, nL, ret) d rv Q (pc + 3) lv st mm) : zV l G (y, cc, nL, ret) d rv Q pc lv (.int a :: st) mm := by
  intro p e s m args below meth c H locs ls hx hb hml hrt hown hlk hts hK hSt hN hl hP hS
  exact lv_if_lt hx hb hd ht (fun h => kt h p e s m args below meth c H locs ls hx hb hml hrt hown hlk hts hK hSt hN hl hP hS) (fun h => kf h p e s m args below meth c H locs ls hx hb hml hrt hown hlk hts hK hSt hN hl hP hS)
theorem z_if_ge {a : Int32} {off : Int} (tgt : Nat) (hd : decode cc pc = .ok (.ifCond .ge off, 3)) (ht : (pc : Int) + off = (tgt : Int)) (kt : 0 ≤ a → zV l G (y, cc, nL, ret) d rv Q tgt lv st mm) (kf : ¬ 0 ≤ a → zV l G (y, cc, nL, ret) d rv Q (pc + 3) lv st mm) : zV l G (y, cc, nL, ret) d rv Q pc lv (.int a :: st) mm := by
  intro p e s m args below meth c H locs ls hx hb hml hrt hown hlk hts hK hSt hN hl hP hS
  exact lv_if_ge hx hb hd ht (fun h => kt h p e s m args below meth c H locs ls hx hb hml hrt hown hlk hts hK hSt hN hl hP hS) (fun h => kf h p e s m args below meth c H locs ls hx hb hml hrt hown hlk hts hK hSt hN hl hP hS)
theorem z_if_le {a : Int32} {off : Int} (tgt : Nat) (hd : decode cc pc = .ok (.ifCond .le off, 3)) (ht : (pc : Int) + off = (tgt : Int)) (kt : a ≤ 0 → zV l G (y, cc, nL, ret) d rv Q tgt lv st mm) (kf : ¬ a ≤ 0 → zV l G (y, cc, nL, ret) d rv Q (pc + 3) lv st mm) : zV l G (y, cc, nL, ret) d rv Q pc lv (.int a :: st) mm := by
  intro p e s m args below meth c H locs ls hx hb hml hrt hown hlk hts hK hSt hN hl hP hS
  exact lv_if_le hx hb hd ht (fun h => kt h p e s m args below meth c H locs ls hx hb hml hrt hown hlk hts hK hSt hN hl hP hS) (fun h => kf h p e s m args below meth c H locs ls hx hb hml hrt hown hlk hts hK hSt hN hl hP hS)
theorem z_ifnull {a : Nat} {off : Int} (hd : decode cc pc = .ok (.ifnull off, 3)) (k : zV l G (y, cc, nL, ret) d rv Q (pc + 3) lv st mm) : zV l G (y, cc, nL, ret) d rv Q pc lv (.ref a :: st) mm := by
  intro p e s m args below meth c H locs ls hx hb hml hrt hown hlk hts hK hSt hN hl hP hS
  exact lv_ifnull hx hb hd (k p e s m args below meth c H locs ls hx hb hml hrt hown hlk hts hK hSt hN hl hP hS)
theorem z_ifnullN {off : Int} (tgt : Nat) (hd : decode cc pc = .ok (.ifnull off, 3)) (ht : (pc : Int) + off = (tgt : Int)) (k : zV l G (y, cc, nL, ret) d rv Q tgt lv st mm) : zV l G (y, cc, nL, ret) d rv Q pc lv (.null :: st) mm := by
  intro p e s m args below meth c H locs ls hx hb hml hrt hown hlk hts hK hSt hN hl hP hS
  exact lv_ifnullN hx hb hd ht (k p e s m args below meth c H locs ls hx hb hml hrt hown hlk hts hK hSt hN hl hP hS)
theorem z_ifnonnull {a : Nat} {off : Int} (tgt : Nat) (hd : decode cc pc = .ok (.ifnonnull off, 3)) (ht : (pc : Int) + off = (tgt : Int)) (k : zV l G (y, cc, nL, ret) d rv Q tgt lv st mm) : zV l G (y, cc, nL, ret) d rv Q pc lv (.ref a :: st) mm := by
  intro p e s m args below meth c H locs ls hx hb hml hrt hown hlk hts hK hSt hN hl hP hS
  exact lv_ifnonnull hx hb hd ht (k p e s m args below meth c H locs ls hx hb hml hrt hown hlk hts hK hSt hN hl hP hS)
theorem z_ifnonnullN {off : Int} (hd : decode cc pc = .ok (.ifnonnull off, 3)) (k : zV l G (y, cc, nL, ret) d rv Q (pc + 3) lv st mm) : zV l G (y, cc, nL, ret) d rv Q pc lv (.null :: st) mm := by
  intro p e s m args below meth c H locs ls hx hb hml hrt hown hlk hts hK hSt hN hl hP hS
  exact lv_ifnonnullN hx hb hd (k p e s m args below meth c H locs ls hx hb hml hrt hown hlk hts hK hSt hN hl hP hS)
theorem z_tableOut {dflt lo hi : Int} {offs : Array Int} {len : Nat} {x : Int32} (tgt : Nat) (hd : decode cc pc = .ok (.tableswitch dflt lo hi offs, len)) (h : x.toInt < lo ∨ hi < x.toInt) (ht : (pc : Int) + dflt = (tgt : Int)) (k : zV l G (y, cc, nL, ret) d rv Q tgt lv st mm) : zV l G (y, cc, nL, ret) d rv Q pc lv (.int x :: st) mm := by
  intro p e s m args below meth c H locs ls hx hb hml hrt hown hlk hts hK hSt hN hl hP hS
  exact lv_tableOut hx hb hd h ht (k p e s m args below meth c H locs ls hx hb hml hrt hown hlk hts hK hSt hN hl hP hS)
theorem z_tableIn {dflt lo hi : Int} {offs : Array Int} {len : Nat} {x : Int32} {off : Int} (tgt : Nat) (hd : decode cc pc = .ok (.tableswitch dflt lo hi offs, len)) (h1 : ¬ x.toInt < lo) (h2 : ¬ hi < x.toInt) (ho : offs[(x.toInt - lo).toNat]? = some off) (ht : (pc : Int) + off = (tgt : Int)) (k : zV l G (y, cc, nL, ret) d rv Q tgt lv st mm) : zV l G (y, cc, nL, ret) d rv Q pc lv (.int x :: st) mm := by
  intro p e s m args below meth c H locs ls hx hb hml hrt hown hlk hts hK hSt hN hl hP hS
  exact lv_tableIn hx hb hd h1 h2 ho ht (k p e s m args below meth c H locs ls hx hb hml hrt hown hlk hts hK hSt hN hl hP hS)
theorem z_lookup {dflt : Int} {ps : Array (Int × Int)} {len : Nat} {x : Int32} {off : Int} (tgt : Nat) (hd : decode cc pc = .ok (.lookupswitch dflt ps, len)) (hp : (ps.toList.zip (ps.toList.drop 1)).all (fun (a, next) => a.1 < next.1) = true) (ho : Op.lookupswitch.offset ps.toList dflt x.toInt = off) (ht : (pc : Int) + off = (tgt : Int)) (k : zV l G (y, cc, nL, ret) d rv Q tgt lv st mm) : zV l G (y, cc, nL, ret) d rv Q pc lv (.int x :: st) mm := by
  intro p e s m args below meth c H locs ls hx hb hml hrt hown hlk hts hK hSt hN hl hP hS
  exact lv_lookup hx hb hd hp ho ht (k p e s m args below meth c H locs ls hx hb hml hrt hown hlk hts hK hSt hN hl hP hS)
/-! the memory -/
theorem z_pl {a : Nat} (ha : a ∈ zL G) : ∃ q0 : Nat, (va_pl (zL G) (zF G mm))[q0]? = some (a, zF G mm a) := va_pl_get (X := []) ha
theorem z_pl_set {a q0 : Nat} {e : va_E} {g : Nat → va_E} (hN : (zL G).Nodup) (ha : a ∈ zL G) (hq : (va_pl (zL G) (zF G mm))[q0]? = some (a, zF G mm a)) (hg : ∀ b, va_up (zF G mm) a e b = g b) : (va_pl (zL G) (zF G mm)).set q0 (a, e) = va_pl (zL G) g :=
  (va_pl_set (X := []) (zD hN _) ha hq).trans (va_pl_congr hg)
theorem z_get {C : String} {T : u_T} {N ci ix k a : Nat} {own : String} {v : Value} (hin : ∀ w ∈ u_ws C T N, w ∈ zU) (hc : vwCl[ci]? = some (C, T, N)) (hci : ci < 8) (hk : k < N) (hself : (T k).1 = C) (ho : own = y.cls) (hlink : Cond.fieldLink own ix C (T k).2.1 (T k).2.2.1 ∈ zU) (ha : a ∈ zL G) (hsh : zsh G a = (ci, N)) (hv : mm a k = v) (hd : decode cc pc = .ok (.getfield ix, 3)) (kk : zV l G (y, cc, nL, ret) d rv Q (pc + 3) lv (v :: st) mm) : zV l G (y, cc, nL, ret) d rv Q pc lv (.ref a :: st) mm := by
  intro p e s m args below meth c H locs ls hx hb hml hrt hown hlk hts hK hSt hN hl hP hS
  subst ho
  obtain ⟨q0, he⟩ := z_pl (mm := mm) ha
  rw [zF_obj hsh hci] at he
  exact va_get hx hb hts hin hown hK hP q0 he hc k hk (hts _ hlink) (fun x h => by rw [hself] at h; exact h) (by simp [hk, hv]) hd (kk p e s m args below meth c H locs ls hx hb hml hrt hown hlk hts hK hSt hN hl hP hS)
theorem z_put {C : String} {T : u_T} {N ci ix k a : Nat} {own : String} {v : Value} {ty0 : Nat → FieldType} {ty : FieldType} (hin : ∀ w ∈ u_ws C T N, w ∈ zU) (hty : ∀ k, k < N → parseFieldDescriptor (T k).2.2.1 = some (ty0 k)) (hnm : ∀ a, a < N → ∀ b, b < N → a ≠ b → (T a).2.1 ≠ (T b).2.1) (hc : vwCl[ci]? = some (C, T, N)) (hci : ci < 8) (hk : k < N) (hself : (T k).1 = C) (hfin : (T k).2.2.2 = false) (hds : parseFieldDescriptor (T k).2.2.1 = some ty) (hn : narrow ty v = v) (hfit : fits ty v = true) (ho : own = y.cls) (hlink : Cond.fieldLink own ix C (T k).2.1 (T k).2.2.1 ∈ zU) (ha : a ∈ zL G) (hsh : zsh G a = (ci, N)) (hd : decode cc pc = .ok (.putfield ix, 3)) (kk : zV l G (y, cc, nL, ret) d rv Q (pc + 3) lv st (zup mm a k v)) : zV l G (y, cc, nL, ret) d rv Q pc lv (v :: .ref a :: st) mm := by
  intro p e s m args below meth c H locs ls hx hb hml hrt hown hlk hts hK hSt hN hl hP hS
  subst ho
  obtain ⟨q0, he⟩ := z_pl (mm := mm) ha
  have he1 := he
  rw [zF_obj hsh hci] at he1
  refine va_put hx hb hts hin ty0 hty hnm hown hK hP (zD hN.1 _) hS q0 he1 hc k hk (hts _ hlink) (fun x h => by rw [hself] at h; exact h) hfin hds hn hfit (by simpa using hk) hd (fun H1 locs1 hP1 _ hS1 => ?_)
  rw [z_pl_set hN.1 ha he (zF_put hsh hci v)] at hP1
  exact kk p e s m args below meth c H1 locs1 ls hx hb hml hrt hown hlk hts hK hSt hN hl hP1 hS1
theorem z_iald {a n N : Nat} {i x : Int32} (ha : a ∈ zL G) (hsh : zsh G a = (9, N)) (hi : i = nI n) (hn : n < N) (hN31 : N < 2 ^ 31) (hv : mm a n = .int x) (hd : decode cc pc = .ok (.iaload, 1)) (kk : zV l G (y, cc, nL, ret) d rv Q (pc + 1) lv (.int x :: st) mm) : zV l G (y, cc, nL, ret) d rv Q pc lv (.int i :: .ref a :: st) mm := by
  intro p e s m args below meth c H locs ls hx hb hml hrt hown hlk hts hK hSt hN hl hP hS
  subst hi
  obtain ⟨q0, he⟩ := z_pl (mm := mm) ha
  rw [zF_int hsh (by decide) (by decide)] at he
  refine va_iald hx hb hK hP q0 1 he rfl (nI_in hn hN31) hd ?_
  rw [nI_clamp (by omega), hv]
  exact kk p e s m args below meth c H locs ls hx hb hml hrt hown hlk hts hK hSt hN hl hP hS
theorem z_cald {a n N : Nat} {i x : Int32} (ha : a ∈ zL G) (hsh : zsh G a = (8, N)) (hi : i = nI n) (hn : n < N) (hN31 : N < 2 ^ 31) (hv : mm a n = .int x) (hd : decode cc pc = .ok (.caload, 1)) (kk : zV l G (y, cc, nL, ret) d rv Q (pc + 1) lv (.int x :: st) mm) : zV l G (y, cc, nL, ret) d rv Q pc lv (.int i :: .ref a :: st) mm := by
  intro p e s m args below meth c H locs ls hx hb hml hrt hown hlk hts hK hSt hN hl hP hS
  subst hi
  obtain ⟨q0, he⟩ := z_pl (mm := mm) ha
  rw [zF_int hsh (by decide) (by decide)] at he
  refine va_cald hx hb hK hP q0 0 he rfl (nI_in hn hN31) hd ?_
  rw [nI_clamp (by omega), hv]
  exact kk p e s m args below meth c H locs ls hx hb hml hrt hown hlk hts hK hSt hN hl hP hS
theorem z_alen {a N k t0 : Nat} {ty : FieldType} (v : Int32) (ha : a ∈ zL G) (hsh : zsh G a = (k, N)) (hk : 8 ≤ k) (ht : (zT G)[t0]? = some (G.2.1 k, ty)) (hv : Int32.ofNat N = v) (hd : decode cc pc = .ok (.arraylength, 1)) (kk : zV l G (y, cc, nL, ret) d rv Q (pc + 1) lv (.int v :: st) mm) : zV l G (y, cc, nL, ret) d rv Q pc lv (.ref a :: st) mm := by
  intro p e s m args below meth c H locs ls hx hb hml hrt hown hlk hts hK hSt hN hl hP hS
  obtain ⟨q0, he⟩ := z_pl (mm := mm) ha
  by_cases h10 : k < 10
  · rw [zF_int hsh hk h10] at he
    exact va_alen hx hb hK hP q0 t0 he ht hv hd (kk p e s m args below meth c H locs ls hx hb hml hrt hown hlk hts hK hSt hN hl hP hS)
  · rw [zF_ref hsh (by omega)] at he
    exact va_alen hx hb hK hP q0 t0 he ht hv hd (kk p e s m args below meth c H locs ls hx hb hml hrt hown hlk hts hK hSt hN hl hP hS)
theorem z_aald {a n N k t0 b : Nat} {C : String} {i : Int32} (ha : a ∈ zL G) (hsh : zsh G a = (k, N)) (hk : 10 ≤ k) (ht : (zT G)[t0]? = some (G.2.1 k, .object C)) (hi : i = nI n) (hn : n < N) (hN31 : N < 2 ^ 31) (hv : mm a n = .ref b) (hd : decode cc pc = .ok (.aaload, 1)) (kk : zV l G (y, cc, nL, ret) d rv Q (pc + 1) lv (.ref b :: st) mm) : zV l G (y, cc, nL, ret) d rv Q pc lv (.int i :: .ref a :: st) mm := by
  intro p e s m args below meth c H locs ls hx hb hml hrt hown hlk hts hK hSt hN hl hP hS
  subst hi
  obtain ⟨q0, he⟩ := z_pl (mm := mm) ha
  rw [zF_ref hsh hk] at he
  refine va_aldq hx hb hK hP q0 t0 he ht (nI_in hn hN31) hd ?_
  rw [nI_clamp (by omega), hv]
  exact kk p e s m args below meth c H locs ls hx hb hml hrt hown hlk hts hK hSt hN hl hP hS
theorem z_iast {a n N : Nat} {i x : Int32} (ha : a ∈ zL G) (hsh : zsh G a = (9, N)) (hi : i = nI n) (hn : n < N) (hN31 : N < 2 ^ 31) (hd : decode cc pc = .ok (.iastore, 1)) (kk : zV l G (y, cc, nL, ret) d rv Q (pc + 1) lv st (zup mm a n (.int x))) : zV l G (y, cc, nL, ret) d rv Q pc lv (.int x :: .int i :: .ref a :: st) mm := by
  intro p e s m args below meth c H locs ls hx hb hml hrt hown hlk hts hK hSt hN hl hP hS
  subst hi
  obtain ⟨q0, he⟩ := z_pl (mm := mm) ha
  have he1 := he
  rw [zF_int hsh (by decide) (by decide)] at he1
  refine va_iast hx hb hK hP (zD hN.1 _) hS q0 1 he1 rfl (nI_in hn hN31) hd (fun H1 locs1 hP1 _ hS1 => ?_)
  rw [nI_clamp (by omega)] at hP1
  rw [z_pl_set hN.1 ha he (zF_putI hsh (by decide) (by decide) x)] at hP1
  exact kk p e s m args below meth c H1 locs1 ls hx hb hml hrt hown hlk hts hK hSt hN hl hP1 hS1
theorem z_aast {a n N k t0 b ci nb : Nat} {C : String} {T : u_T} {Nc : Nat} {i : Int32} (ha : a ∈ zL G) (hsh : zsh G a = (k, N)) (hk : 10 ≤ k) (ht : (zT G)[t0]? = some (G.2.1 k, .object C)) (hb2 : b ∈ zL G) (hshb : zsh G b = (ci, nb)) (hci : ci < 8) (hc : vwCl[ci]? = some (C, T, Nc)) (hi : i = nI n) (hn : n < N) (hN31 : N < 2 ^ 31) (hd : decode cc pc = .ok (.aastore, 1)) (kk : zV l G (y, cc, nL, ret) d rv Q (pc + 1) lv st (zup mm a n (.ref b))) : zV l G (y, cc, nL, ret) d rv Q pc lv (.ref b :: .int i :: .ref a :: st) mm := by
  intro p e s m args below meth c H locs ls hx hb hml hrt hown hlk hts hK hSt hN hl hP hS
  subst hi
  obtain ⟨q0, he⟩ := z_pl (mm := mm) ha
  obtain ⟨q1, he2⟩ := z_pl (mm := mm) hb2
  rw [zF_obj hshb hci] at he2
  have he1 := he
  rw [zF_ref hsh hk] at he1
  refine va_astq (r := (C, T, Nc)) hx hb hK hP (zD hN.1 _) hS q0 t0 q1 ci he1 ht he2 hc (nI_in hn hN31) hd (fun H1 locs1 hP1 _ hS1 => ?_)
  rw [nI_clamp (by omega)] at hP1
  rw [z_pl_set hN.1 ha he (zF_putR hsh hk b)] at hP1
  exact kk p e s m args below meth c H1 locs1 ls hx hb hml hrt hown hlk hts hK hSt hN hl hP1 hS1
/-! the two tables -/
theorem z_getsL {ix : Nat} {own : String} (ho : own = y.cls) (hlink : Cond.fieldLinkNest own ix "RightsDesk" "LEAST_NUMBERS" "[I" "RightsDesk" ∈ zN) (hd : decode cc pc = .ok (.getstatic ix, 3)) (kk : zV l G (y, cc, nL, ret) d rv Q (pc + 3) lv (.ref G.2.2.2.2.1 :: st) mm) : zV l G (y, cc, nL, ret) d rv Q pc lv st mm := by
  intro p e s m args below meth c H locs ls hx hb hml hrt hown hlk hts hK hSt hN hl hP hS
  subst ho
  exact va_getsN hx hb hSt.1.1 hS hown (va_Nw.use rfl (hN.2 _ hlink)) (fun _ h => h) hd (kk p e s m args below meth c H locs ls hx hb hml hrt hown hlk hts hK hSt hN hl hP hS)
theorem z_getsM {ix : Nat} {own : String} (ho : own = y.cls) (hlink : Cond.fieldLinkNest own ix "RightsDesk" "MOST_NUMBERS" "[I" "RightsDesk" ∈ zN) (hd : decode cc pc = .ok (.getstatic ix, 3)) (kk : zV l G (y, cc, nL, ret) d rv Q (pc + 3) lv (.ref G.2.2.2.2.2 :: st) mm) : zV l G (y, cc, nL, ret) d rv Q pc lv st mm := by
  intro p e s m args below meth c H locs ls hx hb hml hrt hown hlk hts hK hSt hN hl hP hS
  subst ho
  exact va_getsN hx hb hSt.2.1 hS hown (va_Nw.use rfl (hN.2 _ hlink)) (fun _ h => h) hd (kk p e s m args below meth c H locs ls hx hb hml hrt hown hlk hts hK hSt hN hl hP hS)
theorem z_ialdL {i : Int32} {n : Nat} (hi : i = nI n) (hn : n < 4) (hd : decode cc pc = .ok (.iaload, 1)) (kk : zV l G (y, cc, nL, ret) d rv Q (pc + 1) lv (.int (zLow n) :: st) mm) : zV l G (y, cc, nL, ret) d rv Q pc lv (.int i :: .ref G.2.2.2.2.1 :: st) mm := by
  intro p e s m args below meth c H locs ls hx hb hml hrt hown hlk hts hK hSt hN hl hP hS
  subst hi
  exact va_ti hx hb hSt.1.2 hS (nI_in hn (by decide)) (by rw [nI_clamp (by omega)]) hd (kk p e s m args below meth c H locs ls hx hb hml hrt hown hlk hts hK hSt hN hl hP hS)
theorem z_ialdM {i : Int32} {n : Nat} (hi : i = nI n) (hn : n < 4) (hd : decode cc pc = .ok (.iaload, 1)) (kk : zV l G (y, cc, nL, ret) d rv Q (pc + 1) lv (.int (zHigh n) :: st) mm) : zV l G (y, cc, nL, ret) d rv Q pc lv (.int i :: .ref G.2.2.2.2.2 :: st) mm := by
  intro p e s m args below meth c H locs ls hx hb hml hrt hown hlk hts hK hSt hN hl hP hS
  subst hi
  exact va_ti hx hb hSt.2.2 hS (nI_in hn (by decide)) (by rw [nI_clamp (by omega)]) hd (kk p e s m args below meth c H locs ls hx hb hml hrt hown hlk hts hK hSt hN hl hP hS)
/-! Math -/
theorem z_max {ix : Nat} {own : String} {a b : Int32} (ho : own = y.cls) (hlink : Cond.methodLink own ix Lib.Math.max.name ∈ zU) (hd0 : 0 < d) (hW : (st.map fun v => v.category).sum ≤ 8) (hd : decode cc pc = .ok (.invokestatic ix, 3)) (kk : zV l G (y, cc, nL, ret) d rv Q (pc + 3) lv (.int (if a < b then b else a) :: st) mm) : zV l G (y, cc, nL, ret) d rv Q pc lv (.int b :: .int a :: st) mm := by
  intro p e s m args below meth c H locs ls hx hb hml hrt hown hlk hts hK hSt hN hl hP hS
  subst ho
  exact va_mmax hx hb (hml.trans hl.1.symm) hown (hts _ hlink) (hts _ zmath_max.1) (hts _ zmath_ini) (hts _ zmath_max.2) (show 1 ≤ (zR d).frames from hd0) (by show _ ≤ 40 * d; omega) (Nat.le_refl _) (Nat.le_refl _) hd (kk p e s m args below meth c H locs ls hx hb hml hrt hown hlk hts hK hSt hN hl hP hS)
theorem z_min {ix : Nat} {own : String} {a b : Int32} (ho : own = y.cls) (hlink : Cond.methodLink own ix Lib.Math.min.name ∈ zU) (hd0 : 0 < d) (hW : (st.map fun v => v.category).sum ≤ 8) (hd : decode cc pc = .ok (.invokestatic ix, 3)) (kk : zV l G (y, cc, nL, ret) d rv Q (pc + 3) lv (.int (if b < a then b else a) :: st) mm) : zV l G (y, cc, nL, ret) d rv Q pc lv (.int b :: .int a :: st) mm := by
  intro p e s m args below meth c H locs ls hx hb hml hrt hown hlk hts hK hSt hN hl hP hS
  subst ho
  exact va_mmin hx hb (hml.trans hl.1.symm) hown (hts _ hlink) (hts _ zmath_min.1) (hts _ zmath_ini) (hts _ zmath_min.2) (show 1 ≤ (zR d).frames from hd0) (by show _ ≤ 40 * d; omega) (Nat.le_refl _) (Nat.le_refl _) hd (kk p e s m args below meth c H locs ls hx hb hml hrt hown hlk hts hK hSt hN hl hP hS)
end ZR
/-! calls -/
theorem z_blind {G : zG} {mm : zM} {As : List Value} : FrameBlind (va_Pc As (zW G mm)) := fun a U g mk h => ⟨h.1, h.2.1, va_K.moved (u := U) (U := U.calling g mk a) (Vm.Alike.refl U.vm) h.2.2.1, zStat.moved (u := U) (U := U.calling g mk a) (Vm.Alike.refl U.vm) h.2.2.2.1, h.2.2.2.2.1, zNest.same (u := U) (U := U.calling g mk a) rfl h.2.2.2.2.2⟩
theorem z_callW {p : Program} {l : Launch} {e : Env} {R : Room} {s : State} {m : MethodId} {args : Array Value} {below : List Frame} {meth : Method} {c : Code} {H : Heap} {locs : List Loc} {Q : State → Prop} {G : zG} {pc : Nat} {ls : Array Slot} {rest st0 : List Value} {a : Array Value} {rv2 : Option Value} {Q2 : zM → Prop}
    (hr : va_Run p l e R s m args below meth c H locs 0 0 0 0 (F0 m pc ls st0) rest (zQ G rv2 Q2 a) (zA G)) (hS : va_S (zA G) s.heap H locs)
    (kk : ∀ (m' : zM) (H1 : Heap) (locs1 : List Loc), Q2 m' → va_P G.1 vwCl (va_pl (zL G) (zF G m')) H1 → va_S (zA G) s.heap H1 locs1 → W p l e R s m args below meth c H1 locs1 0 0 Q (F0 m (pc + 3) ls (rv2.toList ++ rest))) : W p l e R s m args below meth c H locs 0 0 Q (F0 m pc ls st0) := by
  intro T hT X
  obtain ⟨v, st₀, t, T', L, h0, X', hL, e1, e2, ⟨⟨hv, m', hq, hPw, -⟩, hz, hk⟩, st⟩ := hr T hT X
  cases hv
  rw [h0] at hz hk
  obtain ⟨t2, a1, b1⟩ := kk m' T'.heap (locs ++ L) hq (by rw [e1]; exact hPw)
    ⟨Nat.le_trans hS.1 (by rw [e1]; exact hz), fun q h1 h2 => by rw [e1, hk q (Nat.lt_of_lt_of_le h1 hS.1) h2]; exact hS.2.1 q h1 h2, fun q hq => by
      rcases List.mem_append.mp hq with h | h
      · exact hS.2.2 q h
      · exact hL q h⟩ T' rfl X'
  exact ⟨t2, st t2 a1, b1⟩
section ZC
variable {l : Launch} {G : zG} {y : MethodName} {cc : ByteArray} {nL : Nat} {ret : Option FieldType} {d : Nat} {rv : Option Value} {Q : zM → Prop} {pc : Nat} {lv : List (Option Value)} {st : List Value} {mm : zM}
variable {y2 : MethodName} {b2 : ByteArray} {n2 d2 np ix : Nat} {r2 : Option FieldType} {rv2 : Option Value} {Q2 : zM → Prop} {own : String}
theorem z_good : GoodIn zU (Cond.code y2 b2 n2 r2 :: zU) ↔ Cond.code y2 b2 n2 r2 ∈ zU :=
  ⟨fun h => (h _ List.mem_cons_self).1, fun h w hw => (List.mem_cons.mp hw).elim (fun e => by subst e; exact ⟨h, zU_good h⟩) (fun h => ⟨h, zU_good h⟩)⟩
theorem z_callV {As : List Value} {a ci N : Nat} {C : String} {T : u_T} (hy : zMV y2 b2 n2 r2 np) (hs : zSem l G (y2, b2, n2, r2) d2 (.ref a :: As) mm rv2 Q2) (ho : own = y.cls) (hlink : Cond.methodLink own ix y2 ∈ zU) (hc : vwCl[ci]? = some (C, T, N)) (hC : C = y2.cls) (hci : ci < 8) (ha : a ∈ zL G) (hsh : zsh G a = (ci, N)) (hd2 : d2 < d) (hnp : As.length = np) (hW : (st.map fun v => v.category).sum ≤ 8) (hd : decode cc pc = .ok (.invokevirtual ix, 3))
    (kk : ∀ m', Q2 m' → zV l G (y, cc, nL, ret) d rv Q (pc + 3) lv (rv2.toList ++ st) m') : zV l G (y, cc, nL, ret) d rv Q pc lv (As.reverse ++ .ref a :: st) mm := by
  intro p e s m args below meth c H locs ls hx hb hml hrt hown hlk hts hK hSt hN hl hP hS
  subst ho
  obtain ⟨h1, h2, h3, h4, h5, h6, h7, h8⟩ := hy
  obtain ⟨q0, he⟩ := z_pl (mm := mm) ha
  rw [zF_obj hsh hci] at he
  have cw : CallW (zR d) s args y.cls y2.cls ix y2 b2 n2 r2 (Cond.code y2 b2 n2 r2 :: zU) (zR d2) 0 0 np := ⟨callB_of np hts (z_good.mpr h2) rfl rfl rfl (hts _ h5) (hts _ hlink) ⟨h6.1, h6.2, h7⟩ ⟨hd2, by show 8 + (n2 + 11) + 40 * d2 ≤ 40 * d; omega⟩, hts _ h3, hts _ h4⟩
  have hrc := va_recv hK hP hc he
  rw [show (C, T, N).1 = y2.cls from hC] at hrc
  exact z_callW (va_runV (As := As) (rest := st) (nL := nL) ⟨hx, hb, hml, hown, hts⟩ hs cw ⟨z_blind, hrc, fun U hU hW => ⟨rfl, by rw [hU]; exact hP, va_K.moved hW.alike hK, by rw [hU]; exact (hSt.kept hS.2.1).moved hW.alike, hN.1, hN.2.warm hW⟩⟩ rfl hnp hl.1 rfl (lv_room hW) hd ⟨Nat.le_refl _, Nat.le_refl _⟩) hS
    (fun m' H1 locs1 hq hP1 hS1 => kk m' hq p e s m args below meth c H1 locs1 ls hx hb hml hrt hown hlk hts hK hSt hN hl hP1 hS1)
theorem z_callS {As : List Value} (hy : zMS y2 b2 n2 r2 np) (hs : zSem l G (y2, b2, n2, r2) d2 As mm rv2 Q2) (ho : own = y.cls) (hlink : Cond.methodLink own ix y2 ∈ zU) (hd2 : d2 < d) (hnp : As.length = np) (hW : (st.map fun v => v.category).sum ≤ 8) (hd : decode cc pc = .ok (.invokestatic ix, 3))
    (kk : ∀ m', Q2 m' → zV l G (y, cc, nL, ret) d rv Q (pc + 3) lv (rv2.toList ++ st) m') : zV l G (y, cc, nL, ret) d rv Q pc lv (As.reverse ++ st) mm := by
  intro p e s m args below meth c H locs ls hx hb hml hrt hown hlk hts hK hSt hN hl hP hS
  subst ho
  obtain ⟨h1, h2, h3, h5, h6, h7, h8⟩ := hy
  exact z_callW (va_runS (As := As) (rest := st) (nL := nL) ⟨hx, hb, hml, hown, hts⟩ hs ⟨callB_of np hts (z_good.mpr h2) rfl rfl rfl (hts _ h5) (hts _ hlink) ⟨h6.1, h6.2, h7⟩ ⟨hd2, by show 8 + (n2 + 11) + 40 * d2 ≤ 40 * d; omega⟩, hts _ h3⟩ ⟨z_blind, fun U hU hW => ⟨rfl, by rw [hU]; exact hP, va_K.moved hW.alike hK, by rw [hU]; exact (hSt.kept hS.2.1).moved hW.alike, hN.1, hN.2.warm hW⟩⟩ rfl hnp hl.1 rfl (lv_room hW) hd ⟨Nat.le_refl _, Nat.le_refl _⟩) hS
    (fun m' H1 locs1 hq hP1 hS1 => kk m' hq p e s m args below meth c H1 locs1 ls hx hb hml hrt hown hlk hts hK hSt hN hl hP1 hS1)
theorem z_callSN {As : List Value} {host : String} (hy : zMS y2 b2 n2 r2 np) (hs : zSem l G (y2, b2, n2, r2) d2 As mm rv2 Q2) (ho : own = y.cls) (hlink : Cond.methodLinkNest own ix y2 host ∈ zN) (hd2 : d2 < d) (hnp : As.length = np) (hW : (st.map fun v => v.category).sum ≤ 8) (hd : decode cc pc = .ok (.invokestatic ix, 3))
    (kk : ∀ m', Q2 m' → zV l G (y, cc, nL, ret) d rv Q (pc + 3) lv (rv2.toList ++ st) m') : zV l G (y, cc, nL, ret) d rv Q pc lv (As.reverse ++ st) mm := by
  intro p e s m args below meth c H locs ls hx hb hml hrt hown hlk hts hK hSt hN hl hP hS
  subst ho
  obtain ⟨h1, h2, h3, h5, h6, h7, h8⟩ := hy
  exact z_callW (va_runSN (As := As) (rest := st) (nL := nL) ⟨hx, hb, hml, hown, hts⟩ hs ⟨va_cnB np hts (z_good.mpr h2) rfl rfl rfl (hN.2 _ hlink) (hts _ h5) ⟨h6.1, h6.2, h7⟩ ⟨hd2, by show 8 + (n2 + 11) + 40 * d2 ≤ 40 * d; omega⟩, hts _ h3, trivial⟩ ⟨z_blind, fun U hU hW => ⟨rfl, by rw [hU]; exact hP, va_K.moved hW.alike hK, by rw [hU]; exact (hSt.kept hS.2.1).moved hW.alike, hN.1, hN.2.warm hW⟩⟩ rfl hnp hl.1 rfl (lv_room hW) hd ⟨Nat.le_refl _, Nat.le_refl _⟩) hS
    (fun m' H1 locs1 hq hP1 hS1 => kk m' hq p e s m args below meth c H1 locs1 ls hx hb hml hrt hown hlk hts hK hSt hN hl hP1 hS1)
end ZC
