theorem rf_inner (c : ClassId) (K : Nat) : Jvm.Free.Multi.innerC c K (defaultValue .long) = vp_cell c (K, .inr (.inl (fun _ => 0))) := by
  show ({ cls := c, slots := Array.replicate K (.long 0), vm := .none } : Cell) = _
  rw [arrV_new]
  rfl
theorem rf_innerI (c : ClassId) (K : Nat) : Jvm.Free.Multi.innerC c K (defaultValue .int) = vp_cell c (K, .inl (fun _ => 0)) := by
  show ({ cls := c, slots := Array.replicate K (.int 0), vm := .none } : Cell) = _
  rw [arrV_new]
  rfl

set_option maxHeartbeats 4000000 in
set_option maxRecDepth 100000 in
theorem c_X0_init (l : Launch) (dC : Nat → ClassId) (dI : Nat → Nat → Nat) (aC : Nat → ClassId) (sz : Nat) (h0 : Nat)  : Met l yX0_init wsX0_init ({ frames := 2, cells := 11, slots := 1033, locals := 40 } : Room) (rf_Pc (dC, dI) aC [.ref h0] [(h0, .inr (2, [.null, .null, .null, .null, .null]))] sz) (va_Qv (fun (u : Unit) => True) (fun (u : Unit) t => va_P (dC, dI) rfCl [] t.heap ∧ va_D (va_A [(h0, .inr (2, [.null, .null, .null, .null, .null]))] sz) []) (va_A [(h0, .inr (2, [.null, .null, .null, .null, .null]))] sz)) 11 1033 (va_A [(h0, .inr (2, [.null, .null, .null, .null, .null]))] sz) := by
  refine Met.ofW (cc := cX0_init) (maxL := 1) (ret := none) (by decide) rfl ?_
  intro p e s m args below meth c s₁ B hml hv
  obtain ⟨rfl, hsz, hP, hKN, hD0⟩ := hv
  obtain ⟨hK, hN⟩ := hKN
  have hx := B.exec
  have hb := B.bytes
  have hr := B.returns
  have hts := atoms_spec (ws := wsX0_init) B.pre
  have hown : s.vm.findClass RX0 = some m.cls := findClass_of_methodNamed B.named
  have hlocks := B.notSynchronized
  have hin : meth.name = "<init>" := (name_of_methodNamed B.named B.method).1
  subst hsz
  have hD := hD0.self (sz := s.heap.size)
  generalize hAe : va_A [(h0, .inr (2, [.null, .null, .null, .null, .null]))] s.heap.size = A at hD ⊢
  have hA : ∀ q : Nat, s.heap.size ≤ q → A q := fun q h => by rw [← hAe]; exact Or.inr h
  have hS : va_S A s.heap s.heap [] := va_S.rf
  have hP : va_P (dC, dI) rfCl [(h0, .inr (2, [.null, .null, .null, .null, .null]))] s.heap := hP
  have hl := lv_entry ([.ref h0]) (n := 1) (Nat.le_of_ble_eq_true rfl)
  rw [lg_entry_eq]
  generalize (lg_sl ([.ref h0]) ++ List.replicate (1 - (lg_sl ([.ref h0])).length) Slot.unset).toArray = ls at hl ⊢
  have hl : lv_has ls 1 [(0, .ref h0)] := hl
  refine lv_aload_n hx hb dX0_init_0 rfl (lv_at hl 0 rfl) ?_
  refine W.objInit hx hb hown (hts (.methodLink RX0 3 objectInit) (by decide +kernel)) (hts (.instanceMethod objectInit) (by decide +kernel)) (hts (.code objectInit ⟨#[0xb1]⟩ 1 none) (by decide +kernel)) rfl (by rw [hml]; exact hl.1) rfl dX0_init_1 (Nat.le_of_ble_eq_true rfl) (Nat.le_of_ble_eq_true rfl) ?_
  refine W.eq (g2 := F0 m 4 ls []) rfl ?_
  refine lv_aload_n hx hb dX0_init_4 rfl (lv_at hl 0 rfl) ?_
  refine va_new (ci := 1) (fs := [.null, .null, .int 0]) (C := RX7) (T := TX7) (N := 3) hx hb hts (by decide +kernel) tyX7 tyX7_ok hown (hts (.classLink RX0 9 RX7) (by decide +kernel)) (hts (.instantiable RX7 3) (by decide +kernel)) (hts (.initialized RX7) (by decide +kernel)) hK hP hD hS hA rfl (fun j hj => by rcases (show j = 0 ∨ j = 1 ∨ j = 2 by omega) with rfl | rfl | rfl <;> rfl) (Nat.le_of_ble_eq_true rfl) (Nat.le_of_ble_eq_true rfl) dX0_init_5 (fun q1 H hP hD hS => ?_)
  have hP : va_P (dC, dI) rfCl [(h0, .inr (2, [.null, .null, .null, .null, .null])), (q1, .inr (1, [.null, .null, .int 0]))] H := hP
  have hD : va_D A [(h0, .inr (2, [.null, .null, .null, .null, .null])), (q1, .inr (1, [.null, .null, .int 0]))] := hD
  refine W.widen (k := 1) (n := 3) (Nat.le_of_ble_eq_true rfl) (Nat.le_of_ble_eq_true rfl) ?_
  refine lv_dup hx hb dX0_init_8 rfl ?_
  have hPc := hP.sub (ws' := [(q1, .inr (1, [.null, .null, .int 0]))]) [1] rfl
  have hDc := hD.sub (ws' := [(q1, .inr (1, [.null, .null, .int 0]))]) [1] (by decide) rfl
  have hFc := va_free (wc := [(q1, .inr (1, [.null, .null, .int 0]))]) hD hS hA [1] rfl
  refine va_callv (va_runIN (As := []) (rest := [.ref q1, .ref h0]) ⟨hx, hb, hml, hown, hts⟩ (c_X7_init l dC dI aC H.size q1) (⟨va_cnB 0 hts (goodIn_sub (by decide +kernel) (by decide +kernel)) rfl rfl rfl (rf_nst hN 3 (q := (RX0, 11, yX7_init, "Transversary")) rfl) (hts (.initialized RX7) (by decide +kernel)) (by decide +kernel) ⟨Nat.le_of_ble_eq_true rfl, Nat.le_of_ble_eq_true rfl⟩, rfl, hts (.instanceMethod yX7_init) (by decide +kernel)⟩) (rf_ps hK hN hPc hDc) rfl rfl hl.1 rfl (lv_room (Nat.le_of_ble_eq_true rfl)) dX0_init_9 ⟨Nat.le_of_ble_eq_true rfl, Nat.le_of_ble_eq_true rfl⟩) hS (fun q _ h => hFc q h) hFc (fun u2 t H1 locs ht hvm hwu2 hB hz1 hk1 hS => ?_)
  obtain ⟨hP1, hD1⟩ := hB
  rw [ht] at hP1
  try dsimp only at hwu2 hP1 hD1
  obtain ⟨hP, hD⟩ := va_join (wr := [(h0, .inr (2, [.null, .null, .null, .null, .null]))]) (w1 := [(q1, .inr (1, [.ref (u2.1), .ref (u2.2), .int 0])), ((u2.1), .inl (aC 0, 128, .inl (fun _ => 0))), ((u2.2), .inl (aC 1, 128, .inl (fun _ => 0)))]) hP hD [1] [0] rfl rfl (by decide) (by decide) hk1 hFc hP1 hD1
  clear hP1 hD1 hPc hDc hFc
  generalize H1 = H at hP hS ⊢
  have hP : va_P (dC, dI) rfCl [(h0, .inr (2, [.null, .null, .null, .null, .null])), (q1, .inr (1, [.ref (u2.1), .ref (u2.2), .int 0])), ((u2.1), .inl (aC 0, 128, .inl (fun _ => 0))), ((u2.2), .inl (aC 1, 128, .inl (fun _ => 0)))] H := hP
  have hD : va_D A [(h0, .inr (2, [.null, .null, .null, .null, .null])), (q1, .inr (1, [.ref (u2.1), .ref (u2.2), .int 0])), ((u2.1), .inl (aC 0, 128, .inl (fun _ => 0))), ((u2.2), .inl (aC 1, 128, .inl (fun _ => 0)))] := hD
  refine W.widen (k := 3) (n := 259) (Nat.le_of_ble_eq_true rfl) (Nat.le_of_ble_eq_true rfl) ?_
  obtain ⟨b4, r5⟩ := u2
  try dsimp only at hP hD
  have hP : va_P (dC, dI) rfCl [(h0, .inr (2, [.null, .null, .null, .null, .null])), (q1, .inr (1, [.ref b4, .ref r5, .int 0])), (b4, .inl (aC 0, 128, .inl (fun _ => 0))), (r5, .inl (aC 1, 128, .inl (fun _ => 0)))] H := hP
  have hD : va_D A [(h0, .inr (2, [.null, .null, .null, .null, .null])), (q1, .inr (1, [.ref b4, .ref r5, .int 0])), (b4, .inl (aC 0, 128, .inl (fun _ => 0))), (r5, .inl (aC 1, 128, .inl (fun _ => 0)))] := hD
  refine va_putF (D := (dC, dI)) (ci := 2) (v := .ref q1) (ty := (.object "Transversary$Sets")) (C := RX0) (T := TX0) (N := 5) hx hb hts (by decide +kernel) tyX0 tyX0_ok nmX0 hown hK hP hD hS 0 rfl rfl 0 (by decide) (hts (.fieldLink RX0 12 "Transversary$Covers" "least" "LTransversary$Sets;") (by decide +kernel)) (fun _ h9 => h9) rfl hin rfl (by decide +kernel) rfl rfl (Nat.le_of_ble_eq_true rfl) dX0_init_12 (fun H locs hP hD hS => ?_)
  have hP : va_P (dC, dI) rfCl [(h0, .inr (2, [.ref q1, .null, .null, .null, .null])), (q1, .inr (1, [.ref b4, .ref r5, .int 0])), (b4, .inl (aC 0, 128, .inl (fun _ => 0))), (r5, .inl (aC 1, 128, .inl (fun _ => 0)))] H := hP
  have hD : va_D A [(h0, .inr (2, [.ref q1, .null, .null, .null, .null])), (q1, .inr (1, [.ref b4, .ref r5, .int 0])), (b4, .inl (aC 0, 128, .inl (fun _ => 0))), (r5, .inl (aC 1, 128, .inl (fun _ => 0)))] := hD
  refine lv_aload_n hx hb dX0_init_15 rfl (lv_at hl 0 rfl) ?_
  refine va_new (ci := 1) (fs := [.null, .null, .int 0]) (C := RX7) (T := TX7) (N := 3) hx hb hts (by decide +kernel) tyX7 tyX7_ok hown (hts (.classLink RX0 9 RX7) (by decide +kernel)) (hts (.instantiable RX7 3) (by decide +kernel)) (hts (.initialized RX7) (by decide +kernel)) hK hP hD hS hA rfl (fun j hj => by rcases (show j = 0 ∨ j = 1 ∨ j = 2 by omega) with rfl | rfl | rfl <;> rfl) (Nat.le_of_ble_eq_true rfl) (Nat.le_of_ble_eq_true rfl) dX0_init_16 (fun q6 H hP hD hS => ?_)
  have hP : va_P (dC, dI) rfCl [(h0, .inr (2, [.ref q1, .null, .null, .null, .null])), (q1, .inr (1, [.ref b4, .ref r5, .int 0])), (b4, .inl (aC 0, 128, .inl (fun _ => 0))), (r5, .inl (aC 1, 128, .inl (fun _ => 0))), (q6, .inr (1, [.null, .null, .int 0]))] H := hP
  have hD : va_D A [(h0, .inr (2, [.ref q1, .null, .null, .null, .null])), (q1, .inr (1, [.ref b4, .ref r5, .int 0])), (b4, .inl (aC 0, 128, .inl (fun _ => 0))), (r5, .inl (aC 1, 128, .inl (fun _ => 0))), (q6, .inr (1, [.null, .null, .int 0]))] := hD
  refine W.widen (k := 4) (n := 262) (Nat.le_of_ble_eq_true rfl) (Nat.le_of_ble_eq_true rfl) ?_
  refine lv_dup hx hb dX0_init_19 rfl ?_
  have hPc := hP.sub (ws' := [(q6, .inr (1, [.null, .null, .int 0]))]) [4] rfl
  have hDc := hD.sub (ws' := [(q6, .inr (1, [.null, .null, .int 0]))]) [4] (by decide) rfl
  have hFc := va_free (wc := [(q6, .inr (1, [.null, .null, .int 0]))]) hD hS hA [4] rfl
  refine va_callv (va_runIN (As := []) (rest := [.ref q6, .ref h0]) ⟨hx, hb, hml, hown, hts⟩ (c_X7_init l dC dI aC H.size q6) (⟨va_cnB 0 hts (goodIn_sub (by decide +kernel) (by decide +kernel)) rfl rfl rfl (rf_nst hN 3 (q := (RX0, 11, yX7_init, "Transversary")) rfl) (hts (.initialized RX7) (by decide +kernel)) (by decide +kernel) ⟨Nat.le_of_ble_eq_true rfl, Nat.le_of_ble_eq_true rfl⟩, rfl, hts (.instanceMethod yX7_init) (by decide +kernel)⟩) (rf_ps hK hN hPc hDc) rfl rfl hl.1 rfl (lv_room (Nat.le_of_ble_eq_true rfl)) dX0_init_20 ⟨Nat.le_of_ble_eq_true rfl, Nat.le_of_ble_eq_true rfl⟩) hS (fun q _ h => hFc q h) hFc (fun u7 t H1 locs ht hvm hwu7 hB hz1 hk1 hS => ?_)
  obtain ⟨hP1, hD1⟩ := hB
  rw [ht] at hP1
  try dsimp only at hwu7 hP1 hD1
  obtain ⟨hP, hD⟩ := va_join (wr := [(h0, .inr (2, [.ref q1, .null, .null, .null, .null])), (q1, .inr (1, [.ref b4, .ref r5, .int 0])), (b4, .inl (aC 0, 128, .inl (fun _ => 0))), (r5, .inl (aC 1, 128, .inl (fun _ => 0)))]) (w1 := [(q6, .inr (1, [.ref (u7.1), .ref (u7.2), .int 0])), ((u7.1), .inl (aC 0, 128, .inl (fun _ => 0))), ((u7.2), .inl (aC 1, 128, .inl (fun _ => 0)))]) hP hD [4] [0, 1, 2, 3] rfl rfl (by decide) (by decide) hk1 hFc hP1 hD1
  clear hP1 hD1 hPc hDc hFc
  generalize H1 = H at hP hS ⊢
  have hP : va_P (dC, dI) rfCl [(h0, .inr (2, [.ref q1, .null, .null, .null, .null])), (q1, .inr (1, [.ref b4, .ref r5, .int 0])), (b4, .inl (aC 0, 128, .inl (fun _ => 0))), (r5, .inl (aC 1, 128, .inl (fun _ => 0))), (q6, .inr (1, [.ref (u7.1), .ref (u7.2), .int 0])), ((u7.1), .inl (aC 0, 128, .inl (fun _ => 0))), ((u7.2), .inl (aC 1, 128, .inl (fun _ => 0)))] H := hP
  have hD : va_D A [(h0, .inr (2, [.ref q1, .null, .null, .null, .null])), (q1, .inr (1, [.ref b4, .ref r5, .int 0])), (b4, .inl (aC 0, 128, .inl (fun _ => 0))), (r5, .inl (aC 1, 128, .inl (fun _ => 0))), (q6, .inr (1, [.ref (u7.1), .ref (u7.2), .int 0])), ((u7.1), .inl (aC 0, 128, .inl (fun _ => 0))), ((u7.2), .inl (aC 1, 128, .inl (fun _ => 0)))] := hD
  refine W.widen (k := 6) (n := 518) (Nat.le_of_ble_eq_true rfl) (Nat.le_of_ble_eq_true rfl) ?_
  obtain ⟨b9, r10⟩ := u7
  try dsimp only at hP hD
  have hP : va_P (dC, dI) rfCl [(h0, .inr (2, [.ref q1, .null, .null, .null, .null])), (q1, .inr (1, [.ref b4, .ref r5, .int 0])), (b4, .inl (aC 0, 128, .inl (fun _ => 0))), (r5, .inl (aC 1, 128, .inl (fun _ => 0))), (q6, .inr (1, [.ref b9, .ref r10, .int 0])), (b9, .inl (aC 0, 128, .inl (fun _ => 0))), (r10, .inl (aC 1, 128, .inl (fun _ => 0)))] H := hP
  have hD : va_D A [(h0, .inr (2, [.ref q1, .null, .null, .null, .null])), (q1, .inr (1, [.ref b4, .ref r5, .int 0])), (b4, .inl (aC 0, 128, .inl (fun _ => 0))), (r5, .inl (aC 1, 128, .inl (fun _ => 0))), (q6, .inr (1, [.ref b9, .ref r10, .int 0])), (b9, .inl (aC 0, 128, .inl (fun _ => 0))), (r10, .inl (aC 1, 128, .inl (fun _ => 0)))] := hD
  refine va_putF (D := (dC, dI)) (ci := 2) (v := .ref q6) (ty := (.object "Transversary$Sets")) (C := RX0) (T := TX0) (N := 5) hx hb hts (by decide +kernel) tyX0 tyX0_ok nmX0 hown hK hP hD hS 0 rfl rfl 1 (by decide) (hts (.fieldLink RX0 18 "Transversary$Covers" "blockers" "LTransversary$Sets;") (by decide +kernel)) (fun _ h9 => h9) rfl hin rfl (by decide +kernel) rfl rfl (Nat.le_of_ble_eq_true rfl) dX0_init_23 (fun H locs hP hD hS => ?_)
  have hP : va_P (dC, dI) rfCl [(h0, .inr (2, [.ref q1, .ref q6, .null, .null, .null])), (q1, .inr (1, [.ref b4, .ref r5, .int 0])), (b4, .inl (aC 0, 128, .inl (fun _ => 0))), (r5, .inl (aC 1, 128, .inl (fun _ => 0))), (q6, .inr (1, [.ref b9, .ref r10, .int 0])), (b9, .inl (aC 0, 128, .inl (fun _ => 0))), (r10, .inl (aC 1, 128, .inl (fun _ => 0)))] H := hP
  have hD : va_D A [(h0, .inr (2, [.ref q1, .ref q6, .null, .null, .null])), (q1, .inr (1, [.ref b4, .ref r5, .int 0])), (b4, .inl (aC 0, 128, .inl (fun _ => 0))), (r5, .inl (aC 1, 128, .inl (fun _ => 0))), (q6, .inr (1, [.ref b9, .ref r10, .int 0])), (b9, .inl (aC 0, 128, .inl (fun _ => 0))), (r10, .inl (aC 1, 128, .inl (fun _ => 0)))] := hD
  refine lv_aload_n hx hb dX0_init_26 rfl (lv_at hl 0 rfl) ?_
  refine va_new (ci := 1) (fs := [.null, .null, .int 0]) (C := RX7) (T := TX7) (N := 3) hx hb hts (by decide +kernel) tyX7 tyX7_ok hown (hts (.classLink RX0 9 RX7) (by decide +kernel)) (hts (.instantiable RX7 3) (by decide +kernel)) (hts (.initialized RX7) (by decide +kernel)) hK hP hD hS hA rfl (fun j hj => by rcases (show j = 0 ∨ j = 1 ∨ j = 2 by omega) with rfl | rfl | rfl <;> rfl) (Nat.le_of_ble_eq_true rfl) (Nat.le_of_ble_eq_true rfl) dX0_init_27 (fun q11 H hP hD hS => ?_)
  have hP : va_P (dC, dI) rfCl [(h0, .inr (2, [.ref q1, .ref q6, .null, .null, .null])), (q1, .inr (1, [.ref b4, .ref r5, .int 0])), (b4, .inl (aC 0, 128, .inl (fun _ => 0))), (r5, .inl (aC 1, 128, .inl (fun _ => 0))), (q6, .inr (1, [.ref b9, .ref r10, .int 0])), (b9, .inl (aC 0, 128, .inl (fun _ => 0))), (r10, .inl (aC 1, 128, .inl (fun _ => 0))), (q11, .inr (1, [.null, .null, .int 0]))] H := hP
  have hD : va_D A [(h0, .inr (2, [.ref q1, .ref q6, .null, .null, .null])), (q1, .inr (1, [.ref b4, .ref r5, .int 0])), (b4, .inl (aC 0, 128, .inl (fun _ => 0))), (r5, .inl (aC 1, 128, .inl (fun _ => 0))), (q6, .inr (1, [.ref b9, .ref r10, .int 0])), (b9, .inl (aC 0, 128, .inl (fun _ => 0))), (r10, .inl (aC 1, 128, .inl (fun _ => 0))), (q11, .inr (1, [.null, .null, .int 0]))] := hD
  refine W.widen (k := 7) (n := 521) (Nat.le_of_ble_eq_true rfl) (Nat.le_of_ble_eq_true rfl) ?_
  refine lv_dup hx hb dX0_init_30 rfl ?_
  have hPc := hP.sub (ws' := [(q11, .inr (1, [.null, .null, .int 0]))]) [7] rfl
  have hDc := hD.sub (ws' := [(q11, .inr (1, [.null, .null, .int 0]))]) [7] (by decide) rfl
  have hFc := va_free (wc := [(q11, .inr (1, [.null, .null, .int 0]))]) hD hS hA [7] rfl
  refine va_callv (va_runIN (As := []) (rest := [.ref q11, .ref h0]) ⟨hx, hb, hml, hown, hts⟩ (c_X7_init l dC dI aC H.size q11) (⟨va_cnB 0 hts (goodIn_sub (by decide +kernel) (by decide +kernel)) rfl rfl rfl (rf_nst hN 3 (q := (RX0, 11, yX7_init, "Transversary")) rfl) (hts (.initialized RX7) (by decide +kernel)) (by decide +kernel) ⟨Nat.le_of_ble_eq_true rfl, Nat.le_of_ble_eq_true rfl⟩, rfl, hts (.instanceMethod yX7_init) (by decide +kernel)⟩) (rf_ps hK hN hPc hDc) rfl rfl hl.1 rfl (lv_room (Nat.le_of_ble_eq_true rfl)) dX0_init_31 ⟨Nat.le_of_ble_eq_true rfl, Nat.le_of_ble_eq_true rfl⟩) hS (fun q _ h => hFc q h) hFc (fun u12 t H1 locs ht hvm hwu12 hB hz1 hk1 hS => ?_)
  obtain ⟨hP1, hD1⟩ := hB
  rw [ht] at hP1
  try dsimp only at hwu12 hP1 hD1
  obtain ⟨hP, hD⟩ := va_join (wr := [(h0, .inr (2, [.ref q1, .ref q6, .null, .null, .null])), (q1, .inr (1, [.ref b4, .ref r5, .int 0])), (b4, .inl (aC 0, 128, .inl (fun _ => 0))), (r5, .inl (aC 1, 128, .inl (fun _ => 0))), (q6, .inr (1, [.ref b9, .ref r10, .int 0])), (b9, .inl (aC 0, 128, .inl (fun _ => 0))), (r10, .inl (aC 1, 128, .inl (fun _ => 0)))]) (w1 := [(q11, .inr (1, [.ref (u12.1), .ref (u12.2), .int 0])), ((u12.1), .inl (aC 0, 128, .inl (fun _ => 0))), ((u12.2), .inl (aC 1, 128, .inl (fun _ => 0)))]) hP hD [7] [0, 1, 2, 3, 4, 5, 6] rfl rfl (by decide) (by decide) hk1 hFc hP1 hD1
  clear hP1 hD1 hPc hDc hFc
  generalize H1 = H at hP hS ⊢
  have hP : va_P (dC, dI) rfCl [(h0, .inr (2, [.ref q1, .ref q6, .null, .null, .null])), (q1, .inr (1, [.ref b4, .ref r5, .int 0])), (b4, .inl (aC 0, 128, .inl (fun _ => 0))), (r5, .inl (aC 1, 128, .inl (fun _ => 0))), (q6, .inr (1, [.ref b9, .ref r10, .int 0])), (b9, .inl (aC 0, 128, .inl (fun _ => 0))), (r10, .inl (aC 1, 128, .inl (fun _ => 0))), (q11, .inr (1, [.ref (u12.1), .ref (u12.2), .int 0])), ((u12.1), .inl (aC 0, 128, .inl (fun _ => 0))), ((u12.2), .inl (aC 1, 128, .inl (fun _ => 0)))] H := hP
  have hD : va_D A [(h0, .inr (2, [.ref q1, .ref q6, .null, .null, .null])), (q1, .inr (1, [.ref b4, .ref r5, .int 0])), (b4, .inl (aC 0, 128, .inl (fun _ => 0))), (r5, .inl (aC 1, 128, .inl (fun _ => 0))), (q6, .inr (1, [.ref b9, .ref r10, .int 0])), (b9, .inl (aC 0, 128, .inl (fun _ => 0))), (r10, .inl (aC 1, 128, .inl (fun _ => 0))), (q11, .inr (1, [.ref (u12.1), .ref (u12.2), .int 0])), ((u12.1), .inl (aC 0, 128, .inl (fun _ => 0))), ((u12.2), .inl (aC 1, 128, .inl (fun _ => 0)))] := hD
  refine W.widen (k := 9) (n := 777) (Nat.le_of_ble_eq_true rfl) (Nat.le_of_ble_eq_true rfl) ?_
  obtain ⟨b14, r15⟩ := u12
  try dsimp only at hP hD
  have hP : va_P (dC, dI) rfCl [(h0, .inr (2, [.ref q1, .ref q6, .null, .null, .null])), (q1, .inr (1, [.ref b4, .ref r5, .int 0])), (b4, .inl (aC 0, 128, .inl (fun _ => 0))), (r5, .inl (aC 1, 128, .inl (fun _ => 0))), (q6, .inr (1, [.ref b9, .ref r10, .int 0])), (b9, .inl (aC 0, 128, .inl (fun _ => 0))), (r10, .inl (aC 1, 128, .inl (fun _ => 0))), (q11, .inr (1, [.ref b14, .ref r15, .int 0])), (b14, .inl (aC 0, 128, .inl (fun _ => 0))), (r15, .inl (aC 1, 128, .inl (fun _ => 0)))] H := hP
  have hD : va_D A [(h0, .inr (2, [.ref q1, .ref q6, .null, .null, .null])), (q1, .inr (1, [.ref b4, .ref r5, .int 0])), (b4, .inl (aC 0, 128, .inl (fun _ => 0))), (r5, .inl (aC 1, 128, .inl (fun _ => 0))), (q6, .inr (1, [.ref b9, .ref r10, .int 0])), (b9, .inl (aC 0, 128, .inl (fun _ => 0))), (r10, .inl (aC 1, 128, .inl (fun _ => 0))), (q11, .inr (1, [.ref b14, .ref r15, .int 0])), (b14, .inl (aC 0, 128, .inl (fun _ => 0))), (r15, .inl (aC 1, 128, .inl (fun _ => 0)))] := hD
  refine va_putF (D := (dC, dI)) (ci := 2) (v := .ref q11) (ty := (.object "Transversary$Sets")) (C := RX0) (T := TX0) (N := 5) hx hb hts (by decide +kernel) tyX0 tyX0_ok nmX0 hown hK hP hD hS 0 rfl rfl 2 (by decide) (hts (.fieldLink RX0 21 "Transversary$Covers" "blockersTwice" "LTransversary$Sets;") (by decide +kernel)) (fun _ h9 => h9) rfl hin rfl (by decide +kernel) rfl rfl (Nat.le_of_ble_eq_true rfl) dX0_init_34 (fun H locs hP hD hS => ?_)
  have hP : va_P (dC, dI) rfCl [(h0, .inr (2, [.ref q1, .ref q6, .ref q11, .null, .null])), (q1, .inr (1, [.ref b4, .ref r5, .int 0])), (b4, .inl (aC 0, 128, .inl (fun _ => 0))), (r5, .inl (aC 1, 128, .inl (fun _ => 0))), (q6, .inr (1, [.ref b9, .ref r10, .int 0])), (b9, .inl (aC 0, 128, .inl (fun _ => 0))), (r10, .inl (aC 1, 128, .inl (fun _ => 0))), (q11, .inr (1, [.ref b14, .ref r15, .int 0])), (b14, .inl (aC 0, 128, .inl (fun _ => 0))), (r15, .inl (aC 1, 128, .inl (fun _ => 0)))] H := hP
  have hD : va_D A [(h0, .inr (2, [.ref q1, .ref q6, .ref q11, .null, .null])), (q1, .inr (1, [.ref b4, .ref r5, .int 0])), (b4, .inl (aC 0, 128, .inl (fun _ => 0))), (r5, .inl (aC 1, 128, .inl (fun _ => 0))), (q6, .inr (1, [.ref b9, .ref r10, .int 0])), (b9, .inl (aC 0, 128, .inl (fun _ => 0))), (r10, .inl (aC 1, 128, .inl (fun _ => 0))), (q11, .inr (1, [.ref b14, .ref r15, .int 0])), (b14, .inl (aC 0, 128, .inl (fun _ => 0))), (r15, .inl (aC 1, 128, .inl (fun _ => 0)))] := hD
  refine lv_aload_n hx hb dX0_init_37 rfl (lv_at hl 0 rfl) ?_
  refine lv_sipush (v := 128) hx hb dX0_init_38 (by decide) ?_
  refine va_newa (atype := .boolean) (ty := .boolean) (a0 := (128, .inl (fun _ => 0))) hx hb (hts (.arrayClass .boolean) (by decide +kernel)) rfl hK hP hD hS hA (fun _ => rfl) (by decide) (by decide) (by decide) (Nat.le_of_ble_eq_true rfl) (Nat.le_of_ble_eq_true rfl) dX0_init_41 (fun q16 cA9 H hK hP hD hS => ?_)
  obtain rfl : cA9 = aC 0 := rf_sameA hK 6 0 rfl rfl
  have hK := hK.sub (tys' := rfT aC) [0, 1, 2, 3, 4, 5] rfl
  have hP : va_P (dC, dI) rfCl [(h0, .inr (2, [.ref q1, .ref q6, .ref q11, .null, .null])), (q1, .inr (1, [.ref b4, .ref r5, .int 0])), (b4, .inl (aC 0, 128, .inl (fun _ => 0))), (r5, .inl (aC 1, 128, .inl (fun _ => 0))), (q6, .inr (1, [.ref b9, .ref r10, .int 0])), (b9, .inl (aC 0, 128, .inl (fun _ => 0))), (r10, .inl (aC 1, 128, .inl (fun _ => 0))), (q11, .inr (1, [.ref b14, .ref r15, .int 0])), (b14, .inl (aC 0, 128, .inl (fun _ => 0))), (r15, .inl (aC 1, 128, .inl (fun _ => 0))), (q16, .inl (aC 0, 128, .inl (fun _ => 0)))] H := hP
  have hD : va_D A [(h0, .inr (2, [.ref q1, .ref q6, .ref q11, .null, .null])), (q1, .inr (1, [.ref b4, .ref r5, .int 0])), (b4, .inl (aC 0, 128, .inl (fun _ => 0))), (r5, .inl (aC 1, 128, .inl (fun _ => 0))), (q6, .inr (1, [.ref b9, .ref r10, .int 0])), (b9, .inl (aC 0, 128, .inl (fun _ => 0))), (r10, .inl (aC 1, 128, .inl (fun _ => 0))), (q11, .inr (1, [.ref b14, .ref r15, .int 0])), (b14, .inl (aC 0, 128, .inl (fun _ => 0))), (r15, .inl (aC 1, 128, .inl (fun _ => 0))), (q16, .inl (aC 0, 128, .inl (fun _ => 0)))] := hD
  refine W.widen (k := 10) (n := 905) (Nat.le_of_ble_eq_true rfl) (Nat.le_of_ble_eq_true rfl) ?_
  refine va_putF (D := (dC, dI)) (ci := 2) (v := .ref q16) (ty := (.array .boolean)) (C := RX0) (T := TX0) (N := 5) hx hb hts (by decide +kernel) tyX0 tyX0_ok nmX0 hown hK hP hD hS 0 rfl rfl 3 (by decide) (hts (.fieldLink RX0 24 "Transversary$Covers" "isCover" "[Z") (by decide +kernel)) (fun _ h9 => h9) rfl hin rfl (by decide +kernel) rfl rfl (Nat.le_of_ble_eq_true rfl) dX0_init_43 (fun H locs hP hD hS => ?_)
  have hP : va_P (dC, dI) rfCl [(h0, .inr (2, [.ref q1, .ref q6, .ref q11, .ref q16, .null])), (q1, .inr (1, [.ref b4, .ref r5, .int 0])), (b4, .inl (aC 0, 128, .inl (fun _ => 0))), (r5, .inl (aC 1, 128, .inl (fun _ => 0))), (q6, .inr (1, [.ref b9, .ref r10, .int 0])), (b9, .inl (aC 0, 128, .inl (fun _ => 0))), (r10, .inl (aC 1, 128, .inl (fun _ => 0))), (q11, .inr (1, [.ref b14, .ref r15, .int 0])), (b14, .inl (aC 0, 128, .inl (fun _ => 0))), (r15, .inl (aC 1, 128, .inl (fun _ => 0))), (q16, .inl (aC 0, 128, .inl (fun _ => 0)))] H := hP
  have hD : va_D A [(h0, .inr (2, [.ref q1, .ref q6, .ref q11, .ref q16, .null])), (q1, .inr (1, [.ref b4, .ref r5, .int 0])), (b4, .inl (aC 0, 128, .inl (fun _ => 0))), (r5, .inl (aC 1, 128, .inl (fun _ => 0))), (q6, .inr (1, [.ref b9, .ref r10, .int 0])), (b9, .inl (aC 0, 128, .inl (fun _ => 0))), (r10, .inl (aC 1, 128, .inl (fun _ => 0))), (q11, .inr (1, [.ref b14, .ref r15, .int 0])), (b14, .inl (aC 0, 128, .inl (fun _ => 0))), (r15, .inl (aC 1, 128, .inl (fun _ => 0))), (q16, .inl (aC 0, 128, .inl (fun _ => 0)))] := hD
  refine lv_aload_n hx hb dX0_init_46 rfl (lv_at hl 0 rfl) ?_
  refine lv_sipush (v := 128) hx hb dX0_init_47 (by decide) ?_
  refine va_newa (atype := .int) (ty := .int) (a0 := (128, .inl (fun _ => 0))) hx hb (hts (.arrayClass .int) (by decide +kernel)) rfl hK hP hD hS hA (fun _ => rfl) (by decide) (by decide) (by decide) (Nat.le_of_ble_eq_true rfl) (Nat.le_of_ble_eq_true rfl) dX0_init_50 (fun q17 cA9 H hK hP hD hS => ?_)
  obtain rfl : cA9 = aC 1 := rf_sameA hK 6 1 rfl rfl
  have hK := hK.sub (tys' := rfT aC) [0, 1, 2, 3, 4, 5] rfl
  have hP : va_P (dC, dI) rfCl [(h0, .inr (2, [.ref q1, .ref q6, .ref q11, .ref q16, .null])), (q1, .inr (1, [.ref b4, .ref r5, .int 0])), (b4, .inl (aC 0, 128, .inl (fun _ => 0))), (r5, .inl (aC 1, 128, .inl (fun _ => 0))), (q6, .inr (1, [.ref b9, .ref r10, .int 0])), (b9, .inl (aC 0, 128, .inl (fun _ => 0))), (r10, .inl (aC 1, 128, .inl (fun _ => 0))), (q11, .inr (1, [.ref b14, .ref r15, .int 0])), (b14, .inl (aC 0, 128, .inl (fun _ => 0))), (r15, .inl (aC 1, 128, .inl (fun _ => 0))), (q16, .inl (aC 0, 128, .inl (fun _ => 0))), (q17, .inl (aC 1, 128, .inl (fun _ => 0)))] H := hP
  have hD : va_D A [(h0, .inr (2, [.ref q1, .ref q6, .ref q11, .ref q16, .null])), (q1, .inr (1, [.ref b4, .ref r5, .int 0])), (b4, .inl (aC 0, 128, .inl (fun _ => 0))), (r5, .inl (aC 1, 128, .inl (fun _ => 0))), (q6, .inr (1, [.ref b9, .ref r10, .int 0])), (b9, .inl (aC 0, 128, .inl (fun _ => 0))), (r10, .inl (aC 1, 128, .inl (fun _ => 0))), (q11, .inr (1, [.ref b14, .ref r15, .int 0])), (b14, .inl (aC 0, 128, .inl (fun _ => 0))), (r15, .inl (aC 1, 128, .inl (fun _ => 0))), (q16, .inl (aC 0, 128, .inl (fun _ => 0))), (q17, .inl (aC 1, 128, .inl (fun _ => 0)))] := hD
  refine W.widen (k := 11) (n := 1033) (Nat.le_of_ble_eq_true rfl) (Nat.le_of_ble_eq_true rfl) ?_
  refine va_putF (D := (dC, dI)) (ci := 2) (v := .ref q17) (ty := (.array .int)) (C := RX0) (T := TX0) (N := 5) hx hb hts (by decide +kernel) tyX0 tyX0_ok nmX0 hown hK hP hD hS 0 rfl rfl 4 (by decide) (hts (.fieldLink RX0 28 "Transversary$Covers" "packed" "[I") (by decide +kernel)) (fun _ h9 => h9) rfl hin rfl (by decide +kernel) rfl rfl (Nat.le_of_ble_eq_true rfl) dX0_init_52 (fun H locs hP hD hS => ?_)
  have hP : va_P (dC, dI) rfCl [(h0, .inr (2, [.ref q1, .ref q6, .ref q11, .ref q16, .ref q17])), (q1, .inr (1, [.ref b4, .ref r5, .int 0])), (b4, .inl (aC 0, 128, .inl (fun _ => 0))), (r5, .inl (aC 1, 128, .inl (fun _ => 0))), (q6, .inr (1, [.ref b9, .ref r10, .int 0])), (b9, .inl (aC 0, 128, .inl (fun _ => 0))), (r10, .inl (aC 1, 128, .inl (fun _ => 0))), (q11, .inr (1, [.ref b14, .ref r15, .int 0])), (b14, .inl (aC 0, 128, .inl (fun _ => 0))), (r15, .inl (aC 1, 128, .inl (fun _ => 0))), (q16, .inl (aC 0, 128, .inl (fun _ => 0))), (q17, .inl (aC 1, 128, .inl (fun _ => 0)))] H := hP
  have hD : va_D A [(h0, .inr (2, [.ref q1, .ref q6, .ref q11, .ref q16, .ref q17])), (q1, .inr (1, [.ref b4, .ref r5, .int 0])), (b4, .inl (aC 0, 128, .inl (fun _ => 0))), (r5, .inl (aC 1, 128, .inl (fun _ => 0))), (q6, .inr (1, [.ref b9, .ref r10, .int 0])), (b9, .inl (aC 0, 128, .inl (fun _ => 0))), (r10, .inl (aC 1, 128, .inl (fun _ => 0))), (q11, .inr (1, [.ref b14, .ref r15, .int 0])), (b14, .inl (aC 0, 128, .inl (fun _ => 0))), (r15, .inl (aC 1, 128, .inl (fun _ => 0))), (q16, .inl (aC 0, 128, .inl (fun _ => 0))), (q17, .inl (aC 1, 128, .inl (fun _ => 0)))] := hD
  have hP9 := hP.sub (ws' := []) [] rfl
  have hD9 := hD.sub (ws' := []) [] (by decide) rfl
  refine W.widen (k := 11) (n := 1033) (Nat.le_of_ble_eq_true rfl) (Nat.le_of_ble_eq_true rfl) ?_
  exact W.vret hx hb hr (fun t ht hW => ⟨⟨(), rfl, trivial, by rw [ht]; exact hP9, hD9⟩, hS.F ht⟩) hS.2.2 dX0_init_55

set_option maxHeartbeats 4000000 in
set_option maxRecDepth 100000 in
theorem c_X4_init (l : Launch) (dC : Nat → ClassId) (dI : Nat → Nat → Nat) (aC : Nat → ClassId) (sz : Nat) (h0 : Nat)  : Met l yX4_init wsX4_init ({ frames := 2, cells := 10, slots := 399, locals := 40 } : Room) (rf_Pc (dC, dI) aC [.ref h0] [(h0, .inr (3, [.null, .null, .long 0, .long 0, .long 0]))] sz) (va_Qv (fun (u : Unit) => True) (fun (u : Unit) t => va_P (dC, dI) rfCl [] t.heap ∧ va_D (va_A [(h0, .inr (3, [.null, .null, .long 0, .long 0, .long 0]))] sz) []) (va_A [(h0, .inr (3, [.null, .null, .long 0, .long 0, .long 0]))] sz)) 10 399 (va_A [(h0, .inr (3, [.null, .null, .long 0, .long 0, .long 0]))] sz) := by
  refine Met.ofW (cc := cX4_init) (maxL := 1) (ret := none) (by decide) rfl ?_
  intro p e s m args below meth c s₁ B hml hv
  obtain ⟨rfl, hsz, hP, hKN, hD0⟩ := hv
  obtain ⟨hK, hN⟩ := hKN
  have hx := B.exec
  have hb := B.bytes
  have hr := B.returns
  have hts := atoms_spec (ws := wsX4_init) B.pre
  have hown : s.vm.findClass RX4 = some m.cls := findClass_of_methodNamed B.named
  have hlocks := B.notSynchronized
  have hin : meth.name = "<init>" := (name_of_methodNamed B.named B.method).1
  subst hsz
  have hD := hD0.self (sz := s.heap.size)
  generalize hAe : va_A [(h0, .inr (3, [.null, .null, .long 0, .long 0, .long 0]))] s.heap.size = A at hD ⊢
  have hA : ∀ q : Nat, s.heap.size ≤ q → A q := fun q h => by rw [← hAe]; exact Or.inr h
  have hS : va_S A s.heap s.heap [] := va_S.rf
  have hP : va_P (dC, dI) rfCl [(h0, .inr (3, [.null, .null, .long 0, .long 0, .long 0]))] s.heap := hP
  have hl := lv_entry ([.ref h0]) (n := 1) (Nat.le_of_ble_eq_true rfl)
  rw [lg_entry_eq]
  generalize (lg_sl ([.ref h0]) ++ List.replicate (1 - (lg_sl ([.ref h0])).length) Slot.unset).toArray = ls at hl ⊢
  have hl : lv_has ls 1 [(0, .ref h0)] := hl
  refine lv_aload_n hx hb dX4_init_0 rfl (lv_at hl 0 rfl) ?_
  refine W.objInit hx hb hown (hts (.methodLink RX4 3 objectInit) (by decide +kernel)) (hts (.instanceMethod objectInit) (by decide +kernel)) (hts (.code objectInit ⟨#[0xb1]⟩ 1 none) (by decide +kernel)) rfl (by rw [hml]; exact hl.1) rfl dX4_init_1 (Nat.le_of_ble_eq_true rfl) (Nat.le_of_ble_eq_true rfl) ?_
  refine W.eq (g2 := F0 m 4 ls []) rfl ?_
  refine lv_aload_n hx hb dX4_init_4 rfl (lv_at hl 0 rfl) ?_
  refine lv_bipush (v := 8) hx hb dX4_init_5 (by decide) ?_
  refine lv_bipush (v := 48) hx hb dX4_init_7 (by decide) ?_
  refine va_mna (X := [(h0, .inr (3, [.null, .null, .long 0, .long 0, .long 0]))]) (L := []) (f := fun _ => .inl (aC 2, 0, .inl (fun _ => 0))) (ty := .long) (cy := aC 2) (N' := 8) (K' := 48) (z := (48, .inr (.inl (fun _ => 0)))) hx hb hown (by rw [show "[" ++ (FieldType.array .long).toString = "[[J" from by decide +kernel]; exact hts (.classLink RX4 9 "[[J") (by decide +kernel)) hN.2.2.2.1 (hts (.arrayClass .long) (by decide +kernel)) (by rw [show (FieldType.array .long).toString = "[" ++ FieldType.toString .long from by decide +kernel]; exact (hK.2 2 _ rfl).2) hK hP hD hS hA (by decide) (by decide) (by decide) (by decide) (by decide) (by decide) (by decide) rfl rfl (Nat.le_of_ble_eq_true rfl) (Nat.le_of_ble_eq_true rfl) (fun c9 => rf_inner c9 48) dX4_init_9 (fun q1 r9 cA9 H _ _ hK hP hD hS => ?_)
  have hK := hK.sub (tys' := rfT aC) [0, 1, 2, 3, 4, 5] rfl
  have hP := hP.sub (ws' := [(h0, .inr (3, [.null, .null, .long 0, .long 0, .long 0]))]) [0] rfl
  have hD := hD.sub (ws' := [(h0, .inr (3, [.null, .null, .long 0, .long 0, .long 0]))]) [0] (by decide) rfl
  have hP : va_P (dC, dI) rfCl [(h0, .inr (3, [.null, .null, .long 0, .long 0, .long 0]))] H := hP
  have hD : va_D A [(h0, .inr (3, [.null, .null, .long 0, .long 0, .long 0]))] := hD
  refine W.widen (k := 9) (n := 392) (Nat.le_of_ble_eq_true rfl) (Nat.le_of_ble_eq_true rfl) ?_
  refine va_putF (D := (dC, dI)) (ci := 3) (v := .ref q1) (ty := (.array (.array .long))) (C := RX4) (T := TX4) (N := 5) hx hb hts (by decide +kernel) tyX4 tyX4_ok nmX4 hown hK hP hD hS 0 rfl rfl 0 (by decide) (hts (.fieldLink RX4 11 "Transversary$Price" "table" "[[J") (by decide +kernel)) (fun _ h9 => h9) rfl hin rfl (by decide +kernel) rfl rfl (Nat.le_of_ble_eq_true rfl) dX4_init_13 (fun H locs hP hD hS => ?_)
  have hP : va_P (dC, dI) rfCl [(h0, .inr (3, [.ref q1, .null, .long 0, .long 0, .long 0]))] H := hP
  have hD : va_D A [(h0, .inr (3, [.ref q1, .null, .long 0, .long 0, .long 0]))] := hD
  refine lv_aload_n hx hb dX4_init_16 rfl (lv_at hl 0 rfl) ?_
  refine lv_bipush (v := 7) hx hb dX4_init_17 (by decide) ?_
  refine va_newa (atype := .int) (ty := .int) (a0 := (7, .inl (fun _ => 0))) hx hb (hts (.arrayClass .int) (by decide +kernel)) rfl hK hP hD hS hA (fun _ => rfl) (by decide) (by decide) (by decide) (Nat.le_of_ble_eq_true rfl) (Nat.le_of_ble_eq_true rfl) dX4_init_19 (fun q2 cA9 H hK hP hD hS => ?_)
  obtain rfl : cA9 = aC 1 := rf_sameA hK 6 1 rfl rfl
  have hK := hK.sub (tys' := rfT aC) [0, 1, 2, 3, 4, 5] rfl
  have hP : va_P (dC, dI) rfCl [(h0, .inr (3, [.ref q1, .null, .long 0, .long 0, .long 0])), (q2, .inl (aC 1, 7, .inl (fun _ => 0)))] H := hP
  have hD : va_D A [(h0, .inr (3, [.ref q1, .null, .long 0, .long 0, .long 0])), (q2, .inl (aC 1, 7, .inl (fun _ => 0)))] := hD
  refine W.widen (k := 10) (n := 399) (Nat.le_of_ble_eq_true rfl) (Nat.le_of_ble_eq_true rfl) ?_
  refine va_putF (D := (dC, dI)) (ci := 3) (v := .ref q2) (ty := (.array .int)) (C := RX4) (T := TX4) (N := 5) hx hb hts (by decide +kernel) tyX4 tyX4_ok nmX4 hown hK hP hD hS 0 rfl rfl 1 (by decide) (hts (.fieldLink RX4 16 "Transversary$Price" "basis" "[I") (by decide +kernel)) (fun _ h9 => h9) rfl hin rfl (by decide +kernel) rfl rfl (Nat.le_of_ble_eq_true rfl) dX4_init_21 (fun H locs hP hD hS => ?_)
  have hP : va_P (dC, dI) rfCl [(h0, .inr (3, [.ref q1, .ref q2, .long 0, .long 0, .long 0])), (q2, .inl (aC 1, 7, .inl (fun _ => 0)))] H := hP
  have hD : va_D A [(h0, .inr (3, [.ref q1, .ref q2, .long 0, .long 0, .long 0])), (q2, .inl (aC 1, 7, .inl (fun _ => 0)))] := hD
  have hP9 := hP.sub (ws' := []) [] rfl
  have hD9 := hD.sub (ws' := []) [] (by decide) rfl
  refine W.widen (k := 10) (n := 399) (Nat.le_of_ble_eq_true rfl) (Nat.le_of_ble_eq_true rfl) ?_
  exact W.vret hx hb hr (fun t ht hW => ⟨⟨(), rfl, trivial, by rw [ht]; exact hP9, hD9⟩, hS.F ht⟩) hS.2.2 dX4_init_24

set_option maxHeartbeats 4000000 in
set_option maxRecDepth 100000 in
theorem c_X6_init (l : Launch) (dC : Nat → ClassId) (dI : Nat → Nat → Nat) (aC : Nat → ClassId) (sz : Nat) (h0 : Nat) (cv : Nat)  : Met l yX6_init wsX6_init ({ frames := 2, cells := 4, slots := 387, locals := 40 } : Room) (rf_Pc (dC, dI) aC [.ref h0, .ref cv] [(h0, .inr (5, [.null, .null, .null, .int 0, .int 0]))] sz) (va_Qv (fun (u : Unit) => True) (fun (u : Unit) t => va_P (dC, dI) rfCl [] t.heap ∧ va_D (va_A [(h0, .inr (5, [.null, .null, .null, .int 0, .int 0]))] sz) []) (va_A [(h0, .inr (5, [.null, .null, .null, .int 0, .int 0]))] sz)) 4 387 (va_A [(h0, .inr (5, [.null, .null, .null, .int 0, .int 0]))] sz) := by
  refine Met.ofW (cc := cX6_init) (maxL := 2) (ret := none) (by decide) rfl ?_
  intro p e s m args below meth c s₁ B hml hv
  obtain ⟨rfl, hsz, hP, hKN, hD0⟩ := hv
  obtain ⟨hK, hN⟩ := hKN
  have hx := B.exec
  have hb := B.bytes
  have hr := B.returns
  have hts := atoms_spec (ws := wsX6_init) B.pre
  have hown : s.vm.findClass RX6 = some m.cls := findClass_of_methodNamed B.named
  have hlocks := B.notSynchronized
  have hin : meth.name = "<init>" := (name_of_methodNamed B.named B.method).1
  subst hsz
  have hD := hD0.self (sz := s.heap.size)
  generalize hAe : va_A [(h0, .inr (5, [.null, .null, .null, .int 0, .int 0]))] s.heap.size = A at hD ⊢
  have hA : ∀ q : Nat, s.heap.size ≤ q → A q := fun q h => by rw [← hAe]; exact Or.inr h
  have hS : va_S A s.heap s.heap [] := va_S.rf
  have hP : va_P (dC, dI) rfCl [(h0, .inr (5, [.null, .null, .null, .int 0, .int 0]))] s.heap := hP
  have hl := lv_entry ([.ref h0, .ref cv]) (n := 2) (Nat.le_of_ble_eq_true rfl)
  rw [lg_entry_eq]
  generalize (lg_sl ([.ref h0, .ref cv]) ++ List.replicate (2 - (lg_sl ([.ref h0, .ref cv])).length) Slot.unset).toArray = ls at hl ⊢
  have hl : lv_has ls 2 [(0, .ref h0), (1, .ref cv)] := hl
  refine lv_aload_n hx hb dX6_init_0 rfl (lv_at hl 0 rfl) ?_
  refine W.objInit hx hb hown (hts (.methodLink RX6 3 objectInit) (by decide +kernel)) (hts (.instanceMethod objectInit) (by decide +kernel)) (hts (.code objectInit ⟨#[0xb1]⟩ 1 none) (by decide +kernel)) rfl (by rw [hml]; exact hl.1) rfl dX6_init_1 (Nat.le_of_ble_eq_true rfl) (Nat.le_of_ble_eq_true rfl) ?_
  refine W.eq (g2 := F0 m 4 ls []) rfl ?_
  refine lv_aload_n hx hb dX6_init_4 rfl (lv_at hl 0 rfl) ?_
  refine va_new (ci := 1) (fs := [.null, .null, .int 0]) (C := RX7) (T := TX7) (N := 3) hx hb hts (by decide +kernel) tyX7 tyX7_ok hown (hts (.classLink RX6 9 RX7) (by decide +kernel)) (hts (.instantiable RX7 3) (by decide +kernel)) (hts (.initialized RX7) (by decide +kernel)) hK hP hD hS hA rfl (fun j hj => by rcases (show j = 0 ∨ j = 1 ∨ j = 2 by omega) with rfl | rfl | rfl <;> rfl) (Nat.le_of_ble_eq_true rfl) (Nat.le_of_ble_eq_true rfl) dX6_init_5 (fun q1 H hP hD hS => ?_)
  have hP : va_P (dC, dI) rfCl [(h0, .inr (5, [.null, .null, .null, .int 0, .int 0])), (q1, .inr (1, [.null, .null, .int 0]))] H := hP
  have hD : va_D A [(h0, .inr (5, [.null, .null, .null, .int 0, .int 0])), (q1, .inr (1, [.null, .null, .int 0]))] := hD
  refine W.widen (k := 1) (n := 3) (Nat.le_of_ble_eq_true rfl) (Nat.le_of_ble_eq_true rfl) ?_
  refine lv_dup hx hb dX6_init_8 rfl ?_
  have hPc := hP.sub (ws' := [(q1, .inr (1, [.null, .null, .int 0]))]) [1] rfl
  have hDc := hD.sub (ws' := [(q1, .inr (1, [.null, .null, .int 0]))]) [1] (by decide) rfl
  have hFc := va_free (wc := [(q1, .inr (1, [.null, .null, .int 0]))]) hD hS hA [1] rfl
  refine va_callv (va_runIN (As := []) (rest := [.ref q1, .ref h0]) ⟨hx, hb, hml, hown, hts⟩ (c_X7_init l dC dI aC H.size q1) (⟨va_cnB 0 hts (goodIn_sub (by decide +kernel) (by decide +kernel)) rfl rfl rfl (rf_nst hN 4 (q := (RX6, 11, yX7_init, "Transversary")) rfl) (hts (.initialized RX7) (by decide +kernel)) (by decide +kernel) ⟨Nat.le_of_ble_eq_true rfl, Nat.le_of_ble_eq_true rfl⟩, rfl, hts (.instanceMethod yX7_init) (by decide +kernel)⟩) (rf_ps hK hN hPc hDc) rfl rfl hl.1 rfl (lv_room (Nat.le_of_ble_eq_true rfl)) dX6_init_9 ⟨Nat.le_of_ble_eq_true rfl, Nat.le_of_ble_eq_true rfl⟩) hS (fun q _ h => hFc q h) hFc (fun u2 t H1 locs ht hvm hwu2 hB hz1 hk1 hS => ?_)
  obtain ⟨hP1, hD1⟩ := hB
  rw [ht] at hP1
  try dsimp only at hwu2 hP1 hD1
  obtain ⟨hP, hD⟩ := va_join (wr := [(h0, .inr (5, [.null, .null, .null, .int 0, .int 0]))]) (w1 := [(q1, .inr (1, [.ref (u2.1), .ref (u2.2), .int 0])), ((u2.1), .inl (aC 0, 128, .inl (fun _ => 0))), ((u2.2), .inl (aC 1, 128, .inl (fun _ => 0)))]) hP hD [1] [0] rfl rfl (by decide) (by decide) hk1 hFc hP1 hD1
  clear hP1 hD1 hPc hDc hFc
  generalize H1 = H at hP hS ⊢
  have hP : va_P (dC, dI) rfCl [(h0, .inr (5, [.null, .null, .null, .int 0, .int 0])), (q1, .inr (1, [.ref (u2.1), .ref (u2.2), .int 0])), ((u2.1), .inl (aC 0, 128, .inl (fun _ => 0))), ((u2.2), .inl (aC 1, 128, .inl (fun _ => 0)))] H := hP
  have hD : va_D A [(h0, .inr (5, [.null, .null, .null, .int 0, .int 0])), (q1, .inr (1, [.ref (u2.1), .ref (u2.2), .int 0])), ((u2.1), .inl (aC 0, 128, .inl (fun _ => 0))), ((u2.2), .inl (aC 1, 128, .inl (fun _ => 0)))] := hD
  refine W.widen (k := 3) (n := 259) (Nat.le_of_ble_eq_true rfl) (Nat.le_of_ble_eq_true rfl) ?_
  obtain ⟨b4, r5⟩ := u2
  try dsimp only at hP hD
  have hP : va_P (dC, dI) rfCl [(h0, .inr (5, [.null, .null, .null, .int 0, .int 0])), (q1, .inr (1, [.ref b4, .ref r5, .int 0])), (b4, .inl (aC 0, 128, .inl (fun _ => 0))), (r5, .inl (aC 1, 128, .inl (fun _ => 0)))] H := hP
  have hD : va_D A [(h0, .inr (5, [.null, .null, .null, .int 0, .int 0])), (q1, .inr (1, [.ref b4, .ref r5, .int 0])), (b4, .inl (aC 0, 128, .inl (fun _ => 0))), (r5, .inl (aC 1, 128, .inl (fun _ => 0)))] := hD
  refine va_putF (D := (dC, dI)) (ci := 5) (v := .ref q1) (ty := (.object "Transversary$Sets")) (C := RX6) (T := TX6) (N := 5) hx hb hts (by decide +kernel) tyX6 tyX6_ok nmX6 hown hK hP hD hS 0 rfl rfl 1 (by decide) (hts (.fieldLink RX6 12 "Transversary$Samples" "petals" "LTransversary$Sets;") (by decide +kernel)) (fun _ h9 => h9) rfl hin rfl (by decide +kernel) rfl rfl (Nat.le_of_ble_eq_true rfl) dX6_init_12 (fun H locs hP hD hS => ?_)
  have hP : va_P (dC, dI) rfCl [(h0, .inr (5, [.null, .ref q1, .null, .int 0, .int 0])), (q1, .inr (1, [.ref b4, .ref r5, .int 0])), (b4, .inl (aC 0, 128, .inl (fun _ => 0))), (r5, .inl (aC 1, 128, .inl (fun _ => 0)))] H := hP
  have hD : va_D A [(h0, .inr (5, [.null, .ref q1, .null, .int 0, .int 0])), (q1, .inr (1, [.ref b4, .ref r5, .int 0])), (b4, .inl (aC 0, 128, .inl (fun _ => 0))), (r5, .inl (aC 1, 128, .inl (fun _ => 0)))] := hD
  refine lv_aload_n hx hb dX6_init_15 rfl (lv_at hl 0 rfl) ?_
  refine lv_sipush (v := 128) hx hb dX6_init_16 (by decide) ?_
  refine va_newa (atype := .long) (ty := .long) (a0 := (128, .inr (.inl (fun _ => 0)))) hx hb (hts (.arrayClass .long) (by decide +kernel)) rfl hK hP hD hS hA (fun _ => rfl) (by decide) (by decide) (by decide) (Nat.le_of_ble_eq_true rfl) (Nat.le_of_ble_eq_true rfl) dX6_init_19 (fun q6 cA9 H hK hP hD hS => ?_)
  obtain rfl : cA9 = aC 2 := rf_sameA hK 6 2 rfl rfl
  have hK := hK.sub (tys' := rfT aC) [0, 1, 2, 3, 4, 5] rfl
  have hP : va_P (dC, dI) rfCl [(h0, .inr (5, [.null, .ref q1, .null, .int 0, .int 0])), (q1, .inr (1, [.ref b4, .ref r5, .int 0])), (b4, .inl (aC 0, 128, .inl (fun _ => 0))), (r5, .inl (aC 1, 128, .inl (fun _ => 0))), (q6, .inl (aC 2, 128, .inr (.inl (fun _ => 0))))] H := hP
  have hD : va_D A [(h0, .inr (5, [.null, .ref q1, .null, .int 0, .int 0])), (q1, .inr (1, [.ref b4, .ref r5, .int 0])), (b4, .inl (aC 0, 128, .inl (fun _ => 0))), (r5, .inl (aC 1, 128, .inl (fun _ => 0))), (q6, .inl (aC 2, 128, .inr (.inl (fun _ => 0))))] := hD
  refine W.widen (k := 4) (n := 387) (Nat.le_of_ble_eq_true rfl) (Nat.le_of_ble_eq_true rfl) ?_
  refine va_putF (D := (dC, dI)) (ci := 5) (v := .ref q6) (ty := (.array .long)) (C := RX6) (T := TX6) (N := 5) hx hb hts (by decide +kernel) tyX6 tyX6_ok nmX6 hown hK hP hD hS 0 rfl rfl 2 (by decide) (hts (.fieldLink RX6 18 "Transversary$Samples" "outcomes" "[J") (by decide +kernel)) (fun _ h9 => h9) rfl hin rfl (by decide +kernel) rfl rfl (Nat.le_of_ble_eq_true rfl) dX6_init_21 (fun H locs hP hD hS => ?_)
  have hP : va_P (dC, dI) rfCl [(h0, .inr (5, [.null, .ref q1, .ref q6, .int 0, .int 0])), (q1, .inr (1, [.ref b4, .ref r5, .int 0])), (b4, .inl (aC 0, 128, .inl (fun _ => 0))), (r5, .inl (aC 1, 128, .inl (fun _ => 0))), (q6, .inl (aC 2, 128, .inr (.inl (fun _ => 0))))] H := hP
  have hD : va_D A [(h0, .inr (5, [.null, .ref q1, .ref q6, .int 0, .int 0])), (q1, .inr (1, [.ref b4, .ref r5, .int 0])), (b4, .inl (aC 0, 128, .inl (fun _ => 0))), (r5, .inl (aC 1, 128, .inl (fun _ => 0))), (q6, .inl (aC 2, 128, .inr (.inl (fun _ => 0))))] := hD
  refine lv_aload_n hx hb dX6_init_24 rfl (lv_at hl 0 rfl) ?_
  refine lv_aload_n hx hb dX6_init_25 rfl (lv_at hl 1 rfl) ?_
  refine va_putF (D := (dC, dI)) (ci := 5) (v := .ref cv) (ty := (.object "Transversary$Covers")) (C := RX6) (T := TX6) (N := 5) hx hb hts (by decide +kernel) tyX6 tyX6_ok nmX6 hown hK hP hD hS 0 rfl rfl 0 (by decide) (hts (.fieldLink RX6 22 "Transversary$Samples" "covers" "LTransversary$Covers;") (by decide +kernel)) (fun _ h9 => h9) rfl hin rfl (by decide +kernel) rfl rfl (Nat.le_of_ble_eq_true rfl) dX6_init_26 (fun H locs hP hD hS => ?_)
  have hP : va_P (dC, dI) rfCl [(h0, .inr (5, [.ref cv, .ref q1, .ref q6, .int 0, .int 0])), (q1, .inr (1, [.ref b4, .ref r5, .int 0])), (b4, .inl (aC 0, 128, .inl (fun _ => 0))), (r5, .inl (aC 1, 128, .inl (fun _ => 0))), (q6, .inl (aC 2, 128, .inr (.inl (fun _ => 0))))] H := hP
  have hD : va_D A [(h0, .inr (5, [.ref cv, .ref q1, .ref q6, .int 0, .int 0])), (q1, .inr (1, [.ref b4, .ref r5, .int 0])), (b4, .inl (aC 0, 128, .inl (fun _ => 0))), (r5, .inl (aC 1, 128, .inl (fun _ => 0))), (q6, .inl (aC 2, 128, .inr (.inl (fun _ => 0))))] := hD
  have hP9 := hP.sub (ws' := []) [] rfl
  have hD9 := hD.sub (ws' := []) [] (by decide) rfl
  refine W.widen (k := 4) (n := 387) (Nat.le_of_ble_eq_true rfl) (Nat.le_of_ble_eq_true rfl) ?_
  exact W.vret hx hb hr (fun t ht hW => ⟨⟨(), rfl, trivial, by rw [ht]; exact hP9, hD9⟩, hS.F ht⟩) hS.2.2 dX6_init_29

set_option maxHeartbeats 4000000 in
set_option maxRecDepth 100000 in
theorem c_X8_init (l : Launch) (dC : Nat → ClassId) (dI : Nat → Nat → Nat) (aC : Nat → ClassId) (sz : Nat) (h0 : Nat)  : Met l yX8_init wsX8_init ({ frames := 2, cells := 2, slots := 256, locals := 40 } : Room) (rf_Pc (dC, dI) aC [.ref h0] [(h0, .inr (7, [.null, .null, .int 0]))] sz) (va_Qv (fun (u : Unit) => True) (fun (u : Unit) t => va_P (dC, dI) rfCl [] t.heap ∧ va_D (va_A [(h0, .inr (7, [.null, .null, .int 0]))] sz) []) (va_A [(h0, .inr (7, [.null, .null, .int 0]))] sz)) 2 256 (va_A [(h0, .inr (7, [.null, .null, .int 0]))] sz) := by
  refine Met.ofW (cc := cX8_init) (maxL := 1) (ret := none) (by decide) rfl ?_
  intro p e s m args below meth c s₁ B hml hv
  obtain ⟨rfl, hsz, hP, hKN, hD0⟩ := hv
  obtain ⟨hK, hN⟩ := hKN
  have hx := B.exec
  have hb := B.bytes
  have hr := B.returns
  have hts := atoms_spec (ws := wsX8_init) B.pre
  have hown : s.vm.findClass RX8 = some m.cls := findClass_of_methodNamed B.named
  have hlocks := B.notSynchronized
  have hin : meth.name = "<init>" := (name_of_methodNamed B.named B.method).1
  subst hsz
  have hD := hD0.self (sz := s.heap.size)
  generalize hAe : va_A [(h0, .inr (7, [.null, .null, .int 0]))] s.heap.size = A at hD ⊢
  have hA : ∀ q : Nat, s.heap.size ≤ q → A q := fun q h => by rw [← hAe]; exact Or.inr h
  have hS : va_S A s.heap s.heap [] := va_S.rf
  have hP : va_P (dC, dI) rfCl [(h0, .inr (7, [.null, .null, .int 0]))] s.heap := hP
  have hl := lv_entry ([.ref h0]) (n := 1) (Nat.le_of_ble_eq_true rfl)
  rw [lg_entry_eq]
  generalize (lg_sl ([.ref h0]) ++ List.replicate (1 - (lg_sl ([.ref h0])).length) Slot.unset).toArray = ls at hl ⊢
  have hl : lv_has ls 1 [(0, .ref h0)] := hl
  refine lv_aload_n hx hb dX8_init_0 rfl (lv_at hl 0 rfl) ?_
  refine W.objInit hx hb hown (hts (.methodLink RX8 3 objectInit) (by decide +kernel)) (hts (.instanceMethod objectInit) (by decide +kernel)) (hts (.code objectInit ⟨#[0xb1]⟩ 1 none) (by decide +kernel)) rfl (by rw [hml]; exact hl.1) rfl dX8_init_1 (Nat.le_of_ble_eq_true rfl) (Nat.le_of_ble_eq_true rfl) ?_
  refine W.eq (g2 := F0 m 4 ls []) rfl ?_
  refine lv_aload_n hx hb dX8_init_4 rfl (lv_at hl 0 rfl) ?_
  refine lv_sipush (v := 128) hx hb dX8_init_5 (by decide) ?_
  refine va_newa (atype := .boolean) (ty := .boolean) (a0 := (128, .inl (fun _ => 0))) hx hb (hts (.arrayClass .boolean) (by decide +kernel)) rfl hK hP hD hS hA (fun _ => rfl) (by decide) (by decide) (by decide) (Nat.le_of_ble_eq_true rfl) (Nat.le_of_ble_eq_true rfl) dX8_init_8 (fun q1 cA9 H hK hP hD hS => ?_)
  obtain rfl : cA9 = aC 0 := rf_sameA hK 6 0 rfl rfl
  have hK := hK.sub (tys' := rfT aC) [0, 1, 2, 3, 4, 5] rfl
  have hP : va_P (dC, dI) rfCl [(h0, .inr (7, [.null, .null, .int 0])), (q1, .inl (aC 0, 128, .inl (fun _ => 0)))] H := hP
  have hD : va_D A [(h0, .inr (7, [.null, .null, .int 0])), (q1, .inl (aC 0, 128, .inl (fun _ => 0)))] := hD
  refine W.widen (k := 1) (n := 128) (Nat.le_of_ble_eq_true rfl) (Nat.le_of_ble_eq_true rfl) ?_
  refine va_putF (D := (dC, dI)) (ci := 7) (v := .ref q1) (ty := (.array .boolean)) (C := RX8) (T := TX8) (N := 3) hx hb hts (by decide +kernel) tyX8 tyX8_ok nmX8 hown hK hP hD hS 0 rfl rfl 0 (by decide) (hts (.fieldLink RX8 9 "Transversary$Signs" "isOneColour" "[Z") (by decide +kernel)) (fun _ h9 => h9) rfl hin rfl (by decide +kernel) rfl rfl (Nat.le_of_ble_eq_true rfl) dX8_init_10 (fun H locs hP hD hS => ?_)
  have hP : va_P (dC, dI) rfCl [(h0, .inr (7, [.ref q1, .null, .int 0])), (q1, .inl (aC 0, 128, .inl (fun _ => 0)))] H := hP
  have hD : va_D A [(h0, .inr (7, [.ref q1, .null, .int 0])), (q1, .inl (aC 0, 128, .inl (fun _ => 0)))] := hD
  refine lv_aload_n hx hb dX8_init_13 rfl (lv_at hl 0 rfl) ?_
  refine lv_sipush (v := 128) hx hb dX8_init_14 (by decide) ?_
  refine va_newa (atype := .int) (ty := .int) (a0 := (128, .inl (fun _ => 0))) hx hb (hts (.arrayClass .int) (by decide +kernel)) rfl hK hP hD hS hA (fun _ => rfl) (by decide) (by decide) (by decide) (Nat.le_of_ble_eq_true rfl) (Nat.le_of_ble_eq_true rfl) dX8_init_17 (fun q2 cA9 H hK hP hD hS => ?_)
  obtain rfl : cA9 = aC 1 := rf_sameA hK 6 1 rfl rfl
  have hK := hK.sub (tys' := rfT aC) [0, 1, 2, 3, 4, 5] rfl
  have hP : va_P (dC, dI) rfCl [(h0, .inr (7, [.ref q1, .null, .int 0])), (q1, .inl (aC 0, 128, .inl (fun _ => 0))), (q2, .inl (aC 1, 128, .inl (fun _ => 0)))] H := hP
  have hD : va_D A [(h0, .inr (7, [.ref q1, .null, .int 0])), (q1, .inl (aC 0, 128, .inl (fun _ => 0))), (q2, .inl (aC 1, 128, .inl (fun _ => 0)))] := hD
  refine W.widen (k := 2) (n := 256) (Nat.le_of_ble_eq_true rfl) (Nat.le_of_ble_eq_true rfl) ?_
  refine va_putF (D := (dC, dI)) (ci := 7) (v := .ref q2) (ty := (.array .int)) (C := RX8) (T := TX8) (N := 3) hx hb hts (by decide +kernel) tyX8 tyX8_ok nmX8 hown hK hP hD hS 0 rfl rfl 1 (by decide) (hts (.fieldLink RX8 15 "Transversary$Signs" "fewest" "[I") (by decide +kernel)) (fun _ h9 => h9) rfl hin rfl (by decide +kernel) rfl rfl (Nat.le_of_ble_eq_true rfl) dX8_init_19 (fun H locs hP hD hS => ?_)
  have hP : va_P (dC, dI) rfCl [(h0, .inr (7, [.ref q1, .ref q2, .int 0])), (q1, .inl (aC 0, 128, .inl (fun _ => 0))), (q2, .inl (aC 1, 128, .inl (fun _ => 0)))] H := hP
  have hD : va_D A [(h0, .inr (7, [.ref q1, .ref q2, .int 0])), (q1, .inl (aC 0, 128, .inl (fun _ => 0))), (q2, .inl (aC 1, 128, .inl (fun _ => 0)))] := hD
  have hP9 := hP.sub (ws' := []) [] rfl
  have hD9 := hD.sub (ws' := []) [] (by decide) rfl
  refine W.widen (k := 2) (n := 256) (Nat.le_of_ble_eq_true rfl) (Nat.le_of_ble_eq_true rfl) ?_
  exact W.vret hx hb hr (fun t ht hW => ⟨⟨(), rfl, trivial, by rw [ht]; exact hP9, hD9⟩, hS.F ht⟩) hS.2.2 dX8_init_22

set_option maxHeartbeats 4000000 in
set_option maxRecDepth 100000 in
theorem c_X10_init (l : Launch) (dC : Nat → ClassId) (dI : Nat → Nat → Nat) (aC : Nat → ClassId) (sz : Nat) (h0 : Nat)  : Met l yX10_init wsX10_init ({ frames := 2, cells := 5, slots := 394, locals := 40 } : Room) (rf_Pc (dC, dI) aC [.ref h0] [(h0, .inr (8, [.null, .null, .null, .int 0]))] sz) (va_Qv (fun (u : Unit) => True) (fun (u : Unit) t => va_P (dC, dI) rfCl [] t.heap ∧ va_D (va_A [(h0, .inr (8, [.null, .null, .null, .int 0]))] sz) []) (va_A [(h0, .inr (8, [.null, .null, .null, .int 0]))] sz)) 5 394 (va_A [(h0, .inr (8, [.null, .null, .null, .int 0]))] sz) := by
  refine Met.ofW (cc := cX10_init) (maxL := 1) (ret := none) (by decide) rfl ?_
  intro p e s m args below meth c s₁ B hml hv
  obtain ⟨rfl, hsz, hP, hKN, hD0⟩ := hv
  obtain ⟨hK, hN⟩ := hKN
  have hx := B.exec
  have hb := B.bytes
  have hr := B.returns
  have hts := atoms_spec (ws := wsX10_init) B.pre
  have hown : s.vm.findClass RX10 = some m.cls := findClass_of_methodNamed B.named
  have hlocks := B.notSynchronized
  have hin : meth.name = "<init>" := (name_of_methodNamed B.named B.method).1
  subst hsz
  have hD := hD0.self (sz := s.heap.size)
  generalize hAe : va_A [(h0, .inr (8, [.null, .null, .null, .int 0]))] s.heap.size = A at hD ⊢
  have hA : ∀ q : Nat, s.heap.size ≤ q → A q := fun q h => by rw [← hAe]; exact Or.inr h
  have hS : va_S A s.heap s.heap [] := va_S.rf
  have hP : va_P (dC, dI) rfCl [(h0, .inr (8, [.null, .null, .null, .int 0]))] s.heap := hP
  have hl := lv_entry ([.ref h0]) (n := 1) (Nat.le_of_ble_eq_true rfl)
  rw [lg_entry_eq]
  generalize (lg_sl ([.ref h0]) ++ List.replicate (1 - (lg_sl ([.ref h0])).length) Slot.unset).toArray = ls at hl ⊢
  have hl : lv_has ls 1 [(0, .ref h0)] := hl
  refine lv_aload_n hx hb dX10_init_0 rfl (lv_at hl 0 rfl) ?_
  refine W.objInit hx hb hown (hts (.methodLink RX10 3 objectInit) (by decide +kernel)) (hts (.instanceMethod objectInit) (by decide +kernel)) (hts (.code objectInit ⟨#[0xb1]⟩ 1 none) (by decide +kernel)) rfl (by rw [hml]; exact hl.1) rfl dX10_init_1 (Nat.le_of_ble_eq_true rfl) (Nat.le_of_ble_eq_true rfl) ?_
  refine W.eq (g2 := F0 m 4 ls []) rfl ?_
  refine lv_aload_n hx hb dX10_init_4 rfl (lv_at hl 0 rfl) ?_
  refine va_new (ci := 1) (fs := [.null, .null, .int 0]) (C := RX7) (T := TX7) (N := 3) hx hb hts (by decide +kernel) tyX7 tyX7_ok hown (hts (.classLink RX10 9 RX7) (by decide +kernel)) (hts (.instantiable RX7 3) (by decide +kernel)) (hts (.initialized RX7) (by decide +kernel)) hK hP hD hS hA rfl (fun j hj => by rcases (show j = 0 ∨ j = 1 ∨ j = 2 by omega) with rfl | rfl | rfl <;> rfl) (Nat.le_of_ble_eq_true rfl) (Nat.le_of_ble_eq_true rfl) dX10_init_5 (fun q1 H hP hD hS => ?_)
  have hP : va_P (dC, dI) rfCl [(h0, .inr (8, [.null, .null, .null, .int 0])), (q1, .inr (1, [.null, .null, .int 0]))] H := hP
  have hD : va_D A [(h0, .inr (8, [.null, .null, .null, .int 0])), (q1, .inr (1, [.null, .null, .int 0]))] := hD
  refine W.widen (k := 1) (n := 3) (Nat.le_of_ble_eq_true rfl) (Nat.le_of_ble_eq_true rfl) ?_
  refine lv_dup hx hb dX10_init_8 rfl ?_
  have hPc := hP.sub (ws' := [(q1, .inr (1, [.null, .null, .int 0]))]) [1] rfl
  have hDc := hD.sub (ws' := [(q1, .inr (1, [.null, .null, .int 0]))]) [1] (by decide) rfl
  have hFc := va_free (wc := [(q1, .inr (1, [.null, .null, .int 0]))]) hD hS hA [1] rfl
  refine va_callv (va_runIN (As := []) (rest := [.ref q1, .ref h0]) ⟨hx, hb, hml, hown, hts⟩ (c_X7_init l dC dI aC H.size q1) (⟨va_cnB 0 hts (goodIn_sub (by decide +kernel) (by decide +kernel)) rfl rfl rfl (rf_nst hN 5 (q := (RX10, 11, yX7_init, "Transversary")) rfl) (hts (.initialized RX7) (by decide +kernel)) (by decide +kernel) ⟨Nat.le_of_ble_eq_true rfl, Nat.le_of_ble_eq_true rfl⟩, rfl, hts (.instanceMethod yX7_init) (by decide +kernel)⟩) (rf_ps hK hN hPc hDc) rfl rfl hl.1 rfl (lv_room (Nat.le_of_ble_eq_true rfl)) dX10_init_9 ⟨Nat.le_of_ble_eq_true rfl, Nat.le_of_ble_eq_true rfl⟩) hS (fun q _ h => hFc q h) hFc (fun u2 t H1 locs ht hvm hwu2 hB hz1 hk1 hS => ?_)
  obtain ⟨hP1, hD1⟩ := hB
  rw [ht] at hP1
  try dsimp only at hwu2 hP1 hD1
  obtain ⟨hP, hD⟩ := va_join (wr := [(h0, .inr (8, [.null, .null, .null, .int 0]))]) (w1 := [(q1, .inr (1, [.ref (u2.1), .ref (u2.2), .int 0])), ((u2.1), .inl (aC 0, 128, .inl (fun _ => 0))), ((u2.2), .inl (aC 1, 128, .inl (fun _ => 0)))]) hP hD [1] [0] rfl rfl (by decide) (by decide) hk1 hFc hP1 hD1
  clear hP1 hD1 hPc hDc hFc
  generalize H1 = H at hP hS ⊢
  have hP : va_P (dC, dI) rfCl [(h0, .inr (8, [.null, .null, .null, .int 0])), (q1, .inr (1, [.ref (u2.1), .ref (u2.2), .int 0])), ((u2.1), .inl (aC 0, 128, .inl (fun _ => 0))), ((u2.2), .inl (aC 1, 128, .inl (fun _ => 0)))] H := hP
  have hD : va_D A [(h0, .inr (8, [.null, .null, .null, .int 0])), (q1, .inr (1, [.ref (u2.1), .ref (u2.2), .int 0])), ((u2.1), .inl (aC 0, 128, .inl (fun _ => 0))), ((u2.2), .inl (aC 1, 128, .inl (fun _ => 0)))] := hD
  refine W.widen (k := 3) (n := 259) (Nat.le_of_ble_eq_true rfl) (Nat.le_of_ble_eq_true rfl) ?_
  obtain ⟨b4, r5⟩ := u2
  try dsimp only at hP hD
  have hP : va_P (dC, dI) rfCl [(h0, .inr (8, [.null, .null, .null, .int 0])), (q1, .inr (1, [.ref b4, .ref r5, .int 0])), (b4, .inl (aC 0, 128, .inl (fun _ => 0))), (r5, .inl (aC 1, 128, .inl (fun _ => 0)))] H := hP
  have hD : va_D A [(h0, .inr (8, [.null, .null, .null, .int 0])), (q1, .inr (1, [.ref b4, .ref r5, .int 0])), (b4, .inl (aC 0, 128, .inl (fun _ => 0))), (r5, .inl (aC 1, 128, .inl (fun _ => 0)))] := hD
  refine va_putF (D := (dC, dI)) (ci := 8) (v := .ref q1) (ty := (.object "Transversary$Sets")) (C := RX10) (T := TX10) (N := 4) hx hb hts (by decide +kernel) tyX10 tyX10_ok nmX10 hown hK hP hD hS 0 rfl rfl 0 (by decide) (hts (.fieldLink RX10 12 "Transversary$Trees" "left" "LTransversary$Sets;") (by decide +kernel)) (fun _ h9 => h9) rfl hin rfl (by decide +kernel) rfl rfl (Nat.le_of_ble_eq_true rfl) dX10_init_12 (fun H locs hP hD hS => ?_)
  have hP : va_P (dC, dI) rfCl [(h0, .inr (8, [.ref q1, .null, .null, .int 0])), (q1, .inr (1, [.ref b4, .ref r5, .int 0])), (b4, .inl (aC 0, 128, .inl (fun _ => 0))), (r5, .inl (aC 1, 128, .inl (fun _ => 0)))] H := hP
  have hD : va_D A [(h0, .inr (8, [.ref q1, .null, .null, .int 0])), (q1, .inr (1, [.ref b4, .ref r5, .int 0])), (b4, .inl (aC 0, 128, .inl (fun _ => 0))), (r5, .inl (aC 1, 128, .inl (fun _ => 0)))] := hD
  refine lv_aload_n hx hb dX10_init_15 rfl (lv_at hl 0 rfl) ?_
  refine lv_bipush (v := 7) hx hb dX10_init_16 (by decide) ?_
  refine va_newa (atype := .int) (ty := .int) (a0 := (7, .inl (fun _ => 0))) hx hb (hts (.arrayClass .int) (by decide +kernel)) rfl hK hP hD hS hA (fun _ => rfl) (by decide) (by decide) (by decide) (Nat.le_of_ble_eq_true rfl) (Nat.le_of_ble_eq_true rfl) dX10_init_18 (fun q6 cA9 H hK hP hD hS => ?_)
  obtain rfl : cA9 = aC 1 := rf_sameA hK 6 1 rfl rfl
  have hK := hK.sub (tys' := rfT aC) [0, 1, 2, 3, 4, 5] rfl
  have hP : va_P (dC, dI) rfCl [(h0, .inr (8, [.ref q1, .null, .null, .int 0])), (q1, .inr (1, [.ref b4, .ref r5, .int 0])), (b4, .inl (aC 0, 128, .inl (fun _ => 0))), (r5, .inl (aC 1, 128, .inl (fun _ => 0))), (q6, .inl (aC 1, 7, .inl (fun _ => 0)))] H := hP
  have hD : va_D A [(h0, .inr (8, [.ref q1, .null, .null, .int 0])), (q1, .inr (1, [.ref b4, .ref r5, .int 0])), (b4, .inl (aC 0, 128, .inl (fun _ => 0))), (r5, .inl (aC 1, 128, .inl (fun _ => 0))), (q6, .inl (aC 1, 7, .inl (fun _ => 0)))] := hD
  refine W.widen (k := 4) (n := 266) (Nat.le_of_ble_eq_true rfl) (Nat.le_of_ble_eq_true rfl) ?_
  refine va_putF (D := (dC, dI)) (ci := 8) (v := .ref q6) (ty := (.array .int)) (C := RX10) (T := TX10) (N := 4) hx hb hts (by decide +kernel) tyX10 tyX10_ok nmX10 hown hK hP hD hS 0 rfl rfl 1 (by decide) (hts (.fieldLink RX10 18 "Transversary$Trees" "neighbours" "[I") (by decide +kernel)) (fun _ h9 => h9) rfl hin rfl (by decide +kernel) rfl rfl (Nat.le_of_ble_eq_true rfl) dX10_init_20 (fun H locs hP hD hS => ?_)
  have hP : va_P (dC, dI) rfCl [(h0, .inr (8, [.ref q1, .ref q6, .null, .int 0])), (q1, .inr (1, [.ref b4, .ref r5, .int 0])), (b4, .inl (aC 0, 128, .inl (fun _ => 0))), (r5, .inl (aC 1, 128, .inl (fun _ => 0))), (q6, .inl (aC 1, 7, .inl (fun _ => 0)))] H := hP
  have hD : va_D A [(h0, .inr (8, [.ref q1, .ref q6, .null, .int 0])), (q1, .inr (1, [.ref b4, .ref r5, .int 0])), (b4, .inl (aC 0, 128, .inl (fun _ => 0))), (r5, .inl (aC 1, 128, .inl (fun _ => 0))), (q6, .inl (aC 1, 7, .inl (fun _ => 0)))] := hD
  refine lv_aload_n hx hb dX10_init_23 rfl (lv_at hl 0 rfl) ?_
  refine lv_sipush (v := 128) hx hb dX10_init_24 (by decide) ?_
  refine va_newa (atype := .int) (ty := .int) (a0 := (128, .inl (fun _ => 0))) hx hb (hts (.arrayClass .int) (by decide +kernel)) rfl hK hP hD hS hA (fun _ => rfl) (by decide) (by decide) (by decide) (Nat.le_of_ble_eq_true rfl) (Nat.le_of_ble_eq_true rfl) dX10_init_27 (fun q7 cA9 H hK hP hD hS => ?_)
  obtain rfl : cA9 = aC 1 := rf_sameA hK 6 1 rfl rfl
  have hK := hK.sub (tys' := rfT aC) [0, 1, 2, 3, 4, 5] rfl
  have hP : va_P (dC, dI) rfCl [(h0, .inr (8, [.ref q1, .ref q6, .null, .int 0])), (q1, .inr (1, [.ref b4, .ref r5, .int 0])), (b4, .inl (aC 0, 128, .inl (fun _ => 0))), (r5, .inl (aC 1, 128, .inl (fun _ => 0))), (q6, .inl (aC 1, 7, .inl (fun _ => 0))), (q7, .inl (aC 1, 128, .inl (fun _ => 0)))] H := hP
  have hD : va_D A [(h0, .inr (8, [.ref q1, .ref q6, .null, .int 0])), (q1, .inr (1, [.ref b4, .ref r5, .int 0])), (b4, .inl (aC 0, 128, .inl (fun _ => 0))), (r5, .inl (aC 1, 128, .inl (fun _ => 0))), (q6, .inl (aC 1, 7, .inl (fun _ => 0))), (q7, .inl (aC 1, 128, .inl (fun _ => 0)))] := hD
  refine W.widen (k := 5) (n := 394) (Nat.le_of_ble_eq_true rfl) (Nat.le_of_ble_eq_true rfl) ?_
  refine va_putF (D := (dC, dI)) (ci := 8) (v := .ref q7) (ty := (.array .int)) (C := RX10) (T := TX10) (N := 4) hx hb hts (by decide +kernel) tyX10 tyX10_ok nmX10 hown hK hP hD hS 0 rfl rfl 2 (by decide) (hts (.fieldLink RX10 22 "Transversary$Trees" "widths" "[I") (by decide +kernel)) (fun _ h9 => h9) rfl hin rfl (by decide +kernel) rfl rfl (Nat.le_of_ble_eq_true rfl) dX10_init_29 (fun H locs hP hD hS => ?_)
  have hP : va_P (dC, dI) rfCl [(h0, .inr (8, [.ref q1, .ref q6, .ref q7, .int 0])), (q1, .inr (1, [.ref b4, .ref r5, .int 0])), (b4, .inl (aC 0, 128, .inl (fun _ => 0))), (r5, .inl (aC 1, 128, .inl (fun _ => 0))), (q6, .inl (aC 1, 7, .inl (fun _ => 0))), (q7, .inl (aC 1, 128, .inl (fun _ => 0)))] H := hP
  have hD : va_D A [(h0, .inr (8, [.ref q1, .ref q6, .ref q7, .int 0])), (q1, .inr (1, [.ref b4, .ref r5, .int 0])), (b4, .inl (aC 0, 128, .inl (fun _ => 0))), (r5, .inl (aC 1, 128, .inl (fun _ => 0))), (q6, .inl (aC 1, 7, .inl (fun _ => 0))), (q7, .inl (aC 1, 128, .inl (fun _ => 0)))] := hD
  have hP9 := hP.sub (ws' := []) [] rfl
  have hD9 := hD.sub (ws' := []) [] (by decide) rfl
  refine W.widen (k := 5) (n := 394) (Nat.le_of_ble_eq_true rfl) (Nat.le_of_ble_eq_true rfl) ?_
  exact W.vret hx hb hr (fun t ht hW => ⟨⟨(), rfl, trivial, by rw [ht]; exact hP9, hD9⟩, hS.F ht⟩) hS.2.2 dX10_init_32

set_option maxHeartbeats 4000000 in
set_option maxRecDepth 100000 in
theorem c_X2_init (l : Launch) (dC : Nat → ClassId) (dI : Nat → Nat → Nat) (aC : Nat → ClassId) (sz : Nat) (h0 : Nat)  : Met l yX2_init wsX2_init ({ frames := 2, cells := 5, slots := 200, locals := 40 } : Room) (rf_Pc (dC, dI) aC [.ref h0] [(h0, .inr (9, [.null, .null, .null, .null, .null, .long 0, .long 0]))] sz) (va_Qv (fun (u : Unit) => True) (fun (u : Unit) t => va_P (dC, dI) rfCl [] t.heap ∧ va_D (va_A [(h0, .inr (9, [.null, .null, .null, .null, .null, .long 0, .long 0]))] sz) []) (va_A [(h0, .inr (9, [.null, .null, .null, .null, .null, .long 0, .long 0]))] sz)) 5 200 (va_A [(h0, .inr (9, [.null, .null, .null, .null, .null, .long 0, .long 0]))] sz) := by
  refine Met.ofW (cc := cX2_init) (maxL := 1) (ret := none) (by decide) rfl ?_
  intro p e s m args below meth c s₁ B hml hv
  obtain ⟨rfl, hsz, hP, hKN, hD0⟩ := hv
  obtain ⟨hK, hN⟩ := hKN
  have hx := B.exec
  have hb := B.bytes
  have hr := B.returns
  have hts := atoms_spec (ws := wsX2_init) B.pre
  have hown : s.vm.findClass RX2 = some m.cls := findClass_of_methodNamed B.named
  have hlocks := B.notSynchronized
  have hin : meth.name = "<init>" := (name_of_methodNamed B.named B.method).1
  subst hsz
  have hD := hD0.self (sz := s.heap.size)
  generalize hAe : va_A [(h0, .inr (9, [.null, .null, .null, .null, .null, .long 0, .long 0]))] s.heap.size = A at hD ⊢
  have hA : ∀ q : Nat, s.heap.size ≤ q → A q := fun q h => by rw [← hAe]; exact Or.inr h
  have hS : va_S A s.heap s.heap [] := va_S.rf
  have hP : va_P (dC, dI) rfCl [(h0, .inr (9, [.null, .null, .null, .null, .null, .long 0, .long 0]))] s.heap := hP
  have hl := lv_entry ([.ref h0]) (n := 1) (Nat.le_of_ble_eq_true rfl)
  rw [lg_entry_eq]
  generalize (lg_sl ([.ref h0]) ++ List.replicate (1 - (lg_sl ([.ref h0])).length) Slot.unset).toArray = ls at hl ⊢
  have hl : lv_has ls 1 [(0, .ref h0)] := hl
  refine lv_aload_n hx hb dX2_init_0 rfl (lv_at hl 0 rfl) ?_
  refine W.objInit hx hb hown (hts (.methodLink RX2 3 objectInit) (by decide +kernel)) (hts (.instanceMethod objectInit) (by decide +kernel)) (hts (.code objectInit ⟨#[0xb1]⟩ 1 none) (by decide +kernel)) rfl (by rw [hml]; exact hl.1) rfl dX2_init_1 (Nat.le_of_ble_eq_true rfl) (Nat.le_of_ble_eq_true rfl) ?_
  refine W.eq (g2 := F0 m 4 ls []) rfl ?_
  refine lv_aload_n hx hb dX2_init_4 rfl (lv_at hl 0 rfl) ?_
  refine lv_bipush (v := 40) hx hb dX2_init_5 (by decide) ?_
  refine va_newa (atype := .int) (ty := .int) (a0 := (40, .inl (fun _ => 0))) hx hb (hts (.arrayClass .int) (by decide +kernel)) rfl hK hP hD hS hA (fun _ => rfl) (by decide) (by decide) (by decide) (Nat.le_of_ble_eq_true rfl) (Nat.le_of_ble_eq_true rfl) dX2_init_7 (fun q1 cA9 H hK hP hD hS => ?_)
  obtain rfl : cA9 = aC 1 := rf_sameA hK 6 1 rfl rfl
  have hK := hK.sub (tys' := rfT aC) [0, 1, 2, 3, 4, 5] rfl
  have hP : va_P (dC, dI) rfCl [(h0, .inr (9, [.null, .null, .null, .null, .null, .long 0, .long 0])), (q1, .inl (aC 1, 40, .inl (fun _ => 0)))] H := hP
  have hD : va_D A [(h0, .inr (9, [.null, .null, .null, .null, .null, .long 0, .long 0])), (q1, .inl (aC 1, 40, .inl (fun _ => 0)))] := hD
  refine W.widen (k := 1) (n := 40) (Nat.le_of_ble_eq_true rfl) (Nat.le_of_ble_eq_true rfl) ?_
  refine va_putF (D := (dC, dI)) (ci := 9) (v := .ref q1) (ty := (.array .int)) (C := RX2) (T := TX2) (N := 7) hx hb hts (by decide +kernel) tyX2 tyX2_ok nmX2 hown hK hP hD hS 0 rfl rfl 0 (by decide) (hts (.fieldLink RX2 9 "Transversary$Orders" "lengths" "[I") (by decide +kernel)) (fun _ h9 => h9) rfl hin rfl (by decide +kernel) rfl rfl (Nat.le_of_ble_eq_true rfl) dX2_init_9 (fun H locs hP hD hS => ?_)
  have hP : va_P (dC, dI) rfCl [(h0, .inr (9, [.ref q1, .null, .null, .null, .null, .long 0, .long 0])), (q1, .inl (aC 1, 40, .inl (fun _ => 0)))] H := hP
  have hD : va_D A [(h0, .inr (9, [.ref q1, .null, .null, .null, .null, .long 0, .long 0])), (q1, .inl (aC 1, 40, .inl (fun _ => 0)))] := hD
  refine lv_aload_n hx hb dX2_init_12 rfl (lv_at hl 0 rfl) ?_
  refine lv_bipush (v := 40) hx hb dX2_init_13 (by decide) ?_
  refine va_newa (atype := .int) (ty := .int) (a0 := (40, .inl (fun _ => 0))) hx hb (hts (.arrayClass .int) (by decide +kernel)) rfl hK hP hD hS hA (fun _ => rfl) (by decide) (by decide) (by decide) (Nat.le_of_ble_eq_true rfl) (Nat.le_of_ble_eq_true rfl) dX2_init_15 (fun q2 cA9 H hK hP hD hS => ?_)
  obtain rfl : cA9 = aC 1 := rf_sameA hK 6 1 rfl rfl
  have hK := hK.sub (tys' := rfT aC) [0, 1, 2, 3, 4, 5] rfl
  have hP : va_P (dC, dI) rfCl [(h0, .inr (9, [.ref q1, .null, .null, .null, .null, .long 0, .long 0])), (q1, .inl (aC 1, 40, .inl (fun _ => 0))), (q2, .inl (aC 1, 40, .inl (fun _ => 0)))] H := hP
  have hD : va_D A [(h0, .inr (9, [.ref q1, .null, .null, .null, .null, .long 0, .long 0])), (q1, .inl (aC 1, 40, .inl (fun _ => 0))), (q2, .inl (aC 1, 40, .inl (fun _ => 0)))] := hD
  refine W.widen (k := 2) (n := 80) (Nat.le_of_ble_eq_true rfl) (Nat.le_of_ble_eq_true rfl) ?_
  refine va_putF (D := (dC, dI)) (ci := 9) (v := .ref q2) (ty := (.array .int)) (C := RX2) (T := TX2) (N := 7) hx hb hts (by decide +kernel) tyX2 tyX2_ok nmX2 hown hK hP hD hS 0 rfl rfl 1 (by decide) (hts (.fieldLink RX2 15 "Transversary$Orders" "upperOf" "[I") (by decide +kernel)) (fun _ h9 => h9) rfl hin rfl (by decide +kernel) rfl rfl (Nat.le_of_ble_eq_true rfl) dX2_init_17 (fun H locs hP hD hS => ?_)
  have hP : va_P (dC, dI) rfCl [(h0, .inr (9, [.ref q1, .ref q2, .null, .null, .null, .long 0, .long 0])), (q1, .inl (aC 1, 40, .inl (fun _ => 0))), (q2, .inl (aC 1, 40, .inl (fun _ => 0)))] H := hP
  have hD : va_D A [(h0, .inr (9, [.ref q1, .ref q2, .null, .null, .null, .long 0, .long 0])), (q1, .inl (aC 1, 40, .inl (fun _ => 0))), (q2, .inl (aC 1, 40, .inl (fun _ => 0)))] := hD
  refine lv_aload_n hx hb dX2_init_20 rfl (lv_at hl 0 rfl) ?_
  refine lv_bipush (v := 40) hx hb dX2_init_21 (by decide) ?_
  refine va_newa (atype := .int) (ty := .int) (a0 := (40, .inl (fun _ => 0))) hx hb (hts (.arrayClass .int) (by decide +kernel)) rfl hK hP hD hS hA (fun _ => rfl) (by decide) (by decide) (by decide) (Nat.le_of_ble_eq_true rfl) (Nat.le_of_ble_eq_true rfl) dX2_init_23 (fun q3 cA9 H hK hP hD hS => ?_)
  obtain rfl : cA9 = aC 1 := rf_sameA hK 6 1 rfl rfl
  have hK := hK.sub (tys' := rfT aC) [0, 1, 2, 3, 4, 5] rfl
  have hP : va_P (dC, dI) rfCl [(h0, .inr (9, [.ref q1, .ref q2, .null, .null, .null, .long 0, .long 0])), (q1, .inl (aC 1, 40, .inl (fun _ => 0))), (q2, .inl (aC 1, 40, .inl (fun _ => 0))), (q3, .inl (aC 1, 40, .inl (fun _ => 0)))] H := hP
  have hD : va_D A [(h0, .inr (9, [.ref q1, .ref q2, .null, .null, .null, .long 0, .long 0])), (q1, .inl (aC 1, 40, .inl (fun _ => 0))), (q2, .inl (aC 1, 40, .inl (fun _ => 0))), (q3, .inl (aC 1, 40, .inl (fun _ => 0)))] := hD
  refine W.widen (k := 3) (n := 120) (Nat.le_of_ble_eq_true rfl) (Nat.le_of_ble_eq_true rfl) ?_
  refine va_putF (D := (dC, dI)) (ci := 9) (v := .ref q3) (ty := (.array .int)) (C := RX2) (T := TX2) (N := 7) hx hb hts (by decide +kernel) tyX2 tyX2_ok nmX2 hown hK hP hD hS 0 rfl rfl 2 (by decide) (hts (.fieldLink RX2 18 "Transversary$Orders" "lowerOf" "[I") (by decide +kernel)) (fun _ h9 => h9) rfl hin rfl (by decide +kernel) rfl rfl (Nat.le_of_ble_eq_true rfl) dX2_init_25 (fun H locs hP hD hS => ?_)
  have hP : va_P (dC, dI) rfCl [(h0, .inr (9, [.ref q1, .ref q2, .ref q3, .null, .null, .long 0, .long 0])), (q1, .inl (aC 1, 40, .inl (fun _ => 0))), (q2, .inl (aC 1, 40, .inl (fun _ => 0))), (q3, .inl (aC 1, 40, .inl (fun _ => 0)))] H := hP
  have hD : va_D A [(h0, .inr (9, [.ref q1, .ref q2, .ref q3, .null, .null, .long 0, .long 0])), (q1, .inl (aC 1, 40, .inl (fun _ => 0))), (q2, .inl (aC 1, 40, .inl (fun _ => 0))), (q3, .inl (aC 1, 40, .inl (fun _ => 0)))] := hD
  refine lv_aload_n hx hb dX2_init_28 rfl (lv_at hl 0 rfl) ?_
  refine lv_bipush (v := 40) hx hb dX2_init_29 (by decide) ?_
  refine va_newa (atype := .int) (ty := .int) (a0 := (40, .inl (fun _ => 0))) hx hb (hts (.arrayClass .int) (by decide +kernel)) rfl hK hP hD hS hA (fun _ => rfl) (by decide) (by decide) (by decide) (Nat.le_of_ble_eq_true rfl) (Nat.le_of_ble_eq_true rfl) dX2_init_31 (fun q4 cA9 H hK hP hD hS => ?_)
  obtain rfl : cA9 = aC 1 := rf_sameA hK 6 1 rfl rfl
  have hK := hK.sub (tys' := rfT aC) [0, 1, 2, 3, 4, 5] rfl
  have hP : va_P (dC, dI) rfCl [(h0, .inr (9, [.ref q1, .ref q2, .ref q3, .null, .null, .long 0, .long 0])), (q1, .inl (aC 1, 40, .inl (fun _ => 0))), (q2, .inl (aC 1, 40, .inl (fun _ => 0))), (q3, .inl (aC 1, 40, .inl (fun _ => 0))), (q4, .inl (aC 1, 40, .inl (fun _ => 0)))] H := hP
  have hD : va_D A [(h0, .inr (9, [.ref q1, .ref q2, .ref q3, .null, .null, .long 0, .long 0])), (q1, .inl (aC 1, 40, .inl (fun _ => 0))), (q2, .inl (aC 1, 40, .inl (fun _ => 0))), (q3, .inl (aC 1, 40, .inl (fun _ => 0))), (q4, .inl (aC 1, 40, .inl (fun _ => 0)))] := hD
  refine W.widen (k := 4) (n := 160) (Nat.le_of_ble_eq_true rfl) (Nat.le_of_ble_eq_true rfl) ?_
  refine va_putF (D := (dC, dI)) (ci := 9) (v := .ref q4) (ty := (.array .int)) (C := RX2) (T := TX2) (N := 7) hx hb hts (by decide +kernel) tyX2 tyX2_ok nmX2 hown hK hP hD hS 0 rfl rfl 3 (by decide) (hts (.fieldLink RX2 21 "Transversary$Orders" "reachedFrom" "[I") (by decide +kernel)) (fun _ h9 => h9) rfl hin rfl (by decide +kernel) rfl rfl (Nat.le_of_ble_eq_true rfl) dX2_init_33 (fun H locs hP hD hS => ?_)
  have hP : va_P (dC, dI) rfCl [(h0, .inr (9, [.ref q1, .ref q2, .ref q3, .ref q4, .null, .long 0, .long 0])), (q1, .inl (aC 1, 40, .inl (fun _ => 0))), (q2, .inl (aC 1, 40, .inl (fun _ => 0))), (q3, .inl (aC 1, 40, .inl (fun _ => 0))), (q4, .inl (aC 1, 40, .inl (fun _ => 0)))] H := hP
  have hD : va_D A [(h0, .inr (9, [.ref q1, .ref q2, .ref q3, .ref q4, .null, .long 0, .long 0])), (q1, .inl (aC 1, 40, .inl (fun _ => 0))), (q2, .inl (aC 1, 40, .inl (fun _ => 0))), (q3, .inl (aC 1, 40, .inl (fun _ => 0))), (q4, .inl (aC 1, 40, .inl (fun _ => 0)))] := hD
  refine lv_aload_n hx hb dX2_init_36 rfl (lv_at hl 0 rfl) ?_
  refine lv_bipush (v := 40) hx hb dX2_init_37 (by decide) ?_
  refine va_newa (atype := .int) (ty := .int) (a0 := (40, .inl (fun _ => 0))) hx hb (hts (.arrayClass .int) (by decide +kernel)) rfl hK hP hD hS hA (fun _ => rfl) (by decide) (by decide) (by decide) (Nat.le_of_ble_eq_true rfl) (Nat.le_of_ble_eq_true rfl) dX2_init_39 (fun q5 cA9 H hK hP hD hS => ?_)
  obtain rfl : cA9 = aC 1 := rf_sameA hK 6 1 rfl rfl
  have hK := hK.sub (tys' := rfT aC) [0, 1, 2, 3, 4, 5] rfl
  have hP : va_P (dC, dI) rfCl [(h0, .inr (9, [.ref q1, .ref q2, .ref q3, .ref q4, .null, .long 0, .long 0])), (q1, .inl (aC 1, 40, .inl (fun _ => 0))), (q2, .inl (aC 1, 40, .inl (fun _ => 0))), (q3, .inl (aC 1, 40, .inl (fun _ => 0))), (q4, .inl (aC 1, 40, .inl (fun _ => 0))), (q5, .inl (aC 1, 40, .inl (fun _ => 0)))] H := hP
  have hD : va_D A [(h0, .inr (9, [.ref q1, .ref q2, .ref q3, .ref q4, .null, .long 0, .long 0])), (q1, .inl (aC 1, 40, .inl (fun _ => 0))), (q2, .inl (aC 1, 40, .inl (fun _ => 0))), (q3, .inl (aC 1, 40, .inl (fun _ => 0))), (q4, .inl (aC 1, 40, .inl (fun _ => 0))), (q5, .inl (aC 1, 40, .inl (fun _ => 0)))] := hD
  refine W.widen (k := 5) (n := 200) (Nat.le_of_ble_eq_true rfl) (Nat.le_of_ble_eq_true rfl) ?_
  refine va_putF (D := (dC, dI)) (ci := 9) (v := .ref q5) (ty := (.array .int)) (C := RX2) (T := TX2) (N := 7) hx hb hts (by decide +kernel) tyX2 tyX2_ok nmX2 hown hK hP hD hS 0 rfl rfl 4 (by decide) (hts (.fieldLink RX2 24 "Transversary$Orders" "queue" "[I") (by decide +kernel)) (fun _ h9 => h9) rfl hin rfl (by decide +kernel) rfl rfl (Nat.le_of_ble_eq_true rfl) dX2_init_41 (fun H locs hP hD hS => ?_)
  have hP : va_P (dC, dI) rfCl [(h0, .inr (9, [.ref q1, .ref q2, .ref q3, .ref q4, .ref q5, .long 0, .long 0])), (q1, .inl (aC 1, 40, .inl (fun _ => 0))), (q2, .inl (aC 1, 40, .inl (fun _ => 0))), (q3, .inl (aC 1, 40, .inl (fun _ => 0))), (q4, .inl (aC 1, 40, .inl (fun _ => 0))), (q5, .inl (aC 1, 40, .inl (fun _ => 0)))] H := hP
  have hD : va_D A [(h0, .inr (9, [.ref q1, .ref q2, .ref q3, .ref q4, .ref q5, .long 0, .long 0])), (q1, .inl (aC 1, 40, .inl (fun _ => 0))), (q2, .inl (aC 1, 40, .inl (fun _ => 0))), (q3, .inl (aC 1, 40, .inl (fun _ => 0))), (q4, .inl (aC 1, 40, .inl (fun _ => 0))), (q5, .inl (aC 1, 40, .inl (fun _ => 0)))] := hD
  have hP9 := hP.sub (ws' := []) [] rfl
  have hD9 := hD.sub (ws' := []) [] (by decide) rfl
  refine W.widen (k := 5) (n := 200) (Nat.le_of_ble_eq_true rfl) (Nat.le_of_ble_eq_true rfl) ?_
  exact W.vret hx hb hr (fun t ht hW => ⟨⟨(), rfl, trivial, by rw [ht]; exact hP9, hD9⟩, hS.F ht⟩) hS.2.2 dX2_init_44

set_option maxHeartbeats 4000000 in
set_option maxRecDepth 100000 in
theorem c_X9_init (l : Launch) (dC : Nat → ClassId) (dI : Nat → Nat → Nat) (aC : Nat → ClassId) (sz : Nat) (h0 : Nat)  : Met l yX9_init wsX9_init ({ frames := 2, cells := 12, slots := 383, locals := 40 } : Room) (rf_Pc (dC, dI) aC [.ref h0] [(h0, .inr (10, [.null, .null, .null, .null, .null, .int 0]))] sz) (va_Qv (fun (u : Unit) => True) (fun (u : Unit) t => va_P (dC, dI) rfCl [] t.heap ∧ va_D (va_A [(h0, .inr (10, [.null, .null, .null, .null, .null, .int 0]))] sz) []) (va_A [(h0, .inr (10, [.null, .null, .null, .null, .null, .int 0]))] sz)) 12 383 (va_A [(h0, .inr (10, [.null, .null, .null, .null, .null, .int 0]))] sz) := by
  refine Met.ofW (cc := cX9_init) (maxL := 1) (ret := none) (by decide) rfl ?_
  intro p e s m args below meth c s₁ B hml hv
  obtain ⟨rfl, hsz, hP, hKN, hD0⟩ := hv
  obtain ⟨hK, hN⟩ := hKN
  have hx := B.exec
  have hb := B.bytes
  have hr := B.returns
  have hts := atoms_spec (ws := wsX9_init) B.pre
  have hown : s.vm.findClass RX9 = some m.cls := findClass_of_methodNamed B.named
  have hlocks := B.notSynchronized
  have hin : meth.name = "<init>" := (name_of_methodNamed B.named B.method).1
  subst hsz
  have hD := hD0.self (sz := s.heap.size)
  generalize hAe : va_A [(h0, .inr (10, [.null, .null, .null, .null, .null, .int 0]))] s.heap.size = A at hD ⊢
  have hA : ∀ q : Nat, s.heap.size ≤ q → A q := fun q h => by rw [← hAe]; exact Or.inr h
  have hS : va_S A s.heap s.heap [] := va_S.rf
  have hP : va_P (dC, dI) rfCl [(h0, .inr (10, [.null, .null, .null, .null, .null, .int 0]))] s.heap := hP
  have hl := lv_entry ([.ref h0]) (n := 1) (Nat.le_of_ble_eq_true rfl)
  rw [lg_entry_eq]
  generalize (lg_sl ([.ref h0]) ++ List.replicate (1 - (lg_sl ([.ref h0])).length) Slot.unset).toArray = ls at hl ⊢
  have hl : lv_has ls 1 [(0, .ref h0)] := hl
  refine lv_aload_n hx hb dX9_init_0 rfl (lv_at hl 0 rfl) ?_
  refine W.objInit hx hb hown (hts (.methodLink RX9 3 objectInit) (by decide +kernel)) (hts (.instanceMethod objectInit) (by decide +kernel)) (hts (.code objectInit ⟨#[0xb1]⟩ 1 none) (by decide +kernel)) rfl (by rw [hml]; exact hl.1) rfl dX9_init_1 (Nat.le_of_ble_eq_true rfl) (Nat.le_of_ble_eq_true rfl) ?_
  refine W.eq (g2 := F0 m 4 ls []) rfl ?_
  refine lv_aload_n hx hb dX9_init_4 rfl (lv_at hl 0 rfl) ?_
  refine lv_sipush (v := 128) hx hb dX9_init_5 (by decide) ?_
  refine va_newa (atype := .boolean) (ty := .boolean) (a0 := (128, .inl (fun _ => 0))) hx hb (hts (.arrayClass .boolean) (by decide +kernel)) rfl hK hP hD hS hA (fun _ => rfl) (by decide) (by decide) (by decide) (Nat.le_of_ble_eq_true rfl) (Nat.le_of_ble_eq_true rfl) dX9_init_8 (fun q1 cA9 H hK hP hD hS => ?_)
  obtain rfl : cA9 = aC 0 := rf_sameA hK 6 0 rfl rfl
  have hK := hK.sub (tys' := rfT aC) [0, 1, 2, 3, 4, 5] rfl
  have hP : va_P (dC, dI) rfCl [(h0, .inr (10, [.null, .null, .null, .null, .null, .int 0])), (q1, .inl (aC 0, 128, .inl (fun _ => 0)))] H := hP
  have hD : va_D A [(h0, .inr (10, [.null, .null, .null, .null, .null, .int 0])), (q1, .inl (aC 0, 128, .inl (fun _ => 0)))] := hD
  refine W.widen (k := 1) (n := 128) (Nat.le_of_ble_eq_true rfl) (Nat.le_of_ble_eq_true rfl) ?_
  refine va_putF (D := (dC, dI)) (ci := 10) (v := .ref q1) (ty := (.array .boolean)) (C := RX9) (T := TX9) (N := 6) hx hb hts (by decide +kernel) tyX9 tyX9_ok nmX9 hown hK hP hD hS 0 rfl rfl 0 (by decide) (hts (.fieldLink RX9 9 "Transversary$Tables" "isFace" "[Z") (by decide +kernel)) (fun _ h9 => h9) rfl hin rfl (by decide +kernel) rfl rfl (Nat.le_of_ble_eq_true rfl) dX9_init_10 (fun H locs hP hD hS => ?_)
  have hP : va_P (dC, dI) rfCl [(h0, .inr (10, [.ref q1, .null, .null, .null, .null, .int 0])), (q1, .inl (aC 0, 128, .inl (fun _ => 0)))] H := hP
  have hD : va_D A [(h0, .inr (10, [.ref q1, .null, .null, .null, .null, .int 0])), (q1, .inl (aC 0, 128, .inl (fun _ => 0)))] := hD
  refine lv_aload_n hx hb dX9_init_13 rfl (lv_at hl 0 rfl) ?_
  refine lv_sipush (v := 128) hx hb dX9_init_14 (by decide) ?_
  refine va_newa (atype := .int) (ty := .int) (a0 := (128, .inl (fun _ => 0))) hx hb (hts (.arrayClass .int) (by decide +kernel)) rfl hK hP hD hS hA (fun _ => rfl) (by decide) (by decide) (by decide) (Nat.le_of_ble_eq_true rfl) (Nat.le_of_ble_eq_true rfl) dX9_init_17 (fun q2 cA9 H hK hP hD hS => ?_)
  obtain rfl : cA9 = aC 1 := rf_sameA hK 6 1 rfl rfl
  have hK := hK.sub (tys' := rfT aC) [0, 1, 2, 3, 4, 5] rfl
  have hP : va_P (dC, dI) rfCl [(h0, .inr (10, [.ref q1, .null, .null, .null, .null, .int 0])), (q1, .inl (aC 0, 128, .inl (fun _ => 0))), (q2, .inl (aC 1, 128, .inl (fun _ => 0)))] H := hP
  have hD : va_D A [(h0, .inr (10, [.ref q1, .null, .null, .null, .null, .int 0])), (q1, .inl (aC 0, 128, .inl (fun _ => 0))), (q2, .inl (aC 1, 128, .inl (fun _ => 0)))] := hD
  refine W.widen (k := 2) (n := 256) (Nat.le_of_ble_eq_true rfl) (Nat.le_of_ble_eq_true rfl) ?_
  refine va_putF (D := (dC, dI)) (ci := 10) (v := .ref q2) (ty := (.array .int)) (C := RX9) (T := TX9) (N := 6) hx hb hts (by decide +kernel) tyX9 tyX9_ok nmX9 hown hK hP hD hS 0 rfl rfl 1 (by decide) (hts (.fieldLink RX9 15 "Transversary$Tables" "placeOfFace" "[I") (by decide +kernel)) (fun _ h9 => h9) rfl hin rfl (by decide +kernel) rfl rfl (Nat.le_of_ble_eq_true rfl) dX9_init_19 (fun H locs hP hD hS => ?_)
  have hP : va_P (dC, dI) rfCl [(h0, .inr (10, [.ref q1, .ref q2, .null, .null, .null, .int 0])), (q1, .inl (aC 0, 128, .inl (fun _ => 0))), (q2, .inl (aC 1, 128, .inl (fun _ => 0)))] H := hP
  have hD : va_D A [(h0, .inr (10, [.ref q1, .ref q2, .null, .null, .null, .int 0])), (q1, .inl (aC 0, 128, .inl (fun _ => 0))), (q2, .inl (aC 1, 128, .inl (fun _ => 0)))] := hD
  refine lv_aload_n hx hb dX9_init_22 rfl (lv_at hl 0 rfl) ?_
  refine lv_bipush (v := 64) hx hb dX9_init_23 (by decide) ?_
  refine va_newa (atype := .long) (ty := .long) (a0 := (64, .inr (.inl (fun _ => 0)))) hx hb (hts (.arrayClass .long) (by decide +kernel)) rfl hK hP hD hS hA (fun _ => rfl) (by decide) (by decide) (by decide) (Nat.le_of_ble_eq_true rfl) (Nat.le_of_ble_eq_true rfl) dX9_init_25 (fun q3 cA9 H hK hP hD hS => ?_)
  obtain rfl : cA9 = aC 2 := rf_sameA hK 6 2 rfl rfl
  have hK := hK.sub (tys' := rfT aC) [0, 1, 2, 3, 4, 5] rfl
  have hP : va_P (dC, dI) rfCl [(h0, .inr (10, [.ref q1, .ref q2, .null, .null, .null, .int 0])), (q1, .inl (aC 0, 128, .inl (fun _ => 0))), (q2, .inl (aC 1, 128, .inl (fun _ => 0))), (q3, .inl (aC 2, 64, .inr (.inl (fun _ => 0))))] H := hP
  have hD : va_D A [(h0, .inr (10, [.ref q1, .ref q2, .null, .null, .null, .int 0])), (q1, .inl (aC 0, 128, .inl (fun _ => 0))), (q2, .inl (aC 1, 128, .inl (fun _ => 0))), (q3, .inl (aC 2, 64, .inr (.inl (fun _ => 0))))] := hD
  refine W.widen (k := 3) (n := 320) (Nat.le_of_ble_eq_true rfl) (Nat.le_of_ble_eq_true rfl) ?_
  refine va_putF (D := (dC, dI)) (ci := 10) (v := .ref q3) (ty := (.array .long)) (C := RX9) (T := TX9) (N := 6) hx hb hts (by decide +kernel) tyX9 tyX9_ok nmX9 hown hK hP hD hS 0 rfl rfl 2 (by decide) (hts (.fieldLink RX9 19 "Transversary$Tables" "pivotRows" "[J") (by decide +kernel)) (fun _ h9 => h9) rfl hin rfl (by decide +kernel) rfl rfl (Nat.le_of_ble_eq_true rfl) dX9_init_27 (fun H locs hP hD hS => ?_)
  have hP : va_P (dC, dI) rfCl [(h0, .inr (10, [.ref q1, .ref q2, .ref q3, .null, .null, .int 0])), (q1, .inl (aC 0, 128, .inl (fun _ => 0))), (q2, .inl (aC 1, 128, .inl (fun _ => 0))), (q3, .inl (aC 2, 64, .inr (.inl (fun _ => 0))))] H := hP
  have hD : va_D A [(h0, .inr (10, [.ref q1, .ref q2, .ref q3, .null, .null, .int 0])), (q1, .inl (aC 0, 128, .inl (fun _ => 0))), (q2, .inl (aC 1, 128, .inl (fun _ => 0))), (q3, .inl (aC 2, 64, .inr (.inl (fun _ => 0))))] := hD
  refine lv_aload_n hx hb dX9_init_30 rfl (lv_at hl 0 rfl) ?_
  refine lv_bipush (v := 7) hx hb dX9_init_31 (by decide) ?_
  refine lv_bipush (v := 7) hx hb dX9_init_33 (by decide) ?_
  refine va_mna (X := [(h0, .inr (10, [.ref q1, .ref q2, .ref q3, .null, .null, .int 0])), (q1, .inl (aC 0, 128, .inl (fun _ => 0))), (q2, .inl (aC 1, 128, .inl (fun _ => 0))), (q3, .inl (aC 2, 64, .inr (.inl (fun _ => 0))))]) (L := []) (f := fun _ => .inl (aC 2, 0, .inl (fun _ => 0))) (ty := .int) (cy := aC 1) (N' := 7) (K' := 7) (z := (7, .inl (fun _ => 0))) hx hb hown (by rw [show "[" ++ (FieldType.array .int).toString = "[[I" from by decide +kernel]; exact hts (.classLink RX9 23 "[[I") (by decide +kernel)) hN.2.2.2.2.1 (hts (.arrayClass .int) (by decide +kernel)) (by rw [show (FieldType.array .int).toString = "[" ++ FieldType.toString .int from by decide +kernel]; exact (hK.2 1 _ rfl).2) hK hP hD hS hA (by decide) (by decide) (by decide) (by decide) (by decide) (by decide) (by decide) rfl rfl (Nat.le_of_ble_eq_true rfl) (Nat.le_of_ble_eq_true rfl) (fun c9 => rf_innerI c9 7) dX9_init_35 (fun q4 r9 cA9 H _ _ hK hP hD hS => ?_)
  have hK := hK.sub (tys' := rfT aC) [0, 1, 2, 3, 4, 5] rfl
  have hP := hP.sub (ws' := [(h0, .inr (10, [.ref q1, .ref q2, .ref q3, .null, .null, .int 0])), (q1, .inl (aC 0, 128, .inl (fun _ => 0))), (q2, .inl (aC 1, 128, .inl (fun _ => 0))), (q3, .inl (aC 2, 64, .inr (.inl (fun _ => 0))))]) [0, 1, 2, 3] rfl
  have hD := hD.sub (ws' := [(h0, .inr (10, [.ref q1, .ref q2, .ref q3, .null, .null, .int 0])), (q1, .inl (aC 0, 128, .inl (fun _ => 0))), (q2, .inl (aC 1, 128, .inl (fun _ => 0))), (q3, .inl (aC 2, 64, .inr (.inl (fun _ => 0))))]) [0, 1, 2, 3] (by decide) rfl
  have hP : va_P (dC, dI) rfCl [(h0, .inr (10, [.ref q1, .ref q2, .ref q3, .null, .null, .int 0])), (q1, .inl (aC 0, 128, .inl (fun _ => 0))), (q2, .inl (aC 1, 128, .inl (fun _ => 0))), (q3, .inl (aC 2, 64, .inr (.inl (fun _ => 0))))] H := hP
  have hD : va_D A [(h0, .inr (10, [.ref q1, .ref q2, .ref q3, .null, .null, .int 0])), (q1, .inl (aC 0, 128, .inl (fun _ => 0))), (q2, .inl (aC 1, 128, .inl (fun _ => 0))), (q3, .inl (aC 2, 64, .inr (.inl (fun _ => 0))))] := hD
  refine W.widen (k := 11) (n := 376) (Nat.le_of_ble_eq_true rfl) (Nat.le_of_ble_eq_true rfl) ?_
  refine va_putF (D := (dC, dI)) (ci := 10) (v := .ref q4) (ty := (.array (.array .int))) (C := RX9) (T := TX9) (N := 6) hx hb hts (by decide +kernel) tyX9 tyX9_ok nmX9 hown hK hP hD hS 0 rfl rfl 3 (by decide) (hts (.fieldLink RX9 25 "Transversary$Tables" "reduced" "[[I") (by decide +kernel)) (fun _ h9 => h9) rfl hin rfl (by decide +kernel) rfl rfl (Nat.le_of_ble_eq_true rfl) dX9_init_39 (fun H locs hP hD hS => ?_)
  have hP : va_P (dC, dI) rfCl [(h0, .inr (10, [.ref q1, .ref q2, .ref q3, .ref q4, .null, .int 0])), (q1, .inl (aC 0, 128, .inl (fun _ => 0))), (q2, .inl (aC 1, 128, .inl (fun _ => 0))), (q3, .inl (aC 2, 64, .inr (.inl (fun _ => 0))))] H := hP
  have hD : va_D A [(h0, .inr (10, [.ref q1, .ref q2, .ref q3, .ref q4, .null, .int 0])), (q1, .inl (aC 0, 128, .inl (fun _ => 0))), (q2, .inl (aC 1, 128, .inl (fun _ => 0))), (q3, .inl (aC 2, 64, .inr (.inl (fun _ => 0))))] := hD
  refine lv_aload_n hx hb dX9_init_42 rfl (lv_at hl 0 rfl) ?_
  refine lv_bipush (v := 7) hx hb dX9_init_43 (by decide) ?_
  refine va_newa (atype := .int) (ty := .int) (a0 := (7, .inl (fun _ => 0))) hx hb (hts (.arrayClass .int) (by decide +kernel)) rfl hK hP hD hS hA (fun _ => rfl) (by decide) (by decide) (by decide) (Nat.le_of_ble_eq_true rfl) (Nat.le_of_ble_eq_true rfl) dX9_init_45 (fun q5 cA9 H hK hP hD hS => ?_)
  obtain rfl : cA9 = aC 1 := rf_sameA hK 6 1 rfl rfl
  have hK := hK.sub (tys' := rfT aC) [0, 1, 2, 3, 4, 5] rfl
  have hP : va_P (dC, dI) rfCl [(h0, .inr (10, [.ref q1, .ref q2, .ref q3, .ref q4, .null, .int 0])), (q1, .inl (aC 0, 128, .inl (fun _ => 0))), (q2, .inl (aC 1, 128, .inl (fun _ => 0))), (q3, .inl (aC 2, 64, .inr (.inl (fun _ => 0)))), (q5, .inl (aC 1, 7, .inl (fun _ => 0)))] H := hP
  have hD : va_D A [(h0, .inr (10, [.ref q1, .ref q2, .ref q3, .ref q4, .null, .int 0])), (q1, .inl (aC 0, 128, .inl (fun _ => 0))), (q2, .inl (aC 1, 128, .inl (fun _ => 0))), (q3, .inl (aC 2, 64, .inr (.inl (fun _ => 0)))), (q5, .inl (aC 1, 7, .inl (fun _ => 0)))] := hD
  refine W.widen (k := 12) (n := 383) (Nat.le_of_ble_eq_true rfl) (Nat.le_of_ble_eq_true rfl) ?_
  refine va_putF (D := (dC, dI)) (ci := 10) (v := .ref q5) (ty := (.array .int)) (C := RX9) (T := TX9) (N := 6) hx hb hts (by decide +kernel) tyX9 tyX9_ok nmX9 hown hK hP hD hS 0 rfl rfl 4 (by decide) (hts (.fieldLink RX9 28 "Transversary$Tables" "line" "[I") (by decide +kernel)) (fun _ h9 => h9) rfl hin rfl (by decide +kernel) rfl rfl (Nat.le_of_ble_eq_true rfl) dX9_init_47 (fun H locs hP hD hS => ?_)
  have hP : va_P (dC, dI) rfCl [(h0, .inr (10, [.ref q1, .ref q2, .ref q3, .ref q4, .ref q5, .int 0])), (q1, .inl (aC 0, 128, .inl (fun _ => 0))), (q2, .inl (aC 1, 128, .inl (fun _ => 0))), (q3, .inl (aC 2, 64, .inr (.inl (fun _ => 0)))), (q5, .inl (aC 1, 7, .inl (fun _ => 0)))] H := hP
  have hD : va_D A [(h0, .inr (10, [.ref q1, .ref q2, .ref q3, .ref q4, .ref q5, .int 0])), (q1, .inl (aC 0, 128, .inl (fun _ => 0))), (q2, .inl (aC 1, 128, .inl (fun _ => 0))), (q3, .inl (aC 2, 64, .inr (.inl (fun _ => 0)))), (q5, .inl (aC 1, 7, .inl (fun _ => 0)))] := hD
  have hP9 := hP.sub (ws' := []) [] rfl
  have hD9 := hD.sub (ws' := []) [] (by decide) rfl
  refine W.widen (k := 12) (n := 383) (Nat.le_of_ble_eq_true rfl) (Nat.le_of_ble_eq_true rfl) ?_
  exact W.vret hx hb hr (fun t ht hW => ⟨⟨(), rfl, trivial, by rw [ht]; exact hP9, hD9⟩, hS.F ht⟩) hS.2.2 dX9_init_50

set_option maxHeartbeats 4000000 in
set_option maxRecDepth 100000 in
theorem c_X5_init (l : Launch) (dC : Nat → ClassId) (dI : Nat → Nat → Nat) (aC : Nat → ClassId) (sz : Nat) (h0 cv : Nat)  : Met l yX5_init wsX5_init ({ frames := 2, cells := 4, slots := 519, locals := 40 } : Room) (rf_Pc (dC, dI) aC [.ref h0, .ref cv] [(h0, .inr (4, [.null, .null, .null, .null, .null]))] sz) (va_Qv (fun (u : Nat × Nat × Nat × Nat) => True) (fun (u : Nat × Nat × Nat × Nat) t => va_P (dC, dI) rfCl [(h0, .inr (4, [.ref cv, .ref (u.1), .ref (u.2.1), .ref (u.2.2.1), .ref (u.2.2.2)])), ((u.2.2.2), .inl (aC 2, 256, .inr (.inl (fun _ => 0))))] t.heap ∧ va_D (va_A [(h0, .inr (4, [.null, .null, .null, .null, .null]))] sz) [(h0, .inr (4, [.ref cv, .ref (u.1), .ref (u.2.1), .ref (u.2.2.1), .ref (u.2.2.2)])), ((u.2.2.2), .inl (aC 2, 256, .inr (.inl (fun _ => 0))))]) (va_A [(h0, .inr (4, [.null, .null, .null, .null, .null]))] sz)) 4 519 (va_A [(h0, .inr (4, [.null, .null, .null, .null, .null]))] sz) := by
  refine Met.ofW (cc := cX5_init) (maxL := 2) (ret := none) (by decide) rfl ?_
  intro p e s m args below meth c s₁ B hml hv
  obtain ⟨rfl, hsz, hP, hKN, hD0⟩ := hv
  obtain ⟨hK, hN⟩ := hKN
  have hx := B.exec
  have hb := B.bytes
  have hr := B.returns
  have hts := atoms_spec (ws := wsX5_init) B.pre
  have hown : s.vm.findClass RX5 = some m.cls := findClass_of_methodNamed B.named
  have hlocks := B.notSynchronized
  have hin : meth.name = "<init>" := (name_of_methodNamed B.named B.method).1
  subst hsz
  have hD := hD0.self (sz := s.heap.size)
  generalize hAe : va_A [(h0, .inr (4, [.null, .null, .null, .null, .null]))] s.heap.size = A at hD ⊢
  have hA : ∀ q : Nat, s.heap.size ≤ q → A q := fun q h => by rw [← hAe]; exact Or.inr h
  have hS : va_S A s.heap s.heap [] := va_S.rf
  have hP : va_P (dC, dI) rfCl [(h0, .inr (4, [.null, .null, .null, .null, .null]))] s.heap := hP
  have hl := lv_entry ([.ref h0, .ref cv]) (n := 2) (Nat.le_of_ble_eq_true rfl)
  rw [lg_entry_eq]
  generalize (lg_sl ([.ref h0, .ref cv]) ++ List.replicate (2 - (lg_sl ([.ref h0, .ref cv])).length) Slot.unset).toArray = ls at hl ⊢
  have hl : lv_has ls 2 [(0, .ref h0), (1, .ref cv)] := hl
  refine lv_aload_n hx hb dX5_init_0 rfl (lv_at hl 0 rfl) ?_
  refine W.objInit hx hb hown (hts (.methodLink RX5 3 objectInit) (by decide +kernel)) (hts (.instanceMethod objectInit) (by decide +kernel)) (hts (.code objectInit ⟨#[0xb1]⟩ 1 none) (by decide +kernel)) rfl (by rw [hml]; exact hl.1) rfl dX5_init_1 (Nat.le_of_ble_eq_true rfl) (Nat.le_of_ble_eq_true rfl) ?_
  refine W.eq (g2 := F0 m 4 ls []) rfl ?_
  refine lv_aload_n hx hb dX5_init_4 rfl (lv_at hl 0 rfl) ?_
  refine lv_bipush (v := 7) hx hb dX5_init_5 (by decide) ?_
  refine va_newa (atype := .int) (ty := .int) (a0 := (7, .inl (fun _ => 0))) hx hb (hts (.arrayClass .int) (by decide +kernel)) rfl hK hP hD hS hA (fun _ => rfl) (by decide) (by decide) (by decide) (Nat.le_of_ble_eq_true rfl) (Nat.le_of_ble_eq_true rfl) dX5_init_7 (fun q1 cA9 H hK hP hD hS => ?_)
  obtain rfl : cA9 = aC 1 := rf_sameA hK 6 1 rfl rfl
  have hK := hK.sub (tys' := rfT aC) [0, 1, 2, 3, 4, 5] rfl
  have hP : va_P (dC, dI) rfCl [(h0, .inr (4, [.null, .null, .null, .null, .null])), (q1, .inl (aC 1, 7, .inl (fun _ => 0)))] H := hP
  have hD : va_D A [(h0, .inr (4, [.null, .null, .null, .null, .null])), (q1, .inl (aC 1, 7, .inl (fun _ => 0)))] := hD
  refine W.widen (k := 1) (n := 7) (Nat.le_of_ble_eq_true rfl) (Nat.le_of_ble_eq_true rfl) ?_
  refine va_putF (D := (dC, dI)) (ci := 4) (v := .ref q1) (ty := (.array .int)) (C := RX5) (T := TX5) (N := 5) hx hb hts (by decide +kernel) tyX5 tyX5_ok nmX5 hown hK hP hD hS 0 rfl rfl 1 (by decide) (hts (.fieldLink RX5 9 "Transversary$Rings" "neighbours" "[I") (by decide +kernel)) (fun _ h9 => h9) rfl hin rfl (by decide +kernel) rfl rfl (Nat.le_of_ble_eq_true rfl) dX5_init_9 (fun H locs hP hD hS => ?_)
  have hP : va_P (dC, dI) rfCl [(h0, .inr (4, [.null, .ref q1, .null, .null, .null])), (q1, .inl (aC 1, 7, .inl (fun _ => 0)))] H := hP
  have hD : va_D A [(h0, .inr (4, [.null, .ref q1, .null, .null, .null])), (q1, .inl (aC 1, 7, .inl (fun _ => 0)))] := hD
  refine lv_aload_n hx hb dX5_init_12 rfl (lv_at hl 0 rfl) ?_
  refine lv_sipush (v := 128) hx hb dX5_init_13 (by decide) ?_
  refine va_newa (atype := .int) (ty := .int) (a0 := (128, .inl (fun _ => 0))) hx hb (hts (.arrayClass .int) (by decide +kernel)) rfl hK hP hD hS hA (fun _ => rfl) (by decide) (by decide) (by decide) (Nat.le_of_ble_eq_true rfl) (Nat.le_of_ble_eq_true rfl) dX5_init_16 (fun q2 cA9 H hK hP hD hS => ?_)
  obtain rfl : cA9 = aC 1 := rf_sameA hK 6 1 rfl rfl
  have hK := hK.sub (tys' := rfT aC) [0, 1, 2, 3, 4, 5] rfl
  have hP : va_P (dC, dI) rfCl [(h0, .inr (4, [.null, .ref q1, .null, .null, .null])), (q1, .inl (aC 1, 7, .inl (fun _ => 0))), (q2, .inl (aC 1, 128, .inl (fun _ => 0)))] H := hP
  have hD : va_D A [(h0, .inr (4, [.null, .ref q1, .null, .null, .null])), (q1, .inl (aC 1, 7, .inl (fun _ => 0))), (q2, .inl (aC 1, 128, .inl (fun _ => 0)))] := hD
  refine W.widen (k := 2) (n := 135) (Nat.le_of_ble_eq_true rfl) (Nat.le_of_ble_eq_true rfl) ?_
  refine va_putF (D := (dC, dI)) (ci := 4) (v := .ref q2) (ty := (.array .int)) (C := RX5) (T := TX5) (N := 5) hx hb hts (by decide +kernel) tyX5 tyX5_ok nmX5 hown hK hP hD hS 0 rfl rfl 2 (by decide) (hts (.fieldLink RX5 15 "Transversary$Rings" "ends" "[I") (by decide +kernel)) (fun _ h9 => h9) rfl hin rfl (by decide +kernel) rfl rfl (Nat.le_of_ble_eq_true rfl) dX5_init_18 (fun H locs hP hD hS => ?_)
  have hP : va_P (dC, dI) rfCl [(h0, .inr (4, [.null, .ref q1, .ref q2, .null, .null])), (q1, .inl (aC 1, 7, .inl (fun _ => 0))), (q2, .inl (aC 1, 128, .inl (fun _ => 0)))] H := hP
  have hD : va_D A [(h0, .inr (4, [.null, .ref q1, .ref q2, .null, .null])), (q1, .inl (aC 1, 7, .inl (fun _ => 0))), (q2, .inl (aC 1, 128, .inl (fun _ => 0)))] := hD
  refine lv_aload_n hx hb dX5_init_21 rfl (lv_at hl 0 rfl) ?_
  refine lv_sipush (v := 128) hx hb dX5_init_22 (by decide) ?_
  refine va_newa (atype := .int) (ty := .int) (a0 := (128, .inl (fun _ => 0))) hx hb (hts (.arrayClass .int) (by decide +kernel)) rfl hK hP hD hS hA (fun _ => rfl) (by decide) (by decide) (by decide) (Nat.le_of_ble_eq_true rfl) (Nat.le_of_ble_eq_true rfl) dX5_init_25 (fun q3 cA9 H hK hP hD hS => ?_)
  obtain rfl : cA9 = aC 1 := rf_sameA hK 6 1 rfl rfl
  have hK := hK.sub (tys' := rfT aC) [0, 1, 2, 3, 4, 5] rfl
  have hP : va_P (dC, dI) rfCl [(h0, .inr (4, [.null, .ref q1, .ref q2, .null, .null])), (q1, .inl (aC 1, 7, .inl (fun _ => 0))), (q2, .inl (aC 1, 128, .inl (fun _ => 0))), (q3, .inl (aC 1, 128, .inl (fun _ => 0)))] H := hP
  have hD : va_D A [(h0, .inr (4, [.null, .ref q1, .ref q2, .null, .null])), (q1, .inl (aC 1, 7, .inl (fun _ => 0))), (q2, .inl (aC 1, 128, .inl (fun _ => 0))), (q3, .inl (aC 1, 128, .inl (fun _ => 0)))] := hD
  refine W.widen (k := 3) (n := 263) (Nat.le_of_ble_eq_true rfl) (Nat.le_of_ble_eq_true rfl) ?_
  refine va_putF (D := (dC, dI)) (ci := 4) (v := .ref q3) (ty := (.array .int)) (C := RX5) (T := TX5) (N := 5) hx hb hts (by decide +kernel) tyX5 tyX5_ok nmX5 hown hK hP hD hS 0 rfl rfl 3 (by decide) (hts (.fieldLink RX5 18 "Transversary$Rings" "greatestFree" "[I") (by decide +kernel)) (fun _ h9 => h9) rfl hin rfl (by decide +kernel) rfl rfl (Nat.le_of_ble_eq_true rfl) dX5_init_27 (fun H locs hP hD hS => ?_)
  have hP : va_P (dC, dI) rfCl [(h0, .inr (4, [.null, .ref q1, .ref q2, .ref q3, .null])), (q1, .inl (aC 1, 7, .inl (fun _ => 0))), (q2, .inl (aC 1, 128, .inl (fun _ => 0))), (q3, .inl (aC 1, 128, .inl (fun _ => 0)))] H := hP
  have hD : va_D A [(h0, .inr (4, [.null, .ref q1, .ref q2, .ref q3, .null])), (q1, .inl (aC 1, 7, .inl (fun _ => 0))), (q2, .inl (aC 1, 128, .inl (fun _ => 0))), (q3, .inl (aC 1, 128, .inl (fun _ => 0)))] := hD
  refine lv_aload_n hx hb dX5_init_30 rfl (lv_at hl 0 rfl) ?_
  refine lv_sipush (v := 256) hx hb dX5_init_31 (by decide) ?_
  refine va_newa (atype := .long) (ty := .long) (a0 := (256, .inr (.inl (fun _ => 0)))) hx hb (hts (.arrayClass .long) (by decide +kernel)) rfl hK hP hD hS hA (fun _ => rfl) (by decide) (by decide) (by decide) (Nat.le_of_ble_eq_true rfl) (Nat.le_of_ble_eq_true rfl) dX5_init_34 (fun q4 cA9 H hK hP hD hS => ?_)
  obtain rfl : cA9 = aC 2 := rf_sameA hK 6 2 rfl rfl
  have hK := hK.sub (tys' := rfT aC) [0, 1, 2, 3, 4, 5] rfl
  have hP : va_P (dC, dI) rfCl [(h0, .inr (4, [.null, .ref q1, .ref q2, .ref q3, .null])), (q1, .inl (aC 1, 7, .inl (fun _ => 0))), (q2, .inl (aC 1, 128, .inl (fun _ => 0))), (q3, .inl (aC 1, 128, .inl (fun _ => 0))), (q4, .inl (aC 2, 256, .inr (.inl (fun _ => 0))))] H := hP
  have hD : va_D A [(h0, .inr (4, [.null, .ref q1, .ref q2, .ref q3, .null])), (q1, .inl (aC 1, 7, .inl (fun _ => 0))), (q2, .inl (aC 1, 128, .inl (fun _ => 0))), (q3, .inl (aC 1, 128, .inl (fun _ => 0))), (q4, .inl (aC 2, 256, .inr (.inl (fun _ => 0))))] := hD
  refine W.widen (k := 4) (n := 519) (Nat.le_of_ble_eq_true rfl) (Nat.le_of_ble_eq_true rfl) ?_
  refine va_putF (D := (dC, dI)) (ci := 4) (v := .ref q4) (ty := (.array .long)) (C := RX5) (T := TX5) (N := 5) hx hb hts (by decide +kernel) tyX5 tyX5_ok nmX5 hown hK hP hD hS 0 rfl rfl 4 (by decide) (hts (.fieldLink RX5 21 "Transversary$Rings" "wins" "[J") (by decide +kernel)) (fun _ h9 => h9) rfl hin rfl (by decide +kernel) rfl rfl (Nat.le_of_ble_eq_true rfl) dX5_init_36 (fun H locs hP hD hS => ?_)
  have hP : va_P (dC, dI) rfCl [(h0, .inr (4, [.null, .ref q1, .ref q2, .ref q3, .ref q4])), (q1, .inl (aC 1, 7, .inl (fun _ => 0))), (q2, .inl (aC 1, 128, .inl (fun _ => 0))), (q3, .inl (aC 1, 128, .inl (fun _ => 0))), (q4, .inl (aC 2, 256, .inr (.inl (fun _ => 0))))] H := hP
  have hD : va_D A [(h0, .inr (4, [.null, .ref q1, .ref q2, .ref q3, .ref q4])), (q1, .inl (aC 1, 7, .inl (fun _ => 0))), (q2, .inl (aC 1, 128, .inl (fun _ => 0))), (q3, .inl (aC 1, 128, .inl (fun _ => 0))), (q4, .inl (aC 2, 256, .inr (.inl (fun _ => 0))))] := hD
  refine lv_aload_n hx hb dX5_init_39 rfl (lv_at hl 0 rfl) ?_
  refine lv_aload_n hx hb dX5_init_40 rfl (lv_at hl 1 rfl) ?_
  refine va_putF (D := (dC, dI)) (ci := 4) (v := .ref cv) (ty := (.object "Transversary$Covers")) (C := RX5) (T := TX5) (N := 5) hx hb hts (by decide +kernel) tyX5 tyX5_ok nmX5 hown hK hP hD hS 0 rfl rfl 0 (by decide) (hts (.fieldLink RX5 25 "Transversary$Rings" "covers" "LTransversary$Covers;") (by decide +kernel)) (fun _ h9 => h9) rfl hin rfl (by decide +kernel) rfl rfl (Nat.le_of_ble_eq_true rfl) dX5_init_41 (fun H locs hP hD hS => ?_)
  have hP : va_P (dC, dI) rfCl [(h0, .inr (4, [.ref cv, .ref q1, .ref q2, .ref q3, .ref q4])), (q1, .inl (aC 1, 7, .inl (fun _ => 0))), (q2, .inl (aC 1, 128, .inl (fun _ => 0))), (q3, .inl (aC 1, 128, .inl (fun _ => 0))), (q4, .inl (aC 2, 256, .inr (.inl (fun _ => 0))))] H := hP
  have hD : va_D A [(h0, .inr (4, [.ref cv, .ref q1, .ref q2, .ref q3, .ref q4])), (q1, .inl (aC 1, 7, .inl (fun _ => 0))), (q2, .inl (aC 1, 128, .inl (fun _ => 0))), (q3, .inl (aC 1, 128, .inl (fun _ => 0))), (q4, .inl (aC 2, 256, .inr (.inl (fun _ => 0))))] := hD
  have hP9 := hP.sub (ws' := [(h0, .inr (4, [.ref cv, .ref q1, .ref q2, .ref q3, .ref q4])), (q4, .inl (aC 2, 256, .inr (.inl (fun _ => 0))))]) [0, 4] rfl
  have hD9 := hD.sub (ws' := [(h0, .inr (4, [.ref cv, .ref q1, .ref q2, .ref q3, .ref q4])), (q4, .inl (aC 2, 256, .inr (.inl (fun _ => 0))))]) [0, 4] (by decide) rfl
  refine W.widen (k := 4) (n := 519) (Nat.le_of_ble_eq_true rfl) (Nat.le_of_ble_eq_true rfl) ?_
  exact W.vret hx hb hr (fun t ht hW => ⟨⟨(q1, q2, q3, q4), rfl, trivial, by rw [ht]; exact hP9, hD9⟩, hS.F ht⟩) hS.2.2 dX5_init_44

set_option maxHeartbeats 4000000 in
set_option maxRecDepth 100000 in
theorem c_X1_init (l : Launch) (dC : Nat → ClassId) (dI : Nat → Nat → Nat) (aC : Nat → ClassId) (sz : Nat) (h0 sm : Nat)  : Met l yX1_init wsX1_init ({ frames := 2, cells := 3, slots := 259, locals := 40 } : Room) (rf_Pc (dC, dI) aC [.ref h0, .ref sm] [(h0, .inr (6, [.null, .null]))] sz) (va_Qv (fun (u : Nat) => True) (fun (u : Nat) t => va_P (dC, dI) rfCl [(h0, .inr (6, [.ref sm, .ref u]))] t.heap ∧ va_D (va_A [(h0, .inr (6, [.null, .null]))] sz) [(h0, .inr (6, [.ref sm, .ref u]))]) (va_A [(h0, .inr (6, [.null, .null]))] sz)) 3 259 (va_A [(h0, .inr (6, [.null, .null]))] sz) := by
  refine Met.ofW (cc := cX1_init) (maxL := 2) (ret := none) (by decide) rfl ?_
  intro p e s m args below meth c s₁ B hml hv
  obtain ⟨rfl, hsz, hP, hKN, hD0⟩ := hv
  obtain ⟨hK, hN⟩ := hKN
  have hx := B.exec
  have hb := B.bytes
  have hr := B.returns
  have hts := atoms_spec (ws := wsX1_init) B.pre
  have hown : s.vm.findClass RX1 = some m.cls := findClass_of_methodNamed B.named
  have hlocks := B.notSynchronized
  have hin : meth.name = "<init>" := (name_of_methodNamed B.named B.method).1
  subst hsz
  have hD := hD0.self (sz := s.heap.size)
  generalize hAe : va_A [(h0, .inr (6, [.null, .null]))] s.heap.size = A at hD ⊢
  have hA : ∀ q : Nat, s.heap.size ≤ q → A q := fun q h => by rw [← hAe]; exact Or.inr h
  have hS : va_S A s.heap s.heap [] := va_S.rf
  have hP : va_P (dC, dI) rfCl [(h0, .inr (6, [.null, .null]))] s.heap := hP
  have hl := lv_entry ([.ref h0, .ref sm]) (n := 2) (Nat.le_of_ble_eq_true rfl)
  rw [lg_entry_eq]
  generalize (lg_sl ([.ref h0, .ref sm]) ++ List.replicate (2 - (lg_sl ([.ref h0, .ref sm])).length) Slot.unset).toArray = ls at hl ⊢
  have hl : lv_has ls 2 [(0, .ref h0), (1, .ref sm)] := hl
  refine lv_aload_n hx hb dX1_init_0 rfl (lv_at hl 0 rfl) ?_
  refine W.objInit hx hb hown (hts (.methodLink RX1 3 objectInit) (by decide +kernel)) (hts (.instanceMethod objectInit) (by decide +kernel)) (hts (.code objectInit ⟨#[0xb1]⟩ 1 none) (by decide +kernel)) rfl (by rw [hml]; exact hl.1) rfl dX1_init_1 (Nat.le_of_ble_eq_true rfl) (Nat.le_of_ble_eq_true rfl) ?_
  refine W.eq (g2 := F0 m 4 ls []) rfl ?_
  refine lv_aload_n hx hb dX1_init_4 rfl (lv_at hl 0 rfl) ?_
  refine va_new (ci := 1) (fs := [.null, .null, .int 0]) (C := RX7) (T := TX7) (N := 3) hx hb hts (by decide +kernel) tyX7 tyX7_ok hown (hts (.classLink RX1 9 RX7) (by decide +kernel)) (hts (.instantiable RX7 3) (by decide +kernel)) (hts (.initialized RX7) (by decide +kernel)) hK hP hD hS hA rfl (fun j hj => by rcases (show j = 0 ∨ j = 1 ∨ j = 2 by omega) with rfl | rfl | rfl <;> rfl) (Nat.le_of_ble_eq_true rfl) (Nat.le_of_ble_eq_true rfl) dX1_init_5 (fun q1 H hP hD hS => ?_)
  have hP : va_P (dC, dI) rfCl [(h0, .inr (6, [.null, .null])), (q1, .inr (1, [.null, .null, .int 0]))] H := hP
  have hD : va_D A [(h0, .inr (6, [.null, .null])), (q1, .inr (1, [.null, .null, .int 0]))] := hD
  refine W.widen (k := 1) (n := 3) (Nat.le_of_ble_eq_true rfl) (Nat.le_of_ble_eq_true rfl) ?_
  refine lv_dup hx hb dX1_init_8 rfl ?_
  have hPc := hP.sub (ws' := [(q1, .inr (1, [.null, .null, .int 0]))]) [1] rfl
  have hDc := hD.sub (ws' := [(q1, .inr (1, [.null, .null, .int 0]))]) [1] (by decide) rfl
  have hFc := va_free (wc := [(q1, .inr (1, [.null, .null, .int 0]))]) hD hS hA [1] rfl
  refine va_callv (va_runIN (As := []) (rest := [.ref q1, .ref h0]) ⟨hx, hb, hml, hown, hts⟩ (c_X7_init l dC dI aC H.size q1) (⟨va_cnB 0 hts (goodIn_sub (by decide +kernel) (by decide +kernel)) rfl rfl rfl (rf_nst hN 6 (q := (RX1, 11, yX7_init, "Transversary")) rfl) (hts (.initialized RX7) (by decide +kernel)) (by decide +kernel) ⟨Nat.le_of_ble_eq_true rfl, Nat.le_of_ble_eq_true rfl⟩, rfl, hts (.instanceMethod yX7_init) (by decide +kernel)⟩) (rf_ps hK hN hPc hDc) rfl rfl hl.1 rfl (lv_room (Nat.le_of_ble_eq_true rfl)) dX1_init_9 ⟨Nat.le_of_ble_eq_true rfl, Nat.le_of_ble_eq_true rfl⟩) hS (fun q _ h => hFc q h) hFc (fun u2 t H1 locs ht hvm hwu2 hB hz1 hk1 hS => ?_)
  obtain ⟨hP1, hD1⟩ := hB
  rw [ht] at hP1
  try dsimp only at hwu2 hP1 hD1
  obtain ⟨hP, hD⟩ := va_join (wr := [(h0, .inr (6, [.null, .null]))]) (w1 := [(q1, .inr (1, [.ref (u2.1), .ref (u2.2), .int 0])), ((u2.1), .inl (aC 0, 128, .inl (fun _ => 0))), ((u2.2), .inl (aC 1, 128, .inl (fun _ => 0)))]) hP hD [1] [0] rfl rfl (by decide) (by decide) hk1 hFc hP1 hD1
  clear hP1 hD1 hPc hDc hFc
  generalize H1 = H at hP hS ⊢
  have hP : va_P (dC, dI) rfCl [(h0, .inr (6, [.null, .null])), (q1, .inr (1, [.ref (u2.1), .ref (u2.2), .int 0])), ((u2.1), .inl (aC 0, 128, .inl (fun _ => 0))), ((u2.2), .inl (aC 1, 128, .inl (fun _ => 0)))] H := hP
  have hD : va_D A [(h0, .inr (6, [.null, .null])), (q1, .inr (1, [.ref (u2.1), .ref (u2.2), .int 0])), ((u2.1), .inl (aC 0, 128, .inl (fun _ => 0))), ((u2.2), .inl (aC 1, 128, .inl (fun _ => 0)))] := hD
  refine W.widen (k := 3) (n := 259) (Nat.le_of_ble_eq_true rfl) (Nat.le_of_ble_eq_true rfl) ?_
  obtain ⟨b4, r5⟩ := u2
  try dsimp only at hP hD
  have hP : va_P (dC, dI) rfCl [(h0, .inr (6, [.null, .null])), (q1, .inr (1, [.ref b4, .ref r5, .int 0])), (b4, .inl (aC 0, 128, .inl (fun _ => 0))), (r5, .inl (aC 1, 128, .inl (fun _ => 0)))] H := hP
  have hD : va_D A [(h0, .inr (6, [.null, .null])), (q1, .inr (1, [.ref b4, .ref r5, .int 0])), (b4, .inl (aC 0, 128, .inl (fun _ => 0))), (r5, .inl (aC 1, 128, .inl (fun _ => 0)))] := hD
  refine va_putF (D := (dC, dI)) (ci := 6) (v := .ref q1) (ty := (.object "Transversary$Sets")) (C := RX1) (T := TX1) (N := 2) hx hb hts (by decide +kernel) tyX1 tyX1_ok nmX1 hown hK hP hD hS 0 rfl rfl 1 (by decide) (hts (.fieldLink RX1 12 "Transversary$Makers" "next" "LTransversary$Sets;") (by decide +kernel)) (fun _ h9 => h9) rfl hin rfl (by decide +kernel) rfl rfl (Nat.le_of_ble_eq_true rfl) dX1_init_12 (fun H locs hP hD hS => ?_)
  have hP : va_P (dC, dI) rfCl [(h0, .inr (6, [.null, .ref q1])), (q1, .inr (1, [.ref b4, .ref r5, .int 0])), (b4, .inl (aC 0, 128, .inl (fun _ => 0))), (r5, .inl (aC 1, 128, .inl (fun _ => 0)))] H := hP
  have hD : va_D A [(h0, .inr (6, [.null, .ref q1])), (q1, .inr (1, [.ref b4, .ref r5, .int 0])), (b4, .inl (aC 0, 128, .inl (fun _ => 0))), (r5, .inl (aC 1, 128, .inl (fun _ => 0)))] := hD
  refine lv_aload_n hx hb dX1_init_15 rfl (lv_at hl 0 rfl) ?_
  refine lv_aload_n hx hb dX1_init_16 rfl (lv_at hl 1 rfl) ?_
  refine va_putF (D := (dC, dI)) (ci := 6) (v := .ref sm) (ty := (.object "Transversary$Samples")) (C := RX1) (T := TX1) (N := 2) hx hb hts (by decide +kernel) tyX1 tyX1_ok nmX1 hown hK hP hD hS 0 rfl rfl 0 (by decide) (hts (.fieldLink RX1 18 "Transversary$Makers" "samples" "LTransversary$Samples;") (by decide +kernel)) (fun _ h9 => h9) rfl hin rfl (by decide +kernel) rfl rfl (Nat.le_of_ble_eq_true rfl) dX1_init_17 (fun H locs hP hD hS => ?_)
  have hP : va_P (dC, dI) rfCl [(h0, .inr (6, [.ref sm, .ref q1])), (q1, .inr (1, [.ref b4, .ref r5, .int 0])), (b4, .inl (aC 0, 128, .inl (fun _ => 0))), (r5, .inl (aC 1, 128, .inl (fun _ => 0)))] H := hP
  have hD : va_D A [(h0, .inr (6, [.ref sm, .ref q1])), (q1, .inr (1, [.ref b4, .ref r5, .int 0])), (b4, .inl (aC 0, 128, .inl (fun _ => 0))), (r5, .inl (aC 1, 128, .inl (fun _ => 0)))] := hD
  have hP9 := hP.sub (ws' := [(h0, .inr (6, [.ref sm, .ref q1]))]) [0] rfl
  have hD9 := hD.sub (ws' := [(h0, .inr (6, [.ref sm, .ref q1]))]) [0] (by decide) rfl
  refine W.widen (k := 3) (n := 259) (Nat.le_of_ble_eq_true rfl) (Nat.le_of_ble_eq_true rfl) ?_
  exact W.vret hx hb hr (fun t ht hW => ⟨⟨q1, rfl, trivial, by rw [ht]; exact hP9, hD9⟩, hS.F ht⟩) hS.2.2 dX1_init_20
