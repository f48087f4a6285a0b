set_option maxHeartbeats 4000000 in
set_option maxRecDepth 100000 in
theorem c_X3_init (l : Launch) (dC : Nat → ClassId) (dI : Nat → Nat → Nat) (aC : Nat → ClassId) (sz : Nat) (h0 : Nat)  : Met l yX3_init wsX3_init ({ frames := 1, cells := 1, slots := 7, locals := 12 } : Room) (rf_Pc (dC, dI) aC [.ref h0] [(h0, .inr (0, [.null, .int 0, .int 0]))] sz) (va_Qv (fun (u : Nat) => True) (fun (u : Nat) t => va_P (dC, dI) rfCl [(h0, .inr (0, [.ref u, .int 0, .int 0])), (u, .inl (aC 1, 7, .inl (fun _ => 0)))] t.heap ∧ va_D (va_A [(h0, .inr (0, [.null, .int 0, .int 0]))] sz) [(h0, .inr (0, [.ref u, .int 0, .int 0])), (u, .inl (aC 1, 7, .inl (fun _ => 0)))]) (va_A [(h0, .inr (0, [.null, .int 0, .int 0]))] sz)) 1 7 (va_A [(h0, .inr (0, [.null, .int 0, .int 0]))] sz) := by
  refine Met.ofW (cc := cX3_init) (maxL := 1) (ret := none) (by decide) rfl ?_
  intro p e s m args below meth c s₁ B hml hv
  obtain ⟨rfl, hsz, hP, hKN, hD0⟩ := hv
  obtain ⟨hK, hN⟩ := hKN
  have hx := B.exec
  have hb := B.bytes
  have hr := B.returns
  have hts := atoms_spec (ws := wsX3_init) B.pre
  have hown : s.vm.findClass RX3 = some m.cls := findClass_of_methodNamed B.named
  have hlocks := B.notSynchronized
  have hin : meth.name = "<init>" := (name_of_methodNamed B.named B.method).1
  subst hsz
  have hD := hD0.self (sz := s.heap.size)
  generalize hAe : va_A [(h0, .inr (0, [.null, .int 0, .int 0]))] s.heap.size = A at hD ⊢
  have hA : ∀ q : Nat, s.heap.size ≤ q → A q := fun q h => by rw [← hAe]; exact Or.inr h
  have hS : va_S A s.heap s.heap [] := va_S.rf
  have hP : va_P (dC, dI) rfCl [(h0, .inr (0, [.null, .int 0, .int 0]))] s.heap := hP
  have hl := lv_entry ([.ref h0]) (n := 1) (Nat.le_of_ble_eq_true rfl)
  rw [lg_entry_eq]
  generalize (lg_sl ([.ref h0]) ++ List.replicate (1 - (lg_sl ([.ref h0])).length) Slot.unset).toArray = ls at hl ⊢
  have hl : lv_has ls 1 [(0, .ref h0)] := hl
  refine lv_aload_n hx hb dX3_init_0 rfl (lv_at hl 0 rfl) ?_
  refine W.objInit hx hb hown (hts (.methodLink RX3 3 objectInit) (by decide +kernel)) (hts (.instanceMethod objectInit) (by decide +kernel)) (hts (.code objectInit ⟨#[0xb1]⟩ 1 none) (by decide +kernel)) rfl (by rw [hml]; exact hl.1) rfl dX3_init_1 (Nat.le_of_ble_eq_true rfl) (Nat.le_of_ble_eq_true rfl) ?_
  refine W.eq (g2 := F0 m 4 ls []) rfl ?_
  refine lv_aload_n hx hb dX3_init_4 rfl (lv_at hl 0 rfl) ?_
  refine lv_bipush (v := 7) hx hb dX3_init_5 (by decide) ?_
  refine va_newa (atype := .int) (ty := .int) (a0 := (7, .inl (fun _ => 0))) hx hb (hts (.arrayClass .int) (by decide +kernel)) rfl hK hP hD hS hA (fun _ => rfl) (by decide) (by decide) (by decide) (Nat.le_of_ble_eq_true rfl) (Nat.le_of_ble_eq_true rfl) dX3_init_7 (fun q1 cA9 H hK hP hD hS => ?_)
  obtain rfl : cA9 = aC 1 := rf_sameA hK 6 1 rfl rfl
  have hK := hK.sub (tys' := rfT aC) [0, 1, 2, 3, 4, 5] rfl
  have hP : va_P (dC, dI) rfCl [(h0, .inr (0, [.null, .int 0, .int 0])), (q1, .inl (aC 1, 7, .inl (fun _ => 0)))] H := hP
  have hD : va_D A [(h0, .inr (0, [.null, .int 0, .int 0])), (q1, .inl (aC 1, 7, .inl (fun _ => 0)))] := hD
  refine W.widen (k := 1) (n := 7) (Nat.le_of_ble_eq_true rfl) (Nat.le_of_ble_eq_true rfl) ?_
  refine va_putF (D := (dC, dI)) (ci := 0) (v := .ref q1) (ty := (.array .int)) (C := RX3) (T := TX3) (N := 3) hx hb hts (by decide +kernel) tyX3 tyX3_ok nmX3 hown hK hP hD hS 0 rfl rfl 0 (by decide) (hts (.fieldLink RX3 9 "Transversary$Points" "weights" "[I") (by decide +kernel)) (fun _ h9 => h9) rfl hin rfl (by decide +kernel) rfl rfl (Nat.le_of_ble_eq_true rfl) dX3_init_9 (fun H locs hP hD hS => ?_)
  have hP : va_P (dC, dI) rfCl [(h0, .inr (0, [.ref q1, .int 0, .int 0])), (q1, .inl (aC 1, 7, .inl (fun _ => 0)))] H := hP
  have hD : va_D A [(h0, .inr (0, [.ref q1, .int 0, .int 0])), (q1, .inl (aC 1, 7, .inl (fun _ => 0)))] := hD
  have hP9 := hP.sub (ws' := [(h0, .inr (0, [.ref q1, .int 0, .int 0])), (q1, .inl (aC 1, 7, .inl (fun _ => 0)))]) [0, 1] rfl
  have hD9 := hD.sub (ws' := [(h0, .inr (0, [.ref q1, .int 0, .int 0])), (q1, .inl (aC 1, 7, .inl (fun _ => 0)))]) [0, 1] (by decide) rfl
  refine W.widen (k := 1) (n := 7) (Nat.le_of_ble_eq_true rfl) (Nat.le_of_ble_eq_true rfl) ?_
  exact W.vret hx hb hr (fun t ht hW => ⟨⟨q1, rfl, trivial, by rw [ht]; exact hP9, hD9⟩, hS.F ht⟩) hS.2.2 dX3_init_12

set_option maxHeartbeats 4000000 in
set_option maxRecDepth 100000 in
theorem c_X3_howManySets (l : Launch) (dC : Nat → ClassId) (dI : Nat → Nat → Nat) (aC : Nat → ClassId) (sz : Nat) (h0 : Nat) (w : Value) (mny al r : Int32) (hr9 : (1 : Int32) <<< (mny &&& 31) = r) : Met l yX3_howManySets wsX3_howManySets ({ frames := 1, cells := 0, slots := 0, locals := 0 } : Room) (rf_Pc (dC, dI) aC [.ref h0] [(h0, .inr (0, [w, .int mny, .int al]))] sz) (QcRead r) 0 0 (fun _ => False) := by
  refine Met.ofW (cc := cX3_howManySets) (maxL := 1) (ret := (some .int)) (by decide) rfl ?_
  intro p e s m args below meth c s₁ B hml hv
  obtain ⟨rfl, hsz, hP, hKN, hD0⟩ := hv
  obtain ⟨hK, hN⟩ := hKN
  have hx := B.exec
  have hb := B.bytes
  have hr := B.returns
  have hts := atoms_spec (ws := wsX3_howManySets) B.pre
  have hown : s.vm.findClass RX3 = some m.cls := findClass_of_methodNamed B.named
  have hlocks := B.notSynchronized
  subst hsz
  have hD := hD0.self (sz := s.heap.size)
  generalize hAe : va_A [(h0, .inr (0, [w, .int mny, .int al]))] s.heap.size = A at hD
  have hA : ∀ q : Nat, s.heap.size ≤ q → A q := fun q h => by rw [← hAe]; exact Or.inr h
  have hS : va_S A s.heap s.heap [] := va_S.rf
  have hP : va_P (dC, dI) rfCl [(h0, .inr (0, [w, .int mny, .int al]))] s.heap := hP
  have hl := lv_entry ([.ref h0]) (n := 1) (Nat.le_of_ble_eq_true rfl)
  rw [lg_entry_eq]
  generalize (lg_sl ([.ref h0]) ++ List.replicate (1 - (lg_sl ([.ref h0])).length) Slot.unset).toArray = ls at hl ⊢
  have hl : lv_has ls 1 [(0, .ref h0)] := hl
  refine lv_iconst (v := 1) hx hb dX3_howManySets_0 (by decide) ?_
  refine lv_aload_n hx hb dX3_howManySets_1 rfl (lv_at hl 0 rfl) ?_
  refine va_get (D := (dC, dI)) (ci := 0) (v := .int mny) (C := RX3) (T := TX3) (N := 3) hx hb hts (by decide +kernel) hown hK hP 0 rfl rfl 1 (by decide) (hts (.fieldLink RX3 15 "Transversary$Points" "many" "I") (by decide +kernel)) (fun _ h9 => h9) rfl dX3_howManySets_2 ?_
  refine lv_ishl hx hb dX3_howManySets_5 ?_
  refine lv_topi (fun t1 et1 => ?_)
  obtain rfl : t1 = r := et1.trans hr9
  exact W.iret (v := t1) hx hb hr (fun t ht hW => ⟨rfl, ht⟩) (fun q h => nomatch h) dX3_howManySets_6

set_option maxHeartbeats 4000000 in
set_option maxRecDepth 100000 in
theorem c_X3_alive (l : Launch) (dC : Nat → ClassId) (dI : Nat → Nat → Nat) (aC : Nat → ClassId) (sz : Nat) (h0 : Nat) (w : Value) (mny al : Int32)  : Met l yX3_alive wsX3_alive ({ frames := 1, cells := 0, slots := 0, locals := 0 } : Room) (rf_Pc (dC, dI) aC [.ref h0] [(h0, .inr (0, [w, .int mny, .int al]))] sz) (QcRead al) 0 0 (fun _ => False) := by
  refine Met.ofW (cc := cX3_alive) (maxL := 1) (ret := (some .int)) (by decide) rfl ?_
  intro p e s m args below meth c s₁ B hml hv
  obtain ⟨rfl, hsz, hP, hKN, hD0⟩ := hv
  obtain ⟨hK, hN⟩ := hKN
  have hx := B.exec
  have hb := B.bytes
  have hr := B.returns
  have hts := atoms_spec (ws := wsX3_alive) B.pre
  have hown : s.vm.findClass RX3 = some m.cls := findClass_of_methodNamed B.named
  have hlocks := B.notSynchronized
  subst hsz
  have hD := hD0.self (sz := s.heap.size)
  generalize hAe : va_A [(h0, .inr (0, [w, .int mny, .int al]))] s.heap.size = A at hD
  have hA : ∀ q : Nat, s.heap.size ≤ q → A q := fun q h => by rw [← hAe]; exact Or.inr h
  have hS : va_S A s.heap s.heap [] := va_S.rf
  have hP : va_P (dC, dI) rfCl [(h0, .inr (0, [w, .int mny, .int al]))] s.heap := hP
  have hl := lv_entry ([.ref h0]) (n := 1) (Nat.le_of_ble_eq_true rfl)
  rw [lg_entry_eq]
  generalize (lg_sl ([.ref h0]) ++ List.replicate (1 - (lg_sl ([.ref h0])).length) Slot.unset).toArray = ls at hl ⊢
  have hl : lv_has ls 1 [(0, .ref h0)] := hl
  refine lv_aload_n hx hb dX3_alive_0 rfl (lv_at hl 0 rfl) ?_
  refine va_get (D := (dC, dI)) (ci := 0) (v := .int al) (C := RX3) (T := TX3) (N := 3) hx hb hts (by decide +kernel) hown hK hP 0 rfl rfl 2 (by decide) (hts (.fieldLink RX3 23 "Transversary$Points" "alive" "I") (by decide +kernel)) (fun _ h9 => h9) rfl dX3_alive_1 ?_
  exact W.iret (v := al) hx hb hr (fun t ht hW => ⟨rfl, ht⟩) (fun q h => nomatch h) dX3_alive_4

set_option maxHeartbeats 4000000 in
set_option maxRecDepth 100000 in
theorem c_X3_knows (l : Launch) (dC : Nat → ClassId) (dI : Nat → Nat → Nat) (aC : Nat → ClassId) (sz : Nat) (h0 w : Nat) (f : Nat → Int32) (mny al p0 : Int32) (h1 : ¬ p0 < 0) (h2 : ¬ mny ≤ p0) (h3 : ¬ (7 : Int32) ≤ p0) : Met l yX3_knows wsX3_knows ({ frames := 1, cells := 0, slots := 0, locals := 0 } : Room) (rf_Pc (dC, dI) aC [.ref h0, .int p0] [(h0, .inr (0, [.ref w, .int mny, .int al])), (w, .inl (aC 1, 7, .inl f))] sz) (QcRead 1) 0 0 (fun _ => False) := by
  refine Met.ofW (cc := cX3_knows) (maxL := 2) (ret := (some .boolean)) (by decide) rfl ?_
  intro p e s m args below meth c s₁ B hml hv
  obtain ⟨rfl, hsz, hP, hKN, hD0⟩ := hv
  obtain ⟨hK, hN⟩ := hKN
  have hx := B.exec
  have hb := B.bytes
  have hr := B.returns
  have hts := atoms_spec (ws := wsX3_knows) B.pre
  have hown : s.vm.findClass RX3 = some m.cls := findClass_of_methodNamed B.named
  have hlocks := B.notSynchronized
  subst hsz
  have hD := hD0.self (sz := s.heap.size)
  generalize hAe : va_A [(h0, .inr (0, [.ref w, .int mny, .int al])), (w, .inl (aC 1, 7, .inl f))] s.heap.size = A at hD
  have hA : ∀ q : Nat, s.heap.size ≤ q → A q := fun q h => by rw [← hAe]; exact Or.inr h
  have hS : va_S A s.heap s.heap [] := va_S.rf
  have hP : va_P (dC, dI) rfCl [(h0, .inr (0, [.ref w, .int mny, .int al])), (w, .inl (aC 1, 7, .inl f))] s.heap := hP
  have hl := lv_entry ([.ref h0, .int p0]) (n := 2) (Nat.le_of_ble_eq_true rfl)
  rw [lg_entry_eq]
  generalize (lg_sl ([.ref h0, .int p0]) ++ List.replicate (2 - (lg_sl ([.ref h0, .int p0])).length) Slot.unset).toArray = ls at hl ⊢
  have hl : lv_has ls 2 [(0, .ref h0), (1, .int p0)] := hl
  refine lv_iload_n hx hb dX3_knows_0 rfl (lv_at hl 1 rfl) ?_
  refine lv_if_lt (tgt := 25) hx hb dX3_knows_1 (by decide) (fun c9 => absurd c9 h1) (fun _ => ?_)
  refine lv_iload_n hx hb dX3_knows_4 rfl (lv_at hl 1 rfl) ?_
  refine lv_aload_n hx hb dX3_knows_5 rfl (lv_at hl 0 rfl) ?_
  refine va_get (D := (dC, dI)) (ci := 0) (v := .int mny) (C := RX3) (T := TX3) (N := 3) hx hb hts (by decide +kernel) hown hK hP 0 rfl rfl 1 (by decide) (hts (.fieldLink RX3 15 "Transversary$Points" "many" "I") (by decide +kernel)) (fun _ h9 => h9) rfl dX3_knows_6 ?_
  refine lv_icmp_ge (tgt := 25) hx hb dX3_knows_9 (by decide) (fun c9 => absurd c9 h2) (fun _ => ?_)
  refine lv_iload_n hx hb dX3_knows_12 rfl (lv_at hl 1 rfl) ?_
  refine lv_aload_n hx hb dX3_knows_13 rfl (lv_at hl 0 rfl) ?_
  refine va_get (D := (dC, dI)) (ci := 0) (v := .ref w) (C := RX3) (T := TX3) (N := 3) hx hb hts (by decide +kernel) hown hK hP 0 rfl rfl 0 (by decide) (hts (.fieldLink RX3 9 "Transversary$Points" "weights" "[I") (by decide +kernel)) (fun _ h9 => h9) rfl dX3_knows_14 ?_
  refine va_alen (v := 7) hx hb hK hP 1 1 rfl rfl rfl dX3_knows_17 ?_
  refine lv_icmp_ge (tgt := 25) hx hb dX3_knows_18 (by decide) (fun c9 => absurd c9 h3) (fun _ => ?_)
  refine lv_iconst (v := 1) hx hb dX3_knows_21 (by decide) ?_
  refine lv_goto (tgt := 26) hx hb dX3_knows_22 (by decide) ?_
  exact W.zret (v := 1) hx hb hr rfl (fun t ht hW => ⟨rfl, ht⟩) (fun q h => nomatch h) dX3_knows_26

set_option maxHeartbeats 4000000 in
set_option maxRecDepth 100000 in
theorem c_X3_begin (l : Launch) (dC : Nat → ClassId) (dI : Nat → Nat → Nat) (aC : Nat → ClassId) (sz : Nat) (h0 w : Nat) (f : Nat → Int32) (mny al k r al2 : Int32) (hr9 : (1 : Int32) <<< (k &&& 31) = r) (ha9 : r - 1 = al2) : Met l yX3_begin wsX3_begin ({ frames := 2, cells := 0, slots := 0, locals := 40 } : Room) (rf_Pc (dC, dI) aC [.ref h0, .int k] [(h0, .inr (0, [.ref w, .int mny, .int al])), (w, .inl (aC 1, 7, .inl f))] sz) (va_Qv (fun (u : Nat → Int32) => True) (fun (u : Nat → Int32) t => va_P (dC, dI) rfCl [(h0, .inr (0, [.ref w, .int k, .int al2])), (w, .inl (aC 1, 7, .inl u))] t.heap ∧ va_D (va_A [(h0, .inr (0, [.ref w, .int mny, .int al])), (w, .inl (aC 1, 7, .inl f))] sz) [(h0, .inr (0, [.ref w, .int k, .int al2])), (w, .inl (aC 1, 7, .inl u))]) (va_A [(h0, .inr (0, [.ref w, .int mny, .int al])), (w, .inl (aC 1, 7, .inl f))] sz)) 0 0 (va_A [(h0, .inr (0, [.ref w, .int mny, .int al])), (w, .inl (aC 1, 7, .inl f))] sz) := by
  refine Met.ofW (cc := cX3_begin) (maxL := 3) (ret := none) (by decide) rfl ?_
  intro p e s m args below meth c s₁ B hml hv
  obtain ⟨rfl, hsz, hP, hKN, hD0⟩ := hv
  obtain ⟨hK, hN⟩ := hKN
  have hx := B.exec
  have hb := B.bytes
  have hr := B.returns
  have hts := atoms_spec (ws := wsX3_begin) B.pre
  have hown : s.vm.findClass RX3 = some m.cls := findClass_of_methodNamed B.named
  have hlocks := B.notSynchronized
  subst hsz
  have hD := hD0.self (sz := s.heap.size)
  generalize hAe : va_A [(h0, .inr (0, [.ref w, .int mny, .int al])), (w, .inl (aC 1, 7, .inl f))] s.heap.size = A at hD ⊢
  have hA : ∀ q : Nat, s.heap.size ≤ q → A q := fun q h => by rw [← hAe]; exact Or.inr h
  have hS : va_S A s.heap s.heap [] := va_S.rf
  have hP : va_P (dC, dI) rfCl [(h0, .inr (0, [.ref w, .int mny, .int al])), (w, .inl (aC 1, 7, .inl f))] s.heap := hP
  have hl := lv_entry ([.ref h0, .int k]) (n := 3) (Nat.le_of_ble_eq_true rfl)
  rw [lg_entry_eq]
  generalize (lg_sl ([.ref h0, .int k]) ++ List.replicate (3 - (lg_sl ([.ref h0, .int k])).length) Slot.unset).toArray = ls at hl ⊢
  have hl : lv_has ls 3 [(0, .ref h0), (1, .int k)] := hl
  refine lv_aload_n hx hb dX3_begin_0 rfl (lv_at hl 0 rfl) ?_
  refine lv_iload_n hx hb dX3_begin_1 rfl (lv_at hl 1 rfl) ?_
  refine va_put (D := (dC, dI)) (ci := 0) (v := .int k) (ty := .int) (C := RX3) (T := TX3) (N := 3) hx hb hts (by decide +kernel) tyX3 tyX3_ok nmX3 hown hK hP hD hS 0 rfl rfl 1 (by decide) (hts (.fieldLink RX3 15 "Transversary$Points" "many" "I") (by decide +kernel)) (fun _ h9 => h9) rfl (by decide +kernel) rfl rfl (Nat.le_of_ble_eq_true rfl) dX3_begin_2 (fun H locs hP hD hS => ?_)
  have hP : va_P (dC, dI) rfCl [(h0, .inr (0, [.ref w, .int k, .int al])), (w, .inl (aC 1, 7, .inl f))] H := hP
  have hD : va_D A [(h0, .inr (0, [.ref w, .int k, .int al])), (w, .inl (aC 1, 7, .inl f))] := hD
  refine lv_aload_n hx hb dX3_begin_5 rfl (lv_at hl 0 rfl) ?_
  refine lv_aload_n hx hb dX3_begin_6 rfl (lv_at hl 0 rfl) ?_
  have hPc := hP.sub (ws' := [(h0, .inr (0, [.ref w, .int k, .int al]))]) [0] rfl
  have hDc := hD.sub (ws' := [(h0, .inr (0, [.ref w, .int k, .int al]))]) [0] (by decide) rfl
  refine W.callR (W.runV (As := []) (rest := [.ref h0]) ⟨hx, hb, hml, hown, hts⟩ (c_X3_howManySets l dC dI aC H.size h0 (.ref w) k al r hr9) (cwV 0 hts gX3_begin_X3_howManySets rfl rfl rfl (by decide +kernel) ⟨Nat.le_of_ble_eq_true rfl, Nat.le_of_ble_eq_true rfl⟩) (rf_pv hK hN hPc hDc (va_recv hK hP (ci := 0) (q0 := 0) rfl rfl)) rfl rfl hl.1 rfl (lv_room (Nat.le_of_ble_eq_true rfl)) dX3_begin_7 ⟨Nat.le_of_ble_eq_true rfl, Nat.le_of_ble_eq_true rfl⟩) ?_
  refine W.eq (g2 := F0 m 10 ls [.int r, .ref h0]) rfl ?_
  refine lv_iconst (v := 1) hx hb dX3_begin_10 (by decide) ?_
  refine lv_isub hx hb dX3_begin_11 ?_
  refine lv_topi (fun t1 et1 => ?_)
  obtain rfl : al2 = t1 := (et1.trans ha9).symm
  refine va_put (D := (dC, dI)) (ci := 0) (v := .int al2) (ty := .int) (C := RX3) (T := TX3) (N := 3) hx hb hts (by decide +kernel) tyX3 tyX3_ok nmX3 hown hK hP hD hS 0 rfl rfl 2 (by decide) (hts (.fieldLink RX3 23 "Transversary$Points" "alive" "I") (by decide +kernel)) (fun _ h9 => h9) rfl (by decide +kernel) rfl rfl (Nat.le_of_ble_eq_true rfl) dX3_begin_12 (fun H locs hP hD hS => ?_)
  have hP : va_P (dC, dI) rfCl [(h0, .inr (0, [.ref w, .int k, .int al2])), (w, .inl (aC 1, 7, .inl f))] H := hP
  have hD : va_D A [(h0, .inr (0, [.ref w, .int k, .int al2])), (w, .inl (aC 1, 7, .inl f))] := hD
  refine lv_iconst (v := 0) hx hb dX3_begin_15 (by decide) ?_
  refine lv_istore_n (lv' := [(2, .int 0), (0, .ref h0), (1, .int k)]) hx hb dX3_begin_16 rfl hl (by decide) rfl (fun ls hl => ?_)
  have loop : ∀ (n i : Nat) (x_loop : Int32) (f : Nat → Int32), i ≤ 7 → 8 ≤ i + n → x_loop = nI i → ∀ (H : Heap) (locs : List Loc), va_P (dC, dI) rfCl [(h0, .inr (0, [.ref w, .int k, .int al2])), (w, .inl (aC 1, 7, .inl f))] H → va_D A [(h0, .inr (0, [.ref w, .int k, .int al2])), (w, .inl (aC 1, 7, .inl f))] → va_S A s.heap H locs → ∀ ls : Array Slot, lv_has ls 3 [(2, .int x_loop), (0, .ref h0), (1, .int k)] → W p l e (headSpec wsX3_begin ({ frames := 2, cells := 0, slots := 0, locals := 40 } : Room)).room s m ([.ref h0, .int k] : List Value).toArray below meth c H locs 0 0 (MQ below (va_Qv (fun (u : Nat → Int32) => True) (fun (u : Nat → Int32) t => va_P (dC, dI) rfCl [(h0, .inr (0, [.ref w, .int k, .int al2])), (w, .inl (aC 1, 7, .inl u))] t.heap ∧ va_D A [(h0, .inr (0, [.ref w, .int k, .int al2])), (w, .inl (aC 1, 7, .inl u))]) A) ([.ref h0, .int k] : List Value).toArray s 0 0 A) (F0 m 17 ls []) := by
    intro n
    induction n with
    | zero =>
      intro i x_loop f h1 h2
      exact absurd h2 (by omega)
    | succ n ih =>
      intro i x_loop f hi9 hn ex H locs hP hD hS ls hl
      refine lv_iload_n hx hb dX3_begin_17 rfl (lv_at hl 0 rfl) ?_
      refine lv_aload_n hx hb dX3_begin_18 rfl (lv_at hl 1 rfl) ?_
      refine va_get (D := (dC, dI)) (ci := 0) (v := .ref w) (C := RX3) (T := TX3) (N := 3) hx hb hts (by decide +kernel) hown hK hP 0 rfl rfl 0 (by decide) (hts (.fieldLink RX3 9 "Transversary$Points" "weights" "[I") (by decide +kernel)) (fun _ h9 => h9) rfl dX3_begin_19 ?_
      refine va_alen (v := 7) hx hb hK hP 1 1 rfl rfl rfl dX3_begin_22 ?_
      by_cases hlt : i < 7
      · have hbr : ¬ (7 : Int32) ≤ x_loop := by rw [ex]; exact nI_ge hlt (by decide)
        refine lv_icmp_ge (tgt := 39) hx hb dX3_begin_23 (by decide) (fun c9 => absurd c9 hbr) (fun _ => ?_)
        have h_in : vp_in x_loop 7 := by rw [ex]; exact vp_in_nI hlt (by decide)
        refine lv_aload_n hx hb dX3_begin_26 rfl (lv_at hl 1 rfl) ?_
        refine va_get (D := (dC, dI)) (ci := 0) (v := .ref w) (C := RX3) (T := TX3) (N := 3) hx hb hts (by decide +kernel) hown hK hP 0 rfl rfl 0 (by decide) (hts (.fieldLink RX3 9 "Transversary$Points" "weights" "[I") (by decide +kernel)) (fun _ h9 => h9) rfl dX3_begin_27 ?_
        refine lv_iload_n hx hb dX3_begin_30 rfl (lv_at hl 0 rfl) ?_
        refine lv_iconst (v := 1) hx hb dX3_begin_31 (by decide) ?_
        refine va_iast hx hb hK hP hD hS 1 1 rfl rfl h_in dX3_begin_32 (fun H locs hP hD hS => ?_)
        have hP : va_P (dC, dI) rfCl [(h0, .inr (0, [.ref w, .int k, .int al2])), (w, .inl (aC 1, 7, .inl (upd f (x_loop : Int32).toNatClampNeg 1)))] H := hP
        have hD : va_D A [(h0, .inr (0, [.ref w, .int k, .int al2])), (w, .inl (aC 1, 7, .inl (upd f (x_loop : Int32).toNatClampNeg 1)))] := hD
        generalize (upd f (x_loop : Int32).toNatClampNeg 1) = f2 at hP hD
        have hP : va_P (dC, dI) rfCl [(h0, .inr (0, [.ref w, .int k, .int al2])), (w, .inl (aC 1, 7, .inl f2))] H := hP
        have hD : va_D A [(h0, .inr (0, [.ref w, .int k, .int al2])), (w, .inl (aC 1, 7, .inl f2))] := hD
        obtain ⟨x_loop2, ex_loop2⟩ : ∃ y : Int32, y = x_loop + (1) := ⟨_, rfl⟩
        refine lv_iinc (v := x_loop2) (lv' := [(2, .int x_loop2), (0, .ref h0), (1, .int k)]) hx hb dX3_begin_33 hl (k := 0) rfl (by rw [ex_loop2]; rfl) (by decide) rfl (fun ls hl => ?_)
        refine lv_goto (tgt := 17) hx hb dX3_begin_36 (by decide) ?_
        exact ih (i + 1) x_loop2 f2 (by omega) (by omega) (by rw [ex_loop2, ex]; exact nI_1 i) H locs hP hD hS ls (lv_sub hl [0, 1, 2] rfl)
      · have hbr : (7 : Int32) ≤ x_loop := by rw [ex, show i = 7 by omega]; decide
        refine lv_icmp_ge (tgt := 39) hx hb dX3_begin_23 (by decide) (fun _ => ?_) (fun c9 => absurd hbr c9)
        have hP9 := hP.sub (ws' := [(h0, .inr (0, [.ref w, .int k, .int al2])), (w, .inl (aC 1, 7, .inl f))]) [0, 1] rfl
        have hD9 := hD.sub (ws' := [(h0, .inr (0, [.ref w, .int k, .int al2])), (w, .inl (aC 1, 7, .inl f))]) [0, 1] (by decide) rfl
        refine W.widen (k := 0) (n := 0) (Nat.le_of_ble_eq_true rfl) (Nat.le_of_ble_eq_true rfl) ?_
        exact W.vret hx hb hr (fun t ht hW => ⟨⟨f, rfl, trivial, by rw [ht]; exact hP9, hD9⟩, hS.F ht⟩) hS.2.2 dX3_begin_39
  exact loop 8 0 0 f (by decide) (by decide) rfl H _ hP hD hS ls (lv_sub hl [0, 1, 2] rfl)

set_option maxHeartbeats 4000000 in
set_option maxRecDepth 100000 in
theorem c_J6_bitCount_0f7a4 (l : Launch) (dC : Nat → ClassId) (dI : Nat → Nat → Nat) (aC : Nat → ClassId) (sz : Nat) (p0 : Int32)  : Met l yJ6_bitCount_0f7a4 wsJ6_bitCount_0f7a4 ({ frames := 1, cells := 0, slots := 0, locals := 0 } : Room) (rf_Pc (dC, dI) aC [.int p0] [] sz) QcAny 0 0 (fun _ => False) := by
  refine Met.ofW (cc := cJ6_bitCount_0f7a4) (maxL := 1) (ret := (some .int)) (by decide) rfl ?_
  intro p e s m args below meth c s₁ B hml hv
  obtain ⟨rfl, hsz, hP, hKN, hD0⟩ := hv
  obtain ⟨hK, hN⟩ := hKN
  have hx := B.exec
  have hb := B.bytes
  have hr := B.returns
  have hts := atoms_spec (ws := wsJ6_bitCount_0f7a4) B.pre
  have hown : s.vm.findClass RJ6 = some m.cls := findClass_of_methodNamed B.named
  have hlocks := B.notSynchronized
  subst hsz
  have hD := hD0.self (sz := s.heap.size)
  generalize hAe : va_A [] s.heap.size = A at hD
  have hA : ∀ q : Nat, s.heap.size ≤ q → A q := fun q h => by rw [← hAe]; exact Or.inr h
  have hS : va_S A s.heap s.heap [] := va_S.rf
  have hP : va_P (dC, dI) rfCl [] s.heap := hP
  have hl := lv_entry ([.int p0]) (n := 1) (Nat.le_of_ble_eq_true rfl)
  rw [lg_entry_eq]
  generalize (lg_sl ([.int p0]) ++ List.replicate (1 - (lg_sl ([.int p0])).length) Slot.unset).toArray = ls at hl ⊢
  have hl : lv_has ls 1 [(0, .int p0)] := hl
  refine lv_iload_n hx hb dJ6_bitCount_0f7a4_0 rfl (lv_at hl 0 rfl) ?_
  refine lv_iload_n hx hb dJ6_bitCount_0f7a4_1 rfl (lv_at hl 0 rfl) ?_
  refine lv_iconst (v := 1) hx hb dJ6_bitCount_0f7a4_2 (by decide) ?_
  refine lv_iushr hx hb dJ6_bitCount_0f7a4_3 rfl ?_
  refine lv_topi (fun t1 et1 => ?_)
  refine lv_ldcw (own := RJ6) (v := 1431655765) hx hb hown (hts (.constant RJ6 265 (1431655765)) (by decide +kernel)) dJ6_bitCount_0f7a4_4 ?_
  refine lv_iand hx hb dJ6_bitCount_0f7a4_7 ?_
  refine lv_topi (fun t2 et2 => ?_)
  refine lv_isub hx hb dJ6_bitCount_0f7a4_8 ?_
  refine lv_topi (fun t3 et3 => ?_)
  refine lv_istore_n (lv' := [(0, .int t3)]) hx hb dJ6_bitCount_0f7a4_9 rfl hl (by decide) rfl (fun ls hl => ?_)
  refine lv_iload_n hx hb dJ6_bitCount_0f7a4_10 rfl (lv_at hl 0 rfl) ?_
  refine lv_ldcw (own := RJ6) (v := 858993459) hx hb hown (hts (.constant RJ6 266 (858993459)) (by decide +kernel)) dJ6_bitCount_0f7a4_11 ?_
  refine lv_iand hx hb dJ6_bitCount_0f7a4_14 ?_
  refine lv_topi (fun t4 et4 => ?_)
  refine lv_iload_n hx hb dJ6_bitCount_0f7a4_15 rfl (lv_at hl 0 rfl) ?_
  refine lv_iconst (v := 2) hx hb dJ6_bitCount_0f7a4_16 (by decide) ?_
  refine lv_iushr hx hb dJ6_bitCount_0f7a4_17 rfl ?_
  refine lv_topi (fun t5 et5 => ?_)
  refine lv_ldcw (own := RJ6) (v := 858993459) hx hb hown (hts (.constant RJ6 266 (858993459)) (by decide +kernel)) dJ6_bitCount_0f7a4_18 ?_
  refine lv_iand hx hb dJ6_bitCount_0f7a4_21 ?_
  refine lv_topi (fun t6 et6 => ?_)
  refine lv_iadd hx hb dJ6_bitCount_0f7a4_22 ?_
  refine lv_topi (fun t7 et7 => ?_)
  refine lv_istore_n (lv' := [(0, .int t7)]) hx hb dJ6_bitCount_0f7a4_23 rfl hl (by decide) rfl (fun ls hl => ?_)
  refine lv_iload_n hx hb dJ6_bitCount_0f7a4_24 rfl (lv_at hl 0 rfl) ?_
  refine lv_iload_n hx hb dJ6_bitCount_0f7a4_25 rfl (lv_at hl 0 rfl) ?_
  refine lv_iconst (v := 4) hx hb dJ6_bitCount_0f7a4_26 (by decide) ?_
  refine lv_iushr hx hb dJ6_bitCount_0f7a4_27 rfl ?_
  refine lv_topi (fun t8 et8 => ?_)
  refine lv_iadd hx hb dJ6_bitCount_0f7a4_28 ?_
  refine lv_topi (fun t9 et9 => ?_)
  refine lv_ldcw (own := RJ6) (v := 252645135) hx hb hown (hts (.constant RJ6 267 (252645135)) (by decide +kernel)) dJ6_bitCount_0f7a4_29 ?_
  refine lv_iand hx hb dJ6_bitCount_0f7a4_32 ?_
  refine lv_topi (fun t10 et10 => ?_)
  refine lv_istore_n (lv' := [(0, .int t10)]) hx hb dJ6_bitCount_0f7a4_33 rfl hl (by decide) rfl (fun ls hl => ?_)
  refine lv_iload_n hx hb dJ6_bitCount_0f7a4_34 rfl (lv_at hl 0 rfl) ?_
  refine lv_iload_n hx hb dJ6_bitCount_0f7a4_35 rfl (lv_at hl 0 rfl) ?_
  refine lv_bipush (v := 8) hx hb dJ6_bitCount_0f7a4_36 (by decide) ?_
  refine lv_iushr hx hb dJ6_bitCount_0f7a4_38 rfl ?_
  refine lv_topi (fun t11 et11 => ?_)
  refine lv_iadd hx hb dJ6_bitCount_0f7a4_39 ?_
  refine lv_topi (fun t12 et12 => ?_)
  refine lv_istore_n (lv' := [(0, .int t12)]) hx hb dJ6_bitCount_0f7a4_40 rfl hl (by decide) rfl (fun ls hl => ?_)
  refine lv_iload_n hx hb dJ6_bitCount_0f7a4_41 rfl (lv_at hl 0 rfl) ?_
  refine lv_iload_n hx hb dJ6_bitCount_0f7a4_42 rfl (lv_at hl 0 rfl) ?_
  refine lv_bipush (v := 16) hx hb dJ6_bitCount_0f7a4_43 (by decide) ?_
  refine lv_iushr hx hb dJ6_bitCount_0f7a4_45 rfl ?_
  refine lv_topi (fun t13 et13 => ?_)
  refine lv_iadd hx hb dJ6_bitCount_0f7a4_46 ?_
  refine lv_topi (fun t14 et14 => ?_)
  refine lv_istore_n (lv' := [(0, .int t14)]) hx hb dJ6_bitCount_0f7a4_47 rfl hl (by decide) rfl (fun ls hl => ?_)
  refine lv_iload_n hx hb dJ6_bitCount_0f7a4_48 rfl (lv_at hl 0 rfl) ?_
  refine lv_bipush (v := 63) hx hb dJ6_bitCount_0f7a4_49 (by decide) ?_
  refine lv_iand hx hb dJ6_bitCount_0f7a4_51 ?_
  refine lv_topi (fun t15 et15 => ?_)
  exact W.iret (v := t15) hx hb hr (fun t ht hW => ⟨_, rfl, ht⟩) (fun q h => nomatch h) dJ6_bitCount_0f7a4_52

set_option maxHeartbeats 4000000 in
set_option maxRecDepth 100000 in
theorem c_X11_sizeOf (l : Launch) (dC : Nat → ClassId) (dI : Nat → Nat → Nat) (aC : Nat → ClassId) (sz : Nat) (p0 : Int32)  : Met l yX11_sizeOf wsX11_sizeOf ({ frames := 2, cells := 0, slots := 0, locals := 40 } : Room) (rf_Pc (dC, dI) aC [.int p0] [] sz) QcAny 0 0 (fun _ => False) := by
  refine Met.ofW (cc := cX11_sizeOf) (maxL := 1) (ret := (some .int)) (by decide) rfl ?_
  intro p e s m args below meth c s₁ B hml hv
  obtain ⟨rfl, hsz, hP, hKN, hD0⟩ := hv
  obtain ⟨hK, hN⟩ := hKN
  have hx := B.exec
  have hb := B.bytes
  have hr := B.returns
  have hts := atoms_spec (ws := wsX11_sizeOf) B.pre
  have hown : s.vm.findClass RX11 = some m.cls := findClass_of_methodNamed B.named
  have hlocks := B.notSynchronized
  subst hsz
  have hD := hD0.self (sz := s.heap.size)
  generalize hAe : va_A [] s.heap.size = A at hD
  have hA : ∀ q : Nat, s.heap.size ≤ q → A q := fun q h => by rw [← hAe]; exact Or.inr h
  have hS : va_S A s.heap s.heap [] := va_S.rf
  have hP : va_P (dC, dI) rfCl [] s.heap := hP
  have hl := lv_entry ([.int p0]) (n := 1) (Nat.le_of_ble_eq_true rfl)
  rw [lg_entry_eq]
  generalize (lg_sl ([.int p0]) ++ List.replicate (1 - (lg_sl ([.int p0])).length) Slot.unset).toArray = ls at hl ⊢
  have hl : lv_has ls 1 [(0, .int p0)] := hl
  refine lv_iload_n hx hb dX11_sizeOf_0 rfl (lv_at hl 0 rfl) ?_
  have hPc := hP.sub (ws' := []) [] rfl
  have hDc := hD.sub (ws' := []) [] (by decide) rfl
  refine W.callA (W.runS (As := [.int p0]) (rest := []) ⟨hx, hb, hml, hown, hts⟩ (c_J6_bitCount_0f7a4 l dC dI aC s.heap.size p0) (va_cwS 1 hts gX11_sizeOf_J6_bitCount_0f7a4 rfl rfl rfl (by decide +kernel) ⟨Nat.le_of_ble_eq_true rfl, Nat.le_of_ble_eq_true rfl⟩) (rf_ps hK hN hPc hDc) rfl rfl hl.1 rfl (lv_room (Nat.le_of_ble_eq_true rfl)) dX11_sizeOf_1 ⟨Nat.le_of_ble_eq_true rfl, Nat.le_of_ble_eq_true rfl⟩) (fun t1 => ?_)
  refine W.eq (g2 := F0 m 4 ls [.int t1]) rfl ?_
  exact W.iret (v := t1) hx hb hr (fun t ht hW => ⟨_, rfl, ht⟩) (fun q h => nomatch h) dX11_sizeOf_4

set_option maxHeartbeats 4000000 in
set_option maxRecDepth 100000 in
theorem c_X3_howManyAlive (l : Launch) (dC : Nat → ClassId) (dI : Nat → Nat → Nat) (aC : Nat → ClassId) (sz : Nat) (h0 : Nat) (w : Value) (mny al : Int32)  : Met l yX3_howManyAlive wsX3_howManyAlive ({ frames := 3, cells := 0, slots := 0, locals := 80 } : Room) (rf_Pc (dC, dI) aC [.ref h0] [(h0, .inr (0, [w, .int mny, .int al]))] sz) QcAny 0 0 (fun _ => False) := by
  refine Met.ofW (cc := cX3_howManyAlive) (maxL := 1) (ret := (some .int)) (by decide) rfl ?_
  intro p e s m args below meth c s₁ B hml hv
  obtain ⟨rfl, hsz, hP, hKN, hD0⟩ := hv
  obtain ⟨hK, hN⟩ := hKN
  have hx := B.exec
  have hb := B.bytes
  have hr := B.returns
  have hts := atoms_spec (ws := wsX3_howManyAlive) B.pre
  have hown : s.vm.findClass RX3 = some m.cls := findClass_of_methodNamed B.named
  have hlocks := B.notSynchronized
  subst hsz
  have hD := hD0.self (sz := s.heap.size)
  generalize hAe : va_A [(h0, .inr (0, [w, .int mny, .int al]))] s.heap.size = A at hD
  have hA : ∀ q : Nat, s.heap.size ≤ q → A q := fun q h => by rw [← hAe]; exact Or.inr h
  have hS : va_S A s.heap s.heap [] := va_S.rf
  have hP : va_P (dC, dI) rfCl [(h0, .inr (0, [w, .int mny, .int al]))] s.heap := hP
  have hl := lv_entry ([.ref h0]) (n := 1) (Nat.le_of_ble_eq_true rfl)
  rw [lg_entry_eq]
  generalize (lg_sl ([.ref h0]) ++ List.replicate (1 - (lg_sl ([.ref h0])).length) Slot.unset).toArray = ls at hl ⊢
  have hl : lv_has ls 1 [(0, .ref h0)] := hl
  refine lv_aload_n hx hb dX3_howManyAlive_0 rfl (lv_at hl 0 rfl) ?_
  refine va_get (D := (dC, dI)) (ci := 0) (v := .int al) (C := RX3) (T := TX3) (N := 3) hx hb hts (by decide +kernel) hown hK hP 0 rfl rfl 2 (by decide) (hts (.fieldLink RX3 23 "Transversary$Points" "alive" "I") (by decide +kernel)) (fun _ h9 => h9) rfl dX3_howManyAlive_1 ?_
  have hPc := hP.sub (ws' := []) [] rfl
  have hDc := hD.sub (ws' := []) [] (by decide) rfl
  refine W.callA (rf_cr (va_runSN (As := [.int al]) (rest := []) ⟨hx, hb, hml, hown, hts⟩ (c_X11_sizeOf l dC dI aC s.heap.size al) (⟨va_cnB 1 hts (goodIn_sub (by decide +kernel) (by decide +kernel)) rfl rfl rfl (rf_nst hN 0 (q := (RX3, 26, yX11_sizeOf, "Transversary")) rfl) (hts (.initialized RX11) (by decide +kernel)) (by decide +kernel) ⟨Nat.le_of_ble_eq_true rfl, Nat.le_of_ble_eq_true rfl⟩, hts (.static yX11_sizeOf) (by decide +kernel), trivial⟩) (rf_ps hK hN hPc hDc) rfl rfl hl.1 rfl (lv_room (Nat.le_of_ble_eq_true rfl)) dX3_howManyAlive_4 ⟨Nat.le_of_ble_eq_true rfl, Nat.le_of_ble_eq_true rfl⟩)) (fun t1 => ?_)
  refine W.eq (g2 := F0 m 7 ls [.int t1]) rfl ?_
  exact W.iret (v := t1) hx hb hr (fun t ht hW => ⟨_, rfl, ht⟩) (fun q h => nomatch h) dX3_howManyAlive_7

set_option maxHeartbeats 4000000 in
set_option maxRecDepth 100000 in
theorem c_X3_tellDeath (l : Launch) (dC : Nat → ClassId) (dI : Nat → Nat → Nat) (aC : Nat → ClassId) (sz : Nat) (h0 w : Nat) (f : Nat → Int32) (mny al p0 al2 : Int32) (h1 : ¬ p0 < 0) (h2 : ¬ mny ≤ p0) (h3 : ¬ (7 : Int32) ≤ p0) (h4 : al &&& (((1 : Int32) <<< (p0 &&& 31)) ^^^ (-1)) = al2) : Met l yX3_tellDeath wsX3_tellDeath ({ frames := 2, cells := 0, slots := 0, locals := 40 } : Room) (rf_Pc (dC, dI) aC [.ref h0, .int p0, .int 1] [(h0, .inr (0, [.ref w, .int mny, .int al])), (w, .inl (aC 1, 7, .inl f))] sz) (va_Qv (fun (u : Unit) => True) (fun (u : Unit) t => va_P (dC, dI) rfCl [(h0, .inr (0, [.ref w, .int mny, .int al2])), (w, .inl (aC 1, 7, .inl f))] t.heap ∧ va_D (va_A [(h0, .inr (0, [.ref w, .int mny, .int al])), (w, .inl (aC 1, 7, .inl f))] sz) [(h0, .inr (0, [.ref w, .int mny, .int al2])), (w, .inl (aC 1, 7, .inl f))]) (va_A [(h0, .inr (0, [.ref w, .int mny, .int al])), (w, .inl (aC 1, 7, .inl f))] sz)) 0 0 (va_A [(h0, .inr (0, [.ref w, .int mny, .int al])), (w, .inl (aC 1, 7, .inl f))] sz) := by
  refine Met.ofW (cc := cX3_tellDeath) (maxL := 3) (ret := none) (by decide) rfl ?_
  intro p e s m args below meth c s₁ B hml hv
  obtain ⟨rfl, hsz, hP, hKN, hD0⟩ := hv
  obtain ⟨hK, hN⟩ := hKN
  have hx := B.exec
  have hb := B.bytes
  have hr := B.returns
  have hts := atoms_spec (ws := wsX3_tellDeath) B.pre
  have hown : s.vm.findClass RX3 = some m.cls := findClass_of_methodNamed B.named
  have hlocks := B.notSynchronized
  subst hsz
  have hD := hD0.self (sz := s.heap.size)
  generalize hAe : va_A [(h0, .inr (0, [.ref w, .int mny, .int al])), (w, .inl (aC 1, 7, .inl f))] s.heap.size = A at hD ⊢
  have hA : ∀ q : Nat, s.heap.size ≤ q → A q := fun q h => by rw [← hAe]; exact Or.inr h
  have hS : va_S A s.heap s.heap [] := va_S.rf
  have hP : va_P (dC, dI) rfCl [(h0, .inr (0, [.ref w, .int mny, .int al])), (w, .inl (aC 1, 7, .inl f))] s.heap := hP
  have hl := lv_entry ([.ref h0, .int p0, .int 1]) (n := 3) (Nat.le_of_ble_eq_true rfl)
  rw [lg_entry_eq]
  generalize (lg_sl ([.ref h0, .int p0, .int 1]) ++ List.replicate (3 - (lg_sl ([.ref h0, .int p0, .int 1])).length) Slot.unset).toArray = ls at hl ⊢
  have hl : lv_has ls 3 [(0, .ref h0), (1, .int p0), (2, .int 1)] := hl
  refine lv_aload_n hx hb dX3_tellDeath_0 rfl (lv_at hl 0 rfl) ?_
  refine lv_iload_n hx hb dX3_tellDeath_1 rfl (lv_at hl 1 rfl) ?_
  have hPc := hP.sub (ws' := [(h0, .inr (0, [.ref w, .int mny, .int al])), (w, .inl (aC 1, 7, .inl f))]) [0, 1] rfl
  have hDc := hD.sub (ws' := [(h0, .inr (0, [.ref w, .int mny, .int al])), (w, .inl (aC 1, 7, .inl f))]) [0, 1] (by decide) rfl
  refine W.callR (W.runV (As := [.int p0]) (rest := []) ⟨hx, hb, hml, hown, hts⟩ (c_X3_knows l dC dI aC s.heap.size h0 w f mny al p0 h1 h2 h3) (cwV 1 hts gX3_tellDeath_X3_knows rfl rfl rfl (by decide +kernel) ⟨Nat.le_of_ble_eq_true rfl, Nat.le_of_ble_eq_true rfl⟩) (rf_pv hK hN hPc hDc (va_recv hK hP (ci := 0) (q0 := 0) rfl rfl)) rfl rfl hl.1 rfl (lv_room (Nat.le_of_ble_eq_true rfl)) dX3_tellDeath_2 ⟨Nat.le_of_ble_eq_true rfl, Nat.le_of_ble_eq_true rfl⟩) ?_
  refine W.eq (g2 := F0 m 5 ls [.int 1]) rfl ?_
  refine lv_if_eq (tgt := 37) hx hb dX3_tellDeath_5 (by decide) (fun c9 => absurd c9 (by decide)) (fun _ => ?_)
  refine lv_aload_n hx hb dX3_tellDeath_8 rfl (lv_at hl 0 rfl) ?_
  refine lv_iload_n hx hb dX3_tellDeath_9 rfl (lv_at hl 2 rfl) ?_
  refine lv_if_eq (tgt := 26) hx hb dX3_tellDeath_10 (by decide) (fun c9 => absurd c9 (by decide)) (fun _ => ?_)
  refine lv_aload_n hx hb dX3_tellDeath_13 rfl (lv_at hl 0 rfl) ?_
  refine va_get (D := (dC, dI)) (ci := 0) (v := .int al) (C := RX3) (T := TX3) (N := 3) hx hb hts (by decide +kernel) hown hK hP 0 rfl rfl 2 (by decide) (hts (.fieldLink RX3 23 "Transversary$Points" "alive" "I") (by decide +kernel)) (fun _ h9 => h9) rfl dX3_tellDeath_14 ?_
  refine lv_iconst (v := 1) hx hb dX3_tellDeath_17 (by decide) ?_
  refine lv_iload_n hx hb dX3_tellDeath_18 rfl (lv_at hl 1 rfl) ?_
  refine lv_ishl hx hb dX3_tellDeath_19 ?_
  refine lv_topi (fun t1 et1 => ?_)
  refine lv_iconst (v := -1) hx hb dX3_tellDeath_20 (by decide) ?_
  refine lv_ixor hx hb dX3_tellDeath_21 ?_
  refine lv_topi (fun t2 et2 => ?_)
  refine lv_iand hx hb dX3_tellDeath_22 ?_
  refine lv_topi (fun t3 et3 => ?_)
  have h5 : t3 = al2 := by rw [et3, et2, et1]; exact h4
  subst h5
  refine lv_goto (tgt := 34) hx hb dX3_tellDeath_23 (by decide) ?_
  refine va_put (D := (dC, dI)) (ci := 0) (v := .int t3) (ty := .int) (C := RX3) (T := TX3) (N := 3) hx hb hts (by decide +kernel) tyX3 tyX3_ok nmX3 hown hK hP hD hS 0 rfl rfl 2 (by decide) (hts (.fieldLink RX3 23 "Transversary$Points" "alive" "I") (by decide +kernel)) (fun _ h9 => h9) rfl (by decide +kernel) rfl rfl (Nat.le_of_ble_eq_true rfl) dX3_tellDeath_34 (fun H locs hP hD hS => ?_)
  have hP : va_P (dC, dI) rfCl [(h0, .inr (0, [.ref w, .int mny, .int t3])), (w, .inl (aC 1, 7, .inl f))] H := hP
  have hD : va_D A [(h0, .inr (0, [.ref w, .int mny, .int t3])), (w, .inl (aC 1, 7, .inl f))] := hD
  have hP9 := hP.sub (ws' := [(h0, .inr (0, [.ref w, .int mny, .int t3])), (w, .inl (aC 1, 7, .inl f))]) [0, 1] rfl
  have hD9 := hD.sub (ws' := [(h0, .inr (0, [.ref w, .int mny, .int t3])), (w, .inl (aC 1, 7, .inl f))]) [0, 1] (by decide) rfl
  refine W.widen (k := 0) (n := 0) (Nat.le_of_ble_eq_true rfl) (Nat.le_of_ble_eq_true rfl) ?_
  exact W.vret hx hb hr (fun t ht hW => ⟨⟨(), rfl, trivial, by rw [ht]; exact hP9, hD9⟩, hS.F ht⟩) hS.2.2 dX3_tellDeath_37

set_option maxHeartbeats 4000000 in
set_option maxRecDepth 100000 in
theorem c_X11_isIn (l : Launch) (dC : Nat → ClassId) (dI : Nat → Nat → Nat) (aC : Nat → ClassId) (sz : Nat) (p0 p1 r : Int32) (h1 : (if p0 &&& (p1 ^^^ (-1)) = 0 then (1 : Int32) else 0) = r) : Met l yX11_isIn wsX11_isIn ({ frames := 1, cells := 0, slots := 0, locals := 0 } : Room) (rf_Pc (dC, dI) aC [.int p0, .int p1] [] sz) (QcRead r) 0 0 (fun _ => False) := by
  refine Met.ofW (cc := cX11_isIn) (maxL := 2) (ret := (some .boolean)) (by decide) rfl ?_
  intro p e s m args below meth c s₁ B hml hv
  obtain ⟨rfl, hsz, hP, hKN, hD0⟩ := hv
  obtain ⟨hK, hN⟩ := hKN
  have hx := B.exec
  have hb := B.bytes
  have hr := B.returns
  have hts := atoms_spec (ws := wsX11_isIn) B.pre
  have hown : s.vm.findClass RX11 = some m.cls := findClass_of_methodNamed B.named
  have hlocks := B.notSynchronized
  subst hsz
  have hD := hD0.self (sz := s.heap.size)
  generalize hAe : va_A [] s.heap.size = A at hD
  have hA : ∀ q : Nat, s.heap.size ≤ q → A q := fun q h => by rw [← hAe]; exact Or.inr h
  have hS : va_S A s.heap s.heap [] := va_S.rf
  have hP : va_P (dC, dI) rfCl [] s.heap := hP
  have hl := lv_entry ([.int p0, .int p1]) (n := 2) (Nat.le_of_ble_eq_true rfl)
  rw [lg_entry_eq]
  generalize (lg_sl ([.int p0, .int p1]) ++ List.replicate (2 - (lg_sl ([.int p0, .int p1])).length) Slot.unset).toArray = ls at hl ⊢
  have hl : lv_has ls 2 [(0, .int p0), (1, .int p1)] := hl
  refine lv_iload_n hx hb dX11_isIn_0 rfl (lv_at hl 0 rfl) ?_
  refine lv_iload_n hx hb dX11_isIn_1 rfl (lv_at hl 1 rfl) ?_
  refine lv_iconst (v := -1) hx hb dX11_isIn_2 (by decide) ?_
  refine lv_ixor hx hb dX11_isIn_3 ?_
  refine lv_topi (fun t1 et1 => ?_)
  refine lv_iand hx hb dX11_isIn_4 ?_
  refine lv_topi (fun t2 et2 => ?_)
  rw [et1] at et2
  rw [← et2] at h1
  refine lv_if_ne (tgt := 12) hx hb dX11_isIn_5 (by decide) (fun c9 => ?_) (fun c9 => ?_)
  · rw [if_neg c9] at h1
    subst h1
    refine lv_iconst (v := 0) hx hb dX11_isIn_12 (by decide) ?_
    exact W.zret (v := 0) hx hb hr rfl (fun t ht hW => ⟨rfl, ht⟩) (fun q h => nomatch h) dX11_isIn_13
  · rw [if_pos c9] at h1
    subst h1
    refine lv_iconst (v := 1) hx hb dX11_isIn_8 (by decide) ?_
    refine lv_goto (tgt := 13) hx hb dX11_isIn_9 (by decide) ?_
    exact W.zret (v := 1) hx hb hr rfl (fun t ht hW => ⟨rfl, ht⟩) (fun q h => nomatch h) dX11_isIn_13
