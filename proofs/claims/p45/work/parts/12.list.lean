set_option maxHeartbeats 4000000 in
set_option maxRecDepth 100000 in
theorem c_Jxa1e45_init_da8c8 (l : Launch) (dC : Nat → ClassId) (dI : Nat → Nat → Nat) (aC : Nat → ClassId) (sz : Nat) (h0 : Nat)  : Met l yJxa1e45_init_da8c8 wsJxa1e45_init_da8c8 ({ frames := 1, cells := 0, slots := 0, locals := 12 } : Room) (rf_Pc (dC, dI) aC [.ref h0] [] sz) (va_Sv (fun _ => True)) 0 0 (fun _ => False) := by
  refine Met.ofW (cc := cJxa1e45_init_da8c8) (maxL := 1) (ret := none) (by decide) rfl ?_
  intro p e s m args below meth c s₁ B hml hv
  obtain ⟨rfl, hsz, hP, hKN, hD0⟩ := hv
  obtain ⟨hK, hN⟩ := hKN
  have hx := B.exec
  have hb := B.bytes
  have hr := B.returns
  have hts := atoms_spec (ws := wsJxa1e45_init_da8c8) B.pre
  have hown : s.vm.findClass RJxa1e45 = some m.cls := findClass_of_methodNamed B.named
  have hlocks := B.notSynchronized
  have hin : meth.name = "<init>" := (name_of_methodNamed B.named B.method).1
  subst hsz
  have hD := hD0.self (sz := s.heap.size)
  generalize hAe : va_A [] s.heap.size = A at hD
  have hA : ∀ q : Nat, s.heap.size ≤ q → A q := fun q h => by rw [← hAe]; exact Or.inr h
  have hS : va_S A s.heap s.heap [] := va_S.rf
  have hP : va_P (dC, dI) rfCl [] s.heap := hP
  have hl := lv_entry ([.ref h0]) (n := 1) (Nat.le_of_ble_eq_true rfl)
  rw [lg_entry_eq]
  generalize (lg_sl ([.ref h0]) ++ List.replicate (1 - (lg_sl ([.ref h0])).length) Slot.unset).toArray = ls at hl ⊢
  have hl : lv_has ls 1 [(0, .ref h0)] := hl
  refine lv_aload_n hx hb dJxa1e45_init_da8c8_0 rfl (lv_at hl 0 rfl) ?_
  refine W.objInit hx hb hown (hts (.methodLink RJxa1e45 1 objectInit) (by decide +kernel)) (hts (.instanceMethod objectInit) (by decide +kernel)) (hts (.code objectInit ⟨#[0xb1]⟩ 1 none) (by decide +kernel)) rfl (by rw [hml]; exact hl.1) rfl dJxa1e45_init_da8c8_1 (Nat.le_of_ble_eq_true rfl) (Nat.le_of_ble_eq_true rfl) ?_
  refine W.eq (g2 := F0 m 4 ls []) rfl ?_
  exact W.vret hx hb hr (fun t ht hW => ⟨rfl, trivial, ht⟩) (fun q h => nomatch h) dJxa1e45_init_da8c8_4

set_option maxHeartbeats 4000000 in
set_option maxRecDepth 100000 in
theorem c_Jxc12de_init_da8c8 (l : Launch) (dC : Nat → ClassId) (dI : Nat → Nat → Nat) (aC : Nat → ClassId) (sz : Nat) (h0 : Nat) (mc : Int32) (ed : Value) (sz0 : Int32)  : Met l yJxc12de_init_da8c8 wsJxc12de_init_da8c8 ({ frames := 2, cells := 0, slots := 0, locals := 40 } : Room) (rf_Pc (dC, dI) aC [.ref h0] [(h0, .inr (13, [.int mc, ed, .int sz0]))] sz) (va_Qv (fun (u : Unit) => True) (fun (u : Unit) t => va_P (dC, dI) rfCl [(h0, .inr (13, [.int 0, ed, .int sz0]))] t.heap ∧ va_D (va_A [(h0, .inr (13, [.int mc, ed, .int sz0]))] sz) [(h0, .inr (13, [.int 0, ed, .int sz0]))]) (va_A [(h0, .inr (13, [.int mc, ed, .int sz0]))] sz)) 0 0 (va_A [(h0, .inr (13, [.int mc, ed, .int sz0]))] sz) := by
  refine Met.ofW (cc := cJxc12de_init_da8c8) (maxL := 1) (ret := none) (by decide) rfl ?_
  intro p e s m args below meth c s₁ B hml hv
  obtain ⟨rfl, hsz, hP, hKN, hD0⟩ := hv
  obtain ⟨hK, hN⟩ := hKN
  have hx := B.exec
  have hb := B.bytes
  have hr := B.returns
  have hts := atoms_spec (ws := wsJxc12de_init_da8c8) B.pre
  have hown : s.vm.findClass RJxc12de = some m.cls := findClass_of_methodNamed B.named
  have hlocks := B.notSynchronized
  have hin : meth.name = "<init>" := (name_of_methodNamed B.named B.method).1
  subst hsz
  have hD := hD0.self (sz := s.heap.size)
  generalize hAe : va_A [(h0, .inr (13, [.int mc, ed, .int sz0]))] s.heap.size = A at hD ⊢
  have hA : ∀ q : Nat, s.heap.size ≤ q → A q := fun q h => by rw [← hAe]; exact Or.inr h
  have hS : va_S A s.heap s.heap [] := va_S.rf
  have hP : va_P (dC, dI) rfCl [(h0, .inr (13, [.int mc, ed, .int sz0]))] s.heap := hP
  have hl := lv_entry ([.ref h0]) (n := 1) (Nat.le_of_ble_eq_true rfl)
  rw [lg_entry_eq]
  generalize (lg_sl ([.ref h0]) ++ List.replicate (1 - (lg_sl ([.ref h0])).length) Slot.unset).toArray = ls at hl ⊢
  have hl : lv_has ls 1 [(0, .ref h0)] := hl
  refine lv_aload_n hx hb dJxc12de_init_da8c8_0 rfl (lv_at hl 0 rfl) ?_
  have hPc := hP.sub (ws' := []) [] rfl
  have hDc := hD.sub (ws' := []) [] (by decide) rfl
  refine va_csv (rf_cr (va_runI (As := []) (rest := []) ⟨hx, hb, hml, hown, hts⟩ (c_Jxa1e45_init_da8c8 l dC dI aC s.heap.size h0) (cwI 0 hts gJxc12de_init_da8c8_Jxa1e45_init_da8c8 rfl rfl rfl (hts (.initialized RJxa1e45) (by decide +kernel)) (hts (.methodLink RJxc12de 1 yJxa1e45_init_da8c8) (by decide +kernel)) (hts (.instanceMethod yJxa1e45_init_da8c8) (by decide +kernel)) rfl (by decide +kernel) ⟨Nat.le_of_ble_eq_true rfl, Nat.le_of_ble_eq_true rfl⟩) (rf_ps hK hN hPc hDc) rfl rfl hl.1 rfl (lv_room (Nat.le_of_ble_eq_true rfl)) dJxc12de_init_da8c8_1 ⟨Nat.le_of_ble_eq_true rfl, Nat.le_of_ble_eq_true rfl⟩)) (fun _ => ?_)
  refine lv_aload_n hx hb dJxc12de_init_da8c8_4 rfl (lv_at hl 0 rfl) ?_
  refine lv_iconst (v := 0) hx hb dJxc12de_init_da8c8_5 (by decide) ?_
  refine va_put (D := (dC, dI)) (ci := 13) (v := .int 0) (ty := .int) (C := RJx4a65c) (T := TJx4a65c) (N := 3) hx hb hts (by decide +kernel) tyJx4a65c tyJx4a65c_ok nmJx4a65c hown hK hP hD hS 0 rfl rfl 0 (by decide) (hts (.fieldLink RJxc12de 7 "java/util/AbstractList" "modCount" "I") (by decide +kernel)) (fun _ h9 => h9) rfl (by decide +kernel) rfl rfl (Nat.le_of_ble_eq_true rfl) dJxc12de_init_da8c8_6 (fun H locs hP hD hS => ?_)
  have hP : va_P (dC, dI) rfCl [(h0, .inr (13, [.int 0, ed, .int sz0]))] H := hP
  have hD : va_D A [(h0, .inr (13, [.int 0, ed, .int sz0]))] := hD
  have hP9 := hP.sub (ws' := [(h0, .inr (13, [.int 0, ed, .int sz0]))]) [0] rfl
  have hD9 := hD.sub (ws' := [(h0, .inr (13, [.int 0, ed, .int sz0]))]) [0] (by decide) rfl
  refine W.widen (k := 0) (n := 0) (Nat.le_of_ble_eq_true rfl) (Nat.le_of_ble_eq_true rfl) ?_
  exact W.vret hx hb hr (fun t ht hW => ⟨⟨(), rfl, trivial, by rw [ht]; exact hP9, hD9⟩, hS.F ht⟩) hS.2.2 dJxc12de_init_da8c8_9

set_option maxHeartbeats 4000000 in
set_option maxRecDepth 100000 in
theorem c_Jx4a65c_init_da8c8 (l : Launch) (dC : Nat → ClassId) (dI : Nat → Nat → Nat) (aC : Nat → ClassId) (sz : Nat) (ev h0 : Nat)  : Met l yJx4a65c_init_da8c8 wsJx4a65c_init_da8c8 ({ frames := 3, cells := 0, slots := 0, locals := 80 } : Room) (rf_PcZ (dC, dI) aC [.ref h0] [(h0, .inr (13, [.int 0, .null, .int 0]))] sz ev) (va_Qv (fun (u : Unit) => True) (fun (u : Unit) t => va_P (dC, dI) rfCl [(h0, .inr (13, [.int 0, .ref ev, .int 0]))] t.heap ∧ va_D (va_A [(h0, .inr (13, [.int 0, .null, .int 0]))] sz) [(h0, .inr (13, [.int 0, .ref ev, .int 0]))]) (va_A [(h0, .inr (13, [.int 0, .null, .int 0]))] sz)) 0 0 (va_A [(h0, .inr (13, [.int 0, .null, .int 0]))] sz) := by
  refine Met.ofW (cc := cJx4a65c_init_da8c8) (maxL := 1) (ret := none) (by decide) rfl ?_
  intro p e s m args below meth c s₁ B hml hv
  obtain ⟨⟨rfl, hsz, hP, hKN, hD0⟩, hZ⟩ := hv
  obtain ⟨hK, hN⟩ := hKN
  have hx := B.exec
  have hb := B.bytes
  have hr := B.returns
  have hts := atoms_spec (ws := wsJx4a65c_init_da8c8) B.pre
  have hown : s.vm.findClass RJx4a65c = some m.cls := findClass_of_methodNamed B.named
  have hlocks := B.notSynchronized
  have hin : meth.name = "<init>" := (name_of_methodNamed B.named B.method).1
  subst hsz
  have hD := hD0.self (sz := s.heap.size)
  generalize hAe : va_A [(h0, .inr (13, [.int 0, .null, .int 0]))] s.heap.size = A at hD hZ ⊢
  have hA : ∀ q : Nat, s.heap.size ≤ q → A q := fun q h => by rw [← hAe]; exact Or.inr h
  have hS : va_S A s.heap s.heap [] := va_S.rf
  have hP : va_P (dC, dI) rfCl [(h0, .inr (13, [.int 0, .null, .int 0]))] s.heap := hP
  have hl := lv_entry ([.ref h0]) (n := 1) (Nat.le_of_ble_eq_true rfl)
  rw [lg_entry_eq]
  generalize (lg_sl ([.ref h0]) ++ List.replicate (1 - (lg_sl ([.ref h0])).length) Slot.unset).toArray = ls at hl ⊢
  have hl : lv_has ls 1 [(0, .ref h0)] := hl
  refine lv_aload_n hx hb dJx4a65c_init_da8c8_0 rfl (lv_at hl 0 rfl) ?_
  have hPc := hP.sub (ws' := [(h0, .inr (13, [.int 0, .null, .int 0]))]) [0] rfl
  have hDc := hD.sub (ws' := [(h0, .inr (13, [.int 0, .null, .int 0]))]) [0] (by decide) rfl
  have hFc := va_free (wc := [(h0, .inr (13, [.int 0, .null, .int 0]))]) hD hS hA [0] rfl
  refine va_callv (va_runI (As := []) (rest := []) ⟨hx, hb, hml, hown, hts⟩ (c_Jxc12de_init_da8c8 l dC dI aC s.heap.size h0 0 .null 0) (cwI 0 hts gJx4a65c_init_da8c8_Jxc12de_init_da8c8 rfl rfl rfl (hts (.initialized RJxc12de) (by decide +kernel)) (hts (.methodLink RJx4a65c 1 yJxc12de_init_da8c8) (by decide +kernel)) (hts (.instanceMethod yJxc12de_init_da8c8) (by decide +kernel)) rfl (by decide +kernel) ⟨Nat.le_of_ble_eq_true rfl, Nat.le_of_ble_eq_true rfl⟩) (rf_ps hK hN hPc hDc) rfl rfl hl.1 rfl (lv_room (Nat.le_of_ble_eq_true rfl)) dJx4a65c_init_da8c8_1 ⟨Nat.le_of_ble_eq_true rfl, Nat.le_of_ble_eq_true rfl⟩) hS (fun q _ h => hFc q h) hFc (fun u1 t H1 locs ht hvm hwu1 hB hz1 hk1 hS => ?_)
  obtain ⟨hP1, hD1⟩ := hB
  rw [ht] at hP1
  try dsimp only at hwu1 hP1 hD1
  obtain ⟨hP, hD⟩ := va_join (wr := []) (w1 := [(h0, .inr (13, [.int 0, .null, .int 0]))]) hP hD [0] [] rfl rfl (by decide) (by decide) hk1 hFc hP1 hD1
  clear hP1 hD1 hPc hDc hFc
  generalize H1 = H at hP hS ⊢
  have hP : va_P (dC, dI) rfCl [(h0, .inr (13, [.int 0, .null, .int 0]))] H := hP
  have hD : va_D A [(h0, .inr (13, [.int 0, .null, .int 0]))] := hD
  refine W.widen (k := 0) (n := 0) (Nat.le_of_ble_eq_true rfl) (Nat.le_of_ble_eq_true rfl) ?_
  refine lv_aload_n hx hb dJx4a65c_init_da8c8_4 rfl (lv_at hl 0 rfl) ?_
  refine va_gets (C := "java/util/ArrayList") (n := "DEFAULTCAPACITY_EMPTY_ELEMENTDATA") (d := "[Ljava/lang/Object;") (v := .ref ev) hx hb hZ hS hown (hts (.fieldLink RJx4a65c 39 "java/util/ArrayList" "DEFAULTCAPACITY_EMPTY_ELEMENTDATA" "[Ljava/lang/Object;") (by decide +kernel)) (fun _ h9 => h9) dJx4a65c_init_da8c8_5 ?_
  refine va_put (D := (dC, dI)) (ci := 13) (v := .ref ev) (ty := (.array (.object "java/lang/Object"))) (C := RJx4a65c) (T := TJx4a65c) (N := 3) hx hb hts (by decide +kernel) tyJx4a65c tyJx4a65c_ok nmJx4a65c hown hK hP hD hS 0 rfl rfl 1 (by decide) (hts (.fieldLink RJx4a65c 9 "java/util/ArrayList" "elementData" "[Ljava/lang/Object;") (by decide +kernel)) (fun _ h9 => h9) rfl (by decide +kernel) rfl rfl (Nat.le_of_ble_eq_true rfl) dJx4a65c_init_da8c8_8 (fun H locs hP hD hS => ?_)
  have hP : va_P (dC, dI) rfCl [(h0, .inr (13, [.int 0, .ref ev, .int 0]))] H := hP
  have hD : va_D A [(h0, .inr (13, [.int 0, .ref ev, .int 0]))] := hD
  have hP9 := hP.sub (ws' := [(h0, .inr (13, [.int 0, .ref ev, .int 0]))]) [0] rfl
  have hD9 := hD.sub (ws' := [(h0, .inr (13, [.int 0, .ref ev, .int 0]))]) [0] (by decide) rfl
  refine W.widen (k := 0) (n := 0) (Nat.le_of_ble_eq_true rfl) (Nat.le_of_ble_eq_true rfl) ?_
  exact W.vret hx hb hr (fun t ht hW => ⟨⟨(), rfl, trivial, by rw [ht]; exact hP9, hD9⟩, hS.F ht⟩) hS.2.2 dJx4a65c_init_da8c8_11

set_option maxHeartbeats 4000000 in
set_option maxRecDepth 100000 in
theorem c_Jx4a65c_size_8abf5 (l : Launch) (dC : Nat → ClassId) (dI : Nat → Nat → Nat) (aC : Nat → ClassId) (sz : Nat) (h0 : Nat) (mc : Int32) (ed : Value) (sz0 : Int32)  : Met l yJx4a65c_size_8abf5 wsJx4a65c_size_8abf5 ({ frames := 1, cells := 0, slots := 0, locals := 0 } : Room) (rf_Pc (dC, dI) aC [.ref h0] [(h0, .inr (13, [.int mc, ed, .int sz0]))] sz) (QcRead sz0) 0 0 (fun _ => False) := by
  refine Met.ofW (cc := cJx4a65c_size_8abf5) (maxL := 1) (ret := (some .int)) (by decide) rfl ?_
  intro p e s m args below meth c s₁ B hml hv
  obtain ⟨rfl, hsz, hP, hKN, hD0⟩ := hv
  obtain ⟨hK, hN⟩ := hKN
  have hx := B.exec
  have hb := B.bytes
  have hr := B.returns
  have hts := atoms_spec (ws := wsJx4a65c_size_8abf5) B.pre
  have hown : s.vm.findClass RJx4a65c = some m.cls := findClass_of_methodNamed B.named
  have hlocks := B.notSynchronized
  subst hsz
  have hD := hD0.self (sz := s.heap.size)
  generalize hAe : va_A [(h0, .inr (13, [.int mc, ed, .int sz0]))] s.heap.size = A at hD
  have hA : ∀ q : Nat, s.heap.size ≤ q → A q := fun q h => by rw [← hAe]; exact Or.inr h
  have hS : va_S A s.heap s.heap [] := va_S.rf
  have hP : va_P (dC, dI) rfCl [(h0, .inr (13, [.int mc, ed, .int sz0]))] s.heap := hP
  have hl := lv_entry ([.ref h0]) (n := 1) (Nat.le_of_ble_eq_true rfl)
  rw [lg_entry_eq]
  generalize (lg_sl ([.ref h0]) ++ List.replicate (1 - (lg_sl ([.ref h0])).length) Slot.unset).toArray = ls at hl ⊢
  have hl : lv_has ls 1 [(0, .ref h0)] := hl
  refine lv_aload_n hx hb dJx4a65c_size_8abf5_0 rfl (lv_at hl 0 rfl) ?_
  refine va_get (D := (dC, dI)) (ci := 13) (v := .int sz0) (C := RJx4a65c) (T := TJx4a65c) (N := 3) hx hb hts (by decide +kernel) hown hK hP 0 rfl rfl 2 (by decide) (hts (.fieldLink RJx4a65c 48 "java/util/ArrayList" "size" "I") (by decide +kernel)) (fun _ h9 => h9) rfl dJx4a65c_size_8abf5_1 ?_
  exact W.iret (v := sz0) hx hb hr (fun t ht hW => ⟨rfl, ht⟩) (fun q h => nomatch h) dJx4a65c_size_8abf5_4

set_option maxHeartbeats 4000000 in
set_option maxRecDepth 100000 in
theorem c_Jx4a65c_clear_da8c8 (l : Launch) (dC : Nat → ClassId) (dI : Nat → Nat → Nat) (aC : Nat → ClassId) (sz : Nat) (h0 : Nat) (mc : Int32) (ed : Nat)  : Met l yJx4a65c_clear_da8c8 wsJx4a65c_clear_da8c8 ({ frames := 1, cells := 0, slots := 0, locals := 0 } : Room) (rf_Pc (dC, dI) aC [.ref h0] [(h0, .inr (13, [.int mc, .ref ed, .int 0]))] sz) (va_Qv (fun (u : Int32) => True) (fun (u : Int32) t => va_P (dC, dI) rfCl [(h0, .inr (13, [.int u, .ref ed, .int 0]))] t.heap ∧ va_D (va_A [(h0, .inr (13, [.int mc, .ref ed, .int 0]))] sz) [(h0, .inr (13, [.int u, .ref ed, .int 0]))]) (va_A [(h0, .inr (13, [.int mc, .ref ed, .int 0]))] sz)) 0 0 (va_A [(h0, .inr (13, [.int mc, .ref ed, .int 0]))] sz) := by
  refine Met.ofW (cc := cJx4a65c_clear_da8c8) (maxL := 4) (ret := none) (by decide) rfl ?_
  intro p e s m args below meth c s₁ B hml hv
  obtain ⟨rfl, hsz, hP, hKN, hD0⟩ := hv
  obtain ⟨hK, hN⟩ := hKN
  have hx := B.exec
  have hb := B.bytes
  have hr := B.returns
  have hts := atoms_spec (ws := wsJx4a65c_clear_da8c8) B.pre
  have hown : s.vm.findClass RJx4a65c = some m.cls := findClass_of_methodNamed B.named
  have hlocks := B.notSynchronized
  subst hsz
  have hD := hD0.self (sz := s.heap.size)
  generalize hAe : va_A [(h0, .inr (13, [.int mc, .ref ed, .int 0]))] s.heap.size = A at hD ⊢
  have hA : ∀ q : Nat, s.heap.size ≤ q → A q := fun q h => by rw [← hAe]; exact Or.inr h
  have hS : va_S A s.heap s.heap [] := va_S.rf
  have hP : va_P (dC, dI) rfCl [(h0, .inr (13, [.int mc, .ref ed, .int 0]))] s.heap := hP
  have hl := lv_entry ([.ref h0]) (n := 4) (Nat.le_of_ble_eq_true rfl)
  rw [lg_entry_eq]
  generalize (lg_sl ([.ref h0]) ++ List.replicate (4 - (lg_sl ([.ref h0])).length) Slot.unset).toArray = ls at hl ⊢
  have hl : lv_has ls 4 [(0, .ref h0)] := hl
  refine lv_aload_n hx hb dJx4a65c_clear_da8c8_0 rfl (lv_at hl 0 rfl) ?_
  refine lv_dup hx hb dJx4a65c_clear_da8c8_1 rfl ?_
  refine va_get (D := (dC, dI)) (ci := 13) (v := .int mc) (C := RJx4a65c) (T := TJx4a65c) (N := 3) hx hb hts (by decide +kernel) hown hK hP 0 rfl rfl 0 (by decide) (hts (.fieldLink RJx4a65c 63 "java/util/ArrayList" "modCount" "I") (by decide +kernel)) (u_same (hts (.sameField "java/util/ArrayList" "java/util/AbstractList" "modCount" "I") (by decide +kernel))) rfl dJx4a65c_clear_da8c8_2 ?_
  refine lv_iconst (v := 1) hx hb dJx4a65c_clear_da8c8_5 (by decide) ?_
  refine lv_iadd hx hb dJx4a65c_clear_da8c8_6 ?_
  refine lv_topi (fun t1 et1 => ?_)
  refine va_put (D := (dC, dI)) (ci := 13) (v := .int t1) (ty := .int) (C := RJx4a65c) (T := TJx4a65c) (N := 3) hx hb hts (by decide +kernel) tyJx4a65c tyJx4a65c_ok nmJx4a65c hown hK hP hD hS 0 rfl rfl 0 (by decide) (hts (.fieldLink RJx4a65c 63 "java/util/ArrayList" "modCount" "I") (by decide +kernel)) (u_same (hts (.sameField "java/util/ArrayList" "java/util/AbstractList" "modCount" "I") (by decide +kernel))) rfl (by decide +kernel) rfl rfl (Nat.le_of_ble_eq_true rfl) dJx4a65c_clear_da8c8_7 (fun H locs hP hD hS => ?_)
  have hP : va_P (dC, dI) rfCl [(h0, .inr (13, [.int t1, .ref ed, .int 0]))] H := hP
  have hD : va_D A [(h0, .inr (13, [.int t1, .ref ed, .int 0]))] := hD
  refine lv_aload_n hx hb dJx4a65c_clear_da8c8_10 rfl (lv_at hl 0 rfl) ?_
  refine va_get (D := (dC, dI)) (ci := 13) (v := .ref ed) (C := RJx4a65c) (T := TJx4a65c) (N := 3) hx hb hts (by decide +kernel) hown hK hP 0 rfl rfl 1 (by decide) (hts (.fieldLink RJx4a65c 9 "java/util/ArrayList" "elementData" "[Ljava/lang/Object;") (by decide +kernel)) (fun _ h9 => h9) rfl dJx4a65c_clear_da8c8_11 ?_
  refine lv_astore_n (lv' := [(1, .ref ed), (0, .ref h0)]) hx hb dJx4a65c_clear_da8c8_14 rfl hl (by decide) rfl (fun ls hl => ?_)
  refine lv_aload_n hx hb dJx4a65c_clear_da8c8_15 rfl (lv_at hl 1 rfl) ?_
  refine va_get (D := (dC, dI)) (ci := 13) (v := .int 0) (C := RJx4a65c) (T := TJx4a65c) (N := 3) hx hb hts (by decide +kernel) hown hK hP 0 rfl rfl 2 (by decide) (hts (.fieldLink RJx4a65c 48 "java/util/ArrayList" "size" "I") (by decide +kernel)) (fun _ h9 => h9) rfl dJx4a65c_clear_da8c8_16 ?_
  refine lv_istore_n (lv' := [(2, .int 0), (1, .ref ed), (0, .ref h0)]) hx hb dJx4a65c_clear_da8c8_19 rfl hl (by decide) rfl (fun ls hl => ?_)
  refine lv_aload_n hx hb dJx4a65c_clear_da8c8_20 rfl (lv_at hl 2 rfl) ?_
  refine lv_iconst (v := 0) hx hb dJx4a65c_clear_da8c8_21 (by decide) ?_
  refine lv_dup_x1 hx hb dJx4a65c_clear_da8c8_22 rfl rfl ?_
  refine va_put (D := (dC, dI)) (ci := 13) (v := .int 0) (ty := .int) (C := RJx4a65c) (T := TJx4a65c) (N := 3) hx hb hts (by decide +kernel) tyJx4a65c tyJx4a65c_ok nmJx4a65c hown hK hP hD hS 0 rfl rfl 2 (by decide) (hts (.fieldLink RJx4a65c 48 "java/util/ArrayList" "size" "I") (by decide +kernel)) (fun _ h9 => h9) rfl (by decide +kernel) rfl rfl (Nat.le_of_ble_eq_true rfl) dJx4a65c_clear_da8c8_23 (fun H locs hP hD hS => ?_)
  have hP : va_P (dC, dI) rfCl [(h0, .inr (13, [.int t1, .ref ed, .int 0]))] H := hP
  have hD : va_D A [(h0, .inr (13, [.int t1, .ref ed, .int 0]))] := hD
  refine lv_istore_n (lv' := [(3, .int 0), (2, .int 0), (1, .ref ed), (0, .ref h0)]) hx hb dJx4a65c_clear_da8c8_26 rfl hl (by decide) rfl (fun ls hl => ?_)
  refine lv_iload_n hx hb dJx4a65c_clear_da8c8_27 rfl (lv_at hl 0 rfl) ?_
  refine lv_iload_n hx hb dJx4a65c_clear_da8c8_28 rfl (lv_at hl 1 rfl) ?_
  refine lv_icmp_ge (tgt := 42) hx hb dJx4a65c_clear_da8c8_29 (by decide) (fun _ => ?_) (fun c9 => absurd (by decide) c9)
  have hP9 := hP.sub (ws' := [(h0, .inr (13, [.int t1, .ref ed, .int 0]))]) [0] rfl
  have hD9 := hD.sub (ws' := [(h0, .inr (13, [.int t1, .ref ed, .int 0]))]) [0] (by decide) rfl
  refine W.widen (k := 0) (n := 0) (Nat.le_of_ble_eq_true rfl) (Nat.le_of_ble_eq_true rfl) ?_
  exact W.vret hx hb hr (fun t ht hW => ⟨⟨t1, rfl, trivial, by rw [ht]; exact hP9, hD9⟩, hS.F ht⟩) hS.2.2 dJx4a65c_clear_da8c8_42

set_option maxHeartbeats 4000000 in
set_option maxRecDepth 100000 in
theorem c_Jx4a65c_grow_92f84 (l : Launch) (dC : Nat → ClassId) (dI : Nat → Nat → Nat) (aC : Nat → ClassId) (sz : Nat) (ev h0 : Nat) (mc : Int32) (ef : Nat → Option Nat)  : Met l yJx4a65c_grow_92f84 wsJx4a65c_grow_92f84 ({ frames := 2, cells := 1, slots := 10, locals := 40 } : Room) (rf_PcZ (dC, dI) aC [.ref h0, .int 1] [(h0, .inr (13, [.int mc, .ref ev, .int 0])), (ev, .inl (aC 5, 0, .inr (.inr (.inr (.inr ef)))))] sz ev) (va_Qr (fun (u : Nat) => True) (fun (u : Nat) (ra : Nat) t => ra = u ∧ va_P (dC, dI) rfCl [(h0, .inr (13, [.int mc, .ref u, .int 0])), (ev, .inl (aC 5, 0, .inr (.inr (.inr (.inr ef))))), (u, .inl (aC 5, 10, .inr (.inr (.inr (.inr (fun _ => none))))))] t.heap ∧ va_D (va_A [(h0, .inr (13, [.int mc, .ref ev, .int 0])), (ev, .inl (aC 5, 0, .inr (.inr (.inr (.inr ef)))))] sz) [(h0, .inr (13, [.int mc, .ref u, .int 0])), (ev, .inl (aC 5, 0, .inr (.inr (.inr (.inr ef))))), (u, .inl (aC 5, 10, .inr (.inr (.inr (.inr (fun _ => none))))))]) (va_A [(h0, .inr (13, [.int mc, .ref ev, .int 0])), (ev, .inl (aC 5, 0, .inr (.inr (.inr (.inr ef)))))] sz)) 1 10 (va_A [(h0, .inr (13, [.int mc, .ref ev, .int 0])), (ev, .inl (aC 5, 0, .inr (.inr (.inr (.inr ef)))))] sz) := by
  refine Met.ofW (cc := cJx4a65c_grow_92f84) (maxL := 4) (ret := (some (.array (.object "java/lang/Object")))) (by decide) rfl ?_
  intro p e s m args below meth c s₁ B hml hv
  obtain ⟨⟨rfl, hsz, hP, hKN, hD0⟩, hZ⟩ := hv
  obtain ⟨hK, hN⟩ := hKN
  have hx := B.exec
  have hb := B.bytes
  have hr := B.returns
  have hts := atoms_spec (ws := wsJx4a65c_grow_92f84) B.pre
  have hown : s.vm.findClass RJx4a65c = some m.cls := findClass_of_methodNamed B.named
  have hlocks := B.notSynchronized
  subst hsz
  have hD := hD0.self (sz := s.heap.size)
  generalize hAe : va_A [(h0, .inr (13, [.int mc, .ref ev, .int 0])), (ev, .inl (aC 5, 0, .inr (.inr (.inr (.inr ef)))))] s.heap.size = A at hD hZ ⊢
  have hA : ∀ q : Nat, s.heap.size ≤ q → A q := fun q h => by rw [← hAe]; exact Or.inr h
  have hS : va_S A s.heap s.heap [] := va_S.rf
  have hP : va_P (dC, dI) rfCl [(h0, .inr (13, [.int mc, .ref ev, .int 0])), (ev, .inl (aC 5, 0, .inr (.inr (.inr (.inr ef)))))] s.heap := hP
  have hl := lv_entry ([.ref h0, .int 1]) (n := 4) (Nat.le_of_ble_eq_true rfl)
  rw [lg_entry_eq]
  generalize (lg_sl ([.ref h0, .int 1]) ++ List.replicate (4 - (lg_sl ([.ref h0, .int 1])).length) Slot.unset).toArray = ls at hl ⊢
  have hl : lv_has ls 4 [(0, .ref h0), (1, .int 1)] := hl
  refine lv_aload_n hx hb dJx4a65c_grow_92f84_0 rfl (lv_at hl 0 rfl) ?_
  refine va_get (D := (dC, dI)) (ci := 13) (v := .ref ev) (C := RJx4a65c) (T := TJx4a65c) (N := 3) hx hb hts (by decide +kernel) hown hK hP 0 rfl rfl 1 (by decide) (hts (.fieldLink RJx4a65c 9 "java/util/ArrayList" "elementData" "[Ljava/lang/Object;") (by decide +kernel)) (fun _ h9 => h9) rfl dJx4a65c_grow_92f84_1 ?_
  refine va_alen (v := 0) hx hb hK hP 1 5 rfl rfl rfl dJx4a65c_grow_92f84_4 ?_
  refine lv_istore_n (lv' := [(2, .int 0), (0, .ref h0), (1, .int 1)]) hx hb dJx4a65c_grow_92f84_5 rfl hl (by decide) rfl (fun ls hl => ?_)
  refine lv_iload_n hx hb dJx4a65c_grow_92f84_6 rfl (lv_at hl 0 rfl) ?_
  refine lv_if_gt (tgt := 20) hx hb dJx4a65c_grow_92f84_7 (by decide) (fun c9 => absurd c9 (by decide)) (fun _ => ?_)
  refine lv_aload_n hx hb dJx4a65c_grow_92f84_10 rfl (lv_at hl 1 rfl) ?_
  refine va_get (D := (dC, dI)) (ci := 13) (v := .ref ev) (C := RJx4a65c) (T := TJx4a65c) (N := 3) hx hb hts (by decide +kernel) hown hK hP 0 rfl rfl 1 (by decide) (hts (.fieldLink RJx4a65c 9 "java/util/ArrayList" "elementData" "[Ljava/lang/Object;") (by decide +kernel)) (fun _ h9 => h9) rfl dJx4a65c_grow_92f84_11 ?_
  refine va_gets (C := "java/util/ArrayList") (n := "DEFAULTCAPACITY_EMPTY_ELEMENTDATA") (d := "[Ljava/lang/Object;") (v := .ref ev) hx hb hZ hS hown (hts (.fieldLink RJx4a65c 39 "java/util/ArrayList" "DEFAULTCAPACITY_EMPTY_ELEMENTDATA" "[Ljava/lang/Object;") (by decide +kernel)) (fun _ h9 => h9) dJx4a65c_grow_92f84_14 ?_
  refine W.eq (g2 := F0 m 17 ls [va_rf (some ev), va_rf (some ev)]) rfl ?_
  refine lv_acmp_eq (tgt := 45) hx hb dJx4a65c_grow_92f84_17 (by decide) (fun _ => ?_) (fun c9 => absurd rfl c9)
  refine lv_aload_n hx hb dJx4a65c_grow_92f84_45 rfl (lv_at hl 1 rfl) ?_
  refine lv_bipush (v := 10) hx hb dJx4a65c_grow_92f84_46 (by decide) ?_
  refine lv_iload_n hx hb dJx4a65c_grow_92f84_48 rfl (lv_at hl 2 rfl) ?_
  refine va_mmax hx hb (by rw [hml]; exact hl.1.symm) hown (hts (.methodLink RJx4a65c 79 Lib.Math.max.name) (by decide +kernel)) (hts (.static Lib.Math.max.name) (by decide +kernel)) (hts (.initialized "java/lang/Math") (by decide +kernel)) (hts (.code Lib.Math.max.name Lib.Math.max.code 2 (some .int)) (by decide +kernel)) (Nat.le_of_ble_eq_true rfl) (Nat.le_of_ble_eq_true rfl) (Nat.le_of_ble_eq_true rfl) (Nat.le_of_ble_eq_true rfl) dJx4a65c_grow_92f84_49 ?_
  refine W.eq (g2 := F0 m 52 ls [.int 10, .ref h0]) (by rw [if_neg (by decide)]) ?_
  refine va_newq (C := "java/lang/Object") (N' := 10) hx hb hown (hts (.classLink RJx4a65c 7 "java/lang/Object") (by decide +kernel)) hN.2.2.1 hK hP hD hS hA (by decide) (by decide) (by decide) (Nat.le_of_ble_eq_true rfl) (Nat.le_of_ble_eq_true rfl) dJx4a65c_grow_92f84_52 (fun q1 cA9 H hK hP hD hS => ?_)
  obtain rfl : cA9 = aC 5 := rf_sameA hK 6 5 rfl rfl
  have hK := hK.sub (tys' := rfT aC) [0, 1, 2, 3, 4, 5] rfl
  have hP : va_P (dC, dI) rfCl [(h0, .inr (13, [.int mc, .ref ev, .int 0])), (ev, .inl (aC 5, 0, .inr (.inr (.inr (.inr ef))))), (q1, .inl (aC 5, 10, .inr (.inr (.inr (.inr (fun _ => none))))))] H := hP
  have hD : va_D A [(h0, .inr (13, [.int mc, .ref ev, .int 0])), (ev, .inl (aC 5, 0, .inr (.inr (.inr (.inr ef))))), (q1, .inl (aC 5, 10, .inr (.inr (.inr (.inr (fun _ => none))))))] := hD
  refine W.widen (k := 1) (n := 10) (Nat.le_of_ble_eq_true rfl) (Nat.le_of_ble_eq_true rfl) ?_
  refine lv_dup_x1 hx hb dJx4a65c_grow_92f84_55 rfl rfl ?_
  refine va_put (D := (dC, dI)) (ci := 13) (v := .ref q1) (ty := (.array (.object "java/lang/Object"))) (C := RJx4a65c) (T := TJx4a65c) (N := 3) hx hb hts (by decide +kernel) tyJx4a65c tyJx4a65c_ok nmJx4a65c hown hK hP hD hS 0 rfl rfl 1 (by decide) (hts (.fieldLink RJx4a65c 9 "java/util/ArrayList" "elementData" "[Ljava/lang/Object;") (by decide +kernel)) (fun _ h9 => h9) rfl (by decide +kernel) rfl rfl (Nat.le_of_ble_eq_true rfl) dJx4a65c_grow_92f84_56 (fun H locs hP hD hS => ?_)
  have hP : va_P (dC, dI) rfCl [(h0, .inr (13, [.int mc, .ref q1, .int 0])), (ev, .inl (aC 5, 0, .inr (.inr (.inr (.inr ef))))), (q1, .inl (aC 5, 10, .inr (.inr (.inr (.inr (fun _ => none))))))] H := hP
  have hD : va_D A [(h0, .inr (13, [.int mc, .ref q1, .int 0])), (ev, .inl (aC 5, 0, .inr (.inr (.inr (.inr ef))))), (q1, .inl (aC 5, 10, .inr (.inr (.inr (.inr (fun _ => none))))))] := hD
  have hP9 := hP.sub (ws' := [(h0, .inr (13, [.int mc, .ref q1, .int 0])), (ev, .inl (aC 5, 0, .inr (.inr (.inr (.inr ef))))), (q1, .inl (aC 5, 10, .inr (.inr (.inr (.inr (fun _ => none))))))]) [0, 1, 2] rfl
  have hD9 := hD.sub (ws' := [(h0, .inr (13, [.int mc, .ref q1, .int 0])), (ev, .inl (aC 5, 0, .inr (.inr (.inr (.inr ef))))), (q1, .inl (aC 5, 10, .inr (.inr (.inr (.inr (fun _ => none))))))]) [0, 1, 2] (by decide) rfl
  refine W.widen (k := 1) (n := 10) (Nat.le_of_ble_eq_true rfl) (Nat.le_of_ble_eq_true rfl) ?_
  exact W.aret (v := .ref q1) hx hb hr (Or.inr ⟨_, rfl⟩) (Or.inr ⟨_, rfl⟩) (fun t ht hW => ⟨⟨q1, q1, rfl, trivial, rfl, by rw [ht]; exact hP9, hD9⟩, hS.F ht⟩) hS.2.2 dJx4a65c_grow_92f84_59

set_option maxHeartbeats 4000000 in
set_option maxRecDepth 100000 in
theorem c_Jx4a65c_grow_d5877 (l : Launch) (dC : Nat → ClassId) (dI : Nat → Nat → Nat) (aC : Nat → ClassId) (sz : Nat) (ev h0 : Nat) (mc : Int32) (ef : Nat → Option Nat)  : Met l yJx4a65c_grow_d5877 wsJx4a65c_grow_d5877 ({ frames := 3, cells := 1, slots := 10, locals := 80 } : Room) (rf_PcZ (dC, dI) aC [.ref h0] [(h0, .inr (13, [.int mc, .ref ev, .int 0])), (ev, .inl (aC 5, 0, .inr (.inr (.inr (.inr ef)))))] sz ev) (va_Qr (fun (u : Nat) => True) (fun (u : Nat) (ra : Nat) t => ra = u ∧ va_P (dC, dI) rfCl [(h0, .inr (13, [.int mc, .ref u, .int 0])), (ev, .inl (aC 5, 0, .inr (.inr (.inr (.inr ef))))), (u, .inl (aC 5, 10, .inr (.inr (.inr (.inr (fun _ => none))))))] t.heap ∧ va_D (va_A [(h0, .inr (13, [.int mc, .ref ev, .int 0])), (ev, .inl (aC 5, 0, .inr (.inr (.inr (.inr ef)))))] sz) [(h0, .inr (13, [.int mc, .ref u, .int 0])), (ev, .inl (aC 5, 0, .inr (.inr (.inr (.inr ef))))), (u, .inl (aC 5, 10, .inr (.inr (.inr (.inr (fun _ => none))))))]) (va_A [(h0, .inr (13, [.int mc, .ref ev, .int 0])), (ev, .inl (aC 5, 0, .inr (.inr (.inr (.inr ef)))))] sz)) 1 10 (va_A [(h0, .inr (13, [.int mc, .ref ev, .int 0])), (ev, .inl (aC 5, 0, .inr (.inr (.inr (.inr ef)))))] sz) := by
  refine Met.ofW (cc := cJx4a65c_grow_d5877) (maxL := 1) (ret := (some (.array (.object "java/lang/Object")))) (by decide) rfl ?_
  intro p e s m args below meth c s₁ B hml hv
  obtain ⟨⟨rfl, hsz, hP, hKN, hD0⟩, hZ⟩ := hv
  obtain ⟨hK, hN⟩ := hKN
  have hx := B.exec
  have hb := B.bytes
  have hr := B.returns
  have hts := atoms_spec (ws := wsJx4a65c_grow_d5877) B.pre
  have hown : s.vm.findClass RJx4a65c = some m.cls := findClass_of_methodNamed B.named
  have hlocks := B.notSynchronized
  subst hsz
  have hD := hD0.self (sz := s.heap.size)
  generalize hAe : va_A [(h0, .inr (13, [.int mc, .ref ev, .int 0])), (ev, .inl (aC 5, 0, .inr (.inr (.inr (.inr ef)))))] s.heap.size = A at hD hZ ⊢
  have hA : ∀ q : Nat, s.heap.size ≤ q → A q := fun q h => by rw [← hAe]; exact Or.inr h
  have hS : va_S A s.heap s.heap [] := va_S.rf
  have hP : va_P (dC, dI) rfCl [(h0, .inr (13, [.int mc, .ref ev, .int 0])), (ev, .inl (aC 5, 0, .inr (.inr (.inr (.inr ef)))))] s.heap := hP
  have hl := lv_entry ([.ref h0]) (n := 1) (Nat.le_of_ble_eq_true rfl)
  rw [lg_entry_eq]
  generalize (lg_sl ([.ref h0]) ++ List.replicate (1 - (lg_sl ([.ref h0])).length) Slot.unset).toArray = ls at hl ⊢
  have hl : lv_has ls 1 [(0, .ref h0)] := hl
  refine lv_aload_n hx hb dJx4a65c_grow_d5877_0 rfl (lv_at hl 0 rfl) ?_
  refine lv_aload_n hx hb dJx4a65c_grow_d5877_1 rfl (lv_at hl 0 rfl) ?_
  refine va_get (D := (dC, dI)) (ci := 13) (v := .int 0) (C := RJx4a65c) (T := TJx4a65c) (N := 3) hx hb hts (by decide +kernel) hown hK hP 0 rfl rfl 2 (by decide) (hts (.fieldLink RJx4a65c 48 "java/util/ArrayList" "size" "I") (by decide +kernel)) (fun _ h9 => h9) rfl dJx4a65c_grow_d5877_2 ?_
  refine lv_iconst (v := 1) hx hb dJx4a65c_grow_d5877_5 (by decide) ?_
  refine lv_iadd hx hb dJx4a65c_grow_d5877_6 ?_
  refine lv_topi (fun t1 et1 => ?_)
  have hl9 : t1 = 1 := by rw [et1]; decide
  subst hl9
  have hPc := hP.sub (ws' := [(h0, .inr (13, [.int mc, .ref ev, .int 0])), (ev, .inl (aC 5, 0, .inr (.inr (.inr (.inr ef)))))]) [0, 1] rfl
  have hDc := hD.sub (ws' := [(h0, .inr (13, [.int mc, .ref ev, .int 0])), (ev, .inl (aC 5, 0, .inr (.inr (.inr (.inr ef)))))]) [0, 1] (by decide) rfl
  have hFc := va_free (wc := [(h0, .inr (13, [.int mc, .ref ev, .int 0])), (ev, .inl (aC 5, 0, .inr (.inr (.inr (.inr ef)))))]) hD hS hA [0, 1] rfl
  have hFc := va_free (wc := [(h0, .inr (13, [.int mc, .ref ev, .int 0])), (ev, .inl (aC 5, 0, .inr (.inr (.inr (.inr ef)))))]) hD hS hA [0, 1] rfl
  refine va_callr (va_runV (As := [.int 1]) (rest := []) ⟨hx, hb, hml, hown, hts⟩ (c_Jx4a65c_grow_92f84 l dC dI aC s.heap.size ev h0 mc ef) (cwV 1 hts gJx4a65c_grow_d5877_Jx4a65c_grow_92f84 rfl rfl rfl (by decide +kernel) ⟨Nat.le_of_ble_eq_true rfl, Nat.le_of_ble_eq_true rfl⟩) (rf_pvZ hK hN hPc hDc (va_recv hK hP (ci := 13) (q0 := 0) rfl rfl) hZ hS hFc) rfl rfl hl.1 rfl (lv_room (Nat.le_of_ble_eq_true rfl)) dJx4a65c_grow_d5877_7 ⟨Nat.le_of_ble_eq_true rfl, Nat.le_of_ble_eq_true rfl⟩) hS (fun q _ h => hFc q h) hFc (fun u2 r3 t H1 locs ht hvm hwu2 hB hz1 hk1 hS => ?_)
  obtain ⟨hra, hP1, hD1⟩ := hB
  rw [ht] at hP1
  try dsimp only at hwu2 hP1 hD1
  obtain ⟨hP, hD⟩ := va_join (wr := []) (w1 := [(h0, .inr (13, [.int mc, .ref u2, .int 0])), (ev, .inl (aC 5, 0, .inr (.inr (.inr (.inr ef))))), (u2, .inl (aC 5, 10, .inr (.inr (.inr (.inr (fun _ => none))))))]) hP hD [0, 1] [] rfl rfl (by decide) (by decide) hk1 hFc hP1 hD1
  clear hP1 hD1 hPc hDc hFc
  generalize H1 = H at hP hS ⊢
  rw [hra]
  have hP : va_P (dC, dI) rfCl [(h0, .inr (13, [.int mc, .ref u2, .int 0])), (ev, .inl (aC 5, 0, .inr (.inr (.inr (.inr ef))))), (u2, .inl (aC 5, 10, .inr (.inr (.inr (.inr (fun _ => none))))))] H := hP
  have hD : va_D A [(h0, .inr (13, [.int mc, .ref u2, .int 0])), (ev, .inl (aC 5, 0, .inr (.inr (.inr (.inr ef))))), (u2, .inl (aC 5, 10, .inr (.inr (.inr (.inr (fun _ => none))))))] := hD
  refine W.widen (k := 1) (n := 10) (Nat.le_of_ble_eq_true rfl) (Nat.le_of_ble_eq_true rfl) ?_
  have hP9 := hP.sub (ws' := [(h0, .inr (13, [.int mc, .ref u2, .int 0])), (ev, .inl (aC 5, 0, .inr (.inr (.inr (.inr ef))))), (u2, .inl (aC 5, 10, .inr (.inr (.inr (.inr (fun _ => none))))))]) [0, 1, 2] rfl
  have hD9 := hD.sub (ws' := [(h0, .inr (13, [.int mc, .ref u2, .int 0])), (ev, .inl (aC 5, 0, .inr (.inr (.inr (.inr ef))))), (u2, .inl (aC 5, 10, .inr (.inr (.inr (.inr (fun _ => none))))))]) [0, 1, 2] (by decide) rfl
  refine W.widen (k := 1) (n := 10) (Nat.le_of_ble_eq_true rfl) (Nat.le_of_ble_eq_true rfl) ?_
  exact W.aret (v := .ref u2) hx hb hr (Or.inr ⟨_, rfl⟩) (Or.inr ⟨_, rfl⟩) (fun t ht hW => ⟨⟨u2, u2, rfl, trivial, rfl, by rw [ht]; exact hP9, hD9⟩, hS.F ht⟩) hS.2.2 dJx4a65c_grow_d5877_10

set_option maxHeartbeats 4000000 in
set_option maxRecDepth 100000 in
theorem c_Jx4a65c_add_72be8 (l : Launch) (dC : Nat → ClassId) (dI : Nat → Nat → Nat) (aC : Nat → ClassId) (sz : Nat) (ev h0 : Nat) (mc : Int32) (ef : Nat → Option Nat) (ow : Nat) (of : Nat → Int32)  : Met l yJx4a65c_add_72be8 wsJx4a65c_add_72be8 ({ frames := 4, cells := 1, slots := 10, locals := 120 } : Room) (rf_PcZ (dC, dI) aC [.ref h0, .ref ow, .ref ev, .int 0] [(h0, .inr (13, [.int mc, .ref ev, .int 0])), (ev, .inl (aC 5, 0, .inr (.inr (.inr (.inr ef))))), (ow, .inl (aC 0, 128, .inl of))] sz ev) (va_Qv (fun (u : Nat × (Nat → Option Nat)) => u.2 0 = some ow) (fun (u : Nat × (Nat → Option Nat)) t => va_P (dC, dI) rfCl [(h0, .inr (13, [.int mc, .ref (u.1), .int 1])), (ev, .inl (aC 5, 0, .inr (.inr (.inr (.inr ef))))), (ow, .inl (aC 0, 128, .inl of)), ((u.1), .inl (aC 5, 10, .inr (.inr (.inr (.inr u.2)))))] t.heap ∧ va_D (va_A [(h0, .inr (13, [.int mc, .ref ev, .int 0])), (ev, .inl (aC 5, 0, .inr (.inr (.inr (.inr ef))))), (ow, .inl (aC 0, 128, .inl of))] sz) [(h0, .inr (13, [.int mc, .ref (u.1), .int 1])), (ev, .inl (aC 5, 0, .inr (.inr (.inr (.inr ef))))), (ow, .inl (aC 0, 128, .inl of)), ((u.1), .inl (aC 5, 10, .inr (.inr (.inr (.inr u.2)))))]) (va_A [(h0, .inr (13, [.int mc, .ref ev, .int 0])), (ev, .inl (aC 5, 0, .inr (.inr (.inr (.inr ef))))), (ow, .inl (aC 0, 128, .inl of))] sz)) 1 10 (va_A [(h0, .inr (13, [.int mc, .ref ev, .int 0])), (ev, .inl (aC 5, 0, .inr (.inr (.inr (.inr ef))))), (ow, .inl (aC 0, 128, .inl of))] sz) := by
  refine Met.ofW (cc := cJx4a65c_add_72be8) (maxL := 4) (ret := none) (by decide) rfl ?_
  intro p e s m args below meth c s₁ B hml hv
  obtain ⟨⟨rfl, hsz, hP, hKN, hD0⟩, hZ⟩ := hv
  obtain ⟨hK, hN⟩ := hKN
  have hx := B.exec
  have hb := B.bytes
  have hr := B.returns
  have hts := atoms_spec (ws := wsJx4a65c_add_72be8) B.pre
  have hown : s.vm.findClass RJx4a65c = some m.cls := findClass_of_methodNamed B.named
  have hlocks := B.notSynchronized
  subst hsz
  have hD := hD0.self (sz := s.heap.size)
  generalize hAe : va_A [(h0, .inr (13, [.int mc, .ref ev, .int 0])), (ev, .inl (aC 5, 0, .inr (.inr (.inr (.inr ef))))), (ow, .inl (aC 0, 128, .inl of))] s.heap.size = A at hD hZ ⊢
  have hA : ∀ q : Nat, s.heap.size ≤ q → A q := fun q h => by rw [← hAe]; exact Or.inr h
  have hS : va_S A s.heap s.heap [] := va_S.rf
  have hP : va_P (dC, dI) rfCl [(h0, .inr (13, [.int mc, .ref ev, .int 0])), (ev, .inl (aC 5, 0, .inr (.inr (.inr (.inr ef))))), (ow, .inl (aC 0, 128, .inl of))] s.heap := hP
  have hl := lv_entry ([.ref h0, .ref ow, .ref ev, .int 0]) (n := 4) (Nat.le_of_ble_eq_true rfl)
  rw [lg_entry_eq]
  generalize (lg_sl ([.ref h0, .ref ow, .ref ev, .int 0]) ++ List.replicate (4 - (lg_sl ([.ref h0, .ref ow, .ref ev, .int 0])).length) Slot.unset).toArray = ls at hl ⊢
  have hl : lv_has ls 4 [(0, .ref h0), (1, .ref ow), (2, .ref ev), (3, .int 0)] := hl
  refine lv_iload_n hx hb dJx4a65c_add_72be8_0 rfl (lv_at hl 3 rfl) ?_
  refine lv_aload_n hx hb dJx4a65c_add_72be8_1 rfl (lv_at hl 2 rfl) ?_
  refine va_alen (v := 0) hx hb hK hP 1 5 rfl rfl rfl dJx4a65c_add_72be8_2 ?_
  refine lv_icmp_ne (tgt := 11) hx hb dJx4a65c_add_72be8_3 (by decide) (fun c9 => absurd rfl c9) (fun _ => ?_)
  refine lv_aload_n hx hb dJx4a65c_add_72be8_6 rfl (lv_at hl 0 rfl) ?_
  have hPc := hP.sub (ws' := [(h0, .inr (13, [.int mc, .ref ev, .int 0])), (ev, .inl (aC 5, 0, .inr (.inr (.inr (.inr ef)))))]) [0, 1] rfl
  have hDc := hD.sub (ws' := [(h0, .inr (13, [.int mc, .ref ev, .int 0])), (ev, .inl (aC 5, 0, .inr (.inr (.inr (.inr ef)))))]) [0, 1] (by decide) rfl
  have hFc := va_free (wc := [(h0, .inr (13, [.int mc, .ref ev, .int 0])), (ev, .inl (aC 5, 0, .inr (.inr (.inr (.inr ef)))))]) hD hS hA [0, 1] rfl
  have hFc := va_free (wc := [(h0, .inr (13, [.int mc, .ref ev, .int 0])), (ev, .inl (aC 5, 0, .inr (.inr (.inr (.inr ef)))))]) hD hS hA [0, 1] rfl
  refine va_callr (va_runV (As := []) (rest := []) ⟨hx, hb, hml, hown, hts⟩ (c_Jx4a65c_grow_d5877 l dC dI aC s.heap.size ev h0 mc ef) (cwV 0 hts gJx4a65c_add_72be8_Jx4a65c_grow_d5877 rfl rfl rfl (by decide +kernel) ⟨Nat.le_of_ble_eq_true rfl, Nat.le_of_ble_eq_true rfl⟩) (rf_pvZ hK hN hPc hDc (va_recv hK hP (ci := 13) (q0 := 0) rfl rfl) hZ hS hFc) rfl rfl hl.1 rfl (lv_room (Nat.le_of_ble_eq_true rfl)) dJx4a65c_add_72be8_7 ⟨Nat.le_of_ble_eq_true rfl, Nat.le_of_ble_eq_true rfl⟩) hS (fun q _ h => hFc q h) hFc (fun u1 r2 t H1 locs ht hvm hwu1 hB hz1 hk1 hS => ?_)
  obtain ⟨hra, hP1, hD1⟩ := hB
  rw [ht] at hP1
  try dsimp only at hwu1 hP1 hD1
  obtain ⟨hP, hD⟩ := va_join (wr := [(ow, .inl (aC 0, 128, .inl of))]) (w1 := [(h0, .inr (13, [.int mc, .ref u1, .int 0])), (ev, .inl (aC 5, 0, .inr (.inr (.inr (.inr ef))))), (u1, .inl (aC 5, 10, .inr (.inr (.inr (.inr (fun _ => none))))))]) hP hD [0, 1] [2] rfl rfl (by decide) (by decide) hk1 hFc hP1 hD1
  clear hP1 hD1 hPc hDc hFc
  generalize H1 = H at hP hS ⊢
  rw [hra]
  have hP : va_P (dC, dI) rfCl [(ow, .inl (aC 0, 128, .inl of)), (h0, .inr (13, [.int mc, .ref u1, .int 0])), (ev, .inl (aC 5, 0, .inr (.inr (.inr (.inr ef))))), (u1, .inl (aC 5, 10, .inr (.inr (.inr (.inr (fun _ => none))))))] H := hP
  have hD : va_D A [(ow, .inl (aC 0, 128, .inl of)), (h0, .inr (13, [.int mc, .ref u1, .int 0])), (ev, .inl (aC 5, 0, .inr (.inr (.inr (.inr ef))))), (u1, .inl (aC 5, 10, .inr (.inr (.inr (.inr (fun _ => none))))))] := hD
  refine W.widen (k := 1) (n := 10) (Nat.le_of_ble_eq_true rfl) (Nat.le_of_ble_eq_true rfl) ?_
  refine lv_astore_n (lv' := [(2, .ref u1), (0, .ref h0), (1, .ref ow), (3, .int 0)]) hx hb dJx4a65c_add_72be8_10 rfl hl (by decide) rfl (fun ls hl => ?_)
  refine lv_aload_n hx hb dJx4a65c_add_72be8_11 rfl (lv_at hl 0 rfl) ?_
  refine lv_iload_n hx hb dJx4a65c_add_72be8_12 rfl (lv_at hl 3 rfl) ?_
  refine lv_aload_n hx hb dJx4a65c_add_72be8_13 rfl (lv_at hl 2 rfl) ?_
  refine va_astqM hx hb hK hP hD hS 3 5 rfl rfl (rf_anyZ hK hN hP 0 rfl) (vp_in_nI (n := 0) (N := 10) (by decide) (by decide)) dJx4a65c_add_72be8_14 (fun H locs hP hD hS => ?_)
  have hP : va_P (dC, dI) rfCl [(ow, .inl (aC 0, 128, .inl of)), (h0, .inr (13, [.int mc, .ref u1, .int 0])), (ev, .inl (aC 5, 0, .inr (.inr (.inr (.inr ef))))), (u1, .inl (aC 5, 10, .inr (.inr (.inr (.inr (va_up (fun _ => none) ((0 : Int32)).toNatClampNeg (some ow)))))))] H := hP
  have hD : va_D A [(ow, .inl (aC 0, 128, .inl of)), (h0, .inr (13, [.int mc, .ref u1, .int 0])), (ev, .inl (aC 5, 0, .inr (.inr (.inr (.inr ef))))), (u1, .inl (aC 5, 10, .inr (.inr (.inr (.inr (va_up (fun _ => none) ((0 : Int32)).toNatClampNeg (some ow)))))))] := hD
  refine lv_aload_n hx hb dJx4a65c_add_72be8_15 rfl (lv_at hl 1 rfl) ?_
  refine lv_iload_n hx hb dJx4a65c_add_72be8_16 rfl (lv_at hl 3 rfl) ?_
  refine lv_iconst (v := 1) hx hb dJx4a65c_add_72be8_17 (by decide) ?_
  refine lv_iadd hx hb dJx4a65c_add_72be8_18 ?_
  refine lv_topi (fun t3 et3 => ?_)
  have hl9 : t3 = 1 := by rw [et3]; decide
  subst hl9
  refine va_put (D := (dC, dI)) (ci := 13) (v := .int 1) (ty := .int) (C := RJx4a65c) (T := TJx4a65c) (N := 3) hx hb hts (by decide +kernel) tyJx4a65c tyJx4a65c_ok nmJx4a65c hown hK hP hD hS 1 rfl rfl 2 (by decide) (hts (.fieldLink RJx4a65c 48 "java/util/ArrayList" "size" "I") (by decide +kernel)) (fun _ h9 => h9) rfl (by decide +kernel) rfl rfl (Nat.le_of_ble_eq_true rfl) dJx4a65c_add_72be8_19 (fun H locs hP hD hS => ?_)
  have hP : va_P (dC, dI) rfCl [(ow, .inl (aC 0, 128, .inl of)), (h0, .inr (13, [.int mc, .ref u1, .int 1])), (ev, .inl (aC 5, 0, .inr (.inr (.inr (.inr ef))))), (u1, .inl (aC 5, 10, .inr (.inr (.inr (.inr (va_up (fun _ => none) ((0 : Int32)).toNatClampNeg (some ow)))))))] H := hP
  have hD : va_D A [(ow, .inl (aC 0, 128, .inl of)), (h0, .inr (13, [.int mc, .ref u1, .int 1])), (ev, .inl (aC 5, 0, .inr (.inr (.inr (.inr ef))))), (u1, .inl (aC 5, 10, .inr (.inr (.inr (.inr (va_up (fun _ => none) ((0 : Int32)).toNatClampNeg (some ow)))))))] := hD
  have hP9 := hP.sub (ws' := [(h0, .inr (13, [.int mc, .ref u1, .int 1])), (ev, .inl (aC 5, 0, .inr (.inr (.inr (.inr ef))))), (ow, .inl (aC 0, 128, .inl of)), (u1, .inl (aC 5, 10, .inr (.inr (.inr (.inr (va_up (fun _ => none) ((0 : Int32)).toNatClampNeg (some ow)))))))]) [1, 2, 0, 3] rfl
  have hD9 := hD.sub (ws' := [(h0, .inr (13, [.int mc, .ref u1, .int 1])), (ev, .inl (aC 5, 0, .inr (.inr (.inr (.inr ef))))), (ow, .inl (aC 0, 128, .inl of)), (u1, .inl (aC 5, 10, .inr (.inr (.inr (.inr (va_up (fun _ => none) ((0 : Int32)).toNatClampNeg (some ow)))))))]) [1, 2, 0, 3] (by decide) rfl
  refine W.widen (k := 1) (n := 10) (Nat.le_of_ble_eq_true rfl) (Nat.le_of_ble_eq_true rfl) ?_
  exact W.vret hx hb hr (fun t ht hW => ⟨⟨(u1, (va_up (fun _ => none) ((0 : Int32)).toNatClampNeg (some ow))), rfl, rfl, by rw [ht]; exact hP9, hD9⟩, hS.F ht⟩) hS.2.2 dJx4a65c_add_72be8_22

set_option maxHeartbeats 4000000 in
set_option maxRecDepth 100000 in
theorem c_Jx4a65c_add_9ea2d (l : Launch) (dC : Nat → ClassId) (dI : Nat → Nat → Nat) (aC : Nat → ClassId) (sz : Nat) (ev h0 : Nat) (mc : Int32) (ef : Nat → Option Nat) (ow : Nat) (of : Nat → Int32)  : Met l yJx4a65c_add_9ea2d wsJx4a65c_add_9ea2d ({ frames := 5, cells := 1, slots := 10, locals := 160 } : Room) (rf_PcZ (dC, dI) aC [.ref h0, .ref ow] [(h0, .inr (13, [.int mc, .ref ev, .int 0])), (ev, .inl (aC 5, 0, .inr (.inr (.inr (.inr ef))))), (ow, .inl (aC 0, 128, .inl of))] sz ev) (va_Qi (fun (r : Int32) (u : Int32 × Nat × (Nat → Option Nat)) => u.2.2 0 = some ow) (fun (u : Int32 × Nat × (Nat → Option Nat)) t => va_P (dC, dI) rfCl [(h0, .inr (13, [.int (u.1), .ref (u.2.1), .int 1])), (ev, .inl (aC 5, 0, .inr (.inr (.inr (.inr ef))))), (ow, .inl (aC 0, 128, .inl of)), ((u.2.1), .inl (aC 5, 10, .inr (.inr (.inr (.inr (u.2.2))))))] t.heap ∧ va_D (va_A [(h0, .inr (13, [.int mc, .ref ev, .int 0])), (ev, .inl (aC 5, 0, .inr (.inr (.inr (.inr ef))))), (ow, .inl (aC 0, 128, .inl of))] sz) [(h0, .inr (13, [.int (u.1), .ref (u.2.1), .int 1])), (ev, .inl (aC 5, 0, .inr (.inr (.inr (.inr ef))))), (ow, .inl (aC 0, 128, .inl of)), ((u.2.1), .inl (aC 5, 10, .inr (.inr (.inr (.inr (u.2.2))))))]) (va_A [(h0, .inr (13, [.int mc, .ref ev, .int 0])), (ev, .inl (aC 5, 0, .inr (.inr (.inr (.inr ef))))), (ow, .inl (aC 0, 128, .inl of))] sz)) 1 10 (va_A [(h0, .inr (13, [.int mc, .ref ev, .int 0])), (ev, .inl (aC 5, 0, .inr (.inr (.inr (.inr ef))))), (ow, .inl (aC 0, 128, .inl of))] sz) := by
  refine Met.ofW (cc := cJx4a65c_add_9ea2d) (maxL := 2) (ret := (some .boolean)) (by decide) rfl ?_
  intro p e s m args below meth c s₁ B hml hv
  obtain ⟨⟨rfl, hsz, hP, hKN, hD0⟩, hZ⟩ := hv
  obtain ⟨hK, hN⟩ := hKN
  have hx := B.exec
  have hb := B.bytes
  have hr := B.returns
  have hts := atoms_spec (ws := wsJx4a65c_add_9ea2d) B.pre
  have hown : s.vm.findClass RJx4a65c = some m.cls := findClass_of_methodNamed B.named
  have hlocks := B.notSynchronized
  subst hsz
  have hD := hD0.self (sz := s.heap.size)
  generalize hAe : va_A [(h0, .inr (13, [.int mc, .ref ev, .int 0])), (ev, .inl (aC 5, 0, .inr (.inr (.inr (.inr ef))))), (ow, .inl (aC 0, 128, .inl of))] s.heap.size = A at hD hZ ⊢
  have hA : ∀ q : Nat, s.heap.size ≤ q → A q := fun q h => by rw [← hAe]; exact Or.inr h
  have hS : va_S A s.heap s.heap [] := va_S.rf
  have hP : va_P (dC, dI) rfCl [(h0, .inr (13, [.int mc, .ref ev, .int 0])), (ev, .inl (aC 5, 0, .inr (.inr (.inr (.inr ef))))), (ow, .inl (aC 0, 128, .inl of))] s.heap := hP
  have hl := lv_entry ([.ref h0, .ref ow]) (n := 2) (Nat.le_of_ble_eq_true rfl)
  rw [lg_entry_eq]
  generalize (lg_sl ([.ref h0, .ref ow]) ++ List.replicate (2 - (lg_sl ([.ref h0, .ref ow])).length) Slot.unset).toArray = ls at hl ⊢
  have hl : lv_has ls 2 [(0, .ref h0), (1, .ref ow)] := hl
  refine lv_aload_n hx hb dJx4a65c_add_9ea2d_0 rfl (lv_at hl 0 rfl) ?_
  refine lv_dup hx hb dJx4a65c_add_9ea2d_1 rfl ?_
  refine va_get (D := (dC, dI)) (ci := 13) (v := .int mc) (C := RJx4a65c) (T := TJx4a65c) (N := 3) hx hb hts (by decide +kernel) hown hK hP 0 rfl rfl 0 (by decide) (hts (.fieldLink RJx4a65c 63 "java/util/ArrayList" "modCount" "I") (by decide +kernel)) (u_same (hts (.sameField "java/util/ArrayList" "java/util/AbstractList" "modCount" "I") (by decide +kernel))) rfl dJx4a65c_add_9ea2d_2 ?_
  refine lv_iconst (v := 1) hx hb dJx4a65c_add_9ea2d_5 (by decide) ?_
  refine lv_iadd hx hb dJx4a65c_add_9ea2d_6 ?_
  refine lv_topi (fun t1 et1 => ?_)
  refine va_put (D := (dC, dI)) (ci := 13) (v := .int t1) (ty := .int) (C := RJx4a65c) (T := TJx4a65c) (N := 3) hx hb hts (by decide +kernel) tyJx4a65c tyJx4a65c_ok nmJx4a65c hown hK hP hD hS 0 rfl rfl 0 (by decide) (hts (.fieldLink RJx4a65c 63 "java/util/ArrayList" "modCount" "I") (by decide +kernel)) (u_same (hts (.sameField "java/util/ArrayList" "java/util/AbstractList" "modCount" "I") (by decide +kernel))) rfl (by decide +kernel) rfl rfl (Nat.le_of_ble_eq_true rfl) dJx4a65c_add_9ea2d_7 (fun H locs hP hD hS => ?_)
  have hP : va_P (dC, dI) rfCl [(h0, .inr (13, [.int t1, .ref ev, .int 0])), (ev, .inl (aC 5, 0, .inr (.inr (.inr (.inr ef))))), (ow, .inl (aC 0, 128, .inl of))] H := hP
  have hD : va_D A [(h0, .inr (13, [.int t1, .ref ev, .int 0])), (ev, .inl (aC 5, 0, .inr (.inr (.inr (.inr ef))))), (ow, .inl (aC 0, 128, .inl of))] := hD
  refine lv_aload_n hx hb dJx4a65c_add_9ea2d_10 rfl (lv_at hl 0 rfl) ?_
  refine lv_aload_n hx hb dJx4a65c_add_9ea2d_11 rfl (lv_at hl 1 rfl) ?_
  refine lv_aload_n hx hb dJx4a65c_add_9ea2d_12 rfl (lv_at hl 0 rfl) ?_
  refine va_get (D := (dC, dI)) (ci := 13) (v := .ref ev) (C := RJx4a65c) (T := TJx4a65c) (N := 3) hx hb hts (by decide +kernel) hown hK hP 0 rfl rfl 1 (by decide) (hts (.fieldLink RJx4a65c 9 "java/util/ArrayList" "elementData" "[Ljava/lang/Object;") (by decide +kernel)) (fun _ h9 => h9) rfl dJx4a65c_add_9ea2d_13 ?_
  refine lv_aload_n hx hb dJx4a65c_add_9ea2d_16 rfl (lv_at hl 0 rfl) ?_
  refine va_get (D := (dC, dI)) (ci := 13) (v := .int 0) (C := RJx4a65c) (T := TJx4a65c) (N := 3) hx hb hts (by decide +kernel) hown hK hP 0 rfl rfl 2 (by decide) (hts (.fieldLink RJx4a65c 48 "java/util/ArrayList" "size" "I") (by decide +kernel)) (fun _ h9 => h9) rfl dJx4a65c_add_9ea2d_17 ?_
  have hPc := hP.sub (ws' := [(h0, .inr (13, [.int t1, .ref ev, .int 0])), (ev, .inl (aC 5, 0, .inr (.inr (.inr (.inr ef))))), (ow, .inl (aC 0, 128, .inl of))]) [0, 1, 2] rfl
  have hDc := hD.sub (ws' := [(h0, .inr (13, [.int t1, .ref ev, .int 0])), (ev, .inl (aC 5, 0, .inr (.inr (.inr (.inr ef))))), (ow, .inl (aC 0, 128, .inl of))]) [0, 1, 2] (by decide) rfl
  have hFc := va_free (wc := [(h0, .inr (13, [.int t1, .ref ev, .int 0])), (ev, .inl (aC 5, 0, .inr (.inr (.inr (.inr ef))))), (ow, .inl (aC 0, 128, .inl of))]) hD hS hA [0, 1, 2] rfl
  have hFc := va_free (wc := [(h0, .inr (13, [.int t1, .ref ev, .int 0])), (ev, .inl (aC 5, 0, .inr (.inr (.inr (.inr ef))))), (ow, .inl (aC 0, 128, .inl of))]) hD hS hA [0, 1, 2] rfl
  refine va_callv (va_runV (As := [.ref ow, .ref ev, .int 0]) (rest := []) ⟨hx, hb, hml, hown, hts⟩ (c_Jx4a65c_add_72be8 l dC dI aC H.size ev h0 t1 ef ow of) (cwV 3 hts gJx4a65c_add_9ea2d_Jx4a65c_add_72be8 rfl rfl rfl (by decide +kernel) ⟨Nat.le_of_ble_eq_true rfl, Nat.le_of_ble_eq_true rfl⟩) (rf_pvZ hK hN hPc hDc (va_recv hK hP (ci := 13) (q0 := 0) rfl rfl) hZ hS hFc) rfl rfl hl.1 rfl (lv_room (Nat.le_of_ble_eq_true rfl)) dJx4a65c_add_9ea2d_20 ⟨Nat.le_of_ble_eq_true rfl, Nat.le_of_ble_eq_true rfl⟩) hS (fun q _ h => hFc q h) hFc (fun u2 t H1 locs ht hvm hwu2 hB hz1 hk1 hS => ?_)
  obtain ⟨hP1, hD1⟩ := hB
  rw [ht] at hP1
  try dsimp only at hwu2 hP1 hD1
  obtain ⟨hP, hD⟩ := va_join (wr := []) (w1 := [(h0, .inr (13, [.int t1, .ref (u2.1), .int 1])), (ev, .inl (aC 5, 0, .inr (.inr (.inr (.inr ef))))), (ow, .inl (aC 0, 128, .inl of)), ((u2.1), .inl (aC 5, 10, .inr (.inr (.inr (.inr (u2.2))))))]) hP hD [0, 1, 2] [] rfl rfl (by decide) (by decide) hk1 hFc hP1 hD1
  clear hP1 hD1 hPc hDc hFc
  generalize H1 = H at hP hS ⊢
  have hP : va_P (dC, dI) rfCl [(h0, .inr (13, [.int t1, .ref (u2.1), .int 1])), (ev, .inl (aC 5, 0, .inr (.inr (.inr (.inr ef))))), (ow, .inl (aC 0, 128, .inl of)), ((u2.1), .inl (aC 5, 10, .inr (.inr (.inr (.inr (u2.2))))))] H := hP
  have hD : va_D A [(h0, .inr (13, [.int t1, .ref (u2.1), .int 1])), (ev, .inl (aC 5, 0, .inr (.inr (.inr (.inr ef))))), (ow, .inl (aC 0, 128, .inl of)), ((u2.1), .inl (aC 5, 10, .inr (.inr (.inr (.inr (u2.2))))))] := hD
  refine W.widen (k := 1) (n := 10) (Nat.le_of_ble_eq_true rfl) (Nat.le_of_ble_eq_true rfl) ?_
  refine lv_iconst (v := 1) hx hb dJx4a65c_add_9ea2d_23 (by decide) ?_
  have hP9 := hP.sub (ws' := [(h0, .inr (13, [.int t1, .ref (u2.1), .int 1])), (ev, .inl (aC 5, 0, .inr (.inr (.inr (.inr ef))))), (ow, .inl (aC 0, 128, .inl of)), ((u2.1), .inl (aC 5, 10, .inr (.inr (.inr (.inr (u2.2))))))]) [0, 1, 2, 3] rfl
  have hD9 := hD.sub (ws' := [(h0, .inr (13, [.int t1, .ref (u2.1), .int 1])), (ev, .inl (aC 5, 0, .inr (.inr (.inr (.inr ef))))), (ow, .inl (aC 0, 128, .inl of)), ((u2.1), .inl (aC 5, 10, .inr (.inr (.inr (.inr (u2.2))))))]) [0, 1, 2, 3] (by decide) rfl
  exact W.zret (v := 1) hx hb hr rfl (fun t ht hW => ⟨⟨1, (t1, u2.1, u2.2), rfl, hwu2, by rw [ht]; exact hP9, hD9⟩, hS.F ht⟩) hS.2.2 dJx4a65c_add_9ea2d_24

set_option maxHeartbeats 4000000 in
set_option maxRecDepth 100000 in
theorem c_Jx4a65c_elementData_915e3 (l : Launch) (dC : Nat → ClassId) (dI : Nat → Nat → Nat) (aC : Nat → ClassId) (sz : Nat) (h0 : Nat) (mc sz0 : Int32) (ed : Nat) (df : Nat → Option Nat) (ow : Nat) (hf : df 0 = some ow) : Met l yJx4a65c_elementData_915e3 wsJx4a65c_elementData_915e3 ({ frames := 1, cells := 0, slots := 0, locals := 0 } : Room) (rf_Pc (dC, dI) aC [.ref h0, .int 0] [(h0, .inr (13, [.int mc, .ref ed, .int sz0])), (ed, .inl (aC 5, 10, .inr (.inr (.inr (.inr df)))))] sz) (va_Sr (fun k => k = ow) (fun k => .ref k)) 0 0 (fun _ => False) := by
  refine Met.ofW (cc := cJx4a65c_elementData_915e3) (maxL := 2) (ret := (some (.object "java/lang/Object"))) (by decide) rfl ?_
  intro p e s m args below meth c s₁ B hml hv
  obtain ⟨rfl, hsz, hP, hKN, hD0⟩ := hv
  obtain ⟨hK, hN⟩ := hKN
  have hx := B.exec
  have hb := B.bytes
  have hr := B.returns
  have hts := atoms_spec (ws := wsJx4a65c_elementData_915e3) B.pre
  have hown : s.vm.findClass RJx4a65c = some m.cls := findClass_of_methodNamed B.named
  have hlocks := B.notSynchronized
  subst hsz
  have hD := hD0.self (sz := s.heap.size)
  generalize hAe : va_A [(h0, .inr (13, [.int mc, .ref ed, .int sz0])), (ed, .inl (aC 5, 10, .inr (.inr (.inr (.inr df)))))] s.heap.size = A at hD
  have hA : ∀ q : Nat, s.heap.size ≤ q → A q := fun q h => by rw [← hAe]; exact Or.inr h
  have hS : va_S A s.heap s.heap [] := va_S.rf
  have hP : va_P (dC, dI) rfCl [(h0, .inr (13, [.int mc, .ref ed, .int sz0])), (ed, .inl (aC 5, 10, .inr (.inr (.inr (.inr df)))))] s.heap := hP
  have hl := lv_entry ([.ref h0, .int 0]) (n := 2) (Nat.le_of_ble_eq_true rfl)
  rw [lg_entry_eq]
  generalize (lg_sl ([.ref h0, .int 0]) ++ List.replicate (2 - (lg_sl ([.ref h0, .int 0])).length) Slot.unset).toArray = ls at hl ⊢
  have hl : lv_has ls 2 [(0, .ref h0), (1, .int 0)] := hl
  refine lv_aload_n hx hb dJx4a65c_elementData_915e3_0 rfl (lv_at hl 0 rfl) ?_
  refine va_get (D := (dC, dI)) (ci := 13) (v := .ref ed) (C := RJx4a65c) (T := TJx4a65c) (N := 3) hx hb hts (by decide +kernel) hown hK hP 0 rfl rfl 1 (by decide) (hts (.fieldLink RJx4a65c 9 "java/util/ArrayList" "elementData" "[Ljava/lang/Object;") (by decide +kernel)) (fun _ h9 => h9) rfl dJx4a65c_elementData_915e3_1 ?_
  refine lv_iload_n hx hb dJx4a65c_elementData_915e3_4 rfl (lv_at hl 1 rfl) ?_
  refine va_aldq (C := "java/lang/Object") hx hb hK hP 1 5 rfl rfl (vp_in_nI (n := 0) (N := 10) (by decide) (by decide)) dJx4a65c_elementData_915e3_5 ?_
  refine W.eq (g2 := F0 m 6 ls [.ref ow]) (by rw [show ((0 : Int32)).toNatClampNeg = 0 from rfl, hf]; rfl) ?_
  exact W.aret (v := .ref ow) hx hb hr (Or.inl ⟨_, rfl⟩) (Or.inr ⟨_, rfl⟩) (fun t ht hW => ⟨_, rfl, rfl, ht⟩) (fun q h => nomatch h) dJx4a65c_elementData_915e3_6

set_option maxHeartbeats 4000000 in
set_option maxRecDepth 100000 in
theorem c_J3_checkIndex_8e157 (l : Launch) (dC : Nat → ClassId) (dI : Nat → Nat → Nat) (aC : Nat → ClassId) (sz : Nat)   : Met l yJ3_checkIndex_8e157 wsJ3_checkIndex_8e157 ({ frames := 1, cells := 0, slots := 0, locals := 0 } : Room) (rf_Pc (dC, dI) aC [.int 0, .int 1, .null] [] sz) (QcRead 0) 0 0 (fun _ => False) := by
  refine Met.ofW (cc := cJ3_checkIndex_8e157) (maxL := 3) (ret := (some .int)) (by decide) rfl ?_
  intro p e s m args below meth c s₁ B hml hv
  obtain ⟨rfl, hsz, hP, hKN, hD0⟩ := hv
  obtain ⟨hK, hN⟩ := hKN
  have hx := B.exec
  have hb := B.bytes
  have hr := B.returns
  have hts := atoms_spec (ws := wsJ3_checkIndex_8e157) B.pre
  have hown : s.vm.findClass RJ3 = some m.cls := findClass_of_methodNamed B.named
  have hlocks := B.notSynchronized
  subst hsz
  have hD := hD0.self (sz := s.heap.size)
  generalize hAe : va_A [] s.heap.size = A at hD
  have hA : ∀ q : Nat, s.heap.size ≤ q → A q := fun q h => by rw [← hAe]; exact Or.inr h
  have hS : va_S A s.heap s.heap [] := va_S.rf
  have hP : va_P (dC, dI) rfCl [] s.heap := hP
  have hl := lv_entry ([.int 0, .int 1, .null]) (n := 3) (Nat.le_of_ble_eq_true rfl)
  rw [lg_entry_eq]
  generalize (lg_sl ([.int 0, .int 1, .null]) ++ List.replicate (3 - (lg_sl ([.int 0, .int 1, .null])).length) Slot.unset).toArray = ls at hl ⊢
  have hl : lv_has ls 3 [(0, .int 0), (1, .int 1), (2, .null)] := hl
  refine lv_iload_n hx hb dJ3_checkIndex_8e157_0 rfl (lv_at hl 0 rfl) ?_
  refine lv_if_lt (tgt := 9) hx hb dJ3_checkIndex_8e157_1 (by decide) (fun c9 => absurd c9 (by decide)) (fun _ => ?_)
  refine lv_iload_n hx hb dJ3_checkIndex_8e157_4 rfl (lv_at hl 0 rfl) ?_
  refine lv_iload_n hx hb dJ3_checkIndex_8e157_5 rfl (lv_at hl 1 rfl) ?_
  refine lv_icmp_lt (tgt := 16) hx hb dJ3_checkIndex_8e157_6 (by decide) (fun _ => ?_) (fun c9 => absurd (by decide) c9)
  refine lv_iload_n hx hb dJ3_checkIndex_8e157_16 rfl (lv_at hl 0 rfl) ?_
  exact W.iret (v := 0) hx hb hr (fun t ht hW => ⟨rfl, ht⟩) (fun q h => nomatch h) dJ3_checkIndex_8e157_17

set_option maxHeartbeats 4000000 in
set_option maxRecDepth 100000 in
theorem c_J15_checkIndex_7cf53 (l : Launch) (dC : Nat → ClassId) (dI : Nat → Nat → Nat) (aC : Nat → ClassId) (sz : Nat)   : Met l yJ15_checkIndex_7cf53 wsJ15_checkIndex_7cf53 ({ frames := 2, cells := 0, slots := 0, locals := 40 } : Room) (rf_Pc (dC, dI) aC [.int 0, .int 1] [] sz) (QcRead 0) 0 0 (fun _ => False) := by
  refine Met.ofW (cc := cJ15_checkIndex_7cf53) (maxL := 2) (ret := (some .int)) (by decide) rfl ?_
  intro p e s m args below meth c s₁ B hml hv
  obtain ⟨rfl, hsz, hP, hKN, hD0⟩ := hv
  obtain ⟨hK, hN⟩ := hKN
  have hx := B.exec
  have hb := B.bytes
  have hr := B.returns
  have hts := atoms_spec (ws := wsJ15_checkIndex_7cf53) B.pre
  have hown : s.vm.findClass RJ15 = some m.cls := findClass_of_methodNamed B.named
  have hlocks := B.notSynchronized
  subst hsz
  have hD := hD0.self (sz := s.heap.size)
  generalize hAe : va_A [] s.heap.size = A at hD
  have hA : ∀ q : Nat, s.heap.size ≤ q → A q := fun q h => by rw [← hAe]; exact Or.inr h
  have hS : va_S A s.heap s.heap [] := va_S.rf
  have hP : va_P (dC, dI) rfCl [] s.heap := hP
  have hl := lv_entry ([.int 0, .int 1]) (n := 2) (Nat.le_of_ble_eq_true rfl)
  rw [lg_entry_eq]
  generalize (lg_sl ([.int 0, .int 1]) ++ List.replicate (2 - (lg_sl ([.int 0, .int 1])).length) Slot.unset).toArray = ls at hl ⊢
  have hl : lv_has ls 2 [(0, .int 0), (1, .int 1)] := hl
  refine lv_iload_n hx hb dJ15_checkIndex_7cf53_0 rfl (lv_at hl 0 rfl) ?_
  refine lv_iload_n hx hb dJ15_checkIndex_7cf53_1 rfl (lv_at hl 1 rfl) ?_
  refine lv_null hx hb dJ15_checkIndex_7cf53_2 ?_
  have hPc := hP.sub (ws' := []) [] rfl
  have hDc := hD.sub (ws' := []) [] (by decide) rfl
  refine W.callR (W.runS (As := [.int 0, .int 1, .null]) (rest := []) ⟨hx, hb, hml, hown, hts⟩ (c_J3_checkIndex_8e157 l dC dI aC s.heap.size ) (va_cwS 3 hts gJ15_checkIndex_7cf53_J3_checkIndex_8e157 rfl rfl rfl (by decide +kernel) ⟨Nat.le_of_ble_eq_true rfl, Nat.le_of_ble_eq_true rfl⟩) (rf_ps hK hN hPc hDc) rfl rfl hl.1 rfl (lv_room (Nat.le_of_ble_eq_true rfl)) dJ15_checkIndex_7cf53_3 ⟨Nat.le_of_ble_eq_true rfl, Nat.le_of_ble_eq_true rfl⟩) ?_
  refine W.eq (g2 := F0 m 6 ls [.int 0]) rfl ?_
  exact W.iret (v := 0) hx hb hr (fun t ht hW => ⟨rfl, ht⟩) (fun q h => nomatch h) dJ15_checkIndex_7cf53_6

set_option maxHeartbeats 4000000 in
set_option maxRecDepth 100000 in
theorem c_Jx4a65c_get_915e3 (l : Launch) (dC : Nat → ClassId) (dI : Nat → Nat → Nat) (aC : Nat → ClassId) (sz : Nat) (h0 : Nat) (mc : Int32) (ed : Nat) (df : Nat → Option Nat) (ow : Nat) (hf : df 0 = some ow) : Met l yJx4a65c_get_915e3 wsJx4a65c_get_915e3 ({ frames := 3, cells := 0, slots := 0, locals := 80 } : Room) (rf_Pc (dC, dI) aC [.ref h0, .int 0] [(h0, .inr (13, [.int mc, .ref ed, .int 1])), (ed, .inl (aC 5, 10, .inr (.inr (.inr (.inr df)))))] sz) (va_Sr (fun k => k = ow) (fun k => .ref k)) 0 0 (fun _ => False) := by
  refine Met.ofW (cc := cJx4a65c_get_915e3) (maxL := 2) (ret := (some (.object "java/lang/Object"))) (by decide) rfl ?_
  intro p e s m args below meth c s₁ B hml hv
  obtain ⟨rfl, hsz, hP, hKN, hD0⟩ := hv
  obtain ⟨hK, hN⟩ := hKN
  have hx := B.exec
  have hb := B.bytes
  have hr := B.returns
  have hts := atoms_spec (ws := wsJx4a65c_get_915e3) B.pre
  have hown : s.vm.findClass RJx4a65c = some m.cls := findClass_of_methodNamed B.named
  have hlocks := B.notSynchronized
  subst hsz
  have hD := hD0.self (sz := s.heap.size)
  generalize hAe : va_A [(h0, .inr (13, [.int mc, .ref ed, .int 1])), (ed, .inl (aC 5, 10, .inr (.inr (.inr (.inr df)))))] s.heap.size = A at hD
  have hA : ∀ q : Nat, s.heap.size ≤ q → A q := fun q h => by rw [← hAe]; exact Or.inr h
  have hS : va_S A s.heap s.heap [] := va_S.rf
  have hP : va_P (dC, dI) rfCl [(h0, .inr (13, [.int mc, .ref ed, .int 1])), (ed, .inl (aC 5, 10, .inr (.inr (.inr (.inr df)))))] s.heap := hP
  have hl := lv_entry ([.ref h0, .int 0]) (n := 2) (Nat.le_of_ble_eq_true rfl)
  rw [lg_entry_eq]
  generalize (lg_sl ([.ref h0, .int 0]) ++ List.replicate (2 - (lg_sl ([.ref h0, .int 0])).length) Slot.unset).toArray = ls at hl ⊢
  have hl : lv_has ls 2 [(0, .ref h0), (1, .int 0)] := hl
  refine lv_iload_n hx hb dJx4a65c_get_915e3_0 rfl (lv_at hl 1 rfl) ?_
  refine lv_aload_n hx hb dJx4a65c_get_915e3_1 rfl (lv_at hl 0 rfl) ?_
  refine va_get (D := (dC, dI)) (ci := 13) (v := .int 1) (C := RJx4a65c) (T := TJx4a65c) (N := 3) hx hb hts (by decide +kernel) hown hK hP 0 rfl rfl 2 (by decide) (hts (.fieldLink RJx4a65c 48 "java/util/ArrayList" "size" "I") (by decide +kernel)) (fun _ h9 => h9) rfl dJx4a65c_get_915e3_2 ?_
  have hPc := hP.sub (ws' := []) [] rfl
  have hDc := hD.sub (ws' := []) [] (by decide) rfl
  refine W.callR (W.runS (As := [.int 0, .int 1]) (rest := []) ⟨hx, hb, hml, hown, hts⟩ (c_J15_checkIndex_7cf53 l dC dI aC s.heap.size ) (va_cwS 2 hts gJx4a65c_get_915e3_J15_checkIndex_7cf53 rfl rfl rfl (by decide +kernel) ⟨Nat.le_of_ble_eq_true rfl, Nat.le_of_ble_eq_true rfl⟩) (rf_ps hK hN hPc hDc) rfl rfl hl.1 rfl (lv_room (Nat.le_of_ble_eq_true rfl)) dJx4a65c_get_915e3_5 ⟨Nat.le_of_ble_eq_true rfl, Nat.le_of_ble_eq_true rfl⟩) ?_
  refine W.eq (g2 := F0 m 8 ls [.int 0]) rfl ?_
  refine lv_pop hx hb dJx4a65c_get_915e3_8 rfl ?_
  refine lv_aload_n hx hb dJx4a65c_get_915e3_9 rfl (lv_at hl 0 rfl) ?_
  refine lv_iload_n hx hb dJx4a65c_get_915e3_10 rfl (lv_at hl 1 rfl) ?_
  have hPc := hP.sub (ws' := [(h0, .inr (13, [.int mc, .ref ed, .int 1])), (ed, .inl (aC 5, 10, .inr (.inr (.inr (.inr df)))))]) [0, 1] rfl
  have hDc := hD.sub (ws' := [(h0, .inr (13, [.int mc, .ref ed, .int 1])), (ed, .inl (aC 5, 10, .inr (.inr (.inr (.inr df)))))]) [0, 1] (by decide) rfl
  refine va_csr (W.runV (As := [.int 0]) (rest := []) ⟨hx, hb, hml, hown, hts⟩ (c_Jx4a65c_elementData_915e3 l dC dI aC s.heap.size h0 mc 1 ed df ow hf) (cwV 1 hts gJx4a65c_get_915e3_Jx4a65c_elementData_915e3 rfl rfl rfl (by decide +kernel) ⟨Nat.le_of_ble_eq_true rfl, Nat.le_of_ble_eq_true rfl⟩) (rf_pv hK hN hPc hDc (va_recv hK hP (ci := 13) (q0 := 0) rfl rfl)) rfl rfl hl.1 rfl (lv_room (Nat.le_of_ble_eq_true rfl)) dJx4a65c_get_915e3_11 ⟨Nat.le_of_ble_eq_true rfl, Nat.le_of_ble_eq_true rfl⟩) (fun k9 hk9 => ?_)
  rw [hk9]
  exact W.aret (v := .ref ow) hx hb hr (Or.inl ⟨_, rfl⟩) (Or.inr ⟨_, rfl⟩) (fun t ht hW => ⟨_, rfl, rfl, ht⟩) (fun q h => nomatch h) dJx4a65c_get_915e3_14
