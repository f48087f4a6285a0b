set_option maxHeartbeats 4000000 in
set_option maxRecDepth 100000 in
theorem c_X14_is (l : Launch) (dC : Nat → ClassId) (dI : Nat → Nat → Nat) (aC : Nat → ClassId) (sz : Nat) (p0 p1 p2 : Int32) (h1 : ¬ p0 < p1) (h2 : ¬ p2 < p0) : Met l yX14_is wsX14_is ({ frames := 1, cells := 0, slots := 0, locals := 0 } : Room) (rf_Pc (dC, dI) aC [.int p0, .int p1, .int p2] [] sz) (QcRead 1) 0 0 (fun _ => False) := by
  refine Met.ofW (cc := cX14_is) (maxL := 3) (ret := (some .boolean)) (by decide) rfl ?_
  intro p e s m args below meth c s₁ B hml hv
  obtain ⟨rfl, hsz, hP, hKN, hD0⟩ := hv
  obtain ⟨hK, hN⟩ := hKN
  have hx := B.exec
  have hb := B.bytes
  have hr := B.returns
  have hts := atoms_spec (ws := wsX14_is) B.pre
  have hown : s.vm.findClass RX14 = some m.cls := findClass_of_methodNamed B.named
  have hlocks := B.notSynchronized
  subst hsz
  have hD := hD0.self (sz := s.heap.size)
  generalize hAe : va_A [] s.heap.size = A at hD
  have hA : ∀ q : Nat, s.heap.size ≤ q → A q := fun q h => by rw [← hAe]; exact Or.inr h
  have hS : va_S A s.heap s.heap [] := va_S.rf
  have hP : va_P (dC, dI) rfCl [] s.heap := hP
  have hl := lv_entry ([.int p0, .int p1, .int p2]) (n := 3) (Nat.le_of_ble_eq_true rfl)
  rw [lg_entry_eq]
  generalize (lg_sl ([.int p0, .int p1, .int p2]) ++ List.replicate (3 - (lg_sl ([.int p0, .int p1, .int p2])).length) Slot.unset).toArray = ls at hl ⊢
  have hl : lv_has ls 3 [(0, .int p0), (1, .int p1), (2, .int p2)] := hl
  refine lv_iload_n hx hb dX14_is_0 rfl (lv_at hl 0 rfl) ?_
  refine lv_iload_n hx hb dX14_is_1 rfl (lv_at hl 1 rfl) ?_
  refine lv_icmp_lt (tgt := 14) hx hb dX14_is_2 (by decide) (fun c9 => absurd c9 h1) (fun _ => ?_)
  refine lv_iload_n hx hb dX14_is_5 rfl (lv_at hl 0 rfl) ?_
  refine lv_iload_n hx hb dX14_is_6 rfl (lv_at hl 2 rfl) ?_
  refine lv_icmp_gt (tgt := 14) hx hb dX14_is_7 (by decide) (fun c9 => absurd c9 h2) (fun _ => ?_)
  refine lv_iconst (v := 1) hx hb dX14_is_10 (by decide) ?_
  refine lv_goto (tgt := 15) hx hb dX14_is_11 (by decide) ?_
  exact W.zret (v := 1) hx hb hr rfl (fun t ht hW => ⟨rfl, ht⟩) (fun q h => nomatch h) dX14_is_15

set_option maxHeartbeats 4000000 in
set_option maxRecDepth 100000 in
theorem c_X14_all (l : Launch) (dC : Nat → ClassId) (dI : Nat → Nat → Nat) (aC : Nat → ClassId) (sz : Nat) (h0 : Nat) (th pn dd : Int32) (li : Nat) (wt sc lo hi sm : Value) (r : Int32) (hr9 : (1 : Int32) <<< (pn &&& 31) = r) : Met l yX14_all wsX14_all ({ frames := 1, cells := 0, slots := 0, locals := 0 } : Room) (rf_Pc (dC, dI) aC [.ref h0] [(h0, .inr (14, [.int th, .int pn, wt, .int dd, .ref li, sc, lo, hi, sm]))] sz) (QcRead r) 0 0 (fun _ => False) := by
  refine Met.ofW (cc := cX14_all) (maxL := 1) (ret := (some .int)) (by decide) rfl ?_
  intro p e s m args below meth c s₁ B hml hv
  obtain ⟨rfl, hsz, hP, hKN, hD0⟩ := hv
  obtain ⟨hK, hN⟩ := hKN
  have hx := B.exec
  have hb := B.bytes
  have hr := B.returns
  have hts := atoms_spec (ws := wsX14_all) B.pre
  have hown : s.vm.findClass RX14 = some m.cls := findClass_of_methodNamed B.named
  have hlocks := B.notSynchronized
  subst hsz
  have hD := hD0.self (sz := s.heap.size)
  generalize hAe : va_A [(h0, .inr (14, [.int th, .int pn, wt, .int dd, .ref li, sc, lo, hi, sm]))] s.heap.size = A at hD
  have hA : ∀ q : Nat, s.heap.size ≤ q → A q := fun q h => by rw [← hAe]; exact Or.inr h
  have hS : va_S A s.heap s.heap [] := va_S.rf
  have hP : va_P (dC, dI) rfCl [(h0, .inr (14, [.int th, .int pn, wt, .int dd, .ref li, sc, lo, hi, sm]))] s.heap := hP
  have hl := lv_entry ([.ref h0]) (n := 1) (Nat.le_of_ble_eq_true rfl)
  rw [lg_entry_eq]
  generalize (lg_sl ([.ref h0]) ++ List.replicate (1 - (lg_sl ([.ref h0])).length) Slot.unset).toArray = ls at hl ⊢
  have hl : lv_has ls 1 [(0, .ref h0)] := hl
  refine lv_iconst (v := 1) hx hb dX14_all_0 (by decide) ?_
  refine lv_aload_n hx hb dX14_all_1 rfl (lv_at hl 0 rfl) ?_
  refine va_get (D := (dC, dI)) (ci := 14) (v := .int pn) (C := RX14) (T := TX14) (N := 9) hx hb hts (by decide +kernel) hown hK hP 0 rfl rfl 1 (by decide) (hts (.fieldLink RX14 7 "TransversaryModel" "points" "I") (by decide +kernel)) (fun _ h9 => h9) rfl dX14_all_2 ?_
  refine lv_ishl hx hb dX14_all_5 ?_
  refine lv_topi (fun t1 et1 => ?_)
  obtain rfl : r = t1 := (et1.trans hr9).symm
  exact W.iret (v := r) hx hb hr (fun t ht hW => ⟨rfl, ht⟩) (fun q h => nomatch h) dX14_all_6

set_option maxHeartbeats 4000000 in
set_option maxRecDepth 100000 in
theorem c_X14_alive (l : Launch) (dC : Nat → ClassId) (dI : Nat → Nat → Nat) (aC : Nat → ClassId) (sz : Nat) (h0 : Nat) (th pn dd : Int32) (li : Nat) (wt sc lo hi sm : Value) (r9 r : Int32) (hr9 : (1 : Int32) <<< (pn &&& 31) = r9) (hr8 : (r9 - 1) &&& (dd ^^^ (-1)) = r) : Met l yX14_alive wsX14_alive ({ frames := 2, cells := 0, slots := 0, locals := 40 } : Room) (rf_Pc (dC, dI) aC [.ref h0] [(h0, .inr (14, [.int th, .int pn, wt, .int dd, .ref li, sc, lo, hi, sm]))] sz) (QcRead r) 0 0 (fun _ => False) := by
  refine Met.ofW (cc := cX14_alive) (maxL := 1) (ret := (some .int)) (by decide) rfl ?_
  intro p e s m args below meth c s₁ B hml hv
  obtain ⟨rfl, hsz, hP, hKN, hD0⟩ := hv
  obtain ⟨hK, hN⟩ := hKN
  have hx := B.exec
  have hb := B.bytes
  have hr := B.returns
  have hts := atoms_spec (ws := wsX14_alive) B.pre
  have hown : s.vm.findClass RX14 = some m.cls := findClass_of_methodNamed B.named
  have hlocks := B.notSynchronized
  subst hsz
  have hD := hD0.self (sz := s.heap.size)
  generalize hAe : va_A [(h0, .inr (14, [.int th, .int pn, wt, .int dd, .ref li, sc, lo, hi, sm]))] s.heap.size = A at hD
  have hA : ∀ q : Nat, s.heap.size ≤ q → A q := fun q h => by rw [← hAe]; exact Or.inr h
  have hS : va_S A s.heap s.heap [] := va_S.rf
  have hP : va_P (dC, dI) rfCl [(h0, .inr (14, [.int th, .int pn, wt, .int dd, .ref li, sc, lo, hi, sm]))] s.heap := hP
  have hl := lv_entry ([.ref h0]) (n := 1) (Nat.le_of_ble_eq_true rfl)
  rw [lg_entry_eq]
  generalize (lg_sl ([.ref h0]) ++ List.replicate (1 - (lg_sl ([.ref h0])).length) Slot.unset).toArray = ls at hl ⊢
  have hl : lv_has ls 1 [(0, .ref h0)] := hl
  refine lv_aload_n hx hb dX14_alive_0 rfl (lv_at hl 0 rfl) ?_
  have hPc := hP.sub (ws' := [(h0, .inr (14, [.int th, .int pn, wt, .int dd, .ref li, sc, lo, hi, sm]))]) [0] rfl
  have hDc := hD.sub (ws' := [(h0, .inr (14, [.int th, .int pn, wt, .int dd, .ref li, sc, lo, hi, sm]))]) [0] (by decide) rfl
  refine W.callR (W.runV (As := []) (rest := []) ⟨hx, hb, hml, hown, hts⟩ (c_X14_all l dC dI aC s.heap.size h0 th pn dd li wt sc lo hi sm r9 hr9) (cwV 0 hts gX14_alive_X14_all rfl rfl rfl (by decide +kernel) ⟨Nat.le_of_ble_eq_true rfl, Nat.le_of_ble_eq_true rfl⟩) (rf_pv hK hN hPc hDc (va_recv hK hP (ci := 14) (q0 := 0) rfl rfl)) rfl rfl hl.1 rfl (lv_room (Nat.le_of_ble_eq_true rfl)) dX14_alive_1 ⟨Nat.le_of_ble_eq_true rfl, Nat.le_of_ble_eq_true rfl⟩) ?_
  refine W.eq (g2 := F0 m 4 ls [.int r9]) rfl ?_
  refine lv_iconst (v := 1) hx hb dX14_alive_4 (by decide) ?_
  refine lv_isub hx hb dX14_alive_5 ?_
  refine lv_topi (fun t1 et1 => ?_)
  refine lv_aload_n hx hb dX14_alive_6 rfl (lv_at hl 0 rfl) ?_
  refine va_get (D := (dC, dI)) (ci := 14) (v := .int dd) (C := RX14) (T := TX14) (N := 9) hx hb hts (by decide +kernel) hown hK hP 0 rfl rfl 3 (by decide) (hts (.fieldLink RX14 49 "TransversaryModel" "dead" "I") (by decide +kernel)) (fun _ h9 => h9) rfl dX14_alive_7 ?_
  refine lv_iconst (v := -1) hx hb dX14_alive_10 (by decide) ?_
  refine lv_ixor hx hb dX14_alive_11 ?_
  refine lv_topi (fun t2 et2 => ?_)
  refine lv_iand hx hb dX14_alive_12 ?_
  refine lv_topi (fun t3 et3 => ?_)
  obtain rfl : r = t3 := (by rw [et3, et2, et1]; exact hr8.symm)
  exact W.iret (v := r) hx hb hr (fun t ht hW => ⟨rfl, ht⟩) (fun q h => nomatch h) dX14_alive_13

set_option maxHeartbeats 4000000 in
set_option maxRecDepth 100000 in
theorem c_X14_aliveMany (l : Launch) (dC : Nat → ClassId) (dI : Nat → Nat → Nat) (aC : Nat → ClassId) (sz : Nat) (h0 : Nat) (th pn dd : Int32) (li : Nat) (wt sc lo hi sm : Value) (r9 r : Int32) (hr9 : (1 : Int32) <<< (pn &&& 31) = r9) (hr8 : (r9 - 1) &&& (dd ^^^ (-1)) = r) : Met l yX14_aliveMany wsX14_aliveMany ({ frames := 3, cells := 0, slots := 0, locals := 80 } : Room) (rf_Pc (dC, dI) aC [.ref h0] [(h0, .inr (14, [.int th, .int pn, wt, .int dd, .ref li, sc, lo, hi, sm]))] sz) QcAny 0 0 (fun _ => False) := by
  refine Met.ofW (cc := cX14_aliveMany) (maxL := 1) (ret := (some .int)) (by decide) rfl ?_
  intro p e s m args below meth c s₁ B hml hv
  obtain ⟨rfl, hsz, hP, hKN, hD0⟩ := hv
  obtain ⟨hK, hN⟩ := hKN
  have hx := B.exec
  have hb := B.bytes
  have hr := B.returns
  have hts := atoms_spec (ws := wsX14_aliveMany) B.pre
  have hown : s.vm.findClass RX14 = some m.cls := findClass_of_methodNamed B.named
  have hlocks := B.notSynchronized
  subst hsz
  have hD := hD0.self (sz := s.heap.size)
  generalize hAe : va_A [(h0, .inr (14, [.int th, .int pn, wt, .int dd, .ref li, sc, lo, hi, sm]))] s.heap.size = A at hD
  have hA : ∀ q : Nat, s.heap.size ≤ q → A q := fun q h => by rw [← hAe]; exact Or.inr h
  have hS : va_S A s.heap s.heap [] := va_S.rf
  have hP : va_P (dC, dI) rfCl [(h0, .inr (14, [.int th, .int pn, wt, .int dd, .ref li, sc, lo, hi, sm]))] s.heap := hP
  have hl := lv_entry ([.ref h0]) (n := 1) (Nat.le_of_ble_eq_true rfl)
  rw [lg_entry_eq]
  generalize (lg_sl ([.ref h0]) ++ List.replicate (1 - (lg_sl ([.ref h0])).length) Slot.unset).toArray = ls at hl ⊢
  have hl : lv_has ls 1 [(0, .ref h0)] := hl
  refine lv_aload_n hx hb dX14_aliveMany_0 rfl (lv_at hl 0 rfl) ?_
  have hPc := hP.sub (ws' := [(h0, .inr (14, [.int th, .int pn, wt, .int dd, .ref li, sc, lo, hi, sm]))]) [0] rfl
  have hDc := hD.sub (ws' := [(h0, .inr (14, [.int th, .int pn, wt, .int dd, .ref li, sc, lo, hi, sm]))]) [0] (by decide) rfl
  refine W.callR (W.runV (As := []) (rest := []) ⟨hx, hb, hml, hown, hts⟩ (c_X14_alive l dC dI aC s.heap.size h0 th pn dd li wt sc lo hi sm r9 r hr9 hr8) (cwV 0 hts gX14_aliveMany_X14_alive rfl rfl rfl (by decide +kernel) ⟨Nat.le_of_ble_eq_true rfl, Nat.le_of_ble_eq_true rfl⟩) (rf_pv hK hN hPc hDc (va_recv hK hP (ci := 14) (q0 := 0) rfl rfl)) rfl rfl hl.1 rfl (lv_room (Nat.le_of_ble_eq_true rfl)) dX14_aliveMany_1 ⟨Nat.le_of_ble_eq_true rfl, Nat.le_of_ble_eq_true rfl⟩) ?_
  refine W.eq (g2 := F0 m 4 ls [.int r]) rfl ?_
  have hPc := hP.sub (ws' := []) [] rfl
  have hDc := hD.sub (ws' := []) [] (by decide) rfl
  refine W.callA (W.runS (As := [.int r]) (rest := []) ⟨hx, hb, hml, hown, hts⟩ (c_J6_bitCount_0f7a4 l dC dI aC s.heap.size r) (va_cwS 1 hts gX14_aliveMany_J6_bitCount_0f7a4 rfl rfl rfl (by decide +kernel) ⟨Nat.le_of_ble_eq_true rfl, Nat.le_of_ble_eq_true rfl⟩) (rf_ps hK hN hPc hDc) rfl rfl hl.1 rfl (lv_room (Nat.le_of_ble_eq_true rfl)) dX14_aliveMany_4 ⟨Nat.le_of_ble_eq_true rfl, Nat.le_of_ble_eq_true rfl⟩) (fun t1 => ?_)
  refine W.eq (g2 := F0 m 7 ls [.int t1]) rfl ?_
  exact W.iret (v := t1) hx hb hr (fun t ht hW => ⟨_, rfl, ht⟩) (fun q h => nomatch h) dX14_aliveMany_7

set_option maxHeartbeats 4000000 in
set_option maxRecDepth 100000 in
theorem c_X14_isPoint (l : Launch) (dC : Nat → ClassId) (dI : Nat → Nat → Nat) (aC : Nat → ClassId) (sz : Nat) (h0 : Nat) (th pn dd : Int32) (li : Nat) (wt sc lo hi sm : Value) (p0 : Int32) (h1 : ¬ p0 < 0) (h2 : ¬ pn - 1 < p0) : Met l yX14_isPoint wsX14_isPoint ({ frames := 2, cells := 0, slots := 0, locals := 40 } : Room) (rf_Pc (dC, dI) aC [.ref h0, .int p0] [(h0, .inr (14, [.int th, .int pn, wt, .int dd, .ref li, sc, lo, hi, sm]))] sz) (QcRead 1) 0 0 (fun _ => False) := by
  refine Met.ofW (cc := cX14_isPoint) (maxL := 2) (ret := (some .boolean)) (by decide) rfl ?_
  intro p e s m args below meth c s₁ B hml hv
  obtain ⟨rfl, hsz, hP, hKN, hD0⟩ := hv
  obtain ⟨hK, hN⟩ := hKN
  have hx := B.exec
  have hb := B.bytes
  have hr := B.returns
  have hts := atoms_spec (ws := wsX14_isPoint) B.pre
  have hown : s.vm.findClass RX14 = some m.cls := findClass_of_methodNamed B.named
  have hlocks := B.notSynchronized
  subst hsz
  have hD := hD0.self (sz := s.heap.size)
  generalize hAe : va_A [(h0, .inr (14, [.int th, .int pn, wt, .int dd, .ref li, sc, lo, hi, sm]))] s.heap.size = A at hD
  have hA : ∀ q : Nat, s.heap.size ≤ q → A q := fun q h => by rw [← hAe]; exact Or.inr h
  have hS : va_S A s.heap s.heap [] := va_S.rf
  have hP : va_P (dC, dI) rfCl [(h0, .inr (14, [.int th, .int pn, wt, .int dd, .ref li, sc, lo, hi, sm]))] s.heap := hP
  have hl := lv_entry ([.ref h0, .int p0]) (n := 2) (Nat.le_of_ble_eq_true rfl)
  rw [lg_entry_eq]
  generalize (lg_sl ([.ref h0, .int p0]) ++ List.replicate (2 - (lg_sl ([.ref h0, .int p0])).length) Slot.unset).toArray = ls at hl ⊢
  have hl : lv_has ls 2 [(0, .ref h0), (1, .int p0)] := hl
  refine lv_iload_n hx hb dX14_isPoint_0 rfl (lv_at hl 1 rfl) ?_
  refine lv_iconst (v := 0) hx hb dX14_isPoint_1 (by decide) ?_
  refine lv_aload_n hx hb dX14_isPoint_2 rfl (lv_at hl 0 rfl) ?_
  refine va_get (D := (dC, dI)) (ci := 14) (v := .int pn) (C := RX14) (T := TX14) (N := 9) hx hb hts (by decide +kernel) hown hK hP 0 rfl rfl 1 (by decide) (hts (.fieldLink RX14 7 "TransversaryModel" "points" "I") (by decide +kernel)) (fun _ h9 => h9) rfl dX14_isPoint_3 ?_
  refine lv_iconst (v := 1) hx hb dX14_isPoint_6 (by decide) ?_
  refine lv_isub hx hb dX14_isPoint_7 ?_
  refine lv_topi (fun t1 et1 => ?_)
  have h2b : ¬ t1 < p0 := by rw [et1]; exact h2
  have hPc := hP.sub (ws' := []) [] rfl
  have hDc := hD.sub (ws' := []) [] (by decide) rfl
  refine W.callR (W.runS (As := [.int p0, .int 0, .int t1]) (rest := []) ⟨hx, hb, hml, hown, hts⟩ (c_X14_is l dC dI aC s.heap.size p0 0 t1 h1 h2b) (va_cwS 3 hts gX14_isPoint_X14_is rfl rfl rfl (by decide +kernel) ⟨Nat.le_of_ble_eq_true rfl, Nat.le_of_ble_eq_true rfl⟩) (rf_ps hK hN hPc hDc) rfl rfl hl.1 rfl (lv_room (Nat.le_of_ble_eq_true rfl)) dX14_isPoint_8 ⟨Nat.le_of_ble_eq_true rfl, Nat.le_of_ble_eq_true rfl⟩) ?_
  refine W.eq (g2 := F0 m 11 ls [.int 1]) rfl ?_
  exact W.zret (v := 1) hx hb hr rfl (fun t ht hW => ⟨rfl, ht⟩) (fun q h => nomatch h) dX14_isPoint_11

set_option maxHeartbeats 4000000 in
set_option maxRecDepth 100000 in
theorem c_X14_die (l : Launch) (dC : Nat → ClassId) (dI : Nat → Nat → Nat) (aC : Nat → ClassId) (sz : Nat) (h0 : Nat) (th pn dd : Int32) (li : Nat) (wt sc lo hi sm : Value) (p0 d2 r9 r : Int32) (h1 : ¬ p0 < 0) (h2 : ¬ pn - 1 < p0) (h4 : dd ||| ((1 : Int32) <<< (p0 &&& 31)) = d2) (hr9 : (1 : Int32) <<< (pn &&& 31) = r9) (hr8 : (r9 - 1) &&& (d2 ^^^ (-1)) = r) : Met l yX14_die wsX14_die ({ frames := 4, cells := 0, slots := 0, locals := 120 } : Room) (rf_Pc (dC, dI) aC [.ref h0, .int p0, .int 1] [(h0, .inr (14, [.int th, .int pn, wt, .int dd, .ref li, sc, lo, hi, sm]))] sz) (va_Qi (fun (r : Int32) (u : Unit) => True) (fun (u : Unit) t => va_P (dC, dI) rfCl [(h0, .inr (14, [.int 0, .int pn, wt, .int d2, .ref li, sc, lo, hi, sm]))] t.heap ∧ va_D (va_A [(h0, .inr (14, [.int th, .int pn, wt, .int dd, .ref li, sc, lo, hi, sm]))] sz) [(h0, .inr (14, [.int 0, .int pn, wt, .int d2, .ref li, sc, lo, hi, sm]))]) (va_A [(h0, .inr (14, [.int th, .int pn, wt, .int dd, .ref li, sc, lo, hi, sm]))] sz)) 0 0 (va_A [(h0, .inr (14, [.int th, .int pn, wt, .int dd, .ref li, sc, lo, hi, sm]))] sz) := by
  refine Met.ofW (cc := cX14_die) (maxL := 3) (ret := (some .int)) (by decide) rfl ?_
  intro p e s m args below meth c s₁ B hml hv
  obtain ⟨rfl, hsz, hP, hKN, hD0⟩ := hv
  obtain ⟨hK, hN⟩ := hKN
  have hx := B.exec
  have hb := B.bytes
  have hr := B.returns
  have hts := atoms_spec (ws := wsX14_die) B.pre
  have hown : s.vm.findClass RX14 = some m.cls := findClass_of_methodNamed B.named
  have hlocks := B.notSynchronized
  subst hsz
  have hD := hD0.self (sz := s.heap.size)
  generalize hAe : va_A [(h0, .inr (14, [.int th, .int pn, wt, .int dd, .ref li, sc, lo, hi, sm]))] s.heap.size = A at hD ⊢
  have hA : ∀ q : Nat, s.heap.size ≤ q → A q := fun q h => by rw [← hAe]; exact Or.inr h
  have hS : va_S A s.heap s.heap [] := va_S.rf
  have hP : va_P (dC, dI) rfCl [(h0, .inr (14, [.int th, .int pn, wt, .int dd, .ref li, sc, lo, hi, sm]))] s.heap := hP
  have hl := lv_entry ([.ref h0, .int p0, .int 1]) (n := 3) (Nat.le_of_ble_eq_true rfl)
  rw [lg_entry_eq]
  generalize (lg_sl ([.ref h0, .int p0, .int 1]) ++ List.replicate (3 - (lg_sl ([.ref h0, .int p0, .int 1])).length) Slot.unset).toArray = ls at hl ⊢
  have hl : lv_has ls 3 [(0, .ref h0), (1, .int p0), (2, .int 1)] := hl
  refine lv_aload_n hx hb dX14_die_0 rfl (lv_at hl 0 rfl) ?_
  refine lv_iconst (v := 0) hx hb dX14_die_1 (by decide) ?_
  refine va_put (D := (dC, dI)) (ci := 14) (v := .int 0) (ty := .int) (C := RX14) (T := TX14) (N := 9) hx hb hts (by decide +kernel) tyX14 tyX14_ok nmX14 hown hK hP hD hS 0 rfl rfl 0 (by decide) (hts (.fieldLink RX14 35 "TransversaryModel" "thrown" "I") (by decide +kernel)) (fun _ h9 => h9) rfl (by decide +kernel) rfl rfl (Nat.le_of_ble_eq_true rfl) dX14_die_2 (fun H locs hP hD hS => ?_)
  have hP : va_P (dC, dI) rfCl [(h0, .inr (14, [.int 0, .int pn, wt, .int dd, .ref li, sc, lo, hi, sm]))] H := hP
  have hD : va_D A [(h0, .inr (14, [.int 0, .int pn, wt, .int dd, .ref li, sc, lo, hi, sm]))] := hD
  refine lv_aload_n hx hb dX14_die_5 rfl (lv_at hl 0 rfl) ?_
  refine lv_iload_n hx hb dX14_die_6 rfl (lv_at hl 1 rfl) ?_
  have hPc := hP.sub (ws' := [(h0, .inr (14, [.int 0, .int pn, wt, .int dd, .ref li, sc, lo, hi, sm]))]) [0] rfl
  have hDc := hD.sub (ws' := [(h0, .inr (14, [.int 0, .int pn, wt, .int dd, .ref li, sc, lo, hi, sm]))]) [0] (by decide) rfl
  refine W.callR (W.runV (As := [.int p0]) (rest := []) ⟨hx, hb, hml, hown, hts⟩ (c_X14_isPoint l dC dI aC H.size h0 0 pn dd li wt sc lo hi sm p0 h1 h2) (cwV 1 hts gX14_die_X14_isPoint rfl rfl rfl (by decide +kernel) ⟨Nat.le_of_ble_eq_true rfl, Nat.le_of_ble_eq_true rfl⟩) (rf_pv hK hN hPc hDc (va_recv hK hP (ci := 14) (q0 := 0) rfl rfl)) rfl rfl hl.1 rfl (lv_room (Nat.le_of_ble_eq_true rfl)) dX14_die_7 ⟨Nat.le_of_ble_eq_true rfl, Nat.le_of_ble_eq_true rfl⟩) ?_
  refine W.eq (g2 := F0 m 10 ls [.int 1]) rfl ?_
  refine lv_if_ne (tgt := 19) hx hb dX14_die_10 (by decide) (fun _ => ?_) (fun c9 => absurd c9 (by decide))
  refine lv_aload_n hx hb dX14_die_19 rfl (lv_at hl 0 rfl) ?_
  refine lv_iload_n hx hb dX14_die_20 rfl (lv_at hl 2 rfl) ?_
  refine lv_if_eq (tgt := 35) hx hb dX14_die_21 (by decide) (fun c9 => absurd c9 (by decide)) (fun _ => ?_)
  refine lv_aload_n hx hb dX14_die_24 rfl (lv_at hl 0 rfl) ?_
  refine va_get (D := (dC, dI)) (ci := 14) (v := .int dd) (C := RX14) (T := TX14) (N := 9) hx hb hts (by decide +kernel) hown hK hP 0 rfl rfl 3 (by decide) (hts (.fieldLink RX14 49 "TransversaryModel" "dead" "I") (by decide +kernel)) (fun _ h9 => h9) rfl dX14_die_25 ?_
  refine lv_iconst (v := 1) hx hb dX14_die_28 (by decide) ?_
  refine lv_iload_n hx hb dX14_die_29 rfl (lv_at hl 1 rfl) ?_
  refine lv_ishl hx hb dX14_die_30 ?_
  refine lv_topi (fun t1 et1 => ?_)
  refine lv_ior hx hb dX14_die_31 ?_
  refine lv_topi (fun t2 et2 => ?_)
  obtain rfl : d2 = t2 := (by rw [et2, et1]; exact h4.symm)
  refine lv_goto (tgt := 45) hx hb dX14_die_32 (by decide) ?_
  refine va_put (D := (dC, dI)) (ci := 14) (v := .int d2) (ty := .int) (C := RX14) (T := TX14) (N := 9) hx hb hts (by decide +kernel) tyX14 tyX14_ok nmX14 hown hK hP hD hS 0 rfl rfl 3 (by decide) (hts (.fieldLink RX14 49 "TransversaryModel" "dead" "I") (by decide +kernel)) (fun _ h9 => h9) rfl (by decide +kernel) rfl rfl (Nat.le_of_ble_eq_true rfl) dX14_die_45 (fun H locs hP hD hS => ?_)
  have hP : va_P (dC, dI) rfCl [(h0, .inr (14, [.int 0, .int pn, wt, .int d2, .ref li, sc, lo, hi, sm]))] H := hP
  have hD : va_D A [(h0, .inr (14, [.int 0, .int pn, wt, .int d2, .ref li, sc, lo, hi, sm]))] := hD
  refine lv_aload_n hx hb dX14_die_48 rfl (lv_at hl 0 rfl) ?_
  have hPc := hP.sub (ws' := [(h0, .inr (14, [.int 0, .int pn, wt, .int d2, .ref li, sc, lo, hi, sm]))]) [0] rfl
  have hDc := hD.sub (ws' := [(h0, .inr (14, [.int 0, .int pn, wt, .int d2, .ref li, sc, lo, hi, sm]))]) [0] (by decide) rfl
  refine W.callA (W.runV (As := []) (rest := []) ⟨hx, hb, hml, hown, hts⟩ (c_X14_aliveMany l dC dI aC H.size h0 0 pn d2 li wt sc lo hi sm r9 r hr9 hr8) (cwV 0 hts gX14_die_X14_aliveMany rfl rfl rfl (by decide +kernel) ⟨Nat.le_of_ble_eq_true rfl, Nat.le_of_ble_eq_true rfl⟩) (rf_pv hK hN hPc hDc (va_recv hK hP (ci := 14) (q0 := 0) rfl rfl)) rfl rfl hl.1 rfl (lv_room (Nat.le_of_ble_eq_true rfl)) dX14_die_49 ⟨Nat.le_of_ble_eq_true rfl, Nat.le_of_ble_eq_true rfl⟩) (fun t3 => ?_)
  refine W.eq (g2 := F0 m 52 ls [.int t3]) rfl ?_
  have hP9 := hP.sub (ws' := [(h0, .inr (14, [.int 0, .int pn, wt, .int d2, .ref li, sc, lo, hi, sm]))]) [0] rfl
  have hD9 := hD.sub (ws' := [(h0, .inr (14, [.int 0, .int pn, wt, .int d2, .ref li, sc, lo, hi, sm]))]) [0] (by decide) rfl
  refine W.widen (k := 0) (n := 0) (Nat.le_of_ble_eq_true rfl) (Nat.le_of_ble_eq_true rfl) ?_
  exact W.iret (v := t3) hx hb hr (fun t ht hW => ⟨⟨t3, (), rfl, trivial, by rw [ht]; exact hP9, hD9⟩, hS.F ht⟩) hS.2.2 dX14_die_52

set_option maxHeartbeats 4000000 in
set_option maxRecDepth 100000 in
theorem c_X14_ground (l : Launch) (dC : Nat → ClassId) (dI : Nat → Nat → Nat) (aC : Nat → ClassId) (sz : Nat) (h0 : Nat) (th pn dd : Int32) (li : Nat) (wt sc lo hi sm : Value) (mc : Int32) (ed : Nat)  : Met l yX14_ground wsX14_ground ({ frames := 3, cells := 1, slots := 7, locals := 80 } : Room) (rf_Pc (dC, dI) aC [.ref h0, .int 7] [(h0, .inr (14, [.int th, .int pn, wt, .int dd, .ref li, sc, lo, hi, sm])), (li, .inr (13, [.int mc, .ref ed, .int 0]))] sz) (va_Qi (fun (r : Int32) (u : Nat × Int32) => r = 128) (fun (u : Nat × Int32) t => va_P (dC, dI) rfCl [(h0, .inr (14, [.int 0, .int 7, .ref (u.1), .int 0, .ref li, sc, lo, hi, sm])), (li, .inr (13, [.int (u.2), .ref ed, .int 0]))] t.heap ∧ va_D (va_A [(h0, .inr (14, [.int th, .int pn, wt, .int dd, .ref li, sc, lo, hi, sm])), (li, .inr (13, [.int mc, .ref ed, .int 0]))] sz) [(h0, .inr (14, [.int 0, .int 7, .ref (u.1), .int 0, .ref li, sc, lo, hi, sm])), (li, .inr (13, [.int (u.2), .ref ed, .int 0]))]) (va_A [(h0, .inr (14, [.int th, .int pn, wt, .int dd, .ref li, sc, lo, hi, sm])), (li, .inr (13, [.int mc, .ref ed, .int 0]))] sz)) 1 7 (va_A [(h0, .inr (14, [.int th, .int pn, wt, .int dd, .ref li, sc, lo, hi, sm])), (li, .inr (13, [.int mc, .ref ed, .int 0]))] sz) := by
  refine Met.ofW (cc := cX14_ground) (maxL := 3) (ret := (some .int)) (by decide) rfl ?_
  intro p e s m args below meth c s₁ B hml hv
  obtain ⟨rfl, hsz, hP, hKN, hD0⟩ := hv
  obtain ⟨hK, hN⟩ := hKN
  have hx := B.exec
  have hb := B.bytes
  have hr := B.returns
  have hts := atoms_spec (ws := wsX14_ground) B.pre
  have hown : s.vm.findClass RX14 = some m.cls := findClass_of_methodNamed B.named
  have hlocks := B.notSynchronized
  subst hsz
  have hD := hD0.self (sz := s.heap.size)
  generalize hAe : va_A [(h0, .inr (14, [.int th, .int pn, wt, .int dd, .ref li, sc, lo, hi, sm])), (li, .inr (13, [.int mc, .ref ed, .int 0]))] s.heap.size = A at hD ⊢
  have hA : ∀ q : Nat, s.heap.size ≤ q → A q := fun q h => by rw [← hAe]; exact Or.inr h
  have hS : va_S A s.heap s.heap [] := va_S.rf
  have hP : va_P (dC, dI) rfCl [(h0, .inr (14, [.int th, .int pn, wt, .int dd, .ref li, sc, lo, hi, sm])), (li, .inr (13, [.int mc, .ref ed, .int 0]))] s.heap := hP
  have hl := lv_entry ([.ref h0, .int 7]) (n := 3) (Nat.le_of_ble_eq_true rfl)
  rw [lg_entry_eq]
  generalize (lg_sl ([.ref h0, .int 7]) ++ List.replicate (3 - (lg_sl ([.ref h0, .int 7])).length) Slot.unset).toArray = ls at hl ⊢
  have hl : lv_has ls 3 [(0, .ref h0), (1, .int 7)] := hl
  refine lv_aload_n hx hb dX14_ground_0 rfl (lv_at hl 0 rfl) ?_
  refine lv_iconst (v := 0) hx hb dX14_ground_1 (by decide) ?_
  refine va_put (D := (dC, dI)) (ci := 14) (v := .int 0) (ty := .int) (C := RX14) (T := TX14) (N := 9) hx hb hts (by decide +kernel) tyX14 tyX14_ok nmX14 hown hK hP hD hS 0 rfl rfl 0 (by decide) (hts (.fieldLink RX14 35 "TransversaryModel" "thrown" "I") (by decide +kernel)) (fun _ h9 => h9) rfl (by decide +kernel) rfl rfl (Nat.le_of_ble_eq_true rfl) dX14_ground_2 (fun H locs hP hD hS => ?_)
  have hP : va_P (dC, dI) rfCl [(h0, .inr (14, [.int 0, .int pn, wt, .int dd, .ref li, sc, lo, hi, sm])), (li, .inr (13, [.int mc, .ref ed, .int 0]))] H := hP
  have hD : va_D A [(h0, .inr (14, [.int 0, .int pn, wt, .int dd, .ref li, sc, lo, hi, sm])), (li, .inr (13, [.int mc, .ref ed, .int 0]))] := hD
  refine lv_iload_n hx hb dX14_ground_5 rfl (lv_at hl 1 rfl) ?_
  refine lv_iconst (v := 2) hx hb dX14_ground_6 (by decide) ?_
  refine lv_bipush (v := 7) hx hb dX14_ground_7 (by decide) ?_
  have hPc := hP.sub (ws' := []) [] rfl
  have hDc := hD.sub (ws' := []) [] (by decide) rfl
  refine W.callR (W.runS (As := [.int 7, .int 2, .int 7]) (rest := []) ⟨hx, hb, hml, hown, hts⟩ (c_X14_is l dC dI aC H.size 7 2 7 (by decide) (by decide)) (va_cwS 3 hts gX14_ground_X14_is rfl rfl rfl (by decide +kernel) ⟨Nat.le_of_ble_eq_true rfl, Nat.le_of_ble_eq_true rfl⟩) (rf_ps hK hN hPc hDc) rfl rfl hl.1 rfl (lv_room (Nat.le_of_ble_eq_true rfl)) dX14_ground_9 ⟨Nat.le_of_ble_eq_true rfl, Nat.le_of_ble_eq_true rfl⟩) ?_
  refine W.eq (g2 := F0 m 12 ls [.int 1]) rfl ?_
  refine lv_if_ne (tgt := 21) hx hb dX14_ground_12 (by decide) (fun _ => ?_) (fun c9 => absurd c9 (by decide))
  refine lv_aload_n hx hb dX14_ground_21 rfl (lv_at hl 0 rfl) ?_
  refine lv_iload_n hx hb dX14_ground_22 rfl (lv_at hl 1 rfl) ?_
  refine va_put (D := (dC, dI)) (ci := 14) (v := .int 7) (ty := .int) (C := RX14) (T := TX14) (N := 9) hx hb hts (by decide +kernel) tyX14 tyX14_ok nmX14 hown hK hP hD hS 0 rfl rfl 1 (by decide) (hts (.fieldLink RX14 7 "TransversaryModel" "points" "I") (by decide +kernel)) (fun _ h9 => h9) rfl (by decide +kernel) rfl rfl (Nat.le_of_ble_eq_true rfl) dX14_ground_23 (fun H locs hP hD hS => ?_)
  have hP : va_P (dC, dI) rfCl [(h0, .inr (14, [.int 0, .int 7, wt, .int dd, .ref li, sc, lo, hi, sm])), (li, .inr (13, [.int mc, .ref ed, .int 0]))] H := hP
  have hD : va_D A [(h0, .inr (14, [.int 0, .int 7, wt, .int dd, .ref li, sc, lo, hi, sm])), (li, .inr (13, [.int mc, .ref ed, .int 0]))] := hD
  refine lv_aload_n hx hb dX14_ground_26 rfl (lv_at hl 0 rfl) ?_
  refine lv_iload_n hx hb dX14_ground_27 rfl (lv_at hl 1 rfl) ?_
  refine va_newa (atype := .int) (ty := .int) (a0 := (7, .inl (fun _ => 0))) hx hb (hts (.arrayClass .int) (by decide +kernel)) rfl hK hP hD hS hA (fun _ => rfl) (by decide) (by decide) (by decide) (Nat.le_of_ble_eq_true rfl) (Nat.le_of_ble_eq_true rfl) dX14_ground_28 (fun q1 cA9 H hK hP hD hS => ?_)
  obtain rfl : cA9 = aC 1 := rf_sameA hK 6 1 rfl rfl
  have hK := hK.sub (tys' := rfT aC) [0, 1, 2, 3, 4, 5] rfl
  have hP : va_P (dC, dI) rfCl [(h0, .inr (14, [.int 0, .int 7, wt, .int dd, .ref li, sc, lo, hi, sm])), (li, .inr (13, [.int mc, .ref ed, .int 0])), (q1, .inl (aC 1, 7, .inl (fun _ => 0)))] H := hP
  have hD : va_D A [(h0, .inr (14, [.int 0, .int 7, wt, .int dd, .ref li, sc, lo, hi, sm])), (li, .inr (13, [.int mc, .ref ed, .int 0])), (q1, .inl (aC 1, 7, .inl (fun _ => 0)))] := hD
  refine W.widen (k := 1) (n := 7) (Nat.le_of_ble_eq_true rfl) (Nat.le_of_ble_eq_true rfl) ?_
  refine va_put (D := (dC, dI)) (ci := 14) (v := .ref q1) (ty := (.array .int)) (C := RX14) (T := TX14) (N := 9) hx hb hts (by decide +kernel) tyX14 tyX14_ok nmX14 hown hK hP hD hS 0 rfl rfl 2 (by decide) (hts (.fieldLink RX14 13 "TransversaryModel" "weights" "[I") (by decide +kernel)) (fun _ h9 => h9) rfl (by decide +kernel) rfl rfl (Nat.le_of_ble_eq_true rfl) dX14_ground_30 (fun H locs hP hD hS => ?_)
  have hP : va_P (dC, dI) rfCl [(h0, .inr (14, [.int 0, .int 7, .ref q1, .int dd, .ref li, sc, lo, hi, sm])), (li, .inr (13, [.int mc, .ref ed, .int 0])), (q1, .inl (aC 1, 7, .inl (fun _ => 0)))] H := hP
  have hD : va_D A [(h0, .inr (14, [.int 0, .int 7, .ref q1, .int dd, .ref li, sc, lo, hi, sm])), (li, .inr (13, [.int mc, .ref ed, .int 0])), (q1, .inl (aC 1, 7, .inl (fun _ => 0)))] := hD
  refine lv_iconst (v := 0) hx hb dX14_ground_33 (by decide) ?_
  refine lv_istore_n (lv' := [(2, .int 0), (0, .ref h0), (1, .int 7)]) hx hb dX14_ground_34 rfl hl (by decide) rfl (fun ls hl => ?_)
  have loop : ∀ (n i : Nat) (x_loop : Int32) (wf : Nat → Int32), i ≤ 7 → 8 ≤ i + n → x_loop = nI i → ∀ (H : Heap) (locs : List Loc), va_P (dC, dI) rfCl [(h0, .inr (14, [.int 0, .int 7, .ref q1, .int dd, .ref li, sc, lo, hi, sm])), (li, .inr (13, [.int mc, .ref ed, .int 0])), (q1, .inl (aC 1, 7, .inl wf))] H → va_D A [(h0, .inr (14, [.int 0, .int 7, .ref q1, .int dd, .ref li, sc, lo, hi, sm])), (li, .inr (13, [.int mc, .ref ed, .int 0])), (q1, .inl (aC 1, 7, .inl wf))] → va_S A s.heap H locs → ∀ ls : Array Slot, lv_has ls 3 [(2, .int x_loop), (0, .ref h0), (1, .int 7)] → W p l e (headSpec wsX14_ground ({ frames := 3, cells := 1, slots := 7, locals := 80 } : Room)).room s m ([.ref h0, .int 7] : List Value).toArray below meth c H locs 1 7 (MQ below (va_Qi (fun (r : Int32) (u : Nat × Int32) => r = 128) (fun (u : Nat × Int32) t => va_P (dC, dI) rfCl [(h0, .inr (14, [.int 0, .int 7, .ref (u.1), .int 0, .ref li, sc, lo, hi, sm])), (li, .inr (13, [.int (u.2), .ref ed, .int 0]))] t.heap ∧ va_D A [(h0, .inr (14, [.int 0, .int 7, .ref (u.1), .int 0, .ref li, sc, lo, hi, sm])), (li, .inr (13, [.int (u.2), .ref ed, .int 0]))]) A) ([.ref h0, .int 7] : List Value).toArray s 1 7 A) (F0 m 35 ls []) := by
    intro n
    induction n with
    | zero =>
      intro i x_loop wf h1 h2
      exact absurd h2 (by omega)
    | succ n ih =>
      intro i x_loop wf hi9 hn ex H locs hP hD hS ls hl
      refine lv_iload_n hx hb dX14_ground_35 rfl (lv_at hl 0 rfl) ?_
      refine lv_iload_n hx hb dX14_ground_36 rfl (lv_at hl 2 rfl) ?_
      by_cases hlt : i < 7
      · have hbr : ¬ (7 : Int32) ≤ x_loop := by rw [ex]; exact nI_ge hlt (by decide)
        refine lv_icmp_ge (tgt := 53) hx hb dX14_ground_37 (by decide) (fun c9 => absurd c9 hbr) (fun _ => ?_)
        have h_in : vp_in x_loop 7 := by rw [ex]; exact vp_in_nI hlt (by decide)
        refine lv_aload_n hx hb dX14_ground_40 rfl (lv_at hl 1 rfl) ?_
        refine va_get (D := (dC, dI)) (ci := 14) (v := .ref q1) (C := RX14) (T := TX14) (N := 9) hx hb hts (by decide +kernel) hown hK hP 0 rfl rfl 2 (by decide) (hts (.fieldLink RX14 13 "TransversaryModel" "weights" "[I") (by decide +kernel)) (fun _ h9 => h9) rfl dX14_ground_41 ?_
        refine lv_iload_n hx hb dX14_ground_44 rfl (lv_at hl 0 rfl) ?_
        refine lv_iconst (v := 1) hx hb dX14_ground_45 (by decide) ?_
        refine va_iast hx hb hK hP hD hS 2 1 rfl rfl h_in dX14_ground_46 (fun H locs hP hD hS => ?_)
        have hP : va_P (dC, dI) rfCl [(h0, .inr (14, [.int 0, .int 7, .ref q1, .int dd, .ref li, sc, lo, hi, sm])), (li, .inr (13, [.int mc, .ref ed, .int 0])), (q1, .inl (aC 1, 7, .inl (upd wf (x_loop : Int32).toNatClampNeg 1)))] H := hP
        have hD : va_D A [(h0, .inr (14, [.int 0, .int 7, .ref q1, .int dd, .ref li, sc, lo, hi, sm])), (li, .inr (13, [.int mc, .ref ed, .int 0])), (q1, .inl (aC 1, 7, .inl (upd wf (x_loop : Int32).toNatClampNeg 1)))] := hD
        generalize (upd wf (x_loop : Int32).toNatClampNeg 1) = f2 at hP hD
        have hP : va_P (dC, dI) rfCl [(h0, .inr (14, [.int 0, .int 7, .ref q1, .int dd, .ref li, sc, lo, hi, sm])), (li, .inr (13, [.int mc, .ref ed, .int 0])), (q1, .inl (aC 1, 7, .inl f2))] H := hP
        have hD : va_D A [(h0, .inr (14, [.int 0, .int 7, .ref q1, .int dd, .ref li, sc, lo, hi, sm])), (li, .inr (13, [.int mc, .ref ed, .int 0])), (q1, .inl (aC 1, 7, .inl f2))] := hD
        obtain ⟨x_loop2, ex_loop2⟩ : ∃ y : Int32, y = x_loop + (1) := ⟨_, rfl⟩
        refine lv_iinc (v := x_loop2) (lv' := [(2, .int x_loop2), (0, .ref h0), (1, .int 7)]) hx hb dX14_ground_47 hl (k := 0) rfl (by rw [ex_loop2]; rfl) (by decide) rfl (fun ls hl => ?_)
        refine lv_goto (tgt := 35) hx hb dX14_ground_50 (by decide) ?_
        exact ih (i + 1) x_loop2 f2 (by omega) (by omega) (by rw [ex_loop2, ex]; exact nI_1 i) H locs hP hD hS ls (lv_sub hl [0, 1, 2] rfl)
      · have hbr : (7 : Int32) ≤ x_loop := by rw [ex, show i = 7 by omega]; decide
        refine lv_icmp_ge (tgt := 53) hx hb dX14_ground_37 (by decide) (fun _ => ?_) (fun c9 => absurd hbr c9)
        refine lv_aload_n hx hb dX14_ground_53 rfl (lv_at hl 1 rfl) ?_
        refine lv_iconst (v := 0) hx hb dX14_ground_54 (by decide) ?_
        refine va_put (D := (dC, dI)) (ci := 14) (v := .int 0) (ty := .int) (C := RX14) (T := TX14) (N := 9) hx hb hts (by decide +kernel) tyX14 tyX14_ok nmX14 hown hK hP hD hS 0 rfl rfl 3 (by decide) (hts (.fieldLink RX14 49 "TransversaryModel" "dead" "I") (by decide +kernel)) (fun _ h9 => h9) rfl (by decide +kernel) rfl rfl (Nat.le_of_ble_eq_true rfl) dX14_ground_55 (fun H locs hP hD hS => ?_)
        have hP : va_P (dC, dI) rfCl [(h0, .inr (14, [.int 0, .int 7, .ref q1, .int 0, .ref li, sc, lo, hi, sm])), (li, .inr (13, [.int mc, .ref ed, .int 0])), (q1, .inl (aC 1, 7, .inl wf))] H := hP
        have hD : va_D A [(h0, .inr (14, [.int 0, .int 7, .ref q1, .int 0, .ref li, sc, lo, hi, sm])), (li, .inr (13, [.int mc, .ref ed, .int 0])), (q1, .inl (aC 1, 7, .inl wf))] := hD
        refine lv_aload_n hx hb dX14_ground_58 rfl (lv_at hl 1 rfl) ?_
        refine va_get (D := (dC, dI)) (ci := 14) (v := .ref li) (C := RX14) (T := TX14) (N := 9) hx hb hts (by decide +kernel) hown hK hP 0 rfl rfl 4 (by decide) (hts (.fieldLink RX14 20 "TransversaryModel" "families" "Ljava/util/ArrayList;") (by decide +kernel)) (fun _ h9 => h9) rfl dX14_ground_59 ?_
        have hPc := hP.sub (ws' := [(li, .inr (13, [.int mc, .ref ed, .int 0]))]) [1] rfl
        have hDc := hD.sub (ws' := [(li, .inr (13, [.int mc, .ref ed, .int 0]))]) [1] (by decide) rfl
        have hFc := va_free (wc := [(li, .inr (13, [.int mc, .ref ed, .int 0]))]) hD hS hA [1] rfl
        refine va_callv (va_runV (As := []) (rest := []) ⟨hx, hb, hml, hown, hts⟩ (c_Jx4a65c_clear_da8c8 l dC dI aC H.size li mc ed) (cwV 0 hts gX14_ground_Jx4a65c_clear_da8c8 rfl rfl rfl (by decide +kernel) ⟨Nat.le_of_ble_eq_true rfl, Nat.le_of_ble_eq_true rfl⟩) (rf_pv hK hN hPc hDc (va_recv hK hP (ci := 13) (q0 := 1) rfl rfl)) rfl rfl hl.1 rfl (lv_room (Nat.le_of_ble_eq_true rfl)) dX14_ground_62 ⟨Nat.le_of_ble_eq_true rfl, Nat.le_of_ble_eq_true rfl⟩) hS (fun q _ h => hFc q h) hFc (fun u2 t H1 locs ht hvm hwu2 hB hz1 hk1 hS => ?_)
        obtain ⟨hP1, hD1⟩ := hB
        rw [ht] at hP1
        try dsimp only at hwu2 hP1 hD1
        obtain ⟨hP, hD⟩ := va_join (wr := [(h0, .inr (14, [.int 0, .int 7, .ref q1, .int 0, .ref li, sc, lo, hi, sm])), (q1, .inl (aC 1, 7, .inl wf))]) (w1 := [(li, .inr (13, [.int u2, .ref ed, .int 0]))]) hP hD [1] [0, 2] rfl rfl (by decide) (by decide) hk1 hFc hP1 hD1
        clear hP1 hD1 hPc hDc hFc
        generalize H1 = H at hP hS ⊢
        have hP : va_P (dC, dI) rfCl [(h0, .inr (14, [.int 0, .int 7, .ref q1, .int 0, .ref li, sc, lo, hi, sm])), (q1, .inl (aC 1, 7, .inl wf)), (li, .inr (13, [.int u2, .ref ed, .int 0]))] H := hP
        have hD : va_D A [(h0, .inr (14, [.int 0, .int 7, .ref q1, .int 0, .ref li, sc, lo, hi, sm])), (q1, .inl (aC 1, 7, .inl wf)), (li, .inr (13, [.int u2, .ref ed, .int 0]))] := hD
        refine W.widen (k := 1) (n := 7) (Nat.le_of_ble_eq_true rfl) (Nat.le_of_ble_eq_true rfl) ?_
        refine lv_aload_n hx hb dX14_ground_65 rfl (lv_at hl 1 rfl) ?_
        have hPc := hP.sub (ws' := [(h0, .inr (14, [.int 0, .int 7, .ref q1, .int 0, .ref li, sc, lo, hi, sm]))]) [0] rfl
        have hDc := hD.sub (ws' := [(h0, .inr (14, [.int 0, .int 7, .ref q1, .int 0, .ref li, sc, lo, hi, sm]))]) [0] (by decide) rfl
        refine W.callR (W.runV (As := []) (rest := []) ⟨hx, hb, hml, hown, hts⟩ (c_X14_all l dC dI aC H.size h0 0 7 0 li (.ref q1) sc lo hi sm 128 (by decide)) (cwV 0 hts gX14_ground_X14_all rfl rfl rfl (by decide +kernel) ⟨Nat.le_of_ble_eq_true rfl, Nat.le_of_ble_eq_true rfl⟩) (rf_pv hK hN hPc hDc (va_recv hK hP (ci := 14) (q0 := 0) rfl rfl)) rfl rfl hl.1 rfl (lv_room (Nat.le_of_ble_eq_true rfl)) dX14_ground_66 ⟨Nat.le_of_ble_eq_true rfl, Nat.le_of_ble_eq_true rfl⟩) ?_
        refine W.eq (g2 := F0 m 69 ls [.int 128]) rfl ?_
        have hP9 := hP.sub (ws' := [(h0, .inr (14, [.int 0, .int 7, .ref q1, .int 0, .ref li, sc, lo, hi, sm])), (li, .inr (13, [.int u2, .ref ed, .int 0]))]) [0, 2] rfl
        have hD9 := hD.sub (ws' := [(h0, .inr (14, [.int 0, .int 7, .ref q1, .int 0, .ref li, sc, lo, hi, sm])), (li, .inr (13, [.int u2, .ref ed, .int 0]))]) [0, 2] (by decide) rfl
        refine W.widen (k := 1) (n := 7) (Nat.le_of_ble_eq_true rfl) (Nat.le_of_ble_eq_true rfl) ?_
        exact W.iret (v := 128) hx hb hr (fun t ht hW => ⟨⟨128, (q1, u2), rfl, rfl, by rw [ht]; exact hP9, hD9⟩, hS.F ht⟩) hS.2.2 dX14_ground_69
  exact loop 8 0 0 (fun _ => 0) (by decide) (by decide) rfl H _ hP hD hS ls (lv_sub hl [0, 1, 2] rfl)

set_option maxHeartbeats 4000000 in
set_option maxRecDepth 100000 in
theorem c_X14_empty (l : Launch) (dC : Nat → ClassId) (dI : Nat → Nat → Nat) (aC : Nat → ClassId) (sz : Nat) (h0 : Nat) (th dd : Int32) (li : Nat) (wt sc lo hi sm : Value)  : Met l yX14_empty wsX14_empty ({ frames := 2, cells := 1, slots := 128, locals := 40 } : Room) (rf_Pc (dC, dI) aC [.ref h0] [(h0, .inr (14, [.int th, .int 7, wt, .int dd, .ref li, sc, lo, hi, sm]))] sz) (va_Qr (fun (u : Nat) => True) (fun (u : Nat) (ra : Nat) t => ra = u ∧ va_P (dC, dI) rfCl [(h0, .inr (14, [.int th, .int 7, wt, .int dd, .ref li, sc, lo, hi, sm])), (u, .inl (aC 0, 128, .inl (fun _ => 0)))] t.heap ∧ va_D (va_A [(h0, .inr (14, [.int th, .int 7, wt, .int dd, .ref li, sc, lo, hi, sm]))] sz) [(h0, .inr (14, [.int th, .int 7, wt, .int dd, .ref li, sc, lo, hi, sm])), (u, .inl (aC 0, 128, .inl (fun _ => 0)))]) (va_A [(h0, .inr (14, [.int th, .int 7, wt, .int dd, .ref li, sc, lo, hi, sm]))] sz)) 1 128 (va_A [(h0, .inr (14, [.int th, .int 7, wt, .int dd, .ref li, sc, lo, hi, sm]))] sz) := by
  refine Met.ofW (cc := cX14_empty) (maxL := 1) (ret := (some (.array .boolean))) (by decide) rfl ?_
  intro p e s m args below meth c s₁ B hml hv
  obtain ⟨rfl, hsz, hP, hKN, hD0⟩ := hv
  obtain ⟨hK, hN⟩ := hKN
  have hx := B.exec
  have hb := B.bytes
  have hr := B.returns
  have hts := atoms_spec (ws := wsX14_empty) B.pre
  have hown : s.vm.findClass RX14 = some m.cls := findClass_of_methodNamed B.named
  have hlocks := B.notSynchronized
  subst hsz
  have hD := hD0.self (sz := s.heap.size)
  generalize hAe : va_A [(h0, .inr (14, [.int th, .int 7, wt, .int dd, .ref li, sc, lo, hi, sm]))] s.heap.size = A at hD ⊢
  have hA : ∀ q : Nat, s.heap.size ≤ q → A q := fun q h => by rw [← hAe]; exact Or.inr h
  have hS : va_S A s.heap s.heap [] := va_S.rf
  have hP : va_P (dC, dI) rfCl [(h0, .inr (14, [.int th, .int 7, wt, .int dd, .ref li, sc, lo, hi, sm]))] s.heap := hP
  have hl := lv_entry ([.ref h0]) (n := 1) (Nat.le_of_ble_eq_true rfl)
  rw [lg_entry_eq]
  generalize (lg_sl ([.ref h0]) ++ List.replicate (1 - (lg_sl ([.ref h0])).length) Slot.unset).toArray = ls at hl ⊢
  have hl : lv_has ls 1 [(0, .ref h0)] := hl
  refine lv_aload_n hx hb dX14_empty_0 rfl (lv_at hl 0 rfl) ?_
  have hPc := hP.sub (ws' := [(h0, .inr (14, [.int th, .int 7, wt, .int dd, .ref li, sc, lo, hi, sm]))]) [0] rfl
  have hDc := hD.sub (ws' := [(h0, .inr (14, [.int th, .int 7, wt, .int dd, .ref li, sc, lo, hi, sm]))]) [0] (by decide) rfl
  refine W.callR (W.runV (As := []) (rest := []) ⟨hx, hb, hml, hown, hts⟩ (c_X14_all l dC dI aC s.heap.size h0 th 7 dd li wt sc lo hi sm 128 (by decide)) (cwV 0 hts gX14_empty_X14_all rfl rfl rfl (by decide +kernel) ⟨Nat.le_of_ble_eq_true rfl, Nat.le_of_ble_eq_true rfl⟩) (rf_pv hK hN hPc hDc (va_recv hK hP (ci := 14) (q0 := 0) rfl rfl)) rfl rfl hl.1 rfl (lv_room (Nat.le_of_ble_eq_true rfl)) dX14_empty_1 ⟨Nat.le_of_ble_eq_true rfl, Nat.le_of_ble_eq_true rfl⟩) ?_
  refine W.eq (g2 := F0 m 4 ls [.int 128]) rfl ?_
  refine va_newa (atype := .boolean) (ty := .boolean) (a0 := (128, .inl (fun _ => 0))) hx hb (hts (.arrayClass .boolean) (by decide +kernel)) rfl hK hP hD hS hA (fun _ => rfl) (by decide) (by decide) (by decide) (Nat.le_of_ble_eq_true rfl) (Nat.le_of_ble_eq_true rfl) dX14_empty_4 (fun q1 cA9 H hK hP hD hS => ?_)
  obtain rfl : cA9 = aC 0 := rf_sameA hK 6 0 rfl rfl
  have hK := hK.sub (tys' := rfT aC) [0, 1, 2, 3, 4, 5] rfl
  have hP : va_P (dC, dI) rfCl [(h0, .inr (14, [.int th, .int 7, wt, .int dd, .ref li, sc, lo, hi, sm])), (q1, .inl (aC 0, 128, .inl (fun _ => 0)))] H := hP
  have hD : va_D A [(h0, .inr (14, [.int th, .int 7, wt, .int dd, .ref li, sc, lo, hi, sm])), (q1, .inl (aC 0, 128, .inl (fun _ => 0)))] := hD
  refine W.widen (k := 1) (n := 128) (Nat.le_of_ble_eq_true rfl) (Nat.le_of_ble_eq_true rfl) ?_
  have hP9 := hP.sub (ws' := [(h0, .inr (14, [.int th, .int 7, wt, .int dd, .ref li, sc, lo, hi, sm])), (q1, .inl (aC 0, 128, .inl (fun _ => 0)))]) [0, 1] rfl
  have hD9 := hD.sub (ws' := [(h0, .inr (14, [.int th, .int 7, wt, .int dd, .ref li, sc, lo, hi, sm])), (q1, .inl (aC 0, 128, .inl (fun _ => 0)))]) [0, 1] (by decide) rfl
  refine W.widen (k := 1) (n := 128) (Nat.le_of_ble_eq_true rfl) (Nat.le_of_ble_eq_true rfl) ?_
  exact W.aret (v := .ref q1) hx hb hr (Or.inr ⟨_, rfl⟩) (Or.inr ⟨_, rfl⟩) (fun t ht hW => ⟨⟨q1, q1, rfl, trivial, rfl, by rw [ht]; exact hP9, hD9⟩, hS.F ht⟩) hS.2.2 dX14_empty_6

set_option maxHeartbeats 4000000 in
set_option maxRecDepth 100000 in
theorem c_X14_family (l : Launch) (dC : Nat → ClassId) (dI : Nat → Nat → Nat) (aC : Nat → ClassId) (sz : Nat) (ev h0 : Nat) (th dd : Int32) (li : Nat) (wt sc lo hi sm : Value) (mc : Int32) (ef : Nat → Option Nat)  : Met l yX14_family wsX14_family ({ frames := 6, cells := 2, slots := 138, locals := 200 } : Room) (rf_PcZ (dC, dI) aC [.ref h0] [(h0, .inr (14, [.int th, .int 7, wt, .int dd, .ref li, sc, lo, hi, sm])), (li, .inr (13, [.int mc, .ref ev, .int 0])), (ev, .inl (aC 5, 0, .inr (.inr (.inr (.inr ef)))))] sz ev) (va_Qi (fun (r : Int32) (u : Int32 × Nat × (Nat → Option Nat) × Nat) => u.2.2.1 0 = some u.2.2.2) (fun (u : Int32 × Nat × (Nat → Option Nat) × Nat) t => va_P (dC, dI) rfCl [(h0, .inr (14, [.int 0, .int 7, wt, .int dd, .ref li, sc, lo, hi, sm])), (li, .inr (13, [.int (u.1), .ref (u.2.1), .int 1])), (ev, .inl (aC 5, 0, .inr (.inr (.inr (.inr ef))))), ((u.2.1), .inl (aC 5, 10, .inr (.inr (.inr (.inr (u.2.2.1)))))), ((u.2.2.2), .inl (aC 0, 128, .inl (fun _ => 0)))] t.heap ∧ va_D (va_A [(h0, .inr (14, [.int th, .int 7, wt, .int dd, .ref li, sc, lo, hi, sm])), (li, .inr (13, [.int mc, .ref ev, .int 0])), (ev, .inl (aC 5, 0, .inr (.inr (.inr (.inr ef)))))] sz) [(h0, .inr (14, [.int 0, .int 7, wt, .int dd, .ref li, sc, lo, hi, sm])), (li, .inr (13, [.int (u.1), .ref (u.2.1), .int 1])), (ev, .inl (aC 5, 0, .inr (.inr (.inr (.inr ef))))), ((u.2.1), .inl (aC 5, 10, .inr (.inr (.inr (.inr (u.2.2.1)))))), ((u.2.2.2), .inl (aC 0, 128, .inl (fun _ => 0)))]) (va_A [(h0, .inr (14, [.int th, .int 7, wt, .int dd, .ref li, sc, lo, hi, sm])), (li, .inr (13, [.int mc, .ref ev, .int 0])), (ev, .inl (aC 5, 0, .inr (.inr (.inr (.inr ef)))))] sz)) 2 138 (va_A [(h0, .inr (14, [.int th, .int 7, wt, .int dd, .ref li, sc, lo, hi, sm])), (li, .inr (13, [.int mc, .ref ev, .int 0])), (ev, .inl (aC 5, 0, .inr (.inr (.inr (.inr ef)))))] sz) := by
  refine Met.ofW (cc := cX14_family) (maxL := 1) (ret := (some .int)) (by decide) rfl ?_
  intro p e s m args below meth c s₁ B hml hv
  obtain ⟨⟨rfl, hsz, hP, hKN, hD0⟩, hZ⟩ := hv
  obtain ⟨hK, hN⟩ := hKN
  have hx := B.exec
  have hb := B.bytes
  have hr := B.returns
  have hts := atoms_spec (ws := wsX14_family) B.pre
  have hown : s.vm.findClass RX14 = some m.cls := findClass_of_methodNamed B.named
  have hlocks := B.notSynchronized
  subst hsz
  have hD := hD0.self (sz := s.heap.size)
  generalize hAe : va_A [(h0, .inr (14, [.int th, .int 7, wt, .int dd, .ref li, sc, lo, hi, sm])), (li, .inr (13, [.int mc, .ref ev, .int 0])), (ev, .inl (aC 5, 0, .inr (.inr (.inr (.inr ef)))))] s.heap.size = A at hD hZ ⊢
  have hA : ∀ q : Nat, s.heap.size ≤ q → A q := fun q h => by rw [← hAe]; exact Or.inr h
  have hS : va_S A s.heap s.heap [] := va_S.rf
  have hP : va_P (dC, dI) rfCl [(h0, .inr (14, [.int th, .int 7, wt, .int dd, .ref li, sc, lo, hi, sm])), (li, .inr (13, [.int mc, .ref ev, .int 0])), (ev, .inl (aC 5, 0, .inr (.inr (.inr (.inr ef)))))] s.heap := hP
  have hl := lv_entry ([.ref h0]) (n := 1) (Nat.le_of_ble_eq_true rfl)
  rw [lg_entry_eq]
  generalize (lg_sl ([.ref h0]) ++ List.replicate (1 - (lg_sl ([.ref h0])).length) Slot.unset).toArray = ls at hl ⊢
  have hl : lv_has ls 1 [(0, .ref h0)] := hl
  refine lv_aload_n hx hb dX14_family_0 rfl (lv_at hl 0 rfl) ?_
  refine lv_iconst (v := 0) hx hb dX14_family_1 (by decide) ?_
  refine va_put (D := (dC, dI)) (ci := 14) (v := .int 0) (ty := .int) (C := RX14) (T := TX14) (N := 9) hx hb hts (by decide +kernel) tyX14 tyX14_ok nmX14 hown hK hP hD hS 0 rfl rfl 0 (by decide) (hts (.fieldLink RX14 35 "TransversaryModel" "thrown" "I") (by decide +kernel)) (fun _ h9 => h9) rfl (by decide +kernel) rfl rfl (Nat.le_of_ble_eq_true rfl) dX14_family_2 (fun H locs hP hD hS => ?_)
  have hP : va_P (dC, dI) rfCl [(h0, .inr (14, [.int 0, .int 7, wt, .int dd, .ref li, sc, lo, hi, sm])), (li, .inr (13, [.int mc, .ref ev, .int 0])), (ev, .inl (aC 5, 0, .inr (.inr (.inr (.inr ef)))))] H := hP
  have hD : va_D A [(h0, .inr (14, [.int 0, .int 7, wt, .int dd, .ref li, sc, lo, hi, sm])), (li, .inr (13, [.int mc, .ref ev, .int 0])), (ev, .inl (aC 5, 0, .inr (.inr (.inr (.inr ef)))))] := hD
  refine lv_aload_n hx hb dX14_family_5 rfl (lv_at hl 0 rfl) ?_
  refine va_get (D := (dC, dI)) (ci := 14) (v := .ref li) (C := RX14) (T := TX14) (N := 9) hx hb hts (by decide +kernel) hown hK hP 0 rfl rfl 4 (by decide) (hts (.fieldLink RX14 20 "TransversaryModel" "families" "Ljava/util/ArrayList;") (by decide +kernel)) (fun _ h9 => h9) rfl dX14_family_6 ?_
  have hPc := hP.sub (ws' := [(li, .inr (13, [.int mc, .ref ev, .int 0]))]) [1] rfl
  have hDc := hD.sub (ws' := [(li, .inr (13, [.int mc, .ref ev, .int 0]))]) [1] (by decide) rfl
  refine W.callR (W.runV (As := []) (rest := []) ⟨hx, hb, hml, hown, hts⟩ (c_Jx4a65c_size_8abf5 l dC dI aC H.size li mc (.ref ev) 0) (cwV 0 hts gX14_family_Jx4a65c_size_8abf5 rfl rfl rfl (by decide +kernel) ⟨Nat.le_of_ble_eq_true rfl, Nat.le_of_ble_eq_true rfl⟩) (rf_pv hK hN hPc hDc (va_recv hK hP (ci := 13) (q0 := 1) rfl rfl)) rfl rfl hl.1 rfl (lv_room (Nat.le_of_ble_eq_true rfl)) dX14_family_9 ⟨Nat.le_of_ble_eq_true rfl, Nat.le_of_ble_eq_true rfl⟩) ?_
  refine W.eq (g2 := F0 m 12 ls [.int 0]) rfl ?_
  refine lv_iconst (v := 5) hx hb dX14_family_12 (by decide) ?_
  refine lv_icmp_ne (tgt := 22) hx hb dX14_family_13 (by decide) (fun _ => ?_) (fun c9 => absurd c9 (by decide))
  refine lv_aload_n hx hb dX14_family_22 rfl (lv_at hl 0 rfl) ?_
  refine va_get (D := (dC, dI)) (ci := 14) (v := .ref li) (C := RX14) (T := TX14) (N := 9) hx hb hts (by decide +kernel) hown hK hP 0 rfl rfl 4 (by decide) (hts (.fieldLink RX14 20 "TransversaryModel" "families" "Ljava/util/ArrayList;") (by decide +kernel)) (fun _ h9 => h9) rfl dX14_family_23 ?_
  refine lv_aload_n hx hb dX14_family_26 rfl (lv_at hl 0 rfl) ?_
  have hPc := hP.sub (ws' := [(h0, .inr (14, [.int 0, .int 7, wt, .int dd, .ref li, sc, lo, hi, sm]))]) [0] rfl
  have hDc := hD.sub (ws' := [(h0, .inr (14, [.int 0, .int 7, wt, .int dd, .ref li, sc, lo, hi, sm]))]) [0] (by decide) rfl
  have hFc := va_free (wc := [(h0, .inr (14, [.int 0, .int 7, wt, .int dd, .ref li, sc, lo, hi, sm]))]) hD hS hA [0] rfl
  refine va_callr (va_runV (As := []) (rest := [.ref li]) ⟨hx, hb, hml, hown, hts⟩ (c_X14_empty l dC dI aC H.size h0 0 dd li wt sc lo hi sm) (cwV 0 hts gX14_family_X14_empty rfl rfl rfl (by decide +kernel) ⟨Nat.le_of_ble_eq_true rfl, Nat.le_of_ble_eq_true rfl⟩) (rf_pv hK hN hPc hDc (va_recv hK hP (ci := 14) (q0 := 0) rfl rfl)) rfl rfl hl.1 rfl (lv_room (Nat.le_of_ble_eq_true rfl)) dX14_family_27 ⟨Nat.le_of_ble_eq_true rfl, Nat.le_of_ble_eq_true rfl⟩) hS (fun q _ h => hFc q h) hFc (fun u1 r2 t H1 locs ht hvm hwu1 hB hz1 hk1 hS => ?_)
  obtain ⟨hra, hP1, hD1⟩ := hB
  rw [ht] at hP1
  try dsimp only at hwu1 hP1 hD1
  obtain ⟨hP, hD⟩ := va_join (wr := [(li, .inr (13, [.int mc, .ref ev, .int 0])), (ev, .inl (aC 5, 0, .inr (.inr (.inr (.inr ef)))))]) (w1 := [(h0, .inr (14, [.int 0, .int 7, wt, .int dd, .ref li, sc, lo, hi, sm])), (u1, .inl (aC 0, 128, .inl (fun _ => 0)))]) hP hD [0] [1, 2] rfl rfl (by decide) (by decide) hk1 hFc hP1 hD1
  clear hP1 hD1 hPc hDc hFc
  generalize H1 = H at hP hS ⊢
  rw [hra]
  have hP : va_P (dC, dI) rfCl [(li, .inr (13, [.int mc, .ref ev, .int 0])), (ev, .inl (aC 5, 0, .inr (.inr (.inr (.inr ef))))), (h0, .inr (14, [.int 0, .int 7, wt, .int dd, .ref li, sc, lo, hi, sm])), (u1, .inl (aC 0, 128, .inl (fun _ => 0)))] H := hP
  have hD : va_D A [(li, .inr (13, [.int mc, .ref ev, .int 0])), (ev, .inl (aC 5, 0, .inr (.inr (.inr (.inr ef))))), (h0, .inr (14, [.int 0, .int 7, wt, .int dd, .ref li, sc, lo, hi, sm])), (u1, .inl (aC 0, 128, .inl (fun _ => 0)))] := hD
  refine W.widen (k := 1) (n := 128) (Nat.le_of_ble_eq_true rfl) (Nat.le_of_ble_eq_true rfl) ?_
  have hPc := hP.sub (ws' := [(li, .inr (13, [.int mc, .ref ev, .int 0])), (ev, .inl (aC 5, 0, .inr (.inr (.inr (.inr ef))))), (u1, .inl (aC 0, 128, .inl (fun _ => 0)))]) [0, 1, 3] rfl
  have hDc := hD.sub (ws' := [(li, .inr (13, [.int mc, .ref ev, .int 0])), (ev, .inl (aC 5, 0, .inr (.inr (.inr (.inr ef))))), (u1, .inl (aC 0, 128, .inl (fun _ => 0)))]) [0, 1, 3] (by decide) rfl
  have hFc := va_free (wc := [(li, .inr (13, [.int mc, .ref ev, .int 0])), (ev, .inl (aC 5, 0, .inr (.inr (.inr (.inr ef))))), (u1, .inl (aC 0, 128, .inl (fun _ => 0)))]) hD hS hA [0, 1, 3] rfl
  have hFc := va_free (wc := [(li, .inr (13, [.int mc, .ref ev, .int 0])), (ev, .inl (aC 5, 0, .inr (.inr (.inr (.inr ef))))), (u1, .inl (aC 0, 128, .inl (fun _ => 0)))]) hD hS hA [0, 1, 3] rfl
  refine va_calli (va_runV (As := [.ref u1]) (rest := []) ⟨hx, hb, hml, hown, hts⟩ (c_Jx4a65c_add_9ea2d l dC dI aC H.size ev li mc ef u1 (fun _ => 0)) (cwV 1 hts gX14_family_Jx4a65c_add_9ea2d rfl rfl rfl (by decide +kernel) ⟨Nat.le_of_ble_eq_true rfl, Nat.le_of_ble_eq_true rfl⟩) (rf_pvZ hK hN hPc hDc (va_recv hK hP (ci := 13) (q0 := 0) rfl rfl) hZ hS hFc) rfl rfl hl.1 rfl (lv_room (Nat.le_of_ble_eq_true rfl)) dX14_family_30 ⟨Nat.le_of_ble_eq_true rfl, Nat.le_of_ble_eq_true rfl⟩) hS (fun q _ h => hFc q h) hFc (fun r4 u3 t H1 locs ht hvm hwu3 hB hz1 hk1 hS => ?_)
  obtain ⟨hP1, hD1⟩ := hB
  rw [ht] at hP1
  try dsimp only at hwu3 hP1 hD1
  obtain ⟨hP, hD⟩ := va_join (wr := [(h0, .inr (14, [.int 0, .int 7, wt, .int dd, .ref li, sc, lo, hi, sm]))]) (w1 := [(li, .inr (13, [.int (u3.1), .ref (u3.2.1), .int 1])), (ev, .inl (aC 5, 0, .inr (.inr (.inr (.inr ef))))), (u1, .inl (aC 0, 128, .inl (fun _ => 0))), ((u3.2.1), .inl (aC 5, 10, .inr (.inr (.inr (.inr (u3.2.2))))))]) hP hD [0, 1, 3] [2] rfl rfl (by decide) (by decide) hk1 hFc hP1 hD1
  clear hP1 hD1 hPc hDc hFc
  generalize H1 = H at hP hS ⊢
  have hP : va_P (dC, dI) rfCl [(h0, .inr (14, [.int 0, .int 7, wt, .int dd, .ref li, sc, lo, hi, sm])), (li, .inr (13, [.int (u3.1), .ref (u3.2.1), .int 1])), (ev, .inl (aC 5, 0, .inr (.inr (.inr (.inr ef))))), (u1, .inl (aC 0, 128, .inl (fun _ => 0))), ((u3.2.1), .inl (aC 5, 10, .inr (.inr (.inr (.inr (u3.2.2))))))] H := hP
  have hD : va_D A [(h0, .inr (14, [.int 0, .int 7, wt, .int dd, .ref li, sc, lo, hi, sm])), (li, .inr (13, [.int (u3.1), .ref (u3.2.1), .int 1])), (ev, .inl (aC 5, 0, .inr (.inr (.inr (.inr ef))))), (u1, .inl (aC 0, 128, .inl (fun _ => 0))), ((u3.2.1), .inl (aC 5, 10, .inr (.inr (.inr (.inr (u3.2.2))))))] := hD
  refine W.widen (k := 2) (n := 138) (Nat.le_of_ble_eq_true rfl) (Nat.le_of_ble_eq_true rfl) ?_
  refine lv_pop hx hb dX14_family_33 rfl ?_
  refine lv_aload_n hx hb dX14_family_34 rfl (lv_at hl 0 rfl) ?_
  refine va_get (D := (dC, dI)) (ci := 14) (v := .ref li) (C := RX14) (T := TX14) (N := 9) hx hb hts (by decide +kernel) hown hK hP 0 rfl rfl 4 (by decide) (hts (.fieldLink RX14 20 "TransversaryModel" "families" "Ljava/util/ArrayList;") (by decide +kernel)) (fun _ h9 => h9) rfl dX14_family_35 ?_
  have hPc := hP.sub (ws' := [(li, .inr (13, [.int (u3.1), .ref (u3.2.1), .int 1]))]) [1] rfl
  have hDc := hD.sub (ws' := [(li, .inr (13, [.int (u3.1), .ref (u3.2.1), .int 1]))]) [1] (by decide) rfl
  refine W.callR (W.runV (As := []) (rest := []) ⟨hx, hb, hml, hown, hts⟩ (c_Jx4a65c_size_8abf5 l dC dI aC H.size li u3.1 (.ref u3.2.1) 1) (cwV 0 hts gX14_family_Jx4a65c_size_8abf5 rfl rfl rfl (by decide +kernel) ⟨Nat.le_of_ble_eq_true rfl, Nat.le_of_ble_eq_true rfl⟩) (rf_pv hK hN hPc hDc (va_recv hK hP (ci := 13) (q0 := 1) rfl rfl)) rfl rfl hl.1 rfl (lv_room (Nat.le_of_ble_eq_true rfl)) dX14_family_38 ⟨Nat.le_of_ble_eq_true rfl, Nat.le_of_ble_eq_true rfl⟩) ?_
  refine W.eq (g2 := F0 m 41 ls [.int 1]) rfl ?_
  refine lv_iconst (v := 1) hx hb dX14_family_41 (by decide) ?_
  refine lv_isub hx hb dX14_family_42 ?_
  refine lv_topi (fun t5 et5 => ?_)
  have hP9 := hP.sub (ws' := [(h0, .inr (14, [.int 0, .int 7, wt, .int dd, .ref li, sc, lo, hi, sm])), (li, .inr (13, [.int (u3.1), .ref (u3.2.1), .int 1])), (ev, .inl (aC 5, 0, .inr (.inr (.inr (.inr ef))))), ((u3.2.1), .inl (aC 5, 10, .inr (.inr (.inr (.inr (u3.2.2)))))), (u1, .inl (aC 0, 128, .inl (fun _ => 0)))]) [0, 1, 2, 4, 3] rfl
  have hD9 := hD.sub (ws' := [(h0, .inr (14, [.int 0, .int 7, wt, .int dd, .ref li, sc, lo, hi, sm])), (li, .inr (13, [.int (u3.1), .ref (u3.2.1), .int 1])), (ev, .inl (aC 5, 0, .inr (.inr (.inr (.inr ef))))), ((u3.2.1), .inl (aC 5, 10, .inr (.inr (.inr (.inr (u3.2.2)))))), (u1, .inl (aC 0, 128, .inl (fun _ => 0)))]) [0, 1, 2, 4, 3] (by decide) rfl
  refine W.widen (k := 2) (n := 138) (Nat.le_of_ble_eq_true rfl) (Nat.le_of_ble_eq_true rfl) ?_
  exact W.iret (v := t5) hx hb hr (fun t ht hW => ⟨⟨t5, (u3.1, u3.2.1, u3.2.2, u1), rfl, hwu3, by rw [ht]; exact hP9, hD9⟩, hS.F ht⟩) hS.2.2 dX14_family_43

set_option maxHeartbeats 4000000 in
set_option maxRecDepth 100000 in
theorem c_X14_isFamily (l : Launch) (dC : Nat → ClassId) (dI : Nat → Nat → Nat) (aC : Nat → ClassId) (sz : Nat) (h0 : Nat) (th pn dd : Int32) (li : Nat) (wt sc lo hi sm : Value) (mc : Int32) (ed : Nat)  : Met l yX14_isFamily wsX14_isFamily ({ frames := 2, cells := 0, slots := 0, locals := 40 } : Room) (rf_Pc (dC, dI) aC [.ref h0, .int 0] [(h0, .inr (14, [.int th, .int pn, wt, .int dd, .ref li, sc, lo, hi, sm])), (li, .inr (13, [.int mc, .ref ed, .int 1]))] sz) (QcRead 1) 0 0 (fun _ => False) := by
  refine Met.ofW (cc := cX14_isFamily) (maxL := 2) (ret := (some .boolean)) (by decide) rfl ?_
  intro p e s m args below meth c s₁ B hml hv
  obtain ⟨rfl, hsz, hP, hKN, hD0⟩ := hv
  obtain ⟨hK, hN⟩ := hKN
  have hx := B.exec
  have hb := B.bytes
  have hr := B.returns
  have hts := atoms_spec (ws := wsX14_isFamily) B.pre
  have hown : s.vm.findClass RX14 = some m.cls := findClass_of_methodNamed B.named
  have hlocks := B.notSynchronized
  subst hsz
  have hD := hD0.self (sz := s.heap.size)
  generalize hAe : va_A [(h0, .inr (14, [.int th, .int pn, wt, .int dd, .ref li, sc, lo, hi, sm])), (li, .inr (13, [.int mc, .ref ed, .int 1]))] s.heap.size = A at hD
  have hA : ∀ q : Nat, s.heap.size ≤ q → A q := fun q h => by rw [← hAe]; exact Or.inr h
  have hS : va_S A s.heap s.heap [] := va_S.rf
  have hP : va_P (dC, dI) rfCl [(h0, .inr (14, [.int th, .int pn, wt, .int dd, .ref li, sc, lo, hi, sm])), (li, .inr (13, [.int mc, .ref ed, .int 1]))] s.heap := hP
  have hl := lv_entry ([.ref h0, .int 0]) (n := 2) (Nat.le_of_ble_eq_true rfl)
  rw [lg_entry_eq]
  generalize (lg_sl ([.ref h0, .int 0]) ++ List.replicate (2 - (lg_sl ([.ref h0, .int 0])).length) Slot.unset).toArray = ls at hl ⊢
  have hl : lv_has ls 2 [(0, .ref h0), (1, .int 0)] := hl
  refine lv_iload_n hx hb dX14_isFamily_0 rfl (lv_at hl 1 rfl) ?_
  refine lv_iconst (v := 0) hx hb dX14_isFamily_1 (by decide) ?_
  refine lv_aload_n hx hb dX14_isFamily_2 rfl (lv_at hl 0 rfl) ?_
  refine va_get (D := (dC, dI)) (ci := 14) (v := .ref li) (C := RX14) (T := TX14) (N := 9) hx hb hts (by decide +kernel) hown hK hP 0 rfl rfl 4 (by decide) (hts (.fieldLink RX14 20 "TransversaryModel" "families" "Ljava/util/ArrayList;") (by decide +kernel)) (fun _ h9 => h9) rfl dX14_isFamily_3 ?_
  have hPc := hP.sub (ws' := [(li, .inr (13, [.int mc, .ref ed, .int 1]))]) [1] rfl
  have hDc := hD.sub (ws' := [(li, .inr (13, [.int mc, .ref ed, .int 1]))]) [1] (by decide) rfl
  refine W.callR (W.runV (As := []) (rest := [.int 0, .int 0]) ⟨hx, hb, hml, hown, hts⟩ (c_Jx4a65c_size_8abf5 l dC dI aC s.heap.size li mc (.ref ed) 1) (cwV 0 hts gX14_isFamily_Jx4a65c_size_8abf5 rfl rfl rfl (by decide +kernel) ⟨Nat.le_of_ble_eq_true rfl, Nat.le_of_ble_eq_true rfl⟩) (rf_pv hK hN hPc hDc (va_recv hK hP (ci := 13) (q0 := 1) rfl rfl)) rfl rfl hl.1 rfl (lv_room (Nat.le_of_ble_eq_true rfl)) dX14_isFamily_6 ⟨Nat.le_of_ble_eq_true rfl, Nat.le_of_ble_eq_true rfl⟩) ?_
  refine W.eq (g2 := F0 m 9 ls [.int 1, .int 0, .int 0]) rfl ?_
  refine lv_iconst (v := 1) hx hb dX14_isFamily_9 (by decide) ?_
  refine lv_isub hx hb dX14_isFamily_10 ?_
  refine lv_topi (fun t1 et1 => ?_)
  have hl9 : t1 = 0 := by rw [et1]; decide
  subst hl9
  have hPc := hP.sub (ws' := []) [] rfl
  have hDc := hD.sub (ws' := []) [] (by decide) rfl
  refine W.callR (W.runS (As := [.int 0, .int 0, .int 0]) (rest := []) ⟨hx, hb, hml, hown, hts⟩ (c_X14_is l dC dI aC s.heap.size 0 0 0 (by decide) (by decide)) (va_cwS 3 hts gX14_isFamily_X14_is rfl rfl rfl (by decide +kernel) ⟨Nat.le_of_ble_eq_true rfl, Nat.le_of_ble_eq_true rfl⟩) (rf_ps hK hN hPc hDc) rfl rfl hl.1 rfl (lv_room (Nat.le_of_ble_eq_true rfl)) dX14_isFamily_11 ⟨Nat.le_of_ble_eq_true rfl, Nat.le_of_ble_eq_true rfl⟩) ?_
  refine W.eq (g2 := F0 m 14 ls [.int 1]) rfl ?_
  exact W.zret (v := 1) hx hb hr rfl (fun t ht hW => ⟨rfl, ht⟩) (fun q h => nomatch h) dX14_isFamily_14

theorem rf_idx : ∀ i, i < 128 → (nI i) &&& ((127 : Int32) ^^^ (-1)) = 0 := by decide +kernel

set_option maxHeartbeats 4000000 in
set_option maxRecDepth 100000 in
theorem c_X14_parts (l : Launch) (dC : Nat → ClassId) (dI : Nat → Nat → Nat) (aC : Nat → ClassId) (sz : Nat) (h0 : Nat) (th : Int32) (li : Nat) (wt sc lo hi sm : Value) (mc : Int32) (ed : Nat) (df : Nat → Option Nat) (ow : Nat) (of : Nat → Int32) (hf : df 0 = some ow) : Met l yX14_parts wsX14_parts ({ frames := 4, cells := 1, slots := 128, locals := 120 } : Room) (rf_Pc (dC, dI) aC [.ref h0, .int 0] [(h0, .inr (14, [.int th, .int 7, wt, .int 127, .ref li, sc, lo, hi, sm])), (li, .inr (13, [.int mc, .ref ed, .int 1])), (ed, .inl (aC 5, 10, .inr (.inr (.inr (.inr df))))), (ow, .inl (aC 0, 128, .inl of))] sz) (va_Qr (fun (u : Nat × (Nat → Int32)) => True) (fun (u : Nat × (Nat → Int32)) (ra : Nat) t => ra = u.1 ∧ va_P (dC, dI) rfCl [(h0, .inr (14, [.int th, .int 7, wt, .int 127, .ref li, sc, lo, hi, sm])), (li, .inr (13, [.int mc, .ref ed, .int 1])), (ed, .inl (aC 5, 10, .inr (.inr (.inr (.inr df))))), (ow, .inl (aC 0, 128, .inl of)), ((u.1), .inl (aC 0, 128, .inl (u.2)))] t.heap ∧ va_D (va_A [(h0, .inr (14, [.int th, .int 7, wt, .int 127, .ref li, sc, lo, hi, sm])), (li, .inr (13, [.int mc, .ref ed, .int 1])), (ed, .inl (aC 5, 10, .inr (.inr (.inr (.inr df))))), (ow, .inl (aC 0, 128, .inl of))] sz) [(h0, .inr (14, [.int th, .int 7, wt, .int 127, .ref li, sc, lo, hi, sm])), (li, .inr (13, [.int mc, .ref ed, .int 1])), (ed, .inl (aC 5, 10, .inr (.inr (.inr (.inr df))))), (ow, .inl (aC 0, 128, .inl of)), ((u.1), .inl (aC 0, 128, .inl (u.2)))]) (va_A [(h0, .inr (14, [.int th, .int 7, wt, .int 127, .ref li, sc, lo, hi, sm])), (li, .inr (13, [.int mc, .ref ed, .int 1])), (ed, .inl (aC 5, 10, .inr (.inr (.inr (.inr df))))), (ow, .inl (aC 0, 128, .inl of))] sz)) 1 128 (va_A [(h0, .inr (14, [.int th, .int 7, wt, .int 127, .ref li, sc, lo, hi, sm])), (li, .inr (13, [.int mc, .ref ed, .int 1])), (ed, .inl (aC 5, 10, .inr (.inr (.inr (.inr df))))), (ow, .inl (aC 0, 128, .inl of))] sz) := by
  refine Met.ofW (cc := cX14_parts) (maxL := 5) (ret := (some (.array .boolean))) (by decide) rfl ?_
  intro p e s m args below meth c s₁ B hml hv
  obtain ⟨rfl, hsz, hP, hKN, hD0⟩ := hv
  obtain ⟨hK, hN⟩ := hKN
  have hx := B.exec
  have hb := B.bytes
  have hr := B.returns
  have hts := atoms_spec (ws := wsX14_parts) B.pre
  have hown : s.vm.findClass RX14 = some m.cls := findClass_of_methodNamed B.named
  have hlocks := B.notSynchronized
  subst hsz
  have hD := hD0.self (sz := s.heap.size)
  generalize hAe : va_A [(h0, .inr (14, [.int th, .int 7, wt, .int 127, .ref li, sc, lo, hi, sm])), (li, .inr (13, [.int mc, .ref ed, .int 1])), (ed, .inl (aC 5, 10, .inr (.inr (.inr (.inr df))))), (ow, .inl (aC 0, 128, .inl of))] s.heap.size = A at hD ⊢
  have hA : ∀ q : Nat, s.heap.size ≤ q → A q := fun q h => by rw [← hAe]; exact Or.inr h
  have hS : va_S A s.heap s.heap [] := va_S.rf
  have hP : va_P (dC, dI) rfCl [(h0, .inr (14, [.int th, .int 7, wt, .int 127, .ref li, sc, lo, hi, sm])), (li, .inr (13, [.int mc, .ref ed, .int 1])), (ed, .inl (aC 5, 10, .inr (.inr (.inr (.inr df))))), (ow, .inl (aC 0, 128, .inl of))] s.heap := hP
  have hl := lv_entry ([.ref h0, .int 0]) (n := 5) (Nat.le_of_ble_eq_true rfl)
  rw [lg_entry_eq]
  generalize (lg_sl ([.ref h0, .int 0]) ++ List.replicate (5 - (lg_sl ([.ref h0, .int 0])).length) Slot.unset).toArray = ls at hl ⊢
  have hl : lv_has ls 5 [(0, .ref h0), (1, .int 0)] := hl
  refine lv_aload_n hx hb dX14_parts_0 rfl (lv_at hl 0 rfl) ?_
  refine va_get (D := (dC, dI)) (ci := 14) (v := .ref li) (C := RX14) (T := TX14) (N := 9) hx hb hts (by decide +kernel) hown hK hP 0 rfl rfl 4 (by decide) (hts (.fieldLink RX14 20 "TransversaryModel" "families" "Ljava/util/ArrayList;") (by decide +kernel)) (fun _ h9 => h9) rfl dX14_parts_1 ?_
  refine lv_iload_n hx hb dX14_parts_4 rfl (lv_at hl 1 rfl) ?_
  have hPc := hP.sub (ws' := [(li, .inr (13, [.int mc, .ref ed, .int 1])), (ed, .inl (aC 5, 10, .inr (.inr (.inr (.inr df)))))]) [1, 2] rfl
  have hDc := hD.sub (ws' := [(li, .inr (13, [.int mc, .ref ed, .int 1])), (ed, .inl (aC 5, 10, .inr (.inr (.inr (.inr df)))))]) [1, 2] (by decide) rfl
  refine va_csr (W.runV (As := [.int 0]) (rest := []) ⟨hx, hb, hml, hown, hts⟩ (c_Jx4a65c_get_915e3 l dC dI aC s.heap.size li mc ed df ow hf) (cwV 1 hts gX14_parts_Jx4a65c_get_915e3 rfl rfl rfl (by decide +kernel) ⟨Nat.le_of_ble_eq_true rfl, Nat.le_of_ble_eq_true rfl⟩) (rf_pv hK hN hPc hDc (va_recv hK hP (ci := 13) (q0 := 1) rfl rfl)) rfl rfl hl.1 rfl (lv_room (Nat.le_of_ble_eq_true rfl)) dX14_parts_5 ⟨Nat.le_of_ble_eq_true rfl, Nat.le_of_ble_eq_true rfl⟩) (fun k9 hk9 => ?_)
  rw [hk9]
  refine va_castA hx hb hown (nm := "[Z") (hts (.classLink RX14 100 "[Z") (by decide +kernel)) hP 3 rfl (by have hz9 := (hK.2 0 _ rfl).2; rw [show ("[Z" : String) = "[" ++ FieldType.toString .boolean from by decide +kernel]; exact hz9) dX14_parts_8 ?_
  refine lv_astore_n (lv' := [(2, .ref ow), (0, .ref h0), (1, .int 0)]) hx hb dX14_parts_11 rfl hl (by decide) rfl (fun ls hl => ?_)
  refine lv_aload_n hx hb dX14_parts_12 rfl (lv_at hl 1 rfl) ?_
  have hPc := hP.sub (ws' := [(h0, .inr (14, [.int th, .int 7, wt, .int 127, .ref li, sc, lo, hi, sm]))]) [0] rfl
  have hDc := hD.sub (ws' := [(h0, .inr (14, [.int th, .int 7, wt, .int 127, .ref li, sc, lo, hi, sm]))]) [0] (by decide) rfl
  have hFc := va_free (wc := [(h0, .inr (14, [.int th, .int 7, wt, .int 127, .ref li, sc, lo, hi, sm]))]) hD hS hA [0] rfl
  refine va_callr (va_runV (As := []) (rest := []) ⟨hx, hb, hml, hown, hts⟩ (c_X14_empty l dC dI aC s.heap.size h0 th 127 li wt sc lo hi sm) (cwV 0 hts gX14_parts_X14_empty rfl rfl rfl (by decide +kernel) ⟨Nat.le_of_ble_eq_true rfl, Nat.le_of_ble_eq_true rfl⟩) (rf_pv hK hN hPc hDc (va_recv hK hP (ci := 14) (q0 := 0) rfl rfl)) rfl rfl hl.1 rfl (lv_room (Nat.le_of_ble_eq_true rfl)) dX14_parts_13 ⟨Nat.le_of_ble_eq_true rfl, Nat.le_of_ble_eq_true rfl⟩) hS (fun q _ h => hFc q h) hFc (fun u1 r2 t H1 locs ht hvm hwu1 hB hz1 hk1 hS => ?_)
  obtain ⟨hra, hP1, hD1⟩ := hB
  rw [ht] at hP1
  try dsimp only at hwu1 hP1 hD1
  obtain ⟨hP, hD⟩ := va_join (wr := [(li, .inr (13, [.int mc, .ref ed, .int 1])), (ed, .inl (aC 5, 10, .inr (.inr (.inr (.inr df))))), (ow, .inl (aC 0, 128, .inl of))]) (w1 := [(h0, .inr (14, [.int th, .int 7, wt, .int 127, .ref li, sc, lo, hi, sm])), (u1, .inl (aC 0, 128, .inl (fun _ => 0)))]) hP hD [0] [1, 2, 3] rfl rfl (by decide) (by decide) hk1 hFc hP1 hD1
  clear hP1 hD1 hPc hDc hFc
  generalize H1 = H at hP hS ⊢
  rw [hra]
  have hP : va_P (dC, dI) rfCl [(li, .inr (13, [.int mc, .ref ed, .int 1])), (ed, .inl (aC 5, 10, .inr (.inr (.inr (.inr df))))), (ow, .inl (aC 0, 128, .inl of)), (h0, .inr (14, [.int th, .int 7, wt, .int 127, .ref li, sc, lo, hi, sm])), (u1, .inl (aC 0, 128, .inl (fun _ => 0)))] H := hP
  have hD : va_D A [(li, .inr (13, [.int mc, .ref ed, .int 1])), (ed, .inl (aC 5, 10, .inr (.inr (.inr (.inr df))))), (ow, .inl (aC 0, 128, .inl of)), (h0, .inr (14, [.int th, .int 7, wt, .int 127, .ref li, sc, lo, hi, sm])), (u1, .inl (aC 0, 128, .inl (fun _ => 0)))] := hD
  refine W.widen (k := 1) (n := 128) (Nat.le_of_ble_eq_true rfl) (Nat.le_of_ble_eq_true rfl) ?_
  refine lv_astore_n (lv' := [(3, .ref u1), (2, .ref ow), (0, .ref h0), (1, .int 0)]) hx hb dX14_parts_16 rfl hl (by decide) rfl (fun ls hl => ?_)
  refine lv_iconst (v := 0) hx hb dX14_parts_17 (by decide) ?_
  refine lv_istore (lv' := [(4, .int 0), (3, .ref u1), (2, .ref ow), (0, .ref h0), (1, .int 0)]) hx hb dX14_parts_18 hl (by decide) rfl (fun ls hl => ?_)
  have loop : ∀ (n i : Nat) (x_loop : Int32) (f9 : Nat → Int32), i ≤ 128 → 129 ≤ i + n → x_loop = nI i → ∀ (H : Heap) (locs : List Loc), va_P (dC, dI) rfCl [(li, .inr (13, [.int mc, .ref ed, .int 1])), (ed, .inl (aC 5, 10, .inr (.inr (.inr (.inr df))))), (ow, .inl (aC 0, 128, .inl of)), (h0, .inr (14, [.int th, .int 7, wt, .int 127, .ref li, sc, lo, hi, sm])), (u1, .inl (aC 0, 128, .inl f9))] H → va_D A [(li, .inr (13, [.int mc, .ref ed, .int 1])), (ed, .inl (aC 5, 10, .inr (.inr (.inr (.inr df))))), (ow, .inl (aC 0, 128, .inl of)), (h0, .inr (14, [.int th, .int 7, wt, .int 127, .ref li, sc, lo, hi, sm])), (u1, .inl (aC 0, 128, .inl f9))] → va_S A s.heap H locs → ∀ ls : Array Slot, lv_has ls 5 [(4, .int x_loop), (3, .ref u1), (2, .ref ow), (0, .ref h0), (1, .int 0)] → W p l e (headSpec wsX14_parts ({ frames := 4, cells := 1, slots := 128, locals := 120 } : Room)).room s m ([.ref h0, .int 0] : List Value).toArray below meth c H locs 1 128 (MQ below (va_Qr (fun (u : Nat × (Nat → Int32)) => True) (fun (u : Nat × (Nat → Int32)) (ra : Nat) t => ra = u.1 ∧ va_P (dC, dI) rfCl [(h0, .inr (14, [.int th, .int 7, wt, .int 127, .ref li, sc, lo, hi, sm])), (li, .inr (13, [.int mc, .ref ed, .int 1])), (ed, .inl (aC 5, 10, .inr (.inr (.inr (.inr df))))), (ow, .inl (aC 0, 128, .inl of)), ((u.1), .inl (aC 0, 128, .inl (u.2)))] t.heap ∧ va_D A [(h0, .inr (14, [.int th, .int 7, wt, .int 127, .ref li, sc, lo, hi, sm])), (li, .inr (13, [.int mc, .ref ed, .int 1])), (ed, .inl (aC 5, 10, .inr (.inr (.inr (.inr df))))), (ow, .inl (aC 0, 128, .inl of)), ((u.1), .inl (aC 0, 128, .inl (u.2)))]) A) ([.ref h0, .int 0] : List Value).toArray s 1 128 A) (F0 m 20 ls []) := by
    intro n
    induction n with
    | zero =>
      intro i x_loop f9 h1 h2
      exact absurd h2 (by omega)
    | succ n ih =>
      intro i x_loop f9 hi9 hn ex H locs hP hD hS ls hl
      refine lv_iload hx hb dX14_parts_20 (lv_at hl 0 rfl) ?_
      refine lv_aload_n hx hb dX14_parts_22 rfl (lv_at hl 3 rfl) ?_
      have hPc := hP.sub (ws' := [(h0, .inr (14, [.int th, .int 7, wt, .int 127, .ref li, sc, lo, hi, sm]))]) [3] rfl
      have hDc := hD.sub (ws' := [(h0, .inr (14, [.int th, .int 7, wt, .int 127, .ref li, sc, lo, hi, sm]))]) [3] (by decide) rfl
      refine W.callR (W.runV (As := []) (rest := [.int x_loop]) ⟨hx, hb, hml, hown, hts⟩ (c_X14_all l dC dI aC H.size h0 th 7 127 li wt sc lo hi sm 128 (by decide)) (cwV 0 hts gX14_parts_X14_all rfl rfl rfl (by decide +kernel) ⟨Nat.le_of_ble_eq_true rfl, Nat.le_of_ble_eq_true rfl⟩) (rf_pv hK hN hPc hDc (va_recv hK hP (ci := 14) (q0 := 3) rfl rfl)) rfl rfl hl.1 rfl (lv_room (Nat.le_of_ble_eq_true rfl)) dX14_parts_23 ⟨Nat.le_of_ble_eq_true rfl, Nat.le_of_ble_eq_true rfl⟩) ?_
      refine W.eq (g2 := F0 m 26 ls [.int 128, .int x_loop]) rfl ?_
      by_cases hlt : i < 128
      · have hbr : ¬ (128 : Int32) ≤ x_loop := by rw [ex]; exact nI_ge hlt (by decide)
        refine lv_icmp_ge (tgt := 53) hx hb dX14_parts_26 (by decide) (fun c9 => absurd c9 hbr) (fun _ => ?_)
        have h_in : vp_in x_loop 128 := by rw [ex]; exact vp_in_nI hlt (by decide)
        refine lv_aload_n hx hb dX14_parts_29 rfl (lv_at hl 1 rfl) ?_
        refine lv_iload hx hb dX14_parts_30 (lv_at hl 0 rfl) ?_
        refine lv_aload_n hx hb dX14_parts_32 rfl (lv_at hl 3 rfl) ?_
        refine va_get (D := (dC, dI)) (ci := 14) (v := .int 127) (C := RX14) (T := TX14) (N := 9) hx hb hts (by decide +kernel) hown hK hP 3 rfl rfl 3 (by decide) (hts (.fieldLink RX14 49 "TransversaryModel" "dead" "I") (by decide +kernel)) (fun _ h9 => h9) rfl dX14_parts_33 ?_
        refine lv_iconst (v := -1) hx hb dX14_parts_36 (by decide) ?_
        refine lv_ixor hx hb dX14_parts_37 ?_
        refine lv_topi (fun t3 et3 => ?_)
        refine lv_iand hx hb dX14_parts_38 ?_
        refine lv_topi (fun t4 et4 => ?_)
        refine lv_dup2_11 hx hb dX14_parts_39 rfl rfl ?_
        have hz9 : t4 = 0 := by rw [et4, et3, ex]; exact rf_idx i hlt
        subst hz9
        have h_in0 : vp_in (0 : Int32) 128 := vp_in_nI (n := 0) (by decide) (by decide)
        refine va_zald hx hb hK hP 4 0 rfl rfl h_in0 dX14_parts_40 ?_
        refine lv_topi (fun t5 et5 => ?_)
        refine lv_aload_n hx hb dX14_parts_41 rfl (lv_at hl 2 rfl) ?_
        refine lv_iload hx hb dX14_parts_42 (lv_at hl 0 rfl) ?_
        refine va_zald hx hb hK hP 2 0 rfl rfl h_in dX14_parts_44 ?_
        refine lv_topi (fun t6 et6 => ?_)
        refine lv_ior hx hb dX14_parts_45 ?_
        refine lv_topi (fun t7 et7 => ?_)
        refine va_zast hx hb hK hP hD hS 4 0 rfl rfl h_in0 dX14_parts_46 (fun H locs hP hD hS => ?_)
        have hP : va_P (dC, dI) rfCl [(li, .inr (13, [.int mc, .ref ed, .int 1])), (ed, .inl (aC 5, 10, .inr (.inr (.inr (.inr df))))), (ow, .inl (aC 0, 128, .inl of)), (h0, .inr (14, [.int th, .int 7, wt, .int 127, .ref li, sc, lo, hi, sm])), (u1, .inl (aC 0, 128, .inl (upd f9 (0 : Int32).toNatClampNeg (vp_nar .boolean t7))))] H := hP
        have hD : va_D A [(li, .inr (13, [.int mc, .ref ed, .int 1])), (ed, .inl (aC 5, 10, .inr (.inr (.inr (.inr df))))), (ow, .inl (aC 0, 128, .inl of)), (h0, .inr (14, [.int th, .int 7, wt, .int 127, .ref li, sc, lo, hi, sm])), (u1, .inl (aC 0, 128, .inl (upd f9 (0 : Int32).toNatClampNeg (vp_nar .boolean t7))))] := hD
        generalize (upd f9 (0 : Int32).toNatClampNeg (vp_nar .boolean t7)) = f2 at hP hD
        have hP : va_P (dC, dI) rfCl [(li, .inr (13, [.int mc, .ref ed, .int 1])), (ed, .inl (aC 5, 10, .inr (.inr (.inr (.inr df))))), (ow, .inl (aC 0, 128, .inl of)), (h0, .inr (14, [.int th, .int 7, wt, .int 127, .ref li, sc, lo, hi, sm])), (u1, .inl (aC 0, 128, .inl f2))] H := hP
        have hD : va_D A [(li, .inr (13, [.int mc, .ref ed, .int 1])), (ed, .inl (aC 5, 10, .inr (.inr (.inr (.inr df))))), (ow, .inl (aC 0, 128, .inl of)), (h0, .inr (14, [.int th, .int 7, wt, .int 127, .ref li, sc, lo, hi, sm])), (u1, .inl (aC 0, 128, .inl f2))] := hD
        obtain ⟨x_loop2, ex_loop2⟩ : ∃ y : Int32, y = x_loop + (1) := ⟨_, rfl⟩
        refine lv_iinc (v := x_loop2) (lv' := [(4, .int x_loop2), (3, .ref u1), (2, .ref ow), (0, .ref h0), (1, .int 0)]) hx hb dX14_parts_47 hl (k := 0) rfl (by rw [ex_loop2]; rfl) (by decide) rfl (fun ls hl => ?_)
        refine lv_goto (tgt := 20) hx hb dX14_parts_50 (by decide) ?_
        exact ih (i + 1) x_loop2 f2 (by omega) (by omega) (by rw [ex_loop2, ex]; exact nI_1 i) H locs hP hD hS ls (lv_sub hl [0, 1, 2, 3, 4] rfl)
      · have hbr : (128 : Int32) ≤ x_loop := by rw [ex, show i = 128 by omega]; decide
        refine lv_icmp_ge (tgt := 53) hx hb dX14_parts_26 (by decide) (fun _ => ?_) (fun c9 => absurd hbr c9)
        refine lv_aload_n hx hb dX14_parts_53 rfl (lv_at hl 1 rfl) ?_
        have hP9 := hP.sub (ws' := [(h0, .inr (14, [.int th, .int 7, wt, .int 127, .ref li, sc, lo, hi, sm])), (li, .inr (13, [.int mc, .ref ed, .int 1])), (ed, .inl (aC 5, 10, .inr (.inr (.inr (.inr df))))), (ow, .inl (aC 0, 128, .inl of)), (u1, .inl (aC 0, 128, .inl f9))]) [3, 0, 1, 2, 4] rfl
        have hD9 := hD.sub (ws' := [(h0, .inr (14, [.int th, .int 7, wt, .int 127, .ref li, sc, lo, hi, sm])), (li, .inr (13, [.int mc, .ref ed, .int 1])), (ed, .inl (aC 5, 10, .inr (.inr (.inr (.inr df))))), (ow, .inl (aC 0, 128, .inl of)), (u1, .inl (aC 0, 128, .inl f9))]) [3, 0, 1, 2, 4] (by decide) rfl
        refine W.widen (k := 1) (n := 128) (Nat.le_of_ble_eq_true rfl) (Nat.le_of_ble_eq_true rfl) ?_
        exact W.aret (v := .ref u1) hx hb hr (Or.inr ⟨_, rfl⟩) (Or.inr ⟨_, rfl⟩) (fun t ht hW => ⟨⟨(u1, f9), u1, rfl, trivial, rfl, by rw [ht]; exact hP9, hD9⟩, hS.F ht⟩) hS.2.2 dX14_parts_54
  exact loop 129 0 0 (fun _ => 0) (by decide) (by decide) rfl H _ hP hD hS ls (lv_sub hl [0, 1, 2, 3, 4] rfl)

theorem rf_shr : ∀ i, i < 7 → ¬ (((0 : Int32) >>> ((nI i) &&& 31)) &&& 1 = 1) := by decide +kernel

set_option maxHeartbeats 4000000 in
set_option maxRecDepth 100000 in
theorem c_X14_game (l : Launch) (dC : Nat → ClassId) (dI : Nat → Nat → Nat) (aC : Nat → ClassId) (sz : Nat) (h0 : Nat) (th : Int32) (li : Nat) (wt sc lo hi sm : Value) (mc : Int32) (ed : Nat) (df : Nat → Option Nat) (ow : Nat) (of : Nat → Int32) (hf : df 0 = some ow) : Met l yX14_game wsX14_game ({ frames := 5, cells := 2, slots := 16512, locals := 160 } : Room) (rf_Pc (dC, dI) aC [.ref h0, .int 0] [(h0, .inr (14, [.int th, .int 7, wt, .int 127, .ref li, sc, lo, hi, sm])), (li, .inr (13, [.int mc, .ref ed, .int 1])), (ed, .inl (aC 5, 10, .inr (.inr (.inr (.inr df))))), (ow, .inl (aC 0, 128, .inl of))] sz) (va_Qi (fun (r : Int32) (u : Nat) => True) (fun (u : Nat) t => va_P (dC, dI) rfCl [(h0, .inr (14, [.int 0, .int 7, wt, .int 127, .ref li, sc, lo, hi, sm])), (li, .inr (13, [.int mc, .ref ed, .int 1])), (ed, .inl (aC 5, 10, .inr (.inr (.inr (.inr df))))), (ow, .inl (aC 0, 128, .inl of)), (u, .inl (aC 3, 16384, .inl (fun _ => 0)))] t.heap ∧ va_D (va_A [(h0, .inr (14, [.int th, .int 7, wt, .int 127, .ref li, sc, lo, hi, sm])), (li, .inr (13, [.int mc, .ref ed, .int 1])), (ed, .inl (aC 5, 10, .inr (.inr (.inr (.inr df))))), (ow, .inl (aC 0, 128, .inl of))] sz) [(h0, .inr (14, [.int 0, .int 7, wt, .int 127, .ref li, sc, lo, hi, sm])), (li, .inr (13, [.int mc, .ref ed, .int 1])), (ed, .inl (aC 5, 10, .inr (.inr (.inr (.inr df))))), (ow, .inl (aC 0, 128, .inl of)), (u, .inl (aC 3, 16384, .inl (fun _ => 0)))]) (va_A [(h0, .inr (14, [.int th, .int 7, wt, .int 127, .ref li, sc, lo, hi, sm])), (li, .inr (13, [.int mc, .ref ed, .int 1])), (ed, .inl (aC 5, 10, .inr (.inr (.inr (.inr df))))), (ow, .inl (aC 0, 128, .inl of))] sz)) 2 16512 (va_A [(h0, .inr (14, [.int th, .int 7, wt, .int 127, .ref li, sc, lo, hi, sm])), (li, .inr (13, [.int mc, .ref ed, .int 1])), (ed, .inl (aC 5, 10, .inr (.inr (.inr (.inr df))))), (ow, .inl (aC 0, 128, .inl of))] sz) := by
  refine Met.ofW (cc := cX14_game) (maxL := 5) (ret := (some .int)) (by decide) rfl ?_
  intro p e s m args below meth c s₁ B hml hv
  obtain ⟨rfl, hsz, hP, hKN, hD0⟩ := hv
  obtain ⟨hK, hN⟩ := hKN
  have hx := B.exec
  have hb := B.bytes
  have hr := B.returns
  have hts := atoms_spec (ws := wsX14_game) B.pre
  have hown : s.vm.findClass RX14 = some m.cls := findClass_of_methodNamed B.named
  have hlocks := B.notSynchronized
  subst hsz
  have hD := hD0.self (sz := s.heap.size)
  generalize hAe : va_A [(h0, .inr (14, [.int th, .int 7, wt, .int 127, .ref li, sc, lo, hi, sm])), (li, .inr (13, [.int mc, .ref ed, .int 1])), (ed, .inl (aC 5, 10, .inr (.inr (.inr (.inr df))))), (ow, .inl (aC 0, 128, .inl of))] s.heap.size = A at hD ⊢
  have hA : ∀ q : Nat, s.heap.size ≤ q → A q := fun q h => by rw [← hAe]; exact Or.inr h
  have hS : va_S A s.heap s.heap [] := va_S.rf
  have hP : va_P (dC, dI) rfCl [(h0, .inr (14, [.int th, .int 7, wt, .int 127, .ref li, sc, lo, hi, sm])), (li, .inr (13, [.int mc, .ref ed, .int 1])), (ed, .inl (aC 5, 10, .inr (.inr (.inr (.inr df))))), (ow, .inl (aC 0, 128, .inl of))] s.heap := hP
  have hl := lv_entry ([.ref h0, .int 0]) (n := 5) (Nat.le_of_ble_eq_true rfl)
  rw [lg_entry_eq]
  generalize (lg_sl ([.ref h0, .int 0]) ++ List.replicate (5 - (lg_sl ([.ref h0, .int 0])).length) Slot.unset).toArray = ls at hl ⊢
  have hl : lv_has ls 5 [(0, .ref h0), (1, .int 0)] := hl
  refine lv_aload_n hx hb dX14_game_0 rfl (lv_at hl 0 rfl) ?_
  refine lv_iconst (v := 0) hx hb dX14_game_1 (by decide) ?_
  refine va_put (D := (dC, dI)) (ci := 14) (v := .int 0) (ty := .int) (C := RX14) (T := TX14) (N := 9) hx hb hts (by decide +kernel) tyX14 tyX14_ok nmX14 hown hK hP hD hS 0 rfl rfl 0 (by decide) (hts (.fieldLink RX14 35 "TransversaryModel" "thrown" "I") (by decide +kernel)) (fun _ h9 => h9) rfl (by decide +kernel) rfl rfl (Nat.le_of_ble_eq_true rfl) dX14_game_2 (fun H locs hP hD hS => ?_)
  have hP : va_P (dC, dI) rfCl [(h0, .inr (14, [.int 0, .int 7, wt, .int 127, .ref li, sc, lo, hi, sm])), (li, .inr (13, [.int mc, .ref ed, .int 1])), (ed, .inl (aC 5, 10, .inr (.inr (.inr (.inr df))))), (ow, .inl (aC 0, 128, .inl of))] H := hP
  have hD : va_D A [(h0, .inr (14, [.int 0, .int 7, wt, .int 127, .ref li, sc, lo, hi, sm])), (li, .inr (13, [.int mc, .ref ed, .int 1])), (ed, .inl (aC 5, 10, .inr (.inr (.inr (.inr df))))), (ow, .inl (aC 0, 128, .inl of))] := hD
  refine lv_aload_n hx hb dX14_game_5 rfl (lv_at hl 0 rfl) ?_
  refine lv_iload_n hx hb dX14_game_6 rfl (lv_at hl 1 rfl) ?_
  have hPc := hP.sub (ws' := [(h0, .inr (14, [.int 0, .int 7, wt, .int 127, .ref li, sc, lo, hi, sm])), (li, .inr (13, [.int mc, .ref ed, .int 1]))]) [0, 1] rfl
  have hDc := hD.sub (ws' := [(h0, .inr (14, [.int 0, .int 7, wt, .int 127, .ref li, sc, lo, hi, sm])), (li, .inr (13, [.int mc, .ref ed, .int 1]))]) [0, 1] (by decide) rfl
  refine W.callR (W.runV (As := [.int 0]) (rest := []) ⟨hx, hb, hml, hown, hts⟩ (c_X14_isFamily l dC dI aC H.size h0 0 7 127 li wt sc lo hi sm mc ed) (cwV 1 hts gX14_game_X14_isFamily rfl rfl rfl (by decide +kernel) ⟨Nat.le_of_ble_eq_true rfl, Nat.le_of_ble_eq_true rfl⟩) (rf_pv hK hN hPc hDc (va_recv hK hP (ci := 14) (q0 := 0) rfl rfl)) rfl rfl hl.1 rfl (lv_room (Nat.le_of_ble_eq_true rfl)) dX14_game_7 ⟨Nat.le_of_ble_eq_true rfl, Nat.le_of_ble_eq_true rfl⟩) ?_
  refine W.eq (g2 := F0 m 10 ls [.int 1]) rfl ?_
  refine lv_if_ne (tgt := 19) hx hb dX14_game_10 (by decide) (fun _ => ?_) (fun c9 => absurd c9 (by decide))
  refine lv_aload_n hx hb dX14_game_19 rfl (lv_at hl 0 rfl) ?_
  refine lv_iload_n hx hb dX14_game_20 rfl (lv_at hl 1 rfl) ?_
  have hPc := hP.sub (ws' := [(h0, .inr (14, [.int 0, .int 7, wt, .int 127, .ref li, sc, lo, hi, sm])), (li, .inr (13, [.int mc, .ref ed, .int 1])), (ed, .inl (aC 5, 10, .inr (.inr (.inr (.inr df))))), (ow, .inl (aC 0, 128, .inl of))]) [0, 1, 2, 3] rfl
  have hDc := hD.sub (ws' := [(h0, .inr (14, [.int 0, .int 7, wt, .int 127, .ref li, sc, lo, hi, sm])), (li, .inr (13, [.int mc, .ref ed, .int 1])), (ed, .inl (aC 5, 10, .inr (.inr (.inr (.inr df))))), (ow, .inl (aC 0, 128, .inl of))]) [0, 1, 2, 3] (by decide) rfl
  have hFc := va_free (wc := [(h0, .inr (14, [.int 0, .int 7, wt, .int 127, .ref li, sc, lo, hi, sm])), (li, .inr (13, [.int mc, .ref ed, .int 1])), (ed, .inl (aC 5, 10, .inr (.inr (.inr (.inr df))))), (ow, .inl (aC 0, 128, .inl of))]) hD hS hA [0, 1, 2, 3] rfl
  refine va_callr (va_runV (As := [.int 0]) (rest := []) ⟨hx, hb, hml, hown, hts⟩ (c_X14_parts l dC dI aC H.size h0 0 li wt sc lo hi sm mc ed df ow of hf) (cwV 1 hts gX14_game_X14_parts rfl rfl rfl (by decide +kernel) ⟨Nat.le_of_ble_eq_true rfl, Nat.le_of_ble_eq_true rfl⟩) (rf_pv hK hN hPc hDc (va_recv hK hP (ci := 14) (q0 := 0) rfl rfl)) rfl rfl hl.1 rfl (lv_room (Nat.le_of_ble_eq_true rfl)) dX14_game_21 ⟨Nat.le_of_ble_eq_true rfl, Nat.le_of_ble_eq_true rfl⟩) hS (fun q _ h => hFc q h) hFc (fun u1 r2 t H1 locs ht hvm hwu1 hB hz1 hk1 hS => ?_)
  obtain ⟨hra, hP1, hD1⟩ := hB
  rw [ht] at hP1
  try dsimp only at hwu1 hP1 hD1
  obtain ⟨hP, hD⟩ := va_join (wr := []) (w1 := [(h0, .inr (14, [.int 0, .int 7, wt, .int 127, .ref li, sc, lo, hi, sm])), (li, .inr (13, [.int mc, .ref ed, .int 1])), (ed, .inl (aC 5, 10, .inr (.inr (.inr (.inr df))))), (ow, .inl (aC 0, 128, .inl of)), ((u1.1), .inl (aC 0, 128, .inl (u1.2)))]) hP hD [0, 1, 2, 3] [] rfl rfl (by decide) (by decide) hk1 hFc hP1 hD1
  clear hP1 hD1 hPc hDc hFc
  generalize H1 = H at hP hS ⊢
  rw [hra]
  have hP : va_P (dC, dI) rfCl [(h0, .inr (14, [.int 0, .int 7, wt, .int 127, .ref li, sc, lo, hi, sm])), (li, .inr (13, [.int mc, .ref ed, .int 1])), (ed, .inl (aC 5, 10, .inr (.inr (.inr (.inr df))))), (ow, .inl (aC 0, 128, .inl of)), ((u1.1), .inl (aC 0, 128, .inl (u1.2)))] H := hP
  have hD : va_D A [(h0, .inr (14, [.int 0, .int 7, wt, .int 127, .ref li, sc, lo, hi, sm])), (li, .inr (13, [.int mc, .ref ed, .int 1])), (ed, .inl (aC 5, 10, .inr (.inr (.inr (.inr df))))), (ow, .inl (aC 0, 128, .inl of)), ((u1.1), .inl (aC 0, 128, .inl (u1.2)))] := hD
  refine W.widen (k := 1) (n := 128) (Nat.le_of_ble_eq_true rfl) (Nat.le_of_ble_eq_true rfl) ?_
  refine lv_astore_n (lv' := [(2, .ref (u1.1)), (0, .ref h0), (1, .int 0)]) hx hb dX14_game_24 rfl hl (by decide) rfl (fun ls hl => ?_)
  refine lv_aload_n hx hb dX14_game_25 rfl (lv_at hl 1 rfl) ?_
  have hPc := hP.sub (ws' := [(h0, .inr (14, [.int 0, .int 7, wt, .int 127, .ref li, sc, lo, hi, sm]))]) [0] rfl
  have hDc := hD.sub (ws' := [(h0, .inr (14, [.int 0, .int 7, wt, .int 127, .ref li, sc, lo, hi, sm]))]) [0] (by decide) rfl
  refine W.callR (W.runV (As := []) (rest := []) ⟨hx, hb, hml, hown, hts⟩ (c_X14_all l dC dI aC H.size h0 0 7 127 li wt sc lo hi sm 128 (by decide)) (cwV 0 hts gX14_game_X14_all rfl rfl rfl (by decide +kernel) ⟨Nat.le_of_ble_eq_true rfl, Nat.le_of_ble_eq_true rfl⟩) (rf_pv hK hN hPc hDc (va_recv hK hP (ci := 14) (q0 := 0) rfl rfl)) rfl rfl hl.1 rfl (lv_room (Nat.le_of_ble_eq_true rfl)) dX14_game_26 ⟨Nat.le_of_ble_eq_true rfl, Nat.le_of_ble_eq_true rfl⟩) ?_
  refine W.eq (g2 := F0 m 29 ls [.int 128]) rfl ?_
  refine lv_aload_n hx hb dX14_game_29 rfl (lv_at hl 1 rfl) ?_
  have hPc := hP.sub (ws' := [(h0, .inr (14, [.int 0, .int 7, wt, .int 127, .ref li, sc, lo, hi, sm]))]) [0] rfl
  have hDc := hD.sub (ws' := [(h0, .inr (14, [.int 0, .int 7, wt, .int 127, .ref li, sc, lo, hi, sm]))]) [0] (by decide) rfl
  refine W.callR (W.runV (As := []) (rest := [.int 128]) ⟨hx, hb, hml, hown, hts⟩ (c_X14_all l dC dI aC H.size h0 0 7 127 li wt sc lo hi sm 128 (by decide)) (cwV 0 hts gX14_game_X14_all rfl rfl rfl (by decide +kernel) ⟨Nat.le_of_ble_eq_true rfl, Nat.le_of_ble_eq_true rfl⟩) (rf_pv hK hN hPc hDc (va_recv hK hP (ci := 14) (q0 := 0) rfl rfl)) rfl rfl hl.1 rfl (lv_room (Nat.le_of_ble_eq_true rfl)) dX14_game_30 ⟨Nat.le_of_ble_eq_true rfl, Nat.le_of_ble_eq_true rfl⟩) ?_
  refine W.eq (g2 := F0 m 33 ls [.int 128, .int 128]) rfl ?_
  refine lv_imul hx hb dX14_game_33 ?_
  refine lv_topi (fun t3 et3 => ?_)
  have hl9 : t3 = 16384 := by rw [et3]; decide
  subst hl9
  refine va_newa (atype := .byte) (ty := .byte) (a0 := (16384, .inl (fun _ => 0))) hx hb (hts (.arrayClass .byte) (by decide +kernel)) rfl hK hP hD hS hA (fun _ => rfl) (by decide) (by decide) (by decide) (Nat.le_of_ble_eq_true rfl) (Nat.le_of_ble_eq_true rfl) dX14_game_34 (fun q4 cA9 H hK hP hD hS => ?_)
  obtain rfl : cA9 = aC 3 := rf_sameA hK 6 3 rfl rfl
  have hK := hK.sub (tys' := rfT aC) [0, 1, 2, 3, 4, 5] rfl
  have hP : va_P (dC, dI) rfCl [(h0, .inr (14, [.int 0, .int 7, wt, .int 127, .ref li, sc, lo, hi, sm])), (li, .inr (13, [.int mc, .ref ed, .int 1])), (ed, .inl (aC 5, 10, .inr (.inr (.inr (.inr df))))), (ow, .inl (aC 0, 128, .inl of)), ((u1.1), .inl (aC 0, 128, .inl (u1.2))), (q4, .inl (aC 3, 16384, .inl (fun _ => 0)))] H := hP
  have hD : va_D A [(h0, .inr (14, [.int 0, .int 7, wt, .int 127, .ref li, sc, lo, hi, sm])), (li, .inr (13, [.int mc, .ref ed, .int 1])), (ed, .inl (aC 5, 10, .inr (.inr (.inr (.inr df))))), (ow, .inl (aC 0, 128, .inl of)), ((u1.1), .inl (aC 0, 128, .inl (u1.2))), (q4, .inl (aC 3, 16384, .inl (fun _ => 0)))] := hD
  refine W.widen (k := 2) (n := 16512) (Nat.le_of_ble_eq_true rfl) (Nat.le_of_ble_eq_true rfl) ?_
  refine lv_astore_n (lv' := [(3, .ref q4), (2, .ref (u1.1)), (0, .ref h0), (1, .int 0)]) hx hb dX14_game_36 rfl hl (by decide) rfl (fun ls hl => ?_)
  refine lv_iconst (v := 0) hx hb dX14_game_37 (by decide) ?_
  refine lv_istore (lv' := [(4, .int 0), (3, .ref q4), (2, .ref (u1.1)), (0, .ref h0), (1, .int 0)]) hx hb dX14_game_38 hl (by decide) rfl (fun ls hl => ?_)
  have loop : ∀ (n i : Nat) (x_loop : Int32), i ≤ 7 → 8 ≤ i + n → x_loop = nI i → ∀ (H : Heap) (locs : List Loc), va_P (dC, dI) rfCl [(h0, .inr (14, [.int 0, .int 7, wt, .int 127, .ref li, sc, lo, hi, sm])), (li, .inr (13, [.int mc, .ref ed, .int 1])), (ed, .inl (aC 5, 10, .inr (.inr (.inr (.inr df))))), (ow, .inl (aC 0, 128, .inl of)), ((u1.1), .inl (aC 0, 128, .inl (u1.2))), (q4, .inl (aC 3, 16384, .inl (fun _ => 0)))] H → va_D A [(h0, .inr (14, [.int 0, .int 7, wt, .int 127, .ref li, sc, lo, hi, sm])), (li, .inr (13, [.int mc, .ref ed, .int 1])), (ed, .inl (aC 5, 10, .inr (.inr (.inr (.inr df))))), (ow, .inl (aC 0, 128, .inl of)), ((u1.1), .inl (aC 0, 128, .inl (u1.2))), (q4, .inl (aC 3, 16384, .inl (fun _ => 0)))] → va_S A s.heap H locs → ∀ ls : Array Slot, lv_has ls 5 [(4, .int x_loop), (3, .ref q4), (2, .ref (u1.1)), (0, .ref h0), (1, .int 0)] → W p l e (headSpec wsX14_game ({ frames := 5, cells := 2, slots := 16512, locals := 160 } : Room)).room s m ([.ref h0, .int 0] : List Value).toArray below meth c H locs 2 16512 (MQ below (va_Qi (fun (r : Int32) (u : Nat) => True) (fun (u : Nat) t => va_P (dC, dI) rfCl [(h0, .inr (14, [.int 0, .int 7, wt, .int 127, .ref li, sc, lo, hi, sm])), (li, .inr (13, [.int mc, .ref ed, .int 1])), (ed, .inl (aC 5, 10, .inr (.inr (.inr (.inr df))))), (ow, .inl (aC 0, 128, .inl of)), (u, .inl (aC 3, 16384, .inl (fun _ => 0)))] t.heap ∧ va_D A [(h0, .inr (14, [.int 0, .int 7, wt, .int 127, .ref li, sc, lo, hi, sm])), (li, .inr (13, [.int mc, .ref ed, .int 1])), (ed, .inl (aC 5, 10, .inr (.inr (.inr (.inr df))))), (ow, .inl (aC 0, 128, .inl of)), (u, .inl (aC 3, 16384, .inl (fun _ => 0)))]) A) ([.ref h0, .int 0] : List Value).toArray s 2 16512 A) (F0 m 40 ls []) := by
    intro n
    induction n with
    | zero =>
      intro i x_loop h1 h2
      exact absurd h2 (by omega)
    | succ n ih =>
      intro i x_loop hi9 hn ex H locs hP hD hS ls hl
      refine lv_iload hx hb dX14_game_40 (lv_at hl 0 rfl) ?_
      refine lv_aload_n hx hb dX14_game_42 rfl (lv_at hl 3 rfl) ?_
      refine va_get (D := (dC, dI)) (ci := 14) (v := .int 7) (C := RX14) (T := TX14) (N := 9) hx hb hts (by decide +kernel) hown hK hP 0 rfl rfl 1 (by decide) (hts (.fieldLink RX14 7 "TransversaryModel" "points" "I") (by decide +kernel)) (fun _ h9 => h9) rfl dX14_game_43 ?_
      by_cases hlt : i < 7
      · have hbr : ¬ (7 : Int32) ≤ x_loop := by rw [ex]; exact nI_ge hlt (by decide)
        refine lv_icmp_ge (tgt := 96) hx hb dX14_game_46 (by decide) (fun c9 => absurd c9 hbr) (fun _ => ?_)
        have h_in : vp_in x_loop 7 := by rw [ex]; exact vp_in_nI hlt (by decide)
        refine lv_aload_n hx hb dX14_game_49 rfl (lv_at hl 3 rfl) ?_
        have hPc := hP.sub (ws' := [(h0, .inr (14, [.int 0, .int 7, wt, .int 127, .ref li, sc, lo, hi, sm]))]) [0] rfl
        have hDc := hD.sub (ws' := [(h0, .inr (14, [.int 0, .int 7, wt, .int 127, .ref li, sc, lo, hi, sm]))]) [0] (by decide) rfl
        refine W.callR (W.runV (As := []) (rest := []) ⟨hx, hb, hml, hown, hts⟩ (c_X14_alive l dC dI aC H.size h0 0 7 127 li wt sc lo hi sm 128 0 (by decide) (by decide)) (cwV 0 hts gX14_game_X14_alive rfl rfl rfl (by decide +kernel) ⟨Nat.le_of_ble_eq_true rfl, Nat.le_of_ble_eq_true rfl⟩) (rf_pv hK hN hPc hDc (va_recv hK hP (ci := 14) (q0 := 0) rfl rfl)) rfl rfl hl.1 rfl (lv_room (Nat.le_of_ble_eq_true rfl)) dX14_game_50 ⟨Nat.le_of_ble_eq_true rfl, Nat.le_of_ble_eq_true rfl⟩) ?_
        refine W.eq (g2 := F0 m 53 ls [.int 0]) rfl ?_
        refine lv_iload hx hb dX14_game_53 (lv_at hl 0 rfl) ?_
        refine lv_ishr hx hb dX14_game_55 ?_
        refine lv_topi (fun t5 et5 => ?_)
        refine lv_iconst (v := 1) hx hb dX14_game_56 (by decide) ?_
        refine lv_iand hx hb dX14_game_57 ?_
        refine lv_topi (fun t6 et6 => ?_)
        refine lv_iconst (v := 1) hx hb dX14_game_58 (by decide) ?_
        have h1z : ¬ t6 = 1 := by rw [et6, et5, ex]; exact rf_shr i hlt
        refine lv_icmp_ne (tgt := 90) hx hb dX14_game_59 (by decide) (fun _ => ?_) (fun c9 => absurd c9 h1z)
        obtain ⟨x_loop2, ex_loop2⟩ : ∃ y : Int32, y = x_loop + (1) := ⟨_, rfl⟩
        refine lv_iinc (v := x_loop2) (lv' := [(4, .int x_loop2), (3, .ref q4), (2, .ref (u1.1)), (0, .ref h0), (1, .int 0)]) hx hb dX14_game_90 hl (k := 0) rfl (by rw [ex_loop2]; rfl) (by decide) rfl (fun ls hl => ?_)
        refine lv_goto (tgt := 40) hx hb dX14_game_93 (by decide) ?_
        exact ih (i + 1) x_loop2 (by omega) (by omega) (by rw [ex_loop2, ex]; exact nI_1 i) H locs hP hD hS ls (lv_sub hl [0, 1, 2, 3, 4] rfl)
      · have hbr : (7 : Int32) ≤ x_loop := by rw [ex, show i = 7 by omega]; decide
        refine lv_icmp_ge (tgt := 96) hx hb dX14_game_46 (by decide) (fun _ => ?_) (fun c9 => absurd hbr c9)
        refine lv_iconst (v := -1) hx hb dX14_game_96 (by decide) ?_
        have hP9 := hP.sub (ws' := [(h0, .inr (14, [.int 0, .int 7, wt, .int 127, .ref li, sc, lo, hi, sm])), (li, .inr (13, [.int mc, .ref ed, .int 1])), (ed, .inl (aC 5, 10, .inr (.inr (.inr (.inr df))))), (ow, .inl (aC 0, 128, .inl of)), (q4, .inl (aC 3, 16384, .inl (fun _ => 0)))]) [0, 1, 2, 3, 5] rfl
        have hD9 := hD.sub (ws' := [(h0, .inr (14, [.int 0, .int 7, wt, .int 127, .ref li, sc, lo, hi, sm])), (li, .inr (13, [.int mc, .ref ed, .int 1])), (ed, .inl (aC 5, 10, .inr (.inr (.inr (.inr df))))), (ow, .inl (aC 0, 128, .inl of)), (q4, .inl (aC 3, 16384, .inl (fun _ => 0)))]) [0, 1, 2, 3, 5] (by decide) rfl
        refine W.widen (k := 2) (n := 16512) (Nat.le_of_ble_eq_true rfl) (Nat.le_of_ble_eq_true rfl) ?_
        exact W.iret (v := (-1)) hx hb hr (fun t ht hW => ⟨⟨(-1), q4, rfl, trivial, by rw [ht]; exact hP9, hD9⟩, hS.F ht⟩) hS.2.2 dX14_game_97
  exact loop 8 0 0 (by decide) (by decide) rfl H _ hP hD hS ls (lv_sub hl [0, 1, 2, 3, 4] rfl)

set_option maxHeartbeats 4000000 in
set_option maxRecDepth 100000 in
theorem c_X14_init (l : Launch) (dC : Nat → ClassId) (dI : Nat → Nat → Nat) (aC : Nat → ClassId) (sz : Nat) (ev h0 : Nat)  : Met l yX14_init wsX14_init ({ frames := 4, cells := 5, slots := 391, locals := 120 } : Room) (rf_PcZ (dC, dI) aC [.ref h0] [(h0, .inr (14, [.int 0, .int 0, .null, .int 0, .null, .null, .null, .null, .long 0]))] sz ev) (va_Qv (fun (u : (Nat → Nat)) => True) (fun (u : (Nat → Nat)) t => va_P (dC, dI) rfCl [(h0, .inr (14, [.int 0, .int 4, .ref (u 0), .int 0, .ref (u 1), .ref (u 2), .ref (u 3), .ref (u 4), .long 0])), ((u 1), .inr (13, [.int 0, .ref ev, .int 0]))] t.heap ∧ va_D (va_A [(h0, .inr (14, [.int 0, .int 0, .null, .int 0, .null, .null, .null, .null, .long 0]))] sz) [(h0, .inr (14, [.int 0, .int 4, .ref (u 0), .int 0, .ref (u 1), .ref (u 2), .ref (u 3), .ref (u 4), .long 0])), ((u 1), .inr (13, [.int 0, .ref ev, .int 0]))]) (va_A [(h0, .inr (14, [.int 0, .int 0, .null, .int 0, .null, .null, .null, .null, .long 0]))] sz)) 5 391 (va_A [(h0, .inr (14, [.int 0, .int 0, .null, .int 0, .null, .null, .null, .null, .long 0]))] sz) := by
  refine Met.ofW (cc := cX14_init) (maxL := 1) (ret := none) (by decide) rfl ?_
  intro p e s m args below meth c s₁ B hml hv
  obtain ⟨⟨rfl, hsz, hP, hKN, hD0⟩, hZ⟩ := hv
  obtain ⟨hK, hN⟩ := hKN
  have hx := B.exec
  have hb := B.bytes
  have hr := B.returns
  have hts := atoms_spec (ws := wsX14_init) B.pre
  have hown : s.vm.findClass RX14 = some m.cls := findClass_of_methodNamed B.named
  have hlocks := B.notSynchronized
  have hin : meth.name = "<init>" := (name_of_methodNamed B.named B.method).1
  subst hsz
  have hD := hD0.self (sz := s.heap.size)
  generalize hAe : va_A [(h0, .inr (14, [.int 0, .int 0, .null, .int 0, .null, .null, .null, .null, .long 0]))] s.heap.size = A at hD hZ ⊢
  have hA : ∀ q : Nat, s.heap.size ≤ q → A q := fun q h => by rw [← hAe]; exact Or.inr h
  have hS : va_S A s.heap s.heap [] := va_S.rf
  have hP : va_P (dC, dI) rfCl [(h0, .inr (14, [.int 0, .int 0, .null, .int 0, .null, .null, .null, .null, .long 0]))] s.heap := hP
  have hl := lv_entry ([.ref h0]) (n := 1) (Nat.le_of_ble_eq_true rfl)
  rw [lg_entry_eq]
  generalize (lg_sl ([.ref h0]) ++ List.replicate (1 - (lg_sl ([.ref h0])).length) Slot.unset).toArray = ls at hl ⊢
  have hl : lv_has ls 1 [(0, .ref h0)] := hl
  refine lv_aload_n hx hb dX14_init_0 rfl (lv_at hl 0 rfl) ?_
  refine W.objInit hx hb hown (hts (.methodLink RX14 1 objectInit) (by decide +kernel)) (hts (.instanceMethod objectInit) (by decide +kernel)) (hts (.code objectInit ⟨#[0xb1]⟩ 1 none) (by decide +kernel)) rfl (by rw [hml]; exact hl.1) rfl dX14_init_1 (Nat.le_of_ble_eq_true rfl) (Nat.le_of_ble_eq_true rfl) ?_
  refine W.eq (g2 := F0 m 4 ls []) rfl ?_
  refine lv_aload_n hx hb dX14_init_4 rfl (lv_at hl 0 rfl) ?_
  refine lv_iconst (v := 4) hx hb dX14_init_5 (by decide) ?_
  refine va_put (D := (dC, dI)) (ci := 14) (v := .int 4) (ty := .int) (C := RX14) (T := TX14) (N := 9) hx hb hts (by decide +kernel) tyX14 tyX14_ok nmX14 hown hK hP hD hS 0 rfl rfl 1 (by decide) (hts (.fieldLink RX14 7 "TransversaryModel" "points" "I") (by decide +kernel)) (fun _ h9 => h9) rfl (by decide +kernel) rfl rfl (Nat.le_of_ble_eq_true rfl) dX14_init_6 (fun H locs hP hD hS => ?_)
  have hP : va_P (dC, dI) rfCl [(h0, .inr (14, [.int 0, .int 4, .null, .int 0, .null, .null, .null, .null, .long 0]))] H := hP
  have hD : va_D A [(h0, .inr (14, [.int 0, .int 4, .null, .int 0, .null, .null, .null, .null, .long 0]))] := hD
  refine lv_aload_n hx hb dX14_init_9 rfl (lv_at hl 0 rfl) ?_
  refine lv_iconst (v := 4) hx hb dX14_init_10 (by decide) ?_
  refine va_newa (atype := .int) (ty := .int) (a0 := (4, .inl (fun _ => 0))) hx hb (hts (.arrayClass .int) (by decide +kernel)) rfl hK hP hD hS hA (fun _ => rfl) (by decide) (by decide) (by decide) (Nat.le_of_ble_eq_true rfl) (Nat.le_of_ble_eq_true rfl) dX14_init_11 (fun q1 cA9 H hK hP hD hS => ?_)
  obtain rfl : cA9 = aC 1 := rf_sameA hK 6 1 rfl rfl
  have hK := hK.sub (tys' := rfT aC) [0, 1, 2, 3, 4, 5] rfl
  have hP : va_P (dC, dI) rfCl [(h0, .inr (14, [.int 0, .int 4, .null, .int 0, .null, .null, .null, .null, .long 0])), (q1, .inl (aC 1, 4, .inl (fun _ => 0)))] H := hP
  have hD : va_D A [(h0, .inr (14, [.int 0, .int 4, .null, .int 0, .null, .null, .null, .null, .long 0])), (q1, .inl (aC 1, 4, .inl (fun _ => 0)))] := hD
  refine W.widen (k := 1) (n := 4) (Nat.le_of_ble_eq_true rfl) (Nat.le_of_ble_eq_true rfl) ?_
  refine lv_dup hx hb dX14_init_13 rfl ?_
  refine lv_iconst (v := 0) hx hb dX14_init_14 (by decide) ?_
  refine lv_iconst (v := 1) hx hb dX14_init_15 (by decide) ?_
  refine va_iast hx hb hK hP hD hS 1 1 rfl rfl (vp_in_nI (n := 0) (N := 4) (by decide) (by decide)) dX14_init_16 (fun H locs hP hD hS => ?_)
  have hP : va_P (dC, dI) rfCl [(h0, .inr (14, [.int 0, .int 4, .null, .int 0, .null, .null, .null, .null, .long 0])), (q1, .inl (aC 1, 4, .inl (upd (fun _ => 0) ((0 : Int32)).toNatClampNeg 1)))] H := hP
  have hD : va_D A [(h0, .inr (14, [.int 0, .int 4, .null, .int 0, .null, .null, .null, .null, .long 0])), (q1, .inl (aC 1, 4, .inl (upd (fun _ => 0) ((0 : Int32)).toNatClampNeg 1)))] := hD
  refine lv_dup hx hb dX14_init_17 rfl ?_
  refine lv_iconst (v := 1) hx hb dX14_init_18 (by decide) ?_
  refine lv_iconst (v := 1) hx hb dX14_init_19 (by decide) ?_
  refine va_iast hx hb hK hP hD hS 1 1 rfl rfl (vp_in_nI (n := 1) (N := 4) (by decide) (by decide)) dX14_init_20 (fun H locs hP hD hS => ?_)
  have hP : va_P (dC, dI) rfCl [(h0, .inr (14, [.int 0, .int 4, .null, .int 0, .null, .null, .null, .null, .long 0])), (q1, .inl (aC 1, 4, .inl (upd (upd (fun _ => 0) ((0 : Int32)).toNatClampNeg 1) ((1 : Int32)).toNatClampNeg 1)))] H := hP
  have hD : va_D A [(h0, .inr (14, [.int 0, .int 4, .null, .int 0, .null, .null, .null, .null, .long 0])), (q1, .inl (aC 1, 4, .inl (upd (upd (fun _ => 0) ((0 : Int32)).toNatClampNeg 1) ((1 : Int32)).toNatClampNeg 1)))] := hD
  refine lv_dup hx hb dX14_init_21 rfl ?_
  refine lv_iconst (v := 2) hx hb dX14_init_22 (by decide) ?_
  refine lv_iconst (v := 1) hx hb dX14_init_23 (by decide) ?_
  refine va_iast hx hb hK hP hD hS 1 1 rfl rfl (vp_in_nI (n := 2) (N := 4) (by decide) (by decide)) dX14_init_24 (fun H locs hP hD hS => ?_)
  have hP : va_P (dC, dI) rfCl [(h0, .inr (14, [.int 0, .int 4, .null, .int 0, .null, .null, .null, .null, .long 0])), (q1, .inl (aC 1, 4, .inl (upd (upd (upd (fun _ => 0) ((0 : Int32)).toNatClampNeg 1) ((1 : Int32)).toNatClampNeg 1) ((2 : Int32)).toNatClampNeg 1)))] H := hP
  have hD : va_D A [(h0, .inr (14, [.int 0, .int 4, .null, .int 0, .null, .null, .null, .null, .long 0])), (q1, .inl (aC 1, 4, .inl (upd (upd (upd (fun _ => 0) ((0 : Int32)).toNatClampNeg 1) ((1 : Int32)).toNatClampNeg 1) ((2 : Int32)).toNatClampNeg 1)))] := hD
  refine lv_dup hx hb dX14_init_25 rfl ?_
  refine lv_iconst (v := 3) hx hb dX14_init_26 (by decide) ?_
  refine lv_iconst (v := 1) hx hb dX14_init_27 (by decide) ?_
  refine va_iast hx hb hK hP hD hS 1 1 rfl rfl (vp_in_nI (n := 3) (N := 4) (by decide) (by decide)) dX14_init_28 (fun H locs hP hD hS => ?_)
  have hP : va_P (dC, dI) rfCl [(h0, .inr (14, [.int 0, .int 4, .null, .int 0, .null, .null, .null, .null, .long 0])), (q1, .inl (aC 1, 4, .inl (upd (upd (upd (upd (fun _ => 0) ((0 : Int32)).toNatClampNeg 1) ((1 : Int32)).toNatClampNeg 1) ((2 : Int32)).toNatClampNeg 1) ((3 : Int32)).toNatClampNeg 1)))] H := hP
  have hD : va_D A [(h0, .inr (14, [.int 0, .int 4, .null, .int 0, .null, .null, .null, .null, .long 0])), (q1, .inl (aC 1, 4, .inl (upd (upd (upd (upd (fun _ => 0) ((0 : Int32)).toNatClampNeg 1) ((1 : Int32)).toNatClampNeg 1) ((2 : Int32)).toNatClampNeg 1) ((3 : Int32)).toNatClampNeg 1)))] := hD
  refine va_put (D := (dC, dI)) (ci := 14) (v := .ref q1) (ty := (.array .int)) (C := RX14) (T := TX14) (N := 9) hx hb hts (by decide +kernel) tyX14 tyX14_ok nmX14 hown hK hP hD hS 0 rfl rfl 2 (by decide) (hts (.fieldLink RX14 13 "TransversaryModel" "weights" "[I") (by decide +kernel)) (fun _ h9 => h9) rfl (by decide +kernel) rfl rfl (Nat.le_of_ble_eq_true rfl) dX14_init_29 (fun H locs hP hD hS => ?_)
  have hP : va_P (dC, dI) rfCl [(h0, .inr (14, [.int 0, .int 4, .ref q1, .int 0, .null, .null, .null, .null, .long 0])), (q1, .inl (aC 1, 4, .inl (upd (upd (upd (upd (fun _ => 0) ((0 : Int32)).toNatClampNeg 1) ((1 : Int32)).toNatClampNeg 1) ((2 : Int32)).toNatClampNeg 1) ((3 : Int32)).toNatClampNeg 1)))] H := hP
  have hD : va_D A [(h0, .inr (14, [.int 0, .int 4, .ref q1, .int 0, .null, .null, .null, .null, .long 0])), (q1, .inl (aC 1, 4, .inl (upd (upd (upd (upd (fun _ => 0) ((0 : Int32)).toNatClampNeg 1) ((1 : Int32)).toNatClampNeg 1) ((2 : Int32)).toNatClampNeg 1) ((3 : Int32)).toNatClampNeg 1)))] := hD
  refine lv_aload_n hx hb dX14_init_32 rfl (lv_at hl 0 rfl) ?_
  refine va_new (ci := 13) (fs := [.int 0, .null, .int 0]) (C := RJx4a65c) (T := TJx4a65c) (N := 3) hx hb hts (by decide +kernel) tyJx4a65c tyJx4a65c_ok hown (hts (.classLink RX14 17 RJx4a65c) (by decide +kernel)) (hts (.instantiable RJx4a65c 3) (by decide +kernel)) (hts (.initialized RJx4a65c) (by decide +kernel)) hK hP hD hS hA rfl (fun j hj => by rcases (show j = 0 ∨ j = 1 ∨ j = 2 by omega) with rfl | rfl | rfl <;> rfl) (Nat.le_of_ble_eq_true rfl) (Nat.le_of_ble_eq_true rfl) dX14_init_33 (fun q2 H hP hD hS => ?_)
  have hP : va_P (dC, dI) rfCl [(h0, .inr (14, [.int 0, .int 4, .ref q1, .int 0, .null, .null, .null, .null, .long 0])), (q1, .inl (aC 1, 4, .inl (upd (upd (upd (upd (fun _ => 0) ((0 : Int32)).toNatClampNeg 1) ((1 : Int32)).toNatClampNeg 1) ((2 : Int32)).toNatClampNeg 1) ((3 : Int32)).toNatClampNeg 1))), (q2, .inr (13, [.int 0, .null, .int 0]))] H := hP
  have hD : va_D A [(h0, .inr (14, [.int 0, .int 4, .ref q1, .int 0, .null, .null, .null, .null, .long 0])), (q1, .inl (aC 1, 4, .inl (upd (upd (upd (upd (fun _ => 0) ((0 : Int32)).toNatClampNeg 1) ((1 : Int32)).toNatClampNeg 1) ((2 : Int32)).toNatClampNeg 1) ((3 : Int32)).toNatClampNeg 1))), (q2, .inr (13, [.int 0, .null, .int 0]))] := hD
  refine W.widen (k := 2) (n := 7) (Nat.le_of_ble_eq_true rfl) (Nat.le_of_ble_eq_true rfl) ?_
  refine lv_dup hx hb dX14_init_36 rfl ?_
  have hPc := hP.sub (ws' := [(q2, .inr (13, [.int 0, .null, .int 0]))]) [2] rfl
  have hDc := hD.sub (ws' := [(q2, .inr (13, [.int 0, .null, .int 0]))]) [2] (by decide) rfl
  have hFc := va_free (wc := [(q2, .inr (13, [.int 0, .null, .int 0]))]) hD hS hA [2] rfl
  have hFc := va_free (wc := [(q2, .inr (13, [.int 0, .null, .int 0]))]) hD hS hA [2] rfl
  refine va_callv (va_runI (As := []) (rest := [.ref q2, .ref h0]) ⟨hx, hb, hml, hown, hts⟩ (c_Jx4a65c_init_da8c8 l dC dI aC H.size ev q2) (cwI 0 hts gX14_init_Jx4a65c_init_da8c8 rfl rfl rfl (hts (.initialized RJx4a65c) (by decide +kernel)) (hts (.methodLink RX14 19 yJx4a65c_init_da8c8) (by decide +kernel)) (hts (.instanceMethod yJx4a65c_init_da8c8) (by decide +kernel)) rfl (by decide +kernel) ⟨Nat.le_of_ble_eq_true rfl, Nat.le_of_ble_eq_true rfl⟩) (rf_psZ hK hN hPc hDc hZ hS hFc) rfl rfl hl.1 rfl (lv_room (Nat.le_of_ble_eq_true rfl)) dX14_init_37 ⟨Nat.le_of_ble_eq_true rfl, Nat.le_of_ble_eq_true rfl⟩) hS (fun q _ h => hFc q h) hFc (fun u3 t H1 locs ht hvm hwu3 hB hz1 hk1 hS => ?_)
  obtain ⟨hP1, hD1⟩ := hB
  rw [ht] at hP1
  try dsimp only at hwu3 hP1 hD1
  obtain ⟨hP, hD⟩ := va_join (wr := [(h0, .inr (14, [.int 0, .int 4, .ref q1, .int 0, .null, .null, .null, .null, .long 0])), (q1, .inl (aC 1, 4, .inl (upd (upd (upd (upd (fun _ => 0) ((0 : Int32)).toNatClampNeg 1) ((1 : Int32)).toNatClampNeg 1) ((2 : Int32)).toNatClampNeg 1) ((3 : Int32)).toNatClampNeg 1)))]) (w1 := [(q2, .inr (13, [.int 0, .ref ev, .int 0]))]) hP hD [2] [0, 1] rfl rfl (by decide) (by decide) hk1 hFc hP1 hD1
  clear hP1 hD1 hPc hDc hFc
  generalize H1 = H at hP hS ⊢
  have hP : va_P (dC, dI) rfCl [(h0, .inr (14, [.int 0, .int 4, .ref q1, .int 0, .null, .null, .null, .null, .long 0])), (q1, .inl (aC 1, 4, .inl (upd (upd (upd (upd (fun _ => 0) ((0 : Int32)).toNatClampNeg 1) ((1 : Int32)).toNatClampNeg 1) ((2 : Int32)).toNatClampNeg 1) ((3 : Int32)).toNatClampNeg 1))), (q2, .inr (13, [.int 0, .ref ev, .int 0]))] H := hP
  have hD : va_D A [(h0, .inr (14, [.int 0, .int 4, .ref q1, .int 0, .null, .null, .null, .null, .long 0])), (q1, .inl (aC 1, 4, .inl (upd (upd (upd (upd (fun _ => 0) ((0 : Int32)).toNatClampNeg 1) ((1 : Int32)).toNatClampNeg 1) ((2 : Int32)).toNatClampNeg 1) ((3 : Int32)).toNatClampNeg 1))), (q2, .inr (13, [.int 0, .ref ev, .int 0]))] := hD
  refine W.widen (k := 2) (n := 7) (Nat.le_of_ble_eq_true rfl) (Nat.le_of_ble_eq_true rfl) ?_
  refine va_putF (D := (dC, dI)) (ci := 14) (v := .ref q2) (ty := (.object "java/util/ArrayList")) (C := RX14) (T := TX14) (N := 9) hx hb hts (by decide +kernel) tyX14 tyX14_ok nmX14 hown hK hP hD hS 0 rfl rfl 4 (by decide) (hts (.fieldLink RX14 20 "TransversaryModel" "families" "Ljava/util/ArrayList;") (by decide +kernel)) (fun _ h9 => h9) rfl hin rfl (by decide +kernel) rfl rfl (Nat.le_of_ble_eq_true rfl) dX14_init_40 (fun H locs hP hD hS => ?_)
  have hP : va_P (dC, dI) rfCl [(h0, .inr (14, [.int 0, .int 4, .ref q1, .int 0, .ref q2, .null, .null, .null, .long 0])), (q1, .inl (aC 1, 4, .inl (upd (upd (upd (upd (fun _ => 0) ((0 : Int32)).toNatClampNeg 1) ((1 : Int32)).toNatClampNeg 1) ((2 : Int32)).toNatClampNeg 1) ((3 : Int32)).toNatClampNeg 1))), (q2, .inr (13, [.int 0, .ref ev, .int 0]))] H := hP
  have hD : va_D A [(h0, .inr (14, [.int 0, .int 4, .ref q1, .int 0, .ref q2, .null, .null, .null, .long 0])), (q1, .inl (aC 1, 4, .inl (upd (upd (upd (upd (fun _ => 0) ((0 : Int32)).toNatClampNeg 1) ((1 : Int32)).toNatClampNeg 1) ((2 : Int32)).toNatClampNeg 1) ((3 : Int32)).toNatClampNeg 1))), (q2, .inr (13, [.int 0, .ref ev, .int 0]))] := hD
  refine lv_aload_n hx hb dX14_init_43 rfl (lv_at hl 0 rfl) ?_
  refine lv_sipush (v := 128) hx hb dX14_init_44 (by decide) ?_
  refine va_newa (atype := .boolean) (ty := .boolean) (a0 := (128, .inl (fun _ => 0))) hx hb (hts (.arrayClass .boolean) (by decide +kernel)) rfl hK hP hD hS hA (fun _ => rfl) (by decide) (by decide) (by decide) (Nat.le_of_ble_eq_true rfl) (Nat.le_of_ble_eq_true rfl) dX14_init_47 (fun q5 cA9 H hK hP hD hS => ?_)
  obtain rfl : cA9 = aC 0 := rf_sameA hK 6 0 rfl rfl
  have hK := hK.sub (tys' := rfT aC) [0, 1, 2, 3, 4, 5] rfl
  have hP : va_P (dC, dI) rfCl [(h0, .inr (14, [.int 0, .int 4, .ref q1, .int 0, .ref q2, .null, .null, .null, .long 0])), (q1, .inl (aC 1, 4, .inl (upd (upd (upd (upd (fun _ => 0) ((0 : Int32)).toNatClampNeg 1) ((1 : Int32)).toNatClampNeg 1) ((2 : Int32)).toNatClampNeg 1) ((3 : Int32)).toNatClampNeg 1))), (q2, .inr (13, [.int 0, .ref ev, .int 0])), (q5, .inl (aC 0, 128, .inl (fun _ => 0)))] H := hP
  have hD : va_D A [(h0, .inr (14, [.int 0, .int 4, .ref q1, .int 0, .ref q2, .null, .null, .null, .long 0])), (q1, .inl (aC 1, 4, .inl (upd (upd (upd (upd (fun _ => 0) ((0 : Int32)).toNatClampNeg 1) ((1 : Int32)).toNatClampNeg 1) ((2 : Int32)).toNatClampNeg 1) ((3 : Int32)).toNatClampNeg 1))), (q2, .inr (13, [.int 0, .ref ev, .int 0])), (q5, .inl (aC 0, 128, .inl (fun _ => 0)))] := hD
  refine W.widen (k := 3) (n := 135) (Nat.le_of_ble_eq_true rfl) (Nat.le_of_ble_eq_true rfl) ?_
  refine va_putF (D := (dC, dI)) (ci := 14) (v := .ref q5) (ty := (.array .boolean)) (C := RX14) (T := TX14) (N := 9) hx hb hts (by decide +kernel) tyX14 tyX14_ok nmX14 hown hK hP hD hS 0 rfl rfl 5 (by decide) (hts (.fieldLink RX14 24 "TransversaryModel" "scratch" "[Z") (by decide +kernel)) (fun _ h9 => h9) rfl hin rfl (by decide +kernel) rfl rfl (Nat.le_of_ble_eq_true rfl) dX14_init_49 (fun H locs hP hD hS => ?_)
  have hP : va_P (dC, dI) rfCl [(h0, .inr (14, [.int 0, .int 4, .ref q1, .int 0, .ref q2, .ref q5, .null, .null, .long 0])), (q1, .inl (aC 1, 4, .inl (upd (upd (upd (upd (fun _ => 0) ((0 : Int32)).toNatClampNeg 1) ((1 : Int32)).toNatClampNeg 1) ((2 : Int32)).toNatClampNeg 1) ((3 : Int32)).toNatClampNeg 1))), (q2, .inr (13, [.int 0, .ref ev, .int 0])), (q5, .inl (aC 0, 128, .inl (fun _ => 0)))] H := hP
  have hD : va_D A [(h0, .inr (14, [.int 0, .int 4, .ref q1, .int 0, .ref q2, .ref q5, .null, .null, .long 0])), (q1, .inl (aC 1, 4, .inl (upd (upd (upd (upd (fun _ => 0) ((0 : Int32)).toNatClampNeg 1) ((1 : Int32)).toNatClampNeg 1) ((2 : Int32)).toNatClampNeg 1) ((3 : Int32)).toNatClampNeg 1))), (q2, .inr (13, [.int 0, .ref ev, .int 0])), (q5, .inl (aC 0, 128, .inl (fun _ => 0)))] := hD
  refine lv_aload_n hx hb dX14_init_52 rfl (lv_at hl 0 rfl) ?_
  refine lv_sipush (v := 128) hx hb dX14_init_53 (by decide) ?_
  refine va_newa (atype := .long) (ty := .long) (a0 := (128, .inr (.inl (fun _ => 0)))) hx hb (hts (.arrayClass .long) (by decide +kernel)) rfl hK hP hD hS hA (fun _ => rfl) (by decide) (by decide) (by decide) (Nat.le_of_ble_eq_true rfl) (Nat.le_of_ble_eq_true rfl) dX14_init_56 (fun q6 cA9 H hK hP hD hS => ?_)
  obtain rfl : cA9 = aC 2 := rf_sameA hK 6 2 rfl rfl
  have hK := hK.sub (tys' := rfT aC) [0, 1, 2, 3, 4, 5] rfl
  have hP : va_P (dC, dI) rfCl [(h0, .inr (14, [.int 0, .int 4, .ref q1, .int 0, .ref q2, .ref q5, .null, .null, .long 0])), (q1, .inl (aC 1, 4, .inl (upd (upd (upd (upd (fun _ => 0) ((0 : Int32)).toNatClampNeg 1) ((1 : Int32)).toNatClampNeg 1) ((2 : Int32)).toNatClampNeg 1) ((3 : Int32)).toNatClampNeg 1))), (q2, .inr (13, [.int 0, .ref ev, .int 0])), (q5, .inl (aC 0, 128, .inl (fun _ => 0))), (q6, .inl (aC 2, 128, .inr (.inl (fun _ => 0))))] H := hP
  have hD : va_D A [(h0, .inr (14, [.int 0, .int 4, .ref q1, .int 0, .ref q2, .ref q5, .null, .null, .long 0])), (q1, .inl (aC 1, 4, .inl (upd (upd (upd (upd (fun _ => 0) ((0 : Int32)).toNatClampNeg 1) ((1 : Int32)).toNatClampNeg 1) ((2 : Int32)).toNatClampNeg 1) ((3 : Int32)).toNatClampNeg 1))), (q2, .inr (13, [.int 0, .ref ev, .int 0])), (q5, .inl (aC 0, 128, .inl (fun _ => 0))), (q6, .inl (aC 2, 128, .inr (.inl (fun _ => 0))))] := hD
  refine W.widen (k := 4) (n := 263) (Nat.le_of_ble_eq_true rfl) (Nat.le_of_ble_eq_true rfl) ?_
  refine va_putF (D := (dC, dI)) (ci := 14) (v := .ref q6) (ty := (.array .long)) (C := RX14) (T := TX14) (N := 9) hx hb hts (by decide +kernel) tyX14 tyX14_ok nmX14 hown hK hP hD hS 0 rfl rfl 6 (by decide) (hts (.fieldLink RX14 28 "TransversaryModel" "lows" "[J") (by decide +kernel)) (fun _ h9 => h9) rfl hin rfl (by decide +kernel) rfl rfl (Nat.le_of_ble_eq_true rfl) dX14_init_58 (fun H locs hP hD hS => ?_)
  have hP : va_P (dC, dI) rfCl [(h0, .inr (14, [.int 0, .int 4, .ref q1, .int 0, .ref q2, .ref q5, .ref q6, .null, .long 0])), (q1, .inl (aC 1, 4, .inl (upd (upd (upd (upd (fun _ => 0) ((0 : Int32)).toNatClampNeg 1) ((1 : Int32)).toNatClampNeg 1) ((2 : Int32)).toNatClampNeg 1) ((3 : Int32)).toNatClampNeg 1))), (q2, .inr (13, [.int 0, .ref ev, .int 0])), (q5, .inl (aC 0, 128, .inl (fun _ => 0))), (q6, .inl (aC 2, 128, .inr (.inl (fun _ => 0))))] H := hP
  have hD : va_D A [(h0, .inr (14, [.int 0, .int 4, .ref q1, .int 0, .ref q2, .ref q5, .ref q6, .null, .long 0])), (q1, .inl (aC 1, 4, .inl (upd (upd (upd (upd (fun _ => 0) ((0 : Int32)).toNatClampNeg 1) ((1 : Int32)).toNatClampNeg 1) ((2 : Int32)).toNatClampNeg 1) ((3 : Int32)).toNatClampNeg 1))), (q2, .inr (13, [.int 0, .ref ev, .int 0])), (q5, .inl (aC 0, 128, .inl (fun _ => 0))), (q6, .inl (aC 2, 128, .inr (.inl (fun _ => 0))))] := hD
  refine lv_aload_n hx hb dX14_init_61 rfl (lv_at hl 0 rfl) ?_
  refine lv_sipush (v := 128) hx hb dX14_init_62 (by decide) ?_
  refine va_newa (atype := .long) (ty := .long) (a0 := (128, .inr (.inl (fun _ => 0)))) hx hb (hts (.arrayClass .long) (by decide +kernel)) rfl hK hP hD hS hA (fun _ => rfl) (by decide) (by decide) (by decide) (Nat.le_of_ble_eq_true rfl) (Nat.le_of_ble_eq_true rfl) dX14_init_65 (fun q7 cA9 H hK hP hD hS => ?_)
  obtain rfl : cA9 = aC 2 := rf_sameA hK 6 2 rfl rfl
  have hK := hK.sub (tys' := rfT aC) [0, 1, 2, 3, 4, 5] rfl
  have hP : va_P (dC, dI) rfCl [(h0, .inr (14, [.int 0, .int 4, .ref q1, .int 0, .ref q2, .ref q5, .ref q6, .null, .long 0])), (q1, .inl (aC 1, 4, .inl (upd (upd (upd (upd (fun _ => 0) ((0 : Int32)).toNatClampNeg 1) ((1 : Int32)).toNatClampNeg 1) ((2 : Int32)).toNatClampNeg 1) ((3 : Int32)).toNatClampNeg 1))), (q2, .inr (13, [.int 0, .ref ev, .int 0])), (q5, .inl (aC 0, 128, .inl (fun _ => 0))), (q6, .inl (aC 2, 128, .inr (.inl (fun _ => 0)))), (q7, .inl (aC 2, 128, .inr (.inl (fun _ => 0))))] H := hP
  have hD : va_D A [(h0, .inr (14, [.int 0, .int 4, .ref q1, .int 0, .ref q2, .ref q5, .ref q6, .null, .long 0])), (q1, .inl (aC 1, 4, .inl (upd (upd (upd (upd (fun _ => 0) ((0 : Int32)).toNatClampNeg 1) ((1 : Int32)).toNatClampNeg 1) ((2 : Int32)).toNatClampNeg 1) ((3 : Int32)).toNatClampNeg 1))), (q2, .inr (13, [.int 0, .ref ev, .int 0])), (q5, .inl (aC 0, 128, .inl (fun _ => 0))), (q6, .inl (aC 2, 128, .inr (.inl (fun _ => 0)))), (q7, .inl (aC 2, 128, .inr (.inl (fun _ => 0))))] := hD
  refine W.widen (k := 5) (n := 391) (Nat.le_of_ble_eq_true rfl) (Nat.le_of_ble_eq_true rfl) ?_
  refine va_putF (D := (dC, dI)) (ci := 14) (v := .ref q7) (ty := (.array .long)) (C := RX14) (T := TX14) (N := 9) hx hb hts (by decide +kernel) tyX14 tyX14_ok nmX14 hown hK hP hD hS 0 rfl rfl 7 (by decide) (hts (.fieldLink RX14 32 "TransversaryModel" "highs" "[J") (by decide +kernel)) (fun _ h9 => h9) rfl hin rfl (by decide +kernel) rfl rfl (Nat.le_of_ble_eq_true rfl) dX14_init_67 (fun H locs hP hD hS => ?_)
  have hP : va_P (dC, dI) rfCl [(h0, .inr (14, [.int 0, .int 4, .ref q1, .int 0, .ref q2, .ref q5, .ref q6, .ref q7, .long 0])), (q1, .inl (aC 1, 4, .inl (upd (upd (upd (upd (fun _ => 0) ((0 : Int32)).toNatClampNeg 1) ((1 : Int32)).toNatClampNeg 1) ((2 : Int32)).toNatClampNeg 1) ((3 : Int32)).toNatClampNeg 1))), (q2, .inr (13, [.int 0, .ref ev, .int 0])), (q5, .inl (aC 0, 128, .inl (fun _ => 0))), (q6, .inl (aC 2, 128, .inr (.inl (fun _ => 0)))), (q7, .inl (aC 2, 128, .inr (.inl (fun _ => 0))))] H := hP
  have hD : va_D A [(h0, .inr (14, [.int 0, .int 4, .ref q1, .int 0, .ref q2, .ref q5, .ref q6, .ref q7, .long 0])), (q1, .inl (aC 1, 4, .inl (upd (upd (upd (upd (fun _ => 0) ((0 : Int32)).toNatClampNeg 1) ((1 : Int32)).toNatClampNeg 1) ((2 : Int32)).toNatClampNeg 1) ((3 : Int32)).toNatClampNeg 1))), (q2, .inr (13, [.int 0, .ref ev, .int 0])), (q5, .inl (aC 0, 128, .inl (fun _ => 0))), (q6, .inl (aC 2, 128, .inr (.inl (fun _ => 0)))), (q7, .inl (aC 2, 128, .inr (.inl (fun _ => 0))))] := hD
  have hP9 := hP.sub (ws' := [(h0, .inr (14, [.int 0, .int 4, .ref q1, .int 0, .ref q2, .ref q5, .ref q6, .ref q7, .long 0])), (q2, .inr (13, [.int 0, .ref ev, .int 0]))]) [0, 2] rfl
  have hD9 := hD.sub (ws' := [(h0, .inr (14, [.int 0, .int 4, .ref q1, .int 0, .ref q2, .ref q5, .ref q6, .ref q7, .long 0])), (q2, .inr (13, [.int 0, .ref ev, .int 0]))]) [0, 2] (by decide) rfl
  refine W.widen (k := 5) (n := 391) (Nat.le_of_ble_eq_true rfl) (Nat.le_of_ble_eq_true rfl) ?_
  exact W.vret hx hb hr (fun t ht hW => ⟨⟨(fun k => match k with | 0 => q1 | 1 => q2 | 2 => q5 | 3 => q6 | _ => q7), rfl, trivial, by rw [ht]; exact hP9, hD9⟩, hS.F ht⟩) hS.2.2 dX14_init_70
