set_option maxHeartbeats 4000000 in
set_option maxRecDepth 100000 in
theorem c_X11_checkRange (l : Launch) (dC : Nat → ClassId) (dI : Nat → Nat → Nat) (aC : Nat → ClassId) (sz : Nat) (h0 : Nat) (p0 p1 p2 : Int32) (h1 : ¬ p0 < p1) (h2 : p0 ≤ p2) : Met l yX11_checkRange wsX11_checkRange ({ frames := 1, cells := 0, slots := 0, locals := 0 } : Room) (rf_Pc (dC, dI) aC [.ref h0, .int p0, .int p1, .int p2] [] sz) (va_Sv (fun _ => True)) 0 0 (fun _ => False) := by
  refine Met.ofW (cc := cX11_checkRange) (maxL := 4) (ret := none) (by decide) rfl ?_
  intro p e s m args below meth c s₁ B hml hv
  obtain ⟨rfl, hsz, hP, hKN, hD0⟩ := hv
  obtain ⟨hK, hN⟩ := hKN
  have hx := B.exec
  have hb := B.bytes
  have hr := B.returns
  have hts := atoms_spec (ws := wsX11_checkRange) B.pre
  have hown : s.vm.findClass RX11 = some m.cls := findClass_of_methodNamed B.named
  have hlocks := B.notSynchronized
  subst hsz
  have hD := hD0.self (sz := s.heap.size)
  generalize hAe : va_A [] s.heap.size = A at hD
  have hA : ∀ q : Nat, s.heap.size ≤ q → A q := fun q h => by rw [← hAe]; exact Or.inr h
  have hS : va_S A s.heap s.heap [] := va_S.rf
  have hP : va_P (dC, dI) rfCl [] s.heap := hP
  have hl := lv_entry ([.ref h0, .int p0, .int p1, .int p2]) (n := 4) (Nat.le_of_ble_eq_true rfl)
  rw [lg_entry_eq]
  generalize (lg_sl ([.ref h0, .int p0, .int p1, .int p2]) ++ List.replicate (4 - (lg_sl ([.ref h0, .int p0, .int p1, .int p2])).length) Slot.unset).toArray = ls at hl ⊢
  have hl : lv_has ls 4 [(0, .ref h0), (1, .int p0), (2, .int p1), (3, .int p2)] := hl
  refine lv_iload_n hx hb dX11_checkRange_0 rfl (lv_at hl 1 rfl) ?_
  refine lv_iload_n hx hb dX11_checkRange_1 rfl (lv_at hl 2 rfl) ?_
  refine lv_icmp_lt (tgt := 10) hx hb dX11_checkRange_2 (by decide) (fun c9 => absurd c9 h1) (fun _ => ?_)
  refine lv_iload_n hx hb dX11_checkRange_5 rfl (lv_at hl 1 rfl) ?_
  refine lv_iload_n hx hb dX11_checkRange_6 rfl (lv_at hl 3 rfl) ?_
  refine lv_icmp_le (tgt := 21) hx hb dX11_checkRange_7 (by decide) (fun _ => ?_) (fun c9 => absurd h2 c9)
  exact W.vret hx hb hr (fun t ht hW => ⟨rfl, trivial, ht⟩) (fun q h => nomatch h) dX11_checkRange_21

set_option maxHeartbeats 4000000 in
set_option maxRecDepth 100000 in
theorem c_X11_checkPoint (l : Launch) (dC : Nat → ClassId) (dI : Nat → Nat → Nat) (aC : Nat → ClassId) (sz : Nat) (h0 pt fa pa md rg mk : Nat) (o1 o2 o3 o4 o5 o6 o7 o8 : Value) (fc : Int32) (w : Nat) (f : Nat → Int32) (mny al p0 : Int32) (h1 : ¬ p0 < 0) (h2 : ¬ mny ≤ p0) (h3 : ¬ (7 : Int32) ≤ p0) : Met l yX11_checkPoint wsX11_checkPoint ({ frames := 2, cells := 0, slots := 0, locals := 40 } : Room) (rf_Pc (dC, dI) aC [.ref h0, .int p0] [(h0, .inr (11, [.ref pt, .ref fa, .int fc, .ref pa, o1, .ref md, o2, o3, .ref rg, o4, .ref mk, o5, o6, o7, o8])), (pt, .inr (0, [.ref w, .int mny, .int al])), (w, .inl (aC 1, 7, .inl f))] sz) (va_Sv (fun _ => True)) 0 0 (fun _ => False) := by
  refine Met.ofW (cc := cX11_checkPoint) (maxL := 2) (ret := none) (by decide) rfl ?_
  intro p e s m args below meth c s₁ B hml hv
  obtain ⟨rfl, hsz, hP, hKN, hD0⟩ := hv
  obtain ⟨hK, hN⟩ := hKN
  have hx := B.exec
  have hb := B.bytes
  have hr := B.returns
  have hts := atoms_spec (ws := wsX11_checkPoint) B.pre
  have hown : s.vm.findClass RX11 = some m.cls := findClass_of_methodNamed B.named
  have hlocks := B.notSynchronized
  subst hsz
  have hD := hD0.self (sz := s.heap.size)
  generalize hAe : va_A [(h0, .inr (11, [.ref pt, .ref fa, .int fc, .ref pa, o1, .ref md, o2, o3, .ref rg, o4, .ref mk, o5, o6, o7, o8])), (pt, .inr (0, [.ref w, .int mny, .int al])), (w, .inl (aC 1, 7, .inl f))] s.heap.size = A at hD
  have hA : ∀ q : Nat, s.heap.size ≤ q → A q := fun q h => by rw [← hAe]; exact Or.inr h
  have hS : va_S A s.heap s.heap [] := va_S.rf
  have hP : va_P (dC, dI) rfCl [(h0, .inr (11, [.ref pt, .ref fa, .int fc, .ref pa, o1, .ref md, o2, o3, .ref rg, o4, .ref mk, o5, o6, o7, o8])), (pt, .inr (0, [.ref w, .int mny, .int al])), (w, .inl (aC 1, 7, .inl f))] s.heap := hP
  have hl := lv_entry ([.ref h0, .int p0]) (n := 2) (Nat.le_of_ble_eq_true rfl)
  rw [lg_entry_eq]
  generalize (lg_sl ([.ref h0, .int p0]) ++ List.replicate (2 - (lg_sl ([.ref h0, .int p0])).length) Slot.unset).toArray = ls at hl ⊢
  have hl : lv_has ls 2 [(0, .ref h0), (1, .int p0)] := hl
  refine lv_aload_n hx hb dX11_checkPoint_0 rfl (lv_at hl 0 rfl) ?_
  refine va_get (D := (dC, dI)) (ci := 11) (v := .ref pt) (C := RX11) (T := TX11) (N := 15) hx hb hts (by decide +kernel) hown hK hP 0 rfl rfl 0 (by decide) (hts (.fieldLink RX11 12 "Transversary" "points" "LTransversary$Points;") (by decide +kernel)) (fun _ h9 => h9) rfl dX11_checkPoint_1 ?_
  refine lv_iload_n hx hb dX11_checkPoint_4 rfl (lv_at hl 1 rfl) ?_
  have hPc := hP.sub (ws' := [(pt, .inr (0, [.ref w, .int mny, .int al])), (w, .inl (aC 1, 7, .inl f))]) [1, 2] rfl
  have hDc := hD.sub (ws' := [(pt, .inr (0, [.ref w, .int mny, .int al])), (w, .inl (aC 1, 7, .inl f))]) [1, 2] (by decide) rfl
  refine W.callR (W.runV (As := [.int p0]) (rest := []) ⟨hx, hb, hml, hown, hts⟩ (c_X3_knows l dC dI aC s.heap.size pt w f mny al p0 h1 h2 h3) (cwV 1 hts gX11_checkPoint_X3_knows rfl rfl rfl (by decide +kernel) ⟨Nat.le_of_ble_eq_true rfl, Nat.le_of_ble_eq_true rfl⟩) (rf_pv hK hN hPc hDc (va_recv hK hP (ci := 0) (q0 := 1) rfl rfl)) rfl rfl hl.1 rfl (lv_room (Nat.le_of_ble_eq_true rfl)) dX11_checkPoint_5 ⟨Nat.le_of_ble_eq_true rfl, Nat.le_of_ble_eq_true rfl⟩) ?_
  refine W.eq (g2 := F0 m 8 ls [.int 1]) rfl ?_
  refine lv_if_ne (tgt := 22) hx hb dX11_checkPoint_8 (by decide) (fun _ => ?_) (fun c9 => absurd c9 (by decide))
  exact W.vret hx hb hr (fun t ht hW => ⟨rfl, trivial, ht⟩) (fun q h => nomatch h) dX11_checkPoint_22

set_option maxHeartbeats 4000000 in
set_option maxRecDepth 100000 in
theorem c_X11_checkRoom (l : Launch) (dC : Nat → ClassId) (dI : Nat → Nat → Nat) (aC : Nat → ClassId) (sz : Nat) (h0 pt fa pa md rg mk : Nat) (o1 o2 o3 o4 o5 o6 o7 o8 : Value) (fc : Int32) (h1 : fc < 5) : Met l yX11_checkRoom wsX11_checkRoom ({ frames := 1, cells := 0, slots := 0, locals := 0 } : Room) (rf_Pc (dC, dI) aC [.ref h0] [(h0, .inr (11, [.ref pt, .ref fa, .int fc, .ref pa, o1, .ref md, o2, o3, .ref rg, o4, .ref mk, o5, o6, o7, o8]))] sz) (va_Sv (fun _ => True)) 0 0 (fun _ => False) := by
  refine Met.ofW (cc := cX11_checkRoom) (maxL := 1) (ret := none) (by decide) rfl ?_
  intro p e s m args below meth c s₁ B hml hv
  obtain ⟨rfl, hsz, hP, hKN, hD0⟩ := hv
  obtain ⟨hK, hN⟩ := hKN
  have hx := B.exec
  have hb := B.bytes
  have hr := B.returns
  have hts := atoms_spec (ws := wsX11_checkRoom) B.pre
  have hown : s.vm.findClass RX11 = some m.cls := findClass_of_methodNamed B.named
  have hlocks := B.notSynchronized
  subst hsz
  have hD := hD0.self (sz := s.heap.size)
  generalize hAe : va_A [(h0, .inr (11, [.ref pt, .ref fa, .int fc, .ref pa, o1, .ref md, o2, o3, .ref rg, o4, .ref mk, o5, o6, o7, o8]))] s.heap.size = A at hD
  have hA : ∀ q : Nat, s.heap.size ≤ q → A q := fun q h => by rw [← hAe]; exact Or.inr h
  have hS : va_S A s.heap s.heap [] := va_S.rf
  have hP : va_P (dC, dI) rfCl [(h0, .inr (11, [.ref pt, .ref fa, .int fc, .ref pa, o1, .ref md, o2, o3, .ref rg, o4, .ref mk, o5, o6, o7, o8]))] s.heap := hP
  have hl := lv_entry ([.ref h0]) (n := 1) (Nat.le_of_ble_eq_true rfl)
  rw [lg_entry_eq]
  generalize (lg_sl ([.ref h0]) ++ List.replicate (1 - (lg_sl ([.ref h0])).length) Slot.unset).toArray = ls at hl ⊢
  have hl : lv_has ls 1 [(0, .ref h0)] := hl
  refine lv_aload_n hx hb dX11_checkRoom_0 rfl (lv_at hl 0 rfl) ?_
  refine va_get (D := (dC, dI)) (ci := 11) (v := .int fc) (C := RX11) (T := TX11) (N := 15) hx hb hts (by decide +kernel) hown hK hP 0 rfl rfl 2 (by decide) (hts (.fieldLink RX11 108 "Transversary" "familyCount" "I") (by decide +kernel)) (fun _ h9 => h9) rfl dX11_checkRoom_1 ?_
  refine lv_iconst (v := 5) hx hb dX11_checkRoom_4 (by decide) ?_
  refine lv_icmp_lt (tgt := 19) hx hb dX11_checkRoom_5 (by decide) (fun _ => ?_) (fun c9 => absurd h1 c9)
  exact W.vret hx hb hr (fun t ht hW => ⟨rfl, trivial, ht⟩) (fun q h => nomatch h) dX11_checkRoom_19

set_option maxHeartbeats 4000000 in
set_option maxRecDepth 100000 in
theorem c_X11_ground (l : Launch) (dC : Nat → ClassId) (dI : Nat → Nat → Nat) (aC : Nat → ClassId) (sz : Nat) (h0 pt fa pa md rg mk : Nat) (o1 o2 o3 o4 o5 o6 o7 o8 : Value) (fc : Int32) (w : Nat) (f : Nat → Int32) (mny al : Int32)  : Met l yX11_ground wsX11_ground ({ frames := 3, cells := 0, slots := 0, locals := 80 } : Room) (rf_Pc (dC, dI) aC [.ref h0, .int 7] [(h0, .inr (11, [.ref pt, .ref fa, .int fc, .ref pa, o1, .ref md, o2, o3, .ref rg, o4, .ref mk, o5, o6, o7, o8])), (pt, .inr (0, [.ref w, .int mny, .int al])), (w, .inl (aC 1, 7, .inl f))] sz) (va_Qi (fun (r : Int32) (u : Nat → Int32) => r = 128) (fun (u : Nat → Int32) t => va_P (dC, dI) rfCl [(h0, .inr (11, [.ref pt, .ref fa, .int 0, .ref pa, o1, .ref md, o2, o3, .ref rg, o4, .ref mk, o5, o6, o7, o8])), (pt, .inr (0, [.ref w, .int 7, .int 127])), (w, .inl (aC 1, 7, .inl u))] t.heap ∧ va_D (va_A [(h0, .inr (11, [.ref pt, .ref fa, .int fc, .ref pa, o1, .ref md, o2, o3, .ref rg, o4, .ref mk, o5, o6, o7, o8])), (pt, .inr (0, [.ref w, .int mny, .int al])), (w, .inl (aC 1, 7, .inl f))] sz) [(h0, .inr (11, [.ref pt, .ref fa, .int 0, .ref pa, o1, .ref md, o2, o3, .ref rg, o4, .ref mk, o5, o6, o7, o8])), (pt, .inr (0, [.ref w, .int 7, .int 127])), (w, .inl (aC 1, 7, .inl u))]) (va_A [(h0, .inr (11, [.ref pt, .ref fa, .int fc, .ref pa, o1, .ref md, o2, o3, .ref rg, o4, .ref mk, o5, o6, o7, o8])), (pt, .inr (0, [.ref w, .int mny, .int al])), (w, .inl (aC 1, 7, .inl f))] sz)) 0 0 (va_A [(h0, .inr (11, [.ref pt, .ref fa, .int fc, .ref pa, o1, .ref md, o2, o3, .ref rg, o4, .ref mk, o5, o6, o7, o8])), (pt, .inr (0, [.ref w, .int mny, .int al])), (w, .inl (aC 1, 7, .inl f))] sz) := by
  refine Met.ofW (cc := cX11_ground) (maxL := 2) (ret := (some .int)) (by decide) rfl ?_
  intro p e s m args below meth c s₁ B hml hv
  obtain ⟨rfl, hsz, hP, hKN, hD0⟩ := hv
  obtain ⟨hK, hN⟩ := hKN
  have hx := B.exec
  have hb := B.bytes
  have hr := B.returns
  have hts := atoms_spec (ws := wsX11_ground) B.pre
  have hown : s.vm.findClass RX11 = some m.cls := findClass_of_methodNamed B.named
  have hlocks := B.notSynchronized
  subst hsz
  have hD := hD0.self (sz := s.heap.size)
  generalize hAe : va_A [(h0, .inr (11, [.ref pt, .ref fa, .int fc, .ref pa, o1, .ref md, o2, o3, .ref rg, o4, .ref mk, o5, o6, o7, o8])), (pt, .inr (0, [.ref w, .int mny, .int al])), (w, .inl (aC 1, 7, .inl f))] s.heap.size = A at hD ⊢
  have hA : ∀ q : Nat, s.heap.size ≤ q → A q := fun q h => by rw [← hAe]; exact Or.inr h
  have hS : va_S A s.heap s.heap [] := va_S.rf
  have hP : va_P (dC, dI) rfCl [(h0, .inr (11, [.ref pt, .ref fa, .int fc, .ref pa, o1, .ref md, o2, o3, .ref rg, o4, .ref mk, o5, o6, o7, o8])), (pt, .inr (0, [.ref w, .int mny, .int al])), (w, .inl (aC 1, 7, .inl f))] s.heap := hP
  have hl := lv_entry ([.ref h0, .int 7]) (n := 2) (Nat.le_of_ble_eq_true rfl)
  rw [lg_entry_eq]
  generalize (lg_sl ([.ref h0, .int 7]) ++ List.replicate (2 - (lg_sl ([.ref h0, .int 7])).length) Slot.unset).toArray = ls at hl ⊢
  have hl : lv_has ls 2 [(0, .ref h0), (1, .int 7)] := hl
  refine lv_aload_n hx hb dX11_ground_0 rfl (lv_at hl 0 rfl) ?_
  refine lv_iload_n hx hb dX11_ground_1 rfl (lv_at hl 1 rfl) ?_
  refine lv_iconst (v := 2) hx hb dX11_ground_2 (by decide) ?_
  refine lv_bipush (v := 7) hx hb dX11_ground_3 (by decide) ?_
  have hPc := hP.sub (ws' := []) [] rfl
  have hDc := hD.sub (ws' := []) [] (by decide) rfl
  refine va_csv (W.runV (As := [.int 7, .int 2, .int 7]) (rest := []) ⟨hx, hb, hml, hown, hts⟩ (c_X11_checkRange l dC dI aC s.heap.size h0 7 2 7 (by decide) (by decide)) (cwV 3 hts gX11_ground_X11_checkRange rfl rfl rfl (by decide +kernel) ⟨Nat.le_of_ble_eq_true rfl, Nat.le_of_ble_eq_true rfl⟩) (rf_pv hK hN hPc hDc (va_recv hK hP (ci := 11) (q0 := 0) rfl rfl)) rfl rfl hl.1 rfl (lv_room (Nat.le_of_ble_eq_true rfl)) dX11_ground_5 ⟨Nat.le_of_ble_eq_true rfl, Nat.le_of_ble_eq_true rfl⟩) (fun _ => ?_)
  refine lv_aload_n hx hb dX11_ground_8 rfl (lv_at hl 0 rfl) ?_
  refine va_get (D := (dC, dI)) (ci := 11) (v := .ref pt) (C := RX11) (T := TX11) (N := 15) hx hb hts (by decide +kernel) hown hK hP 0 rfl rfl 0 (by decide) (hts (.fieldLink RX11 12 "Transversary" "points" "LTransversary$Points;") (by decide +kernel)) (fun _ h9 => h9) rfl dX11_ground_9 ?_
  refine lv_iload_n hx hb dX11_ground_12 rfl (lv_at hl 1 rfl) ?_
  have hPc := hP.sub (ws' := [(pt, .inr (0, [.ref w, .int mny, .int al])), (w, .inl (aC 1, 7, .inl f))]) [1, 2] rfl
  have hDc := hD.sub (ws' := [(pt, .inr (0, [.ref w, .int mny, .int al])), (w, .inl (aC 1, 7, .inl f))]) [1, 2] (by decide) rfl
  have hFc := va_free (wc := [(pt, .inr (0, [.ref w, .int mny, .int al])), (w, .inl (aC 1, 7, .inl f))]) hD hS hA [1, 2] rfl
  refine va_callv (va_runV (As := [.int 7]) (rest := []) ⟨hx, hb, hml, hown, hts⟩ (c_X3_begin l dC dI aC s.heap.size pt w f mny al 7 128 127 (by decide) (by decide)) (cwV 1 hts gX11_ground_X3_begin rfl rfl rfl (by decide +kernel) ⟨Nat.le_of_ble_eq_true rfl, Nat.le_of_ble_eq_true rfl⟩) (rf_pv hK hN hPc hDc (va_recv hK hP (ci := 0) (q0 := 1) rfl rfl)) rfl rfl hl.1 rfl (lv_room (Nat.le_of_ble_eq_true rfl)) dX11_ground_13 ⟨Nat.le_of_ble_eq_true rfl, Nat.le_of_ble_eq_true rfl⟩) hS (fun q _ h => hFc q h) hFc (fun u1 t H1 locs ht hvm hwu1 hB hz1 hk1 hS => ?_)
  obtain ⟨hP1, hD1⟩ := hB
  rw [ht] at hP1
  try dsimp only at hwu1 hP1 hD1
  obtain ⟨hP, hD⟩ := va_join (wr := [(h0, .inr (11, [.ref pt, .ref fa, .int fc, .ref pa, o1, .ref md, o2, o3, .ref rg, o4, .ref mk, o5, o6, o7, o8]))]) (w1 := [(pt, .inr (0, [.ref w, .int 7, .int 127])), (w, .inl (aC 1, 7, .inl u1))]) hP hD [1, 2] [0] rfl rfl (by decide) (by decide) hk1 hFc hP1 hD1
  clear hP1 hD1 hPc hDc hFc
  generalize H1 = H at hP hS ⊢
  have hP : va_P (dC, dI) rfCl [(h0, .inr (11, [.ref pt, .ref fa, .int fc, .ref pa, o1, .ref md, o2, o3, .ref rg, o4, .ref mk, o5, o6, o7, o8])), (pt, .inr (0, [.ref w, .int 7, .int 127])), (w, .inl (aC 1, 7, .inl u1))] H := hP
  have hD : va_D A [(h0, .inr (11, [.ref pt, .ref fa, .int fc, .ref pa, o1, .ref md, o2, o3, .ref rg, o4, .ref mk, o5, o6, o7, o8])), (pt, .inr (0, [.ref w, .int 7, .int 127])), (w, .inl (aC 1, 7, .inl u1))] := hD
  refine W.widen (k := 0) (n := 0) (Nat.le_of_ble_eq_true rfl) (Nat.le_of_ble_eq_true rfl) ?_
  refine lv_aload_n hx hb dX11_ground_16 rfl (lv_at hl 0 rfl) ?_
  refine lv_iconst (v := 0) hx hb dX11_ground_17 (by decide) ?_
  refine va_put (D := (dC, dI)) (ci := 11) (v := .int 0) (ty := .int) (C := RX11) (T := TX11) (N := 15) hx hb hts (by decide +kernel) tyX11 tyX11_ok nmX11 hown hK hP hD hS 0 rfl rfl 2 (by decide) (hts (.fieldLink RX11 108 "Transversary" "familyCount" "I") (by decide +kernel)) (fun _ h9 => h9) rfl (by decide +kernel) rfl rfl (Nat.le_of_ble_eq_true rfl) dX11_ground_18 (fun H locs hP hD hS => ?_)
  have hP : va_P (dC, dI) rfCl [(h0, .inr (11, [.ref pt, .ref fa, .int 0, .ref pa, o1, .ref md, o2, o3, .ref rg, o4, .ref mk, o5, o6, o7, o8])), (pt, .inr (0, [.ref w, .int 7, .int 127])), (w, .inl (aC 1, 7, .inl u1))] H := hP
  have hD : va_D A [(h0, .inr (11, [.ref pt, .ref fa, .int 0, .ref pa, o1, .ref md, o2, o3, .ref rg, o4, .ref mk, o5, o6, o7, o8])), (pt, .inr (0, [.ref w, .int 7, .int 127])), (w, .inl (aC 1, 7, .inl u1))] := hD
  refine lv_aload_n hx hb dX11_ground_21 rfl (lv_at hl 0 rfl) ?_
  refine va_get (D := (dC, dI)) (ci := 11) (v := .ref pt) (C := RX11) (T := TX11) (N := 15) hx hb hts (by decide +kernel) hown hK hP 0 rfl rfl 0 (by decide) (hts (.fieldLink RX11 12 "Transversary" "points" "LTransversary$Points;") (by decide +kernel)) (fun _ h9 => h9) rfl dX11_ground_22 ?_
  have hPc := hP.sub (ws' := [(pt, .inr (0, [.ref w, .int 7, .int 127]))]) [1] rfl
  have hDc := hD.sub (ws' := [(pt, .inr (0, [.ref w, .int 7, .int 127]))]) [1] (by decide) rfl
  refine W.callR (W.runV (As := []) (rest := []) ⟨hx, hb, hml, hown, hts⟩ (c_X3_howManySets l dC dI aC H.size pt (.ref w) 7 127 128 (by decide)) (cwV 0 hts gX11_ground_X3_howManySets rfl rfl rfl (by decide +kernel) ⟨Nat.le_of_ble_eq_true rfl, Nat.le_of_ble_eq_true rfl⟩) (rf_pv hK hN hPc hDc (va_recv hK hP (ci := 0) (q0 := 1) rfl rfl)) rfl rfl hl.1 rfl (lv_room (Nat.le_of_ble_eq_true rfl)) dX11_ground_25 ⟨Nat.le_of_ble_eq_true rfl, Nat.le_of_ble_eq_true rfl⟩) ?_
  refine W.eq (g2 := F0 m 28 ls [.int 128]) rfl ?_
  have hP9 := hP.sub (ws' := [(h0, .inr (11, [.ref pt, .ref fa, .int 0, .ref pa, o1, .ref md, o2, o3, .ref rg, o4, .ref mk, o5, o6, o7, o8])), (pt, .inr (0, [.ref w, .int 7, .int 127])), (w, .inl (aC 1, 7, .inl u1))]) [0, 1, 2] rfl
  have hD9 := hD.sub (ws' := [(h0, .inr (11, [.ref pt, .ref fa, .int 0, .ref pa, o1, .ref md, o2, o3, .ref rg, o4, .ref mk, o5, o6, o7, o8])), (pt, .inr (0, [.ref w, .int 7, .int 127])), (w, .inl (aC 1, 7, .inl u1))]) [0, 1, 2] (by decide) rfl
  refine W.widen (k := 0) (n := 0) (Nat.le_of_ble_eq_true rfl) (Nat.le_of_ble_eq_true rfl) ?_
  exact W.iret (v := 128) hx hb hr (fun t ht hW => ⟨⟨128, u1, rfl, rfl, by rw [ht]; exact hP9, hD9⟩, hS.F ht⟩) hS.2.2 dX11_ground_28

set_option maxHeartbeats 4000000 in
set_option maxRecDepth 100000 in
theorem c_X11_die (l : Launch) (dC : Nat → ClassId) (dI : Nat → Nat → Nat) (aC : Nat → ClassId) (sz : Nat) (h0 pt fa pa md rg mk : Nat) (o1 o2 o3 o4 o5 o6 o7 o8 : Value) (fc : Int32) (w : Nat) (f : Nat → Int32) (mny al p0 al2 : Int32) (h1 : ¬ p0 < 0) (h2 : ¬ mny ≤ p0) (h3 : ¬ (7 : Int32) ≤ p0) (h4 : al &&& (((1 : Int32) <<< (p0 &&& 31)) ^^^ (-1)) = al2) : Met l yX11_die wsX11_die ({ frames := 4, cells := 0, slots := 0, locals := 120 } : Room) (rf_Pc (dC, dI) aC [.ref h0, .int p0, .int 1] [(h0, .inr (11, [.ref pt, .ref fa, .int fc, .ref pa, o1, .ref md, o2, o3, .ref rg, o4, .ref mk, o5, o6, o7, o8])), (pt, .inr (0, [.ref w, .int mny, .int al])), (w, .inl (aC 1, 7, .inl f))] sz) (va_Qi (fun (r : Int32) (u : Unit) => True) (fun (u : Unit) t => va_P (dC, dI) rfCl [(h0, .inr (11, [.ref pt, .ref fa, .int fc, .ref pa, o1, .ref md, o2, o3, .ref rg, o4, .ref mk, o5, o6, o7, o8])), (pt, .inr (0, [.ref w, .int mny, .int al2])), (w, .inl (aC 1, 7, .inl f))] t.heap ∧ va_D (va_A [(h0, .inr (11, [.ref pt, .ref fa, .int fc, .ref pa, o1, .ref md, o2, o3, .ref rg, o4, .ref mk, o5, o6, o7, o8])), (pt, .inr (0, [.ref w, .int mny, .int al])), (w, .inl (aC 1, 7, .inl f))] sz) [(h0, .inr (11, [.ref pt, .ref fa, .int fc, .ref pa, o1, .ref md, o2, o3, .ref rg, o4, .ref mk, o5, o6, o7, o8])), (pt, .inr (0, [.ref w, .int mny, .int al2])), (w, .inl (aC 1, 7, .inl f))]) (va_A [(h0, .inr (11, [.ref pt, .ref fa, .int fc, .ref pa, o1, .ref md, o2, o3, .ref rg, o4, .ref mk, o5, o6, o7, o8])), (pt, .inr (0, [.ref w, .int mny, .int al])), (w, .inl (aC 1, 7, .inl f))] sz)) 0 0 (va_A [(h0, .inr (11, [.ref pt, .ref fa, .int fc, .ref pa, o1, .ref md, o2, o3, .ref rg, o4, .ref mk, o5, o6, o7, o8])), (pt, .inr (0, [.ref w, .int mny, .int al])), (w, .inl (aC 1, 7, .inl f))] sz) := by
  refine Met.ofW (cc := cX11_die) (maxL := 3) (ret := (some .int)) (by decide) rfl ?_
  intro p e s m args below meth c s₁ B hml hv
  obtain ⟨rfl, hsz, hP, hKN, hD0⟩ := hv
  obtain ⟨hK, hN⟩ := hKN
  have hx := B.exec
  have hb := B.bytes
  have hr := B.returns
  have hts := atoms_spec (ws := wsX11_die) B.pre
  have hown : s.vm.findClass RX11 = some m.cls := findClass_of_methodNamed B.named
  have hlocks := B.notSynchronized
  subst hsz
  have hD := hD0.self (sz := s.heap.size)
  generalize hAe : va_A [(h0, .inr (11, [.ref pt, .ref fa, .int fc, .ref pa, o1, .ref md, o2, o3, .ref rg, o4, .ref mk, o5, o6, o7, o8])), (pt, .inr (0, [.ref w, .int mny, .int al])), (w, .inl (aC 1, 7, .inl f))] s.heap.size = A at hD ⊢
  have hA : ∀ q : Nat, s.heap.size ≤ q → A q := fun q h => by rw [← hAe]; exact Or.inr h
  have hS : va_S A s.heap s.heap [] := va_S.rf
  have hP : va_P (dC, dI) rfCl [(h0, .inr (11, [.ref pt, .ref fa, .int fc, .ref pa, o1, .ref md, o2, o3, .ref rg, o4, .ref mk, o5, o6, o7, o8])), (pt, .inr (0, [.ref w, .int mny, .int al])), (w, .inl (aC 1, 7, .inl f))] s.heap := hP
  have hl := lv_entry ([.ref h0, .int p0, .int 1]) (n := 3) (Nat.le_of_ble_eq_true rfl)
  rw [lg_entry_eq]
  generalize (lg_sl ([.ref h0, .int p0, .int 1]) ++ List.replicate (3 - (lg_sl ([.ref h0, .int p0, .int 1])).length) Slot.unset).toArray = ls at hl ⊢
  have hl : lv_has ls 3 [(0, .ref h0), (1, .int p0), (2, .int 1)] := hl
  refine lv_aload_n hx hb dX11_die_0 rfl (lv_at hl 0 rfl) ?_
  refine lv_iload_n hx hb dX11_die_1 rfl (lv_at hl 1 rfl) ?_
  have hPc := hP.sub (ws' := [(h0, .inr (11, [.ref pt, .ref fa, .int fc, .ref pa, o1, .ref md, o2, o3, .ref rg, o4, .ref mk, o5, o6, o7, o8])), (pt, .inr (0, [.ref w, .int mny, .int al])), (w, .inl (aC 1, 7, .inl f))]) [0, 1, 2] rfl
  have hDc := hD.sub (ws' := [(h0, .inr (11, [.ref pt, .ref fa, .int fc, .ref pa, o1, .ref md, o2, o3, .ref rg, o4, .ref mk, o5, o6, o7, o8])), (pt, .inr (0, [.ref w, .int mny, .int al])), (w, .inl (aC 1, 7, .inl f))]) [0, 1, 2] (by decide) rfl
  refine va_csv (W.runV (As := [.int p0]) (rest := []) ⟨hx, hb, hml, hown, hts⟩ (c_X11_checkPoint l dC dI aC s.heap.size h0 pt fa pa md rg mk o1 o2 o3 o4 o5 o6 o7 o8 fc w f mny al p0 h1 h2 h3) (cwV 1 hts gX11_die_X11_checkPoint rfl rfl rfl (by decide +kernel) ⟨Nat.le_of_ble_eq_true rfl, Nat.le_of_ble_eq_true rfl⟩) (rf_pv hK hN hPc hDc (va_recv hK hP (ci := 11) (q0 := 0) rfl rfl)) rfl rfl hl.1 rfl (lv_room (Nat.le_of_ble_eq_true rfl)) dX11_die_2 ⟨Nat.le_of_ble_eq_true rfl, Nat.le_of_ble_eq_true rfl⟩) (fun _ => ?_)
  refine lv_aload_n hx hb dX11_die_5 rfl (lv_at hl 0 rfl) ?_
  refine va_get (D := (dC, dI)) (ci := 11) (v := .ref pt) (C := RX11) (T := TX11) (N := 15) hx hb hts (by decide +kernel) hown hK hP 0 rfl rfl 0 (by decide) (hts (.fieldLink RX11 12 "Transversary" "points" "LTransversary$Points;") (by decide +kernel)) (fun _ h9 => h9) rfl dX11_die_6 ?_
  refine lv_iload_n hx hb dX11_die_9 rfl (lv_at hl 1 rfl) ?_
  refine lv_iload_n hx hb dX11_die_10 rfl (lv_at hl 2 rfl) ?_
  have hPc := hP.sub (ws' := [(pt, .inr (0, [.ref w, .int mny, .int al])), (w, .inl (aC 1, 7, .inl f))]) [1, 2] rfl
  have hDc := hD.sub (ws' := [(pt, .inr (0, [.ref w, .int mny, .int al])), (w, .inl (aC 1, 7, .inl f))]) [1, 2] (by decide) rfl
  have hFc := va_free (wc := [(pt, .inr (0, [.ref w, .int mny, .int al])), (w, .inl (aC 1, 7, .inl f))]) hD hS hA [1, 2] rfl
  refine va_callv (va_runV (As := [.int p0, .int 1]) (rest := []) ⟨hx, hb, hml, hown, hts⟩ (c_X3_tellDeath l dC dI aC s.heap.size pt w f mny al p0 al2 h1 h2 h3 h4) (cwV 2 hts gX11_die_X3_tellDeath rfl rfl rfl (by decide +kernel) ⟨Nat.le_of_ble_eq_true rfl, Nat.le_of_ble_eq_true rfl⟩) (rf_pv hK hN hPc hDc (va_recv hK hP (ci := 0) (q0 := 1) rfl rfl)) rfl rfl hl.1 rfl (lv_room (Nat.le_of_ble_eq_true rfl)) dX11_die_11 ⟨Nat.le_of_ble_eq_true rfl, Nat.le_of_ble_eq_true rfl⟩) hS (fun q _ h => hFc q h) hFc (fun u1 t H1 locs ht hvm hwu1 hB hz1 hk1 hS => ?_)
  obtain ⟨hP1, hD1⟩ := hB
  rw [ht] at hP1
  try dsimp only at hwu1 hP1 hD1
  obtain ⟨hP, hD⟩ := va_join (wr := [(h0, .inr (11, [.ref pt, .ref fa, .int fc, .ref pa, o1, .ref md, o2, o3, .ref rg, o4, .ref mk, o5, o6, o7, o8]))]) (w1 := [(pt, .inr (0, [.ref w, .int mny, .int al2])), (w, .inl (aC 1, 7, .inl f))]) hP hD [1, 2] [0] rfl rfl (by decide) (by decide) hk1 hFc hP1 hD1
  clear hP1 hD1 hPc hDc hFc
  generalize H1 = H at hP hS ⊢
  have hP : va_P (dC, dI) rfCl [(h0, .inr (11, [.ref pt, .ref fa, .int fc, .ref pa, o1, .ref md, o2, o3, .ref rg, o4, .ref mk, o5, o6, o7, o8])), (pt, .inr (0, [.ref w, .int mny, .int al2])), (w, .inl (aC 1, 7, .inl f))] H := hP
  have hD : va_D A [(h0, .inr (11, [.ref pt, .ref fa, .int fc, .ref pa, o1, .ref md, o2, o3, .ref rg, o4, .ref mk, o5, o6, o7, o8])), (pt, .inr (0, [.ref w, .int mny, .int al2])), (w, .inl (aC 1, 7, .inl f))] := hD
  refine W.widen (k := 0) (n := 0) (Nat.le_of_ble_eq_true rfl) (Nat.le_of_ble_eq_true rfl) ?_
  refine lv_aload_n hx hb dX11_die_14 rfl (lv_at hl 0 rfl) ?_
  refine va_get (D := (dC, dI)) (ci := 11) (v := .ref pt) (C := RX11) (T := TX11) (N := 15) hx hb hts (by decide +kernel) hown hK hP 0 rfl rfl 0 (by decide) (hts (.fieldLink RX11 12 "Transversary" "points" "LTransversary$Points;") (by decide +kernel)) (fun _ h9 => h9) rfl dX11_die_15 ?_
  have hPc := hP.sub (ws' := [(pt, .inr (0, [.ref w, .int mny, .int al2]))]) [1] rfl
  have hDc := hD.sub (ws' := [(pt, .inr (0, [.ref w, .int mny, .int al2]))]) [1] (by decide) rfl
  refine W.callA (W.runV (As := []) (rest := []) ⟨hx, hb, hml, hown, hts⟩ (c_X3_howManyAlive l dC dI aC H.size pt (.ref w) mny al2) (cwV 0 hts gX11_die_X3_howManyAlive rfl rfl rfl (by decide +kernel) ⟨Nat.le_of_ble_eq_true rfl, Nat.le_of_ble_eq_true rfl⟩) (rf_pv hK hN hPc hDc (va_recv hK hP (ci := 0) (q0 := 1) rfl rfl)) rfl rfl hl.1 rfl (lv_room (Nat.le_of_ble_eq_true rfl)) dX11_die_18 ⟨Nat.le_of_ble_eq_true rfl, Nat.le_of_ble_eq_true rfl⟩) (fun t3 => ?_)
  refine W.eq (g2 := F0 m 21 ls [.int t3]) rfl ?_
  have hP9 := hP.sub (ws' := [(h0, .inr (11, [.ref pt, .ref fa, .int fc, .ref pa, o1, .ref md, o2, o3, .ref rg, o4, .ref mk, o5, o6, o7, o8])), (pt, .inr (0, [.ref w, .int mny, .int al2])), (w, .inl (aC 1, 7, .inl f))]) [0, 1, 2] rfl
  have hD9 := hD.sub (ws' := [(h0, .inr (11, [.ref pt, .ref fa, .int fc, .ref pa, o1, .ref md, o2, o3, .ref rg, o4, .ref mk, o5, o6, o7, o8])), (pt, .inr (0, [.ref w, .int mny, .int al2])), (w, .inl (aC 1, 7, .inl f))]) [0, 1, 2] (by decide) rfl
  refine W.widen (k := 0) (n := 0) (Nat.le_of_ble_eq_true rfl) (Nat.le_of_ble_eq_true rfl) ?_
  exact W.iret (v := t3) hx hb hr (fun t ht hW => ⟨⟨t3, (), rfl, trivial, by rw [ht]; exact hP9, hD9⟩, hS.F ht⟩) hS.2.2 dX11_die_21

set_option maxHeartbeats 4000000 in
set_option maxRecDepth 100000 in
theorem c_X7_copy (l : Launch) (dC : Nat → ClassId) (dI : Nat → Nat → Nat) (aC : Nat → ClassId) (sz : Nat) (h0 b : Nat) (r : Value) (f : Nat → Int32) (mny : Int32) (h1 : Nat) (b1 r1 : Value)  : Met l yX7_copy wsX7_copy ({ frames := 2, cells := 0, slots := 0, locals := 40 } : Room) (rf_Pc (dC, dI) aC [.ref h0, .ref h1] [(h0, .inr (1, [.ref b, r, .int mny])), (b, .inl (aC 0, 128, .inl f)), (h1, .inr (1, [b1, r1, .int 0]))] sz) (va_Qv (fun (u : Nat → Int32) => True) (fun (u : Nat → Int32) t => va_P (dC, dI) rfCl [(h0, .inr (1, [.ref b, r, .int 0])), (b, .inl (aC 0, 128, .inl u)), (h1, .inr (1, [b1, r1, .int 0]))] t.heap ∧ va_D (va_A [(h0, .inr (1, [.ref b, r, .int mny])), (b, .inl (aC 0, 128, .inl f)), (h1, .inr (1, [b1, r1, .int 0]))] sz) [(h0, .inr (1, [.ref b, r, .int 0])), (b, .inl (aC 0, 128, .inl u)), (h1, .inr (1, [b1, r1, .int 0]))]) (va_A [(h0, .inr (1, [.ref b, r, .int mny])), (b, .inl (aC 0, 128, .inl f)), (h1, .inr (1, [b1, r1, .int 0]))] sz)) 0 0 (va_A [(h0, .inr (1, [.ref b, r, .int mny])), (b, .inl (aC 0, 128, .inl f)), (h1, .inr (1, [b1, r1, .int 0]))] sz) := by
  refine Met.ofW (cc := cX7_copy) (maxL := 3) (ret := none) (by decide) rfl ?_
  intro p e s m args below meth c s₁ B hml hv
  obtain ⟨rfl, hsz, hP, hKN, hD0⟩ := hv
  obtain ⟨hK, hN⟩ := hKN
  have hx := B.exec
  have hb := B.bytes
  have hr := B.returns
  have hts := atoms_spec (ws := wsX7_copy) B.pre
  have hown : s.vm.findClass RX7 = some m.cls := findClass_of_methodNamed B.named
  have hlocks := B.notSynchronized
  subst hsz
  have hD := hD0.self (sz := s.heap.size)
  generalize hAe : va_A [(h0, .inr (1, [.ref b, r, .int mny])), (b, .inl (aC 0, 128, .inl f)), (h1, .inr (1, [b1, r1, .int 0]))] s.heap.size = A at hD ⊢
  have hA : ∀ q : Nat, s.heap.size ≤ q → A q := fun q h => by rw [← hAe]; exact Or.inr h
  have hS : va_S A s.heap s.heap [] := va_S.rf
  have hP : va_P (dC, dI) rfCl [(h0, .inr (1, [.ref b, r, .int mny])), (b, .inl (aC 0, 128, .inl f)), (h1, .inr (1, [b1, r1, .int 0]))] s.heap := hP
  have hl := lv_entry ([.ref h0, .ref h1]) (n := 3) (Nat.le_of_ble_eq_true rfl)
  rw [lg_entry_eq]
  generalize (lg_sl ([.ref h0, .ref h1]) ++ List.replicate (3 - (lg_sl ([.ref h0, .ref h1])).length) Slot.unset).toArray = ls at hl ⊢
  have hl : lv_has ls 3 [(0, .ref h0), (1, .ref h1)] := hl
  refine lv_aload_n hx hb dX7_copy_0 rfl (lv_at hl 0 rfl) ?_
  have hPc := hP.sub (ws' := [(h0, .inr (1, [.ref b, r, .int mny])), (b, .inl (aC 0, 128, .inl f))]) [0, 1] rfl
  have hDc := hD.sub (ws' := [(h0, .inr (1, [.ref b, r, .int mny])), (b, .inl (aC 0, 128, .inl f))]) [0, 1] (by decide) rfl
  have hFc := va_free (wc := [(h0, .inr (1, [.ref b, r, .int mny])), (b, .inl (aC 0, 128, .inl f))]) hD hS hA [0, 1] rfl
  refine va_callv (va_runV (As := []) (rest := []) ⟨hx, hb, hml, hown, hts⟩ (c_X7_clear l dC dI aC s.heap.size h0 b r f mny) (cwV 0 hts gX7_copy_X7_clear rfl rfl rfl (by decide +kernel) ⟨Nat.le_of_ble_eq_true rfl, Nat.le_of_ble_eq_true rfl⟩) (rf_pv hK hN hPc hDc (va_recv hK hP (ci := 1) (q0 := 0) rfl rfl)) rfl rfl hl.1 rfl (lv_room (Nat.le_of_ble_eq_true rfl)) dX7_copy_1 ⟨Nat.le_of_ble_eq_true rfl, Nat.le_of_ble_eq_true rfl⟩) hS (fun q _ h => hFc q h) hFc (fun u1 t H1 locs ht hvm hwu1 hB hz1 hk1 hS => ?_)
  obtain ⟨hP1, hD1⟩ := hB
  rw [ht] at hP1
  try dsimp only at hwu1 hP1 hD1
  obtain ⟨hP, hD⟩ := va_join (wr := [(h1, .inr (1, [b1, r1, .int 0]))]) (w1 := [(h0, .inr (1, [.ref b, r, .int 0])), (b, .inl (aC 0, 128, .inl u1))]) hP hD [0, 1] [2] rfl rfl (by decide) (by decide) hk1 hFc hP1 hD1
  clear hP1 hD1 hPc hDc hFc
  generalize H1 = H at hP hS ⊢
  have hP : va_P (dC, dI) rfCl [(h1, .inr (1, [b1, r1, .int 0])), (h0, .inr (1, [.ref b, r, .int 0])), (b, .inl (aC 0, 128, .inl u1))] H := hP
  have hD : va_D A [(h1, .inr (1, [b1, r1, .int 0])), (h0, .inr (1, [.ref b, r, .int 0])), (b, .inl (aC 0, 128, .inl u1))] := hD
  refine W.widen (k := 0) (n := 0) (Nat.le_of_ble_eq_true rfl) (Nat.le_of_ble_eq_true rfl) ?_
  refine lv_iconst (v := 0) hx hb dX7_copy_4 (by decide) ?_
  refine lv_istore_n (lv' := [(2, .int 0), (0, .ref h0), (1, .ref h1)]) hx hb dX7_copy_5 rfl hl (by decide) rfl (fun ls hl => ?_)
  refine lv_iload_n hx hb dX7_copy_6 rfl (lv_at hl 0 rfl) ?_
  refine lv_aload_n hx hb dX7_copy_7 rfl (lv_at hl 2 rfl) ?_
  have hPc := hP.sub (ws' := [(h1, .inr (1, [b1, r1, .int 0]))]) [0] rfl
  have hDc := hD.sub (ws' := [(h1, .inr (1, [b1, r1, .int 0]))]) [0] (by decide) rfl
  refine W.callR (W.runV (As := []) (rest := [.int 0]) ⟨hx, hb, hml, hown, hts⟩ (c_X7_many l dC dI aC H.size h1 b1 r1 0) (cwV 0 hts gX7_copy_X7_many rfl rfl rfl (by decide +kernel) ⟨Nat.le_of_ble_eq_true rfl, Nat.le_of_ble_eq_true rfl⟩) (rf_pv hK hN hPc hDc (va_recv hK hP (ci := 1) (q0 := 0) rfl rfl)) rfl rfl hl.1 rfl (lv_room (Nat.le_of_ble_eq_true rfl)) dX7_copy_8 ⟨Nat.le_of_ble_eq_true rfl, Nat.le_of_ble_eq_true rfl⟩) ?_
  refine W.eq (g2 := F0 m 11 ls [.int 0, .int 0]) rfl ?_
  refine lv_icmp_ge (tgt := 29) hx hb dX7_copy_11 (by decide) (fun _ => ?_) (fun c9 => absurd (by decide) c9)
  have hP9 := hP.sub (ws' := [(h0, .inr (1, [.ref b, r, .int 0])), (b, .inl (aC 0, 128, .inl u1)), (h1, .inr (1, [b1, r1, .int 0]))]) [1, 2, 0] rfl
  have hD9 := hD.sub (ws' := [(h0, .inr (1, [.ref b, r, .int 0])), (b, .inl (aC 0, 128, .inl u1)), (h1, .inr (1, [b1, r1, .int 0]))]) [1, 2, 0] (by decide) rfl
  refine W.widen (k := 0) (n := 0) (Nat.le_of_ble_eq_true rfl) (Nat.le_of_ble_eq_true rfl) ?_
  exact W.vret hx hb hr (fun t ht hW => ⟨⟨u1, rfl, trivial, by rw [ht]; exact hP9, hD9⟩, hS.F ht⟩) hS.2.2 dX7_copy_29

set_option maxHeartbeats 4000000 in
set_option maxRecDepth 100000 in
theorem c_X11_keep (l : Launch) (dC : Nat → ClassId) (dI : Nat → Nat → Nat) (aC : Nat → ClassId) (sz : Nat) (h0 pt fa pa md rg mk : Nat) (o1 o2 o3 o4 o5 o6 o7 o8 : Value) (ff : Nat → Option Nat) (s0 b0 : Nat) (r0 : Value) (f0 : Nat → Int32) (m0 : Int32) (b1 r1 : Value) (hf : ff 0 = some s0) : Met l yX11_keep wsX11_keep ({ frames := 3, cells := 0, slots := 0, locals := 80 } : Room) (rf_Pc (dC, dI) aC [.ref h0, .ref md] [(h0, .inr (11, [.ref pt, .ref fa, .int 0, .ref pa, o1, .ref md, o2, o3, .ref rg, o4, .ref mk, o5, o6, o7, o8])), (fa, .inl (aC 4, 5, .inr (.inr (.inr (.inr ff))))), (s0, .inr (1, [.ref b0, r0, .int m0])), (b0, .inl (aC 0, 128, .inl f0)), (md, .inr (1, [b1, r1, .int 0]))] sz) (va_Qi (fun (r : Int32) (u : Nat → Int32) => r = 0) (fun (u : Nat → Int32) t => va_P (dC, dI) rfCl [(h0, .inr (11, [.ref pt, .ref fa, .int 1, .ref pa, o1, .ref md, o2, o3, .ref rg, o4, .ref mk, o5, o6, o7, o8])), (fa, .inl (aC 4, 5, .inr (.inr (.inr (.inr ff))))), (s0, .inr (1, [.ref b0, r0, .int 0])), (b0, .inl (aC 0, 128, .inl u)), (md, .inr (1, [b1, r1, .int 0]))] t.heap ∧ va_D (va_A [(h0, .inr (11, [.ref pt, .ref fa, .int 0, .ref pa, o1, .ref md, o2, o3, .ref rg, o4, .ref mk, o5, o6, o7, o8])), (fa, .inl (aC 4, 5, .inr (.inr (.inr (.inr ff))))), (s0, .inr (1, [.ref b0, r0, .int m0])), (b0, .inl (aC 0, 128, .inl f0)), (md, .inr (1, [b1, r1, .int 0]))] sz) [(h0, .inr (11, [.ref pt, .ref fa, .int 1, .ref pa, o1, .ref md, o2, o3, .ref rg, o4, .ref mk, o5, o6, o7, o8])), (fa, .inl (aC 4, 5, .inr (.inr (.inr (.inr ff))))), (s0, .inr (1, [.ref b0, r0, .int 0])), (b0, .inl (aC 0, 128, .inl u)), (md, .inr (1, [b1, r1, .int 0]))]) (va_A [(h0, .inr (11, [.ref pt, .ref fa, .int 0, .ref pa, o1, .ref md, o2, o3, .ref rg, o4, .ref mk, o5, o6, o7, o8])), (fa, .inl (aC 4, 5, .inr (.inr (.inr (.inr ff))))), (s0, .inr (1, [.ref b0, r0, .int m0])), (b0, .inl (aC 0, 128, .inl f0)), (md, .inr (1, [b1, r1, .int 0]))] sz)) 0 0 (va_A [(h0, .inr (11, [.ref pt, .ref fa, .int 0, .ref pa, o1, .ref md, o2, o3, .ref rg, o4, .ref mk, o5, o6, o7, o8])), (fa, .inl (aC 4, 5, .inr (.inr (.inr (.inr ff))))), (s0, .inr (1, [.ref b0, r0, .int m0])), (b0, .inl (aC 0, 128, .inl f0)), (md, .inr (1, [b1, r1, .int 0]))] sz) := by
  refine Met.ofW (cc := cX11_keep) (maxL := 2) (ret := (some .int)) (by decide) rfl ?_
  intro p e s m args below meth c s₁ B hml hv
  obtain ⟨rfl, hsz, hP, hKN, hD0⟩ := hv
  obtain ⟨hK, hN⟩ := hKN
  have hx := B.exec
  have hb := B.bytes
  have hr := B.returns
  have hts := atoms_spec (ws := wsX11_keep) B.pre
  have hown : s.vm.findClass RX11 = some m.cls := findClass_of_methodNamed B.named
  have hlocks := B.notSynchronized
  subst hsz
  have hD := hD0.self (sz := s.heap.size)
  generalize hAe : va_A [(h0, .inr (11, [.ref pt, .ref fa, .int 0, .ref pa, o1, .ref md, o2, o3, .ref rg, o4, .ref mk, o5, o6, o7, o8])), (fa, .inl (aC 4, 5, .inr (.inr (.inr (.inr ff))))), (s0, .inr (1, [.ref b0, r0, .int m0])), (b0, .inl (aC 0, 128, .inl f0)), (md, .inr (1, [b1, r1, .int 0]))] s.heap.size = A at hD ⊢
  have hA : ∀ q : Nat, s.heap.size ≤ q → A q := fun q h => by rw [← hAe]; exact Or.inr h
  have hS : va_S A s.heap s.heap [] := va_S.rf
  have hP : va_P (dC, dI) rfCl [(h0, .inr (11, [.ref pt, .ref fa, .int 0, .ref pa, o1, .ref md, o2, o3, .ref rg, o4, .ref mk, o5, o6, o7, o8])), (fa, .inl (aC 4, 5, .inr (.inr (.inr (.inr ff))))), (s0, .inr (1, [.ref b0, r0, .int m0])), (b0, .inl (aC 0, 128, .inl f0)), (md, .inr (1, [b1, r1, .int 0]))] s.heap := hP
  have hl := lv_entry ([.ref h0, .ref md]) (n := 2) (Nat.le_of_ble_eq_true rfl)
  rw [lg_entry_eq]
  generalize (lg_sl ([.ref h0, .ref md]) ++ List.replicate (2 - (lg_sl ([.ref h0, .ref md])).length) Slot.unset).toArray = ls at hl ⊢
  have hl : lv_has ls 2 [(0, .ref h0), (1, .ref md)] := hl
  refine lv_aload_n hx hb dX11_keep_0 rfl (lv_at hl 0 rfl) ?_
  refine va_get (D := (dC, dI)) (ci := 11) (v := .int 0) (C := RX11) (T := TX11) (N := 15) hx hb hts (by decide +kernel) hown hK hP 0 rfl rfl 2 (by decide) (hts (.fieldLink RX11 108 "Transversary" "familyCount" "I") (by decide +kernel)) (fun _ h9 => h9) rfl dX11_keep_1 ?_
  refine lv_if_lt (tgt := 28) hx hb dX11_keep_4 (by decide) (fun c9 => absurd c9 (by decide)) (fun _ => ?_)
  refine lv_aload_n hx hb dX11_keep_7 rfl (lv_at hl 0 rfl) ?_
  refine va_get (D := (dC, dI)) (ci := 11) (v := .int 0) (C := RX11) (T := TX11) (N := 15) hx hb hts (by decide +kernel) hown hK hP 0 rfl rfl 2 (by decide) (hts (.fieldLink RX11 108 "Transversary" "familyCount" "I") (by decide +kernel)) (fun _ h9 => h9) rfl dX11_keep_8 ?_
  refine lv_aload_n hx hb dX11_keep_11 rfl (lv_at hl 0 rfl) ?_
  refine va_get (D := (dC, dI)) (ci := 11) (v := .ref fa) (C := RX11) (T := TX11) (N := 15) hx hb hts (by decide +kernel) hown hK hP 0 rfl rfl 1 (by decide) (hts (.fieldLink RX11 18 "Transversary" "families" "[LTransversary$Sets;") (by decide +kernel)) (fun _ h9 => h9) rfl dX11_keep_12 ?_
  refine va_alen (v := 5) hx hb hK hP 1 4 rfl rfl rfl dX11_keep_15 ?_
  refine lv_icmp_ge (tgt := 28) hx hb dX11_keep_16 (by decide) (fun c9 => absurd c9 (by decide)) (fun _ => ?_)
  refine lv_aload_n hx hb dX11_keep_19 rfl (lv_at hl 1 rfl) ?_
  have hPc := hP.sub (ws' := [(md, .inr (1, [b1, r1, .int 0]))]) [4] rfl
  have hDc := hD.sub (ws' := [(md, .inr (1, [b1, r1, .int 0]))]) [4] (by decide) rfl
  refine W.callR (W.runV (As := []) (rest := []) ⟨hx, hb, hml, hown, hts⟩ (c_X7_many l dC dI aC s.heap.size md b1 r1 0) (cwV 0 hts gX11_keep_X7_many rfl rfl rfl (by decide +kernel) ⟨Nat.le_of_ble_eq_true rfl, Nat.le_of_ble_eq_true rfl⟩) (rf_pv hK hN hPc hDc (va_recv hK hP (ci := 1) (q0 := 4) rfl rfl)) rfl rfl hl.1 rfl (lv_room (Nat.le_of_ble_eq_true rfl)) dX11_keep_20 ⟨Nat.le_of_ble_eq_true rfl, Nat.le_of_ble_eq_true rfl⟩) ?_
  refine W.eq (g2 := F0 m 23 ls [.int 0]) rfl ?_
  refine lv_bipush (v := 40) hx hb dX11_keep_23 (by decide) ?_
  refine lv_icmp_le (tgt := 31) hx hb dX11_keep_25 (by decide) (fun _ => ?_) (fun c9 => absurd (by decide) c9)
  refine lv_aload_n hx hb dX11_keep_31 rfl (lv_at hl 0 rfl) ?_
  refine va_get (D := (dC, dI)) (ci := 11) (v := .ref fa) (C := RX11) (T := TX11) (N := 15) hx hb hts (by decide +kernel) hown hK hP 0 rfl rfl 1 (by decide) (hts (.fieldLink RX11 18 "Transversary" "families" "[LTransversary$Sets;") (by decide +kernel)) (fun _ h9 => h9) rfl dX11_keep_32 ?_
  refine lv_aload_n hx hb dX11_keep_35 rfl (lv_at hl 0 rfl) ?_
  refine va_get (D := (dC, dI)) (ci := 11) (v := .int 0) (C := RX11) (T := TX11) (N := 15) hx hb hts (by decide +kernel) hown hK hP 0 rfl rfl 2 (by decide) (hts (.fieldLink RX11 108 "Transversary" "familyCount" "I") (by decide +kernel)) (fun _ h9 => h9) rfl dX11_keep_36 ?_
  refine va_aldq (C := "Transversary$Sets") hx hb hK hP 1 4 rfl rfl (vp_in_nI (n := 0) (N := 5) (by decide) (by decide)) dX11_keep_39 ?_
  refine W.eq (g2 := F0 m 40 ls [.ref s0]) (by rw [show ((0 : Int32)).toNatClampNeg = 0 from rfl, hf]; rfl) ?_
  refine lv_aload_n hx hb dX11_keep_40 rfl (lv_at hl 1 rfl) ?_
  have hPc := hP.sub (ws' := [(s0, .inr (1, [.ref b0, r0, .int m0])), (b0, .inl (aC 0, 128, .inl f0)), (md, .inr (1, [b1, r1, .int 0]))]) [2, 3, 4] rfl
  have hDc := hD.sub (ws' := [(s0, .inr (1, [.ref b0, r0, .int m0])), (b0, .inl (aC 0, 128, .inl f0)), (md, .inr (1, [b1, r1, .int 0]))]) [2, 3, 4] (by decide) rfl
  have hFc := va_free (wc := [(s0, .inr (1, [.ref b0, r0, .int m0])), (b0, .inl (aC 0, 128, .inl f0)), (md, .inr (1, [b1, r1, .int 0]))]) hD hS hA [2, 3, 4] rfl
  refine va_callv (va_runV (As := [.ref md]) (rest := []) ⟨hx, hb, hml, hown, hts⟩ (c_X7_copy l dC dI aC s.heap.size s0 b0 r0 f0 m0 md b1 r1) (cwV 1 hts gX11_keep_X7_copy rfl rfl rfl (by decide +kernel) ⟨Nat.le_of_ble_eq_true rfl, Nat.le_of_ble_eq_true rfl⟩) (rf_pv hK hN hPc hDc (va_recv hK hP (ci := 1) (q0 := 2) rfl rfl)) rfl rfl hl.1 rfl (lv_room (Nat.le_of_ble_eq_true rfl)) dX11_keep_41 ⟨Nat.le_of_ble_eq_true rfl, Nat.le_of_ble_eq_true rfl⟩) hS (fun q _ h => hFc q h) hFc (fun u1 t H1 locs ht hvm hwu1 hB hz1 hk1 hS => ?_)
  obtain ⟨hP1, hD1⟩ := hB
  rw [ht] at hP1
  try dsimp only at hwu1 hP1 hD1
  obtain ⟨hP, hD⟩ := va_join (wr := [(h0, .inr (11, [.ref pt, .ref fa, .int 0, .ref pa, o1, .ref md, o2, o3, .ref rg, o4, .ref mk, o5, o6, o7, o8])), (fa, .inl (aC 4, 5, .inr (.inr (.inr (.inr ff)))))]) (w1 := [(s0, .inr (1, [.ref b0, r0, .int 0])), (b0, .inl (aC 0, 128, .inl u1)), (md, .inr (1, [b1, r1, .int 0]))]) hP hD [2, 3, 4] [0, 1] rfl rfl (by decide) (by decide) hk1 hFc hP1 hD1
  clear hP1 hD1 hPc hDc hFc
  generalize H1 = H at hP hS ⊢
  have hP : va_P (dC, dI) rfCl [(h0, .inr (11, [.ref pt, .ref fa, .int 0, .ref pa, o1, .ref md, o2, o3, .ref rg, o4, .ref mk, o5, o6, o7, o8])), (fa, .inl (aC 4, 5, .inr (.inr (.inr (.inr ff))))), (s0, .inr (1, [.ref b0, r0, .int 0])), (b0, .inl (aC 0, 128, .inl u1)), (md, .inr (1, [b1, r1, .int 0]))] H := hP
  have hD : va_D A [(h0, .inr (11, [.ref pt, .ref fa, .int 0, .ref pa, o1, .ref md, o2, o3, .ref rg, o4, .ref mk, o5, o6, o7, o8])), (fa, .inl (aC 4, 5, .inr (.inr (.inr (.inr ff))))), (s0, .inr (1, [.ref b0, r0, .int 0])), (b0, .inl (aC 0, 128, .inl u1)), (md, .inr (1, [b1, r1, .int 0]))] := hD
  refine W.widen (k := 0) (n := 0) (Nat.le_of_ble_eq_true rfl) (Nat.le_of_ble_eq_true rfl) ?_
  refine lv_aload_n hx hb dX11_keep_44 rfl (lv_at hl 0 rfl) ?_
  refine lv_dup hx hb dX11_keep_45 rfl ?_
  refine va_get (D := (dC, dI)) (ci := 11) (v := .int 0) (C := RX11) (T := TX11) (N := 15) hx hb hts (by decide +kernel) hown hK hP 0 rfl rfl 2 (by decide) (hts (.fieldLink RX11 108 "Transversary" "familyCount" "I") (by decide +kernel)) (fun _ h9 => h9) rfl dX11_keep_46 ?_
  refine lv_iconst (v := 1) hx hb dX11_keep_49 (by decide) ?_
  refine lv_iadd hx hb dX11_keep_50 ?_
  refine lv_topi (fun t3 et3 => ?_)
  have h51 : t3 = 1 := by rw [et3]; decide
  subst h51
  refine va_put (D := (dC, dI)) (ci := 11) (v := .int 1) (ty := .int) (C := RX11) (T := TX11) (N := 15) hx hb hts (by decide +kernel) tyX11 tyX11_ok nmX11 hown hK hP hD hS 0 rfl rfl 2 (by decide) (hts (.fieldLink RX11 108 "Transversary" "familyCount" "I") (by decide +kernel)) (fun _ h9 => h9) rfl (by decide +kernel) rfl rfl (Nat.le_of_ble_eq_true rfl) dX11_keep_51 (fun H locs hP hD hS => ?_)
  have hP : va_P (dC, dI) rfCl [(h0, .inr (11, [.ref pt, .ref fa, .int 1, .ref pa, o1, .ref md, o2, o3, .ref rg, o4, .ref mk, o5, o6, o7, o8])), (fa, .inl (aC 4, 5, .inr (.inr (.inr (.inr ff))))), (s0, .inr (1, [.ref b0, r0, .int 0])), (b0, .inl (aC 0, 128, .inl u1)), (md, .inr (1, [b1, r1, .int 0]))] H := hP
  have hD : va_D A [(h0, .inr (11, [.ref pt, .ref fa, .int 1, .ref pa, o1, .ref md, o2, o3, .ref rg, o4, .ref mk, o5, o6, o7, o8])), (fa, .inl (aC 4, 5, .inr (.inr (.inr (.inr ff))))), (s0, .inr (1, [.ref b0, r0, .int 0])), (b0, .inl (aC 0, 128, .inl u1)), (md, .inr (1, [b1, r1, .int 0]))] := hD
  refine lv_aload_n hx hb dX11_keep_54 rfl (lv_at hl 0 rfl) ?_
  refine va_get (D := (dC, dI)) (ci := 11) (v := .int 1) (C := RX11) (T := TX11) (N := 15) hx hb hts (by decide +kernel) hown hK hP 0 rfl rfl 2 (by decide) (hts (.fieldLink RX11 108 "Transversary" "familyCount" "I") (by decide +kernel)) (fun _ h9 => h9) rfl dX11_keep_55 ?_
  refine lv_iconst (v := 1) hx hb dX11_keep_58 (by decide) ?_
  refine lv_isub hx hb dX11_keep_59 ?_
  refine lv_topi (fun t4 et4 => ?_)
  have h60 : t4 = 0 := by rw [et4]; decide
  subst h60
  have hP9 := hP.sub (ws' := [(h0, .inr (11, [.ref pt, .ref fa, .int 1, .ref pa, o1, .ref md, o2, o3, .ref rg, o4, .ref mk, o5, o6, o7, o8])), (fa, .inl (aC 4, 5, .inr (.inr (.inr (.inr ff))))), (s0, .inr (1, [.ref b0, r0, .int 0])), (b0, .inl (aC 0, 128, .inl u1)), (md, .inr (1, [b1, r1, .int 0]))]) [0, 1, 2, 3, 4] rfl
  have hD9 := hD.sub (ws' := [(h0, .inr (11, [.ref pt, .ref fa, .int 1, .ref pa, o1, .ref md, o2, o3, .ref rg, o4, .ref mk, o5, o6, o7, o8])), (fa, .inl (aC 4, 5, .inr (.inr (.inr (.inr ff))))), (s0, .inr (1, [.ref b0, r0, .int 0])), (b0, .inl (aC 0, 128, .inl u1)), (md, .inr (1, [b1, r1, .int 0]))]) [0, 1, 2, 3, 4] (by decide) rfl
  refine W.widen (k := 0) (n := 0) (Nat.le_of_ble_eq_true rfl) (Nat.le_of_ble_eq_true rfl) ?_
  exact W.iret (v := 0) hx hb hr (fun t ht hW => ⟨⟨0, u1, rfl, rfl, by rw [ht]; exact hP9, hD9⟩, hS.F ht⟩) hS.2.2 dX11_keep_60

set_option maxHeartbeats 4000000 in
set_option maxRecDepth 100000 in
theorem c_X11_family (l : Launch) (dC : Nat → ClassId) (dI : Nat → Nat → Nat) (aC : Nat → ClassId) (sz : Nat) (h0 pt fa pa md rg mk : Nat) (o1 o2 o3 o4 o5 o6 o7 o8 : Value) (ff : Nat → Option Nat) (s0 b0 : Nat) (r0 : Value) (f0 : Nat → Int32) (m0 : Int32) (b1 : Nat) (r1 : Value) (f1 : Nat → Int32) (m1 : Int32) (hf : ff 0 = some s0) : Met l yX11_family wsX11_family ({ frames := 4, cells := 0, slots := 0, locals := 120 } : Room) (rf_Pc (dC, dI) aC [.ref h0] [(h0, .inr (11, [.ref pt, .ref fa, .int 0, .ref pa, o1, .ref md, o2, o3, .ref rg, o4, .ref mk, o5, o6, o7, o8])), (fa, .inl (aC 4, 5, .inr (.inr (.inr (.inr ff))))), (s0, .inr (1, [.ref b0, r0, .int m0])), (b0, .inl (aC 0, 128, .inl f0)), (md, .inr (1, [.ref b1, r1, .int m1])), (b1, .inl (aC 0, 128, .inl f1))] sz) (va_Qi (fun (r : Int32) (u : (Nat → Int32) × (Nat → Int32)) => r = 0) (fun (u : (Nat → Int32) × (Nat → Int32)) t => va_P (dC, dI) rfCl [(h0, .inr (11, [.ref pt, .ref fa, .int 1, .ref pa, o1, .ref md, o2, o3, .ref rg, o4, .ref mk, o5, o6, o7, o8])), (fa, .inl (aC 4, 5, .inr (.inr (.inr (.inr ff))))), (s0, .inr (1, [.ref b0, r0, .int 0])), (b0, .inl (aC 0, 128, .inl u.1)), (md, .inr (1, [.ref b1, r1, .int 0])), (b1, .inl (aC 0, 128, .inl u.2))] t.heap ∧ va_D (va_A [(h0, .inr (11, [.ref pt, .ref fa, .int 0, .ref pa, o1, .ref md, o2, o3, .ref rg, o4, .ref mk, o5, o6, o7, o8])), (fa, .inl (aC 4, 5, .inr (.inr (.inr (.inr ff))))), (s0, .inr (1, [.ref b0, r0, .int m0])), (b0, .inl (aC 0, 128, .inl f0)), (md, .inr (1, [.ref b1, r1, .int m1])), (b1, .inl (aC 0, 128, .inl f1))] sz) [(h0, .inr (11, [.ref pt, .ref fa, .int 1, .ref pa, o1, .ref md, o2, o3, .ref rg, o4, .ref mk, o5, o6, o7, o8])), (fa, .inl (aC 4, 5, .inr (.inr (.inr (.inr ff))))), (s0, .inr (1, [.ref b0, r0, .int 0])), (b0, .inl (aC 0, 128, .inl u.1)), (md, .inr (1, [.ref b1, r1, .int 0])), (b1, .inl (aC 0, 128, .inl u.2))]) (va_A [(h0, .inr (11, [.ref pt, .ref fa, .int 0, .ref pa, o1, .ref md, o2, o3, .ref rg, o4, .ref mk, o5, o6, o7, o8])), (fa, .inl (aC 4, 5, .inr (.inr (.inr (.inr ff))))), (s0, .inr (1, [.ref b0, r0, .int m0])), (b0, .inl (aC 0, 128, .inl f0)), (md, .inr (1, [.ref b1, r1, .int m1])), (b1, .inl (aC 0, 128, .inl f1))] sz)) 0 0 (va_A [(h0, .inr (11, [.ref pt, .ref fa, .int 0, .ref pa, o1, .ref md, o2, o3, .ref rg, o4, .ref mk, o5, o6, o7, o8])), (fa, .inl (aC 4, 5, .inr (.inr (.inr (.inr ff))))), (s0, .inr (1, [.ref b0, r0, .int m0])), (b0, .inl (aC 0, 128, .inl f0)), (md, .inr (1, [.ref b1, r1, .int m1])), (b1, .inl (aC 0, 128, .inl f1))] sz) := by
  refine Met.ofW (cc := cX11_family) (maxL := 1) (ret := (some .int)) (by decide) rfl ?_
  intro p e s m args below meth c s₁ B hml hv
  obtain ⟨rfl, hsz, hP, hKN, hD0⟩ := hv
  obtain ⟨hK, hN⟩ := hKN
  have hx := B.exec
  have hb := B.bytes
  have hr := B.returns
  have hts := atoms_spec (ws := wsX11_family) B.pre
  have hown : s.vm.findClass RX11 = some m.cls := findClass_of_methodNamed B.named
  have hlocks := B.notSynchronized
  subst hsz
  have hD := hD0.self (sz := s.heap.size)
  generalize hAe : va_A [(h0, .inr (11, [.ref pt, .ref fa, .int 0, .ref pa, o1, .ref md, o2, o3, .ref rg, o4, .ref mk, o5, o6, o7, o8])), (fa, .inl (aC 4, 5, .inr (.inr (.inr (.inr ff))))), (s0, .inr (1, [.ref b0, r0, .int m0])), (b0, .inl (aC 0, 128, .inl f0)), (md, .inr (1, [.ref b1, r1, .int m1])), (b1, .inl (aC 0, 128, .inl f1))] s.heap.size = A at hD ⊢
  have hA : ∀ q : Nat, s.heap.size ≤ q → A q := fun q h => by rw [← hAe]; exact Or.inr h
  have hS : va_S A s.heap s.heap [] := va_S.rf
  have hP : va_P (dC, dI) rfCl [(h0, .inr (11, [.ref pt, .ref fa, .int 0, .ref pa, o1, .ref md, o2, o3, .ref rg, o4, .ref mk, o5, o6, o7, o8])), (fa, .inl (aC 4, 5, .inr (.inr (.inr (.inr ff))))), (s0, .inr (1, [.ref b0, r0, .int m0])), (b0, .inl (aC 0, 128, .inl f0)), (md, .inr (1, [.ref b1, r1, .int m1])), (b1, .inl (aC 0, 128, .inl f1))] s.heap := hP
  have hl := lv_entry ([.ref h0]) (n := 1) (Nat.le_of_ble_eq_true rfl)
  rw [lg_entry_eq]
  generalize (lg_sl ([.ref h0]) ++ List.replicate (1 - (lg_sl ([.ref h0])).length) Slot.unset).toArray = ls at hl ⊢
  have hl : lv_has ls 1 [(0, .ref h0)] := hl
  refine lv_aload_n hx hb dX11_family_0 rfl (lv_at hl 0 rfl) ?_
  have hPc := hP.sub (ws' := [(h0, .inr (11, [.ref pt, .ref fa, .int 0, .ref pa, o1, .ref md, o2, o3, .ref rg, o4, .ref mk, o5, o6, o7, o8]))]) [0] rfl
  have hDc := hD.sub (ws' := [(h0, .inr (11, [.ref pt, .ref fa, .int 0, .ref pa, o1, .ref md, o2, o3, .ref rg, o4, .ref mk, o5, o6, o7, o8]))]) [0] (by decide) rfl
  refine va_csv (W.runV (As := []) (rest := []) ⟨hx, hb, hml, hown, hts⟩ (c_X11_checkRoom l dC dI aC s.heap.size h0 pt fa pa md rg mk o1 o2 o3 o4 o5 o6 o7 o8 0 (by decide)) (cwV 0 hts gX11_family_X11_checkRoom rfl rfl rfl (by decide +kernel) ⟨Nat.le_of_ble_eq_true rfl, Nat.le_of_ble_eq_true rfl⟩) (rf_pv hK hN hPc hDc (va_recv hK hP (ci := 11) (q0 := 0) rfl rfl)) rfl rfl hl.1 rfl (lv_room (Nat.le_of_ble_eq_true rfl)) dX11_family_1 ⟨Nat.le_of_ble_eq_true rfl, Nat.le_of_ble_eq_true rfl⟩) (fun _ => ?_)
  refine lv_aload_n hx hb dX11_family_4 rfl (lv_at hl 0 rfl) ?_
  refine va_get (D := (dC, dI)) (ci := 11) (v := .ref md) (C := RX11) (T := TX11) (N := 15) hx hb hts (by decide +kernel) hown hK hP 0 rfl rfl 5 (by decide) (hts (.fieldLink RX11 30 "Transversary" "made" "LTransversary$Sets;") (by decide +kernel)) (fun _ h9 => h9) rfl dX11_family_5 ?_
  have hPc := hP.sub (ws' := [(md, .inr (1, [.ref b1, r1, .int m1])), (b1, .inl (aC 0, 128, .inl f1))]) [4, 5] rfl
  have hDc := hD.sub (ws' := [(md, .inr (1, [.ref b1, r1, .int m1])), (b1, .inl (aC 0, 128, .inl f1))]) [4, 5] (by decide) rfl
  have hFc := va_free (wc := [(md, .inr (1, [.ref b1, r1, .int m1])), (b1, .inl (aC 0, 128, .inl f1))]) hD hS hA [4, 5] rfl
  refine va_callv (va_runV (As := []) (rest := []) ⟨hx, hb, hml, hown, hts⟩ (c_X7_clear l dC dI aC s.heap.size md b1 r1 f1 m1) (cwV 0 hts gX11_family_X7_clear rfl rfl rfl (by decide +kernel) ⟨Nat.le_of_ble_eq_true rfl, Nat.le_of_ble_eq_true rfl⟩) (rf_pv hK hN hPc hDc (va_recv hK hP (ci := 1) (q0 := 4) rfl rfl)) rfl rfl hl.1 rfl (lv_room (Nat.le_of_ble_eq_true rfl)) dX11_family_8 ⟨Nat.le_of_ble_eq_true rfl, Nat.le_of_ble_eq_true rfl⟩) hS (fun q _ h => hFc q h) hFc (fun u1 t H1 locs ht hvm hwu1 hB hz1 hk1 hS => ?_)
  obtain ⟨hP1, hD1⟩ := hB
  rw [ht] at hP1
  try dsimp only at hwu1 hP1 hD1
  obtain ⟨hP, hD⟩ := va_join (wr := [(h0, .inr (11, [.ref pt, .ref fa, .int 0, .ref pa, o1, .ref md, o2, o3, .ref rg, o4, .ref mk, o5, o6, o7, o8])), (fa, .inl (aC 4, 5, .inr (.inr (.inr (.inr ff))))), (s0, .inr (1, [.ref b0, r0, .int m0])), (b0, .inl (aC 0, 128, .inl f0))]) (w1 := [(md, .inr (1, [.ref b1, r1, .int 0])), (b1, .inl (aC 0, 128, .inl u1))]) hP hD [4, 5] [0, 1, 2, 3] rfl rfl (by decide) (by decide) hk1 hFc hP1 hD1
  clear hP1 hD1 hPc hDc hFc
  generalize H1 = H at hP hS ⊢
  have hP : va_P (dC, dI) rfCl [(h0, .inr (11, [.ref pt, .ref fa, .int 0, .ref pa, o1, .ref md, o2, o3, .ref rg, o4, .ref mk, o5, o6, o7, o8])), (fa, .inl (aC 4, 5, .inr (.inr (.inr (.inr ff))))), (s0, .inr (1, [.ref b0, r0, .int m0])), (b0, .inl (aC 0, 128, .inl f0)), (md, .inr (1, [.ref b1, r1, .int 0])), (b1, .inl (aC 0, 128, .inl u1))] H := hP
  have hD : va_D A [(h0, .inr (11, [.ref pt, .ref fa, .int 0, .ref pa, o1, .ref md, o2, o3, .ref rg, o4, .ref mk, o5, o6, o7, o8])), (fa, .inl (aC 4, 5, .inr (.inr (.inr (.inr ff))))), (s0, .inr (1, [.ref b0, r0, .int m0])), (b0, .inl (aC 0, 128, .inl f0)), (md, .inr (1, [.ref b1, r1, .int 0])), (b1, .inl (aC 0, 128, .inl u1))] := hD
  refine W.widen (k := 0) (n := 0) (Nat.le_of_ble_eq_true rfl) (Nat.le_of_ble_eq_true rfl) ?_
  refine lv_aload_n hx hb dX11_family_11 rfl (lv_at hl 0 rfl) ?_
  refine lv_aload_n hx hb dX11_family_12 rfl (lv_at hl 0 rfl) ?_
  refine va_get (D := (dC, dI)) (ci := 11) (v := .ref md) (C := RX11) (T := TX11) (N := 15) hx hb hts (by decide +kernel) hown hK hP 0 rfl rfl 5 (by decide) (hts (.fieldLink RX11 30 "Transversary" "made" "LTransversary$Sets;") (by decide +kernel)) (fun _ h9 => h9) rfl dX11_family_13 ?_
  have hPc := hP.sub (ws' := [(h0, .inr (11, [.ref pt, .ref fa, .int 0, .ref pa, o1, .ref md, o2, o3, .ref rg, o4, .ref mk, o5, o6, o7, o8])), (fa, .inl (aC 4, 5, .inr (.inr (.inr (.inr ff))))), (s0, .inr (1, [.ref b0, r0, .int m0])), (b0, .inl (aC 0, 128, .inl f0)), (md, .inr (1, [.ref b1, r1, .int 0]))]) [0, 1, 2, 3, 4] rfl
  have hDc := hD.sub (ws' := [(h0, .inr (11, [.ref pt, .ref fa, .int 0, .ref pa, o1, .ref md, o2, o3, .ref rg, o4, .ref mk, o5, o6, o7, o8])), (fa, .inl (aC 4, 5, .inr (.inr (.inr (.inr ff))))), (s0, .inr (1, [.ref b0, r0, .int m0])), (b0, .inl (aC 0, 128, .inl f0)), (md, .inr (1, [.ref b1, r1, .int 0]))]) [0, 1, 2, 3, 4] (by decide) rfl
  have hFc := va_free (wc := [(h0, .inr (11, [.ref pt, .ref fa, .int 0, .ref pa, o1, .ref md, o2, o3, .ref rg, o4, .ref mk, o5, o6, o7, o8])), (fa, .inl (aC 4, 5, .inr (.inr (.inr (.inr ff))))), (s0, .inr (1, [.ref b0, r0, .int m0])), (b0, .inl (aC 0, 128, .inl f0)), (md, .inr (1, [.ref b1, r1, .int 0]))]) hD hS hA [0, 1, 2, 3, 4] rfl
  refine va_calli (va_runV (As := [.ref md]) (rest := []) ⟨hx, hb, hml, hown, hts⟩ (c_X11_keep l dC dI aC H.size h0 pt fa pa md rg mk o1 o2 o3 o4 o5 o6 o7 o8 ff s0 b0 r0 f0 m0 (.ref b1) r1 hf) (cwV 1 hts gX11_family_X11_keep rfl rfl rfl (by decide +kernel) ⟨Nat.le_of_ble_eq_true rfl, Nat.le_of_ble_eq_true rfl⟩) (rf_pv hK hN hPc hDc (va_recv hK hP (ci := 11) (q0 := 0) rfl rfl)) rfl rfl hl.1 rfl (lv_room (Nat.le_of_ble_eq_true rfl)) dX11_family_16 ⟨Nat.le_of_ble_eq_true rfl, Nat.le_of_ble_eq_true rfl⟩) hS (fun q _ h => hFc q h) hFc (fun r4 u3 t H1 locs ht hvm hwu3 hB hz1 hk1 hS => ?_)
  obtain ⟨hP1, hD1⟩ := hB
  rw [ht] at hP1
  try dsimp only at hwu3 hP1 hD1
  obtain ⟨hP, hD⟩ := va_join (wr := [(b1, .inl (aC 0, 128, .inl u1))]) (w1 := [(h0, .inr (11, [.ref pt, .ref fa, .int 1, .ref pa, o1, .ref md, o2, o3, .ref rg, o4, .ref mk, o5, o6, o7, o8])), (fa, .inl (aC 4, 5, .inr (.inr (.inr (.inr ff))))), (s0, .inr (1, [.ref b0, r0, .int 0])), (b0, .inl (aC 0, 128, .inl u3)), (md, .inr (1, [.ref b1, r1, .int 0]))]) hP hD [0, 1, 2, 3, 4] [5] rfl rfl (by decide) (by decide) hk1 hFc hP1 hD1
  clear hP1 hD1 hPc hDc hFc
  generalize H1 = H at hP hS ⊢
  have hP : va_P (dC, dI) rfCl [(b1, .inl (aC 0, 128, .inl u1)), (h0, .inr (11, [.ref pt, .ref fa, .int 1, .ref pa, o1, .ref md, o2, o3, .ref rg, o4, .ref mk, o5, o6, o7, o8])), (fa, .inl (aC 4, 5, .inr (.inr (.inr (.inr ff))))), (s0, .inr (1, [.ref b0, r0, .int 0])), (b0, .inl (aC 0, 128, .inl u3)), (md, .inr (1, [.ref b1, r1, .int 0]))] H := hP
  have hD : va_D A [(b1, .inl (aC 0, 128, .inl u1)), (h0, .inr (11, [.ref pt, .ref fa, .int 1, .ref pa, o1, .ref md, o2, o3, .ref rg, o4, .ref mk, o5, o6, o7, o8])), (fa, .inl (aC 4, 5, .inr (.inr (.inr (.inr ff))))), (s0, .inr (1, [.ref b0, r0, .int 0])), (b0, .inl (aC 0, 128, .inl u3)), (md, .inr (1, [.ref b1, r1, .int 0]))] := hD
  refine W.widen (k := 0) (n := 0) (Nat.le_of_ble_eq_true rfl) (Nat.le_of_ble_eq_true rfl) ?_
  have hP9 := hP.sub (ws' := [(h0, .inr (11, [.ref pt, .ref fa, .int 1, .ref pa, o1, .ref md, o2, o3, .ref rg, o4, .ref mk, o5, o6, o7, o8])), (fa, .inl (aC 4, 5, .inr (.inr (.inr (.inr ff))))), (s0, .inr (1, [.ref b0, r0, .int 0])), (b0, .inl (aC 0, 128, .inl u3)), (md, .inr (1, [.ref b1, r1, .int 0])), (b1, .inl (aC 0, 128, .inl u1))]) [1, 2, 3, 4, 5, 0] rfl
  have hD9 := hD.sub (ws' := [(h0, .inr (11, [.ref pt, .ref fa, .int 1, .ref pa, o1, .ref md, o2, o3, .ref rg, o4, .ref mk, o5, o6, o7, o8])), (fa, .inl (aC 4, 5, .inr (.inr (.inr (.inr ff))))), (s0, .inr (1, [.ref b0, r0, .int 0])), (b0, .inl (aC 0, 128, .inl u3)), (md, .inr (1, [.ref b1, r1, .int 0])), (b1, .inl (aC 0, 128, .inl u1))]) [1, 2, 3, 4, 5, 0] (by decide) rfl
  refine W.widen (k := 0) (n := 0) (Nat.le_of_ble_eq_true rfl) (Nat.le_of_ble_eq_true rfl) ?_
  exact W.iret (v := r4) hx hb hr (fun t ht hW => ⟨⟨r4, (u3, u1), rfl, hwu3, by rw [ht]; exact hP9, hD9⟩, hS.F ht⟩) hS.2.2 dX11_family_19

set_option maxHeartbeats 4000000 in
set_option maxRecDepth 100000 in
theorem c_X11_familyOf (l : Launch) (dC : Nat → ClassId) (dI : Nat → Nat → Nat) (aC : Nat → ClassId) (sz : Nat) (h0 pt fa pa md rg mk : Nat) (o1 o2 o3 o4 o5 o6 o7 o8 : Value) (ff : Nat → Option Nat) (s0 : Nat) (hf : ff 0 = some s0) : Met l yX11_familyOf wsX11_familyOf ({ frames := 1, cells := 0, slots := 0, locals := 0 } : Room) (rf_Pc (dC, dI) aC [.ref h0, .int 0] [(h0, .inr (11, [.ref pt, .ref fa, .int 1, .ref pa, o1, .ref md, o2, o3, .ref rg, o4, .ref mk, o5, o6, o7, o8])), (fa, .inl (aC 4, 5, .inr (.inr (.inr (.inr ff)))))] sz) (va_Sr (fun k => k = s0) (fun k => .ref k)) 0 0 (fun _ => False) := by
  refine Met.ofW (cc := cX11_familyOf) (maxL := 2) (ret := (some (.object "Transversary$Sets"))) (by decide) rfl ?_
  intro p e s m args below meth c s₁ B hml hv
  obtain ⟨rfl, hsz, hP, hKN, hD0⟩ := hv
  obtain ⟨hK, hN⟩ := hKN
  have hx := B.exec
  have hb := B.bytes
  have hr := B.returns
  have hts := atoms_spec (ws := wsX11_familyOf) B.pre
  have hown : s.vm.findClass RX11 = some m.cls := findClass_of_methodNamed B.named
  have hlocks := B.notSynchronized
  subst hsz
  have hD := hD0.self (sz := s.heap.size)
  generalize hAe : va_A [(h0, .inr (11, [.ref pt, .ref fa, .int 1, .ref pa, o1, .ref md, o2, o3, .ref rg, o4, .ref mk, o5, o6, o7, o8])), (fa, .inl (aC 4, 5, .inr (.inr (.inr (.inr ff)))))] s.heap.size = A at hD
  have hA : ∀ q : Nat, s.heap.size ≤ q → A q := fun q h => by rw [← hAe]; exact Or.inr h
  have hS : va_S A s.heap s.heap [] := va_S.rf
  have hP : va_P (dC, dI) rfCl [(h0, .inr (11, [.ref pt, .ref fa, .int 1, .ref pa, o1, .ref md, o2, o3, .ref rg, o4, .ref mk, o5, o6, o7, o8])), (fa, .inl (aC 4, 5, .inr (.inr (.inr (.inr ff)))))] s.heap := hP
  have hl := lv_entry ([.ref h0, .int 0]) (n := 2) (Nat.le_of_ble_eq_true rfl)
  rw [lg_entry_eq]
  generalize (lg_sl ([.ref h0, .int 0]) ++ List.replicate (2 - (lg_sl ([.ref h0, .int 0])).length) Slot.unset).toArray = ls at hl ⊢
  have hl : lv_has ls 2 [(0, .ref h0), (1, .int 0)] := hl
  refine lv_iload_n hx hb dX11_familyOf_0 rfl (lv_at hl 1 rfl) ?_
  refine lv_if_lt (tgt := 21) hx hb dX11_familyOf_1 (by decide) (fun c9 => absurd c9 (by decide)) (fun _ => ?_)
  refine lv_iload_n hx hb dX11_familyOf_4 rfl (lv_at hl 1 rfl) ?_
  refine lv_aload_n hx hb dX11_familyOf_5 rfl (lv_at hl 0 rfl) ?_
  refine va_get (D := (dC, dI)) (ci := 11) (v := .int 1) (C := RX11) (T := TX11) (N := 15) hx hb hts (by decide +kernel) hown hK hP 0 rfl rfl 2 (by decide) (hts (.fieldLink RX11 108 "Transversary" "familyCount" "I") (by decide +kernel)) (fun _ h9 => h9) rfl dX11_familyOf_6 ?_
  refine lv_icmp_ge (tgt := 21) hx hb dX11_familyOf_9 (by decide) (fun c9 => absurd c9 (by decide)) (fun _ => ?_)
  refine lv_iload_n hx hb dX11_familyOf_12 rfl (lv_at hl 1 rfl) ?_
  refine lv_aload_n hx hb dX11_familyOf_13 rfl (lv_at hl 0 rfl) ?_
  refine va_get (D := (dC, dI)) (ci := 11) (v := .ref fa) (C := RX11) (T := TX11) (N := 15) hx hb hts (by decide +kernel) hown hK hP 0 rfl rfl 1 (by decide) (hts (.fieldLink RX11 18 "Transversary" "families" "[LTransversary$Sets;") (by decide +kernel)) (fun _ h9 => h9) rfl dX11_familyOf_14 ?_
  refine va_alen (v := 5) hx hb hK hP 1 4 rfl rfl rfl dX11_familyOf_17 ?_
  refine lv_icmp_lt (tgt := 32) hx hb dX11_familyOf_18 (by decide) (fun _ => ?_) (fun c9 => absurd (by decide) c9)
  refine lv_aload_n hx hb dX11_familyOf_32 rfl (lv_at hl 0 rfl) ?_
  refine va_get (D := (dC, dI)) (ci := 11) (v := .ref fa) (C := RX11) (T := TX11) (N := 15) hx hb hts (by decide +kernel) hown hK hP 0 rfl rfl 1 (by decide) (hts (.fieldLink RX11 18 "Transversary" "families" "[LTransversary$Sets;") (by decide +kernel)) (fun _ h9 => h9) rfl dX11_familyOf_33 ?_
  refine lv_iload_n hx hb dX11_familyOf_36 rfl (lv_at hl 1 rfl) ?_
  refine va_aldq (C := "Transversary$Sets") hx hb hK hP 1 4 rfl rfl (vp_in_nI (n := 0) (N := 5) (by decide) (by decide)) dX11_familyOf_37 ?_
  refine W.eq (g2 := F0 m 38 ls [.ref s0]) (by rw [show ((0 : Int32)).toNatClampNeg = 0 from rfl, hf]; rfl) ?_
  exact W.aret (v := .ref s0) hx hb hr (Or.inl ⟨_, rfl⟩) (Or.inr ⟨_, rfl⟩) (fun t ht hW => ⟨_, rfl, rfl, ht⟩) (fun q h => nomatch h) dX11_familyOf_38

set_option maxHeartbeats 4000000 in
set_option maxRecDepth 100000 in
theorem c_X1_partsInto (l : Launch) (dC : Nat → ClassId) (dI : Nat → Nat → Nat) (aC : Nat → ClassId) (sz : Nat) (h0 pa pb : Nat) (pr : Value) (pf : Nat → Int32) (pm : Int32) (s0 : Nat) (b0 r0 : Value) (al : Int32)  : Met l yX1_partsInto wsX1_partsInto ({ frames := 2, cells := 0, slots := 0, locals := 40 } : Room) (rf_Pc (dC, dI) aC [.ref h0, .ref pa, .ref s0, .int al] [(pa, .inr (1, [.ref pb, pr, .int pm])), (pb, .inl (aC 0, 128, .inl pf)), (s0, .inr (1, [b0, r0, .int 0]))] sz) (va_Qv (fun (u : Nat → Int32) => True) (fun (u : Nat → Int32) t => va_P (dC, dI) rfCl [(pa, .inr (1, [.ref pb, pr, .int 0])), (pb, .inl (aC 0, 128, .inl u)), (s0, .inr (1, [b0, r0, .int 0]))] t.heap ∧ va_D (va_A [(pa, .inr (1, [.ref pb, pr, .int pm])), (pb, .inl (aC 0, 128, .inl pf)), (s0, .inr (1, [b0, r0, .int 0]))] sz) [(pa, .inr (1, [.ref pb, pr, .int 0])), (pb, .inl (aC 0, 128, .inl u)), (s0, .inr (1, [b0, r0, .int 0]))]) (va_A [(pa, .inr (1, [.ref pb, pr, .int pm])), (pb, .inl (aC 0, 128, .inl pf)), (s0, .inr (1, [b0, r0, .int 0]))] sz)) 0 0 (va_A [(pa, .inr (1, [.ref pb, pr, .int pm])), (pb, .inl (aC 0, 128, .inl pf)), (s0, .inr (1, [b0, r0, .int 0]))] sz) := by
  refine Met.ofW (cc := cX1_partsInto) (maxL := 5) (ret := none) (by decide) rfl ?_
  intro p e s m args below meth c s₁ B hml hv
  obtain ⟨rfl, hsz, hP, hKN, hD0⟩ := hv
  obtain ⟨hK, hN⟩ := hKN
  have hx := B.exec
  have hb := B.bytes
  have hr := B.returns
  have hts := atoms_spec (ws := wsX1_partsInto) B.pre
  have hown : s.vm.findClass RX1 = some m.cls := findClass_of_methodNamed B.named
  have hlocks := B.notSynchronized
  subst hsz
  have hD := hD0.self (sz := s.heap.size)
  generalize hAe : va_A [(pa, .inr (1, [.ref pb, pr, .int pm])), (pb, .inl (aC 0, 128, .inl pf)), (s0, .inr (1, [b0, r0, .int 0]))] s.heap.size = A at hD ⊢
  have hA : ∀ q : Nat, s.heap.size ≤ q → A q := fun q h => by rw [← hAe]; exact Or.inr h
  have hS : va_S A s.heap s.heap [] := va_S.rf
  have hP : va_P (dC, dI) rfCl [(pa, .inr (1, [.ref pb, pr, .int pm])), (pb, .inl (aC 0, 128, .inl pf)), (s0, .inr (1, [b0, r0, .int 0]))] s.heap := hP
  have hl := lv_entry ([.ref h0, .ref pa, .ref s0, .int al]) (n := 5) (Nat.le_of_ble_eq_true rfl)
  rw [lg_entry_eq]
  generalize (lg_sl ([.ref h0, .ref pa, .ref s0, .int al]) ++ List.replicate (5 - (lg_sl ([.ref h0, .ref pa, .ref s0, .int al])).length) Slot.unset).toArray = ls at hl ⊢
  have hl : lv_has ls 5 [(0, .ref h0), (1, .ref pa), (2, .ref s0), (3, .int al)] := hl
  refine lv_aload_n hx hb dX1_partsInto_0 rfl (lv_at hl 1 rfl) ?_
  have hPc := hP.sub (ws' := [(pa, .inr (1, [.ref pb, pr, .int pm])), (pb, .inl (aC 0, 128, .inl pf))]) [0, 1] rfl
  have hDc := hD.sub (ws' := [(pa, .inr (1, [.ref pb, pr, .int pm])), (pb, .inl (aC 0, 128, .inl pf))]) [0, 1] (by decide) rfl
  have hFc := va_free (wc := [(pa, .inr (1, [.ref pb, pr, .int pm])), (pb, .inl (aC 0, 128, .inl pf))]) hD hS hA [0, 1] rfl
  refine va_callv (va_runV (As := []) (rest := []) ⟨hx, hb, hml, hown, hts⟩ (c_X7_clear l dC dI aC s.heap.size pa pb pr pf pm) (cwV 0 hts gX1_partsInto_X7_clear rfl rfl rfl (by decide +kernel) ⟨Nat.le_of_ble_eq_true rfl, Nat.le_of_ble_eq_true rfl⟩) (rf_pv hK hN hPc hDc (va_recv hK hP (ci := 1) (q0 := 0) rfl rfl)) rfl rfl hl.1 rfl (lv_room (Nat.le_of_ble_eq_true rfl)) dX1_partsInto_1 ⟨Nat.le_of_ble_eq_true rfl, Nat.le_of_ble_eq_true rfl⟩) hS (fun q _ h => hFc q h) hFc (fun u1 t H1 locs ht hvm hwu1 hB hz1 hk1 hS => ?_)
  obtain ⟨hP1, hD1⟩ := hB
  rw [ht] at hP1
  try dsimp only at hwu1 hP1 hD1
  obtain ⟨hP, hD⟩ := va_join (wr := [(s0, .inr (1, [b0, r0, .int 0]))]) (w1 := [(pa, .inr (1, [.ref pb, pr, .int 0])), (pb, .inl (aC 0, 128, .inl u1))]) hP hD [0, 1] [2] rfl rfl (by decide) (by decide) hk1 hFc hP1 hD1
  clear hP1 hD1 hPc hDc hFc
  generalize H1 = H at hP hS ⊢
  have hP : va_P (dC, dI) rfCl [(s0, .inr (1, [b0, r0, .int 0])), (pa, .inr (1, [.ref pb, pr, .int 0])), (pb, .inl (aC 0, 128, .inl u1))] H := hP
  have hD : va_D A [(s0, .inr (1, [b0, r0, .int 0])), (pa, .inr (1, [.ref pb, pr, .int 0])), (pb, .inl (aC 0, 128, .inl u1))] := hD
  refine W.widen (k := 0) (n := 0) (Nat.le_of_ble_eq_true rfl) (Nat.le_of_ble_eq_true rfl) ?_
  refine lv_iconst (v := 0) hx hb dX1_partsInto_4 (by decide) ?_
  refine lv_istore (lv' := [(4, .int 0), (0, .ref h0), (1, .ref pa), (2, .ref s0), (3, .int al)]) hx hb dX1_partsInto_5 hl (by decide) rfl (fun ls hl => ?_)
  refine lv_iload hx hb dX1_partsInto_7 (lv_at hl 0 rfl) ?_
  refine lv_aload_n hx hb dX1_partsInto_9 rfl (lv_at hl 3 rfl) ?_
  have hPc := hP.sub (ws' := [(s0, .inr (1, [b0, r0, .int 0]))]) [0] rfl
  have hDc := hD.sub (ws' := [(s0, .inr (1, [b0, r0, .int 0]))]) [0] (by decide) rfl
  refine W.callR (W.runV (As := []) (rest := [.int 0]) ⟨hx, hb, hml, hown, hts⟩ (c_X7_many l dC dI aC H.size s0 b0 r0 0) (cwV 0 hts gX1_partsInto_X7_many rfl rfl rfl (by decide +kernel) ⟨Nat.le_of_ble_eq_true rfl, Nat.le_of_ble_eq_true rfl⟩) (rf_pv hK hN hPc hDc (va_recv hK hP (ci := 1) (q0 := 0) rfl rfl)) rfl rfl hl.1 rfl (lv_room (Nat.le_of_ble_eq_true rfl)) dX1_partsInto_10 ⟨Nat.le_of_ble_eq_true rfl, Nat.le_of_ble_eq_true rfl⟩) ?_
  refine W.eq (g2 := F0 m 13 ls [.int 0, .int 0]) rfl ?_
  refine lv_icmp_ge (tgt := 34) hx hb dX1_partsInto_13 (by decide) (fun _ => ?_) (fun c9 => absurd (by decide) c9)
  have hP9 := hP.sub (ws' := [(pa, .inr (1, [.ref pb, pr, .int 0])), (pb, .inl (aC 0, 128, .inl u1)), (s0, .inr (1, [b0, r0, .int 0]))]) [1, 2, 0] rfl
  have hD9 := hD.sub (ws' := [(pa, .inr (1, [.ref pb, pr, .int 0])), (pb, .inl (aC 0, 128, .inl u1)), (s0, .inr (1, [b0, r0, .int 0]))]) [1, 2, 0] (by decide) rfl
  refine W.widen (k := 0) (n := 0) (Nat.le_of_ble_eq_true rfl) (Nat.le_of_ble_eq_true rfl) ?_
  exact W.vret hx hb hr (fun t ht hW => ⟨⟨u1, rfl, trivial, by rw [ht]; exact hP9, hD9⟩, hS.F ht⟩) hS.2.2 dX1_partsInto_34

set_option maxHeartbeats 4000000 in
set_option maxRecDepth 100000 in
theorem c_X11_partsOf (l : Launch) (dC : Nat → ClassId) (dI : Nat → Nat → Nat) (aC : Nat → ClassId) (sz : Nat) (h0 pt fa pa md rg mk : Nat) (o1 o2 o3 o4 o5 o6 o7 o8 : Value) (ff : Nat → Option Nat) (s0 : Nat) (b0 r0 w : Value) (mny al : Int32) (k1 k2 : Value) (pb : Nat) (pr : Value) (pf : Nat → Int32) (pm : Int32) (hf : ff 0 = some s0) : Met l yX11_partsOf wsX11_partsOf ({ frames := 3, cells := 0, slots := 0, locals := 80 } : Room) (rf_Pc (dC, dI) aC [.ref h0, .int 0] [(h0, .inr (11, [.ref pt, .ref fa, .int 1, .ref pa, o1, .ref md, o2, o3, .ref rg, o4, .ref mk, o5, o6, o7, o8])), (fa, .inl (aC 4, 5, .inr (.inr (.inr (.inr ff))))), (s0, .inr (1, [b0, r0, .int 0])), (pt, .inr (0, [w, .int mny, .int al])), (mk, .inr (6, [k1, k2])), (pa, .inr (1, [.ref pb, pr, .int pm])), (pb, .inl (aC 0, 128, .inl pf))] sz) (va_Qr (fun (u : Nat → Int32) => True) (fun (u : Nat → Int32) (ra : Nat) t => ra = pa ∧ va_P (dC, dI) rfCl [(h0, .inr (11, [.ref pt, .ref fa, .int 1, .ref pa, o1, .ref md, o2, o3, .ref rg, o4, .ref mk, o5, o6, o7, o8])), (fa, .inl (aC 4, 5, .inr (.inr (.inr (.inr ff))))), (s0, .inr (1, [b0, r0, .int 0])), (pt, .inr (0, [w, .int mny, .int al])), (mk, .inr (6, [k1, k2])), (pa, .inr (1, [.ref pb, pr, .int 0])), (pb, .inl (aC 0, 128, .inl u))] t.heap ∧ va_D (va_A [(h0, .inr (11, [.ref pt, .ref fa, .int 1, .ref pa, o1, .ref md, o2, o3, .ref rg, o4, .ref mk, o5, o6, o7, o8])), (fa, .inl (aC 4, 5, .inr (.inr (.inr (.inr ff))))), (s0, .inr (1, [b0, r0, .int 0])), (pt, .inr (0, [w, .int mny, .int al])), (mk, .inr (6, [k1, k2])), (pa, .inr (1, [.ref pb, pr, .int pm])), (pb, .inl (aC 0, 128, .inl pf))] sz) [(h0, .inr (11, [.ref pt, .ref fa, .int 1, .ref pa, o1, .ref md, o2, o3, .ref rg, o4, .ref mk, o5, o6, o7, o8])), (fa, .inl (aC 4, 5, .inr (.inr (.inr (.inr ff))))), (s0, .inr (1, [b0, r0, .int 0])), (pt, .inr (0, [w, .int mny, .int al])), (mk, .inr (6, [k1, k2])), (pa, .inr (1, [.ref pb, pr, .int 0])), (pb, .inl (aC 0, 128, .inl u))]) (va_A [(h0, .inr (11, [.ref pt, .ref fa, .int 1, .ref pa, o1, .ref md, o2, o3, .ref rg, o4, .ref mk, o5, o6, o7, o8])), (fa, .inl (aC 4, 5, .inr (.inr (.inr (.inr ff))))), (s0, .inr (1, [b0, r0, .int 0])), (pt, .inr (0, [w, .int mny, .int al])), (mk, .inr (6, [k1, k2])), (pa, .inr (1, [.ref pb, pr, .int pm])), (pb, .inl (aC 0, 128, .inl pf))] sz)) 0 0 (va_A [(h0, .inr (11, [.ref pt, .ref fa, .int 1, .ref pa, o1, .ref md, o2, o3, .ref rg, o4, .ref mk, o5, o6, o7, o8])), (fa, .inl (aC 4, 5, .inr (.inr (.inr (.inr ff))))), (s0, .inr (1, [b0, r0, .int 0])), (pt, .inr (0, [w, .int mny, .int al])), (mk, .inr (6, [k1, k2])), (pa, .inr (1, [.ref pb, pr, .int pm])), (pb, .inl (aC 0, 128, .inl pf))] sz) := by
  refine Met.ofW (cc := cX11_partsOf) (maxL := 2) (ret := (some (.object "Transversary$Sets"))) (by decide) rfl ?_
  intro p e s m args below meth c s₁ B hml hv
  obtain ⟨rfl, hsz, hP, hKN, hD0⟩ := hv
  obtain ⟨hK, hN⟩ := hKN
  have hx := B.exec
  have hb := B.bytes
  have hr := B.returns
  have hts := atoms_spec (ws := wsX11_partsOf) B.pre
  have hown : s.vm.findClass RX11 = some m.cls := findClass_of_methodNamed B.named
  have hlocks := B.notSynchronized
  subst hsz
  have hD := hD0.self (sz := s.heap.size)
  generalize hAe : va_A [(h0, .inr (11, [.ref pt, .ref fa, .int 1, .ref pa, o1, .ref md, o2, o3, .ref rg, o4, .ref mk, o5, o6, o7, o8])), (fa, .inl (aC 4, 5, .inr (.inr (.inr (.inr ff))))), (s0, .inr (1, [b0, r0, .int 0])), (pt, .inr (0, [w, .int mny, .int al])), (mk, .inr (6, [k1, k2])), (pa, .inr (1, [.ref pb, pr, .int pm])), (pb, .inl (aC 0, 128, .inl pf))] s.heap.size = A at hD ⊢
  have hA : ∀ q : Nat, s.heap.size ≤ q → A q := fun q h => by rw [← hAe]; exact Or.inr h
  have hS : va_S A s.heap s.heap [] := va_S.rf
  have hP : va_P (dC, dI) rfCl [(h0, .inr (11, [.ref pt, .ref fa, .int 1, .ref pa, o1, .ref md, o2, o3, .ref rg, o4, .ref mk, o5, o6, o7, o8])), (fa, .inl (aC 4, 5, .inr (.inr (.inr (.inr ff))))), (s0, .inr (1, [b0, r0, .int 0])), (pt, .inr (0, [w, .int mny, .int al])), (mk, .inr (6, [k1, k2])), (pa, .inr (1, [.ref pb, pr, .int pm])), (pb, .inl (aC 0, 128, .inl pf))] s.heap := hP
  have hl := lv_entry ([.ref h0, .int 0]) (n := 2) (Nat.le_of_ble_eq_true rfl)
  rw [lg_entry_eq]
  generalize (lg_sl ([.ref h0, .int 0]) ++ List.replicate (2 - (lg_sl ([.ref h0, .int 0])).length) Slot.unset).toArray = ls at hl ⊢
  have hl : lv_has ls 2 [(0, .ref h0), (1, .int 0)] := hl
  refine lv_aload_n hx hb dX11_partsOf_0 rfl (lv_at hl 0 rfl) ?_
  refine va_get (D := (dC, dI)) (ci := 11) (v := .ref mk) (C := RX11) (T := TX11) (N := 15) hx hb hts (by decide +kernel) hown hK hP 0 rfl rfl 10 (by decide) (hts (.fieldLink RX11 68 "Transversary" "makers" "LTransversary$Makers;") (by decide +kernel)) (fun _ h9 => h9) rfl dX11_partsOf_1 ?_
  refine lv_aload_n hx hb dX11_partsOf_4 rfl (lv_at hl 0 rfl) ?_
  refine va_get (D := (dC, dI)) (ci := 11) (v := .ref pa) (C := RX11) (T := TX11) (N := 15) hx hb hts (by decide +kernel) hown hK hP 0 rfl rfl 3 (by decide) (hts (.fieldLink RX11 23 "Transversary" "parts" "LTransversary$Sets;") (by decide +kernel)) (fun _ h9 => h9) rfl dX11_partsOf_5 ?_
  refine lv_aload_n hx hb dX11_partsOf_8 rfl (lv_at hl 0 rfl) ?_
  refine lv_iload_n hx hb dX11_partsOf_9 rfl (lv_at hl 1 rfl) ?_
  have hPc := hP.sub (ws' := [(h0, .inr (11, [.ref pt, .ref fa, .int 1, .ref pa, o1, .ref md, o2, o3, .ref rg, o4, .ref mk, o5, o6, o7, o8])), (fa, .inl (aC 4, 5, .inr (.inr (.inr (.inr ff)))))]) [0, 1] rfl
  have hDc := hD.sub (ws' := [(h0, .inr (11, [.ref pt, .ref fa, .int 1, .ref pa, o1, .ref md, o2, o3, .ref rg, o4, .ref mk, o5, o6, o7, o8])), (fa, .inl (aC 4, 5, .inr (.inr (.inr (.inr ff)))))]) [0, 1] (by decide) rfl
  refine va_csr (W.runV (As := [.int 0]) (rest := [.ref pa, .ref mk]) ⟨hx, hb, hml, hown, hts⟩ (c_X11_familyOf l dC dI aC s.heap.size h0 pt fa pa md rg mk o1 o2 o3 o4 o5 o6 o7 o8 ff s0 hf) (cwV 1 hts gX11_partsOf_X11_familyOf rfl rfl rfl (by decide +kernel) ⟨Nat.le_of_ble_eq_true rfl, Nat.le_of_ble_eq_true rfl⟩) (rf_pv hK hN hPc hDc (va_recv hK hP (ci := 11) (q0 := 0) rfl rfl)) rfl rfl hl.1 rfl (lv_room (Nat.le_of_ble_eq_true rfl)) dX11_partsOf_10 ⟨Nat.le_of_ble_eq_true rfl, Nat.le_of_ble_eq_true rfl⟩) (fun k9 hk9 => ?_)
  rw [hk9]
  refine lv_aload_n hx hb dX11_partsOf_13 rfl (lv_at hl 0 rfl) ?_
  refine va_get (D := (dC, dI)) (ci := 11) (v := .ref pt) (C := RX11) (T := TX11) (N := 15) hx hb hts (by decide +kernel) hown hK hP 0 rfl rfl 0 (by decide) (hts (.fieldLink RX11 12 "Transversary" "points" "LTransversary$Points;") (by decide +kernel)) (fun _ h9 => h9) rfl dX11_partsOf_14 ?_
  have hPc := hP.sub (ws' := [(pt, .inr (0, [w, .int mny, .int al]))]) [3] rfl
  have hDc := hD.sub (ws' := [(pt, .inr (0, [w, .int mny, .int al]))]) [3] (by decide) rfl
  refine W.callR (W.runV (As := []) (rest := [.ref s0, .ref pa, .ref mk]) ⟨hx, hb, hml, hown, hts⟩ (c_X3_alive l dC dI aC s.heap.size pt w mny al) (cwV 0 hts gX11_partsOf_X3_alive rfl rfl rfl (by decide +kernel) ⟨Nat.le_of_ble_eq_true rfl, Nat.le_of_ble_eq_true rfl⟩) (rf_pv hK hN hPc hDc (va_recv hK hP (ci := 0) (q0 := 3) rfl rfl)) rfl rfl hl.1 rfl (lv_room (Nat.le_of_ble_eq_true rfl)) dX11_partsOf_17 ⟨Nat.le_of_ble_eq_true rfl, Nat.le_of_ble_eq_true rfl⟩) ?_
  refine W.eq (g2 := F0 m 20 ls [.int al, .ref s0, .ref pa, .ref mk]) rfl ?_
  have hPc := hP.sub (ws' := [(pa, .inr (1, [.ref pb, pr, .int pm])), (pb, .inl (aC 0, 128, .inl pf)), (s0, .inr (1, [b0, r0, .int 0]))]) [5, 6, 2] rfl
  have hDc := hD.sub (ws' := [(pa, .inr (1, [.ref pb, pr, .int pm])), (pb, .inl (aC 0, 128, .inl pf)), (s0, .inr (1, [b0, r0, .int 0]))]) [5, 6, 2] (by decide) rfl
  have hFc := va_free (wc := [(pa, .inr (1, [.ref pb, pr, .int pm])), (pb, .inl (aC 0, 128, .inl pf)), (s0, .inr (1, [b0, r0, .int 0]))]) hD hS hA [5, 6, 2] rfl
  refine va_callv (va_runV (As := [.ref pa, .ref s0, .int al]) (rest := []) ⟨hx, hb, hml, hown, hts⟩ (c_X1_partsInto l dC dI aC s.heap.size mk pa pb pr pf pm s0 b0 r0 al) (cwV 3 hts gX11_partsOf_X1_partsInto rfl rfl rfl (by decide +kernel) ⟨Nat.le_of_ble_eq_true rfl, Nat.le_of_ble_eq_true rfl⟩) (rf_pv hK hN hPc hDc (va_recv hK hP (ci := 6) (q0 := 4) rfl rfl)) rfl rfl hl.1 rfl (lv_room (Nat.le_of_ble_eq_true rfl)) dX11_partsOf_20 ⟨Nat.le_of_ble_eq_true rfl, Nat.le_of_ble_eq_true rfl⟩) hS (fun q _ h => hFc q h) hFc (fun u1 t H1 locs ht hvm hwu1 hB hz1 hk1 hS => ?_)
  obtain ⟨hP1, hD1⟩ := hB
  rw [ht] at hP1
  try dsimp only at hwu1 hP1 hD1
  obtain ⟨hP, hD⟩ := va_join (wr := [(h0, .inr (11, [.ref pt, .ref fa, .int 1, .ref pa, o1, .ref md, o2, o3, .ref rg, o4, .ref mk, o5, o6, o7, o8])), (fa, .inl (aC 4, 5, .inr (.inr (.inr (.inr ff))))), (pt, .inr (0, [w, .int mny, .int al])), (mk, .inr (6, [k1, k2]))]) (w1 := [(pa, .inr (1, [.ref pb, pr, .int 0])), (pb, .inl (aC 0, 128, .inl u1)), (s0, .inr (1, [b0, r0, .int 0]))]) hP hD [5, 6, 2] [0, 1, 3, 4] rfl rfl (by decide) (by decide) hk1 hFc hP1 hD1
  clear hP1 hD1 hPc hDc hFc
  generalize H1 = H at hP hS ⊢
  have hP : va_P (dC, dI) rfCl [(h0, .inr (11, [.ref pt, .ref fa, .int 1, .ref pa, o1, .ref md, o2, o3, .ref rg, o4, .ref mk, o5, o6, o7, o8])), (fa, .inl (aC 4, 5, .inr (.inr (.inr (.inr ff))))), (pt, .inr (0, [w, .int mny, .int al])), (mk, .inr (6, [k1, k2])), (pa, .inr (1, [.ref pb, pr, .int 0])), (pb, .inl (aC 0, 128, .inl u1)), (s0, .inr (1, [b0, r0, .int 0]))] H := hP
  have hD : va_D A [(h0, .inr (11, [.ref pt, .ref fa, .int 1, .ref pa, o1, .ref md, o2, o3, .ref rg, o4, .ref mk, o5, o6, o7, o8])), (fa, .inl (aC 4, 5, .inr (.inr (.inr (.inr ff))))), (pt, .inr (0, [w, .int mny, .int al])), (mk, .inr (6, [k1, k2])), (pa, .inr (1, [.ref pb, pr, .int 0])), (pb, .inl (aC 0, 128, .inl u1)), (s0, .inr (1, [b0, r0, .int 0]))] := hD
  refine W.widen (k := 0) (n := 0) (Nat.le_of_ble_eq_true rfl) (Nat.le_of_ble_eq_true rfl) ?_
  refine lv_aload_n hx hb dX11_partsOf_23 rfl (lv_at hl 0 rfl) ?_
  refine va_get (D := (dC, dI)) (ci := 11) (v := .ref pa) (C := RX11) (T := TX11) (N := 15) hx hb hts (by decide +kernel) hown hK hP 0 rfl rfl 3 (by decide) (hts (.fieldLink RX11 23 "Transversary" "parts" "LTransversary$Sets;") (by decide +kernel)) (fun _ h9 => h9) rfl dX11_partsOf_24 ?_
  have hP9 := hP.sub (ws' := [(h0, .inr (11, [.ref pt, .ref fa, .int 1, .ref pa, o1, .ref md, o2, o3, .ref rg, o4, .ref mk, o5, o6, o7, o8])), (fa, .inl (aC 4, 5, .inr (.inr (.inr (.inr ff))))), (s0, .inr (1, [b0, r0, .int 0])), (pt, .inr (0, [w, .int mny, .int al])), (mk, .inr (6, [k1, k2])), (pa, .inr (1, [.ref pb, pr, .int 0])), (pb, .inl (aC 0, 128, .inl u1))]) [0, 1, 6, 2, 3, 4, 5] rfl
  have hD9 := hD.sub (ws' := [(h0, .inr (11, [.ref pt, .ref fa, .int 1, .ref pa, o1, .ref md, o2, o3, .ref rg, o4, .ref mk, o5, o6, o7, o8])), (fa, .inl (aC 4, 5, .inr (.inr (.inr (.inr ff))))), (s0, .inr (1, [b0, r0, .int 0])), (pt, .inr (0, [w, .int mny, .int al])), (mk, .inr (6, [k1, k2])), (pa, .inr (1, [.ref pb, pr, .int 0])), (pb, .inl (aC 0, 128, .inl u1))]) [0, 1, 6, 2, 3, 4, 5] (by decide) rfl
  refine W.widen (k := 0) (n := 0) (Nat.le_of_ble_eq_true rfl) (Nat.le_of_ble_eq_true rfl) ?_
  exact W.aret (v := .ref pa) hx hb hr (Or.inl ⟨_, rfl⟩) (Or.inr ⟨_, rfl⟩) (fun t ht hW => ⟨⟨u1, pa, rfl, trivial, rfl, by rw [ht]; exact hP9, hD9⟩, hS.F ht⟩) hS.2.2 dX11_partsOf_27
