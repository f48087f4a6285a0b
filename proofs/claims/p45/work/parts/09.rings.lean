theorem rf_pred (n : Nat) : nI (n + 1) + (-1) = nI n := (Int32.sub_eq_add_neg _ _).symm.trans (nI_pred n)
theorem rf_in0 : ∀ i, i < 127 → (if nI (i + 1) &&& ((0 : Int32) ^^^ (-1)) = 0 then (1 : Int32) else 0) = 0 := by decide +kernel
theorem rf_in1 : ∀ i, i < 127 → (if nI (i + 1) &&& ((0 : Int32) &&& ((0 : Int32) ^^^ (-1)) ^^^ (-1)) = 0 then (1 : Int32) else 0) = 0 := by decide +kernel

set_option maxHeartbeats 4000000 in
set_option maxRecDepth 100000 in
theorem c_X7_hasWithin (l : Launch) (dC : Nat → ClassId) (dI : Nat → Nat → Nat) (aC : Nat → ClassId) (sz : Nat) (h0 : Nat) (b r : Value) (p0 p1 : Int32)  : Met l yX7_hasWithin wsX7_hasWithin ({ frames := 1, cells := 0, slots := 0, locals := 0 } : Room) (rf_Pc (dC, dI) aC [.ref h0, .int p0, .int p1] [(h0, .inr (1, [b, r, .int 0]))] sz) (QcRead 0) 0 0 (fun _ => False) := by
  refine Met.ofW (cc := cX7_hasWithin) (maxL := 4) (ret := (some .boolean)) (by decide) rfl ?_
  intro p e s m args below meth c s₁ B hml hv
  obtain ⟨rfl, hsz, hP, hKN, hD0⟩ := hv
  obtain ⟨hK, hN⟩ := hKN
  have hx := B.exec
  have hb := B.bytes
  have hr := B.returns
  have hts := atoms_spec (ws := wsX7_hasWithin) B.pre
  have hown : s.vm.findClass RX7 = some m.cls := findClass_of_methodNamed B.named
  have hlocks := B.notSynchronized
  subst hsz
  have hD := hD0.self (sz := s.heap.size)
  generalize hAe : va_A [(h0, .inr (1, [b, r, .int 0]))] s.heap.size = A at hD
  have hA : ∀ q : Nat, s.heap.size ≤ q → A q := fun q h => by rw [← hAe]; exact Or.inr h
  have hS : va_S A s.heap s.heap [] := va_S.rf
  have hP : va_P (dC, dI) rfCl [(h0, .inr (1, [b, r, .int 0]))] s.heap := hP
  have hl := lv_entry ([.ref h0, .int p0, .int p1]) (n := 4) (Nat.le_of_ble_eq_true rfl)
  rw [lg_entry_eq]
  generalize (lg_sl ([.ref h0, .int p0, .int p1]) ++ List.replicate (4 - (lg_sl ([.ref h0, .int p0, .int p1])).length) Slot.unset).toArray = ls at hl ⊢
  have hl : lv_has ls 4 [(0, .ref h0), (1, .int p0), (2, .int p1)] := hl
  refine lv_iconst (v := 0) hx hb dX7_hasWithin_0 (by decide) ?_
  refine lv_istore_n (lv' := [(3, .int 0), (0, .ref h0), (1, .int p0), (2, .int p1)]) hx hb dX7_hasWithin_1 rfl hl (by decide) rfl (fun ls hl => ?_)
  refine lv_iload_n hx hb dX7_hasWithin_2 rfl (lv_at hl 0 rfl) ?_
  refine lv_aload_n hx hb dX7_hasWithin_3 rfl (lv_at hl 1 rfl) ?_
  refine va_get (D := (dC, dI)) (ci := 1) (v := .int 0) (C := RX7) (T := TX7) (N := 3) hx hb hts (by decide +kernel) hown hK hP 0 rfl rfl 2 (by decide) (hts (.fieldLink RX7 19 "Transversary$Sets" "many" "I") (by decide +kernel)) (fun _ h9 => h9) rfl dX7_hasWithin_4 ?_
  refine lv_icmp_ge (tgt := 42) hx hb dX7_hasWithin_7 (by decide) (fun _ => ?_) (fun c9 => absurd (by decide) c9)
  refine lv_iconst (v := 0) hx hb dX7_hasWithin_42 (by decide) ?_
  exact W.zret (v := 0) hx hb hr rfl (fun t ht hW => ⟨rfl, ht⟩) (fun q h => nomatch h) dX7_hasWithin_43

set_option maxHeartbeats 4000000 in
set_option maxRecDepth 100000 in
theorem c_X5_canWin (l : Launch) (dC : Nat → ClassId) (dI : Nat → Nat → Nat) (aC : Nat → ClassId) (sz : Nat) (h0 : Nat)  : Met l yX5_canWin wsX5_canWin ({ frames := 3, cells := 0, slots := 0, locals := 80 } : Room) (rf_Pc (dC, dI) aC [.ref h0, .int 0, .int 0, .int 0, .int 0] [] sz) (QcRead 0) 0 0 (fun _ => False) := by
  refine Met.ofW (cc := cX5_canWin) (maxL := 10) (ret := (some .boolean)) (by decide) rfl ?_
  intro p e s m args below meth c s₁ B hml hv
  obtain ⟨rfl, hsz, hP, hKN, hD0⟩ := hv
  obtain ⟨hK, hN⟩ := hKN
  have hx := B.exec
  have hb := B.bytes
  have hr := B.returns
  have hts := atoms_spec (ws := wsX5_canWin) B.pre
  have hown : s.vm.findClass RX5 = some m.cls := findClass_of_methodNamed B.named
  have hlocks := B.notSynchronized
  subst hsz
  have hD := hD0.self (sz := s.heap.size)
  generalize hAe : va_A [] s.heap.size = A at hD
  have hA : ∀ q : Nat, s.heap.size ≤ q → A q := fun q h => by rw [← hAe]; exact Or.inr h
  have hS : va_S A s.heap s.heap [] := va_S.rf
  have hP : va_P (dC, dI) rfCl [] s.heap := hP
  have hl := lv_entry ([.ref h0, .int 0, .int 0, .int 0, .int 0]) (n := 10) (Nat.le_of_ble_eq_true rfl)
  rw [lg_entry_eq]
  generalize (lg_sl ([.ref h0, .int 0, .int 0, .int 0, .int 0]) ++ List.replicate (10 - (lg_sl ([.ref h0, .int 0, .int 0, .int 0, .int 0])).length) Slot.unset).toArray = ls at hl ⊢
  have hl : lv_has ls 10 [(0, .ref h0), (1, .int 0), (2, .int 0), (3, .int 0), (4, .int 0)] := hl
  refine lv_iload_n hx hb dX5_canWin_0 rfl (lv_at hl 3 rfl) ?_
  refine lv_iload_n hx hb dX5_canWin_1 rfl (lv_at hl 1 rfl) ?_
  refine lv_iconst (v := -1) hx hb dX5_canWin_2 (by decide) ?_
  refine lv_ixor hx hb dX5_canWin_3 ?_
  refine lv_topi (fun t1 et1 => ?_)
  refine lv_iand hx hb dX5_canWin_4 ?_
  refine lv_topi (fun t2 et2 => ?_)
  refine lv_iload_n hx hb dX5_canWin_5 rfl (lv_at hl 2 rfl) ?_
  refine lv_iconst (v := -1) hx hb dX5_canWin_6 (by decide) ?_
  refine lv_ixor hx hb dX5_canWin_7 ?_
  refine lv_topi (fun t3 et3 => ?_)
  refine lv_iand hx hb dX5_canWin_8 ?_
  refine lv_topi (fun t4 et4 => ?_)
  refine lv_istore (lv' := [(5, .int t4), (0, .ref h0), (1, .int 0), (2, .int 0), (3, .int 0), (4, .int 0)]) hx hb dX5_canWin_9 hl (by decide) rfl (fun ls hl => ?_)
  refine lv_iload_n hx hb dX5_canWin_11 rfl (lv_at hl 2 rfl) ?_
  have hPc := hP.sub (ws' := []) [] rfl
  have hDc := hD.sub (ws' := []) [] (by decide) rfl
  refine W.callA (rf_cr (va_runSN (As := [.int 0]) (rest := []) ⟨hx, hb, hml, hown, hts⟩ (c_X11_sizeOf l dC dI aC s.heap.size 0) (⟨va_cnB 1 hts (goodIn_sub (by decide +kernel) (by decide +kernel)) rfl rfl rfl (rf_nst hN 1 (q := (RX5, 33, yX11_sizeOf, "Transversary")) rfl) (hts (.initialized RX11) (by decide +kernel)) (by decide +kernel) ⟨Nat.le_of_ble_eq_true rfl, Nat.le_of_ble_eq_true rfl⟩, hts (.static yX11_sizeOf) (by decide +kernel), trivial⟩) (rf_ps hK hN hPc hDc) rfl rfl hl.1 rfl (lv_room (Nat.le_of_ble_eq_true rfl)) dX5_canWin_12 ⟨Nat.le_of_ble_eq_true rfl, Nat.le_of_ble_eq_true rfl⟩)) (fun t5 => ?_)
  refine W.eq (g2 := F0 m 15 ls [.int t5]) rfl ?_
  refine lv_iload_n hx hb dX5_canWin_15 rfl (lv_at hl 3 rfl) ?_
  have hPc := hP.sub (ws' := []) [] rfl
  have hDc := hD.sub (ws' := []) [] (by decide) rfl
  refine W.callA (rf_cr (va_runSN (As := [.int 0]) (rest := [.int t5]) ⟨hx, hb, hml, hown, hts⟩ (c_X11_sizeOf l dC dI aC s.heap.size 0) (⟨va_cnB 1 hts (goodIn_sub (by decide +kernel) (by decide +kernel)) rfl rfl rfl (rf_nst hN 1 (q := (RX5, 33, yX11_sizeOf, "Transversary")) rfl) (hts (.initialized RX11) (by decide +kernel)) (by decide +kernel) ⟨Nat.le_of_ble_eq_true rfl, Nat.le_of_ble_eq_true rfl⟩, hts (.static yX11_sizeOf) (by decide +kernel), trivial⟩) (rf_ps hK hN hPc hDc) rfl rfl hl.1 rfl (lv_room (Nat.le_of_ble_eq_true rfl)) dX5_canWin_16 ⟨Nat.le_of_ble_eq_true rfl, Nat.le_of_ble_eq_true rfl⟩)) (fun t6 => ?_)
  refine W.eq (g2 := F0 m 19 ls [.int t6, .int t5]) rfl ?_
  refine lv_isub hx hb dX5_canWin_19 ?_
  refine lv_topi (fun t7 et7 => ?_)
  refine lv_istore (lv' := [(6, .int t7), (5, .int t4), (0, .ref h0), (1, .int 0), (2, .int 0), (3, .int 0), (4, .int 0)]) hx hb dX5_canWin_20 hl (by decide) rfl (fun ls hl => ?_)
  refine lv_iload hx hb dX5_canWin_22 (lv_at hl 1 rfl) ?_
  have h5 : t4 = 0 := by rw [et4, et3, et2, et1]; decide
  refine lv_if_eq (tgt := 32) hx hb dX5_canWin_24 (by decide) (fun _ => ?_) (fun c9 => absurd h5 c9)
  refine lv_iload hx hb dX5_canWin_32 (lv_at hl 6 rfl) ?_
  exact W.zret (v := 0) hx hb hr rfl (fun t ht hW => ⟨rfl, ht⟩) (fun q h => nomatch h) dX5_canWin_34

set_option maxHeartbeats 4000000 in
set_option maxRecDepth 100000 in
theorem c_X5_playBackwards (l : Launch) (dC : Nat → ClassId) (dI : Nat → Nat → Nat) (aC : Nat → ClassId) (sz : Nat) (h0 : Nat) (g1 g2 g3 g4 : Value) (wi : Nat) (wf : Nat → Int64) (pa : Nat) (pb pr : Value)  : Met l yX5_playBackwards wsX5_playBackwards ({ frames := 4, cells := 0, slots := 0, locals := 120 } : Room) (rf_Pc (dC, dI) aC [.ref h0, .ref pa, .int 0] [(h0, .inr (4, [g1, g2, g3, g4, .ref wi])), (wi, .inl (aC 2, 256, .inr (.inl wf))), (pa, .inr (1, [pb, pr, .int 0]))] sz) (va_Qv (fun (u : Nat → Int64) => True) (fun (u : Nat → Int64) t => va_P (dC, dI) rfCl [(h0, .inr (4, [g1, g2, g3, g4, .ref wi])), (wi, .inl (aC 2, 256, .inr (.inl u))), (pa, .inr (1, [pb, pr, .int 0]))] t.heap ∧ va_D (va_A [(h0, .inr (4, [g1, g2, g3, g4, .ref wi])), (wi, .inl (aC 2, 256, .inr (.inl wf))), (pa, .inr (1, [pb, pr, .int 0]))] sz) [(h0, .inr (4, [g1, g2, g3, g4, .ref wi])), (wi, .inl (aC 2, 256, .inr (.inl u))), (pa, .inr (1, [pb, pr, .int 0]))]) (va_A [(h0, .inr (4, [g1, g2, g3, g4, .ref wi])), (wi, .inl (aC 2, 256, .inr (.inl wf))), (pa, .inr (1, [pb, pr, .int 0]))] sz)) 0 0 (va_A [(h0, .inr (4, [g1, g2, g3, g4, .ref wi])), (wi, .inl (aC 2, 256, .inr (.inl wf))), (pa, .inr (1, [pb, pr, .int 0]))] sz) := by
  refine Met.ofW (cc := cX5_playBackwards) (maxL := 6) (ret := none) (by decide) rfl ?_
  intro p e s m args below meth c s₁ B hml hv
  obtain ⟨rfl, hsz, hP, hKN, hD0⟩ := hv
  obtain ⟨hK, hN⟩ := hKN
  have hx := B.exec
  have hb := B.bytes
  have hr := B.returns
  have hts := atoms_spec (ws := wsX5_playBackwards) B.pre
  have hown : s.vm.findClass RX5 = some m.cls := findClass_of_methodNamed B.named
  have hlocks := B.notSynchronized
  subst hsz
  have hD := hD0.self (sz := s.heap.size)
  generalize hAe : va_A [(h0, .inr (4, [g1, g2, g3, g4, .ref wi])), (wi, .inl (aC 2, 256, .inr (.inl wf))), (pa, .inr (1, [pb, pr, .int 0]))] s.heap.size = A at hD ⊢
  have hA : ∀ q : Nat, s.heap.size ≤ q → A q := fun q h => by rw [← hAe]; exact Or.inr h
  have hS : va_S A s.heap s.heap [] := va_S.rf
  have hP : va_P (dC, dI) rfCl [(h0, .inr (4, [g1, g2, g3, g4, .ref wi])), (wi, .inl (aC 2, 256, .inr (.inl wf))), (pa, .inr (1, [pb, pr, .int 0]))] s.heap := hP
  have hl := lv_entry ([.ref h0, .ref pa, .int 0]) (n := 6) (Nat.le_of_ble_eq_true rfl)
  rw [lg_entry_eq]
  generalize (lg_sl ([.ref h0, .ref pa, .int 0]) ++ List.replicate (6 - (lg_sl ([.ref h0, .ref pa, .int 0])).length) Slot.unset).toArray = ls at hl ⊢
  have hl : lv_has ls 6 [(0, .ref h0), (1, .ref pa), (2, .int 0)] := hl
  refine lv_iconst (v := 0) hx hb dX5_playBackwards_0 (by decide) ?_
  refine lv_istore_n (lv' := [(3, .int 0), (0, .ref h0), (1, .ref pa), (2, .int 0)]) hx hb dX5_playBackwards_1 rfl hl (by decide) rfl (fun ls hl => ?_)
  have loop : ∀ (n i : Nat) (x_loop : Int32) (wf1 : Nat → Int64), i ≤ 256 → 257 ≤ i + n → x_loop = nI i → ∀ (H : Heap) (locs : List Loc), va_P (dC, dI) rfCl [(h0, .inr (4, [g1, g2, g3, g4, .ref wi])), (wi, .inl (aC 2, 256, .inr (.inl wf1))), (pa, .inr (1, [pb, pr, .int 0]))] H → va_D A [(h0, .inr (4, [g1, g2, g3, g4, .ref wi])), (wi, .inl (aC 2, 256, .inr (.inl wf1))), (pa, .inr (1, [pb, pr, .int 0]))] → va_S A s.heap H locs → ∀ ls : Array Slot, lv_has ls 6 [(3, .int x_loop), (0, .ref h0), (1, .ref pa), (2, .int 0)] → W p l e (headSpec wsX5_playBackwards ({ frames := 4, cells := 0, slots := 0, locals := 120 } : Room)).room s m ([.ref h0, .ref pa, .int 0] : List Value).toArray below meth c H locs 0 0 (MQ below (va_Qv (fun (u : Nat → Int64) => True) (fun (u : Nat → Int64) t => va_P (dC, dI) rfCl [(h0, .inr (4, [g1, g2, g3, g4, .ref wi])), (wi, .inl (aC 2, 256, .inr (.inl u))), (pa, .inr (1, [pb, pr, .int 0]))] t.heap ∧ va_D A [(h0, .inr (4, [g1, g2, g3, g4, .ref wi])), (wi, .inl (aC 2, 256, .inr (.inl u))), (pa, .inr (1, [pb, pr, .int 0]))]) A) ([.ref h0, .ref pa, .int 0] : List Value).toArray s 0 0 A) (F0 m 2 ls []) := by
    intro n
    induction n with
    | zero =>
      intro i x_loop wf1 h1 h2
      exact absurd h2 (by omega)
    | succ n ih =>
      intro i x_loop wf1 hi9 hn ex H locs hP hD hS ls hl
      refine lv_iload_n hx hb dX5_playBackwards_2 rfl (lv_at hl 0 rfl) ?_
      refine lv_aload_n hx hb dX5_playBackwards_3 rfl (lv_at hl 1 rfl) ?_
      refine va_get (D := (dC, dI)) (ci := 4) (v := .ref wi) (C := RX5) (T := TX5) (N := 5) hx hb hts (by decide +kernel) hown hK hP 0 rfl rfl 4 (by decide) (hts (.fieldLink RX5 21 "Transversary$Rings" "wins" "[J") (by decide +kernel)) (fun _ h9 => h9) rfl dX5_playBackwards_4 ?_
      refine va_alen (v := 256) hx hb hK hP 1 2 rfl rfl rfl dX5_playBackwards_7 ?_
      by_cases hlt : i < 256
      · have hbr : ¬ (256 : Int32) ≤ x_loop := by rw [ex]; exact nI_ge hlt (by decide)
        refine lv_icmp_ge (tgt := 24) hx hb dX5_playBackwards_8 (by decide) (fun c9 => absurd c9 hbr) (fun _ => ?_)
        have h_in : vp_in x_loop 256 := by rw [ex]; exact vp_in_nI hlt (by decide)
        refine lv_aload_n hx hb dX5_playBackwards_11 rfl (lv_at hl 1 rfl) ?_
        refine va_get (D := (dC, dI)) (ci := 4) (v := .ref wi) (C := RX5) (T := TX5) (N := 5) hx hb hts (by decide +kernel) hown hK hP 0 rfl rfl 4 (by decide) (hts (.fieldLink RX5 21 "Transversary$Rings" "wins" "[J") (by decide +kernel)) (fun _ h9 => h9) rfl dX5_playBackwards_12 ?_
        refine lv_iload_n hx hb dX5_playBackwards_15 rfl (lv_at hl 0 rfl) ?_
        refine lv_lconst (v := 0) hx hb dX5_playBackwards_16 rfl ?_
        refine va_last hx hb hK hP hD hS 1 2 rfl rfl h_in dX5_playBackwards_17 (fun H locs hP hD hS => ?_)
        have hP : va_P (dC, dI) rfCl [(h0, .inr (4, [g1, g2, g3, g4, .ref wi])), (wi, .inl (aC 2, 256, .inr (.inl (vp_updL wf1 (x_loop).toNatClampNeg 0)))), (pa, .inr (1, [pb, pr, .int 0]))] H := hP
        have hD : va_D A [(h0, .inr (4, [g1, g2, g3, g4, .ref wi])), (wi, .inl (aC 2, 256, .inr (.inl (vp_updL wf1 (x_loop).toNatClampNeg 0)))), (pa, .inr (1, [pb, pr, .int 0]))] := hD
        generalize (vp_updL wf1 (x_loop).toNatClampNeg 0) = f2 at hP hD
        have hP : va_P (dC, dI) rfCl [(h0, .inr (4, [g1, g2, g3, g4, .ref wi])), (wi, .inl (aC 2, 256, .inr (.inl f2))), (pa, .inr (1, [pb, pr, .int 0]))] H := hP
        have hD : va_D A [(h0, .inr (4, [g1, g2, g3, g4, .ref wi])), (wi, .inl (aC 2, 256, .inr (.inl f2))), (pa, .inr (1, [pb, pr, .int 0]))] := hD
        obtain ⟨x_loop2, ex_loop2⟩ : ∃ y : Int32, y = x_loop + (1) := ⟨_, rfl⟩
        refine lv_iinc (v := x_loop2) (lv' := [(3, .int x_loop2), (0, .ref h0), (1, .ref pa), (2, .int 0)]) hx hb dX5_playBackwards_18 hl (k := 0) rfl (by rw [ex_loop2]; rfl) (by decide) rfl (fun ls hl => ?_)
        refine lv_goto (tgt := 2) hx hb dX5_playBackwards_21 (by decide) ?_
        exact ih (i + 1) x_loop2 f2 (by omega) (by omega) (by rw [ex_loop2, ex]; exact nI_1 i) H locs hP hD hS ls (lv_sub hl [0, 1, 2, 3] rfl)
      · have hbr : (256 : Int32) ≤ x_loop := by rw [ex, show i = 256 by omega]; decide
        refine lv_icmp_ge (tgt := 24) hx hb dX5_playBackwards_8 (by decide) (fun _ => ?_) (fun c9 => absurd hbr c9)
        refine lv_bipush (v := 127) hx hb dX5_playBackwards_24 (by decide) ?_
        refine lv_istore_n (lv' := [(3, .int 127), (0, .ref h0), (1, .ref pa), (2, .int 0)]) hx hb dX5_playBackwards_26 rfl hl (by decide) rfl (fun ls hl => ?_)
        have outer : ∀ (i : Nat) (x3 : Int32), i < 128 → x3 = nI i → ∀ (H : Heap) (locs : List Loc), va_P (dC, dI) rfCl [(h0, .inr (4, [g1, g2, g3, g4, .ref wi])), (wi, .inl (aC 2, 256, .inr (.inl wf1))), (pa, .inr (1, [pb, pr, .int 0]))] H → va_D A [(h0, .inr (4, [g1, g2, g3, g4, .ref wi])), (wi, .inl (aC 2, 256, .inr (.inl wf1))), (pa, .inr (1, [pb, pr, .int 0]))] → va_S A s.heap H locs → ∀ ls : Array Slot, lv_has ls 6 [(3, .int x3), (0, .ref h0), (1, .ref pa), (2, .int 0)] → W p l e (headSpec wsX5_playBackwards ({ frames := 4, cells := 0, slots := 0, locals := 120 } : Room)).room s m ([.ref h0, .ref pa, .int 0] : List Value).toArray below meth c H locs 0 0 (MQ below (va_Qv (fun (u : Nat → Int64) => True) (fun (u : Nat → Int64) t => va_P (dC, dI) rfCl [(h0, .inr (4, [g1, g2, g3, g4, .ref wi])), (wi, .inl (aC 2, 256, .inr (.inl u))), (pa, .inr (1, [pb, pr, .int 0]))] t.heap ∧ va_D A [(h0, .inr (4, [g1, g2, g3, g4, .ref wi])), (wi, .inl (aC 2, 256, .inr (.inl u))), (pa, .inr (1, [pb, pr, .int 0]))]) A) ([.ref h0, .ref pa, .int 0] : List Value).toArray s 0 0 A) (F0 m 27 ls []) := by
          intro i
          induction i with
          | zero =>
            intro x3 hi ex H locs hP hD hS ls hl
            have ex0 : x3 = 0 := ex
            subst ex0
            refine lv_iload_n hx hb dX5_playBackwards_27 rfl (lv_at hl 0 rfl) ?_
            refine lv_if_lt (tgt := 115) hx hb dX5_playBackwards_28 (by decide) (fun c9 => absurd c9 (by decide)) (fun _ => ?_)
            refine lv_iload_n hx hb dX5_playBackwards_31 rfl (lv_at hl 0 rfl) ?_
            refine lv_iload_n hx hb dX5_playBackwards_32 rfl (lv_at hl 3 rfl) ?_
            have hPc := hP.sub (ws' := []) [] rfl
            have hDc := hD.sub (ws' := []) [] (by decide) rfl
            refine W.callR (rf_cr (va_runSN (As := [.int 0, .int 0]) (rest := []) ⟨hx, hb, hml, hown, hts⟩ (c_X11_isIn l dC dI aC H.size 0 0 1 (by decide)) (⟨va_cnB 2 hts (goodIn_sub (by decide +kernel) (by decide +kernel)) rfl rfl rfl (rf_nst hN 2 (q := (RX5, 29, yX11_isIn, "Transversary")) rfl) (hts (.initialized RX11) (by decide +kernel)) (by decide +kernel) ⟨Nat.le_of_ble_eq_true rfl, Nat.le_of_ble_eq_true rfl⟩, hts (.static yX11_isIn) (by decide +kernel), trivial⟩) (rf_ps hK hN hPc hDc) rfl rfl hl.1 rfl (lv_room (Nat.le_of_ble_eq_true rfl)) dX5_playBackwards_33 ⟨Nat.le_of_ble_eq_true rfl, Nat.le_of_ble_eq_true rfl⟩)) ?_
            refine W.eq (g2 := F0 m 36 ls [.int 1]) rfl ?_
            refine lv_if_eq (tgt := 109) hx hb dX5_playBackwards_36 (by decide) (fun c9 => absurd c9 (by decide)) (fun _ => ?_)
            refine lv_aload_n hx hb dX5_playBackwards_39 rfl (lv_at hl 2 rfl) ?_
            refine lv_iload_n hx hb dX5_playBackwards_40 rfl (lv_at hl 0 rfl) ?_
            refine lv_iconst (v := 0) hx hb dX5_playBackwards_41 (by decide) ?_
            have hPc := hP.sub (ws' := [(pa, .inr (1, [pb, pr, .int 0]))]) [2] rfl
            have hDc := hD.sub (ws' := [(pa, .inr (1, [pb, pr, .int 0]))]) [2] (by decide) rfl
            refine W.callR (W.runV (As := [.int 0, .int 0]) (rest := []) ⟨hx, hb, hml, hown, hts⟩ (c_X7_hasWithin l dC dI aC H.size pa pb pr 0 0) (cwV 2 hts gX5_playBackwards_X7_hasWithin rfl rfl rfl (by decide +kernel) ⟨Nat.le_of_ble_eq_true rfl, Nat.le_of_ble_eq_true rfl⟩) (rf_pv hK hN hPc hDc (va_recv hK hP (ci := 1) (q0 := 2) rfl rfl)) rfl rfl hl.1 rfl (lv_room (Nat.le_of_ble_eq_true rfl)) dX5_playBackwards_42 ⟨Nat.le_of_ble_eq_true rfl, Nat.le_of_ble_eq_true rfl⟩) ?_
            refine W.eq (g2 := F0 m 45 ls [.int 0]) rfl ?_
            refine lv_istore (lv' := [(4, .int 0), (3, .int 0), (0, .ref h0), (1, .ref pa), (2, .int 0)]) hx hb dX5_playBackwards_45 hl (by decide) rfl (fun ls hl => ?_)
            refine lv_bipush (v := 127) hx hb dX5_playBackwards_47 (by decide) ?_
            refine lv_istore (lv' := [(5, .int 127), (4, .int 0), (3, .int 0), (0, .ref h0), (1, .ref pa), (2, .int 0)]) hx hb dX5_playBackwards_49 hl (by decide) rfl (fun ls hl => ?_)
            have inner : ∀ (j : Nat) (x5 : Int32), j < 128 → x5 = nI j → ∀ (H : Heap) (locs : List Loc), va_P (dC, dI) rfCl [(h0, .inr (4, [g1, g2, g3, g4, .ref wi])), (wi, .inl (aC 2, 256, .inr (.inl wf1))), (pa, .inr (1, [pb, pr, .int 0]))] H → va_D A [(h0, .inr (4, [g1, g2, g3, g4, .ref wi])), (wi, .inl (aC 2, 256, .inr (.inl wf1))), (pa, .inr (1, [pb, pr, .int 0]))] → va_S A s.heap H locs → ∀ ls : Array Slot, lv_has ls 6 [(5, .int x5), (4, .int 0), (3, .int 0), (0, .ref h0), (1, .ref pa), (2, .int 0)] → W p l e (headSpec wsX5_playBackwards ({ frames := 4, cells := 0, slots := 0, locals := 120 } : Room)).room s m ([.ref h0, .ref pa, .int 0] : List Value).toArray below meth c H locs 0 0 (MQ below (va_Qv (fun (u : Nat → Int64) => True) (fun (u : Nat → Int64) t => va_P (dC, dI) rfCl [(h0, .inr (4, [g1, g2, g3, g4, .ref wi])), (wi, .inl (aC 2, 256, .inr (.inl u))), (pa, .inr (1, [pb, pr, .int 0]))] t.heap ∧ va_D A [(h0, .inr (4, [g1, g2, g3, g4, .ref wi])), (wi, .inl (aC 2, 256, .inr (.inl u))), (pa, .inr (1, [pb, pr, .int 0]))]) A) ([.ref h0, .ref pa, .int 0] : List Value).toArray s 0 0 A) (F0 m 51 ls []) := by
              intro j
              induction j with
              | zero =>
                intro x5 hj ey H locs hP hD hS ls hl
                have ey0 : x5 = 0 := ey
                subst ey0
                refine lv_iload hx hb dX5_playBackwards_51 (lv_at hl 0 rfl) ?_
                refine lv_if_lt (tgt := 109) hx hb dX5_playBackwards_53 (by decide) (fun c9 => absurd c9 (by decide)) (fun _ => ?_)
                refine lv_iload hx hb dX5_playBackwards_56 (lv_at hl 0 rfl) ?_
                refine lv_iload_n hx hb dX5_playBackwards_58 rfl (lv_at hl 5 rfl) ?_
                refine lv_iload_n hx hb dX5_playBackwards_59 rfl (lv_at hl 2 rfl) ?_
                refine lv_iconst (v := -1) hx hb dX5_playBackwards_60 (by decide) ?_
                refine lv_ixor hx hb dX5_playBackwards_61 ?_
                refine lv_topi (fun t1 et1 => ?_)
                refine lv_iand hx hb dX5_playBackwards_62 ?_
                refine lv_topi (fun t2 et2 => ?_)
                have hPc := hP.sub (ws' := []) [] rfl
                have hDc := hD.sub (ws' := []) [] (by decide) rfl
                refine W.callR (rf_cr (va_runSN (As := [.int 0, .int t2]) (rest := []) ⟨hx, hb, hml, hown, hts⟩ (c_X11_isIn l dC dI aC H.size 0 t2 1 (by rw [et2, et1]; decide)) (⟨va_cnB 2 hts (goodIn_sub (by decide +kernel) (by decide +kernel)) rfl rfl rfl (rf_nst hN 2 (q := (RX5, 29, yX11_isIn, "Transversary")) rfl) (hts (.initialized RX11) (by decide +kernel)) (by decide +kernel) ⟨Nat.le_of_ble_eq_true rfl, Nat.le_of_ble_eq_true rfl⟩, hts (.static yX11_isIn) (by decide +kernel), trivial⟩) (rf_ps hK hN hPc hDc) rfl rfl hl.1 rfl (lv_room (Nat.le_of_ble_eq_true rfl)) dX5_playBackwards_63 ⟨Nat.le_of_ble_eq_true rfl, Nat.le_of_ble_eq_true rfl⟩)) ?_
                refine W.eq (g2 := F0 m 66 ls [.int 1]) rfl ?_
                refine lv_if_eq (tgt := 103) hx hb dX5_playBackwards_66 (by decide) (fun c9 => absurd c9 (by decide)) (fun _ => ?_)
                refine lv_aload_n hx hb dX5_playBackwards_69 rfl (lv_at hl 3 rfl) ?_
                refine lv_iload_n hx hb dX5_playBackwards_70 rfl (lv_at hl 2 rfl) ?_
                refine lv_iload hx hb dX5_playBackwards_71 (lv_at hl 0 rfl) ?_
                refine lv_iload_n hx hb dX5_playBackwards_73 rfl (lv_at hl 5 rfl) ?_
                refine lv_iload hx hb dX5_playBackwards_74 (lv_at hl 1 rfl) ?_
                have hPc := hP.sub (ws' := []) [] rfl
                have hDc := hD.sub (ws' := []) [] (by decide) rfl
                refine W.callR (W.runV (As := [.int 0, .int 0, .int 0, .int 0]) (rest := []) ⟨hx, hb, hml, hown, hts⟩ (c_X5_canWin l dC dI aC H.size h0) (cwV 4 hts gX5_playBackwards_X5_canWin rfl rfl rfl (by decide +kernel) ⟨Nat.le_of_ble_eq_true rfl, Nat.le_of_ble_eq_true rfl⟩) (rf_pv hK hN hPc hDc (va_recv hK hP (ci := 4) (q0 := 0) rfl rfl)) rfl rfl hl.1 rfl (lv_room (Nat.le_of_ble_eq_true rfl)) dX5_playBackwards_76 ⟨Nat.le_of_ble_eq_true rfl, Nat.le_of_ble_eq_true rfl⟩) ?_
                refine W.eq (g2 := F0 m 79 ls [.int 0]) rfl ?_
                refine lv_if_eq (tgt := 103) hx hb dX5_playBackwards_79 (by decide) (fun _ => ?_) (fun c9 => absurd rfl c9)
                obtain ⟨y5, ey5⟩ : ∃ y : Int32, y = 0 + (-1) := ⟨_, rfl⟩
                refine lv_iinc (v := y5) (lv' := [(5, .int y5), (4, .int 0), (3, .int 0), (0, .ref h0), (1, .ref pa), (2, .int 0)]) hx hb dX5_playBackwards_103 hl (k := 0) rfl (by rw [ey5]; rfl) (by decide) rfl (fun ls hl => ?_)
                refine lv_goto (tgt := 51) hx hb dX5_playBackwards_106 (by decide) ?_
                have ey9 : y5 = -1 := by rw [ey5]; decide
                subst ey9
                refine lv_iload hx hb dX5_playBackwards_51 (lv_at hl 0 rfl) ?_
                refine lv_if_lt (tgt := 109) hx hb dX5_playBackwards_53 (by decide) (fun _ => ?_) (fun c9 => absurd (by decide) c9)
                obtain ⟨y3, ey3⟩ : ∃ y : Int32, y = 0 + (-1) := ⟨_, rfl⟩
                refine lv_iinc (v := y3) (lv' := [(3, .int y3), (5, .int (-1)), (4, .int 0), (0, .ref h0), (1, .ref pa), (2, .int 0)]) hx hb dX5_playBackwards_109 hl (k := 2) rfl (by rw [ey3]; rfl) (by decide) rfl (fun ls hl => ?_)
                refine lv_goto (tgt := 27) hx hb dX5_playBackwards_112 (by decide) ?_
                have ey3b : y3 = -1 := by rw [ey3]; decide
                subst ey3b
                refine lv_iload_n hx hb dX5_playBackwards_27 rfl (lv_at hl 0 rfl) ?_
                refine lv_if_lt (tgt := 115) hx hb dX5_playBackwards_28 (by decide) (fun _ => ?_) (fun c9 => absurd (by decide) c9)
                have hP9 := hP.sub (ws' := [(h0, .inr (4, [g1, g2, g3, g4, .ref wi])), (wi, .inl (aC 2, 256, .inr (.inl wf1))), (pa, .inr (1, [pb, pr, .int 0]))]) [0, 1, 2] rfl
                have hD9 := hD.sub (ws' := [(h0, .inr (4, [g1, g2, g3, g4, .ref wi])), (wi, .inl (aC 2, 256, .inr (.inl wf1))), (pa, .inr (1, [pb, pr, .int 0]))]) [0, 1, 2] (by decide) rfl
                refine W.widen (k := 0) (n := 0) (Nat.le_of_ble_eq_true rfl) (Nat.le_of_ble_eq_true rfl) ?_
                exact W.vret hx hb hr (fun t ht hW => ⟨⟨wf1, rfl, trivial, by rw [ht]; exact hP9, hD9⟩, hS.F ht⟩) hS.2.2 dX5_playBackwards_115
              | succ j ihj =>
                intro x5 hj ey H locs hP hD hS ls hl
                have hn5 : ¬ x5 < 0 := by rw [ey]; exact nI_pos (by omega)
                refine lv_iload hx hb dX5_playBackwards_51 (lv_at hl 0 rfl) ?_
                refine lv_if_lt (tgt := 109) hx hb dX5_playBackwards_53 (by decide) (fun c9 => absurd c9 hn5) (fun _ => ?_)
                refine lv_iload hx hb dX5_playBackwards_56 (lv_at hl 0 rfl) ?_
                refine lv_iload_n hx hb dX5_playBackwards_58 rfl (lv_at hl 5 rfl) ?_
                refine lv_iload_n hx hb dX5_playBackwards_59 rfl (lv_at hl 2 rfl) ?_
                refine lv_iconst (v := -1) hx hb dX5_playBackwards_60 (by decide) ?_
                refine lv_ixor hx hb dX5_playBackwards_61 ?_
                refine lv_topi (fun t3 et3 => ?_)
                refine lv_iand hx hb dX5_playBackwards_62 ?_
                refine lv_topi (fun t4 et4 => ?_)
                have hPc := hP.sub (ws' := []) [] rfl
                have hDc := hD.sub (ws' := []) [] (by decide) rfl
                refine W.callR (rf_cr (va_runSN (As := [.int x5, .int t4]) (rest := []) ⟨hx, hb, hml, hown, hts⟩ (c_X11_isIn l dC dI aC H.size x5 t4 0 (by rw [et4, et3, ey]; exact rf_in1 j (by omega))) (⟨va_cnB 2 hts (goodIn_sub (by decide +kernel) (by decide +kernel)) rfl rfl rfl (rf_nst hN 2 (q := (RX5, 29, yX11_isIn, "Transversary")) rfl) (hts (.initialized RX11) (by decide +kernel)) (by decide +kernel) ⟨Nat.le_of_ble_eq_true rfl, Nat.le_of_ble_eq_true rfl⟩, hts (.static yX11_isIn) (by decide +kernel), trivial⟩) (rf_ps hK hN hPc hDc) rfl rfl hl.1 rfl (lv_room (Nat.le_of_ble_eq_true rfl)) dX5_playBackwards_63 ⟨Nat.le_of_ble_eq_true rfl, Nat.le_of_ble_eq_true rfl⟩)) ?_
                refine W.eq (g2 := F0 m 66 ls [.int 0]) rfl ?_
                refine lv_if_eq (tgt := 103) hx hb dX5_playBackwards_66 (by decide) (fun _ => ?_) (fun c9 => absurd rfl c9)
                obtain ⟨y5, ey5⟩ : ∃ y : Int32, y = x5 + (-1) := ⟨_, rfl⟩
                refine lv_iinc (v := y5) (lv' := [(5, .int y5), (4, .int 0), (3, .int 0), (0, .ref h0), (1, .ref pa), (2, .int 0)]) hx hb dX5_playBackwards_103 hl (k := 0) rfl (by rw [ey5]; rfl) (by decide) rfl (fun ls hl => ?_)
                refine lv_goto (tgt := 51) hx hb dX5_playBackwards_106 (by decide) ?_
                exact ihj y5 (by omega) (by rw [ey5, ey]; exact rf_pred j) H locs hP hD hS ls (lv_sub hl [0, 1, 2, 3, 4, 5] rfl)
            exact inner 127 127 (by decide) rfl H _ hP hD hS ls (lv_sub hl [0, 1, 2, 3, 4, 5] rfl)
          | succ i ihi =>
            intro x3 hi ex H locs hP hD hS ls hl
            have hn3 : ¬ x3 < 0 := by rw [ex]; exact nI_pos (by omega)
            refine lv_iload_n hx hb dX5_playBackwards_27 rfl (lv_at hl 0 rfl) ?_
            refine lv_if_lt (tgt := 115) hx hb dX5_playBackwards_28 (by decide) (fun c9 => absurd c9 hn3) (fun _ => ?_)
            refine lv_iload_n hx hb dX5_playBackwards_31 rfl (lv_at hl 0 rfl) ?_
            refine lv_iload_n hx hb dX5_playBackwards_32 rfl (lv_at hl 3 rfl) ?_
            have hPc := hP.sub (ws' := []) [] rfl
            have hDc := hD.sub (ws' := []) [] (by decide) rfl
            refine W.callR (rf_cr (va_runSN (As := [.int x3, .int 0]) (rest := []) ⟨hx, hb, hml, hown, hts⟩ (c_X11_isIn l dC dI aC H.size x3 0 0 (by rw [ex]; exact rf_in0 i (by omega))) (⟨va_cnB 2 hts (goodIn_sub (by decide +kernel) (by decide +kernel)) rfl rfl rfl (rf_nst hN 2 (q := (RX5, 29, yX11_isIn, "Transversary")) rfl) (hts (.initialized RX11) (by decide +kernel)) (by decide +kernel) ⟨Nat.le_of_ble_eq_true rfl, Nat.le_of_ble_eq_true rfl⟩, hts (.static yX11_isIn) (by decide +kernel), trivial⟩) (rf_ps hK hN hPc hDc) rfl rfl hl.1 rfl (lv_room (Nat.le_of_ble_eq_true rfl)) dX5_playBackwards_33 ⟨Nat.le_of_ble_eq_true rfl, Nat.le_of_ble_eq_true rfl⟩)) ?_
            refine W.eq (g2 := F0 m 36 ls [.int 0]) rfl ?_
            refine lv_if_eq (tgt := 109) hx hb dX5_playBackwards_36 (by decide) (fun _ => ?_) (fun c9 => absurd rfl c9)
            obtain ⟨y3, ey3⟩ : ∃ y : Int32, y = x3 + (-1) := ⟨_, rfl⟩
            refine lv_iinc (v := y3) (lv' := [(3, .int y3), (0, .ref h0), (1, .ref pa), (2, .int 0)]) hx hb dX5_playBackwards_109 hl (k := 0) rfl (by rw [ey3]; rfl) (by decide) rfl (fun ls hl => ?_)
            refine lv_goto (tgt := 27) hx hb dX5_playBackwards_112 (by decide) ?_
            exact ihi y3 (by omega) (by rw [ey3, ex]; exact rf_pred i) H locs hP hD hS ls (lv_sub hl [0, 1, 2, 3] rfl)
        exact outer 127 127 (by decide) rfl H _ hP hD hS ls (lv_sub hl [0, 1, 2, 3] rfl)
  exact loop 257 0 0 wf (by decide) (by decide) rfl s.heap [] hP hD hS ls (lv_sub hl [0, 1, 2, 3] rfl)

set_option maxHeartbeats 4000000 in
set_option maxRecDepth 100000 in
theorem c_X5_winningPoint (l : Launch) (dC : Nat → ClassId) (dI : Nat → Nat → Nat) (aC : Nat → ClassId) (sz : Nat) (h0 : Nat) (g1 g2 g3 g4 : Value) (wi : Nat) (wf : Nat → Int64) (pa : Nat) (pb pr : Value)  : Met l yX5_winningPoint wsX5_winningPoint ({ frames := 5, cells := 0, slots := 0, locals := 160 } : Room) (rf_Pc (dC, dI) aC [.ref h0, .ref pa, .int 0] [(h0, .inr (4, [g1, g2, g3, g4, .ref wi])), (wi, .inl (aC 2, 256, .inr (.inl wf))), (pa, .inr (1, [pb, pr, .int 0]))] sz) (va_Qi (fun (r : Int32) (u : Nat → Int64) => True) (fun (u : Nat → Int64) t => va_P (dC, dI) rfCl [(h0, .inr (4, [g1, g2, g3, g4, .ref wi])), (wi, .inl (aC 2, 256, .inr (.inl u))), (pa, .inr (1, [pb, pr, .int 0]))] t.heap ∧ va_D (va_A [(h0, .inr (4, [g1, g2, g3, g4, .ref wi])), (wi, .inl (aC 2, 256, .inr (.inl wf))), (pa, .inr (1, [pb, pr, .int 0]))] sz) [(h0, .inr (4, [g1, g2, g3, g4, .ref wi])), (wi, .inl (aC 2, 256, .inr (.inl u))), (pa, .inr (1, [pb, pr, .int 0]))]) (va_A [(h0, .inr (4, [g1, g2, g3, g4, .ref wi])), (wi, .inl (aC 2, 256, .inr (.inl wf))), (pa, .inr (1, [pb, pr, .int 0]))] sz)) 0 0 (va_A [(h0, .inr (4, [g1, g2, g3, g4, .ref wi])), (wi, .inl (aC 2, 256, .inr (.inl wf))), (pa, .inr (1, [pb, pr, .int 0]))] sz) := by
  refine Met.ofW (cc := cX5_winningPoint) (maxL := 4) (ret := (some .int)) (by decide) rfl ?_
  intro p e s m args below meth c s₁ B hml hv
  obtain ⟨rfl, hsz, hP, hKN, hD0⟩ := hv
  obtain ⟨hK, hN⟩ := hKN
  have hx := B.exec
  have hb := B.bytes
  have hr := B.returns
  have hts := atoms_spec (ws := wsX5_winningPoint) B.pre
  have hown : s.vm.findClass RX5 = some m.cls := findClass_of_methodNamed B.named
  have hlocks := B.notSynchronized
  subst hsz
  have hD := hD0.self (sz := s.heap.size)
  generalize hAe : va_A [(h0, .inr (4, [g1, g2, g3, g4, .ref wi])), (wi, .inl (aC 2, 256, .inr (.inl wf))), (pa, .inr (1, [pb, pr, .int 0]))] s.heap.size = A at hD ⊢
  have hA : ∀ q : Nat, s.heap.size ≤ q → A q := fun q h => by rw [← hAe]; exact Or.inr h
  have hS : va_S A s.heap s.heap [] := va_S.rf
  have hP : va_P (dC, dI) rfCl [(h0, .inr (4, [g1, g2, g3, g4, .ref wi])), (wi, .inl (aC 2, 256, .inr (.inl wf))), (pa, .inr (1, [pb, pr, .int 0]))] s.heap := hP
  have hl := lv_entry ([.ref h0, .ref pa, .int 0]) (n := 4) (Nat.le_of_ble_eq_true rfl)
  rw [lg_entry_eq]
  generalize (lg_sl ([.ref h0, .ref pa, .int 0]) ++ List.replicate (4 - (lg_sl ([.ref h0, .ref pa, .int 0])).length) Slot.unset).toArray = ls at hl ⊢
  have hl : lv_has ls 4 [(0, .ref h0), (1, .ref pa), (2, .int 0)] := hl
  refine lv_aload_n hx hb dX5_winningPoint_0 rfl (lv_at hl 0 rfl) ?_
  refine lv_aload_n hx hb dX5_winningPoint_1 rfl (lv_at hl 1 rfl) ?_
  refine lv_iload_n hx hb dX5_winningPoint_2 rfl (lv_at hl 2 rfl) ?_
  have hPc := hP.sub (ws' := [(h0, .inr (4, [g1, g2, g3, g4, .ref wi])), (wi, .inl (aC 2, 256, .inr (.inl wf))), (pa, .inr (1, [pb, pr, .int 0]))]) [0, 1, 2] rfl
  have hDc := hD.sub (ws' := [(h0, .inr (4, [g1, g2, g3, g4, .ref wi])), (wi, .inl (aC 2, 256, .inr (.inl wf))), (pa, .inr (1, [pb, pr, .int 0]))]) [0, 1, 2] (by decide) rfl
  have hFc := va_free (wc := [(h0, .inr (4, [g1, g2, g3, g4, .ref wi])), (wi, .inl (aC 2, 256, .inr (.inl wf))), (pa, .inr (1, [pb, pr, .int 0]))]) hD hS hA [0, 1, 2] rfl
  refine va_callv (va_runV (As := [.ref pa, .int 0]) (rest := []) ⟨hx, hb, hml, hown, hts⟩ (c_X5_playBackwards l dC dI aC s.heap.size h0 g1 g2 g3 g4 wi wf pa pb pr) (cwV 2 hts gX5_winningPoint_X5_playBackwards rfl rfl rfl (by decide +kernel) ⟨Nat.le_of_ble_eq_true rfl, Nat.le_of_ble_eq_true rfl⟩) (rf_pv hK hN hPc hDc (va_recv hK hP (ci := 4) (q0 := 0) rfl rfl)) rfl rfl hl.1 rfl (lv_room (Nat.le_of_ble_eq_true rfl)) dX5_winningPoint_3 ⟨Nat.le_of_ble_eq_true rfl, Nat.le_of_ble_eq_true rfl⟩) hS (fun q _ h => hFc q h) hFc (fun u1 t H1 locs ht hvm hwu1 hB hz1 hk1 hS => ?_)
  obtain ⟨hP1, hD1⟩ := hB
  rw [ht] at hP1
  try dsimp only at hwu1 hP1 hD1
  obtain ⟨hP, hD⟩ := va_join (wr := []) (w1 := [(h0, .inr (4, [g1, g2, g3, g4, .ref wi])), (wi, .inl (aC 2, 256, .inr (.inl u1))), (pa, .inr (1, [pb, pr, .int 0]))]) hP hD [0, 1, 2] [] rfl rfl (by decide) (by decide) hk1 hFc hP1 hD1
  clear hP1 hD1 hPc hDc hFc
  generalize H1 = H at hP hS ⊢
  have hP : va_P (dC, dI) rfCl [(h0, .inr (4, [g1, g2, g3, g4, .ref wi])), (wi, .inl (aC 2, 256, .inr (.inl u1))), (pa, .inr (1, [pb, pr, .int 0]))] H := hP
  have hD : va_D A [(h0, .inr (4, [g1, g2, g3, g4, .ref wi])), (wi, .inl (aC 2, 256, .inr (.inl u1))), (pa, .inr (1, [pb, pr, .int 0]))] := hD
  refine W.widen (k := 0) (n := 0) (Nat.le_of_ble_eq_true rfl) (Nat.le_of_ble_eq_true rfl) ?_
  refine lv_iconst (v := 0) hx hb dX5_winningPoint_6 (by decide) ?_
  refine lv_istore_n (lv' := [(3, .int 0), (0, .ref h0), (1, .ref pa), (2, .int 0)]) hx hb dX5_winningPoint_7 rfl hl (by decide) rfl (fun ls hl => ?_)
  have loop : ∀ (n i : Nat) (x_loop : Int32), i ≤ 7 → 8 ≤ i + n → x_loop = nI i → ∀ (H : Heap) (locs : List Loc), va_P (dC, dI) rfCl [(h0, .inr (4, [g1, g2, g3, g4, .ref wi])), (wi, .inl (aC 2, 256, .inr (.inl u1))), (pa, .inr (1, [pb, pr, .int 0]))] H → va_D A [(h0, .inr (4, [g1, g2, g3, g4, .ref wi])), (wi, .inl (aC 2, 256, .inr (.inl u1))), (pa, .inr (1, [pb, pr, .int 0]))] → va_S A s.heap H locs → ∀ ls : Array Slot, lv_has ls 4 [(3, .int x_loop), (0, .ref h0), (1, .ref pa), (2, .int 0)] → W p l e (headSpec wsX5_winningPoint ({ frames := 5, cells := 0, slots := 0, locals := 160 } : Room)).room s m ([.ref h0, .ref pa, .int 0] : List Value).toArray below meth c H locs 0 0 (MQ below (va_Qi (fun (r : Int32) (u : Nat → Int64) => True) (fun (u : Nat → Int64) t => va_P (dC, dI) rfCl [(h0, .inr (4, [g1, g2, g3, g4, .ref wi])), (wi, .inl (aC 2, 256, .inr (.inl u))), (pa, .inr (1, [pb, pr, .int 0]))] t.heap ∧ va_D A [(h0, .inr (4, [g1, g2, g3, g4, .ref wi])), (wi, .inl (aC 2, 256, .inr (.inl u))), (pa, .inr (1, [pb, pr, .int 0]))]) A) ([.ref h0, .ref pa, .int 0] : List Value).toArray s 0 0 A) (F0 m 8 ls []) := by
    intro n
    induction n with
    | zero =>
      intro i x_loop h1 h2
      exact absurd h2 (by omega)
    | succ n ih =>
      intro i x_loop hi9 hn ex H locs hP hD hS ls hl
      refine lv_iload_n hx hb dX5_winningPoint_8 rfl (lv_at hl 0 rfl) ?_
      refine lv_bipush (v := 7) hx hb dX5_winningPoint_9 (by decide) ?_
      by_cases hlt : i < 7
      · have hbr : ¬ (7 : Int32) ≤ x_loop := by rw [ex]; exact nI_ge hlt (by decide)
        refine lv_icmp_ge (tgt := 41) hx hb dX5_winningPoint_11 (by decide) (fun c9 => absurd c9 hbr) (fun _ => ?_)
        have h_in : vp_in x_loop 7 := by rw [ex]; exact vp_in_nI hlt (by decide)
        refine lv_iload_n hx hb dX5_winningPoint_14 rfl (lv_at hl 3 rfl) ?_
        refine lv_iconst (v := 1) hx hb dX5_winningPoint_15 (by decide) ?_
        refine lv_iload_n hx hb dX5_winningPoint_16 rfl (lv_at hl 0 rfl) ?_
        refine lv_ishl hx hb dX5_winningPoint_17 ?_
        refine lv_topi (fun t3 et3 => ?_)
        refine lv_iand hx hb dX5_winningPoint_18 ?_
        refine lv_topi (fun t4 et4 => ?_)
        have h0z : t4 = 0 := by rw [et4]; exact Int32.zero_and
        refine lv_if_eq (tgt := 35) hx hb dX5_winningPoint_19 (by decide) (fun _ => ?_) (fun c9 => absurd h0z c9)
        obtain ⟨x_loop2, ex_loop2⟩ : ∃ y : Int32, y = x_loop + (1) := ⟨_, rfl⟩
        refine lv_iinc (v := x_loop2) (lv' := [(3, .int x_loop2), (0, .ref h0), (1, .ref pa), (2, .int 0)]) hx hb dX5_winningPoint_35 hl (k := 0) rfl (by rw [ex_loop2]; rfl) (by decide) rfl (fun ls hl => ?_)
        refine lv_goto (tgt := 8) hx hb dX5_winningPoint_38 (by decide) ?_
        exact ih (i + 1) x_loop2 (by omega) (by omega) (by rw [ex_loop2, ex]; exact nI_1 i) H locs hP hD hS ls (lv_sub hl [0, 1, 2, 3] rfl)
      · have hbr : (7 : Int32) ≤ x_loop := by rw [ex, show i = 7 by omega]; decide
        refine lv_icmp_ge (tgt := 41) hx hb dX5_winningPoint_11 (by decide) (fun _ => ?_) (fun c9 => absurd hbr c9)
        refine lv_iconst (v := -1) hx hb dX5_winningPoint_41 (by decide) ?_
        have hP9 := hP.sub (ws' := [(h0, .inr (4, [g1, g2, g3, g4, .ref wi])), (wi, .inl (aC 2, 256, .inr (.inl u1))), (pa, .inr (1, [pb, pr, .int 0]))]) [0, 1, 2] rfl
        have hD9 := hD.sub (ws' := [(h0, .inr (4, [g1, g2, g3, g4, .ref wi])), (wi, .inl (aC 2, 256, .inr (.inl u1))), (pa, .inr (1, [pb, pr, .int 0]))]) [0, 1, 2] (by decide) rfl
        refine W.widen (k := 0) (n := 0) (Nat.le_of_ble_eq_true rfl) (Nat.le_of_ble_eq_true rfl) ?_
        exact W.iret (v := (-1)) hx hb hr (fun t ht hW => ⟨⟨(-1), u1, rfl, trivial, by rw [ht]; exact hP9, hD9⟩, hS.F ht⟩) hS.2.2 dX5_winningPoint_42
  exact loop 8 0 0 (by decide) (by decide) rfl H _ hP hD hS ls (lv_sub hl [0, 1, 2, 3] rfl)

set_option maxHeartbeats 4000000 in
set_option maxRecDepth 100000 in
theorem c_X11_game (l : Launch) (dC : Nat → ClassId) (dI : Nat → Nat → Nat) (aC : Nat → ClassId) (sz : Nat) (h0 pt fa pa md rg mk : Nat) (o1 o2 o3 o4 o5 o6 o7 o8 : Value) (ff : Nat → Option Nat) (s0 : Nat) (b0 r0 w : Value) (mny : Int32) (k1 k2 : Value) (pb : Nat) (pr : Value) (pf : Nat → Int32) (pm : Int32) (g1 g2 g3 g4 : Value) (wi : Nat) (wf : Nat → Int64) (hf : ff 0 = some s0) : Met l yX11_game wsX11_game ({ frames := 6, cells := 0, slots := 0, locals := 200 } : Room) (rf_Pc (dC, dI) aC [.ref h0, .int 0] [(h0, .inr (11, [.ref pt, .ref fa, .int 1, .ref pa, o1, .ref md, o2, o3, .ref rg, o4, .ref mk, o5, o6, o7, o8])), (fa, .inl (aC 4, 5, .inr (.inr (.inr (.inr ff))))), (s0, .inr (1, [b0, r0, .int 0])), (pt, .inr (0, [w, .int mny, .int 0])), (mk, .inr (6, [k1, k2])), (pa, .inr (1, [.ref pb, pr, .int pm])), (pb, .inl (aC 0, 128, .inl pf)), (rg, .inr (4, [g1, g2, g3, g4, .ref wi])), (wi, .inl (aC 2, 256, .inr (.inl wf)))] sz) (va_Qi (fun (r : Int32) (u : (Nat → Int32) × (Nat → Int64)) => True) (fun (u : (Nat → Int32) × (Nat → Int64)) t => va_P (dC, dI) rfCl [(h0, .inr (11, [.ref pt, .ref fa, .int 1, .ref pa, o1, .ref md, o2, o3, .ref rg, o4, .ref mk, o5, o6, o7, o8])), (fa, .inl (aC 4, 5, .inr (.inr (.inr (.inr ff))))), (s0, .inr (1, [b0, r0, .int 0])), (pt, .inr (0, [w, .int mny, .int 0])), (mk, .inr (6, [k1, k2])), (pa, .inr (1, [.ref pb, pr, .int 0])), (pb, .inl (aC 0, 128, .inl u.1)), (rg, .inr (4, [g1, g2, g3, g4, .ref wi])), (wi, .inl (aC 2, 256, .inr (.inl u.2)))] t.heap ∧ va_D (va_A [(h0, .inr (11, [.ref pt, .ref fa, .int 1, .ref pa, o1, .ref md, o2, o3, .ref rg, o4, .ref mk, o5, o6, o7, o8])), (fa, .inl (aC 4, 5, .inr (.inr (.inr (.inr ff))))), (s0, .inr (1, [b0, r0, .int 0])), (pt, .inr (0, [w, .int mny, .int 0])), (mk, .inr (6, [k1, k2])), (pa, .inr (1, [.ref pb, pr, .int pm])), (pb, .inl (aC 0, 128, .inl pf)), (rg, .inr (4, [g1, g2, g3, g4, .ref wi])), (wi, .inl (aC 2, 256, .inr (.inl wf)))] sz) [(h0, .inr (11, [.ref pt, .ref fa, .int 1, .ref pa, o1, .ref md, o2, o3, .ref rg, o4, .ref mk, o5, o6, o7, o8])), (fa, .inl (aC 4, 5, .inr (.inr (.inr (.inr ff))))), (s0, .inr (1, [b0, r0, .int 0])), (pt, .inr (0, [w, .int mny, .int 0])), (mk, .inr (6, [k1, k2])), (pa, .inr (1, [.ref pb, pr, .int 0])), (pb, .inl (aC 0, 128, .inl u.1)), (rg, .inr (4, [g1, g2, g3, g4, .ref wi])), (wi, .inl (aC 2, 256, .inr (.inl u.2)))]) (va_A [(h0, .inr (11, [.ref pt, .ref fa, .int 1, .ref pa, o1, .ref md, o2, o3, .ref rg, o4, .ref mk, o5, o6, o7, o8])), (fa, .inl (aC 4, 5, .inr (.inr (.inr (.inr ff))))), (s0, .inr (1, [b0, r0, .int 0])), (pt, .inr (0, [w, .int mny, .int 0])), (mk, .inr (6, [k1, k2])), (pa, .inr (1, [.ref pb, pr, .int pm])), (pb, .inl (aC 0, 128, .inl pf)), (rg, .inr (4, [g1, g2, g3, g4, .ref wi])), (wi, .inl (aC 2, 256, .inr (.inl wf)))] sz)) 0 0 (va_A [(h0, .inr (11, [.ref pt, .ref fa, .int 1, .ref pa, o1, .ref md, o2, o3, .ref rg, o4, .ref mk, o5, o6, o7, o8])), (fa, .inl (aC 4, 5, .inr (.inr (.inr (.inr ff))))), (s0, .inr (1, [b0, r0, .int 0])), (pt, .inr (0, [w, .int mny, .int 0])), (mk, .inr (6, [k1, k2])), (pa, .inr (1, [.ref pb, pr, .int pm])), (pb, .inl (aC 0, 128, .inl pf)), (rg, .inr (4, [g1, g2, g3, g4, .ref wi])), (wi, .inl (aC 2, 256, .inr (.inl wf)))] sz) := by
  refine Met.ofW (cc := cX11_game) (maxL := 2) (ret := (some .int)) (by decide) rfl ?_
  intro p e s m args below meth c s₁ B hml hv
  obtain ⟨rfl, hsz, hP, hKN, hD0⟩ := hv
  obtain ⟨hK, hN⟩ := hKN
  have hx := B.exec
  have hb := B.bytes
  have hr := B.returns
  have hts := atoms_spec (ws := wsX11_game) B.pre
  have hown : s.vm.findClass RX11 = some m.cls := findClass_of_methodNamed B.named
  have hlocks := B.notSynchronized
  subst hsz
  have hD := hD0.self (sz := s.heap.size)
  generalize hAe : va_A [(h0, .inr (11, [.ref pt, .ref fa, .int 1, .ref pa, o1, .ref md, o2, o3, .ref rg, o4, .ref mk, o5, o6, o7, o8])), (fa, .inl (aC 4, 5, .inr (.inr (.inr (.inr ff))))), (s0, .inr (1, [b0, r0, .int 0])), (pt, .inr (0, [w, .int mny, .int 0])), (mk, .inr (6, [k1, k2])), (pa, .inr (1, [.ref pb, pr, .int pm])), (pb, .inl (aC 0, 128, .inl pf)), (rg, .inr (4, [g1, g2, g3, g4, .ref wi])), (wi, .inl (aC 2, 256, .inr (.inl wf)))] s.heap.size = A at hD ⊢
  have hA : ∀ q : Nat, s.heap.size ≤ q → A q := fun q h => by rw [← hAe]; exact Or.inr h
  have hS : va_S A s.heap s.heap [] := va_S.rf
  have hP : va_P (dC, dI) rfCl [(h0, .inr (11, [.ref pt, .ref fa, .int 1, .ref pa, o1, .ref md, o2, o3, .ref rg, o4, .ref mk, o5, o6, o7, o8])), (fa, .inl (aC 4, 5, .inr (.inr (.inr (.inr ff))))), (s0, .inr (1, [b0, r0, .int 0])), (pt, .inr (0, [w, .int mny, .int 0])), (mk, .inr (6, [k1, k2])), (pa, .inr (1, [.ref pb, pr, .int pm])), (pb, .inl (aC 0, 128, .inl pf)), (rg, .inr (4, [g1, g2, g3, g4, .ref wi])), (wi, .inl (aC 2, 256, .inr (.inl wf)))] s.heap := hP
  have hl := lv_entry ([.ref h0, .int 0]) (n := 2) (Nat.le_of_ble_eq_true rfl)
  rw [lg_entry_eq]
  generalize (lg_sl ([.ref h0, .int 0]) ++ List.replicate (2 - (lg_sl ([.ref h0, .int 0])).length) Slot.unset).toArray = ls at hl ⊢
  have hl : lv_has ls 2 [(0, .ref h0), (1, .int 0)] := hl
  refine lv_aload_n hx hb dX11_game_0 rfl (lv_at hl 0 rfl) ?_
  refine va_get (D := (dC, dI)) (ci := 11) (v := .ref rg) (C := RX11) (T := TX11) (N := 15) hx hb hts (by decide +kernel) hown hK hP 0 rfl rfl 8 (by decide) (hts (.fieldLink RX11 52 "Transversary" "rings" "LTransversary$Rings;") (by decide +kernel)) (fun _ h9 => h9) rfl dX11_game_1 ?_
  refine lv_aload_n hx hb dX11_game_4 rfl (lv_at hl 0 rfl) ?_
  refine lv_iload_n hx hb dX11_game_5 rfl (lv_at hl 1 rfl) ?_
  have hPc := hP.sub (ws' := [(h0, .inr (11, [.ref pt, .ref fa, .int 1, .ref pa, o1, .ref md, o2, o3, .ref rg, o4, .ref mk, o5, o6, o7, o8])), (fa, .inl (aC 4, 5, .inr (.inr (.inr (.inr ff))))), (s0, .inr (1, [b0, r0, .int 0])), (pt, .inr (0, [w, .int mny, .int 0])), (mk, .inr (6, [k1, k2])), (pa, .inr (1, [.ref pb, pr, .int pm])), (pb, .inl (aC 0, 128, .inl pf))]) [0, 1, 2, 3, 4, 5, 6] rfl
  have hDc := hD.sub (ws' := [(h0, .inr (11, [.ref pt, .ref fa, .int 1, .ref pa, o1, .ref md, o2, o3, .ref rg, o4, .ref mk, o5, o6, o7, o8])), (fa, .inl (aC 4, 5, .inr (.inr (.inr (.inr ff))))), (s0, .inr (1, [b0, r0, .int 0])), (pt, .inr (0, [w, .int mny, .int 0])), (mk, .inr (6, [k1, k2])), (pa, .inr (1, [.ref pb, pr, .int pm])), (pb, .inl (aC 0, 128, .inl pf))]) [0, 1, 2, 3, 4, 5, 6] (by decide) rfl
  have hFc := va_free (wc := [(h0, .inr (11, [.ref pt, .ref fa, .int 1, .ref pa, o1, .ref md, o2, o3, .ref rg, o4, .ref mk, o5, o6, o7, o8])), (fa, .inl (aC 4, 5, .inr (.inr (.inr (.inr ff))))), (s0, .inr (1, [b0, r0, .int 0])), (pt, .inr (0, [w, .int mny, .int 0])), (mk, .inr (6, [k1, k2])), (pa, .inr (1, [.ref pb, pr, .int pm])), (pb, .inl (aC 0, 128, .inl pf))]) hD hS hA [0, 1, 2, 3, 4, 5, 6] rfl
  refine va_callr (va_runV (As := [.int 0]) (rest := [.ref rg]) ⟨hx, hb, hml, hown, hts⟩ (c_X11_partsOf l dC dI aC s.heap.size h0 pt fa pa md rg mk o1 o2 o3 o4 o5 o6 o7 o8 ff s0 b0 r0 w mny 0 k1 k2 pb pr pf pm hf) (cwV 1 hts gX11_game_X11_partsOf rfl rfl rfl (by decide +kernel) ⟨Nat.le_of_ble_eq_true rfl, Nat.le_of_ble_eq_true rfl⟩) (rf_pv hK hN hPc hDc (va_recv hK hP (ci := 11) (q0 := 0) rfl rfl)) rfl rfl hl.1 rfl (lv_room (Nat.le_of_ble_eq_true rfl)) dX11_game_6 ⟨Nat.le_of_ble_eq_true rfl, Nat.le_of_ble_eq_true rfl⟩) hS (fun q _ h => hFc q h) hFc (fun u1 r2 t H1 locs ht hvm hwu1 hB hz1 hk1 hS => ?_)
  obtain ⟨hra, hP1, hD1⟩ := hB
  rw [ht] at hP1
  try dsimp only at hwu1 hP1 hD1
  obtain ⟨hP, hD⟩ := va_join (wr := [(rg, .inr (4, [g1, g2, g3, g4, .ref wi])), (wi, .inl (aC 2, 256, .inr (.inl wf)))]) (w1 := [(h0, .inr (11, [.ref pt, .ref fa, .int 1, .ref pa, o1, .ref md, o2, o3, .ref rg, o4, .ref mk, o5, o6, o7, o8])), (fa, .inl (aC 4, 5, .inr (.inr (.inr (.inr ff))))), (s0, .inr (1, [b0, r0, .int 0])), (pt, .inr (0, [w, .int mny, .int 0])), (mk, .inr (6, [k1, k2])), (pa, .inr (1, [.ref pb, pr, .int 0])), (pb, .inl (aC 0, 128, .inl u1))]) hP hD [0, 1, 2, 3, 4, 5, 6] [7, 8] rfl rfl (by decide) (by decide) hk1 hFc hP1 hD1
  clear hP1 hD1 hPc hDc hFc
  generalize H1 = H at hP hS ⊢
  rw [hra]
  have hP : va_P (dC, dI) rfCl [(rg, .inr (4, [g1, g2, g3, g4, .ref wi])), (wi, .inl (aC 2, 256, .inr (.inl wf))), (h0, .inr (11, [.ref pt, .ref fa, .int 1, .ref pa, o1, .ref md, o2, o3, .ref rg, o4, .ref mk, o5, o6, o7, o8])), (fa, .inl (aC 4, 5, .inr (.inr (.inr (.inr ff))))), (s0, .inr (1, [b0, r0, .int 0])), (pt, .inr (0, [w, .int mny, .int 0])), (mk, .inr (6, [k1, k2])), (pa, .inr (1, [.ref pb, pr, .int 0])), (pb, .inl (aC 0, 128, .inl u1))] H := hP
  have hD : va_D A [(rg, .inr (4, [g1, g2, g3, g4, .ref wi])), (wi, .inl (aC 2, 256, .inr (.inl wf))), (h0, .inr (11, [.ref pt, .ref fa, .int 1, .ref pa, o1, .ref md, o2, o3, .ref rg, o4, .ref mk, o5, o6, o7, o8])), (fa, .inl (aC 4, 5, .inr (.inr (.inr (.inr ff))))), (s0, .inr (1, [b0, r0, .int 0])), (pt, .inr (0, [w, .int mny, .int 0])), (mk, .inr (6, [k1, k2])), (pa, .inr (1, [.ref pb, pr, .int 0])), (pb, .inl (aC 0, 128, .inl u1))] := hD
  refine W.widen (k := 0) (n := 0) (Nat.le_of_ble_eq_true rfl) (Nat.le_of_ble_eq_true rfl) ?_
  refine lv_aload_n hx hb dX11_game_9 rfl (lv_at hl 0 rfl) ?_
  refine va_get (D := (dC, dI)) (ci := 11) (v := .ref pt) (C := RX11) (T := TX11) (N := 15) hx hb hts (by decide +kernel) hown hK hP 2 rfl rfl 0 (by decide) (hts (.fieldLink RX11 12 "Transversary" "points" "LTransversary$Points;") (by decide +kernel)) (fun _ h9 => h9) rfl dX11_game_10 ?_
  have hPc := hP.sub (ws' := [(pt, .inr (0, [w, .int mny, .int 0]))]) [5] rfl
  have hDc := hD.sub (ws' := [(pt, .inr (0, [w, .int mny, .int 0]))]) [5] (by decide) rfl
  refine W.callR (W.runV (As := []) (rest := [.ref pa, .ref rg]) ⟨hx, hb, hml, hown, hts⟩ (c_X3_alive l dC dI aC H.size pt w mny 0) (cwV 0 hts gX11_game_X3_alive rfl rfl rfl (by decide +kernel) ⟨Nat.le_of_ble_eq_true rfl, Nat.le_of_ble_eq_true rfl⟩) (rf_pv hK hN hPc hDc (va_recv hK hP (ci := 0) (q0 := 5) rfl rfl)) rfl rfl hl.1 rfl (lv_room (Nat.le_of_ble_eq_true rfl)) dX11_game_13 ⟨Nat.le_of_ble_eq_true rfl, Nat.le_of_ble_eq_true rfl⟩) ?_
  refine W.eq (g2 := F0 m 16 ls [.int 0, .ref pa, .ref rg]) rfl ?_
  have hPc := hP.sub (ws' := [(rg, .inr (4, [g1, g2, g3, g4, .ref wi])), (wi, .inl (aC 2, 256, .inr (.inl wf))), (pa, .inr (1, [.ref pb, pr, .int 0]))]) [0, 1, 7] rfl
  have hDc := hD.sub (ws' := [(rg, .inr (4, [g1, g2, g3, g4, .ref wi])), (wi, .inl (aC 2, 256, .inr (.inl wf))), (pa, .inr (1, [.ref pb, pr, .int 0]))]) [0, 1, 7] (by decide) rfl
  have hFc := va_free (wc := [(rg, .inr (4, [g1, g2, g3, g4, .ref wi])), (wi, .inl (aC 2, 256, .inr (.inl wf))), (pa, .inr (1, [.ref pb, pr, .int 0]))]) hD hS hA [0, 1, 7] rfl
  refine va_calli (va_runV (As := [.ref pa, .int 0]) (rest := []) ⟨hx, hb, hml, hown, hts⟩ (c_X5_winningPoint l dC dI aC H.size rg g1 g2 g3 g4 wi wf pa (.ref pb) pr) (cwV 2 hts gX11_game_X5_winningPoint rfl rfl rfl (by decide +kernel) ⟨Nat.le_of_ble_eq_true rfl, Nat.le_of_ble_eq_true rfl⟩) (rf_pv hK hN hPc hDc (va_recv hK hP (ci := 4) (q0 := 0) rfl rfl)) rfl rfl hl.1 rfl (lv_room (Nat.le_of_ble_eq_true rfl)) dX11_game_16 ⟨Nat.le_of_ble_eq_true rfl, Nat.le_of_ble_eq_true rfl⟩) hS (fun q _ h => hFc q h) hFc (fun r4 u3 t H1 locs ht hvm hwu3 hB hz1 hk1 hS => ?_)
  obtain ⟨hP1, hD1⟩ := hB
  rw [ht] at hP1
  try dsimp only at hwu3 hP1 hD1
  obtain ⟨hP, hD⟩ := va_join (wr := [(h0, .inr (11, [.ref pt, .ref fa, .int 1, .ref pa, o1, .ref md, o2, o3, .ref rg, o4, .ref mk, o5, o6, o7, o8])), (fa, .inl (aC 4, 5, .inr (.inr (.inr (.inr ff))))), (s0, .inr (1, [b0, r0, .int 0])), (pt, .inr (0, [w, .int mny, .int 0])), (mk, .inr (6, [k1, k2])), (pb, .inl (aC 0, 128, .inl u1))]) (w1 := [(rg, .inr (4, [g1, g2, g3, g4, .ref wi])), (wi, .inl (aC 2, 256, .inr (.inl u3))), (pa, .inr (1, [.ref pb, pr, .int 0]))]) hP hD [0, 1, 7] [2, 3, 4, 5, 6, 8] rfl rfl (by decide) (by decide) hk1 hFc hP1 hD1
  clear hP1 hD1 hPc hDc hFc
  generalize H1 = H at hP hS ⊢
  have hP : va_P (dC, dI) rfCl [(h0, .inr (11, [.ref pt, .ref fa, .int 1, .ref pa, o1, .ref md, o2, o3, .ref rg, o4, .ref mk, o5, o6, o7, o8])), (fa, .inl (aC 4, 5, .inr (.inr (.inr (.inr ff))))), (s0, .inr (1, [b0, r0, .int 0])), (pt, .inr (0, [w, .int mny, .int 0])), (mk, .inr (6, [k1, k2])), (pb, .inl (aC 0, 128, .inl u1)), (rg, .inr (4, [g1, g2, g3, g4, .ref wi])), (wi, .inl (aC 2, 256, .inr (.inl u3))), (pa, .inr (1, [.ref pb, pr, .int 0]))] H := hP
  have hD : va_D A [(h0, .inr (11, [.ref pt, .ref fa, .int 1, .ref pa, o1, .ref md, o2, o3, .ref rg, o4, .ref mk, o5, o6, o7, o8])), (fa, .inl (aC 4, 5, .inr (.inr (.inr (.inr ff))))), (s0, .inr (1, [b0, r0, .int 0])), (pt, .inr (0, [w, .int mny, .int 0])), (mk, .inr (6, [k1, k2])), (pb, .inl (aC 0, 128, .inl u1)), (rg, .inr (4, [g1, g2, g3, g4, .ref wi])), (wi, .inl (aC 2, 256, .inr (.inl u3))), (pa, .inr (1, [.ref pb, pr, .int 0]))] := hD
  refine W.widen (k := 0) (n := 0) (Nat.le_of_ble_eq_true rfl) (Nat.le_of_ble_eq_true rfl) ?_
  have hP9 := hP.sub (ws' := [(h0, .inr (11, [.ref pt, .ref fa, .int 1, .ref pa, o1, .ref md, o2, o3, .ref rg, o4, .ref mk, o5, o6, o7, o8])), (fa, .inl (aC 4, 5, .inr (.inr (.inr (.inr ff))))), (s0, .inr (1, [b0, r0, .int 0])), (pt, .inr (0, [w, .int mny, .int 0])), (mk, .inr (6, [k1, k2])), (pa, .inr (1, [.ref pb, pr, .int 0])), (pb, .inl (aC 0, 128, .inl u1)), (rg, .inr (4, [g1, g2, g3, g4, .ref wi])), (wi, .inl (aC 2, 256, .inr (.inl u3)))]) [0, 1, 2, 3, 4, 8, 5, 6, 7] rfl
  have hD9 := hD.sub (ws' := [(h0, .inr (11, [.ref pt, .ref fa, .int 1, .ref pa, o1, .ref md, o2, o3, .ref rg, o4, .ref mk, o5, o6, o7, o8])), (fa, .inl (aC 4, 5, .inr (.inr (.inr (.inr ff))))), (s0, .inr (1, [b0, r0, .int 0])), (pt, .inr (0, [w, .int mny, .int 0])), (mk, .inr (6, [k1, k2])), (pa, .inr (1, [.ref pb, pr, .int 0])), (pb, .inl (aC 0, 128, .inl u1)), (rg, .inr (4, [g1, g2, g3, g4, .ref wi])), (wi, .inl (aC 2, 256, .inr (.inl u3)))]) [0, 1, 2, 3, 4, 8, 5, 6, 7] (by decide) rfl
  refine W.widen (k := 0) (n := 0) (Nat.le_of_ble_eq_true rfl) (Nat.le_of_ble_eq_true rfl) ?_
  exact W.iret (v := r4) hx hb hr (fun t ht hW => ⟨⟨r4, (u1, u3), rfl, trivial, by rw [ht]; exact hP9, hD9⟩, hS.F ht⟩) hS.2.2 dX11_game_19
