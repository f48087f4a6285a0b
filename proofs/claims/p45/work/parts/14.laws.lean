set_option maxHeartbeats 4000000 in
set_option maxRecDepth 100000 in
theorem c_X12_init (l : Launch) (dC : Nat → ClassId) (dI : Nat → Nat → Nat) (aC : Nat → ClassId) (sz : Nat) (h0 : Nat)  : Met l yX12_init wsX12_init ({ frames := 1, cells := 0, slots := 0, locals := 12 } : Room) (rf_Pc (dC, dI) aC [.ref h0] [] sz) (va_Sv (fun _ => True)) 0 0 (fun _ => False) := by
  refine Met.ofW (cc := cX12_init) (maxL := 1) (ret := none) (by decide) rfl ?_
  intro p e s m args below meth c s₁ B hml hv
  obtain ⟨rfl, hsz, hP, hKN, hD0⟩ := hv
  obtain ⟨hK, hN⟩ := hKN
  have hx := B.exec
  have hb := B.bytes
  have hr := B.returns
  have hts := atoms_spec (ws := wsX12_init) B.pre
  have hown : s.vm.findClass RX12 = some m.cls := findClass_of_methodNamed B.named
  have hlocks := B.notSynchronized
  have hin : meth.name = "<init>" := (name_of_methodNamed B.named B.method).1
  subst hsz
  have hD := hD0.self (sz := s.heap.size)
  generalize hAe : va_A [] s.heap.size = A at hD
  have hA : ∀ q : Nat, s.heap.size ≤ q → A q := fun q h => by rw [← hAe]; exact Or.inr h
  have hS : va_S A s.heap s.heap [] := va_S.rf
  have hP : va_P (dC, dI) rfCl [] s.heap := hP
  have hl := lv_entry ([.ref h0]) (n := 1) (Nat.le_of_ble_eq_true rfl)
  rw [lg_entry_eq]
  generalize (lg_sl ([.ref h0]) ++ List.replicate (1 - (lg_sl ([.ref h0])).length) Slot.unset).toArray = ls at hl ⊢
  have hl : lv_has ls 1 [(0, .ref h0)] := hl
  refine lv_aload_n hx hb dX12_init_0 rfl (lv_at hl 0 rfl) ?_
  refine W.objInit hx hb hown (hts (.methodLink RX12 1 objectInit) (by decide +kernel)) (hts (.instanceMethod objectInit) (by decide +kernel)) (hts (.code objectInit ⟨#[0xb1]⟩ 1 none) (by decide +kernel)) rfl (by rw [hml]; exact hl.1) rfl dX12_init_1 (Nat.le_of_ble_eq_true rfl) (Nat.le_of_ble_eq_true rfl) ?_
  refine W.eq (g2 := F0 m 4 ls []) rfl ?_
  exact W.vret hx hb hr (fun t ht hW => ⟨rfl, trivial, ht⟩) (fun q h => nomatch h) dX12_init_4

set_option maxHeartbeats 4000000 in
set_option maxRecDepth 100000 in
theorem c_L_ground (l : Launch) (dC : Nat → ClassId) (dI : Nat → Nat → Nat) (aC : Nat → ClassId) (sz : Nat) (h0 pt fa pa md rg mk : Nat) (o1 o2 o3 o4 o5 o6 o7 o8 : Value) (fc : Int32) (w : Nat) (f : Nat → Int32) (mny al : Int32) (ot : Nat) (nv : Int64) (sv : Value)  : Met l yL_ground wsL_ground ({ frames := 4, cells := 0, slots := 0, locals := 120 } : Room) (rf_Pc (dC, dI) aC [.ref h0, .int 7, .ref ot] [(h0, .inr (11, [.ref pt, .ref fa, .int fc, .ref pa, o1, .ref md, o2, o3, .ref rg, o4, .ref mk, o5, o6, o7, o8])), (pt, .inr (0, [.ref w, .int mny, .int al])), (w, .inl (aC 1, 7, .inl f)), (ot, .inr (12, [.long nv, sv]))] sz) (va_Qi (fun (r : Int32) (u : Nat → Int32) => r = 0) (fun (u : Nat → Int32) t => va_P (dC, dI) rfCl [(h0, .inr (11, [.ref pt, .ref fa, .int 0, .ref pa, o1, .ref md, o2, o3, .ref rg, o4, .ref mk, o5, o6, o7, o8])), (pt, .inr (0, [.ref w, .int 7, .int 127])), (w, .inl (aC 1, 7, .inl u)), (ot, .inr (12, [.long 128, sv]))] t.heap ∧ va_D (va_A [(h0, .inr (11, [.ref pt, .ref fa, .int fc, .ref pa, o1, .ref md, o2, o3, .ref rg, o4, .ref mk, o5, o6, o7, o8])), (pt, .inr (0, [.ref w, .int mny, .int al])), (w, .inl (aC 1, 7, .inl f)), (ot, .inr (12, [.long nv, sv]))] sz) [(h0, .inr (11, [.ref pt, .ref fa, .int 0, .ref pa, o1, .ref md, o2, o3, .ref rg, o4, .ref mk, o5, o6, o7, o8])), (pt, .inr (0, [.ref w, .int 7, .int 127])), (w, .inl (aC 1, 7, .inl u)), (ot, .inr (12, [.long 128, sv]))]) (va_A [(h0, .inr (11, [.ref pt, .ref fa, .int fc, .ref pa, o1, .ref md, o2, o3, .ref rg, o4, .ref mk, o5, o6, o7, o8])), (pt, .inr (0, [.ref w, .int mny, .int al])), (w, .inl (aC 1, 7, .inl f)), (ot, .inr (12, [.long nv, sv]))] sz)) 0 0 (va_A [(h0, .inr (11, [.ref pt, .ref fa, .int fc, .ref pa, o1, .ref md, o2, o3, .ref rg, o4, .ref mk, o5, o6, o7, o8])), (pt, .inr (0, [.ref w, .int mny, .int al])), (w, .inl (aC 1, 7, .inl f)), (ot, .inr (12, [.long nv, sv]))] sz) := by
  refine va_MetW (cc := cL_ground) (maxL := 4) (ret := (some .int)) (by decide) rfl ?_
  intro p e s m args below meth c s₁ B hml hv
  obtain ⟨rfl, hsz, hP, hKN, hD0⟩ := hv
  obtain ⟨hK, hN⟩ := hKN
  have hx := B.exec
  have hb := B.bytes
  have hr := B.returns
  have hts := atoms_spec (ws := wsL_ground) B.pre
  have hown : s.vm.findClass RL = some m.cls := findClass_of_methodNamed B.named
  have hlocks := B.notSynchronized
  subst hsz
  have hD := hD0.self (sz := s.heap.size)
  generalize hAe : va_A [(h0, .inr (11, [.ref pt, .ref fa, .int fc, .ref pa, o1, .ref md, o2, o3, .ref rg, o4, .ref mk, o5, o6, o7, o8])), (pt, .inr (0, [.ref w, .int mny, .int al])), (w, .inl (aC 1, 7, .inl f)), (ot, .inr (12, [.long nv, sv]))] s.heap.size = A at hD ⊢
  have hA : ∀ q : Nat, s.heap.size ≤ q → A q := fun q h => by rw [← hAe]; exact Or.inr h
  have hS : va_S A s.heap s.heap [] := va_S.rf
  have hP : va_P (dC, dI) rfCl [(h0, .inr (11, [.ref pt, .ref fa, .int fc, .ref pa, o1, .ref md, o2, o3, .ref rg, o4, .ref mk, o5, o6, o7, o8])), (pt, .inr (0, [.ref w, .int mny, .int al])), (w, .inl (aC 1, 7, .inl f)), (ot, .inr (12, [.long nv, sv]))] s.heap := hP
  have hl := lv_entry ([.ref h0, .int 7, .ref ot]) (n := 4) (Nat.le_of_ble_eq_true rfl)
  rw [lg_entry_eq]
  generalize (lg_sl ([.ref h0, .int 7, .ref ot]) ++ List.replicate (4 - (lg_sl ([.ref h0, .int 7, .ref ot])).length) Slot.unset).toArray = ls at hl ⊢
  have hl : lv_has ls 4 [(0, .ref h0), (1, .int 7), (2, .ref ot)] := hl
  refine lv_aload_n hx hb dL_ground_0 rfl (lv_at hl 2 rfl) ?_
  refine lv_aload_n hx hb dL_ground_1 rfl (lv_at hl 0 rfl) ?_
  refine lv_iload_n hx hb dL_ground_2 rfl (lv_at hl 1 rfl) ?_
  have hPc := hP.sub (ws' := [(h0, .inr (11, [.ref pt, .ref fa, .int fc, .ref pa, o1, .ref md, o2, o3, .ref rg, o4, .ref mk, o5, o6, o7, o8])), (pt, .inr (0, [.ref w, .int mny, .int al])), (w, .inl (aC 1, 7, .inl f))]) [0, 1, 2] rfl
  have hDc := hD.sub (ws' := [(h0, .inr (11, [.ref pt, .ref fa, .int fc, .ref pa, o1, .ref md, o2, o3, .ref rg, o4, .ref mk, o5, o6, o7, o8])), (pt, .inr (0, [.ref w, .int mny, .int al])), (w, .inl (aC 1, 7, .inl f))]) [0, 1, 2] (by decide) rfl
  have hFc := va_free (wc := [(h0, .inr (11, [.ref pt, .ref fa, .int fc, .ref pa, o1, .ref md, o2, o3, .ref rg, o4, .ref mk, o5, o6, o7, o8])), (pt, .inr (0, [.ref w, .int mny, .int al])), (w, .inl (aC 1, 7, .inl f))]) hD hS hA [0, 1, 2] rfl
  refine va_calli (va_runV (As := [.int 7]) (rest := [.ref ot]) ⟨hx, hb, hml, hown, hts⟩ (c_X11_ground l dC dI aC s.heap.size h0 pt fa pa md rg mk o1 o2 o3 o4 o5 o6 o7 o8 fc w f mny al) (cwV 1 hts gL_ground_X11_ground rfl rfl rfl (by decide +kernel) ⟨Nat.le_of_ble_eq_true rfl, Nat.le_of_ble_eq_true rfl⟩) (rf_pv hK hN hPc hDc (va_recv hK hP (ci := 11) (q0 := 0) rfl rfl)) rfl rfl hl.1 rfl (lv_room (Nat.le_of_ble_eq_true rfl)) dL_ground_3 ⟨Nat.le_of_ble_eq_true rfl, Nat.le_of_ble_eq_true rfl⟩) hS (fun q _ h => hFc q h) hFc (fun r2 u1 t H1 locs ht hvm hwu1 hB hz1 hk1 hS => ?_)
  obtain ⟨hP1, hD1⟩ := hB
  rw [ht] at hP1
  try dsimp only at hwu1 hP1 hD1
  obtain ⟨hP, hD⟩ := va_join (wr := [(ot, .inr (12, [.long nv, sv]))]) (w1 := [(h0, .inr (11, [.ref pt, .ref fa, .int 0, .ref pa, o1, .ref md, o2, o3, .ref rg, o4, .ref mk, o5, o6, o7, o8])), (pt, .inr (0, [.ref w, .int 7, .int 127])), (w, .inl (aC 1, 7, .inl u1))]) hP hD [0, 1, 2] [3] rfl rfl (by decide) (by decide) hk1 hFc hP1 hD1
  clear hP1 hD1 hPc hDc hFc
  generalize H1 = H at hP hS ⊢
  have hP : va_P (dC, dI) rfCl [(ot, .inr (12, [.long nv, sv])), (h0, .inr (11, [.ref pt, .ref fa, .int 0, .ref pa, o1, .ref md, o2, o3, .ref rg, o4, .ref mk, o5, o6, o7, o8])), (pt, .inr (0, [.ref w, .int 7, .int 127])), (w, .inl (aC 1, 7, .inl u1))] H := hP
  have hD : va_D A [(ot, .inr (12, [.long nv, sv])), (h0, .inr (11, [.ref pt, .ref fa, .int 0, .ref pa, o1, .ref md, o2, o3, .ref rg, o4, .ref mk, o5, o6, o7, o8])), (pt, .inr (0, [.ref w, .int 7, .int 127])), (w, .inl (aC 1, 7, .inl u1))] := hD
  refine W.widen (k := 0) (n := 0) (Nat.le_of_ble_eq_true rfl) (Nat.le_of_ble_eq_true rfl) ?_
  subst hwu1
  refine lv_i2l (v := 128) hx hb dL_ground_6 (by decide) ?_
  refine va_putN (D := (dC, dI)) (ci := 12) (v := .long 128) (ty := .long) (host := RL) (ref := RX12) (C := RX12) (T := TX12) (N := 2) hx hb hts (by decide +kernel) tyX12 tyX12_ok nmX12 hown hK hP hD hS 0 rfl rfl 0 (by decide) (va_Nw.use rfl hN.2.2.2.2.2.2) (fun _ h9 => h9) rfl (by decide +kernel) rfl rfl (Nat.le_of_ble_eq_true rfl) dL_ground_7 (fun H locs hP hD hS => ?_)
  have hP : va_P (dC, dI) rfCl [(ot, .inr (12, [.long 128, sv])), (h0, .inr (11, [.ref pt, .ref fa, .int 0, .ref pa, o1, .ref md, o2, o3, .ref rg, o4, .ref mk, o5, o6, o7, o8])), (pt, .inr (0, [.ref w, .int 7, .int 127])), (w, .inl (aC 1, 7, .inl u1))] H := hP
  have hD : va_D A [(ot, .inr (12, [.long 128, sv])), (h0, .inr (11, [.ref pt, .ref fa, .int 0, .ref pa, o1, .ref md, o2, o3, .ref rg, o4, .ref mk, o5, o6, o7, o8])), (pt, .inr (0, [.ref w, .int 7, .int 127])), (w, .inl (aC 1, 7, .inl u1))] := hD
  refine lv_goto (tgt := 16) hx hb dL_ground_10 (by decide) ?_
  refine lv_iconst (v := 0) hx hb dL_ground_16 (by decide) ?_
  have hP9 := hP.sub (ws' := [(h0, .inr (11, [.ref pt, .ref fa, .int 0, .ref pa, o1, .ref md, o2, o3, .ref rg, o4, .ref mk, o5, o6, o7, o8])), (pt, .inr (0, [.ref w, .int 7, .int 127])), (w, .inl (aC 1, 7, .inl u1)), (ot, .inr (12, [.long 128, sv]))]) [1, 2, 3, 0] rfl
  have hD9 := hD.sub (ws' := [(h0, .inr (11, [.ref pt, .ref fa, .int 0, .ref pa, o1, .ref md, o2, o3, .ref rg, o4, .ref mk, o5, o6, o7, o8])), (pt, .inr (0, [.ref w, .int 7, .int 127])), (w, .inl (aC 1, 7, .inl u1)), (ot, .inr (12, [.long 128, sv]))]) [1, 2, 3, 0] (by decide) rfl
  refine W.widen (k := 0) (n := 0) (Nat.le_of_ble_eq_true rfl) (Nat.le_of_ble_eq_true rfl) ?_
  exact W.iret (v := 0) hx hb hr (fun t ht hW => ⟨⟨0, u1, rfl, rfl, by rw [ht]; exact hP9, hD9⟩, hS.F ht⟩) hS.2.2 dL_ground_17

set_option maxHeartbeats 4000000 in
set_option maxRecDepth 100000 in
theorem c_L_die (l : Launch) (dC : Nat → ClassId) (dI : Nat → Nat → Nat) (aC : Nat → ClassId) (sz : Nat) (h0 pt fa pa md rg mk : Nat) (o1 o2 o3 o4 o5 o6 o7 o8 : Value) (fc : Int32) (w : Nat) (f : Nat → Int32) (mny al p0 al2 : Int32) (ot : Nat) (nv : Int64) (sv : Value) (h1 : ¬ p0 < 0) (h2 : ¬ mny ≤ p0) (h3 : ¬ (7 : Int32) ≤ p0) (h4 : al &&& (((1 : Int32) <<< (p0 &&& 31)) ^^^ (-1)) = al2) : Met l yL_die wsL_die ({ frames := 5, cells := 0, slots := 0, locals := 160 } : Room) (rf_Pc (dC, dI) aC [.ref h0, .int p0, .int 1, .ref ot] [(h0, .inr (11, [.ref pt, .ref fa, .int fc, .ref pa, o1, .ref md, o2, o3, .ref rg, o4, .ref mk, o5, o6, o7, o8])), (pt, .inr (0, [.ref w, .int mny, .int al])), (w, .inl (aC 1, 7, .inl f)), (ot, .inr (12, [.long nv, sv]))] sz) (va_Qi (fun (r : Int32) (u : Int64) => r = 0) (fun (u : Int64) t => va_P (dC, dI) rfCl [(h0, .inr (11, [.ref pt, .ref fa, .int fc, .ref pa, o1, .ref md, o2, o3, .ref rg, o4, .ref mk, o5, o6, o7, o8])), (pt, .inr (0, [.ref w, .int mny, .int al2])), (w, .inl (aC 1, 7, .inl f)), (ot, .inr (12, [.long u, sv]))] t.heap ∧ va_D (va_A [(h0, .inr (11, [.ref pt, .ref fa, .int fc, .ref pa, o1, .ref md, o2, o3, .ref rg, o4, .ref mk, o5, o6, o7, o8])), (pt, .inr (0, [.ref w, .int mny, .int al])), (w, .inl (aC 1, 7, .inl f)), (ot, .inr (12, [.long nv, sv]))] sz) [(h0, .inr (11, [.ref pt, .ref fa, .int fc, .ref pa, o1, .ref md, o2, o3, .ref rg, o4, .ref mk, o5, o6, o7, o8])), (pt, .inr (0, [.ref w, .int mny, .int al2])), (w, .inl (aC 1, 7, .inl f)), (ot, .inr (12, [.long u, sv]))]) (va_A [(h0, .inr (11, [.ref pt, .ref fa, .int fc, .ref pa, o1, .ref md, o2, o3, .ref rg, o4, .ref mk, o5, o6, o7, o8])), (pt, .inr (0, [.ref w, .int mny, .int al])), (w, .inl (aC 1, 7, .inl f)), (ot, .inr (12, [.long nv, sv]))] sz)) 0 0 (va_A [(h0, .inr (11, [.ref pt, .ref fa, .int fc, .ref pa, o1, .ref md, o2, o3, .ref rg, o4, .ref mk, o5, o6, o7, o8])), (pt, .inr (0, [.ref w, .int mny, .int al])), (w, .inl (aC 1, 7, .inl f)), (ot, .inr (12, [.long nv, sv]))] sz) := by
  refine va_MetW (cc := cL_die) (maxL := 5) (ret := (some .int)) (by decide) rfl ?_
  intro p e s m args below meth c s₁ B hml hv
  obtain ⟨rfl, hsz, hP, hKN, hD0⟩ := hv
  obtain ⟨hK, hN⟩ := hKN
  have hx := B.exec
  have hb := B.bytes
  have hr := B.returns
  have hts := atoms_spec (ws := wsL_die) B.pre
  have hown : s.vm.findClass RL = some m.cls := findClass_of_methodNamed B.named
  have hlocks := B.notSynchronized
  subst hsz
  have hD := hD0.self (sz := s.heap.size)
  generalize hAe : va_A [(h0, .inr (11, [.ref pt, .ref fa, .int fc, .ref pa, o1, .ref md, o2, o3, .ref rg, o4, .ref mk, o5, o6, o7, o8])), (pt, .inr (0, [.ref w, .int mny, .int al])), (w, .inl (aC 1, 7, .inl f)), (ot, .inr (12, [.long nv, sv]))] s.heap.size = A at hD ⊢
  have hA : ∀ q : Nat, s.heap.size ≤ q → A q := fun q h => by rw [← hAe]; exact Or.inr h
  have hS : va_S A s.heap s.heap [] := va_S.rf
  have hP : va_P (dC, dI) rfCl [(h0, .inr (11, [.ref pt, .ref fa, .int fc, .ref pa, o1, .ref md, o2, o3, .ref rg, o4, .ref mk, o5, o6, o7, o8])), (pt, .inr (0, [.ref w, .int mny, .int al])), (w, .inl (aC 1, 7, .inl f)), (ot, .inr (12, [.long nv, sv]))] s.heap := hP
  have hl := lv_entry ([.ref h0, .int p0, .int 1, .ref ot]) (n := 5) (Nat.le_of_ble_eq_true rfl)
  rw [lg_entry_eq]
  generalize (lg_sl ([.ref h0, .int p0, .int 1, .ref ot]) ++ List.replicate (5 - (lg_sl ([.ref h0, .int p0, .int 1, .ref ot])).length) Slot.unset).toArray = ls at hl ⊢
  have hl : lv_has ls 5 [(0, .ref h0), (1, .int p0), (2, .int 1), (3, .ref ot)] := hl
  refine lv_aload_n hx hb dL_die_0 rfl (lv_at hl 3 rfl) ?_
  refine lv_aload_n hx hb dL_die_1 rfl (lv_at hl 0 rfl) ?_
  refine lv_iload_n hx hb dL_die_2 rfl (lv_at hl 1 rfl) ?_
  refine lv_iload_n hx hb dL_die_3 rfl (lv_at hl 2 rfl) ?_
  have hPc := hP.sub (ws' := [(h0, .inr (11, [.ref pt, .ref fa, .int fc, .ref pa, o1, .ref md, o2, o3, .ref rg, o4, .ref mk, o5, o6, o7, o8])), (pt, .inr (0, [.ref w, .int mny, .int al])), (w, .inl (aC 1, 7, .inl f))]) [0, 1, 2] rfl
  have hDc := hD.sub (ws' := [(h0, .inr (11, [.ref pt, .ref fa, .int fc, .ref pa, o1, .ref md, o2, o3, .ref rg, o4, .ref mk, o5, o6, o7, o8])), (pt, .inr (0, [.ref w, .int mny, .int al])), (w, .inl (aC 1, 7, .inl f))]) [0, 1, 2] (by decide) rfl
  have hFc := va_free (wc := [(h0, .inr (11, [.ref pt, .ref fa, .int fc, .ref pa, o1, .ref md, o2, o3, .ref rg, o4, .ref mk, o5, o6, o7, o8])), (pt, .inr (0, [.ref w, .int mny, .int al])), (w, .inl (aC 1, 7, .inl f))]) hD hS hA [0, 1, 2] rfl
  refine va_calli (va_runV (As := [.int p0, .int 1]) (rest := [.ref ot]) ⟨hx, hb, hml, hown, hts⟩ (c_X11_die l dC dI aC s.heap.size h0 pt fa pa md rg mk o1 o2 o3 o4 o5 o6 o7 o8 fc w f mny al p0 al2 h1 h2 h3 h4) (cwV 2 hts gL_die_X11_die rfl rfl rfl (by decide +kernel) ⟨Nat.le_of_ble_eq_true rfl, Nat.le_of_ble_eq_true rfl⟩) (rf_pv hK hN hPc hDc (va_recv hK hP (ci := 11) (q0 := 0) rfl rfl)) rfl rfl hl.1 rfl (lv_room (Nat.le_of_ble_eq_true rfl)) dL_die_4 ⟨Nat.le_of_ble_eq_true rfl, Nat.le_of_ble_eq_true rfl⟩) hS (fun q _ h => hFc q h) hFc (fun r2 u1 t H1 locs ht hvm hwu1 hB hz1 hk1 hS => ?_)
  obtain ⟨hP1, hD1⟩ := hB
  rw [ht] at hP1
  try dsimp only at hwu1 hP1 hD1
  obtain ⟨hP, hD⟩ := va_join (wr := [(ot, .inr (12, [.long nv, sv]))]) (w1 := [(h0, .inr (11, [.ref pt, .ref fa, .int fc, .ref pa, o1, .ref md, o2, o3, .ref rg, o4, .ref mk, o5, o6, o7, o8])), (pt, .inr (0, [.ref w, .int mny, .int al2])), (w, .inl (aC 1, 7, .inl f))]) hP hD [0, 1, 2] [3] rfl rfl (by decide) (by decide) hk1 hFc hP1 hD1
  clear hP1 hD1 hPc hDc hFc
  generalize H1 = H at hP hS ⊢
  have hP : va_P (dC, dI) rfCl [(ot, .inr (12, [.long nv, sv])), (h0, .inr (11, [.ref pt, .ref fa, .int fc, .ref pa, o1, .ref md, o2, o3, .ref rg, o4, .ref mk, o5, o6, o7, o8])), (pt, .inr (0, [.ref w, .int mny, .int al2])), (w, .inl (aC 1, 7, .inl f))] H := hP
  have hD : va_D A [(ot, .inr (12, [.long nv, sv])), (h0, .inr (11, [.ref pt, .ref fa, .int fc, .ref pa, o1, .ref md, o2, o3, .ref rg, o4, .ref mk, o5, o6, o7, o8])), (pt, .inr (0, [.ref w, .int mny, .int al2])), (w, .inl (aC 1, 7, .inl f))] := hD
  refine W.widen (k := 0) (n := 0) (Nat.le_of_ble_eq_true rfl) (Nat.le_of_ble_eq_true rfl) ?_
  refine lv_i2l (v := (r2).toInt64) hx hb dL_die_7 rfl ?_
  refine va_putN (D := (dC, dI)) (ci := 12) (v := .long ((r2).toInt64)) (ty := .long) (host := RL) (ref := RX12) (C := RX12) (T := TX12) (N := 2) hx hb hts (by decide +kernel) tyX12 tyX12_ok nmX12 hown hK hP hD hS 0 rfl rfl 0 (by decide) (va_Nw.use rfl hN.2.2.2.2.2.2) (fun _ h9 => h9) rfl (by decide +kernel) rfl rfl (Nat.le_of_ble_eq_true rfl) dL_die_8 (fun H locs hP hD hS => ?_)
  have hP : va_P (dC, dI) rfCl [(ot, .inr (12, [.long ((r2).toInt64), sv])), (h0, .inr (11, [.ref pt, .ref fa, .int fc, .ref pa, o1, .ref md, o2, o3, .ref rg, o4, .ref mk, o5, o6, o7, o8])), (pt, .inr (0, [.ref w, .int mny, .int al2])), (w, .inl (aC 1, 7, .inl f))] H := hP
  have hD : va_D A [(ot, .inr (12, [.long ((r2).toInt64), sv])), (h0, .inr (11, [.ref pt, .ref fa, .int fc, .ref pa, o1, .ref md, o2, o3, .ref rg, o4, .ref mk, o5, o6, o7, o8])), (pt, .inr (0, [.ref w, .int mny, .int al2])), (w, .inl (aC 1, 7, .inl f))] := hD
  refine lv_goto (tgt := 18) hx hb dL_die_11 (by decide) ?_
  refine lv_iconst (v := 0) hx hb dL_die_18 (by decide) ?_
  have hP9 := hP.sub (ws' := [(h0, .inr (11, [.ref pt, .ref fa, .int fc, .ref pa, o1, .ref md, o2, o3, .ref rg, o4, .ref mk, o5, o6, o7, o8])), (pt, .inr (0, [.ref w, .int mny, .int al2])), (w, .inl (aC 1, 7, .inl f)), (ot, .inr (12, [.long ((r2).toInt64), sv]))]) [1, 2, 3, 0] rfl
  have hD9 := hD.sub (ws' := [(h0, .inr (11, [.ref pt, .ref fa, .int fc, .ref pa, o1, .ref md, o2, o3, .ref rg, o4, .ref mk, o5, o6, o7, o8])), (pt, .inr (0, [.ref w, .int mny, .int al2])), (w, .inl (aC 1, 7, .inl f)), (ot, .inr (12, [.long ((r2).toInt64), sv]))]) [1, 2, 3, 0] (by decide) rfl
  refine W.widen (k := 0) (n := 0) (Nat.le_of_ble_eq_true rfl) (Nat.le_of_ble_eq_true rfl) ?_
  exact W.iret (v := 0) hx hb hr (fun t ht hW => ⟨⟨0, (r2).toInt64, rfl, rfl, by rw [ht]; exact hP9, hD9⟩, hS.F ht⟩) hS.2.2 dL_die_19

set_option maxHeartbeats 4000000 in
set_option maxRecDepth 100000 in
theorem c_L_family (l : Launch) (dC : Nat → ClassId) (dI : Nat → Nat → Nat) (aC : Nat → ClassId) (sz : Nat) (h0 pt fa pa md rg mk : Nat) (o1 o2 o3 o4 o5 o6 o7 o8 : Value) (ff : Nat → Option Nat) (s0 b0 : Nat) (r0 : Value) (f0 : Nat → Int32) (m0 : Int32) (b1 : Nat) (r1 : Value) (f1 : Nat → Int32) (m1 : Int32) (ot : Nat) (nv : Int64) (sv : Value) (hf : ff 0 = some s0) : Met l yL_family wsL_family ({ frames := 5, cells := 0, slots := 0, locals := 160 } : Room) (rf_Pc (dC, dI) aC [.ref h0, .ref ot] [(h0, .inr (11, [.ref pt, .ref fa, .int 0, .ref pa, o1, .ref md, o2, o3, .ref rg, o4, .ref mk, o5, o6, o7, o8])), (fa, .inl (aC 4, 5, .inr (.inr (.inr (.inr ff))))), (s0, .inr (1, [.ref b0, r0, .int m0])), (b0, .inl (aC 0, 128, .inl f0)), (md, .inr (1, [.ref b1, r1, .int m1])), (b1, .inl (aC 0, 128, .inl f1)), (ot, .inr (12, [.long nv, sv]))] sz) (va_Qi (fun (r : Int32) (u : ((Nat → Int32) × (Nat → Int32)) × Int64) => r = 0) (fun (u : ((Nat → Int32) × (Nat → Int32)) × Int64) t => va_P (dC, dI) rfCl [(h0, .inr (11, [.ref pt, .ref fa, .int 1, .ref pa, o1, .ref md, o2, o3, .ref rg, o4, .ref mk, o5, o6, o7, o8])), (fa, .inl (aC 4, 5, .inr (.inr (.inr (.inr ff))))), (s0, .inr (1, [.ref b0, r0, .int 0])), (b0, .inl (aC 0, 128, .inl u.1.1)), (md, .inr (1, [.ref b1, r1, .int 0])), (b1, .inl (aC 0, 128, .inl u.1.2)), (ot, .inr (12, [.long u.2, sv]))] t.heap ∧ va_D (va_A [(h0, .inr (11, [.ref pt, .ref fa, .int 0, .ref pa, o1, .ref md, o2, o3, .ref rg, o4, .ref mk, o5, o6, o7, o8])), (fa, .inl (aC 4, 5, .inr (.inr (.inr (.inr ff))))), (s0, .inr (1, [.ref b0, r0, .int m0])), (b0, .inl (aC 0, 128, .inl f0)), (md, .inr (1, [.ref b1, r1, .int m1])), (b1, .inl (aC 0, 128, .inl f1)), (ot, .inr (12, [.long nv, sv]))] sz) [(h0, .inr (11, [.ref pt, .ref fa, .int 1, .ref pa, o1, .ref md, o2, o3, .ref rg, o4, .ref mk, o5, o6, o7, o8])), (fa, .inl (aC 4, 5, .inr (.inr (.inr (.inr ff))))), (s0, .inr (1, [.ref b0, r0, .int 0])), (b0, .inl (aC 0, 128, .inl u.1.1)), (md, .inr (1, [.ref b1, r1, .int 0])), (b1, .inl (aC 0, 128, .inl u.1.2)), (ot, .inr (12, [.long u.2, sv]))]) (va_A [(h0, .inr (11, [.ref pt, .ref fa, .int 0, .ref pa, o1, .ref md, o2, o3, .ref rg, o4, .ref mk, o5, o6, o7, o8])), (fa, .inl (aC 4, 5, .inr (.inr (.inr (.inr ff))))), (s0, .inr (1, [.ref b0, r0, .int m0])), (b0, .inl (aC 0, 128, .inl f0)), (md, .inr (1, [.ref b1, r1, .int m1])), (b1, .inl (aC 0, 128, .inl f1)), (ot, .inr (12, [.long nv, sv]))] sz)) 0 0 (va_A [(h0, .inr (11, [.ref pt, .ref fa, .int 0, .ref pa, o1, .ref md, o2, o3, .ref rg, o4, .ref mk, o5, o6, o7, o8])), (fa, .inl (aC 4, 5, .inr (.inr (.inr (.inr ff))))), (s0, .inr (1, [.ref b0, r0, .int m0])), (b0, .inl (aC 0, 128, .inl f0)), (md, .inr (1, [.ref b1, r1, .int m1])), (b1, .inl (aC 0, 128, .inl f1)), (ot, .inr (12, [.long nv, sv]))] sz) := by
  refine va_MetW (cc := cL_family) (maxL := 3) (ret := (some .int)) (by decide) rfl ?_
  intro p e s m args below meth c s₁ B hml hv
  obtain ⟨rfl, hsz, hP, hKN, hD0⟩ := hv
  obtain ⟨hK, hN⟩ := hKN
  have hx := B.exec
  have hb := B.bytes
  have hr := B.returns
  have hts := atoms_spec (ws := wsL_family) B.pre
  have hown : s.vm.findClass RL = some m.cls := findClass_of_methodNamed B.named
  have hlocks := B.notSynchronized
  subst hsz
  have hD := hD0.self (sz := s.heap.size)
  generalize hAe : va_A [(h0, .inr (11, [.ref pt, .ref fa, .int 0, .ref pa, o1, .ref md, o2, o3, .ref rg, o4, .ref mk, o5, o6, o7, o8])), (fa, .inl (aC 4, 5, .inr (.inr (.inr (.inr ff))))), (s0, .inr (1, [.ref b0, r0, .int m0])), (b0, .inl (aC 0, 128, .inl f0)), (md, .inr (1, [.ref b1, r1, .int m1])), (b1, .inl (aC 0, 128, .inl f1)), (ot, .inr (12, [.long nv, sv]))] s.heap.size = A at hD ⊢
  have hA : ∀ q : Nat, s.heap.size ≤ q → A q := fun q h => by rw [← hAe]; exact Or.inr h
  have hS : va_S A s.heap s.heap [] := va_S.rf
  have hP : va_P (dC, dI) rfCl [(h0, .inr (11, [.ref pt, .ref fa, .int 0, .ref pa, o1, .ref md, o2, o3, .ref rg, o4, .ref mk, o5, o6, o7, o8])), (fa, .inl (aC 4, 5, .inr (.inr (.inr (.inr ff))))), (s0, .inr (1, [.ref b0, r0, .int m0])), (b0, .inl (aC 0, 128, .inl f0)), (md, .inr (1, [.ref b1, r1, .int m1])), (b1, .inl (aC 0, 128, .inl f1)), (ot, .inr (12, [.long nv, sv]))] s.heap := hP
  have hl := lv_entry ([.ref h0, .ref ot]) (n := 3) (Nat.le_of_ble_eq_true rfl)
  rw [lg_entry_eq]
  generalize (lg_sl ([.ref h0, .ref ot]) ++ List.replicate (3 - (lg_sl ([.ref h0, .ref ot])).length) Slot.unset).toArray = ls at hl ⊢
  have hl : lv_has ls 3 [(0, .ref h0), (1, .ref ot)] := hl
  refine lv_aload_n hx hb dL_family_0 rfl (lv_at hl 1 rfl) ?_
  refine lv_aload_n hx hb dL_family_1 rfl (lv_at hl 0 rfl) ?_
  have hPc := hP.sub (ws' := [(h0, .inr (11, [.ref pt, .ref fa, .int 0, .ref pa, o1, .ref md, o2, o3, .ref rg, o4, .ref mk, o5, o6, o7, o8])), (fa, .inl (aC 4, 5, .inr (.inr (.inr (.inr ff))))), (s0, .inr (1, [.ref b0, r0, .int m0])), (b0, .inl (aC 0, 128, .inl f0)), (md, .inr (1, [.ref b1, r1, .int m1])), (b1, .inl (aC 0, 128, .inl f1))]) [0, 1, 2, 3, 4, 5] rfl
  have hDc := hD.sub (ws' := [(h0, .inr (11, [.ref pt, .ref fa, .int 0, .ref pa, o1, .ref md, o2, o3, .ref rg, o4, .ref mk, o5, o6, o7, o8])), (fa, .inl (aC 4, 5, .inr (.inr (.inr (.inr ff))))), (s0, .inr (1, [.ref b0, r0, .int m0])), (b0, .inl (aC 0, 128, .inl f0)), (md, .inr (1, [.ref b1, r1, .int m1])), (b1, .inl (aC 0, 128, .inl f1))]) [0, 1, 2, 3, 4, 5] (by decide) rfl
  have hFc := va_free (wc := [(h0, .inr (11, [.ref pt, .ref fa, .int 0, .ref pa, o1, .ref md, o2, o3, .ref rg, o4, .ref mk, o5, o6, o7, o8])), (fa, .inl (aC 4, 5, .inr (.inr (.inr (.inr ff))))), (s0, .inr (1, [.ref b0, r0, .int m0])), (b0, .inl (aC 0, 128, .inl f0)), (md, .inr (1, [.ref b1, r1, .int m1])), (b1, .inl (aC 0, 128, .inl f1))]) hD hS hA [0, 1, 2, 3, 4, 5] rfl
  refine va_calli (va_runV (As := []) (rest := [.ref ot]) ⟨hx, hb, hml, hown, hts⟩ (c_X11_family l dC dI aC s.heap.size h0 pt fa pa md rg mk o1 o2 o3 o4 o5 o6 o7 o8 ff s0 b0 r0 f0 m0 b1 r1 f1 m1 hf) (cwV 0 hts gL_family_X11_family rfl rfl rfl (by decide +kernel) ⟨Nat.le_of_ble_eq_true rfl, Nat.le_of_ble_eq_true rfl⟩) (rf_pv hK hN hPc hDc (va_recv hK hP (ci := 11) (q0 := 0) rfl rfl)) rfl rfl hl.1 rfl (lv_room (Nat.le_of_ble_eq_true rfl)) dL_family_2 ⟨Nat.le_of_ble_eq_true rfl, Nat.le_of_ble_eq_true rfl⟩) hS (fun q _ h => hFc q h) hFc (fun r2 u1 t H1 locs ht hvm hwu1 hB hz1 hk1 hS => ?_)
  obtain ⟨hP1, hD1⟩ := hB
  rw [ht] at hP1
  try dsimp only at hwu1 hP1 hD1
  obtain ⟨hP, hD⟩ := va_join (wr := [(ot, .inr (12, [.long nv, sv]))]) (w1 := [(h0, .inr (11, [.ref pt, .ref fa, .int 1, .ref pa, o1, .ref md, o2, o3, .ref rg, o4, .ref mk, o5, o6, o7, o8])), (fa, .inl (aC 4, 5, .inr (.inr (.inr (.inr ff))))), (s0, .inr (1, [.ref b0, r0, .int 0])), (b0, .inl (aC 0, 128, .inl u1.1)), (md, .inr (1, [.ref b1, r1, .int 0])), (b1, .inl (aC 0, 128, .inl u1.2))]) hP hD [0, 1, 2, 3, 4, 5] [6] rfl rfl (by decide) (by decide) hk1 hFc hP1 hD1
  clear hP1 hD1 hPc hDc hFc
  generalize H1 = H at hP hS ⊢
  have hP : va_P (dC, dI) rfCl [(ot, .inr (12, [.long nv, sv])), (h0, .inr (11, [.ref pt, .ref fa, .int 1, .ref pa, o1, .ref md, o2, o3, .ref rg, o4, .ref mk, o5, o6, o7, o8])), (fa, .inl (aC 4, 5, .inr (.inr (.inr (.inr ff))))), (s0, .inr (1, [.ref b0, r0, .int 0])), (b0, .inl (aC 0, 128, .inl u1.1)), (md, .inr (1, [.ref b1, r1, .int 0])), (b1, .inl (aC 0, 128, .inl u1.2))] H := hP
  have hD : va_D A [(ot, .inr (12, [.long nv, sv])), (h0, .inr (11, [.ref pt, .ref fa, .int 1, .ref pa, o1, .ref md, o2, o3, .ref rg, o4, .ref mk, o5, o6, o7, o8])), (fa, .inl (aC 4, 5, .inr (.inr (.inr (.inr ff))))), (s0, .inr (1, [.ref b0, r0, .int 0])), (b0, .inl (aC 0, 128, .inl u1.1)), (md, .inr (1, [.ref b1, r1, .int 0])), (b1, .inl (aC 0, 128, .inl u1.2))] := hD
  refine W.widen (k := 0) (n := 0) (Nat.le_of_ble_eq_true rfl) (Nat.le_of_ble_eq_true rfl) ?_
  refine lv_i2l (v := (r2).toInt64) hx hb dL_family_5 rfl ?_
  refine va_putN (D := (dC, dI)) (ci := 12) (v := .long ((r2).toInt64)) (ty := .long) (host := RL) (ref := RX12) (C := RX12) (T := TX12) (N := 2) hx hb hts (by decide +kernel) tyX12 tyX12_ok nmX12 hown hK hP hD hS 0 rfl rfl 0 (by decide) (va_Nw.use rfl hN.2.2.2.2.2.2) (fun _ h9 => h9) rfl (by decide +kernel) rfl rfl (Nat.le_of_ble_eq_true rfl) dL_family_6 (fun H locs hP hD hS => ?_)
  have hP : va_P (dC, dI) rfCl [(ot, .inr (12, [.long ((r2).toInt64), sv])), (h0, .inr (11, [.ref pt, .ref fa, .int 1, .ref pa, o1, .ref md, o2, o3, .ref rg, o4, .ref mk, o5, o6, o7, o8])), (fa, .inl (aC 4, 5, .inr (.inr (.inr (.inr ff))))), (s0, .inr (1, [.ref b0, r0, .int 0])), (b0, .inl (aC 0, 128, .inl u1.1)), (md, .inr (1, [.ref b1, r1, .int 0])), (b1, .inl (aC 0, 128, .inl u1.2))] H := hP
  have hD : va_D A [(ot, .inr (12, [.long ((r2).toInt64), sv])), (h0, .inr (11, [.ref pt, .ref fa, .int 1, .ref pa, o1, .ref md, o2, o3, .ref rg, o4, .ref mk, o5, o6, o7, o8])), (fa, .inl (aC 4, 5, .inr (.inr (.inr (.inr ff))))), (s0, .inr (1, [.ref b0, r0, .int 0])), (b0, .inl (aC 0, 128, .inl u1.1)), (md, .inr (1, [.ref b1, r1, .int 0])), (b1, .inl (aC 0, 128, .inl u1.2))] := hD
  refine lv_goto (tgt := 15) hx hb dL_family_9 (by decide) ?_
  refine lv_iconst (v := 0) hx hb dL_family_15 (by decide) ?_
  have hP9 := hP.sub (ws' := [(h0, .inr (11, [.ref pt, .ref fa, .int 1, .ref pa, o1, .ref md, o2, o3, .ref rg, o4, .ref mk, o5, o6, o7, o8])), (fa, .inl (aC 4, 5, .inr (.inr (.inr (.inr ff))))), (s0, .inr (1, [.ref b0, r0, .int 0])), (b0, .inl (aC 0, 128, .inl u1.1)), (md, .inr (1, [.ref b1, r1, .int 0])), (b1, .inl (aC 0, 128, .inl u1.2)), (ot, .inr (12, [.long ((r2).toInt64), sv]))]) [1, 2, 3, 4, 5, 6, 0] rfl
  have hD9 := hD.sub (ws' := [(h0, .inr (11, [.ref pt, .ref fa, .int 1, .ref pa, o1, .ref md, o2, o3, .ref rg, o4, .ref mk, o5, o6, o7, o8])), (fa, .inl (aC 4, 5, .inr (.inr (.inr (.inr ff))))), (s0, .inr (1, [.ref b0, r0, .int 0])), (b0, .inl (aC 0, 128, .inl u1.1)), (md, .inr (1, [.ref b1, r1, .int 0])), (b1, .inl (aC 0, 128, .inl u1.2)), (ot, .inr (12, [.long ((r2).toInt64), sv]))]) [1, 2, 3, 4, 5, 6, 0] (by decide) rfl
  refine W.widen (k := 0) (n := 0) (Nat.le_of_ble_eq_true rfl) (Nat.le_of_ble_eq_true rfl) ?_
  exact W.iret (v := 0) hx hb hr (fun t ht hW => ⟨⟨0, ((u1.1, u1.2), (r2).toInt64), rfl, rfl, by rw [ht]; exact hP9, hD9⟩, hS.F ht⟩) hS.2.2 dL_family_16

set_option maxHeartbeats 4000000 in
set_option maxRecDepth 100000 in
theorem c_L_game (l : Launch) (dC : Nat → ClassId) (dI : Nat → Nat → Nat) (aC : Nat → ClassId) (sz : Nat) (h0 pt fa pa md rg mk : Nat) (o1 o2 o3 o4 o5 o6 o7 o8 : Value) (ff : Nat → Option Nat) (s0 : Nat) (b0 r0 w : Value) (mny : Int32) (k1 k2 : Value) (pb : Nat) (pr : Value) (pf : Nat → Int32) (pm : Int32) (g1 g2 g3 g4 : Value) (wi : Nat) (wf : Nat → Int64) (ot : Nat) (nv : Int64) (sv : Value) (hf : ff 0 = some s0) : Met l yL_game wsL_game ({ frames := 7, cells := 0, slots := 0, locals := 240 } : Room) (rf_Pc (dC, dI) aC [.ref h0, .int 0, .ref ot] [(h0, .inr (11, [.ref pt, .ref fa, .int 1, .ref pa, o1, .ref md, o2, o3, .ref rg, o4, .ref mk, o5, o6, o7, o8])), (fa, .inl (aC 4, 5, .inr (.inr (.inr (.inr ff))))), (s0, .inr (1, [b0, r0, .int 0])), (pt, .inr (0, [w, .int mny, .int 0])), (mk, .inr (6, [k1, k2])), (pa, .inr (1, [.ref pb, pr, .int pm])), (pb, .inl (aC 0, 128, .inl pf)), (rg, .inr (4, [g1, g2, g3, g4, .ref wi])), (wi, .inl (aC 2, 256, .inr (.inl wf))), (ot, .inr (12, [.long nv, sv]))] sz) (va_Qi (fun (r : Int32) (u : ((Nat → Int32) × (Nat → Int64)) × Int64) => r = 0) (fun (u : ((Nat → Int32) × (Nat → Int64)) × Int64) t => va_P (dC, dI) rfCl [(h0, .inr (11, [.ref pt, .ref fa, .int 1, .ref pa, o1, .ref md, o2, o3, .ref rg, o4, .ref mk, o5, o6, o7, o8])), (fa, .inl (aC 4, 5, .inr (.inr (.inr (.inr ff))))), (s0, .inr (1, [b0, r0, .int 0])), (pt, .inr (0, [w, .int mny, .int 0])), (mk, .inr (6, [k1, k2])), (pa, .inr (1, [.ref pb, pr, .int 0])), (pb, .inl (aC 0, 128, .inl u.1.1)), (rg, .inr (4, [g1, g2, g3, g4, .ref wi])), (wi, .inl (aC 2, 256, .inr (.inl u.1.2))), (ot, .inr (12, [.long u.2, sv]))] t.heap ∧ va_D (va_A [(h0, .inr (11, [.ref pt, .ref fa, .int 1, .ref pa, o1, .ref md, o2, o3, .ref rg, o4, .ref mk, o5, o6, o7, o8])), (fa, .inl (aC 4, 5, .inr (.inr (.inr (.inr ff))))), (s0, .inr (1, [b0, r0, .int 0])), (pt, .inr (0, [w, .int mny, .int 0])), (mk, .inr (6, [k1, k2])), (pa, .inr (1, [.ref pb, pr, .int pm])), (pb, .inl (aC 0, 128, .inl pf)), (rg, .inr (4, [g1, g2, g3, g4, .ref wi])), (wi, .inl (aC 2, 256, .inr (.inl wf))), (ot, .inr (12, [.long nv, sv]))] sz) [(h0, .inr (11, [.ref pt, .ref fa, .int 1, .ref pa, o1, .ref md, o2, o3, .ref rg, o4, .ref mk, o5, o6, o7, o8])), (fa, .inl (aC 4, 5, .inr (.inr (.inr (.inr ff))))), (s0, .inr (1, [b0, r0, .int 0])), (pt, .inr (0, [w, .int mny, .int 0])), (mk, .inr (6, [k1, k2])), (pa, .inr (1, [.ref pb, pr, .int 0])), (pb, .inl (aC 0, 128, .inl u.1.1)), (rg, .inr (4, [g1, g2, g3, g4, .ref wi])), (wi, .inl (aC 2, 256, .inr (.inl u.1.2))), (ot, .inr (12, [.long u.2, sv]))]) (va_A [(h0, .inr (11, [.ref pt, .ref fa, .int 1, .ref pa, o1, .ref md, o2, o3, .ref rg, o4, .ref mk, o5, o6, o7, o8])), (fa, .inl (aC 4, 5, .inr (.inr (.inr (.inr ff))))), (s0, .inr (1, [b0, r0, .int 0])), (pt, .inr (0, [w, .int mny, .int 0])), (mk, .inr (6, [k1, k2])), (pa, .inr (1, [.ref pb, pr, .int pm])), (pb, .inl (aC 0, 128, .inl pf)), (rg, .inr (4, [g1, g2, g3, g4, .ref wi])), (wi, .inl (aC 2, 256, .inr (.inl wf))), (ot, .inr (12, [.long nv, sv]))] sz)) 0 0 (va_A [(h0, .inr (11, [.ref pt, .ref fa, .int 1, .ref pa, o1, .ref md, o2, o3, .ref rg, o4, .ref mk, o5, o6, o7, o8])), (fa, .inl (aC 4, 5, .inr (.inr (.inr (.inr ff))))), (s0, .inr (1, [b0, r0, .int 0])), (pt, .inr (0, [w, .int mny, .int 0])), (mk, .inr (6, [k1, k2])), (pa, .inr (1, [.ref pb, pr, .int pm])), (pb, .inl (aC 0, 128, .inl pf)), (rg, .inr (4, [g1, g2, g3, g4, .ref wi])), (wi, .inl (aC 2, 256, .inr (.inl wf))), (ot, .inr (12, [.long nv, sv]))] sz) := by
  refine va_MetW (cc := cL_game) (maxL := 4) (ret := (some .int)) (by decide) rfl ?_
  intro p e s m args below meth c s₁ B hml hv
  obtain ⟨rfl, hsz, hP, hKN, hD0⟩ := hv
  obtain ⟨hK, hN⟩ := hKN
  have hx := B.exec
  have hb := B.bytes
  have hr := B.returns
  have hts := atoms_spec (ws := wsL_game) B.pre
  have hown : s.vm.findClass RL = some m.cls := findClass_of_methodNamed B.named
  have hlocks := B.notSynchronized
  subst hsz
  have hD := hD0.self (sz := s.heap.size)
  generalize hAe : va_A [(h0, .inr (11, [.ref pt, .ref fa, .int 1, .ref pa, o1, .ref md, o2, o3, .ref rg, o4, .ref mk, o5, o6, o7, o8])), (fa, .inl (aC 4, 5, .inr (.inr (.inr (.inr ff))))), (s0, .inr (1, [b0, r0, .int 0])), (pt, .inr (0, [w, .int mny, .int 0])), (mk, .inr (6, [k1, k2])), (pa, .inr (1, [.ref pb, pr, .int pm])), (pb, .inl (aC 0, 128, .inl pf)), (rg, .inr (4, [g1, g2, g3, g4, .ref wi])), (wi, .inl (aC 2, 256, .inr (.inl wf))), (ot, .inr (12, [.long nv, sv]))] s.heap.size = A at hD ⊢
  have hA : ∀ q : Nat, s.heap.size ≤ q → A q := fun q h => by rw [← hAe]; exact Or.inr h
  have hS : va_S A s.heap s.heap [] := va_S.rf
  have hP : va_P (dC, dI) rfCl [(h0, .inr (11, [.ref pt, .ref fa, .int 1, .ref pa, o1, .ref md, o2, o3, .ref rg, o4, .ref mk, o5, o6, o7, o8])), (fa, .inl (aC 4, 5, .inr (.inr (.inr (.inr ff))))), (s0, .inr (1, [b0, r0, .int 0])), (pt, .inr (0, [w, .int mny, .int 0])), (mk, .inr (6, [k1, k2])), (pa, .inr (1, [.ref pb, pr, .int pm])), (pb, .inl (aC 0, 128, .inl pf)), (rg, .inr (4, [g1, g2, g3, g4, .ref wi])), (wi, .inl (aC 2, 256, .inr (.inl wf))), (ot, .inr (12, [.long nv, sv]))] s.heap := hP
  have hl := lv_entry ([.ref h0, .int 0, .ref ot]) (n := 4) (Nat.le_of_ble_eq_true rfl)
  rw [lg_entry_eq]
  generalize (lg_sl ([.ref h0, .int 0, .ref ot]) ++ List.replicate (4 - (lg_sl ([.ref h0, .int 0, .ref ot])).length) Slot.unset).toArray = ls at hl ⊢
  have hl : lv_has ls 4 [(0, .ref h0), (1, .int 0), (2, .ref ot)] := hl
  refine lv_aload_n hx hb dL_game_0 rfl (lv_at hl 2 rfl) ?_
  refine lv_aload_n hx hb dL_game_1 rfl (lv_at hl 0 rfl) ?_
  refine lv_iload_n hx hb dL_game_2 rfl (lv_at hl 1 rfl) ?_
  have hPc := hP.sub (ws' := [(h0, .inr (11, [.ref pt, .ref fa, .int 1, .ref pa, o1, .ref md, o2, o3, .ref rg, o4, .ref mk, o5, o6, o7, o8])), (fa, .inl (aC 4, 5, .inr (.inr (.inr (.inr ff))))), (s0, .inr (1, [b0, r0, .int 0])), (pt, .inr (0, [w, .int mny, .int 0])), (mk, .inr (6, [k1, k2])), (pa, .inr (1, [.ref pb, pr, .int pm])), (pb, .inl (aC 0, 128, .inl pf)), (rg, .inr (4, [g1, g2, g3, g4, .ref wi])), (wi, .inl (aC 2, 256, .inr (.inl wf)))]) [0, 1, 2, 3, 4, 5, 6, 7, 8] rfl
  have hDc := hD.sub (ws' := [(h0, .inr (11, [.ref pt, .ref fa, .int 1, .ref pa, o1, .ref md, o2, o3, .ref rg, o4, .ref mk, o5, o6, o7, o8])), (fa, .inl (aC 4, 5, .inr (.inr (.inr (.inr ff))))), (s0, .inr (1, [b0, r0, .int 0])), (pt, .inr (0, [w, .int mny, .int 0])), (mk, .inr (6, [k1, k2])), (pa, .inr (1, [.ref pb, pr, .int pm])), (pb, .inl (aC 0, 128, .inl pf)), (rg, .inr (4, [g1, g2, g3, g4, .ref wi])), (wi, .inl (aC 2, 256, .inr (.inl wf)))]) [0, 1, 2, 3, 4, 5, 6, 7, 8] (by decide) rfl
  have hFc := va_free (wc := [(h0, .inr (11, [.ref pt, .ref fa, .int 1, .ref pa, o1, .ref md, o2, o3, .ref rg, o4, .ref mk, o5, o6, o7, o8])), (fa, .inl (aC 4, 5, .inr (.inr (.inr (.inr ff))))), (s0, .inr (1, [b0, r0, .int 0])), (pt, .inr (0, [w, .int mny, .int 0])), (mk, .inr (6, [k1, k2])), (pa, .inr (1, [.ref pb, pr, .int pm])), (pb, .inl (aC 0, 128, .inl pf)), (rg, .inr (4, [g1, g2, g3, g4, .ref wi])), (wi, .inl (aC 2, 256, .inr (.inl wf)))]) hD hS hA [0, 1, 2, 3, 4, 5, 6, 7, 8] rfl
  refine va_calli (va_runV (As := [.int 0]) (rest := [.ref ot]) ⟨hx, hb, hml, hown, hts⟩ (c_X11_game l dC dI aC s.heap.size h0 pt fa pa md rg mk o1 o2 o3 o4 o5 o6 o7 o8 ff s0 b0 r0 w mny k1 k2 pb pr pf pm g1 g2 g3 g4 wi wf hf) (cwV 1 hts gL_game_X11_game rfl rfl rfl (by decide +kernel) ⟨Nat.le_of_ble_eq_true rfl, Nat.le_of_ble_eq_true rfl⟩) (rf_pv hK hN hPc hDc (va_recv hK hP (ci := 11) (q0 := 0) rfl rfl)) rfl rfl hl.1 rfl (lv_room (Nat.le_of_ble_eq_true rfl)) dL_game_3 ⟨Nat.le_of_ble_eq_true rfl, Nat.le_of_ble_eq_true rfl⟩) hS (fun q _ h => hFc q h) hFc (fun r2 u1 t H1 locs ht hvm hwu1 hB hz1 hk1 hS => ?_)
  obtain ⟨hP1, hD1⟩ := hB
  rw [ht] at hP1
  try dsimp only at hwu1 hP1 hD1
  obtain ⟨hP, hD⟩ := va_join (wr := [(ot, .inr (12, [.long nv, sv]))]) (w1 := [(h0, .inr (11, [.ref pt, .ref fa, .int 1, .ref pa, o1, .ref md, o2, o3, .ref rg, o4, .ref mk, o5, o6, o7, o8])), (fa, .inl (aC 4, 5, .inr (.inr (.inr (.inr ff))))), (s0, .inr (1, [b0, r0, .int 0])), (pt, .inr (0, [w, .int mny, .int 0])), (mk, .inr (6, [k1, k2])), (pa, .inr (1, [.ref pb, pr, .int 0])), (pb, .inl (aC 0, 128, .inl u1.1)), (rg, .inr (4, [g1, g2, g3, g4, .ref wi])), (wi, .inl (aC 2, 256, .inr (.inl u1.2)))]) hP hD [0, 1, 2, 3, 4, 5, 6, 7, 8] [9] rfl rfl (by decide) (by decide) hk1 hFc hP1 hD1
  clear hP1 hD1 hPc hDc hFc
  generalize H1 = H at hP hS ⊢
  have hP : va_P (dC, dI) rfCl [(ot, .inr (12, [.long nv, sv])), (h0, .inr (11, [.ref pt, .ref fa, .int 1, .ref pa, o1, .ref md, o2, o3, .ref rg, o4, .ref mk, o5, o6, o7, o8])), (fa, .inl (aC 4, 5, .inr (.inr (.inr (.inr ff))))), (s0, .inr (1, [b0, r0, .int 0])), (pt, .inr (0, [w, .int mny, .int 0])), (mk, .inr (6, [k1, k2])), (pa, .inr (1, [.ref pb, pr, .int 0])), (pb, .inl (aC 0, 128, .inl u1.1)), (rg, .inr (4, [g1, g2, g3, g4, .ref wi])), (wi, .inl (aC 2, 256, .inr (.inl u1.2)))] H := hP
  have hD : va_D A [(ot, .inr (12, [.long nv, sv])), (h0, .inr (11, [.ref pt, .ref fa, .int 1, .ref pa, o1, .ref md, o2, o3, .ref rg, o4, .ref mk, o5, o6, o7, o8])), (fa, .inl (aC 4, 5, .inr (.inr (.inr (.inr ff))))), (s0, .inr (1, [b0, r0, .int 0])), (pt, .inr (0, [w, .int mny, .int 0])), (mk, .inr (6, [k1, k2])), (pa, .inr (1, [.ref pb, pr, .int 0])), (pb, .inl (aC 0, 128, .inl u1.1)), (rg, .inr (4, [g1, g2, g3, g4, .ref wi])), (wi, .inl (aC 2, 256, .inr (.inl u1.2)))] := hD
  refine W.widen (k := 0) (n := 0) (Nat.le_of_ble_eq_true rfl) (Nat.le_of_ble_eq_true rfl) ?_
  refine lv_i2l (v := (r2).toInt64) hx hb dL_game_6 rfl ?_
  refine va_putN (D := (dC, dI)) (ci := 12) (v := .long ((r2).toInt64)) (ty := .long) (host := RL) (ref := RX12) (C := RX12) (T := TX12) (N := 2) hx hb hts (by decide +kernel) tyX12 tyX12_ok nmX12 hown hK hP hD hS 0 rfl rfl 0 (by decide) (va_Nw.use rfl hN.2.2.2.2.2.2) (fun _ h9 => h9) rfl (by decide +kernel) rfl rfl (Nat.le_of_ble_eq_true rfl) dL_game_7 (fun H locs hP hD hS => ?_)
  have hP : va_P (dC, dI) rfCl [(ot, .inr (12, [.long ((r2).toInt64), sv])), (h0, .inr (11, [.ref pt, .ref fa, .int 1, .ref pa, o1, .ref md, o2, o3, .ref rg, o4, .ref mk, o5, o6, o7, o8])), (fa, .inl (aC 4, 5, .inr (.inr (.inr (.inr ff))))), (s0, .inr (1, [b0, r0, .int 0])), (pt, .inr (0, [w, .int mny, .int 0])), (mk, .inr (6, [k1, k2])), (pa, .inr (1, [.ref pb, pr, .int 0])), (pb, .inl (aC 0, 128, .inl u1.1)), (rg, .inr (4, [g1, g2, g3, g4, .ref wi])), (wi, .inl (aC 2, 256, .inr (.inl u1.2)))] H := hP
  have hD : va_D A [(ot, .inr (12, [.long ((r2).toInt64), sv])), (h0, .inr (11, [.ref pt, .ref fa, .int 1, .ref pa, o1, .ref md, o2, o3, .ref rg, o4, .ref mk, o5, o6, o7, o8])), (fa, .inl (aC 4, 5, .inr (.inr (.inr (.inr ff))))), (s0, .inr (1, [b0, r0, .int 0])), (pt, .inr (0, [w, .int mny, .int 0])), (mk, .inr (6, [k1, k2])), (pa, .inr (1, [.ref pb, pr, .int 0])), (pb, .inl (aC 0, 128, .inl u1.1)), (rg, .inr (4, [g1, g2, g3, g4, .ref wi])), (wi, .inl (aC 2, 256, .inr (.inl u1.2)))] := hD
  refine lv_goto (tgt := 16) hx hb dL_game_10 (by decide) ?_
  refine lv_iconst (v := 0) hx hb dL_game_16 (by decide) ?_
  have hP9 := hP.sub (ws' := [(h0, .inr (11, [.ref pt, .ref fa, .int 1, .ref pa, o1, .ref md, o2, o3, .ref rg, o4, .ref mk, o5, o6, o7, o8])), (fa, .inl (aC 4, 5, .inr (.inr (.inr (.inr ff))))), (s0, .inr (1, [b0, r0, .int 0])), (pt, .inr (0, [w, .int mny, .int 0])), (mk, .inr (6, [k1, k2])), (pa, .inr (1, [.ref pb, pr, .int 0])), (pb, .inl (aC 0, 128, .inl u1.1)), (rg, .inr (4, [g1, g2, g3, g4, .ref wi])), (wi, .inl (aC 2, 256, .inr (.inl u1.2))), (ot, .inr (12, [.long ((r2).toInt64), sv]))]) [1, 2, 3, 4, 5, 6, 7, 8, 9, 0] rfl
  have hD9 := hD.sub (ws' := [(h0, .inr (11, [.ref pt, .ref fa, .int 1, .ref pa, o1, .ref md, o2, o3, .ref rg, o4, .ref mk, o5, o6, o7, o8])), (fa, .inl (aC 4, 5, .inr (.inr (.inr (.inr ff))))), (s0, .inr (1, [b0, r0, .int 0])), (pt, .inr (0, [w, .int mny, .int 0])), (mk, .inr (6, [k1, k2])), (pa, .inr (1, [.ref pb, pr, .int 0])), (pb, .inl (aC 0, 128, .inl u1.1)), (rg, .inr (4, [g1, g2, g3, g4, .ref wi])), (wi, .inl (aC 2, 256, .inr (.inl u1.2))), (ot, .inr (12, [.long ((r2).toInt64), sv]))]) [1, 2, 3, 4, 5, 6, 7, 8, 9, 0] (by decide) rfl
  refine W.widen (k := 0) (n := 0) (Nat.le_of_ble_eq_true rfl) (Nat.le_of_ble_eq_true rfl) ?_
  exact W.iret (v := 0) hx hb hr (fun t ht hW => ⟨⟨0, ((u1.1, u1.2), (r2).toInt64), rfl, rfl, by rw [ht]; exact hP9, hD9⟩, hS.F ht⟩) hS.2.2 dL_game_17
