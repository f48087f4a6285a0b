def rf_X (xs : Nat → Int32) : Prop := (xs 0 = 0 ∧ xs 1 = 7 ∧ xs 4 = 2 ∧ xs 5 = 0 ∧ xs 6 = 1 ∧ xs 8 = 2 ∧ xs 9 = 1 ∧ xs 10 = 1 ∧ xs 12 = 2 ∧ xs 13 = 2 ∧ xs 14 = 1 ∧ xs 16 = 2 ∧ xs 17 = 3 ∧ xs 18 = 1 ∧ xs 20 = 2 ∧ xs 21 = 4 ∧ xs 22 = 1 ∧ xs 24 = 2 ∧ xs 25 = 5 ∧ xs 26 = 1 ∧ xs 28 = 2 ∧ xs 29 = 6 ∧ xs 30 = 1 ∧ xs 32 = 3) ∧ ∀ j, j < 446 → xs (36 + 4 * j) = 22 ∧ xs (37 + 4 * j) = 0
set_option maxHeartbeats 100000000 in
set_option maxRecDepth 100000 in
theorem rf_law {p : Program} {e : Env} {s : State} {m : MethodId} {below : List Frame} {meth : Method} {c : Code} (l : Launch) (dC : Nat → ClassId) (dI : Nat → Nat → Nat) (aC : Nat → ClassId) (b ev : Nat) (ef : Nat → Option Nat) (xs : Nat → Int32) (hx : p.tables.exec = Jvm.exec) (hb : c.code = code) (hr : meth.sig.returnType = some .boolean) (hml : c.maxLocals = 8) (hown : s.vm.findClass RL = some m.cls) (hts : ∀ w ∈ lw_tbl, w.before (([Value.ref b] : List Value).toArray) s = true) (hX : va_X b 1820 xs s s.heap) (hbl : b < s.heap.size) (hbe : b ≠ ev) (hlocks : meth.locks = false) (hK : va_K (dC, dI) rfCl (rfT aC) s) (hN : rf_N s) (hP : va_P (dC, dI) rfCl [(ev, .inl (aC 5, 0, .inr (.inr (.inr (.inr ef)))))] s.heap) (hZ : rf_ZV ev (fun q => s.heap.size ≤ q ∨ q = ev) s s.heap) (hxs : rf_X xs) : W p l e ({ frames := 100, cells := 3000, slots := 7371873, locals := 4000 } : Room) s m (([Value.ref b] : List Value).toArray) below meth c s.heap [] 0 0 (MQ below rf_Q (([Value.ref b] : List Value).toArray) s 3000 7371873 (fun _ => True)) (entryFrame m (([Value.ref b] : List Value).toArray) 8) := by
  obtain ⟨hX1, hX2⟩ := hxs
  obtain ⟨A, hAe⟩ : ∃ A : Nat → Prop, A = fun q => s.heap.size ≤ q ∨ q = ev := ⟨_, rfl⟩
  rw [← hAe] at hZ
  have hA : ∀ q : Nat, s.heap.size ≤ q → A q := fun q h => by rw [hAe]; exact Or.inl h
  have hbA : ¬ A b := fun h => by rw [hAe] at h; exact h.elim (fun h => by omega) (fun h => hbe h)
  have hS : va_S A s.heap s.heap [] := va_S.rf
  have hD : va_D A [(ev, .inl (aC 5, 0, .inr (.inr (.inr (.inr ef)))))] := rf_D1 (by rw [hAe]; exact Or.inr rfl)
  have hl := lv_entry ([.ref b]) (n := 8) (Nat.le_of_ble_eq_true rfl)
  rw [lg_entry_eq]
  generalize (lg_sl ([.ref b]) ++ List.replicate (8 - (lg_sl ([.ref b])).length) Slot.unset).toArray = ls at hl ⊢
  have hl : lv_has ls 8 [(0, .ref b)] := hl
  refine va_new (ci := 11) (fs := [.null, .null, .int 0, .null, .null, .null, .null, .null, .null, .null, .null, .null, .null, .null, .null]) (C := RX11) (T := TX11) (N := 15) hx hb hts m_wsX110 tyX11 tyX11_ok hown (hts _ lwp_167) (hts _ lwp_168) (hts _ lwp_129) hK hP hD hS hA rfl (fun j hj => by rcases (show j = 0 ∨ j = 1 ∨ j = 2 ∨ j = 3 ∨ j = 4 ∨ j = 5 ∨ j = 6 ∨ j = 7 ∨ j = 8 ∨ j = 9 ∨ j = 10 ∨ j = 11 ∨ j = 12 ∨ j = 13 ∨ j = 14 by omega) with rfl | rfl | rfl | rfl | rfl | rfl | rfl | rfl | rfl | rfl | rfl | rfl | rfl | rfl | rfl <;> rfl) (Nat.le_of_ble_eq_true rfl) (Nat.le_of_ble_eq_true rfl) dL_law_0 (fun q1 H hP hD hS => ?_)
  have hP : va_P (dC, dI) rfCl [(ev, .inl (aC 5, 0, .inr (.inr (.inr (.inr ef))))), (q1, .inr (11, [.null, .null, .int 0, .null, .null, .null, .null, .null, .null, .null, .null, .null, .null, .null, .null]))] H := hP
  have hD : va_D A [(ev, .inl (aC 5, 0, .inr (.inr (.inr (.inr ef))))), (q1, .inr (11, [.null, .null, .int 0, .null, .null, .null, .null, .null, .null, .null, .null, .null, .null, .null, .null]))] := hD
  refine W.widen (k := 1) (n := 15) (by omega) (by omega) ?_
  refine lv_dup hx hb dL_law_3 rfl ?_
  have hPc := hP.sub (ws' := [(q1, .inr (11, [.null, .null, .int 0, .null, .null, .null, .null, .null, .null, .null, .null, .null, .null, .null, .null]))]) [1] rfl
  have hDc := hD.sub (ws' := [(q1, .inr (11, [.null, .null, .int 0, .null, .null, .null, .null, .null, .null, .null, .null, .null, .null, .null, .null]))]) [1] (by decide) rfl
  have hFc := va_free (wc := [(q1, .inr (11, [.null, .null, .int 0, .null, .null, .null, .null, .null, .null, .null, .null, .null, .null, .null, .null]))]) hD hS hA [1] rfl
  refine va_callv (va_runI (As := []) (rest := [.ref q1]) ⟨hx, hb, hml, hown, hts⟩ (c_X11_init l dC dI aC H.size q1) (cwI 0 hts gT_X11_init rfl rfl rfl (hts _ lwp_129) (hts _ lwp_169) (hts _ lwp_170) rfl (by decide +kernel) ⟨Nat.le_of_ble_eq_true rfl, Nat.le_of_ble_eq_true rfl⟩) (rf_ps hK hN hPc hDc) rfl rfl hl.1 rfl (lv_room (Nat.le_of_ble_eq_true rfl)) dL_law_4 ⟨(by show 1 + 92 ≤ 3000; omega), (by show 15 + 5959 ≤ 7371873; omega)⟩) hS (fun q _ h => hFc q h) hFc (fun u2 t H1 locs ht hvm hwu2 hB hz1 hk1 hS => ?_)
  obtain ⟨hP1, hD1⟩ := hB
  rw [ht] at hP1
  try dsimp only at hwu2 hP1 hD1
  obtain ⟨hP, hD⟩ := va_join (wr := [(ev, .inl (aC 5, 0, .inr (.inr (.inr (.inr ef)))))]) (w1 := [(q1, .inr (11, [.ref (u2.1 0), .ref (u2.1 1), .int 0, .ref (u2.1 2), .ref (u2.1 21), .ref (u2.1 3), .ref (u2.1 22), .ref (u2.1 23), .ref (u2.1 4), .ref (u2.1 24), .ref (u2.1 5), .ref (u2.1 25), .ref (u2.1 26), .ref (u2.1 27), .ref (u2.1 28)])), ((u2.1 0), .inr (0, [.ref (u2.1 6), .int 4, .int 15])), ((u2.1 6), .inl (aC 1, 7, .inl (u2.2.1))), ((u2.1 1), .inl (aC 4, 5, .inr (.inr (.inr (.inr (u2.2.2)))))), ((u2.1 7), .inr (1, [.ref (u2.1 8), .ref (u2.1 9), .int 0])), ((u2.1 8), .inl (aC 0, 128, .inl (fun _ => 0))), ((u2.1 2), .inr (1, [.ref (u2.1 10), .ref (u2.1 11), .int 0])), ((u2.1 10), .inl (aC 0, 128, .inl (fun _ => 0))), ((u2.1 3), .inr (1, [.ref (u2.1 12), .ref (u2.1 13), .int 0])), ((u2.1 12), .inl (aC 0, 128, .inl (fun _ => 0))), ((u2.1 5), .inr (6, [.ref (u2.1 15), .ref (u2.1 16)])), ((u2.1 4), .inr (4, [.ref (u2.1 17), .ref (u2.1 18), .ref (u2.1 19), .ref (u2.1 20), .ref (u2.1 14)])), ((u2.1 14), .inl (aC 2, 256, .inr (.inl (fun _ => 0))))]) hP hD [1] [0] rfl rfl (by decide) (by decide) hk1 hFc hP1 hD1
  clear hP1 hD1 hPc hDc hFc hk1 hz1
  generalize H1 = H at hP hS ⊢
  have hP : va_P (dC, dI) rfCl [(ev, .inl (aC 5, 0, .inr (.inr (.inr (.inr ef))))), (q1, .inr (11, [.ref (u2.1 0), .ref (u2.1 1), .int 0, .ref (u2.1 2), .ref (u2.1 21), .ref (u2.1 3), .ref (u2.1 22), .ref (u2.1 23), .ref (u2.1 4), .ref (u2.1 24), .ref (u2.1 5), .ref (u2.1 25), .ref (u2.1 26), .ref (u2.1 27), .ref (u2.1 28)])), ((u2.1 0), .inr (0, [.ref (u2.1 6), .int 4, .int 15])), ((u2.1 6), .inl (aC 1, 7, .inl (u2.2.1))), ((u2.1 1), .inl (aC 4, 5, .inr (.inr (.inr (.inr (u2.2.2)))))), ((u2.1 7), .inr (1, [.ref (u2.1 8), .ref (u2.1 9), .int 0])), ((u2.1 8), .inl (aC 0, 128, .inl (fun _ => 0))), ((u2.1 2), .inr (1, [.ref (u2.1 10), .ref (u2.1 11), .int 0])), ((u2.1 10), .inl (aC 0, 128, .inl (fun _ => 0))), ((u2.1 3), .inr (1, [.ref (u2.1 12), .ref (u2.1 13), .int 0])), ((u2.1 12), .inl (aC 0, 128, .inl (fun _ => 0))), ((u2.1 5), .inr (6, [.ref (u2.1 15), .ref (u2.1 16)])), ((u2.1 4), .inr (4, [.ref (u2.1 17), .ref (u2.1 18), .ref (u2.1 19), .ref (u2.1 20), .ref (u2.1 14)])), ((u2.1 14), .inl (aC 2, 256, .inr (.inl (fun _ => 0))))] H := hP
  have hD : va_D A [(ev, .inl (aC 5, 0, .inr (.inr (.inr (.inr ef))))), (q1, .inr (11, [.ref (u2.1 0), .ref (u2.1 1), .int 0, .ref (u2.1 2), .ref (u2.1 21), .ref (u2.1 3), .ref (u2.1 22), .ref (u2.1 23), .ref (u2.1 4), .ref (u2.1 24), .ref (u2.1 5), .ref (u2.1 25), .ref (u2.1 26), .ref (u2.1 27), .ref (u2.1 28)])), ((u2.1 0), .inr (0, [.ref (u2.1 6), .int 4, .int 15])), ((u2.1 6), .inl (aC 1, 7, .inl (u2.2.1))), ((u2.1 1), .inl (aC 4, 5, .inr (.inr (.inr (.inr (u2.2.2)))))), ((u2.1 7), .inr (1, [.ref (u2.1 8), .ref (u2.1 9), .int 0])), ((u2.1 8), .inl (aC 0, 128, .inl (fun _ => 0))), ((u2.1 2), .inr (1, [.ref (u2.1 10), .ref (u2.1 11), .int 0])), ((u2.1 10), .inl (aC 0, 128, .inl (fun _ => 0))), ((u2.1 3), .inr (1, [.ref (u2.1 12), .ref (u2.1 13), .int 0])), ((u2.1 12), .inl (aC 0, 128, .inl (fun _ => 0))), ((u2.1 5), .inr (6, [.ref (u2.1 15), .ref (u2.1 16)])), ((u2.1 4), .inr (4, [.ref (u2.1 17), .ref (u2.1 18), .ref (u2.1 19), .ref (u2.1 20), .ref (u2.1 14)])), ((u2.1 14), .inl (aC 2, 256, .inr (.inl (fun _ => 0))))] := hD
  refine W.widen (k := 93) (n := 5974) (by omega) (by omega) ?_
  have hff := hwu2
  obtain ⟨ua, uw, uf⟩ := u2
  dsimp only at hP hD hff
  generalize ua 0 = pt at hP hD hff
  generalize ua 1 = fa at hP hD hff
  generalize ua 2 = pa at hP hD hff
  generalize ua 3 = md at hP hD hff
  generalize ua 4 = rg at hP hD hff
  generalize ua 5 = mk at hP hD hff
  generalize ua 6 = w at hP hD hff
  generalize ua 7 = s0 at hP hD hff
  generalize ua 8 = b0 at hP hD hff
  generalize ua 9 = r0 at hP hD hff
  generalize ua 10 = pb at hP hD hff
  generalize ua 11 = pr at hP hD hff
  generalize ua 12 = mb at hP hD hff
  generalize ua 13 = mr at hP hD hff
  generalize ua 14 = wi at hP hD hff
  generalize ua 15 = k1 at hP hD hff
  generalize ua 16 = k2 at hP hD hff
  generalize ua 17 = g1 at hP hD hff
  generalize ua 18 = g2 at hP hD hff
  generalize ua 19 = g3 at hP hD hff
  generalize ua 20 = g4 at hP hD hff
  generalize ua 21 = o1 at hP hD hff
  generalize ua 22 = o2 at hP hD hff
  generalize ua 23 = o3 at hP hD hff
  generalize ua 24 = o4 at hP hD hff
  generalize ua 25 = o5 at hP hD hff
  generalize ua 26 = o6 at hP hD hff
  generalize ua 27 = o7 at hP hD hff
  generalize ua 28 = o8 at hP hD hff
  have hP : va_P (dC, dI) rfCl [(ev, .inl (aC 5, 0, .inr (.inr (.inr (.inr ef))))), (q1, .inr (11, [.ref pt, .ref fa, .int 0, .ref pa, .ref o1, .ref md, .ref o2, .ref o3, .ref rg, .ref o4, .ref mk, .ref o5, .ref o6, .ref o7, .ref o8])), (pt, .inr (0, [.ref w, .int 4, .int 15])), (w, .inl (aC 1, 7, .inl uw)), (fa, .inl (aC 4, 5, .inr (.inr (.inr (.inr uf))))), (s0, .inr (1, [.ref b0, .ref r0, .int 0])), (b0, .inl (aC 0, 128, .inl (fun _ => 0))), (pa, .inr (1, [.ref pb, .ref pr, .int 0])), (pb, .inl (aC 0, 128, .inl (fun _ => 0))), (md, .inr (1, [.ref mb, .ref mr, .int 0])), (mb, .inl (aC 0, 128, .inl (fun _ => 0))), (mk, .inr (6, [.ref k1, .ref k2])), (rg, .inr (4, [.ref g1, .ref g2, .ref g3, .ref g4, .ref wi])), (wi, .inl (aC 2, 256, .inr (.inl (fun _ => 0))))] H := hP
  have hD : va_D A [(ev, .inl (aC 5, 0, .inr (.inr (.inr (.inr ef))))), (q1, .inr (11, [.ref pt, .ref fa, .int 0, .ref pa, .ref o1, .ref md, .ref o2, .ref o3, .ref rg, .ref o4, .ref mk, .ref o5, .ref o6, .ref o7, .ref o8])), (pt, .inr (0, [.ref w, .int 4, .int 15])), (w, .inl (aC 1, 7, .inl uw)), (fa, .inl (aC 4, 5, .inr (.inr (.inr (.inr uf))))), (s0, .inr (1, [.ref b0, .ref r0, .int 0])), (b0, .inl (aC 0, 128, .inl (fun _ => 0))), (pa, .inr (1, [.ref pb, .ref pr, .int 0])), (pb, .inl (aC 0, 128, .inl (fun _ => 0))), (md, .inr (1, [.ref mb, .ref mr, .int 0])), (mb, .inl (aC 0, 128, .inl (fun _ => 0))), (mk, .inr (6, [.ref k1, .ref k2])), (rg, .inr (4, [.ref g1, .ref g2, .ref g3, .ref g4, .ref wi])), (wi, .inl (aC 2, 256, .inr (.inl (fun _ => 0))))] := hD
  refine lv_astore_n (lv' := [(1, .ref q1), (0, .ref b)]) hx hb dL_law_7 rfl hl (by decide) rfl (fun ls hl => ?_)
  refine va_new (ci := 14) (fs := [.int 0, .int 0, .null, .int 0, .null, .null, .null, .null, .long 0]) (C := RX14) (T := TX14) (N := 9) hx hb hts m_wsX140 tyX14 tyX14_ok hown (hts _ lwp_1926) (hts _ lwp_1927) (hts _ lwp_141) hK hP hD hS hA rfl (fun j hj => by rcases (show j = 0 ∨ j = 1 ∨ j = 2 ∨ j = 3 ∨ j = 4 ∨ j = 5 ∨ j = 6 ∨ j = 7 ∨ j = 8 by omega) with rfl | rfl | rfl | rfl | rfl | rfl | rfl | rfl | rfl <;> rfl) (Nat.le_of_ble_eq_true rfl) (Nat.le_of_ble_eq_true rfl) dL_law_8 (fun q4 H hP hD hS => ?_)
  have hP : va_P (dC, dI) rfCl [(ev, .inl (aC 5, 0, .inr (.inr (.inr (.inr ef))))), (q1, .inr (11, [.ref pt, .ref fa, .int 0, .ref pa, .ref o1, .ref md, .ref o2, .ref o3, .ref rg, .ref o4, .ref mk, .ref o5, .ref o6, .ref o7, .ref o8])), (pt, .inr (0, [.ref w, .int 4, .int 15])), (w, .inl (aC 1, 7, .inl uw)), (fa, .inl (aC 4, 5, .inr (.inr (.inr (.inr uf))))), (s0, .inr (1, [.ref b0, .ref r0, .int 0])), (b0, .inl (aC 0, 128, .inl (fun _ => 0))), (pa, .inr (1, [.ref pb, .ref pr, .int 0])), (pb, .inl (aC 0, 128, .inl (fun _ => 0))), (md, .inr (1, [.ref mb, .ref mr, .int 0])), (mb, .inl (aC 0, 128, .inl (fun _ => 0))), (mk, .inr (6, [.ref k1, .ref k2])), (rg, .inr (4, [.ref g1, .ref g2, .ref g3, .ref g4, .ref wi])), (wi, .inl (aC 2, 256, .inr (.inl (fun _ => 0)))), (q4, .inr (14, [.int 0, .int 0, .null, .int 0, .null, .null, .null, .null, .long 0]))] H := hP
  have hD : va_D A [(ev, .inl (aC 5, 0, .inr (.inr (.inr (.inr ef))))), (q1, .inr (11, [.ref pt, .ref fa, .int 0, .ref pa, .ref o1, .ref md, .ref o2, .ref o3, .ref rg, .ref o4, .ref mk, .ref o5, .ref o6, .ref o7, .ref o8])), (pt, .inr (0, [.ref w, .int 4, .int 15])), (w, .inl (aC 1, 7, .inl uw)), (fa, .inl (aC 4, 5, .inr (.inr (.inr (.inr uf))))), (s0, .inr (1, [.ref b0, .ref r0, .int 0])), (b0, .inl (aC 0, 128, .inl (fun _ => 0))), (pa, .inr (1, [.ref pb, .ref pr, .int 0])), (pb, .inl (aC 0, 128, .inl (fun _ => 0))), (md, .inr (1, [.ref mb, .ref mr, .int 0])), (mb, .inl (aC 0, 128, .inl (fun _ => 0))), (mk, .inr (6, [.ref k1, .ref k2])), (rg, .inr (4, [.ref g1, .ref g2, .ref g3, .ref g4, .ref wi])), (wi, .inl (aC 2, 256, .inr (.inl (fun _ => 0)))), (q4, .inr (14, [.int 0, .int 0, .null, .int 0, .null, .null, .null, .null, .long 0]))] := hD
  refine W.widen (k := 94) (n := 5983) (by omega) (by omega) ?_
  refine lv_dup hx hb dL_law_11 rfl ?_
  have hPc := hP.sub (ws' := [(q4, .inr (14, [.int 0, .int 0, .null, .int 0, .null, .null, .null, .null, .long 0]))]) [14] rfl
  have hDc := hD.sub (ws' := [(q4, .inr (14, [.int 0, .int 0, .null, .int 0, .null, .null, .null, .null, .long 0]))]) [14] (by decide) rfl
  have hFc := va_free (wc := [(q4, .inr (14, [.int 0, .int 0, .null, .int 0, .null, .null, .null, .null, .long 0]))]) hD hS hA [14] rfl
  refine va_callv (va_runI (As := []) (rest := [.ref q4]) ⟨hx, hb, hml, hown, hts⟩ (c_X14_init l dC dI aC H.size ev q4) (cwI 0 hts gT_X14_init rfl rfl rfl (hts _ lwp_141) (hts _ lwp_1928) (hts _ lwp_1929) rfl (by decide +kernel) ⟨Nat.le_of_ble_eq_true rfl, Nat.le_of_ble_eq_true rfl⟩) (rf_psZ hK hN hPc hDc hZ hS hFc) rfl rfl hl.1 rfl (lv_room (Nat.le_of_ble_eq_true rfl)) dL_law_12 ⟨(by show 94 + 5 ≤ 3000; omega), (by show 5983 + 391 ≤ 7371873; omega)⟩) hS (fun q _ h => hFc q h) hFc (fun u5 t H1 locs ht hvm hwu5 hB hz1 hk1 hS => ?_)
  obtain ⟨hP1, hD1⟩ := hB
  rw [ht] at hP1
  try dsimp only at hwu5 hP1 hD1
  obtain ⟨hP, hD⟩ := va_join (wr := [(ev, .inl (aC 5, 0, .inr (.inr (.inr (.inr ef))))), (q1, .inr (11, [.ref pt, .ref fa, .int 0, .ref pa, .ref o1, .ref md, .ref o2, .ref o3, .ref rg, .ref o4, .ref mk, .ref o5, .ref o6, .ref o7, .ref o8])), (pt, .inr (0, [.ref w, .int 4, .int 15])), (w, .inl (aC 1, 7, .inl uw)), (fa, .inl (aC 4, 5, .inr (.inr (.inr (.inr uf))))), (s0, .inr (1, [.ref b0, .ref r0, .int 0])), (b0, .inl (aC 0, 128, .inl (fun _ => 0))), (pa, .inr (1, [.ref pb, .ref pr, .int 0])), (pb, .inl (aC 0, 128, .inl (fun _ => 0))), (md, .inr (1, [.ref mb, .ref mr, .int 0])), (mb, .inl (aC 0, 128, .inl (fun _ => 0))), (mk, .inr (6, [.ref k1, .ref k2])), (rg, .inr (4, [.ref g1, .ref g2, .ref g3, .ref g4, .ref wi])), (wi, .inl (aC 2, 256, .inr (.inl (fun _ => 0))))]) (w1 := [(q4, .inr (14, [.int 0, .int 4, .ref (u5 0), .int 0, .ref (u5 1), .ref (u5 2), .ref (u5 3), .ref (u5 4), .long 0])), ((u5 1), .inr (13, [.int 0, .ref ev, .int 0]))]) hP hD [14] [0, 1, 2, 3, 4, 5, 6, 7, 8, 9, 10, 11, 12, 13] rfl rfl (by decide) (by decide) hk1 hFc hP1 hD1
  clear hP1 hD1 hPc hDc hFc hk1 hz1
  generalize H1 = H at hP hS ⊢
  have hP : va_P (dC, dI) rfCl [(ev, .inl (aC 5, 0, .inr (.inr (.inr (.inr ef))))), (q1, .inr (11, [.ref pt, .ref fa, .int 0, .ref pa, .ref o1, .ref md, .ref o2, .ref o3, .ref rg, .ref o4, .ref mk, .ref o5, .ref o6, .ref o7, .ref o8])), (pt, .inr (0, [.ref w, .int 4, .int 15])), (w, .inl (aC 1, 7, .inl uw)), (fa, .inl (aC 4, 5, .inr (.inr (.inr (.inr uf))))), (s0, .inr (1, [.ref b0, .ref r0, .int 0])), (b0, .inl (aC 0, 128, .inl (fun _ => 0))), (pa, .inr (1, [.ref pb, .ref pr, .int 0])), (pb, .inl (aC 0, 128, .inl (fun _ => 0))), (md, .inr (1, [.ref mb, .ref mr, .int 0])), (mb, .inl (aC 0, 128, .inl (fun _ => 0))), (mk, .inr (6, [.ref k1, .ref k2])), (rg, .inr (4, [.ref g1, .ref g2, .ref g3, .ref g4, .ref wi])), (wi, .inl (aC 2, 256, .inr (.inl (fun _ => 0)))), (q4, .inr (14, [.int 0, .int 4, .ref (u5 0), .int 0, .ref (u5 1), .ref (u5 2), .ref (u5 3), .ref (u5 4), .long 0])), ((u5 1), .inr (13, [.int 0, .ref ev, .int 0]))] H := hP
  have hD : va_D A [(ev, .inl (aC 5, 0, .inr (.inr (.inr (.inr ef))))), (q1, .inr (11, [.ref pt, .ref fa, .int 0, .ref pa, .ref o1, .ref md, .ref o2, .ref o3, .ref rg, .ref o4, .ref mk, .ref o5, .ref o6, .ref o7, .ref o8])), (pt, .inr (0, [.ref w, .int 4, .int 15])), (w, .inl (aC 1, 7, .inl uw)), (fa, .inl (aC 4, 5, .inr (.inr (.inr (.inr uf))))), (s0, .inr (1, [.ref b0, .ref r0, .int 0])), (b0, .inl (aC 0, 128, .inl (fun _ => 0))), (pa, .inr (1, [.ref pb, .ref pr, .int 0])), (pb, .inl (aC 0, 128, .inl (fun _ => 0))), (md, .inr (1, [.ref mb, .ref mr, .int 0])), (mb, .inl (aC 0, 128, .inl (fun _ => 0))), (mk, .inr (6, [.ref k1, .ref k2])), (rg, .inr (4, [.ref g1, .ref g2, .ref g3, .ref g4, .ref wi])), (wi, .inl (aC 2, 256, .inr (.inl (fun _ => 0)))), (q4, .inr (14, [.int 0, .int 4, .ref (u5 0), .int 0, .ref (u5 1), .ref (u5 2), .ref (u5 3), .ref (u5 4), .long 0])), ((u5 1), .inr (13, [.int 0, .ref ev, .int 0]))] := hD
  refine W.widen (k := 99) (n := 6374) (by omega) (by omega) ?_
  generalize u5 0 = wt at hP hD
  generalize u5 1 = li at hP hD
  generalize u5 2 = sc at hP hD
  generalize u5 3 = lo at hP hD
  generalize u5 4 = hi at hP hD
  have hP : va_P (dC, dI) rfCl [(ev, .inl (aC 5, 0, .inr (.inr (.inr (.inr ef))))), (q1, .inr (11, [.ref pt, .ref fa, .int 0, .ref pa, .ref o1, .ref md, .ref o2, .ref o3, .ref rg, .ref o4, .ref mk, .ref o5, .ref o6, .ref o7, .ref o8])), (pt, .inr (0, [.ref w, .int 4, .int 15])), (w, .inl (aC 1, 7, .inl uw)), (fa, .inl (aC 4, 5, .inr (.inr (.inr (.inr uf))))), (s0, .inr (1, [.ref b0, .ref r0, .int 0])), (b0, .inl (aC 0, 128, .inl (fun _ => 0))), (pa, .inr (1, [.ref pb, .ref pr, .int 0])), (pb, .inl (aC 0, 128, .inl (fun _ => 0))), (md, .inr (1, [.ref mb, .ref mr, .int 0])), (mb, .inl (aC 0, 128, .inl (fun _ => 0))), (mk, .inr (6, [.ref k1, .ref k2])), (rg, .inr (4, [.ref g1, .ref g2, .ref g3, .ref g4, .ref wi])), (wi, .inl (aC 2, 256, .inr (.inl (fun _ => 0)))), (q4, .inr (14, [.int 0, .int 4, .ref wt, .int 0, .ref li, .ref sc, .ref lo, .ref hi, .long 0])), (li, .inr (13, [.int 0, .ref ev, .int 0]))] H := hP
  have hD : va_D A [(ev, .inl (aC 5, 0, .inr (.inr (.inr (.inr ef))))), (q1, .inr (11, [.ref pt, .ref fa, .int 0, .ref pa, .ref o1, .ref md, .ref o2, .ref o3, .ref rg, .ref o4, .ref mk, .ref o5, .ref o6, .ref o7, .ref o8])), (pt, .inr (0, [.ref w, .int 4, .int 15])), (w, .inl (aC 1, 7, .inl uw)), (fa, .inl (aC 4, 5, .inr (.inr (.inr (.inr uf))))), (s0, .inr (1, [.ref b0, .ref r0, .int 0])), (b0, .inl (aC 0, 128, .inl (fun _ => 0))), (pa, .inr (1, [.ref pb, .ref pr, .int 0])), (pb, .inl (aC 0, 128, .inl (fun _ => 0))), (md, .inr (1, [.ref mb, .ref mr, .int 0])), (mb, .inl (aC 0, 128, .inl (fun _ => 0))), (mk, .inr (6, [.ref k1, .ref k2])), (rg, .inr (4, [.ref g1, .ref g2, .ref g3, .ref g4, .ref wi])), (wi, .inl (aC 2, 256, .inr (.inl (fun _ => 0)))), (q4, .inr (14, [.int 0, .int 4, .ref wt, .int 0, .ref li, .ref sc, .ref lo, .ref hi, .long 0])), (li, .inr (13, [.int 0, .ref ev, .int 0]))] := hD
  refine lv_astore_n (lv' := [(2, .ref q4), (1, .ref q1), (0, .ref b)]) hx hb dL_law_15 rfl hl (by decide) rfl (fun ls hl => ?_)
  refine va_new (ci := 12) (fs := [.long 0, .null]) (C := RX12) (T := TX12) (N := 2) hx hb hts m_wsX120 tyX12 tyX12_ok hown (hts _ lwp_1133) (hts _ lwp_1134) (hts _ lwp_145) hK hP hD hS hA rfl (fun j hj => by rcases (show j = 0 ∨ j = 1 by omega) with rfl | rfl <;> rfl) (Nat.le_of_ble_eq_true rfl) (Nat.le_of_ble_eq_true rfl) dL_law_16 (fun q7 H hP hD hS => ?_)
  have hP : va_P (dC, dI) rfCl [(ev, .inl (aC 5, 0, .inr (.inr (.inr (.inr ef))))), (q1, .inr (11, [.ref pt, .ref fa, .int 0, .ref pa, .ref o1, .ref md, .ref o2, .ref o3, .ref rg, .ref o4, .ref mk, .ref o5, .ref o6, .ref o7, .ref o8])), (pt, .inr (0, [.ref w, .int 4, .int 15])), (w, .inl (aC 1, 7, .inl uw)), (fa, .inl (aC 4, 5, .inr (.inr (.inr (.inr uf))))), (s0, .inr (1, [.ref b0, .ref r0, .int 0])), (b0, .inl (aC 0, 128, .inl (fun _ => 0))), (pa, .inr (1, [.ref pb, .ref pr, .int 0])), (pb, .inl (aC 0, 128, .inl (fun _ => 0))), (md, .inr (1, [.ref mb, .ref mr, .int 0])), (mb, .inl (aC 0, 128, .inl (fun _ => 0))), (mk, .inr (6, [.ref k1, .ref k2])), (rg, .inr (4, [.ref g1, .ref g2, .ref g3, .ref g4, .ref wi])), (wi, .inl (aC 2, 256, .inr (.inl (fun _ => 0)))), (q4, .inr (14, [.int 0, .int 4, .ref wt, .int 0, .ref li, .ref sc, .ref lo, .ref hi, .long 0])), (li, .inr (13, [.int 0, .ref ev, .int 0])), (q7, .inr (12, [.long 0, .null]))] H := hP
  have hD : va_D A [(ev, .inl (aC 5, 0, .inr (.inr (.inr (.inr ef))))), (q1, .inr (11, [.ref pt, .ref fa, .int 0, .ref pa, .ref o1, .ref md, .ref o2, .ref o3, .ref rg, .ref o4, .ref mk, .ref o5, .ref o6, .ref o7, .ref o8])), (pt, .inr (0, [.ref w, .int 4, .int 15])), (w, .inl (aC 1, 7, .inl uw)), (fa, .inl (aC 4, 5, .inr (.inr (.inr (.inr uf))))), (s0, .inr (1, [.ref b0, .ref r0, .int 0])), (b0, .inl (aC 0, 128, .inl (fun _ => 0))), (pa, .inr (1, [.ref pb, .ref pr, .int 0])), (pb, .inl (aC 0, 128, .inl (fun _ => 0))), (md, .inr (1, [.ref mb, .ref mr, .int 0])), (mb, .inl (aC 0, 128, .inl (fun _ => 0))), (mk, .inr (6, [.ref k1, .ref k2])), (rg, .inr (4, [.ref g1, .ref g2, .ref g3, .ref g4, .ref wi])), (wi, .inl (aC 2, 256, .inr (.inl (fun _ => 0)))), (q4, .inr (14, [.int 0, .int 4, .ref wt, .int 0, .ref li, .ref sc, .ref lo, .ref hi, .long 0])), (li, .inr (13, [.int 0, .ref ev, .int 0])), (q7, .inr (12, [.long 0, .null]))] := hD
  refine W.widen (k := 100) (n := 6376) (by omega) (by omega) ?_
  refine lv_dup hx hb dL_law_19 rfl ?_
  have hPc := hP.sub (ws' := []) [] rfl
  have hDc := hD.sub (ws' := []) [] (by decide) rfl
  have hFc := va_free (wc := []) hD hS hA [] rfl
  refine va_csv (rf_cr (va_runIN (As := []) (rest := [.ref q7]) ⟨hx, hb, hml, hown, hts⟩ (c_X12_init l dC dI aC H.size q7) (⟨va_cnB 0 hts gT_X12_init rfl rfl rfl (rf_nst hN 15 (q := (RL, 166, yX12_init, "TransversaryLaw")) rfl) (hts _ lwp_145) (by decide +kernel) ⟨Nat.le_of_ble_eq_true rfl, Nat.le_of_ble_eq_true rfl⟩, rfl, (hts _ lwp_1136)⟩) (rf_ps hK hN hPc hDc) rfl rfl hl.1 rfl (lv_room (Nat.le_of_ble_eq_true rfl)) dL_law_20 ⟨(by show 100 + 0 ≤ 3000; omega), (by show 6376 + 0 ≤ 7371873; omega)⟩)) (fun _ => ?_)
  refine W.widen (k := 100) (n := 6376) (by omega) (by omega) ?_
  refine lv_astore_n (lv' := [(3, .ref q7), (2, .ref q4), (1, .ref q1), (0, .ref b)]) hx hb dL_law_23 rfl hl (by decide) rfl (fun ls hl => ?_)
  refine lv_iconst (v := 0) hx hb dL_law_24 (by decide) ?_
  refine lv_istore (lv' := [(4, .int 0), (3, .ref q7), (2, .ref q4), (1, .ref q1), (0, .ref b)]) hx hb dL_law_25 hl (by decide) rfl (fun ls hl => ?_)
  refine W.eq (g2 := F0 m 27 ls []) rfl ?_
  have hl : lv_has ls 8 [(4, .int (nI 0)), (0, .ref b), (1, .ref q1), (2, .ref q4), (3, .ref q7)] := lv_sub hl [0, 4, 3, 2, 1] rfl
  refine lv_iload hx hb dL_law_27 (lv_at hl 0 rfl) ?_
  refine lv_aload_n hx hb dL_law_29 rfl (lv_at hl 1 rfl) ?_
  refine va_slen hx hb hX hbl hbA hS dL_law_30 ?_
  refine lv_iconst (v := 4) hx hb dL_law_31 (by decide) ?_
  refine lv_isub hx hb dL_law_32 ?_
  refine lv_topi (fun t8 et8 => ?_)
  have hl9 : t8 = nI 1816 := by rw [et8]; decide
  subst hl9
  refine lv_icmp_gt (tgt := 2089) hx hb dL_law_33 (by decide) (fun c9 => absurd c9 (nI_nlt (by omega) (by decide))) (fun _ => ?_)
  refine lv_aload_n hx hb dL_law_36 rfl (lv_at hl 1 rfl) ?_
  refine lv_iload hx hb dL_law_37 (lv_at hl 0 rfl) ?_
  refine va_sld hx hb hX hbl hbA hS (vp_in_nI (n := 0) (by omega) (by decide)) dL_law_39 ?_
  refine W.eq (g2 := F0 m 40 ls [.int 0]) (by rw [nI_clamp (n := 0) (by omega), (show xs (0) = 0 from hX1.1)]) ?_
  refine lv_bipush (v := 63) hx hb dL_law_40 (by decide) ?_
  refine lv_iand hx hb dL_law_42 ?_
  refine lv_topi (fun t9 et9 => ?_)
  have hl9 : t9 = 0 := by rw [et9]; decide
  subst hl9
  refine lv_tableIn (off := 193) (tgt := 236) hx hb dL_law_43 (by decide) (by decide) (by decide) (by decide) ?_
  refine lv_aload_n hx hb dL_law_236 rfl (lv_at hl 2 rfl) ?_
  refine lv_aload_n hx hb dL_law_237 rfl (lv_at hl 1 rfl) ?_
  refine lv_iload hx hb dL_law_238 (lv_at hl 0 rfl) ?_
  refine lv_iconst (v := 1) hx hb dL_law_240 (by decide) ?_
  refine lv_iadd hx hb dL_law_241 ?_
  refine lv_topi (fun t10 et10 => ?_)
  have hl9 : t10 = nI (0 + 1) := et10.trans (nI_add (0) 1)
  subst hl9
  refine va_sld hx hb hX hbl hbA hS (vp_in_nI (n := 0 + 1) (by omega) (by decide)) dL_law_242 ?_
  refine W.eq (g2 := F0 m 243 ls [.int 7, .ref q1]) (by rw [nI_clamp (n := 0 + 1) (by omega), (show xs (0 + 1) = 7 from hX1.2.1)]) ?_
  refine lv_aload_n hx hb dL_law_243 rfl (lv_at hl 4 rfl) ?_
  have hPc := hP.sub (ws' := [(q1, .inr (11, [.ref pt, .ref fa, .int 0, .ref pa, .ref o1, .ref md, .ref o2, .ref o3, .ref rg, .ref o4, .ref mk, .ref o5, .ref o6, .ref o7, .ref o8])), (pt, .inr (0, [.ref w, .int 4, .int 15])), (w, .inl (aC 1, 7, .inl uw)), (q7, .inr (12, [.long 0, .null]))]) [1, 2, 3, 16] rfl
  have hDc := hD.sub (ws' := [(q1, .inr (11, [.ref pt, .ref fa, .int 0, .ref pa, .ref o1, .ref md, .ref o2, .ref o3, .ref rg, .ref o4, .ref mk, .ref o5, .ref o6, .ref o7, .ref o8])), (pt, .inr (0, [.ref w, .int 4, .int 15])), (w, .inl (aC 1, 7, .inl uw)), (q7, .inr (12, [.long 0, .null]))]) [1, 2, 3, 16] (by decide) rfl
  have hFc := va_free (wc := [(q1, .inr (11, [.ref pt, .ref fa, .int 0, .ref pa, .ref o1, .ref md, .ref o2, .ref o3, .ref rg, .ref o4, .ref mk, .ref o5, .ref o6, .ref o7, .ref o8])), (pt, .inr (0, [.ref w, .int 4, .int 15])), (w, .inl (aC 1, 7, .inl uw)), (q7, .inr (12, [.long 0, .null]))]) hD hS hA [1, 2, 3, 16] rfl
  refine va_calli (vx_runSW (As := [.ref q1, .int 7, .ref q7]) (rest := []) ⟨hx, hb, hml, hown, hts⟩ (c_L_ground l dC dI aC H.size q1 pt fa pa md rg mk (.ref o1) (.ref o2) (.ref o3) (.ref o4) (.ref o5) (.ref o6) (.ref o7) (.ref o8) 0 w uw 4 15 q7 0 .null) (vx_cwSW 3 hts gT_L_ground rfl rfl rfl (by decide +kernel) ⟨Nat.le_of_ble_eq_true rfl, Nat.le_of_ble_eq_true rfl⟩) (rf_ps hK hN hPc hDc) rfl rfl hl.1 rfl (lv_room (Nat.le_of_ble_eq_true rfl)) dL_law_244 ⟨(by show 100 + 0 ≤ 3000; omega), (by show 6376 + 0 ≤ 7371873; omega)⟩) hS (fun q _ h => hFc q h) hFc (fun r12 u11 t H1 locs ht hvm hwu11 hB hz1 hk1 hS => ?_)
  obtain ⟨hP1, hD1⟩ := hB
  rw [ht] at hP1
  try dsimp only at hwu11 hP1 hD1
  obtain ⟨hP, hD⟩ := va_join (wr := [(ev, .inl (aC 5, 0, .inr (.inr (.inr (.inr ef))))), (fa, .inl (aC 4, 5, .inr (.inr (.inr (.inr uf))))), (s0, .inr (1, [.ref b0, .ref r0, .int 0])), (b0, .inl (aC 0, 128, .inl (fun _ => 0))), (pa, .inr (1, [.ref pb, .ref pr, .int 0])), (pb, .inl (aC 0, 128, .inl (fun _ => 0))), (md, .inr (1, [.ref mb, .ref mr, .int 0])), (mb, .inl (aC 0, 128, .inl (fun _ => 0))), (mk, .inr (6, [.ref k1, .ref k2])), (rg, .inr (4, [.ref g1, .ref g2, .ref g3, .ref g4, .ref wi])), (wi, .inl (aC 2, 256, .inr (.inl (fun _ => 0)))), (q4, .inr (14, [.int 0, .int 4, .ref wt, .int 0, .ref li, .ref sc, .ref lo, .ref hi, .long 0])), (li, .inr (13, [.int 0, .ref ev, .int 0]))]) (w1 := [(q1, .inr (11, [.ref pt, .ref fa, .int 0, .ref pa, .ref o1, .ref md, .ref o2, .ref o3, .ref rg, .ref o4, .ref mk, .ref o5, .ref o6, .ref o7, .ref o8])), (pt, .inr (0, [.ref w, .int 7, .int 127])), (w, .inl (aC 1, 7, .inl u11)), (q7, .inr (12, [.long 128, .null]))]) hP hD [1, 2, 3, 16] [0, 4, 5, 6, 7, 8, 9, 10, 11, 12, 13, 14, 15] rfl rfl (by decide) (by decide) hk1 hFc hP1 hD1
  clear hP1 hD1 hPc hDc hFc hk1 hz1
  generalize H1 = H at hP hS ⊢
  have hP : va_P (dC, dI) rfCl [(ev, .inl (aC 5, 0, .inr (.inr (.inr (.inr ef))))), (fa, .inl (aC 4, 5, .inr (.inr (.inr (.inr uf))))), (s0, .inr (1, [.ref b0, .ref r0, .int 0])), (b0, .inl (aC 0, 128, .inl (fun _ => 0))), (pa, .inr (1, [.ref pb, .ref pr, .int 0])), (pb, .inl (aC 0, 128, .inl (fun _ => 0))), (md, .inr (1, [.ref mb, .ref mr, .int 0])), (mb, .inl (aC 0, 128, .inl (fun _ => 0))), (mk, .inr (6, [.ref k1, .ref k2])), (rg, .inr (4, [.ref g1, .ref g2, .ref g3, .ref g4, .ref wi])), (wi, .inl (aC 2, 256, .inr (.inl (fun _ => 0)))), (q4, .inr (14, [.int 0, .int 4, .ref wt, .int 0, .ref li, .ref sc, .ref lo, .ref hi, .long 0])), (li, .inr (13, [.int 0, .ref ev, .int 0])), (q1, .inr (11, [.ref pt, .ref fa, .int 0, .ref pa, .ref o1, .ref md, .ref o2, .ref o3, .ref rg, .ref o4, .ref mk, .ref o5, .ref o6, .ref o7, .ref o8])), (pt, .inr (0, [.ref w, .int 7, .int 127])), (w, .inl (aC 1, 7, .inl u11)), (q7, .inr (12, [.long 128, .null]))] H := hP
  have hD : va_D A [(ev, .inl (aC 5, 0, .inr (.inr (.inr (.inr ef))))), (fa, .inl (aC 4, 5, .inr (.inr (.inr (.inr uf))))), (s0, .inr (1, [.ref b0, .ref r0, .int 0])), (b0, .inl (aC 0, 128, .inl (fun _ => 0))), (pa, .inr (1, [.ref pb, .ref pr, .int 0])), (pb, .inl (aC 0, 128, .inl (fun _ => 0))), (md, .inr (1, [.ref mb, .ref mr, .int 0])), (mb, .inl (aC 0, 128, .inl (fun _ => 0))), (mk, .inr (6, [.ref k1, .ref k2])), (rg, .inr (4, [.ref g1, .ref g2, .ref g3, .ref g4, .ref wi])), (wi, .inl (aC 2, 256, .inr (.inl (fun _ => 0)))), (q4, .inr (14, [.int 0, .int 4, .ref wt, .int 0, .ref li, .ref sc, .ref lo, .ref hi, .long 0])), (li, .inr (13, [.int 0, .ref ev, .int 0])), (q1, .inr (11, [.ref pt, .ref fa, .int 0, .ref pa, .ref o1, .ref md, .ref o2, .ref o3, .ref rg, .ref o4, .ref mk, .ref o5, .ref o6, .ref o7, .ref o8])), (pt, .inr (0, [.ref w, .int 7, .int 127])), (w, .inl (aC 1, 7, .inl u11)), (q7, .inr (12, [.long 128, .null]))] := hD
  refine W.widen (k := 100) (n := 6376) (by omega) (by omega) ?_
  subst hwu11
  refine lv_istore (lv' := [(5, .int 0), (4, .int (nI 0)), (0, .ref b), (1, .ref q1), (2, .ref q4), (3, .ref q7)]) hx hb dL_law_247 hl (by decide) rfl (fun ls hl => ?_)
  refine lv_aload_n hx hb dL_law_249 rfl (lv_at hl 4 rfl) ?_
  refine lv_aload_n hx hb dL_law_250 rfl (lv_at hl 2 rfl) ?_
  refine lv_iload hx hb dL_law_251 (lv_at hl 1 rfl) ?_
  refine lv_iconst (v := 1) hx hb dL_law_253 (by decide) ?_
  refine lv_iadd hx hb dL_law_254 ?_
  refine lv_topi (fun t13 et13 => ?_)
  have hl9 : t13 = nI (0 + 1) := et13.trans (nI_add (0) 1)
  subst hl9
  refine va_sld hx hb hX hbl hbA hS (vp_in_nI (n := 0 + 1) (by omega) (by decide)) dL_law_255 ?_
  refine W.eq (g2 := F0 m 256 ls [.int 7, .ref q4]) (by rw [nI_clamp (n := 0 + 1) (by omega), (show xs (0 + 1) = 7 from hX1.2.1)]) ?_
  have hPc := hP.sub (ws' := [(q4, .inr (14, [.int 0, .int 4, .ref wt, .int 0, .ref li, .ref sc, .ref lo, .ref hi, .long 0])), (li, .inr (13, [.int 0, .ref ev, .int 0]))]) [11, 12] rfl
  have hDc := hD.sub (ws' := [(q4, .inr (14, [.int 0, .int 4, .ref wt, .int 0, .ref li, .ref sc, .ref lo, .ref hi, .long 0])), (li, .inr (13, [.int 0, .ref ev, .int 0]))]) [11, 12] (by decide) rfl
  have hFc := va_free (wc := [(q4, .inr (14, [.int 0, .int 4, .ref wt, .int 0, .ref li, .ref sc, .ref lo, .ref hi, .long 0])), (li, .inr (13, [.int 0, .ref ev, .int 0]))]) hD hS hA [11, 12] rfl
  refine va_calli (va_runV (As := [.int 7]) (rest := []) ⟨hx, hb, hml, hown, hts⟩ (c_X14_ground l dC dI aC H.size q4 0 4 0 li (.ref wt) (.ref sc) (.ref lo) (.ref hi) (.long 0) 0 ev) (cwV 1 hts gT_X14_ground rfl rfl rfl (by decide +kernel) ⟨Nat.le_of_ble_eq_true rfl, Nat.le_of_ble_eq_true rfl⟩) (rf_pv hK hN hPc hDc (va_recv hK hP (ci := 14) (q0 := 11) rfl rfl)) rfl rfl hl.1 rfl (lv_room (Nat.le_of_ble_eq_true rfl)) dL_law_256 ⟨(by show 100 + 1 ≤ 3000; omega), (by show 6376 + 7 ≤ 7371873; omega)⟩) hS (fun q _ h => hFc q h) hFc (fun r15 u14 t H1 locs ht hvm hwu14 hB hz1 hk1 hS => ?_)
  obtain ⟨hP1, hD1⟩ := hB
  rw [ht] at hP1
  try dsimp only at hwu14 hP1 hD1
  obtain ⟨hP, hD⟩ := va_join (wr := [(ev, .inl (aC 5, 0, .inr (.inr (.inr (.inr ef))))), (fa, .inl (aC 4, 5, .inr (.inr (.inr (.inr uf))))), (s0, .inr (1, [.ref b0, .ref r0, .int 0])), (b0, .inl (aC 0, 128, .inl (fun _ => 0))), (pa, .inr (1, [.ref pb, .ref pr, .int 0])), (pb, .inl (aC 0, 128, .inl (fun _ => 0))), (md, .inr (1, [.ref mb, .ref mr, .int 0])), (mb, .inl (aC 0, 128, .inl (fun _ => 0))), (mk, .inr (6, [.ref k1, .ref k2])), (rg, .inr (4, [.ref g1, .ref g2, .ref g3, .ref g4, .ref wi])), (wi, .inl (aC 2, 256, .inr (.inl (fun _ => 0)))), (q1, .inr (11, [.ref pt, .ref fa, .int 0, .ref pa, .ref o1, .ref md, .ref o2, .ref o3, .ref rg, .ref o4, .ref mk, .ref o5, .ref o6, .ref o7, .ref o8])), (pt, .inr (0, [.ref w, .int 7, .int 127])), (w, .inl (aC 1, 7, .inl u11)), (q7, .inr (12, [.long 128, .null]))]) (w1 := [(q4, .inr (14, [.int 0, .int 7, .ref (u14.1), .int 0, .ref li, .ref sc, .ref lo, .ref hi, .long 0])), (li, .inr (13, [.int (u14.2), .ref ev, .int 0]))]) hP hD [11, 12] [0, 1, 2, 3, 4, 5, 6, 7, 8, 9, 10, 13, 14, 15, 16] rfl rfl (by decide) (by decide) hk1 hFc hP1 hD1
  clear hP1 hD1 hPc hDc hFc hk1 hz1
  generalize H1 = H at hP hS ⊢
  have hP : va_P (dC, dI) rfCl [(ev, .inl (aC 5, 0, .inr (.inr (.inr (.inr ef))))), (fa, .inl (aC 4, 5, .inr (.inr (.inr (.inr uf))))), (s0, .inr (1, [.ref b0, .ref r0, .int 0])), (b0, .inl (aC 0, 128, .inl (fun _ => 0))), (pa, .inr (1, [.ref pb, .ref pr, .int 0])), (pb, .inl (aC 0, 128, .inl (fun _ => 0))), (md, .inr (1, [.ref mb, .ref mr, .int 0])), (mb, .inl (aC 0, 128, .inl (fun _ => 0))), (mk, .inr (6, [.ref k1, .ref k2])), (rg, .inr (4, [.ref g1, .ref g2, .ref g3, .ref g4, .ref wi])), (wi, .inl (aC 2, 256, .inr (.inl (fun _ => 0)))), (q1, .inr (11, [.ref pt, .ref fa, .int 0, .ref pa, .ref o1, .ref md, .ref o2, .ref o3, .ref rg, .ref o4, .ref mk, .ref o5, .ref o6, .ref o7, .ref o8])), (pt, .inr (0, [.ref w, .int 7, .int 127])), (w, .inl (aC 1, 7, .inl u11)), (q7, .inr (12, [.long 128, .null])), (q4, .inr (14, [.int 0, .int 7, .ref (u14.1), .int 0, .ref li, .ref sc, .ref lo, .ref hi, .long 0])), (li, .inr (13, [.int (u14.2), .ref ev, .int 0]))] H := hP
  have hD : va_D A [(ev, .inl (aC 5, 0, .inr (.inr (.inr (.inr ef))))), (fa, .inl (aC 4, 5, .inr (.inr (.inr (.inr uf))))), (s0, .inr (1, [.ref b0, .ref r0, .int 0])), (b0, .inl (aC 0, 128, .inl (fun _ => 0))), (pa, .inr (1, [.ref pb, .ref pr, .int 0])), (pb, .inl (aC 0, 128, .inl (fun _ => 0))), (md, .inr (1, [.ref mb, .ref mr, .int 0])), (mb, .inl (aC 0, 128, .inl (fun _ => 0))), (mk, .inr (6, [.ref k1, .ref k2])), (rg, .inr (4, [.ref g1, .ref g2, .ref g3, .ref g4, .ref wi])), (wi, .inl (aC 2, 256, .inr (.inl (fun _ => 0)))), (q1, .inr (11, [.ref pt, .ref fa, .int 0, .ref pa, .ref o1, .ref md, .ref o2, .ref o3, .ref rg, .ref o4, .ref mk, .ref o5, .ref o6, .ref o7, .ref o8])), (pt, .inr (0, [.ref w, .int 7, .int 127])), (w, .inl (aC 1, 7, .inl u11)), (q7, .inr (12, [.long 128, .null])), (q4, .inr (14, [.int 0, .int 7, .ref (u14.1), .int 0, .ref li, .ref sc, .ref lo, .ref hi, .long 0])), (li, .inr (13, [.int (u14.2), .ref ev, .int 0]))] := hD
  refine W.widen (k := 101) (n := 6383) (by omega) (by omega) ?_
  subst hwu14
  obtain ⟨wt2, mc⟩ := u14
  dsimp only at hP hD
  have hP : va_P (dC, dI) rfCl [(ev, .inl (aC 5, 0, .inr (.inr (.inr (.inr ef))))), (fa, .inl (aC 4, 5, .inr (.inr (.inr (.inr uf))))), (s0, .inr (1, [.ref b0, .ref r0, .int 0])), (b0, .inl (aC 0, 128, .inl (fun _ => 0))), (pa, .inr (1, [.ref pb, .ref pr, .int 0])), (pb, .inl (aC 0, 128, .inl (fun _ => 0))), (md, .inr (1, [.ref mb, .ref mr, .int 0])), (mb, .inl (aC 0, 128, .inl (fun _ => 0))), (mk, .inr (6, [.ref k1, .ref k2])), (rg, .inr (4, [.ref g1, .ref g2, .ref g3, .ref g4, .ref wi])), (wi, .inl (aC 2, 256, .inr (.inl (fun _ => 0)))), (q1, .inr (11, [.ref pt, .ref fa, .int 0, .ref pa, .ref o1, .ref md, .ref o2, .ref o3, .ref rg, .ref o4, .ref mk, .ref o5, .ref o6, .ref o7, .ref o8])), (pt, .inr (0, [.ref w, .int 7, .int 127])), (w, .inl (aC 1, 7, .inl u11)), (q7, .inr (12, [.long 128, .null])), (q4, .inr (14, [.int 0, .int 7, .ref wt2, .int 0, .ref li, .ref sc, .ref lo, .ref hi, .long 0])), (li, .inr (13, [.int mc, .ref ev, .int 0]))] H := hP
  have hD : va_D A [(ev, .inl (aC 5, 0, .inr (.inr (.inr (.inr ef))))), (fa, .inl (aC 4, 5, .inr (.inr (.inr (.inr uf))))), (s0, .inr (1, [.ref b0, .ref r0, .int 0])), (b0, .inl (aC 0, 128, .inl (fun _ => 0))), (pa, .inr (1, [.ref pb, .ref pr, .int 0])), (pb, .inl (aC 0, 128, .inl (fun _ => 0))), (md, .inr (1, [.ref mb, .ref mr, .int 0])), (mb, .inl (aC 0, 128, .inl (fun _ => 0))), (mk, .inr (6, [.ref k1, .ref k2])), (rg, .inr (4, [.ref g1, .ref g2, .ref g3, .ref g4, .ref wi])), (wi, .inl (aC 2, 256, .inr (.inl (fun _ => 0)))), (q1, .inr (11, [.ref pt, .ref fa, .int 0, .ref pa, .ref o1, .ref md, .ref o2, .ref o3, .ref rg, .ref o4, .ref mk, .ref o5, .ref o6, .ref o7, .ref o8])), (pt, .inr (0, [.ref w, .int 7, .int 127])), (w, .inl (aC 1, 7, .inl u11)), (q7, .inr (12, [.long 128, .null])), (q4, .inr (14, [.int 0, .int 7, .ref wt2, .int 0, .ref li, .ref sc, .ref lo, .ref hi, .long 0])), (li, .inr (13, [.int mc, .ref ev, .int 0]))] := hD
  refine lv_istore (lv' := [(6, .int 128), (5, .int 0), (4, .int (nI 0)), (0, .ref b), (1, .ref q1), (2, .ref q4), (3, .ref q7)]) hx hb dL_law_259 hl (by decide) rfl (fun ls hl => ?_)
  refine lv_goto (tgt := 2083) hx hb dL_law_261 (by decide) ?_
  refine lv_iinc (v := (nI 4)) (lv' := [(4, .int (nI 4)), (6, .int 128), (5, .int 0), (0, .ref b), (1, .ref q1), (2, .ref q4), (3, .ref q7)]) hx hb dL_law_2083 hl (k := 2) rfl (by rw [show Int32.ofInt 4 = nI 4 from by decide, nI_add]) (by decide) rfl (fun ls hl => ?_)
  refine lv_goto (tgt := 27) hx hb dL_law_2086 (by decide) ?_
  have hl : lv_has ls 8 [(4, .int (nI 4)), (0, .ref b), (1, .ref q1), (2, .ref q4), (3, .ref q7)] := lv_sub hl [0, 3, 4, 5, 6] rfl
  refine lv_iload hx hb dL_law_27 (lv_at hl 0 rfl) ?_
  refine lv_aload_n hx hb dL_law_29 rfl (lv_at hl 1 rfl) ?_
  refine va_slen hx hb hX hbl hbA hS dL_law_30 ?_
  refine lv_iconst (v := 4) hx hb dL_law_31 (by decide) ?_
  refine lv_isub hx hb dL_law_32 ?_
  refine lv_topi (fun t16 et16 => ?_)
  have hl9 : t16 = nI 1816 := by rw [et16]; decide
  subst hl9
  refine lv_icmp_gt (tgt := 2089) hx hb dL_law_33 (by decide) (fun c9 => absurd c9 (nI_nlt (by omega) (by decide))) (fun _ => ?_)
  refine lv_aload_n hx hb dL_law_36 rfl (lv_at hl 1 rfl) ?_
  refine lv_iload hx hb dL_law_37 (lv_at hl 0 rfl) ?_
  refine va_sld hx hb hX hbl hbA hS (vp_in_nI (n := 4) (by omega) (by decide)) dL_law_39 ?_
  refine W.eq (g2 := F0 m 40 ls [.int 2]) (by rw [nI_clamp (n := 4) (by omega), (show xs (4) = 2 from hX1.2.2.1)]) ?_
  refine lv_bipush (v := 63) hx hb dL_law_40 (by decide) ?_
  refine lv_iand hx hb dL_law_42 ?_
  refine lv_topi (fun t17 et17 => ?_)
  have hl9 : t17 = 2 := by rw [et17]; decide
  subst hl9
  refine lv_tableIn (off := 261) (tgt := 304) hx hb dL_law_43 (by decide) (by decide) (by decide) (by decide) ?_
  refine lv_aload_n hx hb dL_law_304 rfl (lv_at hl 2 rfl) ?_
  refine lv_aload_n hx hb dL_law_305 rfl (lv_at hl 1 rfl) ?_
  refine lv_iload hx hb dL_law_306 (lv_at hl 0 rfl) ?_
  refine lv_iconst (v := 1) hx hb dL_law_308 (by decide) ?_
  refine lv_iadd hx hb dL_law_309 ?_
  refine lv_topi (fun t18 et18 => ?_)
  have hl9 : t18 = nI (4 + 1) := et18.trans (nI_add (4) 1)
  subst hl9
  refine va_sld hx hb hX hbl hbA hS (vp_in_nI (n := 4 + 1) (by omega) (by decide)) dL_law_310 ?_
  refine W.eq (g2 := F0 m 311 ls [.int 0, .ref q1]) (by rw [nI_clamp (n := 4 + 1) (by omega), (show xs (4 + 1) = 0 from hX1.2.2.2.1)]) ?_
  refine lv_aload_n hx hb dL_law_311 rfl (lv_at hl 1 rfl) ?_
  refine lv_iload hx hb dL_law_312 (lv_at hl 0 rfl) ?_
  refine lv_iconst (v := 2) hx hb dL_law_314 (by decide) ?_
  refine lv_iadd hx hb dL_law_315 ?_
  refine lv_topi (fun t19 et19 => ?_)
  have hl9 : t19 = nI (4 + 2) := et19.trans (nI_add (4) 2)
  subst hl9
  refine va_sld hx hb hX hbl hbA hS (vp_in_nI (n := 4 + 2) (by omega) (by decide)) dL_law_316 ?_
  refine W.eq (g2 := F0 m 317 ls [.int 1, .int 0, .ref q1]) (by rw [nI_clamp (n := 4 + 2) (by omega), (show xs (4 + 2) = 1 from hX1.2.2.2.2.1)]) ?_
  refine lv_if_eq (tgt := 324) hx hb dL_law_317 (by decide) (fun c9 => absurd c9 (by decide)) (fun _ => ?_)
  refine lv_iconst (v := 1) hx hb dL_law_320 (by decide) ?_
  refine lv_goto (tgt := 325) hx hb dL_law_321 (by decide) ?_
  refine lv_aload_n hx hb dL_law_325 rfl (lv_at hl 4 rfl) ?_
  have hPc := hP.sub (ws' := [(q1, .inr (11, [.ref pt, .ref fa, .int 0, .ref pa, .ref o1, .ref md, .ref o2, .ref o3, .ref rg, .ref o4, .ref mk, .ref o5, .ref o6, .ref o7, .ref o8])), (pt, .inr (0, [.ref w, .int 7, .int 127])), (w, .inl (aC 1, 7, .inl u11)), (q7, .inr (12, [.long 128, .null]))]) [11, 12, 13, 14] rfl
  have hDc := hD.sub (ws' := [(q1, .inr (11, [.ref pt, .ref fa, .int 0, .ref pa, .ref o1, .ref md, .ref o2, .ref o3, .ref rg, .ref o4, .ref mk, .ref o5, .ref o6, .ref o7, .ref o8])), (pt, .inr (0, [.ref w, .int 7, .int 127])), (w, .inl (aC 1, 7, .inl u11)), (q7, .inr (12, [.long 128, .null]))]) [11, 12, 13, 14] (by decide) rfl
  have hFc := va_free (wc := [(q1, .inr (11, [.ref pt, .ref fa, .int 0, .ref pa, .ref o1, .ref md, .ref o2, .ref o3, .ref rg, .ref o4, .ref mk, .ref o5, .ref o6, .ref o7, .ref o8])), (pt, .inr (0, [.ref w, .int 7, .int 127])), (w, .inl (aC 1, 7, .inl u11)), (q7, .inr (12, [.long 128, .null]))]) hD hS hA [11, 12, 13, 14] rfl
  refine va_calli (vx_runSW (As := [.ref q1, .int 0, .int 1, .ref q7]) (rest := []) ⟨hx, hb, hml, hown, hts⟩ (c_L_die l dC dI aC H.size q1 pt fa pa md rg mk (.ref o1) (.ref o2) (.ref o3) (.ref o4) (.ref o5) (.ref o6) (.ref o7) (.ref o8) 0 w u11 7 127 0 126 q7 128 .null (by decide) (by decide) (by decide) (by decide)) (vx_cwSW 4 hts gT_L_die rfl rfl rfl (by decide +kernel) ⟨Nat.le_of_ble_eq_true rfl, Nat.le_of_ble_eq_true rfl⟩) (rf_ps hK hN hPc hDc) rfl rfl hl.1 rfl (lv_room (Nat.le_of_ble_eq_true rfl)) dL_law_326 ⟨(by show 101 + 0 ≤ 3000; omega), (by show 6383 + 0 ≤ 7371873; omega)⟩) hS (fun q _ h => hFc q h) hFc (fun r21 u20 t H1 locs ht hvm hwu20 hB hz1 hk1 hS => ?_)
  obtain ⟨hP1, hD1⟩ := hB
  rw [ht] at hP1
  try dsimp only at hwu20 hP1 hD1
  obtain ⟨hP, hD⟩ := va_join (wr := [(ev, .inl (aC 5, 0, .inr (.inr (.inr (.inr ef))))), (fa, .inl (aC 4, 5, .inr (.inr (.inr (.inr uf))))), (s0, .inr (1, [.ref b0, .ref r0, .int 0])), (b0, .inl (aC 0, 128, .inl (fun _ => 0))), (pa, .inr (1, [.ref pb, .ref pr, .int 0])), (pb, .inl (aC 0, 128, .inl (fun _ => 0))), (md, .inr (1, [.ref mb, .ref mr, .int 0])), (mb, .inl (aC 0, 128, .inl (fun _ => 0))), (mk, .inr (6, [.ref k1, .ref k2])), (rg, .inr (4, [.ref g1, .ref g2, .ref g3, .ref g4, .ref wi])), (wi, .inl (aC 2, 256, .inr (.inl (fun _ => 0)))), (q4, .inr (14, [.int 0, .int 7, .ref wt2, .int 0, .ref li, .ref sc, .ref lo, .ref hi, .long 0])), (li, .inr (13, [.int mc, .ref ev, .int 0]))]) (w1 := [(q1, .inr (11, [.ref pt, .ref fa, .int 0, .ref pa, .ref o1, .ref md, .ref o2, .ref o3, .ref rg, .ref o4, .ref mk, .ref o5, .ref o6, .ref o7, .ref o8])), (pt, .inr (0, [.ref w, .int 7, .int 126])), (w, .inl (aC 1, 7, .inl u11)), (q7, .inr (12, [.long u20, .null]))]) hP hD [11, 12, 13, 14] [0, 1, 2, 3, 4, 5, 6, 7, 8, 9, 10, 15, 16] rfl rfl (by decide) (by decide) hk1 hFc hP1 hD1
  clear hP1 hD1 hPc hDc hFc hk1 hz1
  generalize H1 = H at hP hS ⊢
  have hP : va_P (dC, dI) rfCl [(ev, .inl (aC 5, 0, .inr (.inr (.inr (.inr ef))))), (fa, .inl (aC 4, 5, .inr (.inr (.inr (.inr uf))))), (s0, .inr (1, [.ref b0, .ref r0, .int 0])), (b0, .inl (aC 0, 128, .inl (fun _ => 0))), (pa, .inr (1, [.ref pb, .ref pr, .int 0])), (pb, .inl (aC 0, 128, .inl (fun _ => 0))), (md, .inr (1, [.ref mb, .ref mr, .int 0])), (mb, .inl (aC 0, 128, .inl (fun _ => 0))), (mk, .inr (6, [.ref k1, .ref k2])), (rg, .inr (4, [.ref g1, .ref g2, .ref g3, .ref g4, .ref wi])), (wi, .inl (aC 2, 256, .inr (.inl (fun _ => 0)))), (q4, .inr (14, [.int 0, .int 7, .ref wt2, .int 0, .ref li, .ref sc, .ref lo, .ref hi, .long 0])), (li, .inr (13, [.int mc, .ref ev, .int 0])), (q1, .inr (11, [.ref pt, .ref fa, .int 0, .ref pa, .ref o1, .ref md, .ref o2, .ref o3, .ref rg, .ref o4, .ref mk, .ref o5, .ref o6, .ref o7, .ref o8])), (pt, .inr (0, [.ref w, .int 7, .int 126])), (w, .inl (aC 1, 7, .inl u11)), (q7, .inr (12, [.long u20, .null]))] H := hP
  have hD : va_D A [(ev, .inl (aC 5, 0, .inr (.inr (.inr (.inr ef))))), (fa, .inl (aC 4, 5, .inr (.inr (.inr (.inr uf))))), (s0, .inr (1, [.ref b0, .ref r0, .int 0])), (b0, .inl (aC 0, 128, .inl (fun _ => 0))), (pa, .inr (1, [.ref pb, .ref pr, .int 0])), (pb, .inl (aC 0, 128, .inl (fun _ => 0))), (md, .inr (1, [.ref mb, .ref mr, .int 0])), (mb, .inl (aC 0, 128, .inl (fun _ => 0))), (mk, .inr (6, [.ref k1, .ref k2])), (rg, .inr (4, [.ref g1, .ref g2, .ref g3, .ref g4, .ref wi])), (wi, .inl (aC 2, 256, .inr (.inl (fun _ => 0)))), (q4, .inr (14, [.int 0, .int 7, .ref wt2, .int 0, .ref li, .ref sc, .ref lo, .ref hi, .long 0])), (li, .inr (13, [.int mc, .ref ev, .int 0])), (q1, .inr (11, [.ref pt, .ref fa, .int 0, .ref pa, .ref o1, .ref md, .ref o2, .ref o3, .ref rg, .ref o4, .ref mk, .ref o5, .ref o6, .ref o7, .ref o8])), (pt, .inr (0, [.ref w, .int 7, .int 126])), (w, .inl (aC 1, 7, .inl u11)), (q7, .inr (12, [.long u20, .null]))] := hD
  refine W.widen (k := 101) (n := 6383) (by omega) (by omega) ?_
  subst hwu20
  refine lv_istore (lv' := [(5, .int 0), (4, .int (nI 4)), (0, .ref b), (1, .ref q1), (2, .ref q4), (3, .ref q7)]) hx hb dL_law_329 hl (by decide) rfl (fun ls hl => ?_)
  refine lv_aload_n hx hb dL_law_331 rfl (lv_at hl 4 rfl) ?_
  refine lv_aload_n hx hb dL_law_332 rfl (lv_at hl 2 rfl) ?_
  refine lv_iload hx hb dL_law_333 (lv_at hl 1 rfl) ?_
  refine lv_iconst (v := 1) hx hb dL_law_335 (by decide) ?_
  refine lv_iadd hx hb dL_law_336 ?_
  refine lv_topi (fun t22 et22 => ?_)
  have hl9 : t22 = nI (4 + 1) := et22.trans (nI_add (4) 1)
  subst hl9
  refine va_sld hx hb hX hbl hbA hS (vp_in_nI (n := 4 + 1) (by omega) (by decide)) dL_law_337 ?_
  refine W.eq (g2 := F0 m 338 ls [.int 0, .ref q4]) (by rw [nI_clamp (n := 4 + 1) (by omega), (show xs (4 + 1) = 0 from hX1.2.2.2.1)]) ?_
  refine lv_aload_n hx hb dL_law_338 rfl (lv_at hl 2 rfl) ?_
  refine lv_iload hx hb dL_law_339 (lv_at hl 1 rfl) ?_
  refine lv_iconst (v := 2) hx hb dL_law_341 (by decide) ?_
  refine lv_iadd hx hb dL_law_342 ?_
  refine lv_topi (fun t23 et23 => ?_)
  have hl9 : t23 = nI (4 + 2) := et23.trans (nI_add (4) 2)
  subst hl9
  refine va_sld hx hb hX hbl hbA hS (vp_in_nI (n := 4 + 2) (by omega) (by decide)) dL_law_343 ?_
  refine W.eq (g2 := F0 m 344 ls [.int 1, .int 0, .ref q4]) (by rw [nI_clamp (n := 4 + 2) (by omega), (show xs (4 + 2) = 1 from hX1.2.2.2.2.1)]) ?_
  refine lv_if_eq (tgt := 351) hx hb dL_law_344 (by decide) (fun c9 => absurd c9 (by decide)) (fun _ => ?_)
  refine lv_iconst (v := 1) hx hb dL_law_347 (by decide) ?_
  refine lv_goto (tgt := 352) hx hb dL_law_348 (by decide) ?_
  have hPc := hP.sub (ws' := [(q4, .inr (14, [.int 0, .int 7, .ref wt2, .int 0, .ref li, .ref sc, .ref lo, .ref hi, .long 0]))]) [11] rfl
  have hDc := hD.sub (ws' := [(q4, .inr (14, [.int 0, .int 7, .ref wt2, .int 0, .ref li, .ref sc, .ref lo, .ref hi, .long 0]))]) [11] (by decide) rfl
  have hFc := va_free (wc := [(q4, .inr (14, [.int 0, .int 7, .ref wt2, .int 0, .ref li, .ref sc, .ref lo, .ref hi, .long 0]))]) hD hS hA [11] rfl
  refine va_calli (va_runV (As := [.int 0, .int 1]) (rest := []) ⟨hx, hb, hml, hown, hts⟩ (c_X14_die l dC dI aC H.size q4 0 7 0 li (.ref wt2) (.ref sc) (.ref lo) (.ref hi) (.long 0) 0 1 128 126 (by decide) (by decide) (by decide) (by decide) (by decide)) (cwV 2 hts gT_X14_die rfl rfl rfl (by decide +kernel) ⟨Nat.le_of_ble_eq_true rfl, Nat.le_of_ble_eq_true rfl⟩) (rf_pv hK hN hPc hDc (va_recv hK hP (ci := 14) (q0 := 11) rfl rfl)) rfl rfl hl.1 rfl (lv_room (Nat.le_of_ble_eq_true rfl)) dL_law_352 ⟨(by show 101 + 0 ≤ 3000; omega), (by show 6383 + 0 ≤ 7371873; omega)⟩) hS (fun q _ h => hFc q h) hFc (fun r25 u24 t H1 locs ht hvm hwu24 hB hz1 hk1 hS => ?_)
  obtain ⟨hP1, hD1⟩ := hB
  rw [ht] at hP1
  try dsimp only at hwu24 hP1 hD1
  obtain ⟨hP, hD⟩ := va_join (wr := [(ev, .inl (aC 5, 0, .inr (.inr (.inr (.inr ef))))), (fa, .inl (aC 4, 5, .inr (.inr (.inr (.inr uf))))), (s0, .inr (1, [.ref b0, .ref r0, .int 0])), (b0, .inl (aC 0, 128, .inl (fun _ => 0))), (pa, .inr (1, [.ref pb, .ref pr, .int 0])), (pb, .inl (aC 0, 128, .inl (fun _ => 0))), (md, .inr (1, [.ref mb, .ref mr, .int 0])), (mb, .inl (aC 0, 128, .inl (fun _ => 0))), (mk, .inr (6, [.ref k1, .ref k2])), (rg, .inr (4, [.ref g1, .ref g2, .ref g3, .ref g4, .ref wi])), (wi, .inl (aC 2, 256, .inr (.inl (fun _ => 0)))), (li, .inr (13, [.int mc, .ref ev, .int 0])), (q1, .inr (11, [.ref pt, .ref fa, .int 0, .ref pa, .ref o1, .ref md, .ref o2, .ref o3, .ref rg, .ref o4, .ref mk, .ref o5, .ref o6, .ref o7, .ref o8])), (pt, .inr (0, [.ref w, .int 7, .int 126])), (w, .inl (aC 1, 7, .inl u11)), (q7, .inr (12, [.long u20, .null]))]) (w1 := [(q4, .inr (14, [.int 0, .int 7, .ref wt2, .int 1, .ref li, .ref sc, .ref lo, .ref hi, .long 0]))]) hP hD [11] [0, 1, 2, 3, 4, 5, 6, 7, 8, 9, 10, 12, 13, 14, 15, 16] rfl rfl (by decide) (by decide) hk1 hFc hP1 hD1
  clear hP1 hD1 hPc hDc hFc hk1 hz1
  generalize H1 = H at hP hS ⊢
  have hP : va_P (dC, dI) rfCl [(ev, .inl (aC 5, 0, .inr (.inr (.inr (.inr ef))))), (fa, .inl (aC 4, 5, .inr (.inr (.inr (.inr uf))))), (s0, .inr (1, [.ref b0, .ref r0, .int 0])), (b0, .inl (aC 0, 128, .inl (fun _ => 0))), (pa, .inr (1, [.ref pb, .ref pr, .int 0])), (pb, .inl (aC 0, 128, .inl (fun _ => 0))), (md, .inr (1, [.ref mb, .ref mr, .int 0])), (mb, .inl (aC 0, 128, .inl (fun _ => 0))), (mk, .inr (6, [.ref k1, .ref k2])), (rg, .inr (4, [.ref g1, .ref g2, .ref g3, .ref g4, .ref wi])), (wi, .inl (aC 2, 256, .inr (.inl (fun _ => 0)))), (li, .inr (13, [.int mc, .ref ev, .int 0])), (q1, .inr (11, [.ref pt, .ref fa, .int 0, .ref pa, .ref o1, .ref md, .ref o2, .ref o3, .ref rg, .ref o4, .ref mk, .ref o5, .ref o6, .ref o7, .ref o8])), (pt, .inr (0, [.ref w, .int 7, .int 126])), (w, .inl (aC 1, 7, .inl u11)), (q7, .inr (12, [.long u20, .null])), (q4, .inr (14, [.int 0, .int 7, .ref wt2, .int 1, .ref li, .ref sc, .ref lo, .ref hi, .long 0]))] H := hP
  have hD : va_D A [(ev, .inl (aC 5, 0, .inr (.inr (.inr (.inr ef))))), (fa, .inl (aC 4, 5, .inr (.inr (.inr (.inr uf))))), (s0, .inr (1, [.ref b0, .ref r0, .int 0])), (b0, .inl (aC 0, 128, .inl (fun _ => 0))), (pa, .inr (1, [.ref pb, .ref pr, .int 0])), (pb, .inl (aC 0, 128, .inl (fun _ => 0))), (md, .inr (1, [.ref mb, .ref mr, .int 0])), (mb, .inl (aC 0, 128, .inl (fun _ => 0))), (mk, .inr (6, [.ref k1, .ref k2])), (rg, .inr (4, [.ref g1, .ref g2, .ref g3, .ref g4, .ref wi])), (wi, .inl (aC 2, 256, .inr (.inl (fun _ => 0)))), (li, .inr (13, [.int mc, .ref ev, .int 0])), (q1, .inr (11, [.ref pt, .ref fa, .int 0, .ref pa, .ref o1, .ref md, .ref o2, .ref o3, .ref rg, .ref o4, .ref mk, .ref o5, .ref o6, .ref o7, .ref o8])), (pt, .inr (0, [.ref w, .int 7, .int 126])), (w, .inl (aC 1, 7, .inl u11)), (q7, .inr (12, [.long u20, .null])), (q4, .inr (14, [.int 0, .int 7, .ref wt2, .int 1, .ref li, .ref sc, .ref lo, .ref hi, .long 0]))] := hD
  refine W.widen (k := 101) (n := 6383) (by omega) (by omega) ?_
  refine lv_istore (lv' := [(6, .int r25), (5, .int 0), (4, .int (nI 4)), (0, .ref b), (1, .ref q1), (2, .ref q4), (3, .ref q7)]) hx hb dL_law_355 hl (by decide) rfl (fun ls hl => ?_)
  refine lv_goto (tgt := 2083) hx hb dL_law_357 (by decide) ?_
  refine lv_iinc (v := (nI 8)) (lv' := [(4, .int (nI 8)), (6, .int r25), (5, .int 0), (0, .ref b), (1, .ref q1), (2, .ref q4), (3, .ref q7)]) hx hb dL_law_2083 hl (k := 2) rfl (by rw [show Int32.ofInt 4 = nI 4 from by decide, nI_add]) (by decide) rfl (fun ls hl => ?_)
  refine lv_goto (tgt := 27) hx hb dL_law_2086 (by decide) ?_
  have hl : lv_has ls 8 [(4, .int (nI 8)), (0, .ref b), (1, .ref q1), (2, .ref q4), (3, .ref q7)] := lv_sub hl [0, 3, 4, 5, 6] rfl
  refine lv_iload hx hb dL_law_27 (lv_at hl 0 rfl) ?_
  refine lv_aload_n hx hb dL_law_29 rfl (lv_at hl 1 rfl) ?_
  refine va_slen hx hb hX hbl hbA hS dL_law_30 ?_
  refine lv_iconst (v := 4) hx hb dL_law_31 (by decide) ?_
  refine lv_isub hx hb dL_law_32 ?_
  refine lv_topi (fun t26 et26 => ?_)
  have hl9 : t26 = nI 1816 := by rw [et26]; decide
  subst hl9
  refine lv_icmp_gt (tgt := 2089) hx hb dL_law_33 (by decide) (fun c9 => absurd c9 (nI_nlt (by omega) (by decide))) (fun _ => ?_)
  refine lv_aload_n hx hb dL_law_36 rfl (lv_at hl 1 rfl) ?_
  refine lv_iload hx hb dL_law_37 (lv_at hl 0 rfl) ?_
  refine va_sld hx hb hX hbl hbA hS (vp_in_nI (n := 8) (by omega) (by decide)) dL_law_39 ?_
  refine W.eq (g2 := F0 m 40 ls [.int 2]) (by rw [nI_clamp (n := 8) (by omega), (show xs (8) = 2 from hX1.2.2.2.2.2.1)]) ?_
  refine lv_bipush (v := 63) hx hb dL_law_40 (by decide) ?_
  refine lv_iand hx hb dL_law_42 ?_
  refine lv_topi (fun t27 et27 => ?_)
  have hl9 : t27 = 2 := by rw [et27]; decide
  subst hl9
  refine lv_tableIn (off := 261) (tgt := 304) hx hb dL_law_43 (by decide) (by decide) (by decide) (by decide) ?_
  refine lv_aload_n hx hb dL_law_304 rfl (lv_at hl 2 rfl) ?_
  refine lv_aload_n hx hb dL_law_305 rfl (lv_at hl 1 rfl) ?_
  refine lv_iload hx hb dL_law_306 (lv_at hl 0 rfl) ?_
  refine lv_iconst (v := 1) hx hb dL_law_308 (by decide) ?_
  refine lv_iadd hx hb dL_law_309 ?_
  refine lv_topi (fun t28 et28 => ?_)
  have hl9 : t28 = nI (8 + 1) := et28.trans (nI_add (8) 1)
  subst hl9
  refine va_sld hx hb hX hbl hbA hS (vp_in_nI (n := 8 + 1) (by omega) (by decide)) dL_law_310 ?_
  refine W.eq (g2 := F0 m 311 ls [.int 1, .ref q1]) (by rw [nI_clamp (n := 8 + 1) (by omega), (show xs (8 + 1) = 1 from hX1.2.2.2.2.2.2.1)]) ?_
  refine lv_aload_n hx hb dL_law_311 rfl (lv_at hl 1 rfl) ?_
  refine lv_iload hx hb dL_law_312 (lv_at hl 0 rfl) ?_
  refine lv_iconst (v := 2) hx hb dL_law_314 (by decide) ?_
  refine lv_iadd hx hb dL_law_315 ?_
  refine lv_topi (fun t29 et29 => ?_)
  have hl9 : t29 = nI (8 + 2) := et29.trans (nI_add (8) 2)
  subst hl9
  refine va_sld hx hb hX hbl hbA hS (vp_in_nI (n := 8 + 2) (by omega) (by decide)) dL_law_316 ?_
  refine W.eq (g2 := F0 m 317 ls [.int 1, .int 1, .ref q1]) (by rw [nI_clamp (n := 8 + 2) (by omega), (show xs (8 + 2) = 1 from hX1.2.2.2.2.2.2.2.1)]) ?_
  refine lv_if_eq (tgt := 324) hx hb dL_law_317 (by decide) (fun c9 => absurd c9 (by decide)) (fun _ => ?_)
  refine lv_iconst (v := 1) hx hb dL_law_320 (by decide) ?_
  refine lv_goto (tgt := 325) hx hb dL_law_321 (by decide) ?_
  refine lv_aload_n hx hb dL_law_325 rfl (lv_at hl 4 rfl) ?_
  have hPc := hP.sub (ws' := [(q1, .inr (11, [.ref pt, .ref fa, .int 0, .ref pa, .ref o1, .ref md, .ref o2, .ref o3, .ref rg, .ref o4, .ref mk, .ref o5, .ref o6, .ref o7, .ref o8])), (pt, .inr (0, [.ref w, .int 7, .int 126])), (w, .inl (aC 1, 7, .inl u11)), (q7, .inr (12, [.long u20, .null]))]) [12, 13, 14, 15] rfl
  have hDc := hD.sub (ws' := [(q1, .inr (11, [.ref pt, .ref fa, .int 0, .ref pa, .ref o1, .ref md, .ref o2, .ref o3, .ref rg, .ref o4, .ref mk, .ref o5, .ref o6, .ref o7, .ref o8])), (pt, .inr (0, [.ref w, .int 7, .int 126])), (w, .inl (aC 1, 7, .inl u11)), (q7, .inr (12, [.long u20, .null]))]) [12, 13, 14, 15] (by decide) rfl
  have hFc := va_free (wc := [(q1, .inr (11, [.ref pt, .ref fa, .int 0, .ref pa, .ref o1, .ref md, .ref o2, .ref o3, .ref rg, .ref o4, .ref mk, .ref o5, .ref o6, .ref o7, .ref o8])), (pt, .inr (0, [.ref w, .int 7, .int 126])), (w, .inl (aC 1, 7, .inl u11)), (q7, .inr (12, [.long u20, .null]))]) hD hS hA [12, 13, 14, 15] rfl
  refine va_calli (vx_runSW (As := [.ref q1, .int 1, .int 1, .ref q7]) (rest := []) ⟨hx, hb, hml, hown, hts⟩ (c_L_die l dC dI aC H.size q1 pt fa pa md rg mk (.ref o1) (.ref o2) (.ref o3) (.ref o4) (.ref o5) (.ref o6) (.ref o7) (.ref o8) 0 w u11 7 126 1 124 q7 u20 .null (by decide) (by decide) (by decide) (by decide)) (vx_cwSW 4 hts gT_L_die rfl rfl rfl (by decide +kernel) ⟨Nat.le_of_ble_eq_true rfl, Nat.le_of_ble_eq_true rfl⟩) (rf_ps hK hN hPc hDc) rfl rfl hl.1 rfl (lv_room (Nat.le_of_ble_eq_true rfl)) dL_law_326 ⟨(by show 101 + 0 ≤ 3000; omega), (by show 6383 + 0 ≤ 7371873; omega)⟩) hS (fun q _ h => hFc q h) hFc (fun r31 u30 t H1 locs ht hvm hwu30 hB hz1 hk1 hS => ?_)
  obtain ⟨hP1, hD1⟩ := hB
  rw [ht] at hP1
  try dsimp only at hwu30 hP1 hD1
  obtain ⟨hP, hD⟩ := va_join (wr := [(ev, .inl (aC 5, 0, .inr (.inr (.inr (.inr ef))))), (fa, .inl (aC 4, 5, .inr (.inr (.inr (.inr uf))))), (s0, .inr (1, [.ref b0, .ref r0, .int 0])), (b0, .inl (aC 0, 128, .inl (fun _ => 0))), (pa, .inr (1, [.ref pb, .ref pr, .int 0])), (pb, .inl (aC 0, 128, .inl (fun _ => 0))), (md, .inr (1, [.ref mb, .ref mr, .int 0])), (mb, .inl (aC 0, 128, .inl (fun _ => 0))), (mk, .inr (6, [.ref k1, .ref k2])), (rg, .inr (4, [.ref g1, .ref g2, .ref g3, .ref g4, .ref wi])), (wi, .inl (aC 2, 256, .inr (.inl (fun _ => 0)))), (li, .inr (13, [.int mc, .ref ev, .int 0])), (q4, .inr (14, [.int 0, .int 7, .ref wt2, .int 1, .ref li, .ref sc, .ref lo, .ref hi, .long 0]))]) (w1 := [(q1, .inr (11, [.ref pt, .ref fa, .int 0, .ref pa, .ref o1, .ref md, .ref o2, .ref o3, .ref rg, .ref o4, .ref mk, .ref o5, .ref o6, .ref o7, .ref o8])), (pt, .inr (0, [.ref w, .int 7, .int 124])), (w, .inl (aC 1, 7, .inl u11)), (q7, .inr (12, [.long u30, .null]))]) hP hD [12, 13, 14, 15] [0, 1, 2, 3, 4, 5, 6, 7, 8, 9, 10, 11, 16] rfl rfl (by decide) (by decide) hk1 hFc hP1 hD1
  clear hP1 hD1 hPc hDc hFc hk1 hz1
  generalize H1 = H at hP hS ⊢
  have hP : va_P (dC, dI) rfCl [(ev, .inl (aC 5, 0, .inr (.inr (.inr (.inr ef))))), (fa, .inl (aC 4, 5, .inr (.inr (.inr (.inr uf))))), (s0, .inr (1, [.ref b0, .ref r0, .int 0])), (b0, .inl (aC 0, 128, .inl (fun _ => 0))), (pa, .inr (1, [.ref pb, .ref pr, .int 0])), (pb, .inl (aC 0, 128, .inl (fun _ => 0))), (md, .inr (1, [.ref mb, .ref mr, .int 0])), (mb, .inl (aC 0, 128, .inl (fun _ => 0))), (mk, .inr (6, [.ref k1, .ref k2])), (rg, .inr (4, [.ref g1, .ref g2, .ref g3, .ref g4, .ref wi])), (wi, .inl (aC 2, 256, .inr (.inl (fun _ => 0)))), (li, .inr (13, [.int mc, .ref ev, .int 0])), (q4, .inr (14, [.int 0, .int 7, .ref wt2, .int 1, .ref li, .ref sc, .ref lo, .ref hi, .long 0])), (q1, .inr (11, [.ref pt, .ref fa, .int 0, .ref pa, .ref o1, .ref md, .ref o2, .ref o3, .ref rg, .ref o4, .ref mk, .ref o5, .ref o6, .ref o7, .ref o8])), (pt, .inr (0, [.ref w, .int 7, .int 124])), (w, .inl (aC 1, 7, .inl u11)), (q7, .inr (12, [.long u30, .null]))] H := hP
  have hD : va_D A [(ev, .inl (aC 5, 0, .inr (.inr (.inr (.inr ef))))), (fa, .inl (aC 4, 5, .inr (.inr (.inr (.inr uf))))), (s0, .inr (1, [.ref b0, .ref r0, .int 0])), (b0, .inl (aC 0, 128, .inl (fun _ => 0))), (pa, .inr (1, [.ref pb, .ref pr, .int 0])), (pb, .inl (aC 0, 128, .inl (fun _ => 0))), (md, .inr (1, [.ref mb, .ref mr, .int 0])), (mb, .inl (aC 0, 128, .inl (fun _ => 0))), (mk, .inr (6, [.ref k1, .ref k2])), (rg, .inr (4, [.ref g1, .ref g2, .ref g3, .ref g4, .ref wi])), (wi, .inl (aC 2, 256, .inr (.inl (fun _ => 0)))), (li, .inr (13, [.int mc, .ref ev, .int 0])), (q4, .inr (14, [.int 0, .int 7, .ref wt2, .int 1, .ref li, .ref sc, .ref lo, .ref hi, .long 0])), (q1, .inr (11, [.ref pt, .ref fa, .int 0, .ref pa, .ref o1, .ref md, .ref o2, .ref o3, .ref rg, .ref o4, .ref mk, .ref o5, .ref o6, .ref o7, .ref o8])), (pt, .inr (0, [.ref w, .int 7, .int 124])), (w, .inl (aC 1, 7, .inl u11)), (q7, .inr (12, [.long u30, .null]))] := hD
  refine W.widen (k := 101) (n := 6383) (by omega) (by omega) ?_
  subst hwu30
  refine lv_istore (lv' := [(5, .int 0), (4, .int (nI 8)), (0, .ref b), (1, .ref q1), (2, .ref q4), (3, .ref q7)]) hx hb dL_law_329 hl (by decide) rfl (fun ls hl => ?_)
  refine lv_aload_n hx hb dL_law_331 rfl (lv_at hl 4 rfl) ?_
  refine lv_aload_n hx hb dL_law_332 rfl (lv_at hl 2 rfl) ?_
  refine lv_iload hx hb dL_law_333 (lv_at hl 1 rfl) ?_
  refine lv_iconst (v := 1) hx hb dL_law_335 (by decide) ?_
  refine lv_iadd hx hb dL_law_336 ?_
  refine lv_topi (fun t32 et32 => ?_)
  have hl9 : t32 = nI (8 + 1) := et32.trans (nI_add (8) 1)
  subst hl9
  refine va_sld hx hb hX hbl hbA hS (vp_in_nI (n := 8 + 1) (by omega) (by decide)) dL_law_337 ?_
  refine W.eq (g2 := F0 m 338 ls [.int 1, .ref q4]) (by rw [nI_clamp (n := 8 + 1) (by omega), (show xs (8 + 1) = 1 from hX1.2.2.2.2.2.2.1)]) ?_
  refine lv_aload_n hx hb dL_law_338 rfl (lv_at hl 2 rfl) ?_
  refine lv_iload hx hb dL_law_339 (lv_at hl 1 rfl) ?_
  refine lv_iconst (v := 2) hx hb dL_law_341 (by decide) ?_
  refine lv_iadd hx hb dL_law_342 ?_
  refine lv_topi (fun t33 et33 => ?_)
  have hl9 : t33 = nI (8 + 2) := et33.trans (nI_add (8) 2)
  subst hl9
  refine va_sld hx hb hX hbl hbA hS (vp_in_nI (n := 8 + 2) (by omega) (by decide)) dL_law_343 ?_
  refine W.eq (g2 := F0 m 344 ls [.int 1, .int 1, .ref q4]) (by rw [nI_clamp (n := 8 + 2) (by omega), (show xs (8 + 2) = 1 from hX1.2.2.2.2.2.2.2.1)]) ?_
  refine lv_if_eq (tgt := 351) hx hb dL_law_344 (by decide) (fun c9 => absurd c9 (by decide)) (fun _ => ?_)
  refine lv_iconst (v := 1) hx hb dL_law_347 (by decide) ?_
  refine lv_goto (tgt := 352) hx hb dL_law_348 (by decide) ?_
  have hPc := hP.sub (ws' := [(q4, .inr (14, [.int 0, .int 7, .ref wt2, .int 1, .ref li, .ref sc, .ref lo, .ref hi, .long 0]))]) [12] rfl
  have hDc := hD.sub (ws' := [(q4, .inr (14, [.int 0, .int 7, .ref wt2, .int 1, .ref li, .ref sc, .ref lo, .ref hi, .long 0]))]) [12] (by decide) rfl
  have hFc := va_free (wc := [(q4, .inr (14, [.int 0, .int 7, .ref wt2, .int 1, .ref li, .ref sc, .ref lo, .ref hi, .long 0]))]) hD hS hA [12] rfl
  refine va_calli (va_runV (As := [.int 1, .int 1]) (rest := []) ⟨hx, hb, hml, hown, hts⟩ (c_X14_die l dC dI aC H.size q4 0 7 1 li (.ref wt2) (.ref sc) (.ref lo) (.ref hi) (.long 0) 1 3 128 124 (by decide) (by decide) (by decide) (by decide) (by decide)) (cwV 2 hts gT_X14_die rfl rfl rfl (by decide +kernel) ⟨Nat.le_of_ble_eq_true rfl, Nat.le_of_ble_eq_true rfl⟩) (rf_pv hK hN hPc hDc (va_recv hK hP (ci := 14) (q0 := 12) rfl rfl)) rfl rfl hl.1 rfl (lv_room (Nat.le_of_ble_eq_true rfl)) dL_law_352 ⟨(by show 101 + 0 ≤ 3000; omega), (by show 6383 + 0 ≤ 7371873; omega)⟩) hS (fun q _ h => hFc q h) hFc (fun r35 u34 t H1 locs ht hvm hwu34 hB hz1 hk1 hS => ?_)
  obtain ⟨hP1, hD1⟩ := hB
  rw [ht] at hP1
  try dsimp only at hwu34 hP1 hD1
  obtain ⟨hP, hD⟩ := va_join (wr := [(ev, .inl (aC 5, 0, .inr (.inr (.inr (.inr ef))))), (fa, .inl (aC 4, 5, .inr (.inr (.inr (.inr uf))))), (s0, .inr (1, [.ref b0, .ref r0, .int 0])), (b0, .inl (aC 0, 128, .inl (fun _ => 0))), (pa, .inr (1, [.ref pb, .ref pr, .int 0])), (pb, .inl (aC 0, 128, .inl (fun _ => 0))), (md, .inr (1, [.ref mb, .ref mr, .int 0])), (mb, .inl (aC 0, 128, .inl (fun _ => 0))), (mk, .inr (6, [.ref k1, .ref k2])), (rg, .inr (4, [.ref g1, .ref g2, .ref g3, .ref g4, .ref wi])), (wi, .inl (aC 2, 256, .inr (.inl (fun _ => 0)))), (li, .inr (13, [.int mc, .ref ev, .int 0])), (q1, .inr (11, [.ref pt, .ref fa, .int 0, .ref pa, .ref o1, .ref md, .ref o2, .ref o3, .ref rg, .ref o4, .ref mk, .ref o5, .ref o6, .ref o7, .ref o8])), (pt, .inr (0, [.ref w, .int 7, .int 124])), (w, .inl (aC 1, 7, .inl u11)), (q7, .inr (12, [.long u30, .null]))]) (w1 := [(q4, .inr (14, [.int 0, .int 7, .ref wt2, .int 3, .ref li, .ref sc, .ref lo, .ref hi, .long 0]))]) hP hD [12] [0, 1, 2, 3, 4, 5, 6, 7, 8, 9, 10, 11, 13, 14, 15, 16] rfl rfl (by decide) (by decide) hk1 hFc hP1 hD1
  clear hP1 hD1 hPc hDc hFc hk1 hz1
  generalize H1 = H at hP hS ⊢
  have hP : va_P (dC, dI) rfCl [(ev, .inl (aC 5, 0, .inr (.inr (.inr (.inr ef))))), (fa, .inl (aC 4, 5, .inr (.inr (.inr (.inr uf))))), (s0, .inr (1, [.ref b0, .ref r0, .int 0])), (b0, .inl (aC 0, 128, .inl (fun _ => 0))), (pa, .inr (1, [.ref pb, .ref pr, .int 0])), (pb, .inl (aC 0, 128, .inl (fun _ => 0))), (md, .inr (1, [.ref mb, .ref mr, .int 0])), (mb, .inl (aC 0, 128, .inl (fun _ => 0))), (mk, .inr (6, [.ref k1, .ref k2])), (rg, .inr (4, [.ref g1, .ref g2, .ref g3, .ref g4, .ref wi])), (wi, .inl (aC 2, 256, .inr (.inl (fun _ => 0)))), (li, .inr (13, [.int mc, .ref ev, .int 0])), (q1, .inr (11, [.ref pt, .ref fa, .int 0, .ref pa, .ref o1, .ref md, .ref o2, .ref o3, .ref rg, .ref o4, .ref mk, .ref o5, .ref o6, .ref o7, .ref o8])), (pt, .inr (0, [.ref w, .int 7, .int 124])), (w, .inl (aC 1, 7, .inl u11)), (q7, .inr (12, [.long u30, .null])), (q4, .inr (14, [.int 0, .int 7, .ref wt2, .int 3, .ref li, .ref sc, .ref lo, .ref hi, .long 0]))] H := hP
  have hD : va_D A [(ev, .inl (aC 5, 0, .inr (.inr (.inr (.inr ef))))), (fa, .inl (aC 4, 5, .inr (.inr (.inr (.inr uf))))), (s0, .inr (1, [.ref b0, .ref r0, .int 0])), (b0, .inl (aC 0, 128, .inl (fun _ => 0))), (pa, .inr (1, [.ref pb, .ref pr, .int 0])), (pb, .inl (aC 0, 128, .inl (fun _ => 0))), (md, .inr (1, [.ref mb, .ref mr, .int 0])), (mb, .inl (aC 0, 128, .inl (fun _ => 0))), (mk, .inr (6, [.ref k1, .ref k2])), (rg, .inr (4, [.ref g1, .ref g2, .ref g3, .ref g4, .ref wi])), (wi, .inl (aC 2, 256, .inr (.inl (fun _ => 0)))), (li, .inr (13, [.int mc, .ref ev, .int 0])), (q1, .inr (11, [.ref pt, .ref fa, .int 0, .ref pa, .ref o1, .ref md, .ref o2, .ref o3, .ref rg, .ref o4, .ref mk, .ref o5, .ref o6, .ref o7, .ref o8])), (pt, .inr (0, [.ref w, .int 7, .int 124])), (w, .inl (aC 1, 7, .inl u11)), (q7, .inr (12, [.long u30, .null])), (q4, .inr (14, [.int 0, .int 7, .ref wt2, .int 3, .ref li, .ref sc, .ref lo, .ref hi, .long 0]))] := hD
  refine W.widen (k := 101) (n := 6383) (by omega) (by omega) ?_
  refine lv_istore (lv' := [(6, .int r35), (5, .int 0), (4, .int (nI 8)), (0, .ref b), (1, .ref q1), (2, .ref q4), (3, .ref q7)]) hx hb dL_law_355 hl (by decide) rfl (fun ls hl => ?_)
  refine lv_goto (tgt := 2083) hx hb dL_law_357 (by decide) ?_
  refine lv_iinc (v := (nI 12)) (lv' := [(4, .int (nI 12)), (6, .int r35), (5, .int 0), (0, .ref b), (1, .ref q1), (2, .ref q4), (3, .ref q7)]) hx hb dL_law_2083 hl (k := 2) rfl (by rw [show Int32.ofInt 4 = nI 4 from by decide, nI_add]) (by decide) rfl (fun ls hl => ?_)
  refine lv_goto (tgt := 27) hx hb dL_law_2086 (by decide) ?_
  have hl : lv_has ls 8 [(4, .int (nI 12)), (0, .ref b), (1, .ref q1), (2, .ref q4), (3, .ref q7)] := lv_sub hl [0, 3, 4, 5, 6] rfl
  refine lv_iload hx hb dL_law_27 (lv_at hl 0 rfl) ?_
  refine lv_aload_n hx hb dL_law_29 rfl (lv_at hl 1 rfl) ?_
  refine va_slen hx hb hX hbl hbA hS dL_law_30 ?_
  refine lv_iconst (v := 4) hx hb dL_law_31 (by decide) ?_
  refine lv_isub hx hb dL_law_32 ?_
  refine lv_topi (fun t36 et36 => ?_)
  have hl9 : t36 = nI 1816 := by rw [et36]; decide
  subst hl9
  refine lv_icmp_gt (tgt := 2089) hx hb dL_law_33 (by decide) (fun c9 => absurd c9 (nI_nlt (by omega) (by decide))) (fun _ => ?_)
  refine lv_aload_n hx hb dL_law_36 rfl (lv_at hl 1 rfl) ?_
  refine lv_iload hx hb dL_law_37 (lv_at hl 0 rfl) ?_
  refine va_sld hx hb hX hbl hbA hS (vp_in_nI (n := 12) (by omega) (by decide)) dL_law_39 ?_
  refine W.eq (g2 := F0 m 40 ls [.int 2]) (by rw [nI_clamp (n := 12) (by omega), (show xs (12) = 2 from hX1.2.2.2.2.2.2.2.2.1)]) ?_
  refine lv_bipush (v := 63) hx hb dL_law_40 (by decide) ?_
  refine lv_iand hx hb dL_law_42 ?_
  refine lv_topi (fun t37 et37 => ?_)
  have hl9 : t37 = 2 := by rw [et37]; decide
  subst hl9
  refine lv_tableIn (off := 261) (tgt := 304) hx hb dL_law_43 (by decide) (by decide) (by decide) (by decide) ?_
  refine lv_aload_n hx hb dL_law_304 rfl (lv_at hl 2 rfl) ?_
  refine lv_aload_n hx hb dL_law_305 rfl (lv_at hl 1 rfl) ?_
  refine lv_iload hx hb dL_law_306 (lv_at hl 0 rfl) ?_
  refine lv_iconst (v := 1) hx hb dL_law_308 (by decide) ?_
  refine lv_iadd hx hb dL_law_309 ?_
  refine lv_topi (fun t38 et38 => ?_)
  have hl9 : t38 = nI (12 + 1) := et38.trans (nI_add (12) 1)
  subst hl9
  refine va_sld hx hb hX hbl hbA hS (vp_in_nI (n := 12 + 1) (by omega) (by decide)) dL_law_310 ?_
  refine W.eq (g2 := F0 m 311 ls [.int 2, .ref q1]) (by rw [nI_clamp (n := 12 + 1) (by omega), (show xs (12 + 1) = 2 from hX1.2.2.2.2.2.2.2.2.2.1)]) ?_
  refine lv_aload_n hx hb dL_law_311 rfl (lv_at hl 1 rfl) ?_
  refine lv_iload hx hb dL_law_312 (lv_at hl 0 rfl) ?_
  refine lv_iconst (v := 2) hx hb dL_law_314 (by decide) ?_
  refine lv_iadd hx hb dL_law_315 ?_
  refine lv_topi (fun t39 et39 => ?_)
  have hl9 : t39 = nI (12 + 2) := et39.trans (nI_add (12) 2)
  subst hl9
  refine va_sld hx hb hX hbl hbA hS (vp_in_nI (n := 12 + 2) (by omega) (by decide)) dL_law_316 ?_
  refine W.eq (g2 := F0 m 317 ls [.int 1, .int 2, .ref q1]) (by rw [nI_clamp (n := 12 + 2) (by omega), (show xs (12 + 2) = 1 from hX1.2.2.2.2.2.2.2.2.2.2.1)]) ?_
  refine lv_if_eq (tgt := 324) hx hb dL_law_317 (by decide) (fun c9 => absurd c9 (by decide)) (fun _ => ?_)
  refine lv_iconst (v := 1) hx hb dL_law_320 (by decide) ?_
  refine lv_goto (tgt := 325) hx hb dL_law_321 (by decide) ?_
  refine lv_aload_n hx hb dL_law_325 rfl (lv_at hl 4 rfl) ?_
  have hPc := hP.sub (ws' := [(q1, .inr (11, [.ref pt, .ref fa, .int 0, .ref pa, .ref o1, .ref md, .ref o2, .ref o3, .ref rg, .ref o4, .ref mk, .ref o5, .ref o6, .ref o7, .ref o8])), (pt, .inr (0, [.ref w, .int 7, .int 124])), (w, .inl (aC 1, 7, .inl u11)), (q7, .inr (12, [.long u30, .null]))]) [12, 13, 14, 15] rfl
  have hDc := hD.sub (ws' := [(q1, .inr (11, [.ref pt, .ref fa, .int 0, .ref pa, .ref o1, .ref md, .ref o2, .ref o3, .ref rg, .ref o4, .ref mk, .ref o5, .ref o6, .ref o7, .ref o8])), (pt, .inr (0, [.ref w, .int 7, .int 124])), (w, .inl (aC 1, 7, .inl u11)), (q7, .inr (12, [.long u30, .null]))]) [12, 13, 14, 15] (by decide) rfl
  have hFc := va_free (wc := [(q1, .inr (11, [.ref pt, .ref fa, .int 0, .ref pa, .ref o1, .ref md, .ref o2, .ref o3, .ref rg, .ref o4, .ref mk, .ref o5, .ref o6, .ref o7, .ref o8])), (pt, .inr (0, [.ref w, .int 7, .int 124])), (w, .inl (aC 1, 7, .inl u11)), (q7, .inr (12, [.long u30, .null]))]) hD hS hA [12, 13, 14, 15] rfl
  refine va_calli (vx_runSW (As := [.ref q1, .int 2, .int 1, .ref q7]) (rest := []) ⟨hx, hb, hml, hown, hts⟩ (c_L_die l dC dI aC H.size q1 pt fa pa md rg mk (.ref o1) (.ref o2) (.ref o3) (.ref o4) (.ref o5) (.ref o6) (.ref o7) (.ref o8) 0 w u11 7 124 2 120 q7 u30 .null (by decide) (by decide) (by decide) (by decide)) (vx_cwSW 4 hts gT_L_die rfl rfl rfl (by decide +kernel) ⟨Nat.le_of_ble_eq_true rfl, Nat.le_of_ble_eq_true rfl⟩) (rf_ps hK hN hPc hDc) rfl rfl hl.1 rfl (lv_room (Nat.le_of_ble_eq_true rfl)) dL_law_326 ⟨(by show 101 + 0 ≤ 3000; omega), (by show 6383 + 0 ≤ 7371873; omega)⟩) hS (fun q _ h => hFc q h) hFc (fun r41 u40 t H1 locs ht hvm hwu40 hB hz1 hk1 hS => ?_)
  obtain ⟨hP1, hD1⟩ := hB
  rw [ht] at hP1
  try dsimp only at hwu40 hP1 hD1
  obtain ⟨hP, hD⟩ := va_join (wr := [(ev, .inl (aC 5, 0, .inr (.inr (.inr (.inr ef))))), (fa, .inl (aC 4, 5, .inr (.inr (.inr (.inr uf))))), (s0, .inr (1, [.ref b0, .ref r0, .int 0])), (b0, .inl (aC 0, 128, .inl (fun _ => 0))), (pa, .inr (1, [.ref pb, .ref pr, .int 0])), (pb, .inl (aC 0, 128, .inl (fun _ => 0))), (md, .inr (1, [.ref mb, .ref mr, .int 0])), (mb, .inl (aC 0, 128, .inl (fun _ => 0))), (mk, .inr (6, [.ref k1, .ref k2])), (rg, .inr (4, [.ref g1, .ref g2, .ref g3, .ref g4, .ref wi])), (wi, .inl (aC 2, 256, .inr (.inl (fun _ => 0)))), (li, .inr (13, [.int mc, .ref ev, .int 0])), (q4, .inr (14, [.int 0, .int 7, .ref wt2, .int 3, .ref li, .ref sc, .ref lo, .ref hi, .long 0]))]) (w1 := [(q1, .inr (11, [.ref pt, .ref fa, .int 0, .ref pa, .ref o1, .ref md, .ref o2, .ref o3, .ref rg, .ref o4, .ref mk, .ref o5, .ref o6, .ref o7, .ref o8])), (pt, .inr (0, [.ref w, .int 7, .int 120])), (w, .inl (aC 1, 7, .inl u11)), (q7, .inr (12, [.long u40, .null]))]) hP hD [12, 13, 14, 15] [0, 1, 2, 3, 4, 5, 6, 7, 8, 9, 10, 11, 16] rfl rfl (by decide) (by decide) hk1 hFc hP1 hD1
  clear hP1 hD1 hPc hDc hFc hk1 hz1
  generalize H1 = H at hP hS ⊢
  have hP : va_P (dC, dI) rfCl [(ev, .inl (aC 5, 0, .inr (.inr (.inr (.inr ef))))), (fa, .inl (aC 4, 5, .inr (.inr (.inr (.inr uf))))), (s0, .inr (1, [.ref b0, .ref r0, .int 0])), (b0, .inl (aC 0, 128, .inl (fun _ => 0))), (pa, .inr (1, [.ref pb, .ref pr, .int 0])), (pb, .inl (aC 0, 128, .inl (fun _ => 0))), (md, .inr (1, [.ref mb, .ref mr, .int 0])), (mb, .inl (aC 0, 128, .inl (fun _ => 0))), (mk, .inr (6, [.ref k1, .ref k2])), (rg, .inr (4, [.ref g1, .ref g2, .ref g3, .ref g4, .ref wi])), (wi, .inl (aC 2, 256, .inr (.inl (fun _ => 0)))), (li, .inr (13, [.int mc, .ref ev, .int 0])), (q4, .inr (14, [.int 0, .int 7, .ref wt2, .int 3, .ref li, .ref sc, .ref lo, .ref hi, .long 0])), (q1, .inr (11, [.ref pt, .ref fa, .int 0, .ref pa, .ref o1, .ref md, .ref o2, .ref o3, .ref rg, .ref o4, .ref mk, .ref o5, .ref o6, .ref o7, .ref o8])), (pt, .inr (0, [.ref w, .int 7, .int 120])), (w, .inl (aC 1, 7, .inl u11)), (q7, .inr (12, [.long u40, .null]))] H := hP
  have hD : va_D A [(ev, .inl (aC 5, 0, .inr (.inr (.inr (.inr ef))))), (fa, .inl (aC 4, 5, .inr (.inr (.inr (.inr uf))))), (s0, .inr (1, [.ref b0, .ref r0, .int 0])), (b0, .inl (aC 0, 128, .inl (fun _ => 0))), (pa, .inr (1, [.ref pb, .ref pr, .int 0])), (pb, .inl (aC 0, 128, .inl (fun _ => 0))), (md, .inr (1, [.ref mb, .ref mr, .int 0])), (mb, .inl (aC 0, 128, .inl (fun _ => 0))), (mk, .inr (6, [.ref k1, .ref k2])), (rg, .inr (4, [.ref g1, .ref g2, .ref g3, .ref g4, .ref wi])), (wi, .inl (aC 2, 256, .inr (.inl (fun _ => 0)))), (li, .inr (13, [.int mc, .ref ev, .int 0])), (q4, .inr (14, [.int 0, .int 7, .ref wt2, .int 3, .ref li, .ref sc, .ref lo, .ref hi, .long 0])), (q1, .inr (11, [.ref pt, .ref fa, .int 0, .ref pa, .ref o1, .ref md, .ref o2, .ref o3, .ref rg, .ref o4, .ref mk, .ref o5, .ref o6, .ref o7, .ref o8])), (pt, .inr (0, [.ref w, .int 7, .int 120])), (w, .inl (aC 1, 7, .inl u11)), (q7, .inr (12, [.long u40, .null]))] := hD
  refine W.widen (k := 101) (n := 6383) (by omega) (by omega) ?_
  subst hwu40
  refine lv_istore (lv' := [(5, .int 0), (4, .int (nI 12)), (0, .ref b), (1, .ref q1), (2, .ref q4), (3, .ref q7)]) hx hb dL_law_329 hl (by decide) rfl (fun ls hl => ?_)
  refine lv_aload_n hx hb dL_law_331 rfl (lv_at hl 4 rfl) ?_
  refine lv_aload_n hx hb dL_law_332 rfl (lv_at hl 2 rfl) ?_
  refine lv_iload hx hb dL_law_333 (lv_at hl 1 rfl) ?_
  refine lv_iconst (v := 1) hx hb dL_law_335 (by decide) ?_
  refine lv_iadd hx hb dL_law_336 ?_
  refine lv_topi (fun t42 et42 => ?_)
  have hl9 : t42 = nI (12 + 1) := et42.trans (nI_add (12) 1)
  subst hl9
  refine va_sld hx hb hX hbl hbA hS (vp_in_nI (n := 12 + 1) (by omega) (by decide)) dL_law_337 ?_
  refine W.eq (g2 := F0 m 338 ls [.int 2, .ref q4]) (by rw [nI_clamp (n := 12 + 1) (by omega), (show xs (12 + 1) = 2 from hX1.2.2.2.2.2.2.2.2.2.1)]) ?_
  refine lv_aload_n hx hb dL_law_338 rfl (lv_at hl 2 rfl) ?_
  refine lv_iload hx hb dL_law_339 (lv_at hl 1 rfl) ?_
  refine lv_iconst (v := 2) hx hb dL_law_341 (by decide) ?_
  refine lv_iadd hx hb dL_law_342 ?_
  refine lv_topi (fun t43 et43 => ?_)
  have hl9 : t43 = nI (12 + 2) := et43.trans (nI_add (12) 2)
  subst hl9
  refine va_sld hx hb hX hbl hbA hS (vp_in_nI (n := 12 + 2) (by omega) (by decide)) dL_law_343 ?_
  refine W.eq (g2 := F0 m 344 ls [.int 1, .int 2, .ref q4]) (by rw [nI_clamp (n := 12 + 2) (by omega), (show xs (12 + 2) = 1 from hX1.2.2.2.2.2.2.2.2.2.2.1)]) ?_
  refine lv_if_eq (tgt := 351) hx hb dL_law_344 (by decide) (fun c9 => absurd c9 (by decide)) (fun _ => ?_)
  refine lv_iconst (v := 1) hx hb dL_law_347 (by decide) ?_
  refine lv_goto (tgt := 352) hx hb dL_law_348 (by decide) ?_
  have hPc := hP.sub (ws' := [(q4, .inr (14, [.int 0, .int 7, .ref wt2, .int 3, .ref li, .ref sc, .ref lo, .ref hi, .long 0]))]) [12] rfl
  have hDc := hD.sub (ws' := [(q4, .inr (14, [.int 0, .int 7, .ref wt2, .int 3, .ref li, .ref sc, .ref lo, .ref hi, .long 0]))]) [12] (by decide) rfl
  have hFc := va_free (wc := [(q4, .inr (14, [.int 0, .int 7, .ref wt2, .int 3, .ref li, .ref sc, .ref lo, .ref hi, .long 0]))]) hD hS hA [12] rfl
  refine va_calli (va_runV (As := [.int 2, .int 1]) (rest := []) ⟨hx, hb, hml, hown, hts⟩ (c_X14_die l dC dI aC H.size q4 0 7 3 li (.ref wt2) (.ref sc) (.ref lo) (.ref hi) (.long 0) 2 7 128 120 (by decide) (by decide) (by decide) (by decide) (by decide)) (cwV 2 hts gT_X14_die rfl rfl rfl (by decide +kernel) ⟨Nat.le_of_ble_eq_true rfl, Nat.le_of_ble_eq_true rfl⟩) (rf_pv hK hN hPc hDc (va_recv hK hP (ci := 14) (q0 := 12) rfl rfl)) rfl rfl hl.1 rfl (lv_room (Nat.le_of_ble_eq_true rfl)) dL_law_352 ⟨(by show 101 + 0 ≤ 3000; omega), (by show 6383 + 0 ≤ 7371873; omega)⟩) hS (fun q _ h => hFc q h) hFc (fun r45 u44 t H1 locs ht hvm hwu44 hB hz1 hk1 hS => ?_)
  obtain ⟨hP1, hD1⟩ := hB
  rw [ht] at hP1
  try dsimp only at hwu44 hP1 hD1
  obtain ⟨hP, hD⟩ := va_join (wr := [(ev, .inl (aC 5, 0, .inr (.inr (.inr (.inr ef))))), (fa, .inl (aC 4, 5, .inr (.inr (.inr (.inr uf))))), (s0, .inr (1, [.ref b0, .ref r0, .int 0])), (b0, .inl (aC 0, 128, .inl (fun _ => 0))), (pa, .inr (1, [.ref pb, .ref pr, .int 0])), (pb, .inl (aC 0, 128, .inl (fun _ => 0))), (md, .inr (1, [.ref mb, .ref mr, .int 0])), (mb, .inl (aC 0, 128, .inl (fun _ => 0))), (mk, .inr (6, [.ref k1, .ref k2])), (rg, .inr (4, [.ref g1, .ref g2, .ref g3, .ref g4, .ref wi])), (wi, .inl (aC 2, 256, .inr (.inl (fun _ => 0)))), (li, .inr (13, [.int mc, .ref ev, .int 0])), (q1, .inr (11, [.ref pt, .ref fa, .int 0, .ref pa, .ref o1, .ref md, .ref o2, .ref o3, .ref rg, .ref o4, .ref mk, .ref o5, .ref o6, .ref o7, .ref o8])), (pt, .inr (0, [.ref w, .int 7, .int 120])), (w, .inl (aC 1, 7, .inl u11)), (q7, .inr (12, [.long u40, .null]))]) (w1 := [(q4, .inr (14, [.int 0, .int 7, .ref wt2, .int 7, .ref li, .ref sc, .ref lo, .ref hi, .long 0]))]) hP hD [12] [0, 1, 2, 3, 4, 5, 6, 7, 8, 9, 10, 11, 13, 14, 15, 16] rfl rfl (by decide) (by decide) hk1 hFc hP1 hD1
  clear hP1 hD1 hPc hDc hFc hk1 hz1
  generalize H1 = H at hP hS ⊢
  have hP : va_P (dC, dI) rfCl [(ev, .inl (aC 5, 0, .inr (.inr (.inr (.inr ef))))), (fa, .inl (aC 4, 5, .inr (.inr (.inr (.inr uf))))), (s0, .inr (1, [.ref b0, .ref r0, .int 0])), (b0, .inl (aC 0, 128, .inl (fun _ => 0))), (pa, .inr (1, [.ref pb, .ref pr, .int 0])), (pb, .inl (aC 0, 128, .inl (fun _ => 0))), (md, .inr (1, [.ref mb, .ref mr, .int 0])), (mb, .inl (aC 0, 128, .inl (fun _ => 0))), (mk, .inr (6, [.ref k1, .ref k2])), (rg, .inr (4, [.ref g1, .ref g2, .ref g3, .ref g4, .ref wi])), (wi, .inl (aC 2, 256, .inr (.inl (fun _ => 0)))), (li, .inr (13, [.int mc, .ref ev, .int 0])), (q1, .inr (11, [.ref pt, .ref fa, .int 0, .ref pa, .ref o1, .ref md, .ref o2, .ref o3, .ref rg, .ref o4, .ref mk, .ref o5, .ref o6, .ref o7, .ref o8])), (pt, .inr (0, [.ref w, .int 7, .int 120])), (w, .inl (aC 1, 7, .inl u11)), (q7, .inr (12, [.long u40, .null])), (q4, .inr (14, [.int 0, .int 7, .ref wt2, .int 7, .ref li, .ref sc, .ref lo, .ref hi, .long 0]))] H := hP
  have hD : va_D A [(ev, .inl (aC 5, 0, .inr (.inr (.inr (.inr ef))))), (fa, .inl (aC 4, 5, .inr (.inr (.inr (.inr uf))))), (s0, .inr (1, [.ref b0, .ref r0, .int 0])), (b0, .inl (aC 0, 128, .inl (fun _ => 0))), (pa, .inr (1, [.ref pb, .ref pr, .int 0])), (pb, .inl (aC 0, 128, .inl (fun _ => 0))), (md, .inr (1, [.ref mb, .ref mr, .int 0])), (mb, .inl (aC 0, 128, .inl (fun _ => 0))), (mk, .inr (6, [.ref k1, .ref k2])), (rg, .inr (4, [.ref g1, .ref g2, .ref g3, .ref g4, .ref wi])), (wi, .inl (aC 2, 256, .inr (.inl (fun _ => 0)))), (li, .inr (13, [.int mc, .ref ev, .int 0])), (q1, .inr (11, [.ref pt, .ref fa, .int 0, .ref pa, .ref o1, .ref md, .ref o2, .ref o3, .ref rg, .ref o4, .ref mk, .ref o5, .ref o6, .ref o7, .ref o8])), (pt, .inr (0, [.ref w, .int 7, .int 120])), (w, .inl (aC 1, 7, .inl u11)), (q7, .inr (12, [.long u40, .null])), (q4, .inr (14, [.int 0, .int 7, .ref wt2, .int 7, .ref li, .ref sc, .ref lo, .ref hi, .long 0]))] := hD
  refine W.widen (k := 101) (n := 6383) (by omega) (by omega) ?_
  refine lv_istore (lv' := [(6, .int r45), (5, .int 0), (4, .int (nI 12)), (0, .ref b), (1, .ref q1), (2, .ref q4), (3, .ref q7)]) hx hb dL_law_355 hl (by decide) rfl (fun ls hl => ?_)
  refine lv_goto (tgt := 2083) hx hb dL_law_357 (by decide) ?_
  refine lv_iinc (v := (nI 16)) (lv' := [(4, .int (nI 16)), (6, .int r45), (5, .int 0), (0, .ref b), (1, .ref q1), (2, .ref q4), (3, .ref q7)]) hx hb dL_law_2083 hl (k := 2) rfl (by rw [show Int32.ofInt 4 = nI 4 from by decide, nI_add]) (by decide) rfl (fun ls hl => ?_)
  refine lv_goto (tgt := 27) hx hb dL_law_2086 (by decide) ?_
  have hl : lv_has ls 8 [(4, .int (nI 16)), (0, .ref b), (1, .ref q1), (2, .ref q4), (3, .ref q7)] := lv_sub hl [0, 3, 4, 5, 6] rfl
  refine lv_iload hx hb dL_law_27 (lv_at hl 0 rfl) ?_
  refine lv_aload_n hx hb dL_law_29 rfl (lv_at hl 1 rfl) ?_
  refine va_slen hx hb hX hbl hbA hS dL_law_30 ?_
  refine lv_iconst (v := 4) hx hb dL_law_31 (by decide) ?_
  refine lv_isub hx hb dL_law_32 ?_
  refine lv_topi (fun t46 et46 => ?_)
  have hl9 : t46 = nI 1816 := by rw [et46]; decide
  subst hl9
  refine lv_icmp_gt (tgt := 2089) hx hb dL_law_33 (by decide) (fun c9 => absurd c9 (nI_nlt (by omega) (by decide))) (fun _ => ?_)
  refine lv_aload_n hx hb dL_law_36 rfl (lv_at hl 1 rfl) ?_
  refine lv_iload hx hb dL_law_37 (lv_at hl 0 rfl) ?_
  refine va_sld hx hb hX hbl hbA hS (vp_in_nI (n := 16) (by omega) (by decide)) dL_law_39 ?_
  refine W.eq (g2 := F0 m 40 ls [.int 2]) (by rw [nI_clamp (n := 16) (by omega), (show xs (16) = 2 from hX1.2.2.2.2.2.2.2.2.2.2.2.1)]) ?_
  refine lv_bipush (v := 63) hx hb dL_law_40 (by decide) ?_
  refine lv_iand hx hb dL_law_42 ?_
  refine lv_topi (fun t47 et47 => ?_)
  have hl9 : t47 = 2 := by rw [et47]; decide
  subst hl9
  refine lv_tableIn (off := 261) (tgt := 304) hx hb dL_law_43 (by decide) (by decide) (by decide) (by decide) ?_
  refine lv_aload_n hx hb dL_law_304 rfl (lv_at hl 2 rfl) ?_
  refine lv_aload_n hx hb dL_law_305 rfl (lv_at hl 1 rfl) ?_
  refine lv_iload hx hb dL_law_306 (lv_at hl 0 rfl) ?_
  refine lv_iconst (v := 1) hx hb dL_law_308 (by decide) ?_
  refine lv_iadd hx hb dL_law_309 ?_
  refine lv_topi (fun t48 et48 => ?_)
  have hl9 : t48 = nI (16 + 1) := et48.trans (nI_add (16) 1)
  subst hl9
  refine va_sld hx hb hX hbl hbA hS (vp_in_nI (n := 16 + 1) (by omega) (by decide)) dL_law_310 ?_
  refine W.eq (g2 := F0 m 311 ls [.int 3, .ref q1]) (by rw [nI_clamp (n := 16 + 1) (by omega), (show xs (16 + 1) = 3 from hX1.2.2.2.2.2.2.2.2.2.2.2.2.1)]) ?_
  refine lv_aload_n hx hb dL_law_311 rfl (lv_at hl 1 rfl) ?_
  refine lv_iload hx hb dL_law_312 (lv_at hl 0 rfl) ?_
  refine lv_iconst (v := 2) hx hb dL_law_314 (by decide) ?_
  refine lv_iadd hx hb dL_law_315 ?_
  refine lv_topi (fun t49 et49 => ?_)
  have hl9 : t49 = nI (16 + 2) := et49.trans (nI_add (16) 2)
  subst hl9
  refine va_sld hx hb hX hbl hbA hS (vp_in_nI (n := 16 + 2) (by omega) (by decide)) dL_law_316 ?_
  refine W.eq (g2 := F0 m 317 ls [.int 1, .int 3, .ref q1]) (by rw [nI_clamp (n := 16 + 2) (by omega), (show xs (16 + 2) = 1 from hX1.2.2.2.2.2.2.2.2.2.2.2.2.2.1)]) ?_
  refine lv_if_eq (tgt := 324) hx hb dL_law_317 (by decide) (fun c9 => absurd c9 (by decide)) (fun _ => ?_)
  refine lv_iconst (v := 1) hx hb dL_law_320 (by decide) ?_
  refine lv_goto (tgt := 325) hx hb dL_law_321 (by decide) ?_
  refine lv_aload_n hx hb dL_law_325 rfl (lv_at hl 4 rfl) ?_
  have hPc := hP.sub (ws' := [(q1, .inr (11, [.ref pt, .ref fa, .int 0, .ref pa, .ref o1, .ref md, .ref o2, .ref o3, .ref rg, .ref o4, .ref mk, .ref o5, .ref o6, .ref o7, .ref o8])), (pt, .inr (0, [.ref w, .int 7, .int 120])), (w, .inl (aC 1, 7, .inl u11)), (q7, .inr (12, [.long u40, .null]))]) [12, 13, 14, 15] rfl
  have hDc := hD.sub (ws' := [(q1, .inr (11, [.ref pt, .ref fa, .int 0, .ref pa, .ref o1, .ref md, .ref o2, .ref o3, .ref rg, .ref o4, .ref mk, .ref o5, .ref o6, .ref o7, .ref o8])), (pt, .inr (0, [.ref w, .int 7, .int 120])), (w, .inl (aC 1, 7, .inl u11)), (q7, .inr (12, [.long u40, .null]))]) [12, 13, 14, 15] (by decide) rfl
  have hFc := va_free (wc := [(q1, .inr (11, [.ref pt, .ref fa, .int 0, .ref pa, .ref o1, .ref md, .ref o2, .ref o3, .ref rg, .ref o4, .ref mk, .ref o5, .ref o6, .ref o7, .ref o8])), (pt, .inr (0, [.ref w, .int 7, .int 120])), (w, .inl (aC 1, 7, .inl u11)), (q7, .inr (12, [.long u40, .null]))]) hD hS hA [12, 13, 14, 15] rfl
  refine va_calli (vx_runSW (As := [.ref q1, .int 3, .int 1, .ref q7]) (rest := []) ⟨hx, hb, hml, hown, hts⟩ (c_L_die l dC dI aC H.size q1 pt fa pa md rg mk (.ref o1) (.ref o2) (.ref o3) (.ref o4) (.ref o5) (.ref o6) (.ref o7) (.ref o8) 0 w u11 7 120 3 112 q7 u40 .null (by decide) (by decide) (by decide) (by decide)) (vx_cwSW 4 hts gT_L_die rfl rfl rfl (by decide +kernel) ⟨Nat.le_of_ble_eq_true rfl, Nat.le_of_ble_eq_true rfl⟩) (rf_ps hK hN hPc hDc) rfl rfl hl.1 rfl (lv_room (Nat.le_of_ble_eq_true rfl)) dL_law_326 ⟨(by show 101 + 0 ≤ 3000; omega), (by show 6383 + 0 ≤ 7371873; omega)⟩) hS (fun q _ h => hFc q h) hFc (fun r51 u50 t H1 locs ht hvm hwu50 hB hz1 hk1 hS => ?_)
  obtain ⟨hP1, hD1⟩ := hB
  rw [ht] at hP1
  try dsimp only at hwu50 hP1 hD1
  obtain ⟨hP, hD⟩ := va_join (wr := [(ev, .inl (aC 5, 0, .inr (.inr (.inr (.inr ef))))), (fa, .inl (aC 4, 5, .inr (.inr (.inr (.inr uf))))), (s0, .inr (1, [.ref b0, .ref r0, .int 0])), (b0, .inl (aC 0, 128, .inl (fun _ => 0))), (pa, .inr (1, [.ref pb, .ref pr, .int 0])), (pb, .inl (aC 0, 128, .inl (fun _ => 0))), (md, .inr (1, [.ref mb, .ref mr, .int 0])), (mb, .inl (aC 0, 128, .inl (fun _ => 0))), (mk, .inr (6, [.ref k1, .ref k2])), (rg, .inr (4, [.ref g1, .ref g2, .ref g3, .ref g4, .ref wi])), (wi, .inl (aC 2, 256, .inr (.inl (fun _ => 0)))), (li, .inr (13, [.int mc, .ref ev, .int 0])), (q4, .inr (14, [.int 0, .int 7, .ref wt2, .int 7, .ref li, .ref sc, .ref lo, .ref hi, .long 0]))]) (w1 := [(q1, .inr (11, [.ref pt, .ref fa, .int 0, .ref pa, .ref o1, .ref md, .ref o2, .ref o3, .ref rg, .ref o4, .ref mk, .ref o5, .ref o6, .ref o7, .ref o8])), (pt, .inr (0, [.ref w, .int 7, .int 112])), (w, .inl (aC 1, 7, .inl u11)), (q7, .inr (12, [.long u50, .null]))]) hP hD [12, 13, 14, 15] [0, 1, 2, 3, 4, 5, 6, 7, 8, 9, 10, 11, 16] rfl rfl (by decide) (by decide) hk1 hFc hP1 hD1
  clear hP1 hD1 hPc hDc hFc hk1 hz1
  generalize H1 = H at hP hS ⊢
  have hP : va_P (dC, dI) rfCl [(ev, .inl (aC 5, 0, .inr (.inr (.inr (.inr ef))))), (fa, .inl (aC 4, 5, .inr (.inr (.inr (.inr uf))))), (s0, .inr (1, [.ref b0, .ref r0, .int 0])), (b0, .inl (aC 0, 128, .inl (fun _ => 0))), (pa, .inr (1, [.ref pb, .ref pr, .int 0])), (pb, .inl (aC 0, 128, .inl (fun _ => 0))), (md, .inr (1, [.ref mb, .ref mr, .int 0])), (mb, .inl (aC 0, 128, .inl (fun _ => 0))), (mk, .inr (6, [.ref k1, .ref k2])), (rg, .inr (4, [.ref g1, .ref g2, .ref g3, .ref g4, .ref wi])), (wi, .inl (aC 2, 256, .inr (.inl (fun _ => 0)))), (li, .inr (13, [.int mc, .ref ev, .int 0])), (q4, .inr (14, [.int 0, .int 7, .ref wt2, .int 7, .ref li, .ref sc, .ref lo, .ref hi, .long 0])), (q1, .inr (11, [.ref pt, .ref fa, .int 0, .ref pa, .ref o1, .ref md, .ref o2, .ref o3, .ref rg, .ref o4, .ref mk, .ref o5, .ref o6, .ref o7, .ref o8])), (pt, .inr (0, [.ref w, .int 7, .int 112])), (w, .inl (aC 1, 7, .inl u11)), (q7, .inr (12, [.long u50, .null]))] H := hP
  have hD : va_D A [(ev, .inl (aC 5, 0, .inr (.inr (.inr (.inr ef))))), (fa, .inl (aC 4, 5, .inr (.inr (.inr (.inr uf))))), (s0, .inr (1, [.ref b0, .ref r0, .int 0])), (b0, .inl (aC 0, 128, .inl (fun _ => 0))), (pa, .inr (1, [.ref pb, .ref pr, .int 0])), (pb, .inl (aC 0, 128, .inl (fun _ => 0))), (md, .inr (1, [.ref mb, .ref mr, .int 0])), (mb, .inl (aC 0, 128, .inl (fun _ => 0))), (mk, .inr (6, [.ref k1, .ref k2])), (rg, .inr (4, [.ref g1, .ref g2, .ref g3, .ref g4, .ref wi])), (wi, .inl (aC 2, 256, .inr (.inl (fun _ => 0)))), (li, .inr (13, [.int mc, .ref ev, .int 0])), (q4, .inr (14, [.int 0, .int 7, .ref wt2, .int 7, .ref li, .ref sc, .ref lo, .ref hi, .long 0])), (q1, .inr (11, [.ref pt, .ref fa, .int 0, .ref pa, .ref o1, .ref md, .ref o2, .ref o3, .ref rg, .ref o4, .ref mk, .ref o5, .ref o6, .ref o7, .ref o8])), (pt, .inr (0, [.ref w, .int 7, .int 112])), (w, .inl (aC 1, 7, .inl u11)), (q7, .inr (12, [.long u50, .null]))] := hD
  refine W.widen (k := 101) (n := 6383) (by omega) (by omega) ?_
  subst hwu50
  refine lv_istore (lv' := [(5, .int 0), (4, .int (nI 16)), (0, .ref b), (1, .ref q1), (2, .ref q4), (3, .ref q7)]) hx hb dL_law_329 hl (by decide) rfl (fun ls hl => ?_)
  refine lv_aload_n hx hb dL_law_331 rfl (lv_at hl 4 rfl) ?_
  refine lv_aload_n hx hb dL_law_332 rfl (lv_at hl 2 rfl) ?_
  refine lv_iload hx hb dL_law_333 (lv_at hl 1 rfl) ?_
  refine lv_iconst (v := 1) hx hb dL_law_335 (by decide) ?_
  refine lv_iadd hx hb dL_law_336 ?_
  refine lv_topi (fun t52 et52 => ?_)
  have hl9 : t52 = nI (16 + 1) := et52.trans (nI_add (16) 1)
  subst hl9
  refine va_sld hx hb hX hbl hbA hS (vp_in_nI (n := 16 + 1) (by omega) (by decide)) dL_law_337 ?_
  refine W.eq (g2 := F0 m 338 ls [.int 3, .ref q4]) (by rw [nI_clamp (n := 16 + 1) (by omega), (show xs (16 + 1) = 3 from hX1.2.2.2.2.2.2.2.2.2.2.2.2.1)]) ?_
  refine lv_aload_n hx hb dL_law_338 rfl (lv_at hl 2 rfl) ?_
  refine lv_iload hx hb dL_law_339 (lv_at hl 1 rfl) ?_
  refine lv_iconst (v := 2) hx hb dL_law_341 (by decide) ?_
  refine lv_iadd hx hb dL_law_342 ?_
  refine lv_topi (fun t53 et53 => ?_)
  have hl9 : t53 = nI (16 + 2) := et53.trans (nI_add (16) 2)
  subst hl9
  refine va_sld hx hb hX hbl hbA hS (vp_in_nI (n := 16 + 2) (by omega) (by decide)) dL_law_343 ?_
  refine W.eq (g2 := F0 m 344 ls [.int 1, .int 3, .ref q4]) (by rw [nI_clamp (n := 16 + 2) (by omega), (show xs (16 + 2) = 1 from hX1.2.2.2.2.2.2.2.2.2.2.2.2.2.1)]) ?_
  refine lv_if_eq (tgt := 351) hx hb dL_law_344 (by decide) (fun c9 => absurd c9 (by decide)) (fun _ => ?_)
  refine lv_iconst (v := 1) hx hb dL_law_347 (by decide) ?_
  refine lv_goto (tgt := 352) hx hb dL_law_348 (by decide) ?_
  have hPc := hP.sub (ws' := [(q4, .inr (14, [.int 0, .int 7, .ref wt2, .int 7, .ref li, .ref sc, .ref lo, .ref hi, .long 0]))]) [12] rfl
  have hDc := hD.sub (ws' := [(q4, .inr (14, [.int 0, .int 7, .ref wt2, .int 7, .ref li, .ref sc, .ref lo, .ref hi, .long 0]))]) [12] (by decide) rfl
  have hFc := va_free (wc := [(q4, .inr (14, [.int 0, .int 7, .ref wt2, .int 7, .ref li, .ref sc, .ref lo, .ref hi, .long 0]))]) hD hS hA [12] rfl
  refine va_calli (va_runV (As := [.int 3, .int 1]) (rest := []) ⟨hx, hb, hml, hown, hts⟩ (c_X14_die l dC dI aC H.size q4 0 7 7 li (.ref wt2) (.ref sc) (.ref lo) (.ref hi) (.long 0) 3 15 128 112 (by decide) (by decide) (by decide) (by decide) (by decide)) (cwV 2 hts gT_X14_die rfl rfl rfl (by decide +kernel) ⟨Nat.le_of_ble_eq_true rfl, Nat.le_of_ble_eq_true rfl⟩) (rf_pv hK hN hPc hDc (va_recv hK hP (ci := 14) (q0 := 12) rfl rfl)) rfl rfl hl.1 rfl (lv_room (Nat.le_of_ble_eq_true rfl)) dL_law_352 ⟨(by show 101 + 0 ≤ 3000; omega), (by show 6383 + 0 ≤ 7371873; omega)⟩) hS (fun q _ h => hFc q h) hFc (fun r55 u54 t H1 locs ht hvm hwu54 hB hz1 hk1 hS => ?_)
  obtain ⟨hP1, hD1⟩ := hB
  rw [ht] at hP1
  try dsimp only at hwu54 hP1 hD1
  obtain ⟨hP, hD⟩ := va_join (wr := [(ev, .inl (aC 5, 0, .inr (.inr (.inr (.inr ef))))), (fa, .inl (aC 4, 5, .inr (.inr (.inr (.inr uf))))), (s0, .inr (1, [.ref b0, .ref r0, .int 0])), (b0, .inl (aC 0, 128, .inl (fun _ => 0))), (pa, .inr (1, [.ref pb, .ref pr, .int 0])), (pb, .inl (aC 0, 128, .inl (fun _ => 0))), (md, .inr (1, [.ref mb, .ref mr, .int 0])), (mb, .inl (aC 0, 128, .inl (fun _ => 0))), (mk, .inr (6, [.ref k1, .ref k2])), (rg, .inr (4, [.ref g1, .ref g2, .ref g3, .ref g4, .ref wi])), (wi, .inl (aC 2, 256, .inr (.inl (fun _ => 0)))), (li, .inr (13, [.int mc, .ref ev, .int 0])), (q1, .inr (11, [.ref pt, .ref fa, .int 0, .ref pa, .ref o1, .ref md, .ref o2, .ref o3, .ref rg, .ref o4, .ref mk, .ref o5, .ref o6, .ref o7, .ref o8])), (pt, .inr (0, [.ref w, .int 7, .int 112])), (w, .inl (aC 1, 7, .inl u11)), (q7, .inr (12, [.long u50, .null]))]) (w1 := [(q4, .inr (14, [.int 0, .int 7, .ref wt2, .int 15, .ref li, .ref sc, .ref lo, .ref hi, .long 0]))]) hP hD [12] [0, 1, 2, 3, 4, 5, 6, 7, 8, 9, 10, 11, 13, 14, 15, 16] rfl rfl (by decide) (by decide) hk1 hFc hP1 hD1
  clear hP1 hD1 hPc hDc hFc hk1 hz1
  generalize H1 = H at hP hS ⊢
  have hP : va_P (dC, dI) rfCl [(ev, .inl (aC 5, 0, .inr (.inr (.inr (.inr ef))))), (fa, .inl (aC 4, 5, .inr (.inr (.inr (.inr uf))))), (s0, .inr (1, [.ref b0, .ref r0, .int 0])), (b0, .inl (aC 0, 128, .inl (fun _ => 0))), (pa, .inr (1, [.ref pb, .ref pr, .int 0])), (pb, .inl (aC 0, 128, .inl (fun _ => 0))), (md, .inr (1, [.ref mb, .ref mr, .int 0])), (mb, .inl (aC 0, 128, .inl (fun _ => 0))), (mk, .inr (6, [.ref k1, .ref k2])), (rg, .inr (4, [.ref g1, .ref g2, .ref g3, .ref g4, .ref wi])), (wi, .inl (aC 2, 256, .inr (.inl (fun _ => 0)))), (li, .inr (13, [.int mc, .ref ev, .int 0])), (q1, .inr (11, [.ref pt, .ref fa, .int 0, .ref pa, .ref o1, .ref md, .ref o2, .ref o3, .ref rg, .ref o4, .ref mk, .ref o5, .ref o6, .ref o7, .ref o8])), (pt, .inr (0, [.ref w, .int 7, .int 112])), (w, .inl (aC 1, 7, .inl u11)), (q7, .inr (12, [.long u50, .null])), (q4, .inr (14, [.int 0, .int 7, .ref wt2, .int 15, .ref li, .ref sc, .ref lo, .ref hi, .long 0]))] H := hP
  have hD : va_D A [(ev, .inl (aC 5, 0, .inr (.inr (.inr (.inr ef))))), (fa, .inl (aC 4, 5, .inr (.inr (.inr (.inr uf))))), (s0, .inr (1, [.ref b0, .ref r0, .int 0])), (b0, .inl (aC 0, 128, .inl (fun _ => 0))), (pa, .inr (1, [.ref pb, .ref pr, .int 0])), (pb, .inl (aC 0, 128, .inl (fun _ => 0))), (md, .inr (1, [.ref mb, .ref mr, .int 0])), (mb, .inl (aC 0, 128, .inl (fun _ => 0))), (mk, .inr (6, [.ref k1, .ref k2])), (rg, .inr (4, [.ref g1, .ref g2, .ref g3, .ref g4, .ref wi])), (wi, .inl (aC 2, 256, .inr (.inl (fun _ => 0)))), (li, .inr (13, [.int mc, .ref ev, .int 0])), (q1, .inr (11, [.ref pt, .ref fa, .int 0, .ref pa, .ref o1, .ref md, .ref o2, .ref o3, .ref rg, .ref o4, .ref mk, .ref o5, .ref o6, .ref o7, .ref o8])), (pt, .inr (0, [.ref w, .int 7, .int 112])), (w, .inl (aC 1, 7, .inl u11)), (q7, .inr (12, [.long u50, .null])), (q4, .inr (14, [.int 0, .int 7, .ref wt2, .int 15, .ref li, .ref sc, .ref lo, .ref hi, .long 0]))] := hD
  refine W.widen (k := 101) (n := 6383) (by omega) (by omega) ?_
  refine lv_istore (lv' := [(6, .int r55), (5, .int 0), (4, .int (nI 16)), (0, .ref b), (1, .ref q1), (2, .ref q4), (3, .ref q7)]) hx hb dL_law_355 hl (by decide) rfl (fun ls hl => ?_)
  refine lv_goto (tgt := 2083) hx hb dL_law_357 (by decide) ?_
  refine lv_iinc (v := (nI 20)) (lv' := [(4, .int (nI 20)), (6, .int r55), (5, .int 0), (0, .ref b), (1, .ref q1), (2, .ref q4), (3, .ref q7)]) hx hb dL_law_2083 hl (k := 2) rfl (by rw [show Int32.ofInt 4 = nI 4 from by decide, nI_add]) (by decide) rfl (fun ls hl => ?_)
  refine lv_goto (tgt := 27) hx hb dL_law_2086 (by decide) ?_
  have hl : lv_has ls 8 [(4, .int (nI 20)), (0, .ref b), (1, .ref q1), (2, .ref q4), (3, .ref q7)] := lv_sub hl [0, 3, 4, 5, 6] rfl
  refine lv_iload hx hb dL_law_27 (lv_at hl 0 rfl) ?_
  refine lv_aload_n hx hb dL_law_29 rfl (lv_at hl 1 rfl) ?_
  refine va_slen hx hb hX hbl hbA hS dL_law_30 ?_
  refine lv_iconst (v := 4) hx hb dL_law_31 (by decide) ?_
  refine lv_isub hx hb dL_law_32 ?_
  refine lv_topi (fun t56 et56 => ?_)
  have hl9 : t56 = nI 1816 := by rw [et56]; decide
  subst hl9
  refine lv_icmp_gt (tgt := 2089) hx hb dL_law_33 (by decide) (fun c9 => absurd c9 (nI_nlt (by omega) (by decide))) (fun _ => ?_)
  refine lv_aload_n hx hb dL_law_36 rfl (lv_at hl 1 rfl) ?_
  refine lv_iload hx hb dL_law_37 (lv_at hl 0 rfl) ?_
  refine va_sld hx hb hX hbl hbA hS (vp_in_nI (n := 20) (by omega) (by decide)) dL_law_39 ?_
  refine W.eq (g2 := F0 m 40 ls [.int 2]) (by rw [nI_clamp (n := 20) (by omega), (show xs (20) = 2 from hX1.2.2.2.2.2.2.2.2.2.2.2.2.2.2.1)]) ?_
  refine lv_bipush (v := 63) hx hb dL_law_40 (by decide) ?_
  refine lv_iand hx hb dL_law_42 ?_
  refine lv_topi (fun t57 et57 => ?_)
  have hl9 : t57 = 2 := by rw [et57]; decide
  subst hl9
  refine lv_tableIn (off := 261) (tgt := 304) hx hb dL_law_43 (by decide) (by decide) (by decide) (by decide) ?_
  refine lv_aload_n hx hb dL_law_304 rfl (lv_at hl 2 rfl) ?_
  refine lv_aload_n hx hb dL_law_305 rfl (lv_at hl 1 rfl) ?_
  refine lv_iload hx hb dL_law_306 (lv_at hl 0 rfl) ?_
  refine lv_iconst (v := 1) hx hb dL_law_308 (by decide) ?_
  refine lv_iadd hx hb dL_law_309 ?_
  refine lv_topi (fun t58 et58 => ?_)
  have hl9 : t58 = nI (20 + 1) := et58.trans (nI_add (20) 1)
  subst hl9
  refine va_sld hx hb hX hbl hbA hS (vp_in_nI (n := 20 + 1) (by omega) (by decide)) dL_law_310 ?_
  refine W.eq (g2 := F0 m 311 ls [.int 4, .ref q1]) (by rw [nI_clamp (n := 20 + 1) (by omega), (show xs (20 + 1) = 4 from hX1.2.2.2.2.2.2.2.2.2.2.2.2.2.2.2.1)]) ?_
  refine lv_aload_n hx hb dL_law_311 rfl (lv_at hl 1 rfl) ?_
  refine lv_iload hx hb dL_law_312 (lv_at hl 0 rfl) ?_
  refine lv_iconst (v := 2) hx hb dL_law_314 (by decide) ?_
  refine lv_iadd hx hb dL_law_315 ?_
  refine lv_topi (fun t59 et59 => ?_)
  have hl9 : t59 = nI (20 + 2) := et59.trans (nI_add (20) 2)
  subst hl9
  refine va_sld hx hb hX hbl hbA hS (vp_in_nI (n := 20 + 2) (by omega) (by decide)) dL_law_316 ?_
  refine W.eq (g2 := F0 m 317 ls [.int 1, .int 4, .ref q1]) (by rw [nI_clamp (n := 20 + 2) (by omega), (show xs (20 + 2) = 1 from hX1.2.2.2.2.2.2.2.2.2.2.2.2.2.2.2.2.1)]) ?_
  refine lv_if_eq (tgt := 324) hx hb dL_law_317 (by decide) (fun c9 => absurd c9 (by decide)) (fun _ => ?_)
  refine lv_iconst (v := 1) hx hb dL_law_320 (by decide) ?_
  refine lv_goto (tgt := 325) hx hb dL_law_321 (by decide) ?_
  refine lv_aload_n hx hb dL_law_325 rfl (lv_at hl 4 rfl) ?_
  have hPc := hP.sub (ws' := [(q1, .inr (11, [.ref pt, .ref fa, .int 0, .ref pa, .ref o1, .ref md, .ref o2, .ref o3, .ref rg, .ref o4, .ref mk, .ref o5, .ref o6, .ref o7, .ref o8])), (pt, .inr (0, [.ref w, .int 7, .int 112])), (w, .inl (aC 1, 7, .inl u11)), (q7, .inr (12, [.long u50, .null]))]) [12, 13, 14, 15] rfl
  have hDc := hD.sub (ws' := [(q1, .inr (11, [.ref pt, .ref fa, .int 0, .ref pa, .ref o1, .ref md, .ref o2, .ref o3, .ref rg, .ref o4, .ref mk, .ref o5, .ref o6, .ref o7, .ref o8])), (pt, .inr (0, [.ref w, .int 7, .int 112])), (w, .inl (aC 1, 7, .inl u11)), (q7, .inr (12, [.long u50, .null]))]) [12, 13, 14, 15] (by decide) rfl
  have hFc := va_free (wc := [(q1, .inr (11, [.ref pt, .ref fa, .int 0, .ref pa, .ref o1, .ref md, .ref o2, .ref o3, .ref rg, .ref o4, .ref mk, .ref o5, .ref o6, .ref o7, .ref o8])), (pt, .inr (0, [.ref w, .int 7, .int 112])), (w, .inl (aC 1, 7, .inl u11)), (q7, .inr (12, [.long u50, .null]))]) hD hS hA [12, 13, 14, 15] rfl
  refine va_calli (vx_runSW (As := [.ref q1, .int 4, .int 1, .ref q7]) (rest := []) ⟨hx, hb, hml, hown, hts⟩ (c_L_die l dC dI aC H.size q1 pt fa pa md rg mk (.ref o1) (.ref o2) (.ref o3) (.ref o4) (.ref o5) (.ref o6) (.ref o7) (.ref o8) 0 w u11 7 112 4 96 q7 u50 .null (by decide) (by decide) (by decide) (by decide)) (vx_cwSW 4 hts gT_L_die rfl rfl rfl (by decide +kernel) ⟨Nat.le_of_ble_eq_true rfl, Nat.le_of_ble_eq_true rfl⟩) (rf_ps hK hN hPc hDc) rfl rfl hl.1 rfl (lv_room (Nat.le_of_ble_eq_true rfl)) dL_law_326 ⟨(by show 101 + 0 ≤ 3000; omega), (by show 6383 + 0 ≤ 7371873; omega)⟩) hS (fun q _ h => hFc q h) hFc (fun r61 u60 t H1 locs ht hvm hwu60 hB hz1 hk1 hS => ?_)
  obtain ⟨hP1, hD1⟩ := hB
  rw [ht] at hP1
  try dsimp only at hwu60 hP1 hD1
  obtain ⟨hP, hD⟩ := va_join (wr := [(ev, .inl (aC 5, 0, .inr (.inr (.inr (.inr ef))))), (fa, .inl (aC 4, 5, .inr (.inr (.inr (.inr uf))))), (s0, .inr (1, [.ref b0, .ref r0, .int 0])), (b0, .inl (aC 0, 128, .inl (fun _ => 0))), (pa, .inr (1, [.ref pb, .ref pr, .int 0])), (pb, .inl (aC 0, 128, .inl (fun _ => 0))), (md, .inr (1, [.ref mb, .ref mr, .int 0])), (mb, .inl (aC 0, 128, .inl (fun _ => 0))), (mk, .inr (6, [.ref k1, .ref k2])), (rg, .inr (4, [.ref g1, .ref g2, .ref g3, .ref g4, .ref wi])), (wi, .inl (aC 2, 256, .inr (.inl (fun _ => 0)))), (li, .inr (13, [.int mc, .ref ev, .int 0])), (q4, .inr (14, [.int 0, .int 7, .ref wt2, .int 15, .ref li, .ref sc, .ref lo, .ref hi, .long 0]))]) (w1 := [(q1, .inr (11, [.ref pt, .ref fa, .int 0, .ref pa, .ref o1, .ref md, .ref o2, .ref o3, .ref rg, .ref o4, .ref mk, .ref o5, .ref o6, .ref o7, .ref o8])), (pt, .inr (0, [.ref w, .int 7, .int 96])), (w, .inl (aC 1, 7, .inl u11)), (q7, .inr (12, [.long u60, .null]))]) hP hD [12, 13, 14, 15] [0, 1, 2, 3, 4, 5, 6, 7, 8, 9, 10, 11, 16] rfl rfl (by decide) (by decide) hk1 hFc hP1 hD1
  clear hP1 hD1 hPc hDc hFc hk1 hz1
  generalize H1 = H at hP hS ⊢
  have hP : va_P (dC, dI) rfCl [(ev, .inl (aC 5, 0, .inr (.inr (.inr (.inr ef))))), (fa, .inl (aC 4, 5, .inr (.inr (.inr (.inr uf))))), (s0, .inr (1, [.ref b0, .ref r0, .int 0])), (b0, .inl (aC 0, 128, .inl (fun _ => 0))), (pa, .inr (1, [.ref pb, .ref pr, .int 0])), (pb, .inl (aC 0, 128, .inl (fun _ => 0))), (md, .inr (1, [.ref mb, .ref mr, .int 0])), (mb, .inl (aC 0, 128, .inl (fun _ => 0))), (mk, .inr (6, [.ref k1, .ref k2])), (rg, .inr (4, [.ref g1, .ref g2, .ref g3, .ref g4, .ref wi])), (wi, .inl (aC 2, 256, .inr (.inl (fun _ => 0)))), (li, .inr (13, [.int mc, .ref ev, .int 0])), (q4, .inr (14, [.int 0, .int 7, .ref wt2, .int 15, .ref li, .ref sc, .ref lo, .ref hi, .long 0])), (q1, .inr (11, [.ref pt, .ref fa, .int 0, .ref pa, .ref o1, .ref md, .ref o2, .ref o3, .ref rg, .ref o4, .ref mk, .ref o5, .ref o6, .ref o7, .ref o8])), (pt, .inr (0, [.ref w, .int 7, .int 96])), (w, .inl (aC 1, 7, .inl u11)), (q7, .inr (12, [.long u60, .null]))] H := hP
  have hD : va_D A [(ev, .inl (aC 5, 0, .inr (.inr (.inr (.inr ef))))), (fa, .inl (aC 4, 5, .inr (.inr (.inr (.inr uf))))), (s0, .inr (1, [.ref b0, .ref r0, .int 0])), (b0, .inl (aC 0, 128, .inl (fun _ => 0))), (pa, .inr (1, [.ref pb, .ref pr, .int 0])), (pb, .inl (aC 0, 128, .inl (fun _ => 0))), (md, .inr (1, [.ref mb, .ref mr, .int 0])), (mb, .inl (aC 0, 128, .inl (fun _ => 0))), (mk, .inr (6, [.ref k1, .ref k2])), (rg, .inr (4, [.ref g1, .ref g2, .ref g3, .ref g4, .ref wi])), (wi, .inl (aC 2, 256, .inr (.inl (fun _ => 0)))), (li, .inr (13, [.int mc, .ref ev, .int 0])), (q4, .inr (14, [.int 0, .int 7, .ref wt2, .int 15, .ref li, .ref sc, .ref lo, .ref hi, .long 0])), (q1, .inr (11, [.ref pt, .ref fa, .int 0, .ref pa, .ref o1, .ref md, .ref o2, .ref o3, .ref rg, .ref o4, .ref mk, .ref o5, .ref o6, .ref o7, .ref o8])), (pt, .inr (0, [.ref w, .int 7, .int 96])), (w, .inl (aC 1, 7, .inl u11)), (q7, .inr (12, [.long u60, .null]))] := hD
  refine W.widen (k := 101) (n := 6383) (by omega) (by omega) ?_
  subst hwu60
  refine lv_istore (lv' := [(5, .int 0), (4, .int (nI 20)), (0, .ref b), (1, .ref q1), (2, .ref q4), (3, .ref q7)]) hx hb dL_law_329 hl (by decide) rfl (fun ls hl => ?_)
  refine lv_aload_n hx hb dL_law_331 rfl (lv_at hl 4 rfl) ?_
  refine lv_aload_n hx hb dL_law_332 rfl (lv_at hl 2 rfl) ?_
  refine lv_iload hx hb dL_law_333 (lv_at hl 1 rfl) ?_
  refine lv_iconst (v := 1) hx hb dL_law_335 (by decide) ?_
  refine lv_iadd hx hb dL_law_336 ?_
  refine lv_topi (fun t62 et62 => ?_)
  have hl9 : t62 = nI (20 + 1) := et62.trans (nI_add (20) 1)
  subst hl9
  refine va_sld hx hb hX hbl hbA hS (vp_in_nI (n := 20 + 1) (by omega) (by decide)) dL_law_337 ?_
  refine W.eq (g2 := F0 m 338 ls [.int 4, .ref q4]) (by rw [nI_clamp (n := 20 + 1) (by omega), (show xs (20 + 1) = 4 from hX1.2.2.2.2.2.2.2.2.2.2.2.2.2.2.2.1)]) ?_
  refine lv_aload_n hx hb dL_law_338 rfl (lv_at hl 2 rfl) ?_
  refine lv_iload hx hb dL_law_339 (lv_at hl 1 rfl) ?_
  refine lv_iconst (v := 2) hx hb dL_law_341 (by decide) ?_
  refine lv_iadd hx hb dL_law_342 ?_
  refine lv_topi (fun t63 et63 => ?_)
  have hl9 : t63 = nI (20 + 2) := et63.trans (nI_add (20) 2)
  subst hl9
  refine va_sld hx hb hX hbl hbA hS (vp_in_nI (n := 20 + 2) (by omega) (by decide)) dL_law_343 ?_
  refine W.eq (g2 := F0 m 344 ls [.int 1, .int 4, .ref q4]) (by rw [nI_clamp (n := 20 + 2) (by omega), (show xs (20 + 2) = 1 from hX1.2.2.2.2.2.2.2.2.2.2.2.2.2.2.2.2.1)]) ?_
  refine lv_if_eq (tgt := 351) hx hb dL_law_344 (by decide) (fun c9 => absurd c9 (by decide)) (fun _ => ?_)
  refine lv_iconst (v := 1) hx hb dL_law_347 (by decide) ?_
  refine lv_goto (tgt := 352) hx hb dL_law_348 (by decide) ?_
  have hPc := hP.sub (ws' := [(q4, .inr (14, [.int 0, .int 7, .ref wt2, .int 15, .ref li, .ref sc, .ref lo, .ref hi, .long 0]))]) [12] rfl
  have hDc := hD.sub (ws' := [(q4, .inr (14, [.int 0, .int 7, .ref wt2, .int 15, .ref li, .ref sc, .ref lo, .ref hi, .long 0]))]) [12] (by decide) rfl
  have hFc := va_free (wc := [(q4, .inr (14, [.int 0, .int 7, .ref wt2, .int 15, .ref li, .ref sc, .ref lo, .ref hi, .long 0]))]) hD hS hA [12] rfl
  refine va_calli (va_runV (As := [.int 4, .int 1]) (rest := []) ⟨hx, hb, hml, hown, hts⟩ (c_X14_die l dC dI aC H.size q4 0 7 15 li (.ref wt2) (.ref sc) (.ref lo) (.ref hi) (.long 0) 4 31 128 96 (by decide) (by decide) (by decide) (by decide) (by decide)) (cwV 2 hts gT_X14_die rfl rfl rfl (by decide +kernel) ⟨Nat.le_of_ble_eq_true rfl, Nat.le_of_ble_eq_true rfl⟩) (rf_pv hK hN hPc hDc (va_recv hK hP (ci := 14) (q0 := 12) rfl rfl)) rfl rfl hl.1 rfl (lv_room (Nat.le_of_ble_eq_true rfl)) dL_law_352 ⟨(by show 101 + 0 ≤ 3000; omega), (by show 6383 + 0 ≤ 7371873; omega)⟩) hS (fun q _ h => hFc q h) hFc (fun r65 u64 t H1 locs ht hvm hwu64 hB hz1 hk1 hS => ?_)
  obtain ⟨hP1, hD1⟩ := hB
  rw [ht] at hP1
  try dsimp only at hwu64 hP1 hD1
  obtain ⟨hP, hD⟩ := va_join (wr := [(ev, .inl (aC 5, 0, .inr (.inr (.inr (.inr ef))))), (fa, .inl (aC 4, 5, .inr (.inr (.inr (.inr uf))))), (s0, .inr (1, [.ref b0, .ref r0, .int 0])), (b0, .inl (aC 0, 128, .inl (fun _ => 0))), (pa, .inr (1, [.ref pb, .ref pr, .int 0])), (pb, .inl (aC 0, 128, .inl (fun _ => 0))), (md, .inr (1, [.ref mb, .ref mr, .int 0])), (mb, .inl (aC 0, 128, .inl (fun _ => 0))), (mk, .inr (6, [.ref k1, .ref k2])), (rg, .inr (4, [.ref g1, .ref g2, .ref g3, .ref g4, .ref wi])), (wi, .inl (aC 2, 256, .inr (.inl (fun _ => 0)))), (li, .inr (13, [.int mc, .ref ev, .int 0])), (q1, .inr (11, [.ref pt, .ref fa, .int 0, .ref pa, .ref o1, .ref md, .ref o2, .ref o3, .ref rg, .ref o4, .ref mk, .ref o5, .ref o6, .ref o7, .ref o8])), (pt, .inr (0, [.ref w, .int 7, .int 96])), (w, .inl (aC 1, 7, .inl u11)), (q7, .inr (12, [.long u60, .null]))]) (w1 := [(q4, .inr (14, [.int 0, .int 7, .ref wt2, .int 31, .ref li, .ref sc, .ref lo, .ref hi, .long 0]))]) hP hD [12] [0, 1, 2, 3, 4, 5, 6, 7, 8, 9, 10, 11, 13, 14, 15, 16] rfl rfl (by decide) (by decide) hk1 hFc hP1 hD1
  clear hP1 hD1 hPc hDc hFc hk1 hz1
  generalize H1 = H at hP hS ⊢
  have hP : va_P (dC, dI) rfCl [(ev, .inl (aC 5, 0, .inr (.inr (.inr (.inr ef))))), (fa, .inl (aC 4, 5, .inr (.inr (.inr (.inr uf))))), (s0, .inr (1, [.ref b0, .ref r0, .int 0])), (b0, .inl (aC 0, 128, .inl (fun _ => 0))), (pa, .inr (1, [.ref pb, .ref pr, .int 0])), (pb, .inl (aC 0, 128, .inl (fun _ => 0))), (md, .inr (1, [.ref mb, .ref mr, .int 0])), (mb, .inl (aC 0, 128, .inl (fun _ => 0))), (mk, .inr (6, [.ref k1, .ref k2])), (rg, .inr (4, [.ref g1, .ref g2, .ref g3, .ref g4, .ref wi])), (wi, .inl (aC 2, 256, .inr (.inl (fun _ => 0)))), (li, .inr (13, [.int mc, .ref ev, .int 0])), (q1, .inr (11, [.ref pt, .ref fa, .int 0, .ref pa, .ref o1, .ref md, .ref o2, .ref o3, .ref rg, .ref o4, .ref mk, .ref o5, .ref o6, .ref o7, .ref o8])), (pt, .inr (0, [.ref w, .int 7, .int 96])), (w, .inl (aC 1, 7, .inl u11)), (q7, .inr (12, [.long u60, .null])), (q4, .inr (14, [.int 0, .int 7, .ref wt2, .int 31, .ref li, .ref sc, .ref lo, .ref hi, .long 0]))] H := hP
  have hD : va_D A [(ev, .inl (aC 5, 0, .inr (.inr (.inr (.inr ef))))), (fa, .inl (aC 4, 5, .inr (.inr (.inr (.inr uf))))), (s0, .inr (1, [.ref b0, .ref r0, .int 0])), (b0, .inl (aC 0, 128, .inl (fun _ => 0))), (pa, .inr (1, [.ref pb, .ref pr, .int 0])), (pb, .inl (aC 0, 128, .inl (fun _ => 0))), (md, .inr (1, [.ref mb, .ref mr, .int 0])), (mb, .inl (aC 0, 128, .inl (fun _ => 0))), (mk, .inr (6, [.ref k1, .ref k2])), (rg, .inr (4, [.ref g1, .ref g2, .ref g3, .ref g4, .ref wi])), (wi, .inl (aC 2, 256, .inr (.inl (fun _ => 0)))), (li, .inr (13, [.int mc, .ref ev, .int 0])), (q1, .inr (11, [.ref pt, .ref fa, .int 0, .ref pa, .ref o1, .ref md, .ref o2, .ref o3, .ref rg, .ref o4, .ref mk, .ref o5, .ref o6, .ref o7, .ref o8])), (pt, .inr (0, [.ref w, .int 7, .int 96])), (w, .inl (aC 1, 7, .inl u11)), (q7, .inr (12, [.long u60, .null])), (q4, .inr (14, [.int 0, .int 7, .ref wt2, .int 31, .ref li, .ref sc, .ref lo, .ref hi, .long 0]))] := hD
  refine W.widen (k := 101) (n := 6383) (by omega) (by omega) ?_
  refine lv_istore (lv' := [(6, .int r65), (5, .int 0), (4, .int (nI 20)), (0, .ref b), (1, .ref q1), (2, .ref q4), (3, .ref q7)]) hx hb dL_law_355 hl (by decide) rfl (fun ls hl => ?_)
  refine lv_goto (tgt := 2083) hx hb dL_law_357 (by decide) ?_
  refine lv_iinc (v := (nI 24)) (lv' := [(4, .int (nI 24)), (6, .int r65), (5, .int 0), (0, .ref b), (1, .ref q1), (2, .ref q4), (3, .ref q7)]) hx hb dL_law_2083 hl (k := 2) rfl (by rw [show Int32.ofInt 4 = nI 4 from by decide, nI_add]) (by decide) rfl (fun ls hl => ?_)
  refine lv_goto (tgt := 27) hx hb dL_law_2086 (by decide) ?_
  have hl : lv_has ls 8 [(4, .int (nI 24)), (0, .ref b), (1, .ref q1), (2, .ref q4), (3, .ref q7)] := lv_sub hl [0, 3, 4, 5, 6] rfl
  refine lv_iload hx hb dL_law_27 (lv_at hl 0 rfl) ?_
  refine lv_aload_n hx hb dL_law_29 rfl (lv_at hl 1 rfl) ?_
  refine va_slen hx hb hX hbl hbA hS dL_law_30 ?_
  refine lv_iconst (v := 4) hx hb dL_law_31 (by decide) ?_
  refine lv_isub hx hb dL_law_32 ?_
  refine lv_topi (fun t66 et66 => ?_)
  have hl9 : t66 = nI 1816 := by rw [et66]; decide
  subst hl9
  refine lv_icmp_gt (tgt := 2089) hx hb dL_law_33 (by decide) (fun c9 => absurd c9 (nI_nlt (by omega) (by decide))) (fun _ => ?_)
  refine lv_aload_n hx hb dL_law_36 rfl (lv_at hl 1 rfl) ?_
  refine lv_iload hx hb dL_law_37 (lv_at hl 0 rfl) ?_
  refine va_sld hx hb hX hbl hbA hS (vp_in_nI (n := 24) (by omega) (by decide)) dL_law_39 ?_
  refine W.eq (g2 := F0 m 40 ls [.int 2]) (by rw [nI_clamp (n := 24) (by omega), (show xs (24) = 2 from hX1.2.2.2.2.2.2.2.2.2.2.2.2.2.2.2.2.2.1)]) ?_
  refine lv_bipush (v := 63) hx hb dL_law_40 (by decide) ?_
  refine lv_iand hx hb dL_law_42 ?_
  refine lv_topi (fun t67 et67 => ?_)
  have hl9 : t67 = 2 := by rw [et67]; decide
  subst hl9
  refine lv_tableIn (off := 261) (tgt := 304) hx hb dL_law_43 (by decide) (by decide) (by decide) (by decide) ?_
  refine lv_aload_n hx hb dL_law_304 rfl (lv_at hl 2 rfl) ?_
  refine lv_aload_n hx hb dL_law_305 rfl (lv_at hl 1 rfl) ?_
  refine lv_iload hx hb dL_law_306 (lv_at hl 0 rfl) ?_
  refine lv_iconst (v := 1) hx hb dL_law_308 (by decide) ?_
  refine lv_iadd hx hb dL_law_309 ?_
  refine lv_topi (fun t68 et68 => ?_)
  have hl9 : t68 = nI (24 + 1) := et68.trans (nI_add (24) 1)
  subst hl9
  refine va_sld hx hb hX hbl hbA hS (vp_in_nI (n := 24 + 1) (by omega) (by decide)) dL_law_310 ?_
  refine W.eq (g2 := F0 m 311 ls [.int 5, .ref q1]) (by rw [nI_clamp (n := 24 + 1) (by omega), (show xs (24 + 1) = 5 from hX1.2.2.2.2.2.2.2.2.2.2.2.2.2.2.2.2.2.2.1)]) ?_
  refine lv_aload_n hx hb dL_law_311 rfl (lv_at hl 1 rfl) ?_
  refine lv_iload hx hb dL_law_312 (lv_at hl 0 rfl) ?_
  refine lv_iconst (v := 2) hx hb dL_law_314 (by decide) ?_
  refine lv_iadd hx hb dL_law_315 ?_
  refine lv_topi (fun t69 et69 => ?_)
  have hl9 : t69 = nI (24 + 2) := et69.trans (nI_add (24) 2)
  subst hl9
  refine va_sld hx hb hX hbl hbA hS (vp_in_nI (n := 24 + 2) (by omega) (by decide)) dL_law_316 ?_
  refine W.eq (g2 := F0 m 317 ls [.int 1, .int 5, .ref q1]) (by rw [nI_clamp (n := 24 + 2) (by omega), (show xs (24 + 2) = 1 from hX1.2.2.2.2.2.2.2.2.2.2.2.2.2.2.2.2.2.2.2.1)]) ?_
  refine lv_if_eq (tgt := 324) hx hb dL_law_317 (by decide) (fun c9 => absurd c9 (by decide)) (fun _ => ?_)
  refine lv_iconst (v := 1) hx hb dL_law_320 (by decide) ?_
  refine lv_goto (tgt := 325) hx hb dL_law_321 (by decide) ?_
  refine lv_aload_n hx hb dL_law_325 rfl (lv_at hl 4 rfl) ?_
  have hPc := hP.sub (ws' := [(q1, .inr (11, [.ref pt, .ref fa, .int 0, .ref pa, .ref o1, .ref md, .ref o2, .ref o3, .ref rg, .ref o4, .ref mk, .ref o5, .ref o6, .ref o7, .ref o8])), (pt, .inr (0, [.ref w, .int 7, .int 96])), (w, .inl (aC 1, 7, .inl u11)), (q7, .inr (12, [.long u60, .null]))]) [12, 13, 14, 15] rfl
  have hDc := hD.sub (ws' := [(q1, .inr (11, [.ref pt, .ref fa, .int 0, .ref pa, .ref o1, .ref md, .ref o2, .ref o3, .ref rg, .ref o4, .ref mk, .ref o5, .ref o6, .ref o7, .ref o8])), (pt, .inr (0, [.ref w, .int 7, .int 96])), (w, .inl (aC 1, 7, .inl u11)), (q7, .inr (12, [.long u60, .null]))]) [12, 13, 14, 15] (by decide) rfl
  have hFc := va_free (wc := [(q1, .inr (11, [.ref pt, .ref fa, .int 0, .ref pa, .ref o1, .ref md, .ref o2, .ref o3, .ref rg, .ref o4, .ref mk, .ref o5, .ref o6, .ref o7, .ref o8])), (pt, .inr (0, [.ref w, .int 7, .int 96])), (w, .inl (aC 1, 7, .inl u11)), (q7, .inr (12, [.long u60, .null]))]) hD hS hA [12, 13, 14, 15] rfl
  refine va_calli (vx_runSW (As := [.ref q1, .int 5, .int 1, .ref q7]) (rest := []) ⟨hx, hb, hml, hown, hts⟩ (c_L_die l dC dI aC H.size q1 pt fa pa md rg mk (.ref o1) (.ref o2) (.ref o3) (.ref o4) (.ref o5) (.ref o6) (.ref o7) (.ref o8) 0 w u11 7 96 5 64 q7 u60 .null (by decide) (by decide) (by decide) (by decide)) (vx_cwSW 4 hts gT_L_die rfl rfl rfl (by decide +kernel) ⟨Nat.le_of_ble_eq_true rfl, Nat.le_of_ble_eq_true rfl⟩) (rf_ps hK hN hPc hDc) rfl rfl hl.1 rfl (lv_room (Nat.le_of_ble_eq_true rfl)) dL_law_326 ⟨(by show 101 + 0 ≤ 3000; omega), (by show 6383 + 0 ≤ 7371873; omega)⟩) hS (fun q _ h => hFc q h) hFc (fun r71 u70 t H1 locs ht hvm hwu70 hB hz1 hk1 hS => ?_)
  obtain ⟨hP1, hD1⟩ := hB
  rw [ht] at hP1
  try dsimp only at hwu70 hP1 hD1
  obtain ⟨hP, hD⟩ := va_join (wr := [(ev, .inl (aC 5, 0, .inr (.inr (.inr (.inr ef))))), (fa, .inl (aC 4, 5, .inr (.inr (.inr (.inr uf))))), (s0, .inr (1, [.ref b0, .ref r0, .int 0])), (b0, .inl (aC 0, 128, .inl (fun _ => 0))), (pa, .inr (1, [.ref pb, .ref pr, .int 0])), (pb, .inl (aC 0, 128, .inl (fun _ => 0))), (md, .inr (1, [.ref mb, .ref mr, .int 0])), (mb, .inl (aC 0, 128, .inl (fun _ => 0))), (mk, .inr (6, [.ref k1, .ref k2])), (rg, .inr (4, [.ref g1, .ref g2, .ref g3, .ref g4, .ref wi])), (wi, .inl (aC 2, 256, .inr (.inl (fun _ => 0)))), (li, .inr (13, [.int mc, .ref ev, .int 0])), (q4, .inr (14, [.int 0, .int 7, .ref wt2, .int 31, .ref li, .ref sc, .ref lo, .ref hi, .long 0]))]) (w1 := [(q1, .inr (11, [.ref pt, .ref fa, .int 0, .ref pa, .ref o1, .ref md, .ref o2, .ref o3, .ref rg, .ref o4, .ref mk, .ref o5, .ref o6, .ref o7, .ref o8])), (pt, .inr (0, [.ref w, .int 7, .int 64])), (w, .inl (aC 1, 7, .inl u11)), (q7, .inr (12, [.long u70, .null]))]) hP hD [12, 13, 14, 15] [0, 1, 2, 3, 4, 5, 6, 7, 8, 9, 10, 11, 16] rfl rfl (by decide) (by decide) hk1 hFc hP1 hD1
  clear hP1 hD1 hPc hDc hFc hk1 hz1
  generalize H1 = H at hP hS ⊢
  have hP : va_P (dC, dI) rfCl [(ev, .inl (aC 5, 0, .inr (.inr (.inr (.inr ef))))), (fa, .inl (aC 4, 5, .inr (.inr (.inr (.inr uf))))), (s0, .inr (1, [.ref b0, .ref r0, .int 0])), (b0, .inl (aC 0, 128, .inl (fun _ => 0))), (pa, .inr (1, [.ref pb, .ref pr, .int 0])), (pb, .inl (aC 0, 128, .inl (fun _ => 0))), (md, .inr (1, [.ref mb, .ref mr, .int 0])), (mb, .inl (aC 0, 128, .inl (fun _ => 0))), (mk, .inr (6, [.ref k1, .ref k2])), (rg, .inr (4, [.ref g1, .ref g2, .ref g3, .ref g4, .ref wi])), (wi, .inl (aC 2, 256, .inr (.inl (fun _ => 0)))), (li, .inr (13, [.int mc, .ref ev, .int 0])), (q4, .inr (14, [.int 0, .int 7, .ref wt2, .int 31, .ref li, .ref sc, .ref lo, .ref hi, .long 0])), (q1, .inr (11, [.ref pt, .ref fa, .int 0, .ref pa, .ref o1, .ref md, .ref o2, .ref o3, .ref rg, .ref o4, .ref mk, .ref o5, .ref o6, .ref o7, .ref o8])), (pt, .inr (0, [.ref w, .int 7, .int 64])), (w, .inl (aC 1, 7, .inl u11)), (q7, .inr (12, [.long u70, .null]))] H := hP
  have hD : va_D A [(ev, .inl (aC 5, 0, .inr (.inr (.inr (.inr ef))))), (fa, .inl (aC 4, 5, .inr (.inr (.inr (.inr uf))))), (s0, .inr (1, [.ref b0, .ref r0, .int 0])), (b0, .inl (aC 0, 128, .inl (fun _ => 0))), (pa, .inr (1, [.ref pb, .ref pr, .int 0])), (pb, .inl (aC 0, 128, .inl (fun _ => 0))), (md, .inr (1, [.ref mb, .ref mr, .int 0])), (mb, .inl (aC 0, 128, .inl (fun _ => 0))), (mk, .inr (6, [.ref k1, .ref k2])), (rg, .inr (4, [.ref g1, .ref g2, .ref g3, .ref g4, .ref wi])), (wi, .inl (aC 2, 256, .inr (.inl (fun _ => 0)))), (li, .inr (13, [.int mc, .ref ev, .int 0])), (q4, .inr (14, [.int 0, .int 7, .ref wt2, .int 31, .ref li, .ref sc, .ref lo, .ref hi, .long 0])), (q1, .inr (11, [.ref pt, .ref fa, .int 0, .ref pa, .ref o1, .ref md, .ref o2, .ref o3, .ref rg, .ref o4, .ref mk, .ref o5, .ref o6, .ref o7, .ref o8])), (pt, .inr (0, [.ref w, .int 7, .int 64])), (w, .inl (aC 1, 7, .inl u11)), (q7, .inr (12, [.long u70, .null]))] := hD
  refine W.widen (k := 101) (n := 6383) (by omega) (by omega) ?_
  subst hwu70
  refine lv_istore (lv' := [(5, .int 0), (4, .int (nI 24)), (0, .ref b), (1, .ref q1), (2, .ref q4), (3, .ref q7)]) hx hb dL_law_329 hl (by decide) rfl (fun ls hl => ?_)
  refine lv_aload_n hx hb dL_law_331 rfl (lv_at hl 4 rfl) ?_
  refine lv_aload_n hx hb dL_law_332 rfl (lv_at hl 2 rfl) ?_
  refine lv_iload hx hb dL_law_333 (lv_at hl 1 rfl) ?_
  refine lv_iconst (v := 1) hx hb dL_law_335 (by decide) ?_
  refine lv_iadd hx hb dL_law_336 ?_
  refine lv_topi (fun t72 et72 => ?_)
  have hl9 : t72 = nI (24 + 1) := et72.trans (nI_add (24) 1)
  subst hl9
  refine va_sld hx hb hX hbl hbA hS (vp_in_nI (n := 24 + 1) (by omega) (by decide)) dL_law_337 ?_
  refine W.eq (g2 := F0 m 338 ls [.int 5, .ref q4]) (by rw [nI_clamp (n := 24 + 1) (by omega), (show xs (24 + 1) = 5 from hX1.2.2.2.2.2.2.2.2.2.2.2.2.2.2.2.2.2.2.1)]) ?_
  refine lv_aload_n hx hb dL_law_338 rfl (lv_at hl 2 rfl) ?_
  refine lv_iload hx hb dL_law_339 (lv_at hl 1 rfl) ?_
  refine lv_iconst (v := 2) hx hb dL_law_341 (by decide) ?_
  refine lv_iadd hx hb dL_law_342 ?_
  refine lv_topi (fun t73 et73 => ?_)
  have hl9 : t73 = nI (24 + 2) := et73.trans (nI_add (24) 2)
  subst hl9
  refine va_sld hx hb hX hbl hbA hS (vp_in_nI (n := 24 + 2) (by omega) (by decide)) dL_law_343 ?_
  refine W.eq (g2 := F0 m 344 ls [.int 1, .int 5, .ref q4]) (by rw [nI_clamp (n := 24 + 2) (by omega), (show xs (24 + 2) = 1 from hX1.2.2.2.2.2.2.2.2.2.2.2.2.2.2.2.2.2.2.2.1)]) ?_
  refine lv_if_eq (tgt := 351) hx hb dL_law_344 (by decide) (fun c9 => absurd c9 (by decide)) (fun _ => ?_)
  refine lv_iconst (v := 1) hx hb dL_law_347 (by decide) ?_
  refine lv_goto (tgt := 352) hx hb dL_law_348 (by decide) ?_
  have hPc := hP.sub (ws' := [(q4, .inr (14, [.int 0, .int 7, .ref wt2, .int 31, .ref li, .ref sc, .ref lo, .ref hi, .long 0]))]) [12] rfl
  have hDc := hD.sub (ws' := [(q4, .inr (14, [.int 0, .int 7, .ref wt2, .int 31, .ref li, .ref sc, .ref lo, .ref hi, .long 0]))]) [12] (by decide) rfl
  have hFc := va_free (wc := [(q4, .inr (14, [.int 0, .int 7, .ref wt2, .int 31, .ref li, .ref sc, .ref lo, .ref hi, .long 0]))]) hD hS hA [12] rfl
  refine va_calli (va_runV (As := [.int 5, .int 1]) (rest := []) ⟨hx, hb, hml, hown, hts⟩ (c_X14_die l dC dI aC H.size q4 0 7 31 li (.ref wt2) (.ref sc) (.ref lo) (.ref hi) (.long 0) 5 63 128 64 (by decide) (by decide) (by decide) (by decide) (by decide)) (cwV 2 hts gT_X14_die rfl rfl rfl (by decide +kernel) ⟨Nat.le_of_ble_eq_true rfl, Nat.le_of_ble_eq_true rfl⟩) (rf_pv hK hN hPc hDc (va_recv hK hP (ci := 14) (q0 := 12) rfl rfl)) rfl rfl hl.1 rfl (lv_room (Nat.le_of_ble_eq_true rfl)) dL_law_352 ⟨(by show 101 + 0 ≤ 3000; omega), (by show 6383 + 0 ≤ 7371873; omega)⟩) hS (fun q _ h => hFc q h) hFc (fun r75 u74 t H1 locs ht hvm hwu74 hB hz1 hk1 hS => ?_)
  obtain ⟨hP1, hD1⟩ := hB
  rw [ht] at hP1
  try dsimp only at hwu74 hP1 hD1
  obtain ⟨hP, hD⟩ := va_join (wr := [(ev, .inl (aC 5, 0, .inr (.inr (.inr (.inr ef))))), (fa, .inl (aC 4, 5, .inr (.inr (.inr (.inr uf))))), (s0, .inr (1, [.ref b0, .ref r0, .int 0])), (b0, .inl (aC 0, 128, .inl (fun _ => 0))), (pa, .inr (1, [.ref pb, .ref pr, .int 0])), (pb, .inl (aC 0, 128, .inl (fun _ => 0))), (md, .inr (1, [.ref mb, .ref mr, .int 0])), (mb, .inl (aC 0, 128, .inl (fun _ => 0))), (mk, .inr (6, [.ref k1, .ref k2])), (rg, .inr (4, [.ref g1, .ref g2, .ref g3, .ref g4, .ref wi])), (wi, .inl (aC 2, 256, .inr (.inl (fun _ => 0)))), (li, .inr (13, [.int mc, .ref ev, .int 0])), (q1, .inr (11, [.ref pt, .ref fa, .int 0, .ref pa, .ref o1, .ref md, .ref o2, .ref o3, .ref rg, .ref o4, .ref mk, .ref o5, .ref o6, .ref o7, .ref o8])), (pt, .inr (0, [.ref w, .int 7, .int 64])), (w, .inl (aC 1, 7, .inl u11)), (q7, .inr (12, [.long u70, .null]))]) (w1 := [(q4, .inr (14, [.int 0, .int 7, .ref wt2, .int 63, .ref li, .ref sc, .ref lo, .ref hi, .long 0]))]) hP hD [12] [0, 1, 2, 3, 4, 5, 6, 7, 8, 9, 10, 11, 13, 14, 15, 16] rfl rfl (by decide) (by decide) hk1 hFc hP1 hD1
  clear hP1 hD1 hPc hDc hFc hk1 hz1
  generalize H1 = H at hP hS ⊢
  have hP : va_P (dC, dI) rfCl [(ev, .inl (aC 5, 0, .inr (.inr (.inr (.inr ef))))), (fa, .inl (aC 4, 5, .inr (.inr (.inr (.inr uf))))), (s0, .inr (1, [.ref b0, .ref r0, .int 0])), (b0, .inl (aC 0, 128, .inl (fun _ => 0))), (pa, .inr (1, [.ref pb, .ref pr, .int 0])), (pb, .inl (aC 0, 128, .inl (fun _ => 0))), (md, .inr (1, [.ref mb, .ref mr, .int 0])), (mb, .inl (aC 0, 128, .inl (fun _ => 0))), (mk, .inr (6, [.ref k1, .ref k2])), (rg, .inr (4, [.ref g1, .ref g2, .ref g3, .ref g4, .ref wi])), (wi, .inl (aC 2, 256, .inr (.inl (fun _ => 0)))), (li, .inr (13, [.int mc, .ref ev, .int 0])), (q1, .inr (11, [.ref pt, .ref fa, .int 0, .ref pa, .ref o1, .ref md, .ref o2, .ref o3, .ref rg, .ref o4, .ref mk, .ref o5, .ref o6, .ref o7, .ref o8])), (pt, .inr (0, [.ref w, .int 7, .int 64])), (w, .inl (aC 1, 7, .inl u11)), (q7, .inr (12, [.long u70, .null])), (q4, .inr (14, [.int 0, .int 7, .ref wt2, .int 63, .ref li, .ref sc, .ref lo, .ref hi, .long 0]))] H := hP
  have hD : va_D A [(ev, .inl (aC 5, 0, .inr (.inr (.inr (.inr ef))))), (fa, .inl (aC 4, 5, .inr (.inr (.inr (.inr uf))))), (s0, .inr (1, [.ref b0, .ref r0, .int 0])), (b0, .inl (aC 0, 128, .inl (fun _ => 0))), (pa, .inr (1, [.ref pb, .ref pr, .int 0])), (pb, .inl (aC 0, 128, .inl (fun _ => 0))), (md, .inr (1, [.ref mb, .ref mr, .int 0])), (mb, .inl (aC 0, 128, .inl (fun _ => 0))), (mk, .inr (6, [.ref k1, .ref k2])), (rg, .inr (4, [.ref g1, .ref g2, .ref g3, .ref g4, .ref wi])), (wi, .inl (aC 2, 256, .inr (.inl (fun _ => 0)))), (li, .inr (13, [.int mc, .ref ev, .int 0])), (q1, .inr (11, [.ref pt, .ref fa, .int 0, .ref pa, .ref o1, .ref md, .ref o2, .ref o3, .ref rg, .ref o4, .ref mk, .ref o5, .ref o6, .ref o7, .ref o8])), (pt, .inr (0, [.ref w, .int 7, .int 64])), (w, .inl (aC 1, 7, .inl u11)), (q7, .inr (12, [.long u70, .null])), (q4, .inr (14, [.int 0, .int 7, .ref wt2, .int 63, .ref li, .ref sc, .ref lo, .ref hi, .long 0]))] := hD
  refine W.widen (k := 101) (n := 6383) (by omega) (by omega) ?_
  refine lv_istore (lv' := [(6, .int r75), (5, .int 0), (4, .int (nI 24)), (0, .ref b), (1, .ref q1), (2, .ref q4), (3, .ref q7)]) hx hb dL_law_355 hl (by decide) rfl (fun ls hl => ?_)
  refine lv_goto (tgt := 2083) hx hb dL_law_357 (by decide) ?_
  refine lv_iinc (v := (nI 28)) (lv' := [(4, .int (nI 28)), (6, .int r75), (5, .int 0), (0, .ref b), (1, .ref q1), (2, .ref q4), (3, .ref q7)]) hx hb dL_law_2083 hl (k := 2) rfl (by rw [show Int32.ofInt 4 = nI 4 from by decide, nI_add]) (by decide) rfl (fun ls hl => ?_)
  refine lv_goto (tgt := 27) hx hb dL_law_2086 (by decide) ?_
  have hl : lv_has ls 8 [(4, .int (nI 28)), (0, .ref b), (1, .ref q1), (2, .ref q4), (3, .ref q7)] := lv_sub hl [0, 3, 4, 5, 6] rfl
  refine lv_iload hx hb dL_law_27 (lv_at hl 0 rfl) ?_
  refine lv_aload_n hx hb dL_law_29 rfl (lv_at hl 1 rfl) ?_
  refine va_slen hx hb hX hbl hbA hS dL_law_30 ?_
  refine lv_iconst (v := 4) hx hb dL_law_31 (by decide) ?_
  refine lv_isub hx hb dL_law_32 ?_
  refine lv_topi (fun t76 et76 => ?_)
  have hl9 : t76 = nI 1816 := by rw [et76]; decide
  subst hl9
  refine lv_icmp_gt (tgt := 2089) hx hb dL_law_33 (by decide) (fun c9 => absurd c9 (nI_nlt (by omega) (by decide))) (fun _ => ?_)
  refine lv_aload_n hx hb dL_law_36 rfl (lv_at hl 1 rfl) ?_
  refine lv_iload hx hb dL_law_37 (lv_at hl 0 rfl) ?_
  refine va_sld hx hb hX hbl hbA hS (vp_in_nI (n := 28) (by omega) (by decide)) dL_law_39 ?_
  refine W.eq (g2 := F0 m 40 ls [.int 2]) (by rw [nI_clamp (n := 28) (by omega), (show xs (28) = 2 from hX1.2.2.2.2.2.2.2.2.2.2.2.2.2.2.2.2.2.2.2.2.1)]) ?_
  refine lv_bipush (v := 63) hx hb dL_law_40 (by decide) ?_
  refine lv_iand hx hb dL_law_42 ?_
  refine lv_topi (fun t77 et77 => ?_)
  have hl9 : t77 = 2 := by rw [et77]; decide
  subst hl9
  refine lv_tableIn (off := 261) (tgt := 304) hx hb dL_law_43 (by decide) (by decide) (by decide) (by decide) ?_
  refine lv_aload_n hx hb dL_law_304 rfl (lv_at hl 2 rfl) ?_
  refine lv_aload_n hx hb dL_law_305 rfl (lv_at hl 1 rfl) ?_
  refine lv_iload hx hb dL_law_306 (lv_at hl 0 rfl) ?_
  refine lv_iconst (v := 1) hx hb dL_law_308 (by decide) ?_
  refine lv_iadd hx hb dL_law_309 ?_
  refine lv_topi (fun t78 et78 => ?_)
  have hl9 : t78 = nI (28 + 1) := et78.trans (nI_add (28) 1)
  subst hl9
  refine va_sld hx hb hX hbl hbA hS (vp_in_nI (n := 28 + 1) (by omega) (by decide)) dL_law_310 ?_
  refine W.eq (g2 := F0 m 311 ls [.int 6, .ref q1]) (by rw [nI_clamp (n := 28 + 1) (by omega), (show xs (28 + 1) = 6 from hX1.2.2.2.2.2.2.2.2.2.2.2.2.2.2.2.2.2.2.2.2.2.1)]) ?_
  refine lv_aload_n hx hb dL_law_311 rfl (lv_at hl 1 rfl) ?_
  refine lv_iload hx hb dL_law_312 (lv_at hl 0 rfl) ?_
  refine lv_iconst (v := 2) hx hb dL_law_314 (by decide) ?_
  refine lv_iadd hx hb dL_law_315 ?_
  refine lv_topi (fun t79 et79 => ?_)
  have hl9 : t79 = nI (28 + 2) := et79.trans (nI_add (28) 2)
  subst hl9
  refine va_sld hx hb hX hbl hbA hS (vp_in_nI (n := 28 + 2) (by omega) (by decide)) dL_law_316 ?_
  refine W.eq (g2 := F0 m 317 ls [.int 1, .int 6, .ref q1]) (by rw [nI_clamp (n := 28 + 2) (by omega), (show xs (28 + 2) = 1 from hX1.2.2.2.2.2.2.2.2.2.2.2.2.2.2.2.2.2.2.2.2.2.2.1)]) ?_
  refine lv_if_eq (tgt := 324) hx hb dL_law_317 (by decide) (fun c9 => absurd c9 (by decide)) (fun _ => ?_)
  refine lv_iconst (v := 1) hx hb dL_law_320 (by decide) ?_
  refine lv_goto (tgt := 325) hx hb dL_law_321 (by decide) ?_
  refine lv_aload_n hx hb dL_law_325 rfl (lv_at hl 4 rfl) ?_
  have hPc := hP.sub (ws' := [(q1, .inr (11, [.ref pt, .ref fa, .int 0, .ref pa, .ref o1, .ref md, .ref o2, .ref o3, .ref rg, .ref o4, .ref mk, .ref o5, .ref o6, .ref o7, .ref o8])), (pt, .inr (0, [.ref w, .int 7, .int 64])), (w, .inl (aC 1, 7, .inl u11)), (q7, .inr (12, [.long u70, .null]))]) [12, 13, 14, 15] rfl
  have hDc := hD.sub (ws' := [(q1, .inr (11, [.ref pt, .ref fa, .int 0, .ref pa, .ref o1, .ref md, .ref o2, .ref o3, .ref rg, .ref o4, .ref mk, .ref o5, .ref o6, .ref o7, .ref o8])), (pt, .inr (0, [.ref w, .int 7, .int 64])), (w, .inl (aC 1, 7, .inl u11)), (q7, .inr (12, [.long u70, .null]))]) [12, 13, 14, 15] (by decide) rfl
  have hFc := va_free (wc := [(q1, .inr (11, [.ref pt, .ref fa, .int 0, .ref pa, .ref o1, .ref md, .ref o2, .ref o3, .ref rg, .ref o4, .ref mk, .ref o5, .ref o6, .ref o7, .ref o8])), (pt, .inr (0, [.ref w, .int 7, .int 64])), (w, .inl (aC 1, 7, .inl u11)), (q7, .inr (12, [.long u70, .null]))]) hD hS hA [12, 13, 14, 15] rfl
  refine va_calli (vx_runSW (As := [.ref q1, .int 6, .int 1, .ref q7]) (rest := []) ⟨hx, hb, hml, hown, hts⟩ (c_L_die l dC dI aC H.size q1 pt fa pa md rg mk (.ref o1) (.ref o2) (.ref o3) (.ref o4) (.ref o5) (.ref o6) (.ref o7) (.ref o8) 0 w u11 7 64 6 0 q7 u70 .null (by decide) (by decide) (by decide) (by decide)) (vx_cwSW 4 hts gT_L_die rfl rfl rfl (by decide +kernel) ⟨Nat.le_of_ble_eq_true rfl, Nat.le_of_ble_eq_true rfl⟩) (rf_ps hK hN hPc hDc) rfl rfl hl.1 rfl (lv_room (Nat.le_of_ble_eq_true rfl)) dL_law_326 ⟨(by show 101 + 0 ≤ 3000; omega), (by show 6383 + 0 ≤ 7371873; omega)⟩) hS (fun q _ h => hFc q h) hFc (fun r81 u80 t H1 locs ht hvm hwu80 hB hz1 hk1 hS => ?_)
  obtain ⟨hP1, hD1⟩ := hB
  rw [ht] at hP1
  try dsimp only at hwu80 hP1 hD1
  obtain ⟨hP, hD⟩ := va_join (wr := [(ev, .inl (aC 5, 0, .inr (.inr (.inr (.inr ef))))), (fa, .inl (aC 4, 5, .inr (.inr (.inr (.inr uf))))), (s0, .inr (1, [.ref b0, .ref r0, .int 0])), (b0, .inl (aC 0, 128, .inl (fun _ => 0))), (pa, .inr (1, [.ref pb, .ref pr, .int 0])), (pb, .inl (aC 0, 128, .inl (fun _ => 0))), (md, .inr (1, [.ref mb, .ref mr, .int 0])), (mb, .inl (aC 0, 128, .inl (fun _ => 0))), (mk, .inr (6, [.ref k1, .ref k2])), (rg, .inr (4, [.ref g1, .ref g2, .ref g3, .ref g4, .ref wi])), (wi, .inl (aC 2, 256, .inr (.inl (fun _ => 0)))), (li, .inr (13, [.int mc, .ref ev, .int 0])), (q4, .inr (14, [.int 0, .int 7, .ref wt2, .int 63, .ref li, .ref sc, .ref lo, .ref hi, .long 0]))]) (w1 := [(q1, .inr (11, [.ref pt, .ref fa, .int 0, .ref pa, .ref o1, .ref md, .ref o2, .ref o3, .ref rg, .ref o4, .ref mk, .ref o5, .ref o6, .ref o7, .ref o8])), (pt, .inr (0, [.ref w, .int 7, .int 0])), (w, .inl (aC 1, 7, .inl u11)), (q7, .inr (12, [.long u80, .null]))]) hP hD [12, 13, 14, 15] [0, 1, 2, 3, 4, 5, 6, 7, 8, 9, 10, 11, 16] rfl rfl (by decide) (by decide) hk1 hFc hP1 hD1
  clear hP1 hD1 hPc hDc hFc hk1 hz1
  generalize H1 = H at hP hS ⊢
  have hP : va_P (dC, dI) rfCl [(ev, .inl (aC 5, 0, .inr (.inr (.inr (.inr ef))))), (fa, .inl (aC 4, 5, .inr (.inr (.inr (.inr uf))))), (s0, .inr (1, [.ref b0, .ref r0, .int 0])), (b0, .inl (aC 0, 128, .inl (fun _ => 0))), (pa, .inr (1, [.ref pb, .ref pr, .int 0])), (pb, .inl (aC 0, 128, .inl (fun _ => 0))), (md, .inr (1, [.ref mb, .ref mr, .int 0])), (mb, .inl (aC 0, 128, .inl (fun _ => 0))), (mk, .inr (6, [.ref k1, .ref k2])), (rg, .inr (4, [.ref g1, .ref g2, .ref g3, .ref g4, .ref wi])), (wi, .inl (aC 2, 256, .inr (.inl (fun _ => 0)))), (li, .inr (13, [.int mc, .ref ev, .int 0])), (q4, .inr (14, [.int 0, .int 7, .ref wt2, .int 63, .ref li, .ref sc, .ref lo, .ref hi, .long 0])), (q1, .inr (11, [.ref pt, .ref fa, .int 0, .ref pa, .ref o1, .ref md, .ref o2, .ref o3, .ref rg, .ref o4, .ref mk, .ref o5, .ref o6, .ref o7, .ref o8])), (pt, .inr (0, [.ref w, .int 7, .int 0])), (w, .inl (aC 1, 7, .inl u11)), (q7, .inr (12, [.long u80, .null]))] H := hP
  have hD : va_D A [(ev, .inl (aC 5, 0, .inr (.inr (.inr (.inr ef))))), (fa, .inl (aC 4, 5, .inr (.inr (.inr (.inr uf))))), (s0, .inr (1, [.ref b0, .ref r0, .int 0])), (b0, .inl (aC 0, 128, .inl (fun _ => 0))), (pa, .inr (1, [.ref pb, .ref pr, .int 0])), (pb, .inl (aC 0, 128, .inl (fun _ => 0))), (md, .inr (1, [.ref mb, .ref mr, .int 0])), (mb, .inl (aC 0, 128, .inl (fun _ => 0))), (mk, .inr (6, [.ref k1, .ref k2])), (rg, .inr (4, [.ref g1, .ref g2, .ref g3, .ref g4, .ref wi])), (wi, .inl (aC 2, 256, .inr (.inl (fun _ => 0)))), (li, .inr (13, [.int mc, .ref ev, .int 0])), (q4, .inr (14, [.int 0, .int 7, .ref wt2, .int 63, .ref li, .ref sc, .ref lo, .ref hi, .long 0])), (q1, .inr (11, [.ref pt, .ref fa, .int 0, .ref pa, .ref o1, .ref md, .ref o2, .ref o3, .ref rg, .ref o4, .ref mk, .ref o5, .ref o6, .ref o7, .ref o8])), (pt, .inr (0, [.ref w, .int 7, .int 0])), (w, .inl (aC 1, 7, .inl u11)), (q7, .inr (12, [.long u80, .null]))] := hD
  refine W.widen (k := 101) (n := 6383) (by omega) (by omega) ?_
  subst hwu80
  refine lv_istore (lv' := [(5, .int 0), (4, .int (nI 28)), (0, .ref b), (1, .ref q1), (2, .ref q4), (3, .ref q7)]) hx hb dL_law_329 hl (by decide) rfl (fun ls hl => ?_)
  refine lv_aload_n hx hb dL_law_331 rfl (lv_at hl 4 rfl) ?_
  refine lv_aload_n hx hb dL_law_332 rfl (lv_at hl 2 rfl) ?_
  refine lv_iload hx hb dL_law_333 (lv_at hl 1 rfl) ?_
  refine lv_iconst (v := 1) hx hb dL_law_335 (by decide) ?_
  refine lv_iadd hx hb dL_law_336 ?_
  refine lv_topi (fun t82 et82 => ?_)
  have hl9 : t82 = nI (28 + 1) := et82.trans (nI_add (28) 1)
  subst hl9
  refine va_sld hx hb hX hbl hbA hS (vp_in_nI (n := 28 + 1) (by omega) (by decide)) dL_law_337 ?_
  refine W.eq (g2 := F0 m 338 ls [.int 6, .ref q4]) (by rw [nI_clamp (n := 28 + 1) (by omega), (show xs (28 + 1) = 6 from hX1.2.2.2.2.2.2.2.2.2.2.2.2.2.2.2.2.2.2.2.2.2.1)]) ?_
  refine lv_aload_n hx hb dL_law_338 rfl (lv_at hl 2 rfl) ?_
  refine lv_iload hx hb dL_law_339 (lv_at hl 1 rfl) ?_
  refine lv_iconst (v := 2) hx hb dL_law_341 (by decide) ?_
  refine lv_iadd hx hb dL_law_342 ?_
  refine lv_topi (fun t83 et83 => ?_)
  have hl9 : t83 = nI (28 + 2) := et83.trans (nI_add (28) 2)
  subst hl9
  refine va_sld hx hb hX hbl hbA hS (vp_in_nI (n := 28 + 2) (by omega) (by decide)) dL_law_343 ?_
  refine W.eq (g2 := F0 m 344 ls [.int 1, .int 6, .ref q4]) (by rw [nI_clamp (n := 28 + 2) (by omega), (show xs (28 + 2) = 1 from hX1.2.2.2.2.2.2.2.2.2.2.2.2.2.2.2.2.2.2.2.2.2.2.1)]) ?_
  refine lv_if_eq (tgt := 351) hx hb dL_law_344 (by decide) (fun c9 => absurd c9 (by decide)) (fun _ => ?_)
  refine lv_iconst (v := 1) hx hb dL_law_347 (by decide) ?_
  refine lv_goto (tgt := 352) hx hb dL_law_348 (by decide) ?_
  have hPc := hP.sub (ws' := [(q4, .inr (14, [.int 0, .int 7, .ref wt2, .int 63, .ref li, .ref sc, .ref lo, .ref hi, .long 0]))]) [12] rfl
  have hDc := hD.sub (ws' := [(q4, .inr (14, [.int 0, .int 7, .ref wt2, .int 63, .ref li, .ref sc, .ref lo, .ref hi, .long 0]))]) [12] (by decide) rfl
  have hFc := va_free (wc := [(q4, .inr (14, [.int 0, .int 7, .ref wt2, .int 63, .ref li, .ref sc, .ref lo, .ref hi, .long 0]))]) hD hS hA [12] rfl
  refine va_calli (va_runV (As := [.int 6, .int 1]) (rest := []) ⟨hx, hb, hml, hown, hts⟩ (c_X14_die l dC dI aC H.size q4 0 7 63 li (.ref wt2) (.ref sc) (.ref lo) (.ref hi) (.long 0) 6 127 128 0 (by decide) (by decide) (by decide) (by decide) (by decide)) (cwV 2 hts gT_X14_die rfl rfl rfl (by decide +kernel) ⟨Nat.le_of_ble_eq_true rfl, Nat.le_of_ble_eq_true rfl⟩) (rf_pv hK hN hPc hDc (va_recv hK hP (ci := 14) (q0 := 12) rfl rfl)) rfl rfl hl.1 rfl (lv_room (Nat.le_of_ble_eq_true rfl)) dL_law_352 ⟨(by show 101 + 0 ≤ 3000; omega), (by show 6383 + 0 ≤ 7371873; omega)⟩) hS (fun q _ h => hFc q h) hFc (fun r85 u84 t H1 locs ht hvm hwu84 hB hz1 hk1 hS => ?_)
  obtain ⟨hP1, hD1⟩ := hB
  rw [ht] at hP1
  try dsimp only at hwu84 hP1 hD1
  obtain ⟨hP, hD⟩ := va_join (wr := [(ev, .inl (aC 5, 0, .inr (.inr (.inr (.inr ef))))), (fa, .inl (aC 4, 5, .inr (.inr (.inr (.inr uf))))), (s0, .inr (1, [.ref b0, .ref r0, .int 0])), (b0, .inl (aC 0, 128, .inl (fun _ => 0))), (pa, .inr (1, [.ref pb, .ref pr, .int 0])), (pb, .inl (aC 0, 128, .inl (fun _ => 0))), (md, .inr (1, [.ref mb, .ref mr, .int 0])), (mb, .inl (aC 0, 128, .inl (fun _ => 0))), (mk, .inr (6, [.ref k1, .ref k2])), (rg, .inr (4, [.ref g1, .ref g2, .ref g3, .ref g4, .ref wi])), (wi, .inl (aC 2, 256, .inr (.inl (fun _ => 0)))), (li, .inr (13, [.int mc, .ref ev, .int 0])), (q1, .inr (11, [.ref pt, .ref fa, .int 0, .ref pa, .ref o1, .ref md, .ref o2, .ref o3, .ref rg, .ref o4, .ref mk, .ref o5, .ref o6, .ref o7, .ref o8])), (pt, .inr (0, [.ref w, .int 7, .int 0])), (w, .inl (aC 1, 7, .inl u11)), (q7, .inr (12, [.long u80, .null]))]) (w1 := [(q4, .inr (14, [.int 0, .int 7, .ref wt2, .int 127, .ref li, .ref sc, .ref lo, .ref hi, .long 0]))]) hP hD [12] [0, 1, 2, 3, 4, 5, 6, 7, 8, 9, 10, 11, 13, 14, 15, 16] rfl rfl (by decide) (by decide) hk1 hFc hP1 hD1
  clear hP1 hD1 hPc hDc hFc hk1 hz1
  generalize H1 = H at hP hS ⊢
  have hP : va_P (dC, dI) rfCl [(ev, .inl (aC 5, 0, .inr (.inr (.inr (.inr ef))))), (fa, .inl (aC 4, 5, .inr (.inr (.inr (.inr uf))))), (s0, .inr (1, [.ref b0, .ref r0, .int 0])), (b0, .inl (aC 0, 128, .inl (fun _ => 0))), (pa, .inr (1, [.ref pb, .ref pr, .int 0])), (pb, .inl (aC 0, 128, .inl (fun _ => 0))), (md, .inr (1, [.ref mb, .ref mr, .int 0])), (mb, .inl (aC 0, 128, .inl (fun _ => 0))), (mk, .inr (6, [.ref k1, .ref k2])), (rg, .inr (4, [.ref g1, .ref g2, .ref g3, .ref g4, .ref wi])), (wi, .inl (aC 2, 256, .inr (.inl (fun _ => 0)))), (li, .inr (13, [.int mc, .ref ev, .int 0])), (q1, .inr (11, [.ref pt, .ref fa, .int 0, .ref pa, .ref o1, .ref md, .ref o2, .ref o3, .ref rg, .ref o4, .ref mk, .ref o5, .ref o6, .ref o7, .ref o8])), (pt, .inr (0, [.ref w, .int 7, .int 0])), (w, .inl (aC 1, 7, .inl u11)), (q7, .inr (12, [.long u80, .null])), (q4, .inr (14, [.int 0, .int 7, .ref wt2, .int 127, .ref li, .ref sc, .ref lo, .ref hi, .long 0]))] H := hP
  have hD : va_D A [(ev, .inl (aC 5, 0, .inr (.inr (.inr (.inr ef))))), (fa, .inl (aC 4, 5, .inr (.inr (.inr (.inr uf))))), (s0, .inr (1, [.ref b0, .ref r0, .int 0])), (b0, .inl (aC 0, 128, .inl (fun _ => 0))), (pa, .inr (1, [.ref pb, .ref pr, .int 0])), (pb, .inl (aC 0, 128, .inl (fun _ => 0))), (md, .inr (1, [.ref mb, .ref mr, .int 0])), (mb, .inl (aC 0, 128, .inl (fun _ => 0))), (mk, .inr (6, [.ref k1, .ref k2])), (rg, .inr (4, [.ref g1, .ref g2, .ref g3, .ref g4, .ref wi])), (wi, .inl (aC 2, 256, .inr (.inl (fun _ => 0)))), (li, .inr (13, [.int mc, .ref ev, .int 0])), (q1, .inr (11, [.ref pt, .ref fa, .int 0, .ref pa, .ref o1, .ref md, .ref o2, .ref o3, .ref rg, .ref o4, .ref mk, .ref o5, .ref o6, .ref o7, .ref o8])), (pt, .inr (0, [.ref w, .int 7, .int 0])), (w, .inl (aC 1, 7, .inl u11)), (q7, .inr (12, [.long u80, .null])), (q4, .inr (14, [.int 0, .int 7, .ref wt2, .int 127, .ref li, .ref sc, .ref lo, .ref hi, .long 0]))] := hD
  refine W.widen (k := 101) (n := 6383) (by omega) (by omega) ?_
  refine lv_istore (lv' := [(6, .int r85), (5, .int 0), (4, .int (nI 28)), (0, .ref b), (1, .ref q1), (2, .ref q4), (3, .ref q7)]) hx hb dL_law_355 hl (by decide) rfl (fun ls hl => ?_)
  refine lv_goto (tgt := 2083) hx hb dL_law_357 (by decide) ?_
  refine lv_iinc (v := (nI 32)) (lv' := [(4, .int (nI 32)), (6, .int r85), (5, .int 0), (0, .ref b), (1, .ref q1), (2, .ref q4), (3, .ref q7)]) hx hb dL_law_2083 hl (k := 2) rfl (by rw [show Int32.ofInt 4 = nI 4 from by decide, nI_add]) (by decide) rfl (fun ls hl => ?_)
  refine lv_goto (tgt := 27) hx hb dL_law_2086 (by decide) ?_
  have hl : lv_has ls 8 [(4, .int (nI 32)), (0, .ref b), (1, .ref q1), (2, .ref q4), (3, .ref q7)] := lv_sub hl [0, 3, 4, 5, 6] rfl
  refine lv_iload hx hb dL_law_27 (lv_at hl 0 rfl) ?_
  refine lv_aload_n hx hb dL_law_29 rfl (lv_at hl 1 rfl) ?_
  refine va_slen hx hb hX hbl hbA hS dL_law_30 ?_
  refine lv_iconst (v := 4) hx hb dL_law_31 (by decide) ?_
  refine lv_isub hx hb dL_law_32 ?_
  refine lv_topi (fun t86 et86 => ?_)
  have hl9 : t86 = nI 1816 := by rw [et86]; decide
  subst hl9
  refine lv_icmp_gt (tgt := 2089) hx hb dL_law_33 (by decide) (fun c9 => absurd c9 (nI_nlt (by omega) (by decide))) (fun _ => ?_)
  refine lv_aload_n hx hb dL_law_36 rfl (lv_at hl 1 rfl) ?_
  refine lv_iload hx hb dL_law_37 (lv_at hl 0 rfl) ?_
  refine va_sld hx hb hX hbl hbA hS (vp_in_nI (n := 32) (by omega) (by decide)) dL_law_39 ?_
  refine W.eq (g2 := F0 m 40 ls [.int 3]) (by rw [nI_clamp (n := 32) (by omega), (show xs (32) = 3 from hX1.2.2.2.2.2.2.2.2.2.2.2.2.2.2.2.2.2.2.2.2.2.2.2)]) ?_
  refine lv_bipush (v := 63) hx hb dL_law_40 (by decide) ?_
  refine lv_iand hx hb dL_law_42 ?_
  refine lv_topi (fun t87 et87 => ?_)
  have hl9 : t87 = 3 := by rw [et87]; decide
  subst hl9
  refine lv_tableIn (off := 317) (tgt := 360) hx hb dL_law_43 (by decide) (by decide) (by decide) (by decide) ?_
  refine lv_aload_n hx hb dL_law_360 rfl (lv_at hl 2 rfl) ?_
  refine lv_aload_n hx hb dL_law_361 rfl (lv_at hl 4 rfl) ?_
  have hPc := hP.sub (ws' := [(q1, .inr (11, [.ref pt, .ref fa, .int 0, .ref pa, .ref o1, .ref md, .ref o2, .ref o3, .ref rg, .ref o4, .ref mk, .ref o5, .ref o6, .ref o7, .ref o8])), (fa, .inl (aC 4, 5, .inr (.inr (.inr (.inr uf))))), (s0, .inr (1, [.ref b0, .ref r0, .int 0])), (b0, .inl (aC 0, 128, .inl (fun _ => 0))), (md, .inr (1, [.ref mb, .ref mr, .int 0])), (mb, .inl (aC 0, 128, .inl (fun _ => 0))), (q7, .inr (12, [.long u80, .null]))]) [12, 1, 2, 3, 6, 7, 15] rfl
  have hDc := hD.sub (ws' := [(q1, .inr (11, [.ref pt, .ref fa, .int 0, .ref pa, .ref o1, .ref md, .ref o2, .ref o3, .ref rg, .ref o4, .ref mk, .ref o5, .ref o6, .ref o7, .ref o8])), (fa, .inl (aC 4, 5, .inr (.inr (.inr (.inr uf))))), (s0, .inr (1, [.ref b0, .ref r0, .int 0])), (b0, .inl (aC 0, 128, .inl (fun _ => 0))), (md, .inr (1, [.ref mb, .ref mr, .int 0])), (mb, .inl (aC 0, 128, .inl (fun _ => 0))), (q7, .inr (12, [.long u80, .null]))]) [12, 1, 2, 3, 6, 7, 15] (by decide) rfl
  have hFc := va_free (wc := [(q1, .inr (11, [.ref pt, .ref fa, .int 0, .ref pa, .ref o1, .ref md, .ref o2, .ref o3, .ref rg, .ref o4, .ref mk, .ref o5, .ref o6, .ref o7, .ref o8])), (fa, .inl (aC 4, 5, .inr (.inr (.inr (.inr uf))))), (s0, .inr (1, [.ref b0, .ref r0, .int 0])), (b0, .inl (aC 0, 128, .inl (fun _ => 0))), (md, .inr (1, [.ref mb, .ref mr, .int 0])), (mb, .inl (aC 0, 128, .inl (fun _ => 0))), (q7, .inr (12, [.long u80, .null]))]) hD hS hA [12, 1, 2, 3, 6, 7, 15] rfl
  refine va_calli (vx_runSW (As := [.ref q1, .ref q7]) (rest := []) ⟨hx, hb, hml, hown, hts⟩ (c_L_family l dC dI aC H.size q1 pt fa pa md rg mk (.ref o1) (.ref o2) (.ref o3) (.ref o4) (.ref o5) (.ref o6) (.ref o7) (.ref o8) uf s0 b0 (.ref r0) (fun _ => 0) 0 mb (.ref mr) (fun _ => 0) 0 q7 u80 .null hff) (vx_cwSW 2 hts gT_L_family rfl rfl rfl (by decide +kernel) ⟨Nat.le_of_ble_eq_true rfl, Nat.le_of_ble_eq_true rfl⟩) (rf_ps hK hN hPc hDc) rfl rfl hl.1 rfl (lv_room (Nat.le_of_ble_eq_true rfl)) dL_law_362 ⟨(by show 101 + 0 ≤ 3000; omega), (by show 6383 + 0 ≤ 7371873; omega)⟩) hS (fun q _ h => hFc q h) hFc (fun r89 u88 t H1 locs ht hvm hwu88 hB hz1 hk1 hS => ?_)
  obtain ⟨hP1, hD1⟩ := hB
  rw [ht] at hP1
  try dsimp only at hwu88 hP1 hD1
  obtain ⟨hP, hD⟩ := va_join (wr := [(ev, .inl (aC 5, 0, .inr (.inr (.inr (.inr ef))))), (pa, .inr (1, [.ref pb, .ref pr, .int 0])), (pb, .inl (aC 0, 128, .inl (fun _ => 0))), (mk, .inr (6, [.ref k1, .ref k2])), (rg, .inr (4, [.ref g1, .ref g2, .ref g3, .ref g4, .ref wi])), (wi, .inl (aC 2, 256, .inr (.inl (fun _ => 0)))), (li, .inr (13, [.int mc, .ref ev, .int 0])), (pt, .inr (0, [.ref w, .int 7, .int 0])), (w, .inl (aC 1, 7, .inl u11)), (q4, .inr (14, [.int 0, .int 7, .ref wt2, .int 127, .ref li, .ref sc, .ref lo, .ref hi, .long 0]))]) (w1 := [(q1, .inr (11, [.ref pt, .ref fa, .int 1, .ref pa, .ref o1, .ref md, .ref o2, .ref o3, .ref rg, .ref o4, .ref mk, .ref o5, .ref o6, .ref o7, .ref o8])), (fa, .inl (aC 4, 5, .inr (.inr (.inr (.inr uf))))), (s0, .inr (1, [.ref b0, .ref r0, .int 0])), (b0, .inl (aC 0, 128, .inl (u88.1.1))), (md, .inr (1, [.ref mb, .ref mr, .int 0])), (mb, .inl (aC 0, 128, .inl (u88.1.2))), (q7, .inr (12, [.long (u88.2), .null]))]) hP hD [12, 1, 2, 3, 6, 7, 15] [0, 4, 5, 8, 9, 10, 11, 13, 14, 16] rfl rfl (by decide) (by decide) hk1 hFc hP1 hD1
  clear hP1 hD1 hPc hDc hFc hk1 hz1
  generalize H1 = H at hP hS ⊢
  have hP : va_P (dC, dI) rfCl [(ev, .inl (aC 5, 0, .inr (.inr (.inr (.inr ef))))), (pa, .inr (1, [.ref pb, .ref pr, .int 0])), (pb, .inl (aC 0, 128, .inl (fun _ => 0))), (mk, .inr (6, [.ref k1, .ref k2])), (rg, .inr (4, [.ref g1, .ref g2, .ref g3, .ref g4, .ref wi])), (wi, .inl (aC 2, 256, .inr (.inl (fun _ => 0)))), (li, .inr (13, [.int mc, .ref ev, .int 0])), (pt, .inr (0, [.ref w, .int 7, .int 0])), (w, .inl (aC 1, 7, .inl u11)), (q4, .inr (14, [.int 0, .int 7, .ref wt2, .int 127, .ref li, .ref sc, .ref lo, .ref hi, .long 0])), (q1, .inr (11, [.ref pt, .ref fa, .int 1, .ref pa, .ref o1, .ref md, .ref o2, .ref o3, .ref rg, .ref o4, .ref mk, .ref o5, .ref o6, .ref o7, .ref o8])), (fa, .inl (aC 4, 5, .inr (.inr (.inr (.inr uf))))), (s0, .inr (1, [.ref b0, .ref r0, .int 0])), (b0, .inl (aC 0, 128, .inl (u88.1.1))), (md, .inr (1, [.ref mb, .ref mr, .int 0])), (mb, .inl (aC 0, 128, .inl (u88.1.2))), (q7, .inr (12, [.long (u88.2), .null]))] H := hP
  have hD : va_D A [(ev, .inl (aC 5, 0, .inr (.inr (.inr (.inr ef))))), (pa, .inr (1, [.ref pb, .ref pr, .int 0])), (pb, .inl (aC 0, 128, .inl (fun _ => 0))), (mk, .inr (6, [.ref k1, .ref k2])), (rg, .inr (4, [.ref g1, .ref g2, .ref g3, .ref g4, .ref wi])), (wi, .inl (aC 2, 256, .inr (.inl (fun _ => 0)))), (li, .inr (13, [.int mc, .ref ev, .int 0])), (pt, .inr (0, [.ref w, .int 7, .int 0])), (w, .inl (aC 1, 7, .inl u11)), (q4, .inr (14, [.int 0, .int 7, .ref wt2, .int 127, .ref li, .ref sc, .ref lo, .ref hi, .long 0])), (q1, .inr (11, [.ref pt, .ref fa, .int 1, .ref pa, .ref o1, .ref md, .ref o2, .ref o3, .ref rg, .ref o4, .ref mk, .ref o5, .ref o6, .ref o7, .ref o8])), (fa, .inl (aC 4, 5, .inr (.inr (.inr (.inr uf))))), (s0, .inr (1, [.ref b0, .ref r0, .int 0])), (b0, .inl (aC 0, 128, .inl (u88.1.1))), (md, .inr (1, [.ref mb, .ref mr, .int 0])), (mb, .inl (aC 0, 128, .inl (u88.1.2))), (q7, .inr (12, [.long (u88.2), .null]))] := hD
  refine W.widen (k := 101) (n := 6383) (by omega) (by omega) ?_
  subst hwu88
  refine lv_istore (lv' := [(5, .int 0), (4, .int (nI 32)), (0, .ref b), (1, .ref q1), (2, .ref q4), (3, .ref q7)]) hx hb dL_law_365 hl (by decide) rfl (fun ls hl => ?_)
  refine lv_aload_n hx hb dL_law_367 rfl (lv_at hl 4 rfl) ?_
  have hPc := hP.sub (ws' := [(q4, .inr (14, [.int 0, .int 7, .ref wt2, .int 127, .ref li, .ref sc, .ref lo, .ref hi, .long 0])), (li, .inr (13, [.int mc, .ref ev, .int 0])), (ev, .inl (aC 5, 0, .inr (.inr (.inr (.inr ef)))))]) [9, 6, 0] rfl
  have hDc := hD.sub (ws' := [(q4, .inr (14, [.int 0, .int 7, .ref wt2, .int 127, .ref li, .ref sc, .ref lo, .ref hi, .long 0])), (li, .inr (13, [.int mc, .ref ev, .int 0])), (ev, .inl (aC 5, 0, .inr (.inr (.inr (.inr ef)))))]) [9, 6, 0] (by decide) rfl
  have hFc := va_free (wc := [(q4, .inr (14, [.int 0, .int 7, .ref wt2, .int 127, .ref li, .ref sc, .ref lo, .ref hi, .long 0])), (li, .inr (13, [.int mc, .ref ev, .int 0])), (ev, .inl (aC 5, 0, .inr (.inr (.inr (.inr ef)))))]) hD hS hA [9, 6, 0] rfl
  refine va_calli (va_runV (As := []) (rest := []) ⟨hx, hb, hml, hown, hts⟩ (c_X14_family l dC dI aC H.size ev q4 0 127 li (.ref wt2) (.ref sc) (.ref lo) (.ref hi) (.long 0) mc ef) (cwV 0 hts gT_X14_family rfl rfl rfl (by decide +kernel) ⟨Nat.le_of_ble_eq_true rfl, Nat.le_of_ble_eq_true rfl⟩) (rf_pvZ hK hN hPc hDc (va_recv hK hP (ci := 14) (q0 := 9) rfl rfl) hZ hS hFc) rfl rfl hl.1 rfl (lv_room (Nat.le_of_ble_eq_true rfl)) dL_law_368 ⟨(by show 101 + 2 ≤ 3000; omega), (by show 6383 + 138 ≤ 7371873; omega)⟩) hS (fun q _ h => hFc q h) hFc (fun r91 u90 t H1 locs ht hvm hwu90 hB hz1 hk1 hS => ?_)
  obtain ⟨hP1, hD1⟩ := hB
  rw [ht] at hP1
  try dsimp only at hwu90 hP1 hD1
  obtain ⟨hP, hD⟩ := va_join (wr := [(pa, .inr (1, [.ref pb, .ref pr, .int 0])), (pb, .inl (aC 0, 128, .inl (fun _ => 0))), (mk, .inr (6, [.ref k1, .ref k2])), (rg, .inr (4, [.ref g1, .ref g2, .ref g3, .ref g4, .ref wi])), (wi, .inl (aC 2, 256, .inr (.inl (fun _ => 0)))), (pt, .inr (0, [.ref w, .int 7, .int 0])), (w, .inl (aC 1, 7, .inl u11)), (q1, .inr (11, [.ref pt, .ref fa, .int 1, .ref pa, .ref o1, .ref md, .ref o2, .ref o3, .ref rg, .ref o4, .ref mk, .ref o5, .ref o6, .ref o7, .ref o8])), (fa, .inl (aC 4, 5, .inr (.inr (.inr (.inr uf))))), (s0, .inr (1, [.ref b0, .ref r0, .int 0])), (b0, .inl (aC 0, 128, .inl (u88.1.1))), (md, .inr (1, [.ref mb, .ref mr, .int 0])), (mb, .inl (aC 0, 128, .inl (u88.1.2))), (q7, .inr (12, [.long (u88.2), .null]))]) (w1 := [(q4, .inr (14, [.int 0, .int 7, .ref wt2, .int 127, .ref li, .ref sc, .ref lo, .ref hi, .long 0])), (li, .inr (13, [.int (u90.1), .ref (u90.2.1), .int 1])), (ev, .inl (aC 5, 0, .inr (.inr (.inr (.inr ef))))), ((u90.2.1), .inl (aC 5, 10, .inr (.inr (.inr (.inr (u90.2.2.1)))))), ((u90.2.2.2), .inl (aC 0, 128, .inl (fun _ => 0)))]) hP hD [9, 6, 0] [1, 2, 3, 4, 5, 7, 8, 10, 11, 12, 13, 14, 15, 16] rfl rfl (by decide) (by decide) hk1 hFc hP1 hD1
  clear hP1 hD1 hPc hDc hFc hk1 hz1
  generalize H1 = H at hP hS ⊢
  have hP : va_P (dC, dI) rfCl [(pa, .inr (1, [.ref pb, .ref pr, .int 0])), (pb, .inl (aC 0, 128, .inl (fun _ => 0))), (mk, .inr (6, [.ref k1, .ref k2])), (rg, .inr (4, [.ref g1, .ref g2, .ref g3, .ref g4, .ref wi])), (wi, .inl (aC 2, 256, .inr (.inl (fun _ => 0)))), (pt, .inr (0, [.ref w, .int 7, .int 0])), (w, .inl (aC 1, 7, .inl u11)), (q1, .inr (11, [.ref pt, .ref fa, .int 1, .ref pa, .ref o1, .ref md, .ref o2, .ref o3, .ref rg, .ref o4, .ref mk, .ref o5, .ref o6, .ref o7, .ref o8])), (fa, .inl (aC 4, 5, .inr (.inr (.inr (.inr uf))))), (s0, .inr (1, [.ref b0, .ref r0, .int 0])), (b0, .inl (aC 0, 128, .inl (u88.1.1))), (md, .inr (1, [.ref mb, .ref mr, .int 0])), (mb, .inl (aC 0, 128, .inl (u88.1.2))), (q7, .inr (12, [.long (u88.2), .null])), (q4, .inr (14, [.int 0, .int 7, .ref wt2, .int 127, .ref li, .ref sc, .ref lo, .ref hi, .long 0])), (li, .inr (13, [.int (u90.1), .ref (u90.2.1), .int 1])), (ev, .inl (aC 5, 0, .inr (.inr (.inr (.inr ef))))), ((u90.2.1), .inl (aC 5, 10, .inr (.inr (.inr (.inr (u90.2.2.1)))))), ((u90.2.2.2), .inl (aC 0, 128, .inl (fun _ => 0)))] H := hP
  have hD : va_D A [(pa, .inr (1, [.ref pb, .ref pr, .int 0])), (pb, .inl (aC 0, 128, .inl (fun _ => 0))), (mk, .inr (6, [.ref k1, .ref k2])), (rg, .inr (4, [.ref g1, .ref g2, .ref g3, .ref g4, .ref wi])), (wi, .inl (aC 2, 256, .inr (.inl (fun _ => 0)))), (pt, .inr (0, [.ref w, .int 7, .int 0])), (w, .inl (aC 1, 7, .inl u11)), (q1, .inr (11, [.ref pt, .ref fa, .int 1, .ref pa, .ref o1, .ref md, .ref o2, .ref o3, .ref rg, .ref o4, .ref mk, .ref o5, .ref o6, .ref o7, .ref o8])), (fa, .inl (aC 4, 5, .inr (.inr (.inr (.inr uf))))), (s0, .inr (1, [.ref b0, .ref r0, .int 0])), (b0, .inl (aC 0, 128, .inl (u88.1.1))), (md, .inr (1, [.ref mb, .ref mr, .int 0])), (mb, .inl (aC 0, 128, .inl (u88.1.2))), (q7, .inr (12, [.long (u88.2), .null])), (q4, .inr (14, [.int 0, .int 7, .ref wt2, .int 127, .ref li, .ref sc, .ref lo, .ref hi, .long 0])), (li, .inr (13, [.int (u90.1), .ref (u90.2.1), .int 1])), (ev, .inl (aC 5, 0, .inr (.inr (.inr (.inr ef))))), ((u90.2.1), .inl (aC 5, 10, .inr (.inr (.inr (.inr (u90.2.2.1)))))), ((u90.2.2.2), .inl (aC 0, 128, .inl (fun _ => 0)))] := hD
  refine W.widen (k := 103) (n := 6521) (by omega) (by omega) ?_
  have hdf := hwu90
  obtain ⟨mc2, ed, df, ow⟩ := u90
  dsimp only at hP hD hdf
  obtain ⟨⟨f10, f11⟩, nv2⟩ := u88
  dsimp only at hP hD
  have hP : va_P (dC, dI) rfCl [(pa, .inr (1, [.ref pb, .ref pr, .int 0])), (pb, .inl (aC 0, 128, .inl (fun _ => 0))), (mk, .inr (6, [.ref k1, .ref k2])), (rg, .inr (4, [.ref g1, .ref g2, .ref g3, .ref g4, .ref wi])), (wi, .inl (aC 2, 256, .inr (.inl (fun _ => 0)))), (pt, .inr (0, [.ref w, .int 7, .int 0])), (w, .inl (aC 1, 7, .inl u11)), (q1, .inr (11, [.ref pt, .ref fa, .int 1, .ref pa, .ref o1, .ref md, .ref o2, .ref o3, .ref rg, .ref o4, .ref mk, .ref o5, .ref o6, .ref o7, .ref o8])), (fa, .inl (aC 4, 5, .inr (.inr (.inr (.inr uf))))), (s0, .inr (1, [.ref b0, .ref r0, .int 0])), (b0, .inl (aC 0, 128, .inl f10)), (md, .inr (1, [.ref mb, .ref mr, .int 0])), (mb, .inl (aC 0, 128, .inl f11)), (q7, .inr (12, [.long nv2, .null])), (q4, .inr (14, [.int 0, .int 7, .ref wt2, .int 127, .ref li, .ref sc, .ref lo, .ref hi, .long 0])), (li, .inr (13, [.int mc2, .ref ed, .int 1])), (ev, .inl (aC 5, 0, .inr (.inr (.inr (.inr ef))))), (ed, .inl (aC 5, 10, .inr (.inr (.inr (.inr df))))), (ow, .inl (aC 0, 128, .inl (fun _ => 0)))] H := hP
  have hD : va_D A [(pa, .inr (1, [.ref pb, .ref pr, .int 0])), (pb, .inl (aC 0, 128, .inl (fun _ => 0))), (mk, .inr (6, [.ref k1, .ref k2])), (rg, .inr (4, [.ref g1, .ref g2, .ref g3, .ref g4, .ref wi])), (wi, .inl (aC 2, 256, .inr (.inl (fun _ => 0)))), (pt, .inr (0, [.ref w, .int 7, .int 0])), (w, .inl (aC 1, 7, .inl u11)), (q1, .inr (11, [.ref pt, .ref fa, .int 1, .ref pa, .ref o1, .ref md, .ref o2, .ref o3, .ref rg, .ref o4, .ref mk, .ref o5, .ref o6, .ref o7, .ref o8])), (fa, .inl (aC 4, 5, .inr (.inr (.inr (.inr uf))))), (s0, .inr (1, [.ref b0, .ref r0, .int 0])), (b0, .inl (aC 0, 128, .inl f10)), (md, .inr (1, [.ref mb, .ref mr, .int 0])), (mb, .inl (aC 0, 128, .inl f11)), (q7, .inr (12, [.long nv2, .null])), (q4, .inr (14, [.int 0, .int 7, .ref wt2, .int 127, .ref li, .ref sc, .ref lo, .ref hi, .long 0])), (li, .inr (13, [.int mc2, .ref ed, .int 1])), (ev, .inl (aC 5, 0, .inr (.inr (.inr (.inr ef))))), (ed, .inl (aC 5, 10, .inr (.inr (.inr (.inr df))))), (ow, .inl (aC 0, 128, .inl (fun _ => 0)))] := hD
  refine lv_istore (lv' := [(6, .int r91), (5, .int 0), (4, .int (nI 32)), (0, .ref b), (1, .ref q1), (2, .ref q4), (3, .ref q7)]) hx hb dL_law_371 hl (by decide) rfl (fun ls hl => ?_)
  refine lv_goto (tgt := 2083) hx hb dL_law_373 (by decide) ?_
  refine lv_iinc (v := (nI 36)) (lv' := [(4, .int (nI 36)), (6, .int r91), (5, .int 0), (0, .ref b), (1, .ref q1), (2, .ref q4), (3, .ref q7)]) hx hb dL_law_2083 hl (k := 2) rfl (by rw [show Int32.ofInt 4 = nI 4 from by decide, nI_add]) (by decide) rfl (fun ls hl => ?_)
  refine lv_goto (tgt := 27) hx hb dL_law_2086 (by decide) ?_
  have hl : lv_has ls 8 [(4, .int (nI 36)), (0, .ref b), (1, .ref q1), (2, .ref q4), (3, .ref q7)] := lv_sub hl [0, 3, 4, 5, 6] rfl
  have hP := hP.sub (ws' := [(q1, .inr (11, [.ref pt, .ref fa, .int 1, .ref pa, .ref o1, .ref md, .ref o2, .ref o3, .ref rg, .ref o4, .ref mk, .ref o5, .ref o6, .ref o7, .ref o8])), (pt, .inr (0, [.ref w, .int 7, .int 0])), (w, .inl (aC 1, 7, .inl u11)), (fa, .inl (aC 4, 5, .inr (.inr (.inr (.inr uf))))), (s0, .inr (1, [.ref b0, .ref r0, .int 0])), (b0, .inl (aC 0, 128, .inl f10)), (pa, .inr (1, [.ref pb, .ref pr, .int 0])), (pb, .inl (aC 0, 128, .inl (fun _ => 0))), (md, .inr (1, [.ref mb, .ref mr, .int 0])), (mb, .inl (aC 0, 128, .inl f11)), (mk, .inr (6, [.ref k1, .ref k2])), (rg, .inr (4, [.ref g1, .ref g2, .ref g3, .ref g4, .ref wi])), (wi, .inl (aC 2, 256, .inr (.inl (fun _ => 0)))), (q7, .inr (12, [.long nv2, .null])), (q4, .inr (14, [.int 0, .int 7, .ref wt2, .int 127, .ref li, .ref sc, .ref lo, .ref hi, .long 0])), (li, .inr (13, [.int mc2, .ref ed, .int 1])), (ed, .inl (aC 5, 10, .inr (.inr (.inr (.inr df))))), (ow, .inl (aC 0, 128, .inl (fun _ => 0)))]) [7, 5, 6, 8, 9, 10, 0, 1, 11, 12, 2, 3, 4, 13, 14, 15, 17, 18] rfl
  have hD := hD.sub (ws' := [(q1, .inr (11, [.ref pt, .ref fa, .int 1, .ref pa, .ref o1, .ref md, .ref o2, .ref o3, .ref rg, .ref o4, .ref mk, .ref o5, .ref o6, .ref o7, .ref o8])), (pt, .inr (0, [.ref w, .int 7, .int 0])), (w, .inl (aC 1, 7, .inl u11)), (fa, .inl (aC 4, 5, .inr (.inr (.inr (.inr uf))))), (s0, .inr (1, [.ref b0, .ref r0, .int 0])), (b0, .inl (aC 0, 128, .inl f10)), (pa, .inr (1, [.ref pb, .ref pr, .int 0])), (pb, .inl (aC 0, 128, .inl (fun _ => 0))), (md, .inr (1, [.ref mb, .ref mr, .int 0])), (mb, .inl (aC 0, 128, .inl f11)), (mk, .inr (6, [.ref k1, .ref k2])), (rg, .inr (4, [.ref g1, .ref g2, .ref g3, .ref g4, .ref wi])), (wi, .inl (aC 2, 256, .inr (.inl (fun _ => 0)))), (q7, .inr (12, [.long nv2, .null])), (q4, .inr (14, [.int 0, .int 7, .ref wt2, .int 127, .ref li, .ref sc, .ref lo, .ref hi, .long 0])), (li, .inr (13, [.int mc2, .ref ed, .int 1])), (ed, .inl (aC 5, 10, .inr (.inr (.inr (.inr df))))), (ow, .inl (aC 0, 128, .inl (fun _ => 0)))]) [7, 5, 6, 8, 9, 10, 0, 1, 11, 12, 2, 3, 4, 13, 14, 15, 17, 18] (by decide) rfl
  have hP : va_P (dC, dI) rfCl [(q1, .inr (11, [.ref pt, .ref fa, .int 1, .ref pa, .ref o1, .ref md, .ref o2, .ref o3, .ref rg, .ref o4, .ref mk, .ref o5, .ref o6, .ref o7, .ref o8])), (pt, .inr (0, [.ref w, .int 7, .int 0])), (w, .inl (aC 1, 7, .inl u11)), (fa, .inl (aC 4, 5, .inr (.inr (.inr (.inr uf))))), (s0, .inr (1, [.ref b0, .ref r0, .int 0])), (b0, .inl (aC 0, 128, .inl f10)), (pa, .inr (1, [.ref pb, .ref pr, .int 0])), (pb, .inl (aC 0, 128, .inl (fun _ => 0))), (md, .inr (1, [.ref mb, .ref mr, .int 0])), (mb, .inl (aC 0, 128, .inl f11)), (mk, .inr (6, [.ref k1, .ref k2])), (rg, .inr (4, [.ref g1, .ref g2, .ref g3, .ref g4, .ref wi])), (wi, .inl (aC 2, 256, .inr (.inl (fun _ => 0)))), (q7, .inr (12, [.long nv2, .null])), (q4, .inr (14, [.int 0, .int 7, .ref wt2, .int 127, .ref li, .ref sc, .ref lo, .ref hi, .long 0])), (li, .inr (13, [.int mc2, .ref ed, .int 1])), (ed, .inl (aC 5, 10, .inr (.inr (.inr (.inr df))))), (ow, .inl (aC 0, 128, .inl (fun _ => 0)))] H := hP
  have hD : va_D A [(q1, .inr (11, [.ref pt, .ref fa, .int 1, .ref pa, .ref o1, .ref md, .ref o2, .ref o3, .ref rg, .ref o4, .ref mk, .ref o5, .ref o6, .ref o7, .ref o8])), (pt, .inr (0, [.ref w, .int 7, .int 0])), (w, .inl (aC 1, 7, .inl u11)), (fa, .inl (aC 4, 5, .inr (.inr (.inr (.inr uf))))), (s0, .inr (1, [.ref b0, .ref r0, .int 0])), (b0, .inl (aC 0, 128, .inl f10)), (pa, .inr (1, [.ref pb, .ref pr, .int 0])), (pb, .inl (aC 0, 128, .inl (fun _ => 0))), (md, .inr (1, [.ref mb, .ref mr, .int 0])), (mb, .inl (aC 0, 128, .inl f11)), (mk, .inr (6, [.ref k1, .ref k2])), (rg, .inr (4, [.ref g1, .ref g2, .ref g3, .ref g4, .ref wi])), (wi, .inl (aC 2, 256, .inr (.inl (fun _ => 0)))), (q7, .inr (12, [.long nv2, .null])), (q4, .inr (14, [.int 0, .int 7, .ref wt2, .int 127, .ref li, .ref sc, .ref lo, .ref hi, .long 0])), (li, .inr (13, [.int mc2, .ref ed, .int 1])), (ed, .inl (aC 5, 10, .inr (.inr (.inr (.inr df))))), (ow, .inl (aC 0, 128, .inl (fun _ => 0)))] := hD
  have loop : ∀ (n j : Nat) (pf : Nat → Int32) (wf : Nat → Int64) (nv : Int64) (is : List Nat), j + n = 446 → is.length = j → is.Pairwise (· < ·) → ∀ (H : Heap) (locs : List Loc), va_P (dC, dI) rfCl [(q1, .inr (11, [.ref pt, .ref fa, .int 1, .ref pa, .ref o1, .ref md, .ref o2, .ref o3, .ref rg, .ref o4, .ref mk, .ref o5, .ref o6, .ref o7, .ref o8])), (pt, .inr (0, [.ref w, .int 7, .int 0])), (w, .inl (aC 1, 7, .inl u11)), (fa, .inl (aC 4, 5, .inr (.inr (.inr (.inr uf))))), (s0, .inr (1, [.ref b0, .ref r0, .int 0])), (b0, .inl (aC 0, 128, .inl f10)), (pa, .inr (1, [.ref pb, .ref pr, .int 0])), (pb, .inl (aC 0, 128, .inl pf)), (md, .inr (1, [.ref mb, .ref mr, .int 0])), (mb, .inl (aC 0, 128, .inl f11)), (mk, .inr (6, [.ref k1, .ref k2])), (rg, .inr (4, [.ref g1, .ref g2, .ref g3, .ref g4, .ref wi])), (wi, .inl (aC 2, 256, .inr (.inl wf))), (q7, .inr (12, [.long nv, .null])), (q4, .inr (14, [.int 0, .int 7, .ref wt2, .int 127, .ref li, .ref sc, .ref lo, .ref hi, .long 0])), (li, .inr (13, [.int mc2, .ref ed, .int 1])), (ed, .inl (aC 5, 10, .inr (.inr (.inr (.inr df))))), (ow, .inl (aC 0, 128, .inl (fun _ => 0)))] H → va_D A [(q1, .inr (11, [.ref pt, .ref fa, .int 1, .ref pa, .ref o1, .ref md, .ref o2, .ref o3, .ref rg, .ref o4, .ref mk, .ref o5, .ref o6, .ref o7, .ref o8])), (pt, .inr (0, [.ref w, .int 7, .int 0])), (w, .inl (aC 1, 7, .inl u11)), (fa, .inl (aC 4, 5, .inr (.inr (.inr (.inr uf))))), (s0, .inr (1, [.ref b0, .ref r0, .int 0])), (b0, .inl (aC 0, 128, .inl f10)), (pa, .inr (1, [.ref pb, .ref pr, .int 0])), (pb, .inl (aC 0, 128, .inl pf)), (md, .inr (1, [.ref mb, .ref mr, .int 0])), (mb, .inl (aC 0, 128, .inl f11)), (mk, .inr (6, [.ref k1, .ref k2])), (rg, .inr (4, [.ref g1, .ref g2, .ref g3, .ref g4, .ref wi])), (wi, .inl (aC 2, 256, .inr (.inl wf))), (q7, .inr (12, [.long nv, .null])), (q4, .inr (14, [.int 0, .int 7, .ref wt2, .int 127, .ref li, .ref sc, .ref lo, .ref hi, .long 0])), (li, .inr (13, [.int mc2, .ref ed, .int 1])), (ed, .inl (aC 5, 10, .inr (.inr (.inr (.inr df))))), (ow, .inl (aC 0, 128, .inl (fun _ => 0)))] → va_S A s.heap H locs → rf_Big s.heap.size [q1, pt, w, fa, s0, b0, pa, pb, md, mb, mk, rg, wi, q7, q4, li, ed, ow] is H → ∀ ls : Array Slot, lv_has ls 8 [(4, .int (nI (36 + 4 * j))), (0, .ref b), (1, .ref q1), (2, .ref q4), (3, .ref q7)] → W p l e ({ frames := 100, cells := 3000, slots := 7371873, locals := 4000 } : Room) s m (([Value.ref b] : List Value).toArray) below meth c H locs (103 + 2 * j) (6521 + 16512 * j) (MQ below rf_Q (([Value.ref b] : List Value).toArray) s 3000 7371873 (fun _ => True)) (F0 m 27 ls []) := by
    intro n
    induction n with
    | zero =>
      intro j pf wf nv is hj hil hpw H locs hP hD hS hbig ls hl
      have hj9 : j = 446 := by omega
      subst hj9
      refine lv_iload hx hb dL_law_27 (lv_at hl 0 rfl) ?_
      refine lv_aload_n hx hb dL_law_29 rfl (lv_at hl 1 rfl) ?_
      refine va_slen hx hb hX hbl hbA hS dL_law_30 ?_
      refine lv_iconst (v := 4) hx hb dL_law_31 (by decide) ?_
      refine lv_isub hx hb dL_law_32 ?_
      refine lv_topi (fun t92 et92 => ?_)
      have hl9 : t92 = nI 1816 := by rw [et92]; decide
      subst hl9
      refine lv_icmp_gt (tgt := 2089) hx hb dL_law_33 (by decide) (fun _ => ?_) (fun c9 => absurd (nI_lt (by omega) (by decide)) c9)
      refine lv_iconst (v := 1) hx hb dL_law_2089 (by decide) ?_
      refine W.widen (k := 3000) (n := 7371873) (by omega) (by omega) ?_
      exact W.zret (v := 1) hx hb hr rfl (fun t ht hW => ⟨1, rfl, fun _ => ⟨is, hil, hpw, fun i hi9 => ⟨(hbig i hi9).1, by obtain ⟨-, -, -, cell, h1, h2⟩ := hbig i hi9; exact ⟨cell, by rw [ht]; exact h1, h2⟩⟩⟩⟩) (fun q _ => trivial) dL_law_2090
    | succ n ih =>
      intro j pf wf nv is hj hil hpw H locs hP hD hS hbig ls hl
      have hszs : s.heap.size ≤ H.size := hS.1
      refine lv_iload hx hb dL_law_27 (lv_at hl 0 rfl) ?_
      refine lv_aload_n hx hb dL_law_29 rfl (lv_at hl 1 rfl) ?_
      refine va_slen hx hb hX hbl hbA hS dL_law_30 ?_
      refine lv_iconst (v := 4) hx hb dL_law_31 (by decide) ?_
      refine lv_isub hx hb dL_law_32 ?_
      refine lv_topi (fun t93 et93 => ?_)
      have hl9 : t93 = nI 1816 := by rw [et93]; decide
      subst hl9
      refine lv_icmp_gt (tgt := 2089) hx hb dL_law_33 (by decide) (fun c9 => absurd c9 (nI_nlt (by omega) (by decide))) (fun _ => ?_)
      refine lv_aload_n hx hb dL_law_36 rfl (lv_at hl 1 rfl) ?_
      refine lv_iload hx hb dL_law_37 (lv_at hl 0 rfl) ?_
      refine va_sld hx hb hX hbl hbA hS (vp_in_nI (n := 36 + 4 * j) (by omega) (by decide)) dL_law_39 ?_
      refine W.eq (g2 := F0 m 40 ls [.int 22]) (by rw [nI_clamp (n := 36 + 4 * j) (by omega), (show xs (36 + 4 * j) = 22 from (by rw [show 36 + 4 * j = 36 + 4 * j by omega]; exact (hX2 j (by omega)).1))]) ?_
      refine lv_bipush (v := 63) hx hb dL_law_40 (by decide) ?_
      refine lv_iand hx hb dL_law_42 ?_
      refine lv_topi (fun t94 et94 => ?_)
      have hl9 : t94 = 22 := by rw [et94]; decide
      subst hl9
      refine lv_tableIn (off := 1118) (tgt := 1161) hx hb dL_law_43 (by decide) (by decide) (by decide) (by decide) ?_
      refine lv_aload_n hx hb dL_law_1161 rfl (lv_at hl 2 rfl) ?_
      refine lv_aload_n hx hb dL_law_1162 rfl (lv_at hl 1 rfl) ?_
      refine lv_iload hx hb dL_law_1163 (lv_at hl 0 rfl) ?_
      refine lv_iconst (v := 1) hx hb dL_law_1165 (by decide) ?_
      refine lv_iadd hx hb dL_law_1166 ?_
      refine lv_topi (fun t95 et95 => ?_)
      have hl9 : t95 = nI (36 + 4 * j + 1) := et95.trans (nI_add (36 + 4 * j) 1)
      subst hl9
      refine va_sld hx hb hX hbl hbA hS (vp_in_nI (n := 36 + 4 * j + 1) (by omega) (by decide)) dL_law_1167 ?_
      refine W.eq (g2 := F0 m 1168 ls [.int 0, .ref q1]) (by rw [nI_clamp (n := 36 + 4 * j + 1) (by omega), (show xs (36 + 4 * j + 1) = 0 from (by rw [show 36 + 4 * j + 1 = 37 + 4 * j by omega]; exact (hX2 j (by omega)).2))]) ?_
      refine lv_aload_n hx hb dL_law_1168 rfl (lv_at hl 4 rfl) ?_
      have hPc := hP.sub (ws' := [(q1, .inr (11, [.ref pt, .ref fa, .int 1, .ref pa, .ref o1, .ref md, .ref o2, .ref o3, .ref rg, .ref o4, .ref mk, .ref o5, .ref o6, .ref o7, .ref o8])), (fa, .inl (aC 4, 5, .inr (.inr (.inr (.inr uf))))), (s0, .inr (1, [.ref b0, .ref r0, .int 0])), (pt, .inr (0, [.ref w, .int 7, .int 0])), (mk, .inr (6, [.ref k1, .ref k2])), (pa, .inr (1, [.ref pb, .ref pr, .int 0])), (pb, .inl (aC 0, 128, .inl pf)), (rg, .inr (4, [.ref g1, .ref g2, .ref g3, .ref g4, .ref wi])), (wi, .inl (aC 2, 256, .inr (.inl wf))), (q7, .inr (12, [.long nv, .null]))]) [0, 3, 4, 1, 10, 6, 7, 11, 12, 13] rfl
      have hDc := hD.sub (ws' := [(q1, .inr (11, [.ref pt, .ref fa, .int 1, .ref pa, .ref o1, .ref md, .ref o2, .ref o3, .ref rg, .ref o4, .ref mk, .ref o5, .ref o6, .ref o7, .ref o8])), (fa, .inl (aC 4, 5, .inr (.inr (.inr (.inr uf))))), (s0, .inr (1, [.ref b0, .ref r0, .int 0])), (pt, .inr (0, [.ref w, .int 7, .int 0])), (mk, .inr (6, [.ref k1, .ref k2])), (pa, .inr (1, [.ref pb, .ref pr, .int 0])), (pb, .inl (aC 0, 128, .inl pf)), (rg, .inr (4, [.ref g1, .ref g2, .ref g3, .ref g4, .ref wi])), (wi, .inl (aC 2, 256, .inr (.inl wf))), (q7, .inr (12, [.long nv, .null]))]) [0, 3, 4, 1, 10, 6, 7, 11, 12, 13] (by decide) rfl
      have hFc := va_free (wc := [(q1, .inr (11, [.ref pt, .ref fa, .int 1, .ref pa, .ref o1, .ref md, .ref o2, .ref o3, .ref rg, .ref o4, .ref mk, .ref o5, .ref o6, .ref o7, .ref o8])), (fa, .inl (aC 4, 5, .inr (.inr (.inr (.inr uf))))), (s0, .inr (1, [.ref b0, .ref r0, .int 0])), (pt, .inr (0, [.ref w, .int 7, .int 0])), (mk, .inr (6, [.ref k1, .ref k2])), (pa, .inr (1, [.ref pb, .ref pr, .int 0])), (pb, .inl (aC 0, 128, .inl pf)), (rg, .inr (4, [.ref g1, .ref g2, .ref g3, .ref g4, .ref wi])), (wi, .inl (aC 2, 256, .inr (.inl wf))), (q7, .inr (12, [.long nv, .null]))]) hD hS hA [0, 3, 4, 1, 10, 6, 7, 11, 12, 13] rfl
      refine va_calli (vx_runSW (As := [.ref q1, .int 0, .ref q7]) (rest := []) ⟨hx, hb, hml, hown, hts⟩ (c_L_game l dC dI aC H.size q1 pt fa pa md rg mk (.ref o1) (.ref o2) (.ref o3) (.ref o4) (.ref o5) (.ref o6) (.ref o7) (.ref o8) uf s0 (.ref b0) (.ref r0) (.ref w) 7 (.ref k1) (.ref k2) pb (.ref pr) pf 0 (.ref g1) (.ref g2) (.ref g3) (.ref g4) wi wf q7 nv .null hff) (vx_cwSW 3 hts gT_L_game rfl rfl rfl (by decide +kernel) ⟨Nat.le_of_ble_eq_true rfl, Nat.le_of_ble_eq_true rfl⟩) (rf_ps hK hN hPc hDc) rfl rfl hl.1 rfl (lv_room (Nat.le_of_ble_eq_true rfl)) dL_law_1169 ⟨(by show 103 + 2 * j + 0 ≤ 3000; omega), (by show 6521 + 16512 * j + 0 ≤ 7371873; omega)⟩) hS (fun q _ h => hFc q h) hFc (fun r97 u96 t H1 locs ht hvm hwu96 hB hz1 hk1 hS => ?_)
      obtain ⟨hP1, hD1⟩ := hB
      rw [ht] at hP1
      try dsimp only at hwu96 hP1 hD1
      have hbig := rf_Big.kept hbig hz1 hk1 (by simp)
      obtain ⟨hP, hD⟩ := va_join (wr := [(w, .inl (aC 1, 7, .inl u11)), (b0, .inl (aC 0, 128, .inl f10)), (md, .inr (1, [.ref mb, .ref mr, .int 0])), (mb, .inl (aC 0, 128, .inl f11)), (q4, .inr (14, [.int 0, .int 7, .ref wt2, .int 127, .ref li, .ref sc, .ref lo, .ref hi, .long 0])), (li, .inr (13, [.int mc2, .ref ed, .int 1])), (ed, .inl (aC 5, 10, .inr (.inr (.inr (.inr df))))), (ow, .inl (aC 0, 128, .inl (fun _ => 0)))]) (w1 := [(q1, .inr (11, [.ref pt, .ref fa, .int 1, .ref pa, .ref o1, .ref md, .ref o2, .ref o3, .ref rg, .ref o4, .ref mk, .ref o5, .ref o6, .ref o7, .ref o8])), (fa, .inl (aC 4, 5, .inr (.inr (.inr (.inr uf))))), (s0, .inr (1, [.ref b0, .ref r0, .int 0])), (pt, .inr (0, [.ref w, .int 7, .int 0])), (mk, .inr (6, [.ref k1, .ref k2])), (pa, .inr (1, [.ref pb, .ref pr, .int 0])), (pb, .inl (aC 0, 128, .inl (u96.1.1))), (rg, .inr (4, [.ref g1, .ref g2, .ref g3, .ref g4, .ref wi])), (wi, .inl (aC 2, 256, .inr (.inl (u96.1.2)))), (q7, .inr (12, [.long (u96.2), .null]))]) hP hD [0, 3, 4, 1, 10, 6, 7, 11, 12, 13] [2, 5, 8, 9, 14, 15, 16, 17] rfl rfl (by decide) (by decide) hk1 hFc hP1 hD1
      clear hP1 hD1 hPc hDc hFc hk1 hz1
      generalize H1 = H at hP hS hbig ⊢
      have hP : va_P (dC, dI) rfCl [(w, .inl (aC 1, 7, .inl u11)), (b0, .inl (aC 0, 128, .inl f10)), (md, .inr (1, [.ref mb, .ref mr, .int 0])), (mb, .inl (aC 0, 128, .inl f11)), (q4, .inr (14, [.int 0, .int 7, .ref wt2, .int 127, .ref li, .ref sc, .ref lo, .ref hi, .long 0])), (li, .inr (13, [.int mc2, .ref ed, .int 1])), (ed, .inl (aC 5, 10, .inr (.inr (.inr (.inr df))))), (ow, .inl (aC 0, 128, .inl (fun _ => 0))), (q1, .inr (11, [.ref pt, .ref fa, .int 1, .ref pa, .ref o1, .ref md, .ref o2, .ref o3, .ref rg, .ref o4, .ref mk, .ref o5, .ref o6, .ref o7, .ref o8])), (fa, .inl (aC 4, 5, .inr (.inr (.inr (.inr uf))))), (s0, .inr (1, [.ref b0, .ref r0, .int 0])), (pt, .inr (0, [.ref w, .int 7, .int 0])), (mk, .inr (6, [.ref k1, .ref k2])), (pa, .inr (1, [.ref pb, .ref pr, .int 0])), (pb, .inl (aC 0, 128, .inl (u96.1.1))), (rg, .inr (4, [.ref g1, .ref g2, .ref g3, .ref g4, .ref wi])), (wi, .inl (aC 2, 256, .inr (.inl (u96.1.2)))), (q7, .inr (12, [.long (u96.2), .null]))] H := hP
      have hD : va_D A [(w, .inl (aC 1, 7, .inl u11)), (b0, .inl (aC 0, 128, .inl f10)), (md, .inr (1, [.ref mb, .ref mr, .int 0])), (mb, .inl (aC 0, 128, .inl f11)), (q4, .inr (14, [.int 0, .int 7, .ref wt2, .int 127, .ref li, .ref sc, .ref lo, .ref hi, .long 0])), (li, .inr (13, [.int mc2, .ref ed, .int 1])), (ed, .inl (aC 5, 10, .inr (.inr (.inr (.inr df))))), (ow, .inl (aC 0, 128, .inl (fun _ => 0))), (q1, .inr (11, [.ref pt, .ref fa, .int 1, .ref pa, .ref o1, .ref md, .ref o2, .ref o3, .ref rg, .ref o4, .ref mk, .ref o5, .ref o6, .ref o7, .ref o8])), (fa, .inl (aC 4, 5, .inr (.inr (.inr (.inr uf))))), (s0, .inr (1, [.ref b0, .ref r0, .int 0])), (pt, .inr (0, [.ref w, .int 7, .int 0])), (mk, .inr (6, [.ref k1, .ref k2])), (pa, .inr (1, [.ref pb, .ref pr, .int 0])), (pb, .inl (aC 0, 128, .inl (u96.1.1))), (rg, .inr (4, [.ref g1, .ref g2, .ref g3, .ref g4, .ref wi])), (wi, .inl (aC 2, 256, .inr (.inl (u96.1.2)))), (q7, .inr (12, [.long (u96.2), .null]))] := hD
      refine W.widen (k := 103 + 2 * j) (n := 6521 + 16512 * j) (by omega) (by omega) ?_
      subst hwu96
      refine lv_istore (lv' := [(5, .int 0), (4, .int (nI (36 + 4 * j))), (0, .ref b), (1, .ref q1), (2, .ref q4), (3, .ref q7)]) hx hb dL_law_1172 hl (by decide) rfl (fun ls hl => ?_)
      refine lv_aload_n hx hb dL_law_1174 rfl (lv_at hl 4 rfl) ?_
      refine lv_aload_n hx hb dL_law_1175 rfl (lv_at hl 2 rfl) ?_
      refine lv_iload hx hb dL_law_1176 (lv_at hl 1 rfl) ?_
      refine lv_iconst (v := 1) hx hb dL_law_1178 (by decide) ?_
      refine lv_iadd hx hb dL_law_1179 ?_
      refine lv_topi (fun t98 et98 => ?_)
      have hl9 : t98 = nI (36 + 4 * j + 1) := et98.trans (nI_add (36 + 4 * j) 1)
      subst hl9
      refine va_sld hx hb hX hbl hbA hS (vp_in_nI (n := 36 + 4 * j + 1) (by omega) (by decide)) dL_law_1180 ?_
      refine W.eq (g2 := F0 m 1181 ls [.int 0, .ref q4]) (by rw [nI_clamp (n := 36 + 4 * j + 1) (by omega), (show xs (36 + 4 * j + 1) = 0 from (by rw [show 36 + 4 * j + 1 = 37 + 4 * j by omega]; exact (hX2 j (by omega)).2))]) ?_
      have hlt9 : ∀ i ∈ is, i < H.size := fun i hi9 => (hbig i hi9).2.1
      have hsz9 : s.heap.size ≤ H.size := hS.1
      have hadl := rf_adlt (ad := [q1, pt, w, fa, s0, b0, pa, pb, md, mb, mk, rg, wi, q7, q4, li, ed, ow]) hP [8, 11, 0, 9, 10, 1, 13, 14, 2, 3, 12, 15, 16, 17, 4, 5, 6, 7] rfl
      have hPc := hP.sub (ws' := [(q4, .inr (14, [.int 0, .int 7, .ref wt2, .int 127, .ref li, .ref sc, .ref lo, .ref hi, .long 0])), (li, .inr (13, [.int mc2, .ref ed, .int 1])), (ed, .inl (aC 5, 10, .inr (.inr (.inr (.inr df))))), (ow, .inl (aC 0, 128, .inl (fun _ => 0)))]) [4, 5, 6, 7] rfl
      have hDc := hD.sub (ws' := [(q4, .inr (14, [.int 0, .int 7, .ref wt2, .int 127, .ref li, .ref sc, .ref lo, .ref hi, .long 0])), (li, .inr (13, [.int mc2, .ref ed, .int 1])), (ed, .inl (aC 5, 10, .inr (.inr (.inr (.inr df))))), (ow, .inl (aC 0, 128, .inl (fun _ => 0)))]) [4, 5, 6, 7] (by decide) rfl
      have hFc := va_free (wc := [(q4, .inr (14, [.int 0, .int 7, .ref wt2, .int 127, .ref li, .ref sc, .ref lo, .ref hi, .long 0])), (li, .inr (13, [.int mc2, .ref ed, .int 1])), (ed, .inl (aC 5, 10, .inr (.inr (.inr (.inr df))))), (ow, .inl (aC 0, 128, .inl (fun _ => 0)))]) hD hS hA [4, 5, 6, 7] rfl
      refine va_calli (va_runV (As := [.int 0]) (rest := []) ⟨hx, hb, hml, hown, hts⟩ (c_X14_game l dC dI aC H.size q4 0 li (.ref wt2) (.ref sc) (.ref lo) (.ref hi) (.long 0) mc2 ed df ow (fun _ => 0) hdf) (cwV 1 hts gT_X14_game rfl rfl rfl (by decide +kernel) ⟨Nat.le_of_ble_eq_true rfl, Nat.le_of_ble_eq_true rfl⟩) (rf_pv hK hN hPc hDc (va_recv hK hP (ci := 14) (q0 := 4) rfl rfl)) rfl rfl hl.1 rfl (lv_room (Nat.le_of_ble_eq_true rfl)) dL_law_1181 ⟨(by show 103 + 2 * j + 2 ≤ 3000; omega), (by show 6521 + 16512 * j + 16512 ≤ 7371873; omega)⟩) hS (fun q _ h => hFc q h) hFc (fun r100 u99 t H1 locs ht hvm hwu99 hB hz1 hk1 hS => ?_)
      obtain ⟨hP1, hD1⟩ := hB
      rw [ht] at hP1
      try dsimp only at hwu99 hP1 hD1
      have hbig := rf_Big.kept hbig hz1 hk1 (by simp)
      have hu := rf_new hD1 4 rfl [0, 1, 2, 3] rfl (by decide)
      obtain ⟨kc, hkc1, hkc2⟩ := rf_kn (hP1 4 _ rfl)
      have hpw2 := rf_pw hpw (fun i hi9 => hlt9 i hi9) hu
      have hbig := rf_Big.push hbig hsz9 hu hkc1 hkc2 hadl
      obtain ⟨hP, hD⟩ := va_join (wr := [(w, .inl (aC 1, 7, .inl u11)), (b0, .inl (aC 0, 128, .inl f10)), (md, .inr (1, [.ref mb, .ref mr, .int 0])), (mb, .inl (aC 0, 128, .inl f11)), (q1, .inr (11, [.ref pt, .ref fa, .int 1, .ref pa, .ref o1, .ref md, .ref o2, .ref o3, .ref rg, .ref o4, .ref mk, .ref o5, .ref o6, .ref o7, .ref o8])), (fa, .inl (aC 4, 5, .inr (.inr (.inr (.inr uf))))), (s0, .inr (1, [.ref b0, .ref r0, .int 0])), (pt, .inr (0, [.ref w, .int 7, .int 0])), (mk, .inr (6, [.ref k1, .ref k2])), (pa, .inr (1, [.ref pb, .ref pr, .int 0])), (pb, .inl (aC 0, 128, .inl (u96.1.1))), (rg, .inr (4, [.ref g1, .ref g2, .ref g3, .ref g4, .ref wi])), (wi, .inl (aC 2, 256, .inr (.inl (u96.1.2)))), (q7, .inr (12, [.long (u96.2), .null]))]) (w1 := [(q4, .inr (14, [.int 0, .int 7, .ref wt2, .int 127, .ref li, .ref sc, .ref lo, .ref hi, .long 0])), (li, .inr (13, [.int mc2, .ref ed, .int 1])), (ed, .inl (aC 5, 10, .inr (.inr (.inr (.inr df))))), (ow, .inl (aC 0, 128, .inl (fun _ => 0))), (u99, .inl (aC 3, 16384, .inl (fun _ => 0)))]) hP hD [4, 5, 6, 7] [0, 1, 2, 3, 8, 9, 10, 11, 12, 13, 14, 15, 16, 17] rfl rfl (by decide) (by decide) hk1 hFc hP1 hD1
      clear hP1 hD1 hPc hDc hFc hk1 hz1
      generalize H1 = H at hP hS hbig ⊢
      have hP : va_P (dC, dI) rfCl [(w, .inl (aC 1, 7, .inl u11)), (b0, .inl (aC 0, 128, .inl f10)), (md, .inr (1, [.ref mb, .ref mr, .int 0])), (mb, .inl (aC 0, 128, .inl f11)), (q1, .inr (11, [.ref pt, .ref fa, .int 1, .ref pa, .ref o1, .ref md, .ref o2, .ref o3, .ref rg, .ref o4, .ref mk, .ref o5, .ref o6, .ref o7, .ref o8])), (fa, .inl (aC 4, 5, .inr (.inr (.inr (.inr uf))))), (s0, .inr (1, [.ref b0, .ref r0, .int 0])), (pt, .inr (0, [.ref w, .int 7, .int 0])), (mk, .inr (6, [.ref k1, .ref k2])), (pa, .inr (1, [.ref pb, .ref pr, .int 0])), (pb, .inl (aC 0, 128, .inl (u96.1.1))), (rg, .inr (4, [.ref g1, .ref g2, .ref g3, .ref g4, .ref wi])), (wi, .inl (aC 2, 256, .inr (.inl (u96.1.2)))), (q7, .inr (12, [.long (u96.2), .null])), (q4, .inr (14, [.int 0, .int 7, .ref wt2, .int 127, .ref li, .ref sc, .ref lo, .ref hi, .long 0])), (li, .inr (13, [.int mc2, .ref ed, .int 1])), (ed, .inl (aC 5, 10, .inr (.inr (.inr (.inr df))))), (ow, .inl (aC 0, 128, .inl (fun _ => 0))), (u99, .inl (aC 3, 16384, .inl (fun _ => 0)))] H := hP
      have hD : va_D A [(w, .inl (aC 1, 7, .inl u11)), (b0, .inl (aC 0, 128, .inl f10)), (md, .inr (1, [.ref mb, .ref mr, .int 0])), (mb, .inl (aC 0, 128, .inl f11)), (q1, .inr (11, [.ref pt, .ref fa, .int 1, .ref pa, .ref o1, .ref md, .ref o2, .ref o3, .ref rg, .ref o4, .ref mk, .ref o5, .ref o6, .ref o7, .ref o8])), (fa, .inl (aC 4, 5, .inr (.inr (.inr (.inr uf))))), (s0, .inr (1, [.ref b0, .ref r0, .int 0])), (pt, .inr (0, [.ref w, .int 7, .int 0])), (mk, .inr (6, [.ref k1, .ref k2])), (pa, .inr (1, [.ref pb, .ref pr, .int 0])), (pb, .inl (aC 0, 128, .inl (u96.1.1))), (rg, .inr (4, [.ref g1, .ref g2, .ref g3, .ref g4, .ref wi])), (wi, .inl (aC 2, 256, .inr (.inl (u96.1.2)))), (q7, .inr (12, [.long (u96.2), .null])), (q4, .inr (14, [.int 0, .int 7, .ref wt2, .int 127, .ref li, .ref sc, .ref lo, .ref hi, .long 0])), (li, .inr (13, [.int mc2, .ref ed, .int 1])), (ed, .inl (aC 5, 10, .inr (.inr (.inr (.inr df))))), (ow, .inl (aC 0, 128, .inl (fun _ => 0))), (u99, .inl (aC 3, 16384, .inl (fun _ => 0)))] := hD
      refine W.widen (k := 105 + 2 * j) (n := 23033 + 16512 * j) (by omega) (by omega) ?_
      refine lv_istore (lv' := [(6, .int r100), (5, .int 0), (4, .int (nI (36 + 4 * j))), (0, .ref b), (1, .ref q1), (2, .ref q4), (3, .ref q7)]) hx hb dL_law_1184 hl (by decide) rfl (fun ls hl => ?_)
      refine lv_goto (tgt := 2083) hx hb dL_law_1186 (by decide) ?_
      refine lv_iinc (v := (nI (36 + 4 * (j + 1)))) (lv' := [(4, .int (nI (36 + 4 * (j + 1)))), (6, .int r100), (5, .int 0), (0, .ref b), (1, .ref q1), (2, .ref q4), (3, .ref q7)]) hx hb dL_law_2083 hl (k := 2) rfl (by rw [show Int32.ofInt 4 = nI 4 from by decide, nI_add]; exact congrArg nI (by omega)) (by decide) rfl (fun ls hl => ?_)
      refine lv_goto (tgt := 27) hx hb dL_law_2086 (by decide) ?_
      have hl : lv_has ls 8 [(4, .int (nI (36 + 4 * (j + 1)))), (0, .ref b), (1, .ref q1), (2, .ref q4), (3, .ref q7)] := lv_sub hl [0, 3, 4, 5, 6] rfl
      have hP := hP.sub (ws' := [(q1, .inr (11, [.ref pt, .ref fa, .int 1, .ref pa, .ref o1, .ref md, .ref o2, .ref o3, .ref rg, .ref o4, .ref mk, .ref o5, .ref o6, .ref o7, .ref o8])), (pt, .inr (0, [.ref w, .int 7, .int 0])), (w, .inl (aC 1, 7, .inl u11)), (fa, .inl (aC 4, 5, .inr (.inr (.inr (.inr uf))))), (s0, .inr (1, [.ref b0, .ref r0, .int 0])), (b0, .inl (aC 0, 128, .inl f10)), (pa, .inr (1, [.ref pb, .ref pr, .int 0])), (pb, .inl (aC 0, 128, .inl (u96.1.1))), (md, .inr (1, [.ref mb, .ref mr, .int 0])), (mb, .inl (aC 0, 128, .inl f11)), (mk, .inr (6, [.ref k1, .ref k2])), (rg, .inr (4, [.ref g1, .ref g2, .ref g3, .ref g4, .ref wi])), (wi, .inl (aC 2, 256, .inr (.inl (u96.1.2)))), (q7, .inr (12, [.long (u96.2), .null])), (q4, .inr (14, [.int 0, .int 7, .ref wt2, .int 127, .ref li, .ref sc, .ref lo, .ref hi, .long 0])), (li, .inr (13, [.int mc2, .ref ed, .int 1])), (ed, .inl (aC 5, 10, .inr (.inr (.inr (.inr df))))), (ow, .inl (aC 0, 128, .inl (fun _ => 0)))]) [4, 7, 0, 5, 6, 1, 9, 10, 2, 3, 8, 11, 12, 13, 14, 15, 16, 17] rfl
      have hD := hD.sub (ws' := [(q1, .inr (11, [.ref pt, .ref fa, .int 1, .ref pa, .ref o1, .ref md, .ref o2, .ref o3, .ref rg, .ref o4, .ref mk, .ref o5, .ref o6, .ref o7, .ref o8])), (pt, .inr (0, [.ref w, .int 7, .int 0])), (w, .inl (aC 1, 7, .inl u11)), (fa, .inl (aC 4, 5, .inr (.inr (.inr (.inr uf))))), (s0, .inr (1, [.ref b0, .ref r0, .int 0])), (b0, .inl (aC 0, 128, .inl f10)), (pa, .inr (1, [.ref pb, .ref pr, .int 0])), (pb, .inl (aC 0, 128, .inl (u96.1.1))), (md, .inr (1, [.ref mb, .ref mr, .int 0])), (mb, .inl (aC 0, 128, .inl f11)), (mk, .inr (6, [.ref k1, .ref k2])), (rg, .inr (4, [.ref g1, .ref g2, .ref g3, .ref g4, .ref wi])), (wi, .inl (aC 2, 256, .inr (.inl (u96.1.2)))), (q7, .inr (12, [.long (u96.2), .null])), (q4, .inr (14, [.int 0, .int 7, .ref wt2, .int 127, .ref li, .ref sc, .ref lo, .ref hi, .long 0])), (li, .inr (13, [.int mc2, .ref ed, .int 1])), (ed, .inl (aC 5, 10, .inr (.inr (.inr (.inr df))))), (ow, .inl (aC 0, 128, .inl (fun _ => 0)))]) [4, 7, 0, 5, 6, 1, 9, 10, 2, 3, 8, 11, 12, 13, 14, 15, 16, 17] (by decide) rfl
      refine W.widen (k := 103 + 2 * (j + 1)) (n := 6521 + 16512 * (j + 1)) (by omega) (by omega) ?_
      exact ih (j + 1) _ _ _ (is ++ [u99]) (by omega) (by rw [List.length_append, hil]; rfl) hpw2 H _ hP hD hS hbig ls hl
  refine W.widen (k := 103 + 2 * 0) (n := 6521 + 16512 * 0) (by omega) (by omega) ?_
  exact loop 446 0 _ _ _ [] (by decide) rfl List.Pairwise.nil H _ hP hD hS (fun i hi9 => absurd hi9 List.not_mem_nil) ls (lv_sub hl [0, 1, 2, 3, 4] rfl)
