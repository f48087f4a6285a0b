/-! the kinds of cells, the array classes, what is known of the tables; a contract's start -/
abbrev rfCl : List vw_C := [(RX3, TX3, 3), (RX7, TX7, 3), (RX0, TX0, 5), (RX4, TX4, 5), (RX5, TX5, 5), (RX6, TX6, 5), (RX1, TX1, 2), (RX8, TX8, 3), (RX10, TX10, 4), (RX2, TX2, 7), (RX9, TX9, 6), (RX11, TX11, 15), (RX12, TX12, 2), (RJx4a65c, TJx4a65c, 3), (RX14, TX14, 9)]
abbrev rfT (aC : Nat → ClassId) : List (ClassId × FieldType) := [(aC 0, .boolean), (aC 1, .int), (aC 2, .long), (aC 3, .byte), (aC 4, .object "Transversary$Sets"), (aC 5, .object "java/lang/Object")]
def rf_nestL : List (String × Nat × MethodName × String) := [(RX3, 26, yX11_sizeOf, "Transversary"), (RX5, 33, yX11_sizeOf, "Transversary"), (RX5, 29, yX11_isIn, "Transversary"), (RX0, 11, yX7_init, "Transversary"), (RX6, 11, yX7_init, "Transversary"), (RX10, 11, yX7_init, "Transversary"), (RX1, 11, yX7_init, "Transversary"), (RX11, 11, yX3_init, "Transversary"), (RX11, 22, yX7_init, "Transversary"), (RX11, 35, yX0_init, "Transversary"), (RX11, 42, yX4_init, "Transversary"), (RX11, 74, yX8_init, "Transversary"), (RX11, 81, yX10_init, "Transversary"), (RX11, 88, yX2_init, "Transversary"), (RX11, 95, yX9_init, "Transversary"), (RL, 166, yX12_init, "TransversaryLaw")]
def rf_N (U : State) : Prop := (∀ q ∈ rf_nestL, va_Nw (.methodLinkNest q.1 q.2.1 q.2.2.1 q.2.2.2) U) ∧ (va_AO "Transversary$Sets" U ∧ va_AO "java/lang/Object" U ∧ va_AOA .long U ∧ va_AOA .int U ∧ va_Nw (.castable "[Z" "java/lang/Object") U ∧ va_Nw (.fieldLinkNest RL 13 RX12 "n" "J" RL) U)
theorem rf_N.moved {s U : State} (hW : s.WarmedH U.vm) (h : rf_N s) : rf_N U := ⟨fun q hq => va_Nw.warmM hW (h.1 q hq), h.2.1.moved hW.alike, h.2.2.1.moved hW.alike, h.2.2.2.1.moved hW.alike, h.2.2.2.2.1.moved hW.alike, h.2.2.2.2.2.1.warmC hW, h.2.2.2.2.2.2.warmF hW⟩
theorem rf_N.same {s U : State} (hW : s.vm = U.vm) (h : rf_N s) : rf_N U := h.moved (by rw [← hW]; exact State.WarmedH.refl s)
theorem rf_nst {U : State} (h : rf_N U) (k : Nat) {q : String × Nat × MethodName × String} (hq : rf_nestL[k]? = some q) : va_Nw (.methodLinkNest q.1 q.2.1 q.2.2.1 q.2.2.2) U := h.1 q (List.mem_of_getElem? hq)
def rf_K (D : va_G) (aC : Nat → ClassId) (U : State) : Prop := va_K D rfCl (rfT aC) U ∧ rf_N U
def rf_Pc (D : va_G) (aC : Nat → ClassId) (av : List Value) (ws : va_W) (sz : Nat) : Array Value → State → Prop := va_Pc av (fun U => U.heap.size = sz ∧ va_P D rfCl ws U.heap ∧ rf_K D aC U ∧ va_D (fun _ => True) ws)
theorem rf_blind {D : va_G} {aC : Nat → ClassId} {av : List Value} {ws : va_W} {sz : Nat} : FrameBlind (rf_Pc D aC av ws sz) := by
  intro a U g mk q
  obtain ⟨q0, q1, qP, qK, qD⟩ := q
  exact ⟨q0, q1, qP, ⟨va_K.moved (u := U) (U := U.calling g mk a) (Vm.Alike.refl U.vm) qK.1, qK.2.same rfl⟩, qD⟩
theorem rf_at {D : va_G} {aC : Nat → ClassId} {av : List Value} {ws : va_W} {A : Nat → Prop} {s : State} {H : Heap} (hK : va_K D rfCl (rfT aC) s) (hN : rf_N s) (hP : va_P D rfCl ws H) (hD : va_D A ws) : ∀ U : State, U.heap = H → s.WarmedH U.vm → rf_Pc D aC av ws H.size av.toArray U :=
  fun U hU hW => ⟨rfl, by rw [hU], by rw [hU]; exact hP, ⟨va_K.moved hW.alike hK, hN.moved hW⟩, hD.weaken (fun _ _ _ _ => trivial)⟩
theorem rf_pv {D : va_G} {aC : Nat → ClassId} {As : List Value} {b : Addr} {C : String} {ws : va_W} {A : Nat → Prop} {s : State} {H : Heap} (hK : va_K D rfCl (rfT aC) s) (hN : rf_N s) (hP : va_P D rfCl ws H) (hD : va_D A ws)
    (hr : ∃ cellB : Cell, H[b]? = some cellB ∧ cellB.vm.isStatics = false ∧ s.vm.findClass C = some cellB.cls) : PreV s H C b (rf_Pc D aC (.ref b :: As) ws H.size) As := ⟨rf_blind, hr, rf_at hK hN hP hD⟩
theorem rf_ps {D : va_G} {aC : Nat → ClassId} {As : List Value} {ws : va_W} {A : Nat → Prop} {s : State} {H : Heap} (hK : va_K D rfCl (rfT aC) s) (hN : rf_N s) (hP : va_P D rfCl ws H) (hD : va_D A ws) : PreS s H (rf_Pc D aC As ws H.size) As := ⟨rf_blind, rf_at hK hN hP hD⟩
/-- the list's static empty row, at the address ev, its own cell outside of what the method may write -/
def rf_ZV (ev : Nat) (A : Nat → Prop) (U : State) (H : Heap) : Prop := va_Z "java/util/ArrayList" "DEFAULTCAPACITY_EMPTY_ELEMENTDATA" "[Ljava/lang/Object;" (.ref ev) A U H
def rf_PcZ (D : va_G) (aC : Nat → ClassId) (av : List Value) (ws : va_W) (sz : Nat) (ev : Nat) : Array Value → State → Prop := fun v U => rf_Pc D aC av ws sz v U ∧ rf_ZV ev (va_A ws sz) U U.heap
theorem rf_blindZ {D : va_G} {aC : Nat → ClassId} {av : List Value} {ws : va_W} {sz ev : Nat} : FrameBlind (rf_PcZ D aC av ws sz ev) := fun a U g mk q => ⟨rf_blind a U g mk q.1, va_Z.moved (u := U) (U := U.calling g mk a) (Vm.Alike.refl U.vm) q.2⟩
theorem rf_atZ {D : va_G} {aC : Nat → ClassId} {av : List Value} {ws : va_W} {A : Nat → Prop} {s : State} {H : Heap} {locs : List Loc} {ev : Nat} (hK : va_K D rfCl (rfT aC) s) (hN : rf_N s) (hP : va_P D rfCl ws H) (hD : va_D A ws) (hZ : rf_ZV ev A s s.heap) (hS : va_S A s.heap H locs) (hF : ∀ q, va_A ws H.size q → A q) :
    ∀ U : State, U.heap = H → s.WarmedH U.vm → rf_PcZ D aC av ws H.size ev av.toArray U := by
  intro U hU hW
  refine ⟨rf_at hK hN hP hD U hU hW, ?_⟩
  have h1 : va_Z "java/util/ArrayList" "DEFAULTCAPACITY_EMPTY_ELEMENTDATA" "[Ljava/lang/Object;" (.ref ev) A s H := va_Z.kept hZ hS.2.1
  have h2 := (h1.moved hW.alike).narrow hF
  unfold rf_ZV
  rw [hU]
  exact h2
theorem rf_psZ {D : va_G} {aC : Nat → ClassId} {As : List Value} {ws : va_W} {A : Nat → Prop} {s : State} {H : Heap} {locs : List Loc} {ev : Nat} (hK : va_K D rfCl (rfT aC) s) (hN : rf_N s) (hP : va_P D rfCl ws H) (hD : va_D A ws) (hZ : rf_ZV ev A s s.heap) (hS : va_S A s.heap H locs) (hF : ∀ q, va_A ws H.size q → A q) :
    PreS s H (rf_PcZ D aC As ws H.size ev) As := ⟨rf_blindZ, rf_atZ hK hN hP hD hZ hS hF⟩
theorem rf_pvZ {D : va_G} {aC : Nat → ClassId} {As : List Value} {b : Addr} {C : String} {ws : va_W} {A : Nat → Prop} {s : State} {H : Heap} {locs : List Loc} {ev : Nat} (hK : va_K D rfCl (rfT aC) s) (hN : rf_N s) (hP : va_P D rfCl ws H) (hD : va_D A ws)
    (hr : ∃ cellB : Cell, H[b]? = some cellB ∧ cellB.vm.isStatics = false ∧ s.vm.findClass C = some cellB.cls) (hZ : rf_ZV ev A s s.heap) (hS : va_S A s.heap H locs) (hF : ∀ q, va_A ws H.size q → A q) :
    PreV s H C b (rf_PcZ D aC (.ref b :: As) ws H.size ev) As := ⟨rf_blindZ, hr, rf_atZ hK hN hP hD hZ hS hF⟩
theorem rf_anyZ {D : va_G} {aC : Nat → ClassId} {ws : va_W} {s : State} {H : Heap} {a n : Nat} {f : Nat → Int32} (hK : va_K D rfCl (rfT aC) s) (hN : rf_N s) (hP : va_P D rfCl ws H) (q0 : Nat) (he : ws[q0]? = some (a, .inl (aC 0, n, .inl f))) : va_Any "java/lang/Object" s H a := by
  obtain ⟨c0, t0, h1, h2, h3⟩ := Cond.castable_spec (show (Cond.castable "[Z" "java/lang/Object").before #[] s = true from hN.2.2.2.2.2.1)
  have hz : s.vm.findClass ("[" ++ FieldType.toString .boolean) = some (aC 0) := (hK.2 0 _ rfl).2
  rw [show "[" ++ FieldType.toString .boolean = "[Z" from by decide +kernel] at hz
  cases Option.some.inj (h1.symm.trans hz)
  obtain ⟨k, hk, -⟩ := Vm.findClass_spec hz
  refine ⟨vp_cell (aC 0) (n, .inl f), hP q0 _ he, rfl, ⟨k, hk⟩, fun comp hc => ?_⟩
  cases Option.some.inj (h2.symm.trans hc)
  exact h3
/-- a call, without what it says of the tables -/
theorem rf_cr {p : Program} {l : Launch} {e : Env} {R : Room} {s : State} {m : MethodId} {args : Array Value} {below : List Frame} {meth : Method} {c : Code} {H : Heap} {locs : List Loc} {cells slots mc ms : Nat} {g : JFrame} {rest : List Value} {Qa : State → Outcome → State → Prop} {free : Addr → Prop}
    (h : va_Run p l e R s m args below meth c H locs cells slots mc ms g rest Qa free) : CallRun p l e R s m args below meth c H locs cells slots mc ms g rest Qa free := by
  intro T hT X
  obtain ⟨v, st₀, t, T', L, h0, X', hL, e1, -, q, st⟩ := h T hT X
  exact ⟨v, st₀, t, T', L, h0, X', hL, e1, q, st⟩
/-- two array classes of one kind of component are one -/
theorem rf_sameA {D : va_G} {tys : List (ClassId × FieldType)} {s : State} {c1 c2 : ClassId} {ty : FieldType} (hK : va_K D rfCl tys s) (i j : Nat) (h1 : tys[i]? = some (c1, ty)) (h2 : tys[j]? = some (c2, ty)) : c1 = c2 := by
  have a := (hK.2 i _ h1).2
  have b := (hK.2 j _ h2).2
  cases ty with
  | object C =>
    obtain ⟨_, _, _, _, _, a4⟩ := a
    obtain ⟨_, _, _, _, _, b4⟩ := b
    exact Option.some.inj (a4.symm.trans b4)
  | _ => exact Option.some.inj (a.symm.trans b)
