set_option maxHeartbeats 4000000 in
set_option maxRecDepth 100000 in
theorem c_X7_init (l : Launch) (dC : Nat → ClassId) (dI : Nat → Nat → Nat) (aC : Nat → ClassId) (sz : Nat) (h0 : Nat)  : Met l yX7_init wsX7_init ({ frames := 1, cells := 2, slots := 256, locals := 12 } : Room) (rf_Pc (dC, dI) aC [.ref h0] [(h0, .inr (1, [.null, .null, .int 0]))] sz) (va_Qv (fun (u : Nat × Nat) => True) (fun (u : Nat × Nat) t => va_P (dC, dI) rfCl [(h0, .inr (1, [.ref (u.1), .ref (u.2), .int 0])), ((u.1), .inl (aC 0, 128, .inl (fun _ => 0))), ((u.2), .inl (aC 1, 128, .inl (fun _ => 0)))] t.heap ∧ va_D (va_A [(h0, .inr (1, [.null, .null, .int 0]))] sz) [(h0, .inr (1, [.ref (u.1), .ref (u.2), .int 0])), ((u.1), .inl (aC 0, 128, .inl (fun _ => 0))), ((u.2), .inl (aC 1, 128, .inl (fun _ => 0)))]) (va_A [(h0, .inr (1, [.null, .null, .int 0]))] sz)) 2 256 (va_A [(h0, .inr (1, [.null, .null, .int 0]))] sz) := by
  refine Met.ofW (cc := cX7_init) (maxL := 1) (ret := none) (by decide) rfl ?_
  intro p e s m args below meth c s₁ B hml hv
  obtain ⟨rfl, hsz, hP, hKN, hD0⟩ := hv
  obtain ⟨hK, hN⟩ := hKN
  have hx := B.exec
  have hb := B.bytes
  have hr := B.returns
  have hts := atoms_spec (ws := wsX7_init) B.pre
  have hown : s.vm.findClass RX7 = some m.cls := findClass_of_methodNamed B.named
  have hlocks := B.notSynchronized
  have hin : meth.name = "<init>" := (name_of_methodNamed B.named B.method).1
  subst hsz
  have hD := hD0.self (sz := s.heap.size)
  generalize hAe : va_A [(h0, .inr (1, [.null, .null, .int 0]))] s.heap.size = A at hD ⊢
  have hA : ∀ q : Nat, s.heap.size ≤ q → A q := fun q h => by rw [← hAe]; exact Or.inr h
  have hS : va_S A s.heap s.heap [] := va_S.rf
  have hP : va_P (dC, dI) rfCl [(h0, .inr (1, [.null, .null, .int 0]))] s.heap := hP
  have hl := lv_entry ([.ref h0]) (n := 1) (Nat.le_of_ble_eq_true rfl)
  rw [lg_entry_eq]
  generalize (lg_sl ([.ref h0]) ++ List.replicate (1 - (lg_sl ([.ref h0])).length) Slot.unset).toArray = ls at hl ⊢
  have hl : lv_has ls 1 [(0, .ref h0)] := hl
  refine lv_aload_n hx hb dX7_init_0 rfl (lv_at hl 0 rfl) ?_
  refine W.objInit hx hb hown (hts (.methodLink RX7 3 objectInit) (by decide +kernel)) (hts (.instanceMethod objectInit) (by decide +kernel)) (hts (.code objectInit ⟨#[0xb1]⟩ 1 none) (by decide +kernel)) rfl (by rw [hml]; exact hl.1) rfl dX7_init_1 (Nat.le_of_ble_eq_true rfl) (Nat.le_of_ble_eq_true rfl) ?_
  refine W.eq (g2 := F0 m 4 ls []) rfl ?_
  refine lv_aload_n hx hb dX7_init_4 rfl (lv_at hl 0 rfl) ?_
  refine lv_sipush (v := 128) hx hb dX7_init_5 (by decide) ?_
  refine va_newa (atype := .boolean) (ty := .boolean) (a0 := (128, .inl (fun _ => 0))) hx hb (hts (.arrayClass .boolean) (by decide +kernel)) rfl hK hP hD hS hA (fun _ => rfl) (by decide) (by decide) (by decide) (Nat.le_of_ble_eq_true rfl) (Nat.le_of_ble_eq_true rfl) dX7_init_8 (fun q1 cA9 H hK hP hD hS => ?_)
  obtain rfl : cA9 = aC 0 := rf_sameA hK 6 0 rfl rfl
  have hK := hK.sub (tys' := rfT aC) [0, 1, 2, 3, 4, 5] rfl
  have hP : va_P (dC, dI) rfCl [(h0, .inr (1, [.null, .null, .int 0])), (q1, .inl (aC 0, 128, .inl (fun _ => 0)))] H := hP
  have hD : va_D A [(h0, .inr (1, [.null, .null, .int 0])), (q1, .inl (aC 0, 128, .inl (fun _ => 0)))] := hD
  refine W.widen (k := 1) (n := 128) (Nat.le_of_ble_eq_true rfl) (Nat.le_of_ble_eq_true rfl) ?_
  refine va_putF (D := (dC, dI)) (ci := 1) (v := .ref q1) (ty := (.array .boolean)) (C := RX7) (T := TX7) (N := 3) hx hb hts (by decide +kernel) tyX7 tyX7_ok nmX7 hown hK hP hD hS 0 rfl rfl 0 (by decide) (hts (.fieldLink RX7 9 "Transversary$Sets" "isHeld" "[Z") (by decide +kernel)) (fun _ h9 => h9) rfl hin rfl (by decide +kernel) rfl rfl (Nat.le_of_ble_eq_true rfl) dX7_init_10 (fun H locs hP hD hS => ?_)
  have hP : va_P (dC, dI) rfCl [(h0, .inr (1, [.ref q1, .null, .int 0])), (q1, .inl (aC 0, 128, .inl (fun _ => 0)))] H := hP
  have hD : va_D A [(h0, .inr (1, [.ref q1, .null, .int 0])), (q1, .inl (aC 0, 128, .inl (fun _ => 0)))] := hD
  refine lv_aload_n hx hb dX7_init_13 rfl (lv_at hl 0 rfl) ?_
  refine lv_sipush (v := 128) hx hb dX7_init_14 (by decide) ?_
  refine va_newa (atype := .int) (ty := .int) (a0 := (128, .inl (fun _ => 0))) hx hb (hts (.arrayClass .int) (by decide +kernel)) rfl hK hP hD hS hA (fun _ => rfl) (by decide) (by decide) (by decide) (Nat.le_of_ble_eq_true rfl) (Nat.le_of_ble_eq_true rfl) dX7_init_17 (fun q2 cA9 H hK hP hD hS => ?_)
  obtain rfl : cA9 = aC 1 := rf_sameA hK 6 1 rfl rfl
  have hK := hK.sub (tys' := rfT aC) [0, 1, 2, 3, 4, 5] rfl
  have hP : va_P (dC, dI) rfCl [(h0, .inr (1, [.ref q1, .null, .int 0])), (q1, .inl (aC 0, 128, .inl (fun _ => 0))), (q2, .inl (aC 1, 128, .inl (fun _ => 0)))] H := hP
  have hD : va_D A [(h0, .inr (1, [.ref q1, .null, .int 0])), (q1, .inl (aC 0, 128, .inl (fun _ => 0))), (q2, .inl (aC 1, 128, .inl (fun _ => 0)))] := hD
  refine W.widen (k := 2) (n := 256) (Nat.le_of_ble_eq_true rfl) (Nat.le_of_ble_eq_true rfl) ?_
  refine va_putF (D := (dC, dI)) (ci := 1) (v := .ref q2) (ty := (.array .int)) (C := RX7) (T := TX7) (N := 3) hx hb hts (by decide +kernel) tyX7 tyX7_ok nmX7 hown hK hP hD hS 0 rfl rfl 1 (by decide) (hts (.fieldLink RX7 15 "Transversary$Sets" "row" "[I") (by decide +kernel)) (fun _ h9 => h9) rfl hin rfl (by decide +kernel) rfl rfl (Nat.le_of_ble_eq_true rfl) dX7_init_19 (fun H locs hP hD hS => ?_)
  have hP : va_P (dC, dI) rfCl [(h0, .inr (1, [.ref q1, .ref q2, .int 0])), (q1, .inl (aC 0, 128, .inl (fun _ => 0))), (q2, .inl (aC 1, 128, .inl (fun _ => 0)))] H := hP
  have hD : va_D A [(h0, .inr (1, [.ref q1, .ref q2, .int 0])), (q1, .inl (aC 0, 128, .inl (fun _ => 0))), (q2, .inl (aC 1, 128, .inl (fun _ => 0)))] := hD
  have hP9 := hP.sub (ws' := [(h0, .inr (1, [.ref q1, .ref q2, .int 0])), (q1, .inl (aC 0, 128, .inl (fun _ => 0))), (q2, .inl (aC 1, 128, .inl (fun _ => 0)))]) [0, 1, 2] rfl
  have hD9 := hD.sub (ws' := [(h0, .inr (1, [.ref q1, .ref q2, .int 0])), (q1, .inl (aC 0, 128, .inl (fun _ => 0))), (q2, .inl (aC 1, 128, .inl (fun _ => 0)))]) [0, 1, 2] (by decide) rfl
  refine W.widen (k := 2) (n := 256) (Nat.le_of_ble_eq_true rfl) (Nat.le_of_ble_eq_true rfl) ?_
  exact W.vret hx hb hr (fun t ht hW => ⟨⟨(q1, q2), rfl, trivial, by rw [ht]; exact hP9, hD9⟩, hS.F ht⟩) hS.2.2 dX7_init_22

set_option maxHeartbeats 4000000 in
set_option maxRecDepth 100000 in
theorem c_X7_many (l : Launch) (dC : Nat → ClassId) (dI : Nat → Nat → Nat) (aC : Nat → ClassId) (sz : Nat) (h0 : Nat) (b r : Value) (mny : Int32)  : Met l yX7_many wsX7_many ({ frames := 1, cells := 0, slots := 0, locals := 0 } : Room) (rf_Pc (dC, dI) aC [.ref h0] [(h0, .inr (1, [b, r, .int mny]))] sz) (QcRead mny) 0 0 (fun _ => False) := by
  refine Met.ofW (cc := cX7_many) (maxL := 1) (ret := (some .int)) (by decide) rfl ?_
  intro p e s m args below meth c s₁ B hml hv
  obtain ⟨rfl, hsz, hP, hKN, hD0⟩ := hv
  obtain ⟨hK, hN⟩ := hKN
  have hx := B.exec
  have hb := B.bytes
  have hr := B.returns
  have hts := atoms_spec (ws := wsX7_many) B.pre
  have hown : s.vm.findClass RX7 = some m.cls := findClass_of_methodNamed B.named
  have hlocks := B.notSynchronized
  subst hsz
  have hD := hD0.self (sz := s.heap.size)
  generalize hAe : va_A [(h0, .inr (1, [b, r, .int mny]))] s.heap.size = A at hD
  have hA : ∀ q : Nat, s.heap.size ≤ q → A q := fun q h => by rw [← hAe]; exact Or.inr h
  have hS : va_S A s.heap s.heap [] := va_S.rf
  have hP : va_P (dC, dI) rfCl [(h0, .inr (1, [b, r, .int mny]))] s.heap := hP
  have hl := lv_entry ([.ref h0]) (n := 1) (Nat.le_of_ble_eq_true rfl)
  rw [lg_entry_eq]
  generalize (lg_sl ([.ref h0]) ++ List.replicate (1 - (lg_sl ([.ref h0])).length) Slot.unset).toArray = ls at hl ⊢
  have hl : lv_has ls 1 [(0, .ref h0)] := hl
  refine lv_aload_n hx hb dX7_many_0 rfl (lv_at hl 0 rfl) ?_
  refine va_get (D := (dC, dI)) (ci := 1) (v := .int mny) (C := RX7) (T := TX7) (N := 3) hx hb hts (by decide +kernel) hown hK hP 0 rfl rfl 2 (by decide) (hts (.fieldLink RX7 19 "Transversary$Sets" "many" "I") (by decide +kernel)) (fun _ h9 => h9) rfl dX7_many_1 ?_
  exact W.iret (v := mny) hx hb hr (fun t ht hW => ⟨rfl, ht⟩) (fun q h => nomatch h) dX7_many_4

set_option maxHeartbeats 4000000 in
set_option maxRecDepth 100000 in
theorem c_X7_clear (l : Launch) (dC : Nat → ClassId) (dI : Nat → Nat → Nat) (aC : Nat → ClassId) (sz : Nat) (h0 b : Nat) (r : Value) (f : Nat → Int32) (mny : Int32)  : Met l yX7_clear wsX7_clear ({ frames := 1, cells := 0, slots := 0, locals := 0 } : Room) (rf_Pc (dC, dI) aC [.ref h0] [(h0, .inr (1, [.ref b, r, .int mny])), (b, .inl (aC 0, 128, .inl f))] sz) (va_Qv (fun (u : Nat → Int32) => True) (fun (u : Nat → Int32) t => va_P (dC, dI) rfCl [(h0, .inr (1, [.ref b, r, .int 0])), (b, .inl (aC 0, 128, .inl u))] t.heap ∧ va_D (va_A [(h0, .inr (1, [.ref b, r, .int mny])), (b, .inl (aC 0, 128, .inl f))] sz) [(h0, .inr (1, [.ref b, r, .int 0])), (b, .inl (aC 0, 128, .inl u))]) (va_A [(h0, .inr (1, [.ref b, r, .int mny])), (b, .inl (aC 0, 128, .inl f))] sz)) 0 0 (va_A [(h0, .inr (1, [.ref b, r, .int mny])), (b, .inl (aC 0, 128, .inl f))] sz) := by
  refine Met.ofW (cc := cX7_clear) (maxL := 2) (ret := none) (by decide) rfl ?_
  intro p e s m args below meth c s₁ B hml hv
  obtain ⟨rfl, hsz, hP, hKN, hD0⟩ := hv
  obtain ⟨hK, hN⟩ := hKN
  have hx := B.exec
  have hb := B.bytes
  have hr := B.returns
  have hts := atoms_spec (ws := wsX7_clear) B.pre
  have hown : s.vm.findClass RX7 = some m.cls := findClass_of_methodNamed B.named
  have hlocks := B.notSynchronized
  subst hsz
  have hD := hD0.self (sz := s.heap.size)
  generalize hAe : va_A [(h0, .inr (1, [.ref b, r, .int mny])), (b, .inl (aC 0, 128, .inl f))] s.heap.size = A at hD ⊢
  have hA : ∀ q : Nat, s.heap.size ≤ q → A q := fun q h => by rw [← hAe]; exact Or.inr h
  have hS : va_S A s.heap s.heap [] := va_S.rf
  have hP : va_P (dC, dI) rfCl [(h0, .inr (1, [.ref b, r, .int mny])), (b, .inl (aC 0, 128, .inl f))] s.heap := hP
  have hl := lv_entry ([.ref h0]) (n := 2) (Nat.le_of_ble_eq_true rfl)
  rw [lg_entry_eq]
  generalize (lg_sl ([.ref h0]) ++ List.replicate (2 - (lg_sl ([.ref h0])).length) Slot.unset).toArray = ls at hl ⊢
  have hl : lv_has ls 2 [(0, .ref h0)] := hl
  refine lv_iconst (v := 0) hx hb dX7_clear_0 (by decide) ?_
  refine lv_istore_n (lv' := [(1, .int 0), (0, .ref h0)]) hx hb dX7_clear_1 rfl hl (by decide) rfl (fun ls hl => ?_)
  have loop : ∀ (n i : Nat) (x : Int32) (f : Nat → Int32), i ≤ 128 → 129 ≤ i + n → x = nI i → ∀ (H : Heap) (locs : List Loc), va_P (dC, dI) rfCl [(h0, .inr (1, [.ref b, r, .int mny])), (b, .inl (aC 0, 128, .inl f))] H → va_D A [(h0, .inr (1, [.ref b, r, .int mny])), (b, .inl (aC 0, 128, .inl f))] → va_S A s.heap H locs → ∀ ls : Array Slot, lv_has ls 2 [(1, .int x), (0, .ref h0)] → W p l e (headSpec wsX7_clear ({ frames := 1, cells := 0, slots := 0, locals := 0 } : Room)).room s m ([.ref h0] : List Value).toArray below meth c H locs 0 0 (MQ below (va_Qv (fun (u : Nat → Int32) => True) (fun (u : Nat → Int32) t => va_P (dC, dI) rfCl [(h0, .inr (1, [.ref b, r, .int 0])), (b, .inl (aC 0, 128, .inl u))] t.heap ∧ va_D A [(h0, .inr (1, [.ref b, r, .int 0])), (b, .inl (aC 0, 128, .inl u))]) A) ([.ref h0] : List Value).toArray s 0 0 A) (F0 m 2 ls []) := by
    intro n
    induction n with
    | zero =>
      intro i x f h1 h2
      exact absurd h2 (by omega)
    | succ n ih =>
      intro i x f hi hn ex H locs hP hD hS ls hl
      refine lv_iload_n hx hb dX7_clear_2 rfl (lv_at hl 0 rfl) ?_
      refine lv_aload_n hx hb dX7_clear_3 rfl (lv_at hl 1 rfl) ?_
      refine va_get (D := (dC, dI)) (ci := 1) (v := .ref b) (C := RX7) (T := TX7) (N := 3) hx hb hts (by decide +kernel) hown hK hP 0 rfl rfl 0 (by decide) (hts (.fieldLink RX7 9 "Transversary$Sets" "isHeld" "[Z") (by decide +kernel)) (fun _ h9 => h9) rfl dX7_clear_4 ?_
      refine va_alen (v := 128) hx hb hK hP 1 0 rfl rfl rfl dX7_clear_7 ?_
      by_cases hlt : i < 128
      · have hbr : ¬ (128 : Int32) ≤ x := by rw [ex]; exact nI_ge hlt (by decide)
        refine lv_icmp_ge (tgt := 24) hx hb dX7_clear_8 (by decide) (fun c9 => absurd c9 hbr) (fun _ => ?_)
        have h_in : vp_in x 128 := by rw [ex]; exact vp_in_nI hlt (by decide)
        refine lv_aload_n hx hb dX7_clear_11 rfl (lv_at hl 1 rfl) ?_
        refine va_get (D := (dC, dI)) (ci := 1) (v := .ref b) (C := RX7) (T := TX7) (N := 3) hx hb hts (by decide +kernel) hown hK hP 0 rfl rfl 0 (by decide) (hts (.fieldLink RX7 9 "Transversary$Sets" "isHeld" "[Z") (by decide +kernel)) (fun _ h9 => h9) rfl dX7_clear_12 ?_
        refine lv_iload_n hx hb dX7_clear_15 rfl (lv_at hl 0 rfl) ?_
        refine lv_iconst (v := 0) hx hb dX7_clear_16 (by decide) ?_
        refine va_zast hx hb hK hP hD hS 1 0 rfl rfl h_in dX7_clear_17 (fun H locs hP hD hS => ?_)
        have hP : va_P (dC, dI) rfCl [(h0, .inr (1, [.ref b, r, .int mny])), (b, .inl (aC 0, 128, .inl (upd f (x : Int32).toNatClampNeg (vp_nar .boolean 0))))] H := hP
        have hD : va_D A [(h0, .inr (1, [.ref b, r, .int mny])), (b, .inl (aC 0, 128, .inl (upd f (x : Int32).toNatClampNeg (vp_nar .boolean 0))))] := hD
        generalize (upd f (x : Int32).toNatClampNeg (vp_nar .boolean 0)) = f2 at hP hD
        have hP : va_P (dC, dI) rfCl [(h0, .inr (1, [.ref b, r, .int mny])), (b, .inl (aC 0, 128, .inl f2))] H := hP
        have hD : va_D A [(h0, .inr (1, [.ref b, r, .int mny])), (b, .inl (aC 0, 128, .inl f2))] := hD
        obtain ⟨x2, ex2⟩ : ∃ y : Int32, y = x + 1 := ⟨_, rfl⟩
        refine lv_iinc (v := x2) (lv' := [(1, .int x2), (0, .ref h0)]) hx hb dX7_clear_18 hl (k := 0) rfl (by rw [ex2]; rfl) (by decide) rfl (fun ls hl => ?_)
        refine lv_goto (tgt := 2) hx hb dX7_clear_21 (by decide) ?_
        exact ih (i + 1) x2 f2 (by omega) (by omega) (by rw [ex2, ex]; exact nI_1 i) H locs hP hD hS ls hl
      · have hbr : (128 : Int32) ≤ x := by rw [ex, show i = 128 by omega]; decide
        refine lv_icmp_ge (tgt := 24) hx hb dX7_clear_8 (by decide) (fun _ => ?_) (fun c9 => absurd hbr c9)
        refine lv_aload_n hx hb dX7_clear_24 rfl (lv_at hl 1 rfl) ?_
        refine lv_iconst (v := 0) hx hb dX7_clear_25 (by decide) ?_
        refine va_put (D := (dC, dI)) (ci := 1) (v := .int 0) (ty := .int) (C := RX7) (T := TX7) (N := 3) hx hb hts (by decide +kernel) tyX7 tyX7_ok nmX7 hown hK hP hD hS 0 rfl rfl 2 (by decide) (hts (.fieldLink RX7 19 "Transversary$Sets" "many" "I") (by decide +kernel)) (fun _ h9 => h9) rfl (by decide +kernel) rfl rfl (Nat.le_of_ble_eq_true rfl) dX7_clear_26 (fun H locs hP hD hS => ?_)
        have hP : va_P (dC, dI) rfCl [(h0, .inr (1, [.ref b, r, .int 0])), (b, .inl (aC 0, 128, .inl f))] H := hP
        have hD : va_D A [(h0, .inr (1, [.ref b, r, .int 0])), (b, .inl (aC 0, 128, .inl f))] := hD
        have hP9 := hP.sub (ws' := [(h0, .inr (1, [.ref b, r, .int 0])), (b, .inl (aC 0, 128, .inl f))]) [0, 1] rfl
        have hD9 := hD.sub (ws' := [(h0, .inr (1, [.ref b, r, .int 0])), (b, .inl (aC 0, 128, .inl f))]) [0, 1] (by decide) rfl
        refine W.widen (k := 0) (n := 0) (Nat.le_of_ble_eq_true rfl) (Nat.le_of_ble_eq_true rfl) ?_
        exact W.vret hx hb hr (fun t ht hW => ⟨⟨f, rfl, trivial, by rw [ht]; exact hP9, hD9⟩, hS.F ht⟩) hS.2.2 dX7_clear_29
  exact loop 129 0 0 f (by decide) (by decide) rfl s.heap [] hP hD hS ls hl
