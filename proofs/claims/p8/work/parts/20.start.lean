/-! a start on that script -/
def rf_xs : List Int32 := [0, 7, 0, 0, 2, 0, 1, 0, 2, 1, 1, 0, 2, 2, 1, 0, 2, 3, 1, 0, 2, 4, 1, 0, 2, 5, 1, 0, 2, 6, 1, 0, 3, 0, 0, 0] ++ (List.replicate 446 [22, 0, 0, 0]).flatten
def rf_s : State := start1.aboutOf ((rf_xs.map Value.int).toArray)
theorem rf_xlen : rf_xs.length = 1820 := by decide +kernel
def rf_xf (j : Nat) : Int32 := rf_xs.getD j 0
theorem rf_rep4 (a b c d : Int32) (n j : Nat) (h : j < n) : (List.replicate n [a, b, c, d]).flatten[4 * j]? = some a ∧ (List.replicate n [a, b, c, d]).flatten[4 * j + 1]? = some b := by
  induction n generalizing j with
  | zero => exact absurd h (Nat.not_lt_zero _)
  | succ n ih =>
    rw [List.replicate_succ, List.flatten_cons]
    cases j with
    | zero => exact ⟨rfl, rfl⟩
    | succ j =>
      have := ih j (by omega)
      rw [List.getElem?_append_right (by simp; omega), List.getElem?_append_right (by simp; omega)]
      rw [show 4 * (j + 1) - [a, b, c, d].length = 4 * j by simp; omega, show 4 * (j + 1) + 1 - [a, b, c, d].length = 4 * j + 1 by simp; omega]
      exact this
def rf_xa : List Int32 := [0, 7, 0, 0, 2, 0, 1, 0, 2, 1, 1, 0, 2, 2, 1, 0, 2, 3, 1, 0, 2, 4, 1, 0, 2, 5, 1, 0, 2, 6, 1, 0, 3, 0, 0, 0]
theorem rf_xf_at {i : Nat} {v : Int32} (h : rf_xs[i]? = some v) : rf_xf i = v := by
  show rf_xs.getD i 0 = v
  rw [List.getD_eq_getElem?_getD, h]
  rfl
theorem rf_xX : rf_X rf_xf := by
  refine ⟨by decide +kernel, fun j hj => ?_⟩
  obtain ⟨h1, h2⟩ := rf_rep4 22 0 0 0 446 j hj
  constructor
  · refine rf_xf_at ?_
    show (rf_xa ++ _)[36 + 4 * j]? = _
    rw [List.getElem?_append_right (by show 36 ≤ _; omega), show 36 + 4 * j - rf_xa.length = 4 * j by show 36 + 4 * j - 36 = _; omega]
    exact h1
  · refine rf_xf_at ?_
    show (rf_xa ++ _)[37 + 4 * j]? = _
    rw [List.getElem?_append_right (by show 36 ≤ _; omega), show 37 + 4 * j - rf_xa.length = 4 * j + 1 by show 37 + 4 * j - 36 = _; omega]
    exact h2
theorem rf_vm : start1.about.vm = rf_s.vm := rfl
set_option maxRecDepth 16384 in
theorem rf_w1 : tables_1_1.all (fun c => c.onTables || c.before start1.args0 rf_s) = true := by decide +kernel
set_option maxRecDepth 16384 in
theorem rf_w2 : tables_1_2.all (fun c => c.onTables || c.before start1.args0 rf_s) = true := by decide +kernel
set_option maxRecDepth 16384 in
theorem rf_w3 : tables_1_3.all (fun c => c.onTables || c.before start1.args0 rf_s) = true := by decide +kernel
set_option maxRecDepth 16384 in
theorem rf_w4 : tables_1_4.all (fun c => c.onTables || c.before start1.args0 rf_s) = true := by decide +kernel
set_option maxRecDepth 16384 in
theorem rf_w5 : tables_1_5.all (fun c => c.onTables || c.before start1.args0 rf_s) = true := by decide +kernel
set_option maxRecDepth 16384 in
theorem rf_w6 : tables_1_6.all (fun c => c.onTables || c.before start1.args0 rf_s) = true := by decide +kernel
set_option maxRecDepth 16384 in
theorem rf_w7 : tables_1_7.all (fun c => c.onTables || c.before start1.args0 rf_s) = true := by decide +kernel
set_option maxRecDepth 16384 in
theorem rf_w8 : tables_1_8.all (fun c => c.onTables || c.before start1.args0 rf_s) = true := by decide +kernel
set_option maxRecDepth 16384 in
theorem rf_w9 : tables_1_9.all (fun c => c.onTables || c.before start1.args0 rf_s) = true := by decide +kernel
set_option maxRecDepth 16384 in
theorem rf_w10 : tables_1_10.all (fun c => c.onTables || c.before start1.args0 rf_s) = true := by decide +kernel
set_option maxRecDepth 16384 in
theorem rf_w11 : tables_1_11.all (fun c => c.onTables || c.before start1.args0 rf_s) = true := by decide +kernel
theorem rf_wof {L : List Cond} (h1 : L.all (fun c => c.onTables || c.before start1.args0 rf_s) = true) (h2 : ∀ c ∈ L, c.before start1.args0 start1.about = true) : ∀ c ∈ L, c.before start1.args0 rf_s = true := by
  intro c hc
  have h := List.all_eq_true.mp h1 c hc
  rw [Bool.or_eq_true] at h
  rcases h with h | h
  · exact va_tabs h rf_vm (h2 c hc)
  · exact h
theorem rf_words : ∀ c ∈ (Cond.code x code maxLocals ret :: tables_1), c.before start1.args0 rf_s = true := by
  intro c hc
  rcases List.mem_cons.mp hc with h | h
  · rw [h]; exact va_tabs rfl rf_vm start1.word_code
  · have h1 : c ∈ tables_1_1 ++ (tables_1_2 ++ (tables_1_3 ++ (tables_1_4 ++ (tables_1_5 ++ (tables_1_6 ++ (tables_1_7 ++ (tables_1_8 ++ (tables_1_9 ++ (tables_1_10 ++ (tables_1_11)))))))))) := h
    rcases List.mem_append.mp h1 with h2 | h1
    · exact rf_wof rf_w1 start1.words_1 c h2
    rcases List.mem_append.mp h1 with h2 | h1
    · exact rf_wof rf_w2 start1.words_2 c h2
    rcases List.mem_append.mp h1 with h2 | h1
    · exact rf_wof rf_w3 start1.words_3 c h2
    rcases List.mem_append.mp h1 with h2 | h1
    · exact rf_wof rf_w4 start1.words_4 c h2
    rcases List.mem_append.mp h1 with h2 | h1
    · exact rf_wof rf_w5 start1.words_5 c h2
    rcases List.mem_append.mp h1 with h2 | h1
    · exact rf_wof rf_w6 start1.words_6 c h2
    rcases List.mem_append.mp h1 with h2 | h1
    · exact rf_wof rf_w7 start1.words_7 c h2
    rcases List.mem_append.mp h1 with h2 | h1
    · exact rf_wof rf_w8 start1.words_8 c h2
    rcases List.mem_append.mp h1 with h2 | h1
    · exact rf_wof rf_w9 start1.words_9 c h2
    rcases List.mem_append.mp h1 with h2 | h1
    · exact rf_wof rf_w10 start1.words_10 c h2
    exact rf_wof rf_w11 start1.words_11 c h1
theorem rf_hts : ∀ w ∈ lw_tbl, w.before start1.args0 rf_s = true := k2_hts_sels lw_privs (fun w hw => rf_words w (List.mem_cons_of_mem _ hw)) lw_privs_ok
theorem rf_h0 : rf_s.heap[0]? = some { cls := 53, slots := (rf_xs.map Value.int).toArray, vm := .none } := rfl
theorem rf_hs (S S' : Array Value) (a : Nat) : (start1.aboutOf S).heap[a + 1]? = (start1.aboutOf S').heap[a + 1]? := by
  have h : ∀ S : Array Value, (start1.aboutOf S).heap = (({ cls := 53, slots := S, vm := .none } : Cell) :: (start1.aboutOf #[]).heap.toList.tail).toArray := fun _ => rfl
  rw [h S, h S', List.getElem?_toArray, List.getElem?_toArray, List.getElem?_cons_succ, List.getElem?_cons_succ]
theorem rf_fitvm {u U : State} (h : u.vm = U.vm) (c : ClassId) (d : VmData) (i : Nat) (v : Value) : u.fitsSlot c d i v = U.fitsSlot c d i v := by
  unfold State.fitsSlot State.slotType?
  rw [h]
theorem rf_0arr : rf_s.isArrayOf { cls := 53, slots := (rf_xs.map Value.int).toArray, vm := .none } .int := ⟨(fun k h => (by cases h)), _, rfl, _, rfl⟩
set_option maxRecDepth 16384 in
theorem rf_fit0 : heapFits' start1.about = true := by decide +kernel
theorem rf_slot {i : Nat} {v : Value} (h : ((rf_xs.map Value.int).toArray)[i]? = some v) : ∃ x : Int32, v = .int x := by
  rw [List.getElem?_toArray, List.getElem?_map] at h
  cases hx : rf_xs[i]? with
  | none => rw [hx] at h; cases h
  | some x => rw [hx] at h; exact ⟨x, (Option.some.inj h).symm⟩
theorem rf_fits : heapFits' rf_s = true := by
  refine (heapFits'_iff rf_s).mpr ?_
  have h0 := (heapFits'_iff start1.about).mp rf_fit0
  intro a c hc i v hv
  cases a with
  | zero =>
    cases Option.some.inj (rf_h0.symm.trans hc)
    obtain ⟨x, rfl⟩ := rf_slot hv
    obtain ⟨h1, k, hk, comp, hkind⟩ := rf_0arr
    simp [State.fitsSlot, State.slotType?, hk, hkind, fits]
  | succ a =>
    rw [← rf_fitvm rf_vm]
    exact h0 (a + 1) c ((rf_hs _ _ a).trans hc) i v hv
theorem rf_fit : heapFits rf_s = true := rf_fits
theorem rf_and {A B : Cond} {args : Array Value} {s : State} (hA : A.before args s = true) (hB : B.before args s = true) : (Cond.and A B).before args s = true := by
  simp only [Cond.before, Cond.holds, beq_iff_eq] at hA hB ⊢
  simp only [Cond.value, hA]
  exact hB
theorem rf_size : ((rf_xs.map Value.int).toArray).size = 1820 := by rw [List.size_toArray, List.length_map, rf_xlen]
set_option maxRecDepth 16384 in
theorem rf_rest : rest_1_c.before start1.args0 rf_s = true :=
  rf_and (by decide +kernel) (Cond.all_isInt_of_fit rf_fits (a := 0) (cell := { cls := 53, slots := (rf_xs.map Value.int).toArray, vm := .none }) (fun _ => rfl) rfl (by rw [show ({ cls := 53, slots := (rf_xs.map Value.int).toArray, vm := .none } : Cell).slots.size = 1820 from rf_size]; decide) rf_0arr)
set_option maxRecDepth 16384 in
theorem rf_start : AtStart classFile x code maxLocals ret World_1 tables_1 room_1 Calls_1 rest_1 Pre_1 launch0 start1.p0 start1.e0 rf_s ⟨0, 0⟩ start1.args0 Lib.HandBits.below0 :=
  ⟨lists_1, trivial, launch0.admits_env _ _ _, launch0.least_env, fairChoices_fair.cas, fairChoices_fair.clock, rfl, by decide +kernel, rf_fit,
    (Spec.applies_iff rfl).mpr ⟨rfl, rfl, rfl, by decide +kernel, by decide +kernel, by decide +kernel, launch0.hasRoom_least _ room_1 (by decide +kernel) (by decide +kernel) (by decide +kernel) (by decide +kernel) (by decide +kernel) (by decide +kernel), atoms_intro rf_words⟩,
    trivial, rf_rest, (show (Cond.and given_1 narrow_1).before start1.args0 rf_s = true by decide +kernel)⟩
set_option maxRecDepth 16384 in
theorem rf_room : (headSpec (Jvm.Cond.code x code maxLocals ret :: tables_1) ({ frames := 100, cells := 3000, slots := 7371873, locals := 4000 } : Room)).applies x start1.e0.platform rf_s = true :=
  (Spec.applies_iff rfl).mpr ⟨rfl, rfl, rfl, by decide +kernel, by decide +kernel, by decide +kernel, launch0.hasRoom_least _ ({ frames := 100, cells := 3000, slots := 7371873, locals := 4000 } : Room) (by decide +kernel) (by decide +kernel) (by decide +kernel) (by decide +kernel) (by decide +kernel) (by decide +kernel), atoms_intro rf_words⟩
def rf_aC (k : Nat) : ClassId := match k with
  | 0 => 55
  | 1 => 53
  | 2 => 57
  | 3 => 59
  | 4 => 60
  | _ => 61
theorem rf_arr : ∀ q ∈ rfT rf_aC, ArrOfT rf_s q.1 q.2 ∧ va_RA rf_s q.1 q.2 := (List.forall_mem_cons.mpr ⟨⟨fun n z => ⟨(fun _ h => (by cases h)), _, rfl, _, rfl⟩, (show rf_s.vm.findClass ("[" ++ FieldType.toString .boolean) = some 55 by decide +kernel)⟩, (List.forall_mem_cons.mpr ⟨⟨fun n z => ⟨(fun _ h => (by cases h)), _, rfl, _, rfl⟩, (show rf_s.vm.findClass ("[" ++ FieldType.toString .int) = some 53 by decide +kernel)⟩, (List.forall_mem_cons.mpr ⟨⟨fun n z => ⟨(fun _ h => (by cases h)), _, rfl, _, rfl⟩, (show rf_s.vm.findClass ("[" ++ FieldType.toString .long) = some 57 by decide +kernel)⟩, (List.forall_mem_cons.mpr ⟨⟨fun n z => ⟨(fun _ h => (by cases h)), _, rfl, _, rfl⟩, (show rf_s.vm.findClass ("[" ++ FieldType.toString .byte) = some 59 by decide +kernel)⟩, (List.forall_mem_cons.mpr ⟨⟨fun n z => ⟨(fun _ h => (by cases h)), _, rfl, _, rfl⟩, ⟨_, _, rfl, rfl, by decide +kernel, by decide +kernel⟩⟩, (List.forall_mem_cons.mpr ⟨⟨fun n z => ⟨(fun _ h => (by cases h)), _, rfl, _, rfl⟩, ⟨_, _, rfl, rfl, by decide +kernel, by decide +kernel⟩⟩, (List.forall_mem_nil _)⟩)⟩)⟩)⟩)⟩)⟩)
set_option maxRecDepth 16384 in
theorem rf_sN : rf_N rf_s := by
  refine ⟨fun q hq => ?_, ?_, ?_, ?_, ?_, ?_, ?_⟩
  · have h : rf_nestL.all (fun q => (Cond.methodLinkNest q.1 q.2.1 q.2.2.1 q.2.2.2).before #[] rf_s) = true := by decide +kernel
    exact List.all_eq_true.mp h q hq
  · show (Cond.arrayOver (.object "Transversary$Sets")).before #[] rf_s = true
    decide +kernel
  · show (Cond.arrayOver (.object "java/lang/Object")).before #[] rf_s = true
    decide +kernel
  · show (Cond.arrayOver (.array .long)).before #[] rf_s = true
    decide +kernel
  · show (Cond.arrayOver (.array .int)).before #[] rf_s = true
    decide +kernel
  · show (Cond.castable "[Z" "java/lang/Object").before #[] rf_s = true
    decide +kernel
  · show (Cond.fieldLinkNest RL 13 RX12 "n" "J" RL).before #[] rf_s = true
    decide +kernel
theorem rf_k0 : ∃ (cC : ClassId) (iS : Nat → Nat), u_Kn rf_s RX3 TX3 3 cC iS := u_known (C := RX3) (T := TX3) (N := 3) (n := 3) rf_hts m_wsX30 (rf_hts _ lwp_176)
theorem rf_k1 : ∃ (cC : ClassId) (iS : Nat → Nat), u_Kn rf_s RX7 TX7 3 cC iS := u_known (C := RX7) (T := TX7) (N := 3) (n := 3) rf_hts m_wsX70 (rf_hts _ lwp_194)
theorem rf_k2 : ∃ (cC : ClassId) (iS : Nat → Nat), u_Kn rf_s RX0 TX0 5 cC iS := u_known (C := RX0) (T := TX0) (N := 5) (n := 5) rf_hts m_wsX00 (rf_hts _ lwp_211)
theorem rf_k3 : ∃ (cC : ClassId) (iS : Nat → Nat), u_Kn rf_s RX4 TX4 5 cC iS := u_known (C := RX4) (T := TX4) (N := 5) (n := 5) rf_hts m_wsX40 (rf_hts _ lwp_235)
theorem rf_k4 : ∃ (cC : ClassId) (iS : Nat → Nat), u_Kn rf_s RX5 TX5 5 cC iS := u_known (C := RX5) (T := TX5) (N := 5) (n := 5) rf_hts m_wsX50 (rf_hts _ lwp_260)
theorem rf_k5 : ∃ (cC : ClassId) (iS : Nat → Nat), u_Kn rf_s RX6 TX6 5 cC iS := u_known (C := RX6) (T := TX6) (N := 5) (n := 5) rf_hts m_wsX60 (rf_hts _ lwp_282)
theorem rf_k6 : ∃ (cC : ClassId) (iS : Nat → Nat), u_Kn rf_s RX1 TX1 2 cC iS := u_known (C := RX1) (T := TX1) (N := 2) (n := 2) rf_hts m_wsX10 (rf_hts _ lwp_306)
theorem rf_k7 : ∃ (cC : ClassId) (iS : Nat → Nat), u_Kn rf_s RX8 TX8 3 cC iS := u_known (C := RX8) (T := TX8) (N := 3) (n := 3) rf_hts m_wsX80 (rf_hts _ lwp_321)
theorem rf_k8 : ∃ (cC : ClassId) (iS : Nat → Nat), u_Kn rf_s RX10 TX10 4 cC iS := u_known (C := RX10) (T := TX10) (N := 4) (n := 4) rf_hts m_wsX100 (rf_hts _ lwp_337)
theorem rf_k9 : ∃ (cC : ClassId) (iS : Nat → Nat), u_Kn rf_s RX2 TX2 7 cC iS := u_known (C := RX2) (T := TX2) (N := 7) (n := 7) rf_hts m_wsX20 (rf_hts _ lwp_358)
theorem rf_k10 : ∃ (cC : ClassId) (iS : Nat → Nat), u_Kn rf_s RX9 TX9 6 cC iS := u_known (C := RX9) (T := TX9) (N := 6) (n := 6) rf_hts m_wsX90 (rf_hts _ lwp_386)
theorem rf_k11 : ∃ (cC : ClassId) (iS : Nat → Nat), u_Kn rf_s RX11 TX11 15 cC iS := u_known (C := RX11) (T := TX11) (N := 15) (n := 15) rf_hts m_wsX110 (rf_hts _ lwp_168)
theorem rf_k12 : ∃ (cC : ClassId) (iS : Nat → Nat), u_Kn rf_s RX12 TX12 2 cC iS := u_known (C := RX12) (T := TX12) (N := 2) (n := 2) rf_hts m_wsX120 (rf_hts _ lwp_1134)
theorem rf_k13 : ∃ (cC : ClassId) (iS : Nat → Nat), u_Kn rf_s RJx4a65c TJx4a65c 3 cC iS := u_known (C := RJx4a65c) (T := TJx4a65c) (N := 3) (n := 3) rf_hts m_wsJx4a65c0 (rf_hts _ lwp_1933)
theorem rf_k14 : ∃ (cC : ClassId) (iS : Nat → Nat), u_Kn rf_s RX14 TX14 9 cC iS := u_known (C := RX14) (T := TX14) (N := 9) (n := 9) rf_hts m_wsX140 (rf_hts _ lwp_1927)
theorem rf_sK : ∃ (dC : Nat → ClassId) (dI : Nat → Nat → Nat), va_K (dC, dI) rfCl (rfT rf_aC) rf_s := by
  have h : ∀ q ∈ rfCl, ∃ (cC : ClassId) (iS : Nat → Nat), u_Kn rf_s q.1 q.2.1 q.2.2 cC iS := (List.forall_mem_cons.mpr ⟨rf_k0, (List.forall_mem_cons.mpr ⟨rf_k1, (List.forall_mem_cons.mpr ⟨rf_k2, (List.forall_mem_cons.mpr ⟨rf_k3, (List.forall_mem_cons.mpr ⟨rf_k4, (List.forall_mem_cons.mpr ⟨rf_k5, (List.forall_mem_cons.mpr ⟨rf_k6, (List.forall_mem_cons.mpr ⟨rf_k7, (List.forall_mem_cons.mpr ⟨rf_k8, (List.forall_mem_cons.mpr ⟨rf_k9, (List.forall_mem_cons.mpr ⟨rf_k10, (List.forall_mem_cons.mpr ⟨rf_k11, (List.forall_mem_cons.mpr ⟨rf_k12, (List.forall_mem_cons.mpr ⟨rf_k13, (List.forall_mem_cons.mpr ⟨rf_k14, (List.forall_mem_nil _)⟩)⟩)⟩)⟩)⟩)⟩)⟩)⟩)⟩)⟩)⟩)⟩)⟩)⟩)⟩)
  have h1 : ∀ c : Nat, ∃ d : ClassId × (Nat → Nat), ∀ q : vw_C, rfCl[c]? = some q → u_Kn rf_s q.1 q.2.1 q.2.2 d.1 d.2 := by
    intro c
    cases hc : rfCl[c]? with
    | none => exact ⟨(0, fun _ => 0), fun q hq => by cases hq⟩
    | some q =>
      obtain ⟨cC, iS, hk⟩ := h q (List.mem_of_getElem? hc)
      exact ⟨(cC, iS), fun q' hq => by cases hq; exact hk⟩
  refine ⟨fun c => (Classical.choose (h1 c)).1, fun c => (Classical.choose (h1 c)).2, fun c q hq => Classical.choose_spec (h1 c) q hq, fun k q hq => rf_arr q (List.mem_of_getElem? hq)⟩
theorem rf_h9 : rf_s.heap[9]? = some { cls := 61, slots := #[], vm := .none } := rfl
theorem rf_sX : va_X 0 1820 rf_xf rf_s rf_s.heap := by
  refine ⟨_, rf_h0, ⟨fun k h => (by cases h), _, rfl, _, rfl⟩, (fun h => by cases h), ?_, fun j hj => ?_⟩
  · show ((rf_xs.map Value.int).toArray).size = 1820
    rw [List.size_toArray, List.length_map, rf_xlen]
  · show ((rf_xs.map Value.int).toArray)[j]? = some (.int (rf_xf j))
    have h : j < rf_xs.length := by rw [rf_xlen]; exact hj
    rw [List.getElem?_toArray, List.getElem?_map, List.getElem?_eq_getElem h]
    show some (Value.int rf_xs[j]) = some (.int (rf_xs.getD j 0))
    rw [List.getD_eq_getElem?_getD, List.getElem?_eq_getElem h]
    rfl
theorem rf_sZ : rf_ZV 9 (fun q => rf_s.heap.size ≤ q ∨ q = 9) rf_s rf_s.heap := by
  have h : va_Z "java/util/ArrayList" "DEFAULTCAPACITY_EMPTY_ELEMENTDATA" "[Ljava/lang/Object;" (.ref 9) (fun _ => False) rf_s rf_s.heap := va_Zref (args := #[]) (by decide +kernel) (by decide +kernel) (by decide +kernel) (fun _ _ h => h)
  obtain ⟨cf, kf, fi, f, a, cell, e1, e2, e3, e4, e5, e6, e7, -⟩ := h
  refine ⟨cf, kf, fi, f, a, cell, e1, e2, e3, e4, e5, e6, e7, ?_⟩
  rintro (h | h)
  · have := (Array.getElem?_eq_some_iff.mp e5).1
    omega
  · subst h
    cases Option.some.inj (e5.symm.trans rf_h9)
    cases e6
theorem rf_sP : rf_P 0 9 (fun _ => none) rf_xf start1.args0 rf_s := by
  obtain ⟨dC, dI, hK⟩ := rf_sK
  refine ⟨rfl, rf_sX, by decide +kernel, by decide, rf_xX, dC, dI, rf_aC, hK, rf_sN, ?_, rf_sZ⟩
  intro k q hq
  have h := List.mem_of_getElem? hq
  rw [List.mem_singleton] at h
  subst h
  show rf_s.heap[9]? = some (arrV 61 0 (fun _ => va_rf none))
  rw [rf_h9]
  simp [arrV]
/-- THE ROW IS FALSE: at ground(7), die(0, true) .. die(6, true), family(), 446 times game(0), from the printed witness's own world -/
theorem rf_not : ¬ (Claimed_1_1 ∧ Claimed_1_2) := rf_false rfl rf_start rf_room rf_sP
