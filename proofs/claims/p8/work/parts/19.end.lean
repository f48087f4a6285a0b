/-! THE ROOM OF THIS ROW: what its frame condition allows, said of rows of 16,384 places: at most 415 of them can be new. (On the script 0,7,0,0, 3,0,0,0, then 510 times 22,0,0,0 the reference's game() makes one such row in each of 510 calls: REPORT.md.) -/
/-- places of a list that rise, each with c or more behind it: together no more than the list's sum -/
theorem rm_sum (g : Cell → Nat) (c : Nat) : ∀ (xs : List Cell) (b : Nat) (is : List Nat), is.Pairwise (· < ·) → (∀ i ∈ is, b ≤ i ∧ ∃ x, xs[i - b]? = some x ∧ c ≤ g x) → is.length * c ≤ (xs.map g).sum := by
  intro xs
  induction xs with
  | nil =>
    intro b is _ h
    cases is with
    | nil => simp
    | cons i tl =>
      obtain ⟨_, x, hx, _⟩ := h i (List.mem_cons_self ..)
      simp at hx
  | cons x r ih =>
    intro b is hp h
    cases is with
    | nil => simp
    | cons i tl =>
      obtain ⟨hi, tlp⟩ := List.pairwise_cons.mp hp
      have shift : ∀ k, b + 1 ≤ k → (x :: r)[k - b]? = r[k - (b + 1)]? := by
        intro k hk
        have : k - b = (k - (b + 1)) + 1 := by omega
        rw [this, List.getElem?_cons_succ]
      have hsum : ((x :: r).map g).sum = g x + (r.map g).sum := by simp
      rw [hsum]
      by_cases hib : i = b
      · have htl := ih (b + 1) tl tlp (fun k hk => by
          have hk1 : b + 1 ≤ k := by have := hi k hk; omega
          obtain ⟨_, y, hy, hc⟩ := h k (List.mem_cons_of_mem _ hk)
          exact ⟨hk1, y, by rw [← shift k hk1]; exact hy, hc⟩)
        obtain ⟨_, y, hy, hc⟩ := h i (List.mem_cons_self ..)
        have hy0 : y = x := by
          have h0 : i - b = 0 := by omega
          rw [h0] at hy
          simpa using hy.symm
        rw [hy0] at hc
        have hm : (tl.length + 1) * c = tl.length * c + c := Nat.succ_mul _ _
        rw [List.length_cons, hm]
        omega
      · have hall := ih (b + 1) (i :: tl) hp (fun k hk => by
          have hk1 : b + 1 ≤ k := by
            rcases List.mem_cons.mp hk with rfl | hk'
            · have := (h _ (List.mem_cons_self ..)).1; omega
            · have h1 := (h i (List.mem_cons_self ..)).1
              have h2 := hi k hk'
              omega
          obtain ⟨_, y, hy, hc⟩ := h k hk
          exact ⟨hk1, y, by rw [← shift k hk1]; exact hy, hc⟩)
        omega
/-- a frame condition with n new slots leaves room for no more than n / c new cells of c slots or more -/
theorem rm_framed {s t : State} {o : Outcome} {L : List Loc} {k n : Nat} (c : Nat) (h : Jvm.D.Framed s o t L k n) (is : List Nat) (hp : is.Pairwise (· < ·))
    (hi : ∀ i ∈ is, s.heap.size ≤ i ∧ ∃ cell, t.heap[i]? = some cell ∧ c ≤ cell.slots.size) : is.length * c ≤ n := by
  obtain ⟨_, _, hs⟩ := h
  obtain ⟨_, _, _, _, hn, _⟩ := hs
  refine Nat.le_trans (rm_sum (fun cell => cell.slots.size) c _ s.heap.size is hp (fun i hi' => ?_)) hn
  obtain ⟨h1, cell, h2, h3⟩ := hi i hi'
  refine ⟨h1, cell, ?_, h3⟩
  rw [List.getElem?_drop]
  have h4 : s.heap.size + (i - s.heap.size) = i := by omega
  rw [h4, Array.getElem?_toList]
  exact h2
/-- two ends of one invocation are one -/
theorem rf_uni {tb : Tables} {e : Env} {s : State} {below : List Frame} {n n' : Nat} {o o' : Outcome} (h1 : ∀ k, k < n → Within (stepsAlone tb e k s) below) (h2 : Ended (stepsAlone tb e n s) below o) (h3 : ∀ k, k < n' → Within (stepsAlone tb e k s) below) (h4 : Ended (stepsAlone tb e n' s) below o') : n = n' ∧ o = o' := by
  have hn : n = n' := by
    rcases Nat.lt_trichotomy n n' with h | h | h
    · exact absurd (h3 n h) h2.not_within
    · exact h
    · exact absurd (h1 n' h) h4.not_within
  subst hn
  exact ⟨rfl, h2.outcome_unique h4⟩
/-- what the script's start must hold -/
def rf_P (b ev : Nat) (ef : Nat → Option Nat) (xs : Nat → Int32) (args : Array Value) (s : State) : Prop := args = (([Value.ref b] : List Value).toArray) ∧ va_X b 1820 xs s s.heap ∧ b < s.heap.size ∧ b ≠ ev ∧ rf_X xs ∧
  ∃ (dC : Nat → ClassId) (dI : Nat → Nat → Nat) (aC : Nat → ClassId), va_K (dC, dI) rfCl (rfT aC) s ∧ rf_N s ∧ va_P (dC, dI) rfCl [(ev, .inl (aC 5, 0, .inr (.inr (.inr (.inr ef)))))] s.heap ∧ rf_ZV ev (fun q => s.heap.size ≤ q ∨ q = ev) s s.heap
set_option maxHeartbeats 4000000 in
theorem rf_walk (l : Launch) (b ev : Nat) (ef : Nat → Option Nat) (xs : Nat → Int32) : MetFree l x (headSpec (Jvm.Cond.code x code maxLocals ret :: tables_1) ({ frames := 100, cells := 3000, slots := 7371873, locals := 4000 } : Room)) (rf_P b ev ef xs) (fun _ _ _ _ _ => True) rf_Q := by
  refine MetFree.of_bodyS (code := code) (maxLocals := maxLocals) (ret := ret) (by decide) ?_ ?_
  · intro args s m h hn
    obtain ⟨meth, c, h1, h2, h3, h4, h5, h6, -, -⟩ := Cond.code_spec hn (atoms_spec (ws := Jvm.Cond.code x code maxLocals ret :: tables_1) h _ List.mem_cons_self)
    exact ⟨meth, c, h1, h2, h3, h4, h5, h6⟩
  · intro p e s m args below meth c s₁ B hml0 hP _
    obtain ⟨rfl, hX, hbl, hbe, hxs, dC, dI, aC, hK, hN, hP0, hZ⟩ := hP
    have hown : s.vm.findClass RL = some m.cls := findClass_of_methodNamed B.named
    have hts0 : ∀ c ∈ (Jvm.Cond.code x code maxLocals ret :: tables_1), c.before (([Value.ref b] : List Value).toArray) s = true := atoms_spec (ws := Jvm.Cond.code x code maxLocals ret :: tables_1) B.pre
    have hts : ∀ w ∈ lw_tbl, w.before (([Value.ref b] : List Value).toArray) s = true := k2_hts_sels lw_privs (fun w hw => hts0 w (List.mem_cons_of_mem _ hw)) lw_privs_ok
    have hml : c.maxLocals = 8 := B.maxLocals_eq (hts0 _ List.mem_cons_self)
    have X₀ : Stand p l e ({ frames := 100, cells := 3000, slots := 7371873, locals := 4000 } : Room) s m (([Value.ref b] : List Value).toArray) below meth c s₁ [] 0 0 := Stand.of_body B
    have hh0 : s₁.heap = s.heap := by rw [B.state]; rfl
    have K := rf_law (p := p) (e := e) (below := below) l dC dI aC b ev ef xs B.exec B.bytes B.returns hml hown hts hX hbl hbe B.notSynchronized hK hN hP0 hZ hxs
    rw [← hh0] at K
    obtain ⟨t, a1, o, b1, b2, b3, -⟩ := K s₁ rfl X₀
    exact ⟨t, o, a1, b1, b2, b3⟩
/-- THE ROW IS FALSE wherever the script ground(7), die(0, true) .. die(6, true), family(), 446 times game(0) has a start with room for it -/
theorem rf_false {l : Launch} {p : Program} {e : Env} {s : State} {m : MethodId} {args : Array Value} {below : List Frame} {b ev : Nat} {ef : Nat → Option Nat} {xs : Nat → Int32} (hfl : l.flags = flags0) (hA : AtStart classFile x code maxLocals ret World_1 tables_1 room_1 Calls_1 rest_1 Pre_1 l p e s m args below)
    (hB : (headSpec (Jvm.Cond.code x code maxLocals ret :: tables_1) ({ frames := 100, cells := 3000, slots := 7371873, locals := 4000 } : Room)).applies x e.platform s = true) (hP : rf_P b ev ef xs args s) : ¬ (Claimed_1_1 ∧ Claimed_1_2) := by
  rintro ⟨c1, c2⟩
  obtain ⟨hL, hW, ha, -, hc, hk, hf, hfit, hheap, happ, hcalls, hrest, hpre⟩ := hA
  obtain ⟨n1, o1, i1, j1, e1, p1⟩ := c1 l hfl hL hW p e ha hc hk s m args below hf hfit hheap happ ⟨hcalls, hrest, hpre⟩
  obtain ⟨n2, o2, i2, j2, e2, p2⟩ := c2 l hfl hL hW p e ha hc hk s m args below hf hfit hheap happ ⟨hcalls, hrest, hpre⟩
  obtain ⟨n3, o3, i3, j3, e3, p3⟩ := rf_walk l b ev ef xs p e ha hc hk s m args below hf ((Spec.applies_iff_loose hf).mp hB).1 hP trivial
  obtain ⟨rfl, rfl⟩ := rf_uni i1 e1 i3 e3
  obtain ⟨rfl, rfl⟩ := rf_uni i2 e2 i3 e3
  obtain ⟨r, rfl, hr⟩ := p3
  have h1 : r = 1 := by
    have h := Cond.after_iff.mp p2.1
    rw [show limb_1_2 = Cond.eq .result (.int 1) from rfl, Cond.eq_ints (x := r) (y := 1) rfl rfl] at h
    simpa using h
  obtain ⟨is, hil, hpw, hbig⟩ := hr h1
  have h2 := rm_framed 16384 p1.2 is hpw hbig
  rw [hil] at h2
  exact absurd h2 (by decide)
