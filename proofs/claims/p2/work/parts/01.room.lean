/-! THE ROOM OF THIS ROW: what its frame condition allows, said of rows of 16,384 places: at most 415 of them can be new. (On the script 0,7,0,0, 3,0,0,0, then 510 times 22,0,0,0 the reference's game() makes one such row in each of 510 calls: REPORT.md.) -/
/-- places of a list that rise, each with c or more behind it: together no more than the list's sum -/
theorem rm_sum (g : Cell → Nat) (c : Nat) : ∀ (xs : List Cell) (b : Nat) (is : List Nat), is.Pairwise (· < ·) → (∀ i ∈ is, b ≤ i ∧ ∃ x, xs[i - b]? = some x ∧ c ≤ g x) → is.length * c ≤ (xs.map g).sum := by
  intro xs
  induction xs with
  | nil =>
    intro b is _ h
    cases is with
    | nil => simp
    | cons i tl =>
      obtain ⟨_, x, hx, _⟩ := h i (List.mem_cons_self ..)
      simp at hx
  | cons x r ih =>
    intro b is hp h
    cases is with
    | nil => simp
    | cons i tl =>
      obtain ⟨hi, tlp⟩ := List.pairwise_cons.mp hp
      have shift : ∀ k, b + 1 ≤ k → (x :: r)[k - b]? = r[k - (b + 1)]? := by
        intro k hk
        have : k - b = (k - (b + 1)) + 1 := by omega
        rw [this, List.getElem?_cons_succ]
      have hsum : ((x :: r).map g).sum = g x + (r.map g).sum := by simp
      rw [hsum]
      by_cases hib : i = b
      · have htl := ih (b + 1) tl tlp (fun k hk => by
          have hk1 : b + 1 ≤ k := by have := hi k hk; omega
          obtain ⟨_, y, hy, hc⟩ := h k (List.mem_cons_of_mem _ hk)
          exact ⟨hk1, y, by rw [← shift k hk1]; exact hy, hc⟩)
        obtain ⟨_, y, hy, hc⟩ := h i (List.mem_cons_self ..)
        have hy0 : y = x := by
          have h0 : i - b = 0 := by omega
          rw [h0] at hy
          simpa using hy.symm
        rw [hy0] at hc
        have hm : (tl.length + 1) * c = tl.length * c + c := Nat.succ_mul _ _
        rw [List.length_cons, hm]
        omega
      · have hall := ih (b + 1) (i :: tl) hp (fun k hk => by
          have hk1 : b + 1 ≤ k := by
            rcases List.mem_cons.mp hk with rfl | hk'
            · have := (h _ (List.mem_cons_self ..)).1; omega
            · have h1 := (h i (List.mem_cons_self ..)).1
              have h2 := hi k hk'
              omega
          obtain ⟨_, y, hy, hc⟩ := h k hk
          exact ⟨hk1, y, by rw [← shift k hk1]; exact hy, hc⟩)
        omega
/-- a frame condition with n new slots leaves room for no more than n / c new cells of c slots or more -/
theorem rm_framed {s t : State} {o : Outcome} {L : List Loc} {k n : Nat} (c : Nat) (h : Jvm.D.Framed s o t L k n) (is : List Nat) (hp : is.Pairwise (· < ·))
    (hi : ∀ i ∈ is, s.heap.size ≤ i ∧ ∃ cell, t.heap[i]? = some cell ∧ c ≤ cell.slots.size) : is.length * c ≤ n := by
  obtain ⟨_, _, hs⟩ := h
  obtain ⟨_, _, _, _, hn, _⟩ := hs
  refine Nat.le_trans (rm_sum (fun cell => cell.slots.size) c _ s.heap.size is hp (fun i hi' => ?_)) hn
  obtain ⟨h1, cell, h2, h3⟩ := hi i hi'
  refine ⟨h1, cell, ?_, h3⟩
  rw [List.getElem?_drop]
  have h4 : s.heap.size + (i - s.heap.size) = i := by omega
  rw [h4, Array.getElem?_toList]
  exact h2
/-- of this row: whoever ends as it asks has made at most 415 cells of 16,384 slots -/
theorem rm_p2 {tb : Tables} {e : Env} {a : Array Value} {s t : State} {o : Outcome} (h : Post_1_1 tb e a s o t) (is : List Nat) (hp : is.Pairwise (· < ·))
    (hi : ∀ i ∈ is, s.heap.size ≤ i ∧ ∃ cell, t.heap[i]? = some cell ∧ 16384 ≤ cell.slots.size) : is.length ≤ 415 := by
  have h1 := rm_framed 16384 h.2 is hp hi
  omega
