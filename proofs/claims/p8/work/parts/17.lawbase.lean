/-- how many new rows of 16384 places: this many, at the end, where the law answers 1 -/
def rf_Q : Array Value → State → Outcome → State → Prop := fun _ st oc t => ∃ r : Int32, oc = .returned (some (.int r)) ∧ (r = 1 → ∃ is : List Nat, is.length = 446 ∧ is.Pairwise (· < ·) ∧ ∀ i ∈ is, st.heap.size ≤ i ∧ ∃ cell : Cell, t.heap[i]? = some cell ∧ 16384 ≤ cell.slots.size)
def rf_Big (s0 : Nat) (ad is : List Nat) (H : Heap) : Prop := ∀ i ∈ is, s0 ≤ i ∧ i < H.size ∧ i ∉ ad ∧ ∃ cell : Cell, H[i]? = some cell ∧ 16384 ≤ cell.slots.size
theorem rf_Big.kept {s0 : Nat} {ad is : List Nat} {H H1 : Heap} {wc : va_W} (h : rf_Big s0 ad is H) (hsz : H.size ≤ H1.size) (hk : ∀ q : Nat, q < H.size → ¬ va_A wc H.size q → H1[q]? = H[q]?) (hs : ∀ x ∈ wc.map (fun x => x.1), x ∈ ad) : rf_Big s0 ad is H1 := by
  intro i hi
  obtain ⟨h1, h2, h3, cell, h4, h5⟩ := h i hi
  refine ⟨h1, Nat.lt_of_lt_of_le h2 hsz, h3, cell, ?_, h5⟩
  rw [hk i h2 ?_]
  · exact h4
  · rintro (⟨k, x, hx⟩ | hx)
    · exact h3 (hs i (List.mem_map.mpr ⟨(i, x), List.mem_of_getElem? hx, rfl⟩))
    · omega
/-- what a callee hands back beside its own cells is new -/
theorem rf_new {wc w1 : va_W} {sz u : Nat} {x : va_E} (hD : va_D (va_A wc sz) w1) (k : Nat) (hk : w1[k]? = some (u, x)) (js : List Nat) (hj : js.map (fun j => (w1[j]?).map (fun y => y.1)) = wc.map (fun y => some y.1)) (hn : k ∉ js) : sz ≤ u := by
  rcases hD.2 k (u, x) hk with ⟨i, y, hy⟩ | h
  · exfalso
    have h1 : (wc.map (fun y => some y.1))[i]? = some (some u) := by rw [List.getElem?_map, hy]; rfl
    rw [← hj, List.getElem?_map] at h1
    cases hji : js[i]? with
    | none => rw [hji] at h1; cases h1
    | some j =>
      rw [hji] at h1
      have h2 : (w1[j]?).map (fun y => y.1) = some u := Option.some.inj h1
      cases hw : w1[j]? with
      | none => rw [hw] at h2; cases h2
      | some z =>
        rw [hw] at h2
        have h3 : z.1 = u := Option.some.inj h2
        have h4 := hD.1 j k z (u, x) hw hk h3
        subst h4
        exact hn (List.mem_of_getElem? hji)
  · exact h
theorem rf_Big.push {s0 : Nat} {ad is : List Nat} {H H1 : Heap} {u : Nat} {cell : Cell} (h : rf_Big s0 ad is H1) (hs : s0 ≤ H.size) (hu : H.size ≤ u) (hc : H1[u]? = some cell) (hz : 16384 ≤ cell.slots.size) (had : ∀ x ∈ ad, x < H.size) : rf_Big s0 ad (is ++ [u]) H1 := by
  intro i hi
  rcases List.mem_append.mp hi with h1 | h1
  · exact h i h1
  · rw [List.mem_singleton] at h1
    subst h1
    exact ⟨Nat.le_trans hs hu, (Array.getElem?_eq_some_iff.mp hc).1, fun hx => by have := had _ hx; omega, cell, hc, hz⟩
theorem rf_kn {D : va_G} {u : Nat} {cA : ClassId} {n : Nat} {f : Nat → Int32} {H : Heap} (h : va_at D rfCl (u, .inl (cA, n, .inl f)) H) : ∃ cell : Cell, H[u]? = some cell ∧ n ≤ cell.slots.size := ⟨arrV cA n (fun j => .int (f j)), h, Nat.le_of_eq (arrV_size _ _ _).symm⟩
theorem rf_D1 {A : Nat → Prop} {x : Nat × va_E} (h : A x.1) : va_D A [x] := by
  refine ⟨fun i j p q hp hq _ => ?_, fun k q hq => ?_⟩
  · have hi := (List.getElem?_eq_some_iff.mp hp).1
    have hj := (List.getElem?_eq_some_iff.mp hq).1
    simp only [List.length_singleton] at hi hj
    omega
  · have h1 := List.mem_of_getElem? hq
    rw [List.mem_singleton] at h1
    subst h1
    exact h
theorem rf_pw {is : List Nat} {u n : Nat} (h : is.Pairwise (· < ·)) (hb : ∀ i ∈ is, i < n) (hu : n ≤ u) : (is ++ [u]).Pairwise (· < ·) := by
  rw [List.pairwise_append]
  refine ⟨h, List.pairwise_singleton .., fun a ha x hx => ?_⟩
  rw [List.mem_singleton] at hx
  subst hx
  exact Nat.lt_of_lt_of_le (hb a ha) hu
theorem rf_adlt {D : va_G} {ws : va_W} {H : Heap} {ad : List Nat} (hP : va_P D rfCl ws H) (js : List Nat) (hj : js.map (fun j => (ws[j]?).map (fun y => y.1)) = ad.map some) : ∀ x ∈ ad, x < H.size := by
  intro x hx
  obtain ⟨i, hi⟩ := List.getElem?_of_mem hx
  have h1 : (ad.map some)[i]? = some (some x) := by rw [List.getElem?_map, hi]; rfl
  rw [← hj, List.getElem?_map] at h1
  cases hji : js[i]? with
  | none => rw [hji] at h1; cases h1
  | some j =>
    rw [hji] at h1
    have h2 : (ws[j]?).map (fun y => y.1) = some x := Option.some.inj h1
    cases hw : ws[j]? with
    | none => rw [hw] at h2; cases h2
    | some z =>
      rw [hw] at h2
      have h3 : z.1 = x := Option.some.inj h2
      rw [← h3]
      exact (hP j z hw).lt
