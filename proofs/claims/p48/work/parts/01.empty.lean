/-! THIS ROW IS EMPTY AS IT IS PRINTED: it is about a law whose code has no exception table; the law that it is printed of has one (its try). So no launch at all meets what it takes as given. -/
theorem em_has_not : classFile.hasCode x code maxLocals ret = false := by decide +kernel
theorem em_mem : (x, code, maxLocals, ret) ∈ (Jvm.D.headSpec (Jvm.Cond.code x code maxLocals ret :: tables_1) room_1).pre.codes ++ (Jvm.D.headSpec (Jvm.Cond.code x code maxLocals ret :: tables_1) room_1).post.codes := by
  refine List.mem_append_left _ ?_
  unfold Jvm.D.headSpec Jvm.D.allAtoms
  rw [List.foldr_cons]
  simp only [Jvm.Cond.codes]
  exact List.mem_append_left _ (List.mem_singleton.mpr rfl)
/-- no launch lists what the row asks -/
theorem em_no_launch (l : Jvm.Launch) : ¬ Jvm.D.Lists l classFile x code maxLocals ret tables_1 room_1 := by
  intro h
  obtain ⟨_, hf, hF, _⟩ := h
  have h1 := hF.1 _ em_mem
  simp only [hf, Option.any_some, em_has_not] at h1
  exact absurd h1 (by decide)
