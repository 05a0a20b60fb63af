/-! the fresh state: part -/
theorem q0_part : zQ_part zR0 0 := by
  intro xs ms h p1
  obtain ⟨rfl, rfl⟩ := h rfl
  rcases zisIn p1 0 3 with q | q
  · refine zfin (-1 : Int32) ?_ ?_
    · unfold stX10_part fX10_part
      rw [zsortX, q.1]; rfl
    · unfold stX11_part fX11_part
      rw [zsortM, q.1]; rfl
  · refine zfin2 ?_
    rcases zj4 q.2.1 q.2.2 with e | e | e | e <;> subst e <;> decide +kernel
