/-! the fresh state: feed, read -/
theorem q0_feed : zQ_feed zR0 0 := by
  intro xs ms h p1
  obtain ⟨rfl, rfl⟩ := h rfl
  rcases zisIn p1 32 126 with q | q
  · refine zfin (-1 : Int32) ?_ ?_
    · unfold stX10_feed fX10_feed
      rw [q.1]; rfl
    · unfold stX11_feed fX11_feed
      rw [zi_32_126, q.1]; rfl
  · refine zfin (1 : Int32) ?_ ?_
    · unfold stX10_feed fX10_feed
      rw [q.1]; rfl
    · unfold stX11_feed fX11_feed
      rw [zi_32_126, q.1]; rfl
theorem q0_read : zQ_read zR0 0 := by
  intro xs ms h
  obtain ⟨rfl, rfl⟩ := h rfl
  refine zfin2 ?_
  decide +kernel
