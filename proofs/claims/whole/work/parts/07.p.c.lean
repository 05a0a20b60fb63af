/-! the fresh state, the mesh -/
theorem zj4 {p : Int32} (h1 : 0 ≤ p) (h2 : p ≤ 3) : p = 0 ∨ p = 1 ∨ p = 2 ∨ p = 3 := by
  have a := Int32.le_iff_toInt_le.mp h1
  have b := Int32.le_iff_toInt_le.mp h2
  rw [show (0 : Int32).toInt = 0 from by decide] at a
  rw [show (3 : Int32).toInt = 3 from by decide] at b
  rcases (show p.toInt = 0 ∨ p.toInt = 1 ∨ p.toInt = 2 ∨ p.toInt = 3 by omega) with h | h | h | h
  · left; exact Int32.toInt_inj.mp (h.trans (by decide))
  · right; left; exact Int32.toInt_inj.mp (h.trans (by decide))
  · right; right; left; exact Int32.toInt_inj.mp (h.trans (by decide))
  · right; right; right; exact Int32.toInt_inj.mp (h.trans (by decide))
theorem zpX0 (p : Int32) : fX3_has p (x_mesh_points xs0) = fX10_isIn p 0 3 := zpointX p
theorem zeX0 (p : Int32) : fX3_hasEdge p (x_mesh_edges xs0) = some 0 := zedgeX p
theorem q0_tell : zQ_tell zR0 0 := by
  intro xs ms h p1 p2
  obtain ⟨rfl, rfl⟩ := h rfl
  refine zfin (-1 : Int32) ?_ ?_
  · unfold stX10_tell fX10_tell
    rw [zeX0]; rfl
  · unfold stX11_tell fX11_tell
    rw [zedgeM]; rfl
theorem q0_without : zQ_without zR0 0 := by
  intro xs ms h p1 p2 p3 p4
  obtain ⟨rfl, rfl⟩ := h rfl
  refine zfin (-9223372036854775808 : Int64) ?_ ?_
  · unfold stX10_without fX10_without
    rw [zeX0]; rfl
  · unfold stX11_without fX11_without
    rw [zedgeM]; rfl
theorem q0_ways : zQ_ways zR0 0 := by
  intro xs ms h p1
  obtain ⟨rfl, rfl⟩ := h rfl
  rcases zisIn p1 0 3 with q | q
  · refine zfin (-1 : Int32) ?_ ?_
    · unfold stX10_ways fX10_ways
      rw [zpX0, q.1]; rfl
    · unfold stX11_ways fX11_ways
      rw [zpointM, q.1]; rfl
  · refine zfin2 ?_
    rcases zj4 q.2.1 q.2.2 with e | e | e | e <;> subst e <;> decide +kernel
theorem q0_dearest : zQ_dearest zR0 0 := by
  intro xs ms h p1 p2
  obtain ⟨rfl, rfl⟩ := h rfl
  rcases zisIn p1 0 3 with q | q
  · refine zfin (-1 : Int32) ?_ ?_
    · unfold stX10_dearest fX10_dearest
      rw [zpX0, q.1]; rfl
    · unfold stX11_dearest fX11_dearest
      rw [zpointM, q.1]; rfl
  · rcases zisIn p2 0 3 with w | w
    · refine zfin (-1 : Int32) ?_ ?_
      · unfold stX10_dearest fX10_dearest
        rw [zpX0, zpX0, q.1, w.1]; rfl
      · unfold stX11_dearest fX11_dearest
        rw [zpointM, zpointM, q.1, w.1]; rfl
    · refine zfin2 ?_
      rcases zj4 q.2.1 q.2.2 with e | e | e | e <;> subst e <;> rcases zj4 w.2.1 w.2.2 with e | e | e | e <;> subst e <;> decide +kernel
theorem q0_bridges : zQ_bridges zR0 0 := by
  intro xs ms h p1 p2
  obtain ⟨rfl, rfl⟩ := h rfl
  rcases zisIn p1 0 3 with q | q
  · refine zfin (-1 : Int32) ?_ ?_
    · unfold stX10_bridges fX10_bridges
      rw [zpX0, q.1]; rfl
    · unfold stX11_bridges fX11_bridges
      rw [zpointM, q.1]; rfl
  · rcases zisIn p2 0 3 with w | w
    · refine zfin (-1 : Int32) ?_ ?_
      · unfold stX10_bridges fX10_bridges
        rw [zpX0, zpX0, q.1, w.1]; rfl
      · unfold stX11_bridges fX11_bridges
        rw [zpointM, zpointM, q.1, w.1]; rfl
    · refine zfin2 ?_
      rcases zj4 q.2.1 q.2.2 with e | e | e | e <;> subst e <;> rcases zj4 w.2.1 w.2.2 with e | e | e | e <;> subst e <;> decide +kernel
