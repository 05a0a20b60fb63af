/-! the fresh state, further calls -/
theorem q0_points : zQ_points zR0 0 := by
  intro xs ms h p1
  obtain ⟨rfl, rfl⟩ := h rfl
  rcases zisIn p1 2 6 with q | q
  · refine zfin (-1 : Int32) ?_ ?_
    · unfold stX10_points fX10_points
      rw [q.1]; rfl
    · unfold stX11_points fX11_points
      rw [zi_2_6, q.1]; rfl
  · refine zfin (4 : Int32) ?_ ?_
    · unfold stX10_points fX10_points
      rw [q.1]; rfl
    · unfold stX11_points fX11_points
      rw [zi_2_6, q.1]
      exact congrArg some (show m_now ms0 ((169 : Int32)).toNatClampNeg = 4 by decide +kernel)
theorem q0_back : zQ_back zR0 0 := by
  intro xs ms h
  obtain ⟨rfl, rfl⟩ := h rfl
  refine zfin (-5 : Int32) ?_ ?_
  · unfold stX10_back fX10_back
    rw [if_pos (show x_kept_isTaken xs0 = 0 from rfl)]; rfl
  · unfold stX11_back fX11_back
    rw [if_pos (show m_hasImage ms0 = 0 from rfl)]; rfl
theorem zj3 {p : Int32} (h1 : 0 ≤ p) (h2 : p ≤ 2) : p = 0 ∨ p = 1 ∨ p = 2 := by
  have a := Int32.le_iff_toInt_le.mp h1
  have b := Int32.le_iff_toInt_le.mp h2
  rw [show (0 : Int32).toInt = 0 from by decide] at a
  rw [show (2 : Int32).toInt = 2 from by decide] at b
  rcases (show p.toInt = 0 ∨ p.toInt = 1 ∨ p.toInt = 2 by omega) with h | h | h
  · left; exact Int32.toInt_inj.mp (h.trans (by decide))
  · right; left; exact Int32.toInt_inj.mp (h.trans (by decide))
  · right; right; exact Int32.toInt_inj.mp (h.trans (by decide))
theorem q0_at : zQ_at zR0 0 := by
  intro xs ms h p1 p2
  obtain ⟨rfl, rfl⟩ := h rfl
  rcases zisIn p1 0 2 with q | q
  · refine zfin (-1 : Int32) ?_ ?_
    · unfold stX10_at fX10_at
      rw [ztrayX, q.1]; rfl
    · unfold stX11_at fX11_at
      rw [ztrayM, q.1]; rfl
  · refine zfin (-11 : Int32) ?_ ?_
    · unfold stX10_at fX10_at
      rw [ztrayX, q.1]
      rcases zj3 q.2.1 q.2.2 with e | e | e <;> subst e <;> rfl
    · unfold stX11_at fX11_at
      rw [ztrayM, q.1, show fX11_sizeOf p1 (m_now ms0) = some (-1) from by rcases zj3 q.2.1 q.2.2 with e | e | e <;> subst e <;> decide +kernel]
      rfl
