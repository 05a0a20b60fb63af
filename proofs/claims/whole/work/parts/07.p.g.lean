/-! the fresh state: edge -/
theorem q0_edge : zQ_edge zR0 0 := by
  intro xs ms h p1 p2 p3
  obtain ⟨rfl, rfl⟩ := h rfl
  rcases zisIn p1 0 3 with q | q
  · refine zfin (-1 : Int32) ?_ ?_
    · unfold stX10_edge fX10_edge
      rw [zpX0, q.1]; rfl
    · unfold stX11_edge fX11_edge
      rw [zpointM, q.1]; rfl
  · rcases zisIn p2 0 3 with w | w
    · refine zfin (-1 : Int32) ?_ ?_
      · unfold stX10_edge fX10_edge
        rw [zpX0, zpX0, q.1, w.1]; rfl
      · unfold stX11_edge fX11_edge
        rw [zpointM, zpointM, q.1, w.1]; rfl
    · by_cases e : p1 = p2
      · refine zfin (-1 : Int32) ?_ ?_
        · unfold stX10_edge fX10_edge
          rw [if_pos e, zpX0, zpX0, q.1, w.1]; rfl
        · unfold stX11_edge fX11_edge
          rw [if_pos e, zpointM, zpointM, q.1, w.1]; rfl
      · rcases zisIn p3 1 99 with z | z
        · refine zfin (-1 : Int32) ?_ ?_
          · unfold stX10_edge fX10_edge
            rw [if_neg e, zpX0, zpX0, q.1, w.1, z.1]; rfl
          · unfold stX11_edge fX11_edge
            rw [if_neg e, zpointM, zpointM, zi_1_99, q.1, w.1, z.1]; rfl
        · refine zfin (0 : Int32) ?_ ?_
          · unfold stX10_edge fX10_edge
            rw [if_neg e, zpX0, zpX0, q.1, w.1, z.1]; rfl
          · unfold stX11_edge fX11_edge
            rw [if_neg e, zpointM, zpointM, zi_1_99, q.1, w.1, z.1, show m_now ms0 ((170 : Int32)).toNatClampNeg = 0 from by decide +kernel]
            show some ((upd (upd (upd (upd (m_now ms0) 171 p1) 172 p2) 173 p3) 170 ((upd (upd (upd (m_now ms0) 171 p1) 172 p2) 173 p3) 170 + 1)) 170 - 1) = some 0
            have h : (upd (upd (upd (m_now ms0) 171 p1) 172 p2) 173 p3) 170 = 0 := by
              show (m_now ms0) 170 = 0
              decide +kernel
            rw [h]
            show some ((0 : Int32) + 1 - 1) = some 0
            decide
