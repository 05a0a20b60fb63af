/-! the fresh state: sort -/
theorem q0_sort : zQ_sort zR0 0 := by
  intro xs ms h p1 p2 p3
  obtain ⟨rfl, rfl⟩ := h rfl
  have hp : fX5_partOf p1 (x_nets_count xs0) (x_nets_kind xs0) (x_nets_first xs0) (x_nets_second xs0) = some (-1) := rfl
  rcases zisIn p1 0 3 with q | q
  · refine zfin (-1 : Int32) ?_ ?_
    · unfold stX10_sort fX10_sort
      rw [zsortX, q.1]; rfl
    · unfold stX11_sort fX11_sort
      rw [zsortM, q.1]; rfl
  · rcases zisIn p2 0 99 with w | w
    · refine zfin (-1 : Int32) ?_ ?_
      · unfold stX10_sort fX10_sort
        rw [zsortX, q.1, w.1]; rfl
      · unfold stX11_sort fX11_sort
        rw [zsortM, zi_0_99, q.1, w.1]; rfl
    · rcases zisIn p3 0 50 with z | z
      · refine zfin (-1 : Int32) ?_ ?_
        · unfold stX10_sort fX10_sort
          rw [zsortX, q.1, w.1, z.1]; rfl
        · unfold stX11_sort fX11_sort
          rw [zsortM, zi_0_99, zi_0_50, q.1, w.1, z.1]; rfl
      · refine zfin (0 : Int32) ?_ ?_
        · unfold stX10_sort fX10_sort fX10_sort_J48
          rw [zsortX, q.1, w.1, z.1, hp]
          rcases zj4 q.2.1 q.2.2 with e | e | e | e <;> subst e <;> by_cases e2 : p2 = 0 <;> first | (rw [if_pos e2]; rfl) | (rw [if_neg e2]; rfl)
        · have hf : fX11_found 0 p1 0 (m_now ms0) = some (-1) := rfl
          unfold stX11_sort fX11_sort fX11_sort_J50
          rw [zsortM, zi_0_99, zi_0_50, q.1, w.1, z.1, hf]
          rcases zj4 q.2.1 q.2.2 with e | e | e | e <;> subst e <;> by_cases e2 : p2 = 0 <;> first | (rw [if_pos e2]; rfl) | (rw [if_neg e2]; rfl) | (rw [if_pos e2]; exact congrArg some (by decide +kernel)) | (rw [if_neg e2]; exact congrArg some (by decide +kernel))
