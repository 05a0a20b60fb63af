/-! the fresh state: between, sort, ofSort, lay, image -/
theorem zj2 {p : Int32} (h1 : 0 ≤ p) (h2 : p ≤ 1) : p = 0 ∨ p = 1 := by
  have a := Int32.le_iff_toInt_le.mp h1
  have b := Int32.le_iff_toInt_le.mp h2
  rw [show (0 : Int32).toInt = 0 from by decide] at a
  rw [show (1 : Int32).toInt = 1 from by decide] at b
  rcases (show p.toInt = 0 ∨ p.toInt = 1 by omega) with h | h
  · left; exact Int32.toInt_inj.mp (h.trans (by decide))
  · right; exact Int32.toInt_inj.mp (h.trans (by decide))
theorem q0_between : zQ_between zR0 0 := by
  intro xs ms h p1 p2 p3
  obtain ⟨rfl, rfl⟩ := h rfl
  rcases zisIn p1 0 3 with q | q
  · refine zfin (-9223372036854775808 : Int64) ?_ ?_
    · unfold stX10_between fX10_between
      rw [zpX0, q.1]; rfl
    · unfold stX11_between fX11_between
      rw [zpointM, q.1]; rfl
  · rcases zisIn p2 0 3 with w | w
    · refine zfin (-9223372036854775808 : Int64) ?_ ?_
      · unfold stX10_between fX10_between
        rw [zpX0, zpX0, q.1, w.1]; rfl
      · unfold stX11_between fX11_between
        rw [zpointM, zpointM, q.1, w.1]; rfl
    · rcases zisIn p3 0 1 with z | z
      · refine zfin (-9223372036854775808 : Int64) ?_ ?_
        · unfold stX10_between fX10_between
          rw [zpX0, zpX0, q.1, w.1, z.1]; rfl
        · unfold stX11_between fX11_between
          rw [zpointM, zpointM, zi_0_1, q.1, w.1, z.1]; rfl
      · refine zfin2 ?_
        rcases zj2 z.2.1 z.2.2 with e | e <;> subst e <;> rcases zj4 q.2.1 q.2.2 with e | e | e | e <;> subst e <;> rcases zj4 w.2.1 w.2.2 with e | e | e | e <;> subst e <;> decide +kernel
theorem q0_image : zQ_image zR0 0 := by
  intro xs ms h
  obtain ⟨rfl, rfl⟩ := h rfl
  refine zfin2 ?_
  decide +kernel
theorem q0_ofSort : zQ_ofSort zR0 0 := by
  intro xs ms h p1 p2
  obtain ⟨rfl, rfl⟩ := h rfl
  rcases zisIn p1 0 3 with q | q
  · refine zfin (-1 : Int32) ?_ ?_
    · unfold stX10_ofSort fX10_ofSort
      rw [zsortX, q.1]; rfl
    · unfold stX11_ofSort fX11_ofSort
      rw [zsortM, q.1]; rfl
  · rcases zisIn p2 0 2 with w | w
    · refine zfin (-1 : Int32) ?_ ?_
      · unfold stX10_ofSort fX10_ofSort
        rw [zsortX, q.1, if_neg (fun e => w.2 (by rw [e]; decide) : ¬ p2 = 0), if_neg (fun e => w.2 (by rw [e]; decide) : ¬ p2 = 1), if_neg (fun e => w.2 (by rw [e]; decide) : ¬ p2 = 2)]; rfl
      · unfold stX11_ofSort fX11_ofSort
        rw [zsortM, zi_0_2, q.1, w.1]; rfl
    · refine zfin2 ?_
      rcases zj4 q.2.1 q.2.2 with e | e | e | e <;> subst e <;> rcases zj3 w.2.1 w.2.2 with e | e | e <;> subst e <;> decide +kernel
theorem q0_lay : zQ_lay zR0 0 := by
  intro xs ms h p1 p2 p3
  obtain ⟨rfl, rfl⟩ := h rfl
  rcases zisIn p1 0 2 with q | q
  · refine zfin (-1 : Int32) ?_ ?_
    · unfold stX10_lay fX10_lay
      rw [ztrayX, q.1]; rfl
    · unfold stX11_lay fX11_lay
      rw [ztrayM, q.1]; rfl
  · by_cases z : p3 = -1
    · refine zfin (-11 : Int32) ?_ ?_
      · unfold stX10_lay fX10_lay
        rw [ztrayX, q.1, if_pos z]
        rcases zj3 q.2.1 q.2.2 with e | e | e <;> subst e <;> rfl
      · unfold stX11_lay fX11_lay fX11_lay_J22
        rw [ztrayM, q.1, if_pos z, show fX11_sizeOf p1 (m_now ms0) = some (-1) from by rcases zj3 q.2.1 q.2.2 with e | e | e <;> subst e <;> decide +kernel]
        rfl
    · refine zfin (-1 : Int32) ?_ ?_
      · unfold stX10_lay fX10_lay
        rw [ztrayX, q.1, if_neg z, show x_nets_count xs0 = 0 from rfl, zhas0]; rfl
      · unfold stX11_lay fX11_lay
        rw [ztrayM, q.1, if_neg z, znetM]; rfl
