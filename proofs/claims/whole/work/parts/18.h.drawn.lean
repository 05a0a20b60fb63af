/-! the call drawn -/
theorem xm_drawOf {a : Nat → Nat} {i : Nat} {cnt : Int32} {kind first second parts ohms spread now : Nat → Int32} (hv : zV a) (hx : zXn a cnt kind first second parts) (hb : zXb a ohms spread) (hm : zMn a now) (hi : i < a 8) (sd pl : Int32) (pw pk ps : Nat → Int32) (arr brr : Nat → UInt32) (om wm : Int32) (wt od : Nat → Int32) : ∃ v sd' pl' pw' pk' ps' arr' wt' od' brr', fX4_floatOf (nI i) (nI 1) sd parts pl pw kind pk first ps second ohms spread arr = some (v, sd', pl', pw', pk', ps', arr') ∧ fX11_goes (nI i) om wm wt now od = some (nI (2 * aP a i - 1), nI 0, wt', od') ∧ fX11_draws (nI (2 * aP a i - 1)) sd od' now brr = some (v, sd', brr') ∧ zE (127 - aP a i) (160 + aP a i) v := by
  obtain ⟨pw', pk', ps', g1, g2, g3⟩ := fx_walk hv hx hi pl pw pk ps
  obtain ⟨wt', od', g4, g5⟩ := fm_goes hv hm hi om wm wt od
  have l := apo_len hv hi
  have b := zNet_b hv.2.2.1 hi hv.2.1
  obtain ⟨arr', brr', sd', v, e1, e2, e3, e4, e5, _⟩ := xm_drawW (fX4_floatOf_J158 (nI (2 * aP a i - 1)) pw' pk' ps') fX11_draws_J88 hv hb hm (show 2 * aP a i - 1 ≤ 23 by omega) i hi 0 0 5000 5000 sd arr brr (by omega) (by omega) (by omega) (by omega) g2 g3 g5
  obtain ⟨fu, e6⟩ : ∃ f, 5000 - (2 * aP a i - 1) = f + 1 := ⟨5000 - (2 * aP a i - 1) - 1, by omega⟩
  refine ⟨v, sd', nI (2 * aP a i - 1), pw', pk', ps', arr', wt', od', brr', ?_, g4, ?_, e3⟩
  · unfold fX4_floatOf
    rw [g1, zb4_k, zl_0, e1, Nat.zero_add, Nat.zero_add, l.2, e6, fX4_floatOf_L10_s, if_pos (nI_le (Nat.le_refl _) (by omega))]
    unfold fX4_floatOf_J158
    rw [zl_0, zcl (by omega), e4]
  · unfold fX11_draws
    rw [zl_0, e2, Nat.zero_add, Nat.zero_add, l.2, e6, fX11_draws_L4_s, if_pos (nI_le (Nat.le_refl _) (by omega))]
    unfold fX11_draws_J88
    rw [zl_0, zcl (by omega), e5]
theorem q_drawn {Fd : FD → Prop} {k : Nat} : zQ_drawn (zR Fd) k := by
  intro xs ms h p1 p2
  have h0 := h
  obtain ⟨a, hv, hx, hm, hr⟩ := h
  obtain ⟨hB, hN, hM, hT0, hT1, hT2⟩ := id hx
  have h8 := hv.2.1
  have hc : x_nets_count xs = nI (a 8) := hN.1
  have hm8 : m_now ms 8 = nI (a 8) := hm.1 8 (by omega)
  rcases znet p1 h8 hm8 with ⟨e1, e2⟩ | ⟨i, hi, rfl, e1, e2⟩
  · refine zfin0 (-9223372036854775808 : Int64) h0 ?_ ?_
    · simp (disch := omega) only [stX10_drawn, fX10_drawn, zl_0, zl_1, zl_2, zl_3, zl_4, zl_5, zl_6, zl_8, zl_9, zl_11, zl_12, zl_13, zl_16, zl_20, zl_23, zl_24, zl_30, zl_32, zl_40, zl_41, zl_43, zl_45, zl_50, zl_52, zl_60, zl_97, zl_99, zl_100, zl_124, zl_126, zl_127, zl_169, zl_170, zl_171, zl_195, zl_200, zl_201, zl_256, zl_261, zl_999, zl_1100, zl_1884, zl_4095, zl_4096, zd1, zd2, zs1, nI_add, pk_mul, zsb, zad1, zad2, zcl, zgI, zif_le, zif_nle, zif_lt, zif_nlt, zif_eq, zif_ne, zif_self, zif_T, zif_F, Nat.zero_add, Nat.add_sub_cancel, zn21, zn31, zif_m1, zif_m1l, zif_m1n, zif_pm, zb1_k, zb2_k, zb3_k, zb4_k, zb5_k, zb6_k, zb7_k, zb8_k, zb9_k, zb10_k, zb11_k, zb12_k, zb14_k, zb21_k, zb22_k, zupd_eq, zupd_ne, zupl_eq, zupl_ne, zupf_eq, zupf_ne, hc, e1]
    · simp (disch := omega) only [stX11_drawn, fX11_drawn, zl_0, zl_1, zl_2, zl_3, zl_4, zl_5, zl_6, zl_8, zl_9, zl_11, zl_12, zl_13, zl_16, zl_20, zl_23, zl_24, zl_30, zl_32, zl_40, zl_41, zl_43, zl_45, zl_50, zl_52, zl_60, zl_97, zl_99, zl_100, zl_124, zl_126, zl_127, zl_169, zl_170, zl_171, zl_195, zl_200, zl_201, zl_256, zl_261, zl_999, zl_1100, zl_1884, zl_4095, zl_4096, zd1, zd2, zs1, nI_add, pk_mul, zsb, zad1, zad2, zcl, zgI, zif_le, zif_nle, zif_lt, zif_nlt, zif_eq, zif_ne, zif_self, zif_T, zif_F, Nat.zero_add, Nat.add_sub_cancel, zn21, zn31, zif_m1, zif_m1l, zif_m1n, zif_pm, zb1_k, zb2_k, zb3_k, zb4_k, zb5_k, zb6_k, zb7_k, zb8_k, zb9_k, zb10_k, zb11_k, zb12_k, zb14_k, zb21_k, zb22_k, zupd_eq, zupd_ne, zupl_eq, zupl_ne, zupf_eq, zupf_ne, e2]
  have b := zNet_b hv.2.2.1 hi h8
  obtain ⟨v, sd', pl', pw', pk', ps', arr', wt', od', brr', g1, g2, g3, vb⟩ := xm_drawOf hv hN hB hm hi p2 (x_meter_plan_length xs) (x_meter_plan_waiting xs) (x_meter_plan_kind xs) (x_meter_plan_sort xs) (x_meter_floats xs) (m_floats ms) (m_orderMany ms) (m_waitMany ms) (m_waits ms) (m_order ms)
  have bx := fx_bitsE vb (by omega) (by omega)
  have bm := fm_bitsE vb (by omega)
  refine zfinM v.toInt32.toInt64 h0 ?_ ?_
  · simp (disch := omega) only [stX10_drawn, fX10_drawn, zl_0, zl_1, zl_2, zl_3, zl_4, zl_5, zl_6, zl_8, zl_9, zl_11, zl_12, zl_13, zl_16, zl_20, zl_23, zl_24, zl_30, zl_32, zl_40, zl_41, zl_43, zl_45, zl_50, zl_52, zl_60, zl_97, zl_99, zl_100, zl_124, zl_126, zl_127, zl_169, zl_170, zl_171, zl_195, zl_200, zl_201, zl_256, zl_261, zl_999, zl_1100, zl_1884, zl_4095, zl_4096, zd1, zd2, zs1, nI_add, pk_mul, zsb, zad1, zad2, zcl, zgI, zif_le, zif_nle, zif_lt, zif_nlt, zif_eq, zif_ne, zif_self, zif_T, zif_F, Nat.zero_add, Nat.add_sub_cancel, zn21, zn31, zif_m1, zif_m1l, zif_m1n, zif_pm, zb1_k, zb2_k, zb3_k, zb4_k, zb5_k, zb6_k, zb7_k, zb8_k, zb9_k, zb10_k, zb11_k, zb12_k, zb14_k, zb21_k, zb22_k, zupd_eq, zupd_ne, zupl_eq, zupl_ne, zupf_eq, zupf_ne, hc, e1, g1, bx]
    exact ⟨_, rfl⟩
  · simp (disch := omega) only [stX11_drawn, fX11_drawn, zl_0, zl_1, zl_2, zl_3, zl_4, zl_5, zl_6, zl_8, zl_9, zl_11, zl_12, zl_13, zl_16, zl_20, zl_23, zl_24, zl_30, zl_32, zl_40, zl_41, zl_43, zl_45, zl_50, zl_52, zl_60, zl_97, zl_99, zl_100, zl_124, zl_126, zl_127, zl_169, zl_170, zl_171, zl_195, zl_200, zl_201, zl_256, zl_261, zl_999, zl_1100, zl_1884, zl_4095, zl_4096, zd1, zd2, zs1, nI_add, pk_mul, zsb, zad1, zad2, zcl, zgI, zif_le, zif_nle, zif_lt, zif_nlt, zif_eq, zif_ne, zif_self, zif_T, zif_F, Nat.zero_add, Nat.add_sub_cancel, zn21, zn31, zif_m1, zif_m1l, zif_m1n, zif_pm, zb1_k, zb2_k, zb3_k, zb4_k, zb5_k, zb6_k, zb7_k, zb8_k, zb9_k, zb10_k, zb11_k, zb12_k, zb14_k, zb21_k, zb22_k, zupd_eq, zupd_ne, zupl_eq, zupl_ne, zupf_eq, zupf_ne, e2, g2, g3, bm]
    exact ⟨_, rfl, rfl, rfl, rfl, rfl, rfl⟩
