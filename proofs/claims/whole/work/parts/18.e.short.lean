/-! shortly: the reference's list; the call -/
theorem fm_shortL {a : Nat → Nat} {i : Nat} {now : Nat → Int32} (k : (Nat → UInt32) → Option (Int64 × (Nat → UInt32))) (hv : zV a) (hm : zMn a now) (hi : i < a 8) : ∀ d j fu (brf : Nat → UInt32), j + d = i + 1 → d < fu → (∀ q, q < j → brf q = zev a q) → ∃ brf', fX11_shortly_L14 k now (nI i) fu (nI j) brf = k brf' ∧ ∀ q, q < i + 1 → brf' q = zev a q := by
  have h8 := hv.2.1
  intro d
  induction d with
  | zero =>
    intro j fu brf hj hfu hr
    obtain ⟨fu, rfl⟩ : ∃ f, fu = f + 1 := ⟨fu - 1, by omega⟩
    refine ⟨brf, ?_, fun q hq => hr q (by omega)⟩
    rw [fX11_shortly_L14_s]
    simp (disch := omega) only [zl_0, zl_1, zl_2, zl_3, zl_4, zl_5, zl_6, zl_8, zl_9, zl_11, zl_12, zl_13, zl_16, zl_20, zl_23, zl_24, zl_30, zl_32, zl_40, zl_41, zl_43, zl_45, zl_50, zl_52, zl_60, zl_97, zl_99, zl_100, zl_124, zl_126, zl_127, zl_169, zl_170, zl_171, zl_195, zl_200, zl_201, zl_256, zl_261, zl_999, zl_1100, zl_1884, zl_4095, zl_4096, zd1, zd2, zs1, nI_add, pk_mul, zsb, zad1, zad2, zcl, zgI, zif_le, zif_nle, zif_lt, zif_nlt, zif_eq, zif_ne, zif_self, zif_T, zif_F, Nat.zero_add, Nat.add_sub_cancel, zn21, zn31, zif_m1, zif_m1l, zif_m1n, zif_pm, zb1_k, zb2_k, zb3_k, zb4_k, zb5_k, zb6_k, zb7_k, zb8_k, zb9_k, zb10_k, zb11_k, zb12_k, zb14_k, zb21_k, zb22_k, zupd_eq, zupd_ne, zupl_eq, zupl_ne, zupf_eq, zupf_ne]
  | succ d ih =>
    intro j fu brf hj hfu hr
    obtain ⟨fu, rfl⟩ : ∃ f, fu = f + 1 := ⟨fu - 1, by omega⟩
    have hj8 : j < a 8 := by omega
    have kO := fm_kindOf hm (i := j) (by omega)
    have fO := fm_firstOf hm (i := j) (by omega)
    have sO := fm_secondOf hm (i := j) (by omega)
    have fill : ∀ v, v = zev a j → ∀ q, q < j + 1 → vf_upd brf j v q = zev a q := fun v hv2 q hq => by
      by_cases z : q = j
      · rw [zupf_eq z, z]; exact hv2
      · rw [zupf_ne (by omega)]; exact hr q (by omega)
    rcases hv.2.2.1 j hj8 with ⟨n1, n2, n3, n4, n5⟩ | ⟨n1, n2, n3, n4, n5⟩
    · obtain ⟨brf', g1, g2⟩ := ih (j + 1) fu (vf_upd brf j (FP.i2f (nI (a (aF a j))))) (by omega) (by omega) (fill _ (zev_0 n1).symm)
      refine ⟨brf', ?_, g2⟩
      rw [n1] at kO
      rw [← g1, fX11_shortly_L14_s]
      simp (disch := omega) only [zl_0, zl_1, zl_2, zl_3, zl_4, zl_5, zl_6, zl_8, zl_9, zl_11, zl_12, zl_13, zl_16, zl_20, zl_23, zl_24, zl_30, zl_32, zl_40, zl_41, zl_43, zl_45, zl_50, zl_52, zl_60, zl_97, zl_99, zl_100, zl_124, zl_126, zl_127, zl_169, zl_170, zl_171, zl_195, zl_200, zl_201, zl_256, zl_261, zl_999, zl_1100, zl_1884, zl_4095, zl_4096, zd1, zd2, zs1, nI_add, pk_mul, zsb, zad1, zad2, zcl, zgI, zif_le, zif_nle, zif_lt, zif_nlt, zif_eq, zif_ne, zif_self, zif_T, zif_F, Nat.zero_add, Nat.add_sub_cancel, zn21, zn31, zif_m1, zif_m1l, zif_m1n, zif_pm, zb1_k, zb2_k, zb3_k, zb4_k, zb5_k, zb6_k, zb7_k, zb8_k, zb9_k, zb10_k, zb11_k, zb12_k, zb14_k, zb21_k, zb22_k, zupd_eq, zupd_ne, zupl_eq, zupl_ne, zupf_eq, zupf_ne, kO, fO, hm.1, fX11_shortly_J76]
    · have b1 := zNet_b hv.2.2.1 (i := aF a j) (by omega) h8
      have b2 := zNet_b hv.2.2.1 (i := aS a j) (by omega) h8
      have e1 := hr (aF a j) n2
      have e2 := hr (aS a j) n3
      obtain ⟨_, s1, s2, s3, s4, s5⟩ := zej_b (kk := aK a j) b1.2.2.2.2 b2.2.2.2.2 (by omega) (zev_b hv (aF a j) (by omega)) (zev_b hv (aS a j) (by omega))
      have jf := fm_joinedF n1 s1 s2 s3 s4 s5
      obtain ⟨brf', g1, g2⟩ := ih (j + 1) fu (vf_upd brf j (zej (aK a j) (zev a (aF a j)) (zev a (aS a j)))) (by omega) (by omega) (fill _ (zev_1 (zAc_net hv) hj8 (by omega)).symm)
      refine ⟨brf', ?_, g2⟩
      rw [← g1, fX11_shortly_L14_s]
      simp (disch := omega) only [zl_0, zl_1, zl_2, zl_3, zl_4, zl_5, zl_6, zl_8, zl_9, zl_11, zl_12, zl_13, zl_16, zl_20, zl_23, zl_24, zl_30, zl_32, zl_40, zl_41, zl_43, zl_45, zl_50, zl_52, zl_60, zl_97, zl_99, zl_100, zl_124, zl_126, zl_127, zl_169, zl_170, zl_171, zl_195, zl_200, zl_201, zl_256, zl_261, zl_999, zl_1100, zl_1884, zl_4095, zl_4096, zd1, zd2, zs1, nI_add, pk_mul, zsb, zad1, zad2, zcl, zgI, zif_le, zif_nle, zif_lt, zif_nlt, zif_eq, zif_ne, zif_self, zif_T, zif_F, Nat.zero_add, Nat.add_sub_cancel, zn21, zn31, zif_m1, zif_m1l, zif_m1n, zif_pm, zb1_k, zb2_k, zb3_k, zb4_k, zb5_k, zb6_k, zb7_k, zb8_k, zb9_k, zb10_k, zb11_k, zb12_k, zb14_k, zb21_k, zb22_k, zupd_eq, zupd_ne, zupl_eq, zupl_ne, zupf_eq, zupf_ne, kO, fO, sO, e1, e2, jf, fX11_shortly_J76]
theorem fx_shortOf {a : Nat → Nat} {i : Nat} {cnt : Int32} {kind first second parts ohms spread : Nat → Int32} (hv : zV a) (hx : zXn a cnt kind first second parts) (hb : zXb a ohms spread) (hi : i < a 8) (sd pl : Int32) (pw pk ps : Nat → Int32) (arr : Nat → UInt32) : ∃ pl' pw' pk' ps' arr', fX4_floatOf (nI i) (nI 0) sd parts pl pw kind pk first ps second ohms spread arr = some (zev a i, sd, pl', pw', pk', ps', arr') := by
  obtain ⟨pw', pk', ps', g1, g2, g3⟩ := fx_walk hv hx hi pl pw pk ps
  have l := apo_len hv hi
  have b := zNet_b hv.2.2.1 hi hv.2.1
  obtain ⟨arr', e1, e2, _⟩ := fx_shortW (sd := sd) (fX4_floatOf_J158 (nI (2 * aP a i - 1)) pw' pk' ps') hv hb (show 2 * aP a i - 1 ≤ 23 by omega) i hi 0 0 5000 arr (by omega) (by omega) (by omega) g2 g3
  refine ⟨nI (2 * aP a i - 1), pw', pk', ps', arr', ?_⟩
  unfold fX4_floatOf
  rw [g1, zb4_k, zl_0, e1, Nat.zero_add, Nat.zero_add, l.2]
  obtain ⟨fu, e3⟩ : ∃ f, 5000 - (2 * aP a i - 1) = f + 1 := ⟨5000 - (2 * aP a i - 1) - 1, by omega⟩
  rw [e3, fX4_floatOf_L10_s, if_pos (nI_le (Nat.le_refl _) (by omega))]
  unfold fX4_floatOf_J158
  rw [zl_0, zcl (by omega), e2]
theorem q_shortly {Fd : FD → Prop} {k : Nat} : zQ_shortly (zR Fd) k := by
  intro xs ms h p1
  have h0 := h
  obtain ⟨a, hv, hx, hm, hr⟩ := h
  obtain ⟨hB, hN, hM, hT0, hT1, hT2⟩ := id hx
  have h8 := hv.2.1
  have hc : x_nets_count xs = nI (a 8) := hN.1
  have hm8 : m_now ms 8 = nI (a 8) := hm.1 8 (by omega)
  rcases znet p1 h8 hm8 with ⟨e1, e2⟩ | ⟨i, hi, rfl, e1, e2⟩
  · refine zfin0 (-9223372036854775808 : Int64) h0 ?_ ?_
    · simp (disch := omega) only [stX10_shortly, fX10_shortly, zl_0, zl_1, zl_2, zl_3, zl_4, zl_5, zl_6, zl_8, zl_9, zl_11, zl_12, zl_13, zl_16, zl_20, zl_23, zl_24, zl_30, zl_32, zl_40, zl_41, zl_43, zl_45, zl_50, zl_52, zl_60, zl_97, zl_99, zl_100, zl_124, zl_126, zl_127, zl_169, zl_170, zl_171, zl_195, zl_200, zl_201, zl_256, zl_261, zl_999, zl_1100, zl_1884, zl_4095, zl_4096, zd1, zd2, zs1, nI_add, pk_mul, zsb, zad1, zad2, zcl, zgI, zif_le, zif_nle, zif_lt, zif_nlt, zif_eq, zif_ne, zif_self, zif_T, zif_F, Nat.zero_add, Nat.add_sub_cancel, zn21, zn31, zif_m1, zif_m1l, zif_m1n, zif_pm, zb1_k, zb2_k, zb3_k, zb4_k, zb5_k, zb6_k, zb7_k, zb8_k, zb9_k, zb10_k, zb11_k, zb12_k, zb14_k, zb21_k, zb22_k, zupd_eq, zupd_ne, zupl_eq, zupl_ne, zupf_eq, zupf_ne, hc, e1]
    · simp (disch := omega) only [stX11_shortly, fX11_shortly, zl_0, zl_1, zl_2, zl_3, zl_4, zl_5, zl_6, zl_8, zl_9, zl_11, zl_12, zl_13, zl_16, zl_20, zl_23, zl_24, zl_30, zl_32, zl_40, zl_41, zl_43, zl_45, zl_50, zl_52, zl_60, zl_97, zl_99, zl_100, zl_124, zl_126, zl_127, zl_169, zl_170, zl_171, zl_195, zl_200, zl_201, zl_256, zl_261, zl_999, zl_1100, zl_1884, zl_4095, zl_4096, zd1, zd2, zs1, nI_add, pk_mul, zsb, zad1, zad2, zcl, zgI, zif_le, zif_nle, zif_lt, zif_nlt, zif_eq, zif_ne, zif_self, zif_T, zif_F, Nat.zero_add, Nat.add_sub_cancel, zn21, zn31, zif_m1, zif_m1l, zif_m1n, zif_pm, zb1_k, zb2_k, zb3_k, zb4_k, zb5_k, zb6_k, zb7_k, zb8_k, zb9_k, zb10_k, zb11_k, zb12_k, zb14_k, zb21_k, zb22_k, zupd_eq, zupd_ne, zupl_eq, zupl_ne, zupf_eq, zupf_ne, e2]
  have b := zNet_b hv.2.2.1 hi h8
  have vb := zev_b hv i hi
  have bx := fx_bitsE vb (by omega) (by omega)
  have bm := fm_bitsE vb (by omega)
  obtain ⟨pl', pw', pk', ps', arr', g1⟩ := fx_shortOf hv hN hB hi (x_meter_seed xs) (x_meter_plan_length xs) (x_meter_plan_waiting xs) (x_meter_plan_kind xs) (x_meter_plan_sort xs) (x_meter_floats xs)
  obtain ⟨brf', g2, g3⟩ := fm_shortL (fX11_shortly_J83 (nI i)) hv hm hi (i + 1) 0 5000 (m_brief ms) (by omega) (by omega) (fun q hq => by omega)
  have g4 := g3 i (by omega)
  have mE : fX11_shortly (nI i) (m_now ms) (m_brief ms) = some ((zev a i).toInt32.toInt64, brf') := by
    unfold fX11_shortly
    rw [e2, zb1_k, zl_0, zif_ne (by omega) (by omega) (by omega), g2]
    unfold fX11_shortly_J83
    simp (disch := omega) only [zl_0, zl_1, zl_2, zl_3, zl_4, zl_5, zl_6, zl_8, zl_9, zl_11, zl_12, zl_13, zl_16, zl_20, zl_23, zl_24, zl_30, zl_32, zl_40, zl_41, zl_43, zl_45, zl_50, zl_52, zl_60, zl_97, zl_99, zl_100, zl_124, zl_126, zl_127, zl_169, zl_170, zl_171, zl_195, zl_200, zl_201, zl_256, zl_261, zl_999, zl_1100, zl_1884, zl_4095, zl_4096, zd1, zd2, zs1, nI_add, pk_mul, zsb, zad1, zad2, zcl, zgI, zif_le, zif_nle, zif_lt, zif_nlt, zif_eq, zif_ne, zif_self, zif_T, zif_F, Nat.zero_add, Nat.add_sub_cancel, zn21, zn31, zif_m1, zif_m1l, zif_m1n, zif_pm, zb1_k, zb2_k, zb3_k, zb4_k, zb5_k, zb6_k, zb7_k, zb8_k, zb9_k, zb10_k, zb11_k, zb12_k, zb14_k, zb21_k, zb22_k, zupd_eq, zupd_ne, zupl_eq, zupl_ne, zupf_eq, zupf_ne, g4, bm]
  refine zfinM (zev a i).toInt32.toInt64 h0 ?_ ?_
  · simp (disch := omega) only [stX10_shortly, fX10_shortly, zl_0, zl_1, zl_2, zl_3, zl_4, zl_5, zl_6, zl_8, zl_9, zl_11, zl_12, zl_13, zl_16, zl_20, zl_23, zl_24, zl_30, zl_32, zl_40, zl_41, zl_43, zl_45, zl_50, zl_52, zl_60, zl_97, zl_99, zl_100, zl_124, zl_126, zl_127, zl_169, zl_170, zl_171, zl_195, zl_200, zl_201, zl_256, zl_261, zl_999, zl_1100, zl_1884, zl_4095, zl_4096, zd1, zd2, zs1, nI_add, pk_mul, zsb, zad1, zad2, zcl, zgI, zif_le, zif_nle, zif_lt, zif_nlt, zif_eq, zif_ne, zif_self, zif_T, zif_F, Nat.zero_add, Nat.add_sub_cancel, zn21, zn31, zif_m1, zif_m1l, zif_m1n, zif_pm, zb1_k, zb2_k, zb3_k, zb4_k, zb5_k, zb6_k, zb7_k, zb8_k, zb9_k, zb10_k, zb11_k, zb12_k, zb14_k, zb21_k, zb22_k, zupd_eq, zupd_ne, zupl_eq, zupl_ne, zupf_eq, zupf_ne, hc, e1, g1, bx]
    exact ⟨_, rfl⟩
  · simp (disch := omega) only [stX11_shortly, zl_0, zl_1, zl_2, zl_3, zl_4, zl_5, zl_6, zl_8, zl_9, zl_11, zl_12, zl_13, zl_16, zl_20, zl_23, zl_24, zl_30, zl_32, zl_40, zl_41, zl_43, zl_45, zl_50, zl_52, zl_60, zl_97, zl_99, zl_100, zl_124, zl_126, zl_127, zl_169, zl_170, zl_171, zl_195, zl_200, zl_201, zl_256, zl_261, zl_999, zl_1100, zl_1884, zl_4095, zl_4096, zd1, zd2, zs1, nI_add, pk_mul, zsb, zad1, zad2, zcl, zgI, zif_le, zif_nle, zif_lt, zif_nlt, zif_eq, zif_ne, zif_self, zif_T, zif_F, Nat.zero_add, Nat.add_sub_cancel, zn21, zn31, zif_m1, zif_m1l, zif_m1n, zif_pm, zb1_k, zb2_k, zb3_k, zb4_k, zb5_k, zb6_k, zb7_k, zb8_k, zb9_k, zb10_k, zb11_k, zb12_k, zb14_k, zb21_k, zb22_k, zupd_eq, zupd_ne, zupl_eq, zupl_ne, zupf_eq, zupf_ne, mE]
    exact ⟨_, rfl, rfl, rfl, rfl, rfl, rfl⟩
