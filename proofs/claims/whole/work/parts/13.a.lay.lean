/-! lay, shift -/
theorem zTry_up {a : Nat → Nat} {t i q : Nat} (hT : ∀ u, u < 3 → zTry a u) (ht : t < 3) (hi : i < 20) (hq : q ≤ a 8) : ∀ u, u < 3 → zTry (vf_upd a (201 + 20 * t + i) q) u := by
  intro u hu
  obtain ⟨t1, t2, t3, t4⟩ := hT u hu
  unfold zTry
  rw [zupf_ne (by omega), zupf_ne (by omega), zupf_ne (show 8 ≠ 201 + 20 * t + i by omega)]
  refine ⟨t1, t2, t3, fun j hj => ?_⟩
  by_cases e : 201 + 20 * u + j = 201 + 20 * t + i
  · rw [zupf_eq e]; exact hq
  · rw [zupf_ne e]; exact t4 j hj
theorem zXt_up {a : Nat → Nat} {t i q : Nat} {k s v : Int32} {p : Nat → Int32} (ht : t < 3) (hi : i < 20) (hx : zXt a t k s p) (hv : v = nI q - nI 1) : zXt (vf_upd a (201 + 20 * t + i) q) t k s (upd p i v) := by
  refine ⟨by rw [zupf_ne (by omega)]; exact hx.1, fun h0 => ?_⟩
  rw [zupf_ne (by omega)] at h0
  obtain ⟨h1, h2⟩ := hx.2 h0
  refine ⟨by rw [zupf_ne (by omega)]; exact h1, fun j hj => ?_⟩
  by_cases e : j = i
  · rw [zupd_eq e, zupf_eq (by omega)]; exact hv
  · rw [zupd_ne e, zupf_ne (by omega)]; exact h2 j hj
theorem zXt_uo {a : Nat → Nat} {t u i q : Nat} {k s : Int32} {p : Nat → Int32} (ht : t < 3) (hu : u < 3) (hi : i < 20) (hn : u ≠ t) (hx : zXt a u k s p) : zXt (vf_upd a (201 + 20 * t + i) q) u k s p :=
  zXt_fr hu hx (zupf_ne (by omega)) (zupf_ne (by omega)) (fun j hj => zupf_ne (by omega))
theorem fm_sizeOf {now : Nat → Int32} {t : Nat} {v : Int32} (ht : t < 3) (h : now (195 + 2 * t) = v) : fX11_sizeOf (nI t) now = some v := by
  unfold fX11_sizeOf
  simp (disch := omega) only [zl_0, zl_1, zl_2, zl_3, zl_4, zl_5, zl_6, zl_8, zl_9, zl_11, zl_12, zl_13, zl_16, zl_20, zl_23, zl_24, zl_30, zl_32, zl_40, zl_41, zl_43, zl_45, zl_50, zl_52, zl_60, zl_97, zl_99, zl_100, zl_124, zl_126, zl_127, zl_169, zl_170, zl_171, zl_195, zl_200, zl_201, zl_256, zl_261, zl_999, zl_1100, zl_1884, zl_4095, zl_4096, zd1, zd2, zs1, nI_add, pk_mul, zsb, zad1, zad2, zcl, zgI, zif_le, zif_nle, zif_lt, zif_nlt, zif_eq, zif_ne, zif_self, zif_T, zif_F, Nat.zero_add, Nat.add_sub_cancel, zn21, zn31, zif_m1, zif_m1l, zif_m1n, zif_pm, zb1_k, zb2_k, zb3_k, zb4_k, zb5_k, zb6_k, zb7_k, zb8_k, zb9_k, zb10_k, zb11_k, zb12_k, zb14_k, zb21_k, zb22_k, zupd_eq, zupd_ne, zupl_eq, zupl_ne, zupf_eq, zupf_ne, h]
theorem zif_7 {α : Sort _} {d : Decidable (nI 0 ≤ -nI 1)} {x y : α} : @ite α (nI 0 ≤ -nI 1) d x y = y := if_neg znle
theorem zp1 (i : Nat) : nI i + nI 1 = nI (i + 1) := nI_add i 1
theorem zm1p : -nI 1 + nI 1 = nI 0 := by decide

def zTo (xs : XS) (r : Int32) (v0 v1 v2 : Nat → Int32) : Option (Int32 × XS) := some (r, zxT xs (x_trays_e0_kind xs) (x_trays_e0_size xs) v0 (x_trays_e1_kind xs) (x_trays_e1_size xs) v1 (x_trays_e2_kind xs) (x_trays_e2_size xs) v2)
set_option maxHeartbeats 4000000 in
theorem q_lay {Fd : FD → Prop} {k : Nat} : zQ_lay (zR Fd) k := by
  intro xs ms h p1 p2 p3
  have h0 := h
  obtain ⟨a, hv, hx, hm, hr⟩ := h
  obtain ⟨hB, hN, hM, hT0, hT1, hT2⟩ := id hx
  have hT := hv.2.2.2.2
  have h8 := hv.2.1
  have hc : x_nets_count xs = nI (a 8) := hN.1
  have hm8 : m_now ms 8 = nI (a 8) := hm.1 8 (by omega)
  rcases ztray p1 with ⟨e1, e2⟩ | ⟨t, ht, rfl, e1, e2⟩
  · refine zfin0 (-nI 1) h0 ?_ ?_
    · simp (maxSteps := 4000000) (disch := omega) only [stX10_lay, fX10_lay, zl_0, zl_1, zl_2, zl_3, zl_4, zl_5, zl_6, zl_8, zl_9, zl_11, zl_12, zl_13, zl_16, zl_20, zl_23, zl_24, zl_30, zl_32, zl_40, zl_41, zl_43, zl_45, zl_50, zl_52, zl_60, zl_97, zl_99, zl_100, zl_124, zl_126, zl_127, zl_169, zl_170, zl_171, zl_195, zl_200, zl_201, zl_256, zl_261, zl_999, zl_1100, zl_1884, zl_4095, zl_4096, zd1, zd2, zs1, nI_add, pk_mul, zsb, zad1, zad2, zcl, zgI, zif_le, zif_nle, zif_lt, zif_nlt, zif_eq, zif_ne, zif_self, zif_T, zif_F, Nat.zero_add, Nat.add_sub_cancel, zn21, zn31, zif_m1, zif_m1l, zif_m1n, zif_pm, zb1_k, zb2_k, zb3_k, zb4_k, zb5_k, zb6_k, zb7_k, zb8_k, zb9_k, zb10_k, zb11_k, zb12_k, zb14_k, zb21_k, zb22_k, zupd_eq, zupd_ne, zupl_eq, zupl_ne, zupf_eq, zupf_ne, e1]
    · simp (disch := omega) only [stX11_lay, fX11_lay, zl_0, zl_1, zl_2, zl_3, zl_4, zl_5, zl_6, zl_8, zl_9, zl_11, zl_12, zl_13, zl_16, zl_20, zl_23, zl_24, zl_30, zl_32, zl_40, zl_41, zl_43, zl_45, zl_50, zl_52, zl_60, zl_97, zl_99, zl_100, zl_124, zl_126, zl_127, zl_169, zl_170, zl_171, zl_195, zl_200, zl_201, zl_256, zl_261, zl_999, zl_1100, zl_1884, zl_4095, zl_4096, zd1, zd2, zs1, nI_add, pk_mul, zsb, zad1, zad2, zcl, zgI, zif_le, zif_nle, zif_lt, zif_nlt, zif_eq, zif_ne, zif_self, zif_T, zif_F, Nat.zero_add, Nat.add_sub_cancel, zn21, zn31, zif_m1, zif_m1l, zif_m1n, zif_pm, zb1_k, zb2_k, zb3_k, zb4_k, zb5_k, zb6_k, zb7_k, zb8_k, zb9_k, zb10_k, zb11_k, zb12_k, zb14_k, zb21_k, zb22_k, zupd_eq, zupd_ne, zupl_eq, zupl_ne, zupf_eq, zupf_ne, e2]
  -- what is laid, one more than its ID
  have hq : (∃ q, q ≤ a 8 ∧ p3 = nI q - nI 1 ∧ p3 + nI 1 = nI q ∧ (p3 = -nI 1 ∨ (¬ p3 = -nI 1 ∧ fX5_has p3 (nI (a 8)) = some (nI 1) ∧ fX11_isNet p3 (m_now ms) = some (nI 1)))) ∨ (¬ p3 = -nI 1 ∧ fX5_has p3 (nI (a 8)) = some (nI 0) ∧ fX11_isNet p3 (m_now ms) = some (nI 0)) := by
    by_cases z : p3 = -nI 1
    · left
      subst z
      exact ⟨0, Nat.zero_le _, zn01.symm, zm1p, Or.inl rfl⟩
    · rcases znet p3 h8 hm8 with ⟨e4, e5⟩ | ⟨j, hj, rfl, e4, e5⟩
      · exact Or.inr ⟨z, e4, e5⟩
      · exact Or.inl ⟨j + 1, hj, (zs1 j).symm, zp1 j, Or.inr ⟨z, e4, e5⟩⟩
  rcases hq with ⟨q, hq, eq1, eq2, hz⟩ | ⟨z, e4, e5⟩
  rotate_left
  · refine zfin0 (-nI 1) h0 ?_ ?_
    · simp (maxSteps := 4000000) (disch := omega) only [stX10_lay, fX10_lay, zl_0, zl_1, zl_2, zl_3, zl_4, zl_5, zl_6, zl_8, zl_9, zl_11, zl_12, zl_13, zl_16, zl_20, zl_23, zl_24, zl_30, zl_32, zl_40, zl_41, zl_43, zl_45, zl_50, zl_52, zl_60, zl_97, zl_99, zl_100, zl_124, zl_126, zl_127, zl_169, zl_170, zl_171, zl_195, zl_200, zl_201, zl_256, zl_261, zl_999, zl_1100, zl_1884, zl_4095, zl_4096, zd1, zd2, zs1, nI_add, pk_mul, zsb, zad1, zad2, zcl, zgI, zif_le, zif_nle, zif_lt, zif_nlt, zif_eq, zif_ne, zif_self, zif_T, zif_F, Nat.zero_add, Nat.add_sub_cancel, zn21, zn31, zif_m1, zif_m1l, zif_m1n, zif_pm, zb1_k, zb2_k, zb3_k, zb4_k, zb5_k, zb6_k, zb7_k, zb8_k, zb9_k, zb10_k, zb11_k, zb12_k, zb14_k, zb21_k, zb22_k, zupd_eq, zupd_ne, zupl_eq, zupl_ne, zupf_eq, zupf_ne, hc, e1, zfn z, e4]
    · simp (disch := omega) only [stX11_lay, fX11_lay, zl_0, zl_1, zl_2, zl_3, zl_4, zl_5, zl_6, zl_8, zl_9, zl_11, zl_12, zl_13, zl_16, zl_20, zl_23, zl_24, zl_30, zl_32, zl_40, zl_41, zl_43, zl_45, zl_50, zl_52, zl_60, zl_97, zl_99, zl_100, zl_124, zl_126, zl_127, zl_169, zl_170, zl_171, zl_195, zl_200, zl_201, zl_256, zl_261, zl_999, zl_1100, zl_1884, zl_4095, zl_4096, zd1, zd2, zs1, nI_add, pk_mul, zsb, zad1, zad2, zcl, zgI, zif_le, zif_nle, zif_lt, zif_nlt, zif_eq, zif_ne, zif_self, zif_T, zif_F, Nat.zero_add, Nat.add_sub_cancel, zn21, zn31, zif_m1, zif_m1l, zif_m1n, zif_pm, zb1_k, zb2_k, zb3_k, zb4_k, zb5_k, zb6_k, zb7_k, zb8_k, zb9_k, zb10_k, zb11_k, zb12_k, zb14_k, zb21_k, zb22_k, zupd_eq, zupd_ne, zupl_eq, zupl_ne, zupf_eq, zupf_ne, e2, zfn z, e5]
  have hXJ : stX10_lay (nI t) p2 p3 xs = zb4 (fX10_lay_J25 (nI (a 8)) (x_trays_e0_kind xs) (x_trays_e0_size xs) (x_trays_e1_kind xs) (x_trays_e1_size xs) (x_trays_e2_kind xs) (x_trays_e2_size xs) (x_nets_kind xs) (x_trays_e0_places xs) (x_trays_e1_places xs) (x_trays_e2_places xs) (nI t) p2 p3) (zTo xs) := by
    unfold stX10_lay fX10_lay
    rcases hz with z | ⟨z, e4, e5⟩
    · rw [e1, zb1_k, hc, zft (show p3 = (-1 : Int32) from z)]
      rfl
    · rw [e1, zb1_k, hc, e4, zb1_k, zfn (show ¬ p3 = (-1 : Int32) from z)]
      rfl
  have hMJ : stX11_lay (nI t) p2 p3 ms = zb2 (fX11_lay_J22 (m_now ms) (nI t) p2 p3) (fun r v0 => some (r, zmN ms v0)) := by
    unfold stX11_lay fX11_lay
    rcases hz with z | ⟨z, e4, e5⟩
    · rw [e2, zb1_k, zft (show p3 = (-1 : Int32) from z)]
      rfl
    · rw [e2, zb1_k, e5, zb1_k, zfn (show ¬ p3 = (-1 : Int32) from z)]
      rfl
  rw [hXJ, hMJ]
  clear hXJ hMJ
  rcases (show t = 0 ∨ t = 1 ∨ t = 2 by omega) with rfl | rfl | rfl
  · rcases zTfacts (t := 0) (by omega) (hT 0 (by omega)) hT0 hm with ⟨z1, z2, z3, z4⟩ | ⟨kk, sz, z1, z2, z3, z4, z5, z6, z7, z8, z9⟩
    · have g3 := fm_sizeOf (t := 0) (by omega) z4
      refine zfin0 (-nI 11) h0 ?_ ?_
      · simp (maxSteps := 4000000) (disch := omega) only [fX10_lay_J25, fX9_isMissing, zl_0, zl_1, zl_2, zl_3, zl_4, zl_5, zl_6, zl_8, zl_9, zl_11, zl_12, zl_13, zl_16, zl_20, zl_23, zl_24, zl_30, zl_32, zl_40, zl_41, zl_43, zl_45, zl_50, zl_52, zl_60, zl_97, zl_99, zl_100, zl_124, zl_126, zl_127, zl_169, zl_170, zl_171, zl_195, zl_200, zl_201, zl_256, zl_261, zl_999, zl_1100, zl_1884, zl_4095, zl_4096, zd1, zd2, zs1, nI_add, pk_mul, zsb, zad1, zad2, zcl, zgI, zif_le, zif_nle, zif_lt, zif_nlt, zif_eq, zif_ne, zif_self, zif_T, zif_F, Nat.zero_add, Nat.add_sub_cancel, zn21, zn31, zif_m1, zif_m1l, zif_m1n, zif_pm, zb1_k, zb2_k, zb3_k, zb4_k, zb5_k, zb6_k, zb7_k, zb8_k, zb9_k, zb10_k, zb11_k, zb12_k, zb14_k, zb21_k, zb22_k, zupd_eq, zupd_ne, zupl_eq, zupl_ne, zupf_eq, zupf_ne, z3]; try rfl
      · simp (disch := omega) only [fX11_lay_J22, zl_0, zl_1, zl_2, zl_3, zl_4, zl_5, zl_6, zl_8, zl_9, zl_11, zl_12, zl_13, zl_16, zl_20, zl_23, zl_24, zl_30, zl_32, zl_40, zl_41, zl_43, zl_45, zl_50, zl_52, zl_60, zl_97, zl_99, zl_100, zl_124, zl_126, zl_127, zl_169, zl_170, zl_171, zl_195, zl_200, zl_201, zl_256, zl_261, zl_999, zl_1100, zl_1884, zl_4095, zl_4096, zd1, zd2, zs1, nI_add, pk_mul, zsb, zad1, zad2, zcl, zgI, zif_le, zif_nle, zif_lt, zif_nlt, zif_eq, zif_ne, zif_self, zif_T, zif_F, Nat.zero_add, Nat.add_sub_cancel, zn21, zn31, zif_m1, zif_m1l, zif_m1n, zif_pm, zb1_k, zb2_k, zb3_k, zb4_k, zb5_k, zb6_k, zb7_k, zb8_k, zb9_k, zb10_k, zb11_k, zb12_k, zb14_k, zb21_k, zb22_k, zupd_eq, zupd_ne, zupl_eq, zupl_ne, zupf_eq, zupf_ne, g3, zif_7]; try rfl
    · have g3 := fm_sizeOf (t := 0) (by omega) z7
      rcases zplace p2 z3 with ⟨g1, g2⟩ | ⟨i, hi, rfl, g1, g2⟩
      · refine zfin0 (-nI 13) h0 ?_ ?_
        · simp (maxSteps := 4000000) (disch := omega) only [fX10_lay_J25, fX9_isMissing, zl_0, zl_1, zl_2, zl_3, zl_4, zl_5, zl_6, zl_8, zl_9, zl_11, zl_12, zl_13, zl_16, zl_20, zl_23, zl_24, zl_30, zl_32, zl_40, zl_41, zl_43, zl_45, zl_50, zl_52, zl_60, zl_97, zl_99, zl_100, zl_124, zl_126, zl_127, zl_169, zl_170, zl_171, zl_195, zl_200, zl_201, zl_256, zl_261, zl_999, zl_1100, zl_1884, zl_4095, zl_4096, zd1, zd2, zs1, nI_add, pk_mul, zsb, zad1, zad2, zcl, zgI, zif_le, zif_nle, zif_lt, zif_nlt, zif_eq, zif_ne, zif_self, zif_T, zif_F, Nat.zero_add, Nat.add_sub_cancel, zn21, zn31, zif_m1, zif_m1l, zif_m1n, zif_pm, zb1_k, zb2_k, zb3_k, zb4_k, zb5_k, zb6_k, zb7_k, zb8_k, zb9_k, zb10_k, zb11_k, zb12_k, zb14_k, zb21_k, zb22_k, zupd_eq, zupd_ne, zupl_eq, zupl_ne, zupf_eq, zupf_ne, z5, z6, g1]; try rfl
        · simp only [fX11_lay_J22, g3, zb1_k, zl_0, zl_1, g2]
          simp (disch := omega) only [zl_0, zl_1, zl_2, zl_3, zl_4, zl_5, zl_6, zl_8, zl_9, zl_11, zl_12, zl_13, zl_16, zl_20, zl_23, zl_24, zl_30, zl_32, zl_40, zl_41, zl_43, zl_45, zl_50, zl_52, zl_60, zl_97, zl_99, zl_100, zl_124, zl_126, zl_127, zl_169, zl_170, zl_171, zl_195, zl_200, zl_201, zl_256, zl_261, zl_999, zl_1100, zl_1884, zl_4095, zl_4096, zd1, zd2, zs1, nI_add, pk_mul, zsb, zad1, zad2, zcl, zgI, zif_le, zif_nle, zif_lt, zif_nlt, zif_eq, zif_ne, zif_self, zif_T, zif_F, Nat.zero_add, Nat.add_sub_cancel, zn21, zn31, zif_m1, zif_m1l, zif_m1n, zif_pm, zb1_k, zb2_k, zb3_k, zb4_k, zb5_k, zb6_k, zb7_k, zb8_k, zb9_k, zb10_k, zb11_k, zb12_k, zb14_k, zb21_k, zb22_k, zupd_eq, zupd_ne, zupl_eq, zupl_ne, zupf_eq, zupf_ne]; try rfl
      · have f1 := fx_fits (kind := x_nets_kind xs) (kk := kk) (q := q) h8 hv.2.2.1 hN.2.1 z4 hq
        have f2 := fm_fits (now := m_now ms) (t := 0) (kk := kk) (q := q) h8 hv.2.2.1 (by omega) z8 (fun j hj => fm_kindOf hm (by omega)) z4 hq
        rw [← eq1] at f1
        rcases zFit_d a kk q with fit | fit
        · have f1 := f1.1 fit
          have f2 := f2.1 fit
          refine ⟨nI 1, zxT xs (x_trays_e0_kind xs) (x_trays_e0_size xs) (upd (x_trays_e0_places xs) i p3) (x_trays_e1_kind xs) (x_trays_e1_size xs) (x_trays_e1_places xs) (x_trays_e2_kind xs) (x_trays_e2_size xs) (x_trays_e2_places xs), zmN ms (upd (m_now ms) (201 + 20 * 0 + i) (nI q)), ?_, ?_, zRl_tray hv hx hr (zTry_up hT (by omega) (by omega) hq) (fun j hj => zupf_ne (by omega)) (zXt_up (by omega) (by omega) hT0 eq1) (zXt_uo (by omega) (by omega) (by omega) (by omega) hT1) (zXt_uo (by omega) (by omega) (by omega) (by omega) hT2) (zMn_up hm (by omega))⟩
          · refine Eq.trans (b := zTo xs (nI 1) (upd (x_trays_e0_places xs) i p3) (x_trays_e1_places xs) (x_trays_e2_places xs)) ?_ rfl
            simp (maxSteps := 4000000) (disch := omega) only [fX10_lay_J25, fX9_isMissing, zl_0, zl_1, zl_2, zl_3, zl_4, zl_5, zl_6, zl_8, zl_9, zl_11, zl_12, zl_13, zl_16, zl_20, zl_23, zl_24, zl_30, zl_32, zl_40, zl_41, zl_43, zl_45, zl_50, zl_52, zl_60, zl_97, zl_99, zl_100, zl_124, zl_126, zl_127, zl_169, zl_170, zl_171, zl_195, zl_200, zl_201, zl_256, zl_261, zl_999, zl_1100, zl_1884, zl_4095, zl_4096, zd1, zd2, zs1, nI_add, pk_mul, zsb, zad1, zad2, zcl, zgI, zif_le, zif_nle, zif_lt, zif_nlt, zif_eq, zif_ne, zif_self, zif_T, zif_F, Nat.zero_add, Nat.add_sub_cancel, zn21, zn31, zif_m1, zif_m1l, zif_m1n, zif_pm, zb1_k, zb2_k, zb3_k, zb4_k, zb5_k, zb6_k, zb7_k, zb8_k, zb9_k, zb10_k, zb11_k, zb12_k, zb14_k, zb21_k, zb22_k, zupd_eq, zupd_ne, zupl_eq, zupl_ne, zupf_eq, zupf_ne, z5, z6, g1, f1]; try rfl
          · simp (disch := omega) only [fX11_lay_J22, zl_0, zl_1, zl_2, zl_3, zl_4, zl_5, zl_6, zl_8, zl_9, zl_11, zl_12, zl_13, zl_16, zl_20, zl_23, zl_24, zl_30, zl_32, zl_40, zl_41, zl_43, zl_45, zl_50, zl_52, zl_60, zl_97, zl_99, zl_100, zl_124, zl_126, zl_127, zl_169, zl_170, zl_171, zl_195, zl_200, zl_201, zl_256, zl_261, zl_999, zl_1100, zl_1884, zl_4095, zl_4096, zd1, zd2, zs1, nI_add, pk_mul, zsb, zad1, zad2, zcl, zgI, zif_le, zif_nle, zif_lt, zif_nlt, zif_eq, zif_ne, zif_self, zif_T, zif_F, Nat.zero_add, Nat.add_sub_cancel, zn21, zn31, zif_m1, zif_m1l, zif_m1n, zif_pm, zb1_k, zb2_k, zb3_k, zb4_k, zb5_k, zb6_k, zb7_k, zb8_k, zb9_k, zb10_k, zb11_k, zb12_k, zb14_k, zb21_k, zb22_k, zupd_eq, zupd_ne, zupl_eq, zupl_ne, zupf_eq, zupf_ne, g3, g2, eq2, f2]; try rfl
        · have f1 := f1.2 fit
          have f2 := f2.2 fit
          refine zfin0 (-nI 12) h0 ?_ ?_
          · simp (maxSteps := 4000000) (disch := omega) only [fX10_lay_J25, fX9_isMissing, zl_0, zl_1, zl_2, zl_3, zl_4, zl_5, zl_6, zl_8, zl_9, zl_11, zl_12, zl_13, zl_16, zl_20, zl_23, zl_24, zl_30, zl_32, zl_40, zl_41, zl_43, zl_45, zl_50, zl_52, zl_60, zl_97, zl_99, zl_100, zl_124, zl_126, zl_127, zl_169, zl_170, zl_171, zl_195, zl_200, zl_201, zl_256, zl_261, zl_999, zl_1100, zl_1884, zl_4095, zl_4096, zd1, zd2, zs1, nI_add, pk_mul, zsb, zad1, zad2, zcl, zgI, zif_le, zif_nle, zif_lt, zif_nlt, zif_eq, zif_ne, zif_self, zif_T, zif_F, Nat.zero_add, Nat.add_sub_cancel, zn21, zn31, zif_m1, zif_m1l, zif_m1n, zif_pm, zb1_k, zb2_k, zb3_k, zb4_k, zb5_k, zb6_k, zb7_k, zb8_k, zb9_k, zb10_k, zb11_k, zb12_k, zb14_k, zb21_k, zb22_k, zupd_eq, zupd_ne, zupl_eq, zupl_ne, zupf_eq, zupf_ne, z5, z6, g1, f1]; try rfl
          · simp (disch := omega) only [fX11_lay_J22, zl_0, zl_1, zl_2, zl_3, zl_4, zl_5, zl_6, zl_8, zl_9, zl_11, zl_12, zl_13, zl_16, zl_20, zl_23, zl_24, zl_30, zl_32, zl_40, zl_41, zl_43, zl_45, zl_50, zl_52, zl_60, zl_97, zl_99, zl_100, zl_124, zl_126, zl_127, zl_169, zl_170, zl_171, zl_195, zl_200, zl_201, zl_256, zl_261, zl_999, zl_1100, zl_1884, zl_4095, zl_4096, zd1, zd2, zs1, nI_add, pk_mul, zsb, zad1, zad2, zcl, zgI, zif_le, zif_nle, zif_lt, zif_nlt, zif_eq, zif_ne, zif_self, zif_T, zif_F, Nat.zero_add, Nat.add_sub_cancel, zn21, zn31, zif_m1, zif_m1l, zif_m1n, zif_pm, zb1_k, zb2_k, zb3_k, zb4_k, zb5_k, zb6_k, zb7_k, zb8_k, zb9_k, zb10_k, zb11_k, zb12_k, zb14_k, zb21_k, zb22_k, zupd_eq, zupd_ne, zupl_eq, zupl_ne, zupf_eq, zupf_ne, g3, g2, eq2, f2]; try rfl
  · rcases zTfacts (t := 1) (by omega) (hT 1 (by omega)) hT1 hm with ⟨z1, z2, z3, z4⟩ | ⟨kk, sz, z1, z2, z3, z4, z5, z6, z7, z8, z9⟩
    · have g3 := fm_sizeOf (t := 1) (by omega) z4
      refine zfin0 (-nI 11) h0 ?_ ?_
      · simp (maxSteps := 4000000) (disch := omega) only [fX10_lay_J25, fX9_isMissing, zl_0, zl_1, zl_2, zl_3, zl_4, zl_5, zl_6, zl_8, zl_9, zl_11, zl_12, zl_13, zl_16, zl_20, zl_23, zl_24, zl_30, zl_32, zl_40, zl_41, zl_43, zl_45, zl_50, zl_52, zl_60, zl_97, zl_99, zl_100, zl_124, zl_126, zl_127, zl_169, zl_170, zl_171, zl_195, zl_200, zl_201, zl_256, zl_261, zl_999, zl_1100, zl_1884, zl_4095, zl_4096, zd1, zd2, zs1, nI_add, pk_mul, zsb, zad1, zad2, zcl, zgI, zif_le, zif_nle, zif_lt, zif_nlt, zif_eq, zif_ne, zif_self, zif_T, zif_F, Nat.zero_add, Nat.add_sub_cancel, zn21, zn31, zif_m1, zif_m1l, zif_m1n, zif_pm, zb1_k, zb2_k, zb3_k, zb4_k, zb5_k, zb6_k, zb7_k, zb8_k, zb9_k, zb10_k, zb11_k, zb12_k, zb14_k, zb21_k, zb22_k, zupd_eq, zupd_ne, zupl_eq, zupl_ne, zupf_eq, zupf_ne, z3]; try rfl
      · simp (disch := omega) only [fX11_lay_J22, zl_0, zl_1, zl_2, zl_3, zl_4, zl_5, zl_6, zl_8, zl_9, zl_11, zl_12, zl_13, zl_16, zl_20, zl_23, zl_24, zl_30, zl_32, zl_40, zl_41, zl_43, zl_45, zl_50, zl_52, zl_60, zl_97, zl_99, zl_100, zl_124, zl_126, zl_127, zl_169, zl_170, zl_171, zl_195, zl_200, zl_201, zl_256, zl_261, zl_999, zl_1100, zl_1884, zl_4095, zl_4096, zd1, zd2, zs1, nI_add, pk_mul, zsb, zad1, zad2, zcl, zgI, zif_le, zif_nle, zif_lt, zif_nlt, zif_eq, zif_ne, zif_self, zif_T, zif_F, Nat.zero_add, Nat.add_sub_cancel, zn21, zn31, zif_m1, zif_m1l, zif_m1n, zif_pm, zb1_k, zb2_k, zb3_k, zb4_k, zb5_k, zb6_k, zb7_k, zb8_k, zb9_k, zb10_k, zb11_k, zb12_k, zb14_k, zb21_k, zb22_k, zupd_eq, zupd_ne, zupl_eq, zupl_ne, zupf_eq, zupf_ne, g3, zif_7]; try rfl
    · have g3 := fm_sizeOf (t := 1) (by omega) z7
      rcases zplace p2 z3 with ⟨g1, g2⟩ | ⟨i, hi, rfl, g1, g2⟩
      · refine zfin0 (-nI 13) h0 ?_ ?_
        · simp (maxSteps := 4000000) (disch := omega) only [fX10_lay_J25, fX9_isMissing, zl_0, zl_1, zl_2, zl_3, zl_4, zl_5, zl_6, zl_8, zl_9, zl_11, zl_12, zl_13, zl_16, zl_20, zl_23, zl_24, zl_30, zl_32, zl_40, zl_41, zl_43, zl_45, zl_50, zl_52, zl_60, zl_97, zl_99, zl_100, zl_124, zl_126, zl_127, zl_169, zl_170, zl_171, zl_195, zl_200, zl_201, zl_256, zl_261, zl_999, zl_1100, zl_1884, zl_4095, zl_4096, zd1, zd2, zs1, nI_add, pk_mul, zsb, zad1, zad2, zcl, zgI, zif_le, zif_nle, zif_lt, zif_nlt, zif_eq, zif_ne, zif_self, zif_T, zif_F, Nat.zero_add, Nat.add_sub_cancel, zn21, zn31, zif_m1, zif_m1l, zif_m1n, zif_pm, zb1_k, zb2_k, zb3_k, zb4_k, zb5_k, zb6_k, zb7_k, zb8_k, zb9_k, zb10_k, zb11_k, zb12_k, zb14_k, zb21_k, zb22_k, zupd_eq, zupd_ne, zupl_eq, zupl_ne, zupf_eq, zupf_ne, z5, z6, g1]; try rfl
        · simp only [fX11_lay_J22, g3, zb1_k, zl_0, zl_1, g2]
          simp (disch := omega) only [zl_0, zl_1, zl_2, zl_3, zl_4, zl_5, zl_6, zl_8, zl_9, zl_11, zl_12, zl_13, zl_16, zl_20, zl_23, zl_24, zl_30, zl_32, zl_40, zl_41, zl_43, zl_45, zl_50, zl_52, zl_60, zl_97, zl_99, zl_100, zl_124, zl_126, zl_127, zl_169, zl_170, zl_171, zl_195, zl_200, zl_201, zl_256, zl_261, zl_999, zl_1100, zl_1884, zl_4095, zl_4096, zd1, zd2, zs1, nI_add, pk_mul, zsb, zad1, zad2, zcl, zgI, zif_le, zif_nle, zif_lt, zif_nlt, zif_eq, zif_ne, zif_self, zif_T, zif_F, Nat.zero_add, Nat.add_sub_cancel, zn21, zn31, zif_m1, zif_m1l, zif_m1n, zif_pm, zb1_k, zb2_k, zb3_k, zb4_k, zb5_k, zb6_k, zb7_k, zb8_k, zb9_k, zb10_k, zb11_k, zb12_k, zb14_k, zb21_k, zb22_k, zupd_eq, zupd_ne, zupl_eq, zupl_ne, zupf_eq, zupf_ne]; try rfl
      · have f1 := fx_fits (kind := x_nets_kind xs) (kk := kk) (q := q) h8 hv.2.2.1 hN.2.1 z4 hq
        have f2 := fm_fits (now := m_now ms) (t := 1) (kk := kk) (q := q) h8 hv.2.2.1 (by omega) z8 (fun j hj => fm_kindOf hm (by omega)) z4 hq
        rw [← eq1] at f1
        rcases zFit_d a kk q with fit | fit
        · have f1 := f1.1 fit
          have f2 := f2.1 fit
          refine ⟨nI 1, zxT xs (x_trays_e0_kind xs) (x_trays_e0_size xs) (x_trays_e0_places xs) (x_trays_e1_kind xs) (x_trays_e1_size xs) (upd (x_trays_e1_places xs) i p3) (x_trays_e2_kind xs) (x_trays_e2_size xs) (x_trays_e2_places xs), zmN ms (upd (m_now ms) (201 + 20 * 1 + i) (nI q)), ?_, ?_, zRl_tray hv hx hr (zTry_up hT (by omega) (by omega) hq) (fun j hj => zupf_ne (by omega)) (zXt_uo (by omega) (by omega) (by omega) (by omega) hT0) (zXt_up (by omega) (by omega) hT1 eq1) (zXt_uo (by omega) (by omega) (by omega) (by omega) hT2) (zMn_up hm (by omega))⟩
          · refine Eq.trans (b := zTo xs (nI 1) (x_trays_e0_places xs) (upd (x_trays_e1_places xs) i p3) (x_trays_e2_places xs)) ?_ rfl
            simp (maxSteps := 4000000) (disch := omega) only [fX10_lay_J25, fX9_isMissing, zl_0, zl_1, zl_2, zl_3, zl_4, zl_5, zl_6, zl_8, zl_9, zl_11, zl_12, zl_13, zl_16, zl_20, zl_23, zl_24, zl_30, zl_32, zl_40, zl_41, zl_43, zl_45, zl_50, zl_52, zl_60, zl_97, zl_99, zl_100, zl_124, zl_126, zl_127, zl_169, zl_170, zl_171, zl_195, zl_200, zl_201, zl_256, zl_261, zl_999, zl_1100, zl_1884, zl_4095, zl_4096, zd1, zd2, zs1, nI_add, pk_mul, zsb, zad1, zad2, zcl, zgI, zif_le, zif_nle, zif_lt, zif_nlt, zif_eq, zif_ne, zif_self, zif_T, zif_F, Nat.zero_add, Nat.add_sub_cancel, zn21, zn31, zif_m1, zif_m1l, zif_m1n, zif_pm, zb1_k, zb2_k, zb3_k, zb4_k, zb5_k, zb6_k, zb7_k, zb8_k, zb9_k, zb10_k, zb11_k, zb12_k, zb14_k, zb21_k, zb22_k, zupd_eq, zupd_ne, zupl_eq, zupl_ne, zupf_eq, zupf_ne, z5, z6, g1, f1]; try rfl
          · simp (disch := omega) only [fX11_lay_J22, zl_0, zl_1, zl_2, zl_3, zl_4, zl_5, zl_6, zl_8, zl_9, zl_11, zl_12, zl_13, zl_16, zl_20, zl_23, zl_24, zl_30, zl_32, zl_40, zl_41, zl_43, zl_45, zl_50, zl_52, zl_60, zl_97, zl_99, zl_100, zl_124, zl_126, zl_127, zl_169, zl_170, zl_171, zl_195, zl_200, zl_201, zl_256, zl_261, zl_999, zl_1100, zl_1884, zl_4095, zl_4096, zd1, zd2, zs1, nI_add, pk_mul, zsb, zad1, zad2, zcl, zgI, zif_le, zif_nle, zif_lt, zif_nlt, zif_eq, zif_ne, zif_self, zif_T, zif_F, Nat.zero_add, Nat.add_sub_cancel, zn21, zn31, zif_m1, zif_m1l, zif_m1n, zif_pm, zb1_k, zb2_k, zb3_k, zb4_k, zb5_k, zb6_k, zb7_k, zb8_k, zb9_k, zb10_k, zb11_k, zb12_k, zb14_k, zb21_k, zb22_k, zupd_eq, zupd_ne, zupl_eq, zupl_ne, zupf_eq, zupf_ne, g3, g2, eq2, f2]; try rfl
        · have f1 := f1.2 fit
          have f2 := f2.2 fit
          refine zfin0 (-nI 12) h0 ?_ ?_
          · simp (maxSteps := 4000000) (disch := omega) only [fX10_lay_J25, fX9_isMissing, zl_0, zl_1, zl_2, zl_3, zl_4, zl_5, zl_6, zl_8, zl_9, zl_11, zl_12, zl_13, zl_16, zl_20, zl_23, zl_24, zl_30, zl_32, zl_40, zl_41, zl_43, zl_45, zl_50, zl_52, zl_60, zl_97, zl_99, zl_100, zl_124, zl_126, zl_127, zl_169, zl_170, zl_171, zl_195, zl_200, zl_201, zl_256, zl_261, zl_999, zl_1100, zl_1884, zl_4095, zl_4096, zd1, zd2, zs1, nI_add, pk_mul, zsb, zad1, zad2, zcl, zgI, zif_le, zif_nle, zif_lt, zif_nlt, zif_eq, zif_ne, zif_self, zif_T, zif_F, Nat.zero_add, Nat.add_sub_cancel, zn21, zn31, zif_m1, zif_m1l, zif_m1n, zif_pm, zb1_k, zb2_k, zb3_k, zb4_k, zb5_k, zb6_k, zb7_k, zb8_k, zb9_k, zb10_k, zb11_k, zb12_k, zb14_k, zb21_k, zb22_k, zupd_eq, zupd_ne, zupl_eq, zupl_ne, zupf_eq, zupf_ne, z5, z6, g1, f1]; try rfl
          · simp (disch := omega) only [fX11_lay_J22, zl_0, zl_1, zl_2, zl_3, zl_4, zl_5, zl_6, zl_8, zl_9, zl_11, zl_12, zl_13, zl_16, zl_20, zl_23, zl_24, zl_30, zl_32, zl_40, zl_41, zl_43, zl_45, zl_50, zl_52, zl_60, zl_97, zl_99, zl_100, zl_124, zl_126, zl_127, zl_169, zl_170, zl_171, zl_195, zl_200, zl_201, zl_256, zl_261, zl_999, zl_1100, zl_1884, zl_4095, zl_4096, zd1, zd2, zs1, nI_add, pk_mul, zsb, zad1, zad2, zcl, zgI, zif_le, zif_nle, zif_lt, zif_nlt, zif_eq, zif_ne, zif_self, zif_T, zif_F, Nat.zero_add, Nat.add_sub_cancel, zn21, zn31, zif_m1, zif_m1l, zif_m1n, zif_pm, zb1_k, zb2_k, zb3_k, zb4_k, zb5_k, zb6_k, zb7_k, zb8_k, zb9_k, zb10_k, zb11_k, zb12_k, zb14_k, zb21_k, zb22_k, zupd_eq, zupd_ne, zupl_eq, zupl_ne, zupf_eq, zupf_ne, g3, g2, eq2, f2]; try rfl
  · rcases zTfacts (t := 2) (by omega) (hT 2 (by omega)) hT2 hm with ⟨z1, z2, z3, z4⟩ | ⟨kk, sz, z1, z2, z3, z4, z5, z6, z7, z8, z9⟩
    · have g3 := fm_sizeOf (t := 2) (by omega) z4
      refine zfin0 (-nI 11) h0 ?_ ?_
      · simp (maxSteps := 4000000) (disch := omega) only [fX10_lay_J25, fX9_isMissing, zl_0, zl_1, zl_2, zl_3, zl_4, zl_5, zl_6, zl_8, zl_9, zl_11, zl_12, zl_13, zl_16, zl_20, zl_23, zl_24, zl_30, zl_32, zl_40, zl_41, zl_43, zl_45, zl_50, zl_52, zl_60, zl_97, zl_99, zl_100, zl_124, zl_126, zl_127, zl_169, zl_170, zl_171, zl_195, zl_200, zl_201, zl_256, zl_261, zl_999, zl_1100, zl_1884, zl_4095, zl_4096, zd1, zd2, zs1, nI_add, pk_mul, zsb, zad1, zad2, zcl, zgI, zif_le, zif_nle, zif_lt, zif_nlt, zif_eq, zif_ne, zif_self, zif_T, zif_F, Nat.zero_add, Nat.add_sub_cancel, zn21, zn31, zif_m1, zif_m1l, zif_m1n, zif_pm, zb1_k, zb2_k, zb3_k, zb4_k, zb5_k, zb6_k, zb7_k, zb8_k, zb9_k, zb10_k, zb11_k, zb12_k, zb14_k, zb21_k, zb22_k, zupd_eq, zupd_ne, zupl_eq, zupl_ne, zupf_eq, zupf_ne, z3]; try rfl
      · simp (disch := omega) only [fX11_lay_J22, zl_0, zl_1, zl_2, zl_3, zl_4, zl_5, zl_6, zl_8, zl_9, zl_11, zl_12, zl_13, zl_16, zl_20, zl_23, zl_24, zl_30, zl_32, zl_40, zl_41, zl_43, zl_45, zl_50, zl_52, zl_60, zl_97, zl_99, zl_100, zl_124, zl_126, zl_127, zl_169, zl_170, zl_171, zl_195, zl_200, zl_201, zl_256, zl_261, zl_999, zl_1100, zl_1884, zl_4095, zl_4096, zd1, zd2, zs1, nI_add, pk_mul, zsb, zad1, zad2, zcl, zgI, zif_le, zif_nle, zif_lt, zif_nlt, zif_eq, zif_ne, zif_self, zif_T, zif_F, Nat.zero_add, Nat.add_sub_cancel, zn21, zn31, zif_m1, zif_m1l, zif_m1n, zif_pm, zb1_k, zb2_k, zb3_k, zb4_k, zb5_k, zb6_k, zb7_k, zb8_k, zb9_k, zb10_k, zb11_k, zb12_k, zb14_k, zb21_k, zb22_k, zupd_eq, zupd_ne, zupl_eq, zupl_ne, zupf_eq, zupf_ne, g3, zif_7]; try rfl
    · have g3 := fm_sizeOf (t := 2) (by omega) z7
      rcases zplace p2 z3 with ⟨g1, g2⟩ | ⟨i, hi, rfl, g1, g2⟩
      · refine zfin0 (-nI 13) h0 ?_ ?_
        · simp (maxSteps := 4000000) (disch := omega) only [fX10_lay_J25, fX9_isMissing, zl_0, zl_1, zl_2, zl_3, zl_4, zl_5, zl_6, zl_8, zl_9, zl_11, zl_12, zl_13, zl_16, zl_20, zl_23, zl_24, zl_30, zl_32, zl_40, zl_41, zl_43, zl_45, zl_50, zl_52, zl_60, zl_97, zl_99, zl_100, zl_124, zl_126, zl_127, zl_169, zl_170, zl_171, zl_195, zl_200, zl_201, zl_256, zl_261, zl_999, zl_1100, zl_1884, zl_4095, zl_4096, zd1, zd2, zs1, nI_add, pk_mul, zsb, zad1, zad2, zcl, zgI, zif_le, zif_nle, zif_lt, zif_nlt, zif_eq, zif_ne, zif_self, zif_T, zif_F, Nat.zero_add, Nat.add_sub_cancel, zn21, zn31, zif_m1, zif_m1l, zif_m1n, zif_pm, zb1_k, zb2_k, zb3_k, zb4_k, zb5_k, zb6_k, zb7_k, zb8_k, zb9_k, zb10_k, zb11_k, zb12_k, zb14_k, zb21_k, zb22_k, zupd_eq, zupd_ne, zupl_eq, zupl_ne, zupf_eq, zupf_ne, z5, z6, g1]; try rfl
        · simp only [fX11_lay_J22, g3, zb1_k, zl_0, zl_1, g2]
          simp (disch := omega) only [zl_0, zl_1, zl_2, zl_3, zl_4, zl_5, zl_6, zl_8, zl_9, zl_11, zl_12, zl_13, zl_16, zl_20, zl_23, zl_24, zl_30, zl_32, zl_40, zl_41, zl_43, zl_45, zl_50, zl_52, zl_60, zl_97, zl_99, zl_100, zl_124, zl_126, zl_127, zl_169, zl_170, zl_171, zl_195, zl_200, zl_201, zl_256, zl_261, zl_999, zl_1100, zl_1884, zl_4095, zl_4096, zd1, zd2, zs1, nI_add, pk_mul, zsb, zad1, zad2, zcl, zgI, zif_le, zif_nle, zif_lt, zif_nlt, zif_eq, zif_ne, zif_self, zif_T, zif_F, Nat.zero_add, Nat.add_sub_cancel, zn21, zn31, zif_m1, zif_m1l, zif_m1n, zif_pm, zb1_k, zb2_k, zb3_k, zb4_k, zb5_k, zb6_k, zb7_k, zb8_k, zb9_k, zb10_k, zb11_k, zb12_k, zb14_k, zb21_k, zb22_k, zupd_eq, zupd_ne, zupl_eq, zupl_ne, zupf_eq, zupf_ne]; try rfl
      · have f1 := fx_fits (kind := x_nets_kind xs) (kk := kk) (q := q) h8 hv.2.2.1 hN.2.1 z4 hq
        have f2 := fm_fits (now := m_now ms) (t := 2) (kk := kk) (q := q) h8 hv.2.2.1 (by omega) z8 (fun j hj => fm_kindOf hm (by omega)) z4 hq
        rw [← eq1] at f1
        rcases zFit_d a kk q with fit | fit
        · have f1 := f1.1 fit
          have f2 := f2.1 fit
          refine ⟨nI 1, zxT xs (x_trays_e0_kind xs) (x_trays_e0_size xs) (x_trays_e0_places xs) (x_trays_e1_kind xs) (x_trays_e1_size xs) (x_trays_e1_places xs) (x_trays_e2_kind xs) (x_trays_e2_size xs) (upd (x_trays_e2_places xs) i p3), zmN ms (upd (m_now ms) (201 + 20 * 2 + i) (nI q)), ?_, ?_, zRl_tray hv hx hr (zTry_up hT (by omega) (by omega) hq) (fun j hj => zupf_ne (by omega)) (zXt_uo (by omega) (by omega) (by omega) (by omega) hT0) (zXt_uo (by omega) (by omega) (by omega) (by omega) hT1) (zXt_up (by omega) (by omega) hT2 eq1) (zMn_up hm (by omega))⟩
          · refine Eq.trans (b := zTo xs (nI 1) (x_trays_e0_places xs) (x_trays_e1_places xs) (upd (x_trays_e2_places xs) i p3)) ?_ rfl
            simp (maxSteps := 4000000) (disch := omega) only [fX10_lay_J25, fX9_isMissing, zl_0, zl_1, zl_2, zl_3, zl_4, zl_5, zl_6, zl_8, zl_9, zl_11, zl_12, zl_13, zl_16, zl_20, zl_23, zl_24, zl_30, zl_32, zl_40, zl_41, zl_43, zl_45, zl_50, zl_52, zl_60, zl_97, zl_99, zl_100, zl_124, zl_126, zl_127, zl_169, zl_170, zl_171, zl_195, zl_200, zl_201, zl_256, zl_261, zl_999, zl_1100, zl_1884, zl_4095, zl_4096, zd1, zd2, zs1, nI_add, pk_mul, zsb, zad1, zad2, zcl, zgI, zif_le, zif_nle, zif_lt, zif_nlt, zif_eq, zif_ne, zif_self, zif_T, zif_F, Nat.zero_add, Nat.add_sub_cancel, zn21, zn31, zif_m1, zif_m1l, zif_m1n, zif_pm, zb1_k, zb2_k, zb3_k, zb4_k, zb5_k, zb6_k, zb7_k, zb8_k, zb9_k, zb10_k, zb11_k, zb12_k, zb14_k, zb21_k, zb22_k, zupd_eq, zupd_ne, zupl_eq, zupl_ne, zupf_eq, zupf_ne, z5, z6, g1, f1]; try rfl
          · simp (disch := omega) only [fX11_lay_J22, zl_0, zl_1, zl_2, zl_3, zl_4, zl_5, zl_6, zl_8, zl_9, zl_11, zl_12, zl_13, zl_16, zl_20, zl_23, zl_24, zl_30, zl_32, zl_40, zl_41, zl_43, zl_45, zl_50, zl_52, zl_60, zl_97, zl_99, zl_100, zl_124, zl_126, zl_127, zl_169, zl_170, zl_171, zl_195, zl_200, zl_201, zl_256, zl_261, zl_999, zl_1100, zl_1884, zl_4095, zl_4096, zd1, zd2, zs1, nI_add, pk_mul, zsb, zad1, zad2, zcl, zgI, zif_le, zif_nle, zif_lt, zif_nlt, zif_eq, zif_ne, zif_self, zif_T, zif_F, Nat.zero_add, Nat.add_sub_cancel, zn21, zn31, zif_m1, zif_m1l, zif_m1n, zif_pm, zb1_k, zb2_k, zb3_k, zb4_k, zb5_k, zb6_k, zb7_k, zb8_k, zb9_k, zb10_k, zb11_k, zb12_k, zb14_k, zb21_k, zb22_k, zupd_eq, zupd_ne, zupl_eq, zupl_ne, zupf_eq, zupf_ne, g3, g2, eq2, f2]; try rfl
        · have f1 := f1.2 fit
          have f2 := f2.2 fit
          refine zfin0 (-nI 12) h0 ?_ ?_
          · simp (maxSteps := 4000000) (disch := omega) only [fX10_lay_J25, fX9_isMissing, zl_0, zl_1, zl_2, zl_3, zl_4, zl_5, zl_6, zl_8, zl_9, zl_11, zl_12, zl_13, zl_16, zl_20, zl_23, zl_24, zl_30, zl_32, zl_40, zl_41, zl_43, zl_45, zl_50, zl_52, zl_60, zl_97, zl_99, zl_100, zl_124, zl_126, zl_127, zl_169, zl_170, zl_171, zl_195, zl_200, zl_201, zl_256, zl_261, zl_999, zl_1100, zl_1884, zl_4095, zl_4096, zd1, zd2, zs1, nI_add, pk_mul, zsb, zad1, zad2, zcl, zgI, zif_le, zif_nle, zif_lt, zif_nlt, zif_eq, zif_ne, zif_self, zif_T, zif_F, Nat.zero_add, Nat.add_sub_cancel, zn21, zn31, zif_m1, zif_m1l, zif_m1n, zif_pm, zb1_k, zb2_k, zb3_k, zb4_k, zb5_k, zb6_k, zb7_k, zb8_k, zb9_k, zb10_k, zb11_k, zb12_k, zb14_k, zb21_k, zb22_k, zupd_eq, zupd_ne, zupl_eq, zupl_ne, zupf_eq, zupf_ne, z5, z6, g1, f1]; try rfl
          · simp (disch := omega) only [fX11_lay_J22, zl_0, zl_1, zl_2, zl_3, zl_4, zl_5, zl_6, zl_8, zl_9, zl_11, zl_12, zl_13, zl_16, zl_20, zl_23, zl_24, zl_30, zl_32, zl_40, zl_41, zl_43, zl_45, zl_50, zl_52, zl_60, zl_97, zl_99, zl_100, zl_124, zl_126, zl_127, zl_169, zl_170, zl_171, zl_195, zl_200, zl_201, zl_256, zl_261, zl_999, zl_1100, zl_1884, zl_4095, zl_4096, zd1, zd2, zs1, nI_add, pk_mul, zsb, zad1, zad2, zcl, zgI, zif_le, zif_nle, zif_lt, zif_nlt, zif_eq, zif_ne, zif_self, zif_T, zif_F, Nat.zero_add, Nat.add_sub_cancel, zn21, zn31, zif_m1, zif_m1l, zif_m1n, zif_pm, zb1_k, zb2_k, zb3_k, zb4_k, zb5_k, zb6_k, zb7_k, zb8_k, zb9_k, zb10_k, zb11_k, zb12_k, zb14_k, zb21_k, zb22_k, zupd_eq, zupd_ne, zupl_eq, zupl_ne, zupf_eq, zupf_ne, g3, g2, eq2, f2]; try rfl
/-- a stretch of n laid from src on at dst on -/
def zSh (a : Nat → Nat) (src dst n : Nat) : Nat → Nat := fun x => if dst ≤ x ∧ x < dst + n then a (src + (x - dst)) else a x
theorem zSh_0 (a : Nat → Nat) (src dst : Nat) : zSh a src dst 0 = a := by
  funext x
  unfold zSh
  rw [if_neg (by omega)]
theorem zSh_s (a : Nat → Nat) (src dst n : Nat) : zSh a src dst (n + 1) = vf_upd (zSh a src dst n) (dst + n) (a (src + n)) := by
  funext x
  show (if dst ≤ x ∧ x < dst + (n + 1) then a (src + (x - dst)) else a x) = (if x = dst + n then a (src + n) else if dst ≤ x ∧ x < dst + n then a (src + (x - dst)) else a x)
  by_cases e : x = dst + n
  · rw [if_pos (by omega), if_pos e, e, show src + (dst + n - dst) = src + n by omega]
  · rw [if_neg e]
    by_cases q : dst ≤ x ∧ x < dst + n
    · rw [if_pos (by omega), if_pos q]
    · rw [if_neg (by omega), if_neg q]
theorem zSh_o {a : Nat → Nat} {src dst n x : Nat} (h : x < dst ∨ dst + n ≤ x) : zSh a src dst n x = a x := if_neg (by omega)
theorem zSh_T {a : Nat → Nat} {t t2 i j n : Nat} (hT : ∀ u, u < 3 → zTry a u) (ht : t < 3) (ht2 : t2 < 3) (hi : i + n ≤ 20) (hj : j + n ≤ 20) : ∀ u, u < 3 → zTry (zSh a (201 + 20 * t + i) (201 + 20 * t2 + j) n) u := by
  intro u hu
  obtain ⟨t1, t2', t3, t4⟩ := hT u hu
  unfold zTry
  rw [zSh_o (by omega), zSh_o (by omega), zSh_o (x := 8) (by omega)]
  refine ⟨t1, t2', t3, fun x hx => ?_⟩
  unfold zSh
  split
  · next h =>
    have := (hT t ht).2.2.2 (i + (201 + 20 * u + x - (201 + 20 * t2 + j))) (by omega)
    rw [show 201 + 20 * t + (i + (201 + 20 * u + x - (201 + 20 * t2 + j))) = 201 + 20 * t + i + (201 + 20 * u + x - (201 + 20 * t2 + j)) by omega] at this
    exact this
  · exact t4 x hx
theorem zcpyS {f g : Nat → Int32} {s n j : Nat} (h : j < n) : va_cpy f g s 0 n j = f (s + j) := by
  unfold va_cpy
  rw [if_pos ⟨Nat.zero_le _, by omega⟩, Nat.sub_zero]
theorem fm_carry {now : Nat → Int32} {t i n : Nat} {k : (Nat → Int32) → Option (Int32 × (Nat → Int32) × (Nat → Int32))} (ht : t < 3) (hi : i + n ≤ 20) : ∀ (d j fu : Nat) (c : Nat → Int32), j + d = n → d < fu → (∀ x, x < j → c x = now (201 + 20 * t + i + x)) → ∃ c', fX11_shift_L88 k now (nI t) (nI i) (nI n) fu (nI j) c = k c' ∧ ∀ x, x < n → c' x = now (201 + 20 * t + i + x) := by
  intro d
  induction d with
  | zero =>
    intro j fu c hj hfu hc
    obtain ⟨fu, rfl⟩ : ∃ f, fu = f + 1 := ⟨fu - 1, by omega⟩
    refine ⟨c, ?_, fun x hx => hc x (by omega)⟩
    rw [fX11_shift_L88_s]
    simp (disch := omega) only [zl_0, zl_1, zl_2, zl_3, zl_4, zl_5, zl_6, zl_8, zl_9, zl_11, zl_12, zl_13, zl_16, zl_20, zl_23, zl_24, zl_30, zl_32, zl_40, zl_41, zl_43, zl_45, zl_50, zl_52, zl_60, zl_97, zl_99, zl_100, zl_124, zl_126, zl_127, zl_169, zl_170, zl_171, zl_195, zl_200, zl_201, zl_256, zl_261, zl_999, zl_1100, zl_1884, zl_4095, zl_4096, zd1, zd2, zs1, nI_add, pk_mul, zsb, zad1, zad2, zcl, zgI, zif_le, zif_nle, zif_lt, zif_nlt, zif_eq, zif_ne, zif_self, zif_T, zif_F, Nat.zero_add, Nat.add_sub_cancel, zn21, zn31, zif_m1, zif_m1l, zif_m1n, zif_pm, zb1_k, zb2_k, zb3_k, zb4_k, zb5_k, zb6_k, zb7_k, zb8_k, zb9_k, zb10_k, zb11_k, zb12_k, zb14_k, zb21_k, zb22_k, zupd_eq, zupd_ne, zupl_eq, zupl_ne, zupf_eq, zupf_ne]
  | succ d ih =>
    intro j fu c hj hfu hc
    obtain ⟨fu, rfl⟩ : ∃ f, fu = f + 1 := ⟨fu - 1, by omega⟩
    obtain ⟨c', h1, h2⟩ := ih (j + 1) fu (upd c j (now (201 + 20 * t + i + j))) (by omega) (by omega) (fun x hx => by
      by_cases e : x = j
      · rw [zupd_eq e, e]
      · rw [zupd_ne e]; exact hc x (by omega))
    refine ⟨c', ?_, h2⟩
    rw [← h1, fX11_shift_L88_s]
    simp (disch := omega) only [zl_0, zl_1, zl_2, zl_3, zl_4, zl_5, zl_6, zl_8, zl_9, zl_11, zl_12, zl_13, zl_16, zl_20, zl_23, zl_24, zl_30, zl_32, zl_40, zl_41, zl_43, zl_45, zl_50, zl_52, zl_60, zl_97, zl_99, zl_100, zl_124, zl_126, zl_127, zl_169, zl_170, zl_171, zl_195, zl_200, zl_201, zl_256, zl_261, zl_999, zl_1100, zl_1884, zl_4095, zl_4096, zd1, zd2, zs1, nI_add, pk_mul, zsb, zad1, zad2, zcl, zgI, zif_le, zif_nle, zif_lt, zif_nlt, zif_eq, zif_ne, zif_self, zif_T, zif_F, Nat.zero_add, Nat.add_sub_cancel, zn21, zn31, zif_m1, zif_m1l, zif_m1n, zif_pm, zb1_k, zb2_k, zb3_k, zb4_k, zb5_k, zb6_k, zb7_k, zb8_k, zb9_k, zb10_k, zb11_k, zb12_k, zb14_k, zb21_k, zb22_k, zupd_eq, zupd_ne, zupl_eq, zupl_ne, zupf_eq, zupf_ne]
theorem zstr (p n : Int32) {sz : Nat} (hs : sz ≤ 20) : (fX9_hasStretch p n (nI sz) = some (nI 0) ∧ (n < nI 0 ∨ p < nI 0 ∨ (nI sz).toInt64 < p.toInt64 + n.toInt64)) ∨ ∃ i m, i + m ≤ sz ∧ p = nI i ∧ n = nI m ∧ fX9_hasStretch (nI i) (nI m) (nI sz) = some (nI 1) ∧ ¬ (nI sz).toInt64 < (nI i).toInt64 + (nI m).toInt64 := by
  by_cases z1 : p < nI 0
  · left
    refine ⟨?_, Or.inr (Or.inl z1)⟩
    unfold fX9_hasStretch
    rw [zl_0, if_pos z1]
  · by_cases z2 : n < nI 0
    · left
      refine ⟨?_, Or.inl z2⟩
      unfold fX9_hasStretch
      rw [zl_0, if_neg z1, if_pos z2]
    · obtain ⟨i, hi, rfl⟩ := nI_of z1
      obtain ⟨m, hm, rfl⟩ := nI_of z2
      have e1 : ((nI i).toInt64 + (nI m).toInt64).toInt = (i : Int) + m := by rw [lg_i2l_add, nI_toInt hi, nI_toInt hm]
      have e2 : (nI sz).toInt64.toInt = (sz : Int) := by rw [Int32.toInt_toInt64, nI_toInt (by omega)]
      have e3 : (nI sz - nI m).toInt = (sz : Int) - m := by
        rw [Int32.toInt_sub, nI_toInt (by omega), nI_toInt hm]
        exact Int.bmod_eq_of_le (by omega) (by omega)
      by_cases h : i + m ≤ sz
      · right
        refine ⟨i, m, h, rfl, rfl, ?_, ?_⟩
        · unfold fX9_hasStretch
          rw [zl_0, if_neg z1, if_neg z2, if_neg (by rw [Int32.lt_iff_toInt_lt, e3, nI_toInt hi]; omega), if_neg (show ¬ (20 : Int32) < nI sz by rw [Int32.lt_iff_toInt_lt, nI_toInt (by omega), show (20 : Int32).toInt = 20 from by decide]; omega)]
          rfl
        · rw [Int64.lt_iff_toInt_lt, e1, e2]; omega
      · left
        refine ⟨?_, Or.inr (Or.inr ?_)⟩
        · unfold fX9_hasStretch
          rw [zl_0, if_neg z1, if_neg z2, if_pos (by rw [Int32.lt_iff_toInt_lt, e3, nI_toInt hi]; omega)]
        · rw [Int64.lt_iff_toInt_lt, e1, e2]; omega

set_option maxHeartbeats 1000000 in
theorem sh_00 {a : Nat → Nat} {kind moved F CR : Nat → Int32} {i0 j0 n kt : Nat} {k0 s0 k1 s1 k2 s2 : Int32} (hv : zV a) (hk : ∀ i, i < a 8 → kind i = nI (aK a i)) (hkt : a (195 + 2 * 0 + 1) = kt + 1) (hkt2 : kt ≤ 2) (hi : i0 + n ≤ 20) (hj : j0 + n ≤ 20) (hF : ∀ x, x < n → F (i0 + x) = nI (a (201 + 20 * 0 + i0 + x)) - nI 1) (hC : ∀ x, x < n → CR x = nI (a (201 + 20 * 0 + i0 + x))) : ∀ (d j fu fu' : Nat) (P0 P1 P2 now : Nat → Int32), j + d = n → d < fu → d < fu' → zXt (zSh a (201 + 20 * 0 + i0) (201 + 20 * 0 + j0) j) 0 k0 s0 P0 → zXt (zSh a (201 + 20 * 0 + i0) (201 + 20 * 0 + j0) j) 1 k1 s1 P1 → zXt (zSh a (201 + 20 * 0 + i0) (201 + 20 * 0 + j0) j) 2 k2 s2 P2 → zMn (zSh a (201 + 20 * 0 + i0) (201 + 20 * 0 + j0) j) now → ∃ r j' Q0 Q1 Q2 now', j' ≤ n ∧ fX10_shift_L96 (nI kt) moved F (nI (a 8)) kind (nI i0) (nI j0) (nI n) fu (nI j) P0 P1 P2 = some (r, va_cpy F moved i0 0 n, Q0, Q1, Q2) ∧ fX11_shift_L129 (nI 0) (nI j0) (nI n) CR fu' (nI j) now = some (r, now', CR) ∧ zXt (zSh a (201 + 20 * 0 + i0) (201 + 20 * 0 + j0) j') 0 k0 s0 Q0 ∧ zXt (zSh a (201 + 20 * 0 + i0) (201 + 20 * 0 + j0) j') 1 k1 s1 Q1 ∧ zXt (zSh a (201 + 20 * 0 + i0) (201 + 20 * 0 + j0) j') 2 k2 s2 Q2 ∧ zMn (zSh a (201 + 20 * 0 + i0) (201 + 20 * 0 + j0) j') now' := by
  have h8 := hv.2.1
  intro d
  induction d with
  | zero =>
    intro j fu fu' P0 P1 P2 now hd hfu hfu' h0 h1 h2 hm
    obtain ⟨fu, rfl⟩ : ∃ f, fu = f + 1 := ⟨fu - 1, by omega⟩
    obtain ⟨fu', rfl⟩ : ∃ f, fu' = f + 1 := ⟨fu' - 1, by omega⟩
    refine ⟨nI n, j, P0, P1, P2, now, by omega, ?_, ?_, h0, h1, h2, hm⟩
    · rw [fX10_shift_L96_s]
      simp (disch := omega) only [zl_0, zl_1, zl_2, zl_3, zl_4, zl_5, zl_6, zl_8, zl_9, zl_11, zl_12, zl_13, zl_16, zl_20, zl_23, zl_24, zl_30, zl_32, zl_40, zl_41, zl_43, zl_45, zl_50, zl_52, zl_60, zl_97, zl_99, zl_100, zl_124, zl_126, zl_127, zl_169, zl_170, zl_171, zl_195, zl_200, zl_201, zl_256, zl_261, zl_999, zl_1100, zl_1884, zl_4095, zl_4096, zd1, zd2, zs1, nI_add, pk_mul, zsb, zad1, zad2, zcl, zgI, zif_le, zif_nle, zif_lt, zif_nlt, zif_eq, zif_ne, zif_self, zif_T, zif_F, Nat.zero_add, Nat.add_sub_cancel, zn21, zn31, zif_m1, zif_m1l, zif_m1n, zif_pm, zb1_k, zb2_k, zb3_k, zb4_k, zb5_k, zb6_k, zb7_k, zb8_k, zb9_k, zb10_k, zb11_k, zb12_k, zb14_k, zb21_k, zb22_k, zupd_eq, zupd_ne, zupl_eq, zupl_ne, zupf_eq, zupf_ne]
    · rw [fX11_shift_L129_s]
      simp (disch := omega) only [zl_0, zl_1, zl_2, zl_3, zl_4, zl_5, zl_6, zl_8, zl_9, zl_11, zl_12, zl_13, zl_16, zl_20, zl_23, zl_24, zl_30, zl_32, zl_40, zl_41, zl_43, zl_45, zl_50, zl_52, zl_60, zl_97, zl_99, zl_100, zl_124, zl_126, zl_127, zl_169, zl_170, zl_171, zl_195, zl_200, zl_201, zl_256, zl_261, zl_999, zl_1100, zl_1884, zl_4095, zl_4096, zd1, zd2, zs1, nI_add, pk_mul, zsb, zad1, zad2, zcl, zgI, zif_le, zif_nle, zif_lt, zif_nlt, zif_eq, zif_ne, zif_self, zif_T, zif_F, Nat.zero_add, Nat.add_sub_cancel, zn21, zn31, zif_m1, zif_m1l, zif_m1n, zif_pm, zb1_k, zb2_k, zb3_k, zb4_k, zb5_k, zb6_k, zb7_k, zb8_k, zb9_k, zb10_k, zb11_k, zb12_k, zb14_k, zb21_k, zb22_k, zupd_eq, zupd_ne, zupl_eq, zupl_ne, zupf_eq, zupf_ne]
  | succ d ih =>
    intro j fu fu' P0 P1 P2 now hd hfu hfu' h0 h1 h2 hm
    obtain ⟨fu, rfl⟩ : ∃ f, fu = f + 1 := ⟨fu - 1, by omega⟩
    obtain ⟨fu', rfl⟩ : ∃ f, fu' = f + 1 := ⟨fu' - 1, by omega⟩
    have hq : a (201 + 20 * 0 + i0 + j) ≤ a 8 := by
      have := (hv.2.2.2.2 0 (by omega)).2.2.2 (i0 + j) (by omega)
      rw [← Nat.add_assoc] at this
      exact this
    have hkn : now (195 + 2 * 0 + 1) = nI kt := by
      have := hm.2.1 (2 * 0 + 1) (by omega) (Or.inr (by rw [show 195 + (2 * 0 + 1) = 195 + 2 * 0 + 1 by omega, zSh_o (by omega), hkt]; omega))
      rw [show 195 + (2 * 0 + 1) = 195 + 2 * 0 + 1 by omega, zSh_o (by omega), hkt, zs1] at this
      exact this
    have hkd : ∀ x, x < a 8 → fX11_kindOf (nI x) now = some (nI (aK a x)) := fun x hx => by
      rw [fm_kindOf hm (by omega), show aK (zSh a (201 + 20 * 0 + i0) (201 + 20 * 0 + j0) j) x = aK a x from zSh_o (by omega)]
    have f1 := fx_fits (kind := kind) (kk := kt) (q := a (201 + 20 * 0 + i0 + j)) h8 hv.2.2.1 hk hkt2 hq
    have f2 := fm_fits (now := now) (t := 0) (kk := kt) (q := a (201 + 20 * 0 + i0 + j)) h8 hv.2.2.1 (by omega) hkn hkd hkt2 hq
    rw [← hF j (by omega)] at f1
    rw [← hC j (by omega)] at f2
    rcases zFit_d a kt (a (201 + 20 * 0 + i0 + j)) with fit | fit
    · have f1 := f1.1 fit
      have f2 := f2.1 fit
      have hm2 : zMn (zSh a (201 + 20 * 0 + i0) (201 + 20 * 0 + j0) (j + 1)) (upd now (201 + 20 * 0 + j0 + j) (CR j)) := by
        rw [zSh_s, hC j (by omega)]
        exact zMn_up hm (by omega)
      obtain ⟨r, j', Q0, Q1, Q2, now', g0, g1, g2, g3, g4, g5, g6⟩ := ih (j + 1) fu fu' (upd P0 (j0 + j) (F (i0 + j))) P1 P2 (upd now (201 + 20 * 0 + j0 + j) (CR j)) (by omega) (by omega) (by omega) (by rw [zSh_s, show 201 + 20 * 0 + j0 + j = 201 + 20 * 0 + (j0 + j) by omega]; exact zXt_up (by omega) (by omega) h0 (hF j (by omega))) (by rw [zSh_s, show 201 + 20 * 0 + j0 + j = 201 + 20 * 0 + (j0 + j) by omega]; exact zXt_uo (by omega) (by omega) (by omega) (by omega) h1) (by rw [zSh_s, show 201 + 20 * 0 + j0 + j = 201 + 20 * 0 + (j0 + j) by omega]; exact zXt_uo (by omega) (by omega) (by omega) (by omega) h2) hm2
      refine ⟨r, j', Q0, Q1, Q2, now', g0, ?_, ?_, g3, g4, g5, g6⟩
      · rw [fX10_shift_L96_s]
        simp (disch := omega) only [zl_0, zl_1, zl_2, zl_3, zl_4, zl_5, zl_6, zl_8, zl_9, zl_11, zl_12, zl_13, zl_16, zl_20, zl_23, zl_24, zl_30, zl_32, zl_40, zl_41, zl_43, zl_45, zl_50, zl_52, zl_60, zl_97, zl_99, zl_100, zl_124, zl_126, zl_127, zl_169, zl_170, zl_171, zl_195, zl_200, zl_201, zl_256, zl_261, zl_999, zl_1100, zl_1884, zl_4095, zl_4096, zd1, zd2, zs1, nI_add, pk_mul, zsb, zad1, zad2, zcl, zgI, zif_le, zif_nle, zif_lt, zif_nlt, zif_eq, zif_ne, zif_self, zif_T, zif_F, Nat.zero_add, Nat.add_sub_cancel, zn21, zn31, zif_m1, zif_m1l, zif_m1n, zif_pm, zb1_k, zb2_k, zb3_k, zb4_k, zb5_k, zb6_k, zb7_k, zb8_k, zb9_k, zb10_k, zb11_k, zb12_k, zb14_k, zb21_k, zb22_k, zupd_eq, zupd_ne, zupl_eq, zupl_ne, zupf_eq, zupf_ne, zcpyS, f1, g1]
      · rw [fX11_shift_L129_s]
        simp (disch := omega) only [zl_0, zl_1, zl_2, zl_3, zl_4, zl_5, zl_6, zl_8, zl_9, zl_11, zl_12, zl_13, zl_16, zl_20, zl_23, zl_24, zl_30, zl_32, zl_40, zl_41, zl_43, zl_45, zl_50, zl_52, zl_60, zl_97, zl_99, zl_100, zl_124, zl_126, zl_127, zl_169, zl_170, zl_171, zl_195, zl_200, zl_201, zl_256, zl_261, zl_999, zl_1100, zl_1884, zl_4095, zl_4096, zd1, zd2, zs1, nI_add, pk_mul, zsb, zad1, zad2, zcl, zgI, zif_le, zif_nle, zif_lt, zif_nlt, zif_eq, zif_ne, zif_self, zif_T, zif_F, Nat.zero_add, Nat.add_sub_cancel, zn21, zn31, zif_m1, zif_m1l, zif_m1n, zif_pm, zb1_k, zb2_k, zb3_k, zb4_k, zb5_k, zb6_k, zb7_k, zb8_k, zb9_k, zb10_k, zb11_k, zb12_k, zb14_k, zb21_k, zb22_k, zupd_eq, zupd_ne, zupl_eq, zupl_ne, zupf_eq, zupf_ne, f2, g2]
    · have f1 := f1.2 fit
      have f2 := f2.2 fit
      refine ⟨-nI 12, j, P0, P1, P2, now, by omega, ?_, ?_, h0, h1, h2, hm⟩
      · rw [fX10_shift_L96_s]
        simp (disch := omega) only [zl_0, zl_1, zl_2, zl_3, zl_4, zl_5, zl_6, zl_8, zl_9, zl_11, zl_12, zl_13, zl_16, zl_20, zl_23, zl_24, zl_30, zl_32, zl_40, zl_41, zl_43, zl_45, zl_50, zl_52, zl_60, zl_97, zl_99, zl_100, zl_124, zl_126, zl_127, zl_169, zl_170, zl_171, zl_195, zl_200, zl_201, zl_256, zl_261, zl_999, zl_1100, zl_1884, zl_4095, zl_4096, zd1, zd2, zs1, nI_add, pk_mul, zsb, zad1, zad2, zcl, zgI, zif_le, zif_nle, zif_lt, zif_nlt, zif_eq, zif_ne, zif_self, zif_T, zif_F, Nat.zero_add, Nat.add_sub_cancel, zn21, zn31, zif_m1, zif_m1l, zif_m1n, zif_pm, zb1_k, zb2_k, zb3_k, zb4_k, zb5_k, zb6_k, zb7_k, zb8_k, zb9_k, zb10_k, zb11_k, zb12_k, zb14_k, zb21_k, zb22_k, zupd_eq, zupd_ne, zupl_eq, zupl_ne, zupf_eq, zupf_ne, zcpyS, f1]
      · rw [fX11_shift_L129_s]
        simp (disch := omega) only [zl_0, zl_1, zl_2, zl_3, zl_4, zl_5, zl_6, zl_8, zl_9, zl_11, zl_12, zl_13, zl_16, zl_20, zl_23, zl_24, zl_30, zl_32, zl_40, zl_41, zl_43, zl_45, zl_50, zl_52, zl_60, zl_97, zl_99, zl_100, zl_124, zl_126, zl_127, zl_169, zl_170, zl_171, zl_195, zl_200, zl_201, zl_256, zl_261, zl_999, zl_1100, zl_1884, zl_4095, zl_4096, zd1, zd2, zs1, nI_add, pk_mul, zsb, zad1, zad2, zcl, zgI, zif_le, zif_nle, zif_lt, zif_nlt, zif_eq, zif_ne, zif_self, zif_T, zif_F, Nat.zero_add, Nat.add_sub_cancel, zn21, zn31, zif_m1, zif_m1l, zif_m1n, zif_pm, zb1_k, zb2_k, zb3_k, zb4_k, zb5_k, zb6_k, zb7_k, zb8_k, zb9_k, zb10_k, zb11_k, zb12_k, zb14_k, zb21_k, zb22_k, zupd_eq, zupd_ne, zupl_eq, zupl_ne, zupf_eq, zupf_ne, f2]
set_option maxHeartbeats 1000000 in
theorem sh_01 {a : Nat → Nat} {kind moved F CR : Nat → Int32} {i0 j0 n kt : Nat} {k0 s0 k1 s1 k2 s2 : Int32} (hv : zV a) (hk : ∀ i, i < a 8 → kind i = nI (aK a i)) (hkt : a (195 + 2 * 1 + 1) = kt + 1) (hkt2 : kt ≤ 2) (hi : i0 + n ≤ 20) (hj : j0 + n ≤ 20) (hF : ∀ x, x < n → F (i0 + x) = nI (a (201 + 20 * 0 + i0 + x)) - nI 1) (hC : ∀ x, x < n → CR x = nI (a (201 + 20 * 0 + i0 + x))) : ∀ (d j fu fu' : Nat) (P0 P1 P2 now : Nat → Int32), j + d = n → d < fu → d < fu' → zXt (zSh a (201 + 20 * 0 + i0) (201 + 20 * 1 + j0) j) 0 k0 s0 P0 → zXt (zSh a (201 + 20 * 0 + i0) (201 + 20 * 1 + j0) j) 1 k1 s1 P1 → zXt (zSh a (201 + 20 * 0 + i0) (201 + 20 * 1 + j0) j) 2 k2 s2 P2 → zMn (zSh a (201 + 20 * 0 + i0) (201 + 20 * 1 + j0) j) now → ∃ r j' Q0 Q1 Q2 now', j' ≤ n ∧ fX10_shift_L96x (nI kt) moved F (nI (a 8)) kind (nI i0) (nI j0) (nI n) fu (nI j) P0 P1 P2 = some (r, va_cpy F moved i0 0 n, Q0, Q1, Q2) ∧ fX11_shift_L129 (nI 1) (nI j0) (nI n) CR fu' (nI j) now = some (r, now', CR) ∧ zXt (zSh a (201 + 20 * 0 + i0) (201 + 20 * 1 + j0) j') 0 k0 s0 Q0 ∧ zXt (zSh a (201 + 20 * 0 + i0) (201 + 20 * 1 + j0) j') 1 k1 s1 Q1 ∧ zXt (zSh a (201 + 20 * 0 + i0) (201 + 20 * 1 + j0) j') 2 k2 s2 Q2 ∧ zMn (zSh a (201 + 20 * 0 + i0) (201 + 20 * 1 + j0) j') now' := by
  have h8 := hv.2.1
  intro d
  induction d with
  | zero =>
    intro j fu fu' P0 P1 P2 now hd hfu hfu' h0 h1 h2 hm
    obtain ⟨fu, rfl⟩ : ∃ f, fu = f + 1 := ⟨fu - 1, by omega⟩
    obtain ⟨fu', rfl⟩ : ∃ f, fu' = f + 1 := ⟨fu' - 1, by omega⟩
    refine ⟨nI n, j, P0, P1, P2, now, by omega, ?_, ?_, h0, h1, h2, hm⟩
    · rw [fX10_shift_L96x_s]
      simp (disch := omega) only [zl_0, zl_1, zl_2, zl_3, zl_4, zl_5, zl_6, zl_8, zl_9, zl_11, zl_12, zl_13, zl_16, zl_20, zl_23, zl_24, zl_30, zl_32, zl_40, zl_41, zl_43, zl_45, zl_50, zl_52, zl_60, zl_97, zl_99, zl_100, zl_124, zl_126, zl_127, zl_169, zl_170, zl_171, zl_195, zl_200, zl_201, zl_256, zl_261, zl_999, zl_1100, zl_1884, zl_4095, zl_4096, zd1, zd2, zs1, nI_add, pk_mul, zsb, zad1, zad2, zcl, zgI, zif_le, zif_nle, zif_lt, zif_nlt, zif_eq, zif_ne, zif_self, zif_T, zif_F, Nat.zero_add, Nat.add_sub_cancel, zn21, zn31, zif_m1, zif_m1l, zif_m1n, zif_pm, zb1_k, zb2_k, zb3_k, zb4_k, zb5_k, zb6_k, zb7_k, zb8_k, zb9_k, zb10_k, zb11_k, zb12_k, zb14_k, zb21_k, zb22_k, zupd_eq, zupd_ne, zupl_eq, zupl_ne, zupf_eq, zupf_ne]
    · rw [fX11_shift_L129_s]
      simp (disch := omega) only [zl_0, zl_1, zl_2, zl_3, zl_4, zl_5, zl_6, zl_8, zl_9, zl_11, zl_12, zl_13, zl_16, zl_20, zl_23, zl_24, zl_30, zl_32, zl_40, zl_41, zl_43, zl_45, zl_50, zl_52, zl_60, zl_97, zl_99, zl_100, zl_124, zl_126, zl_127, zl_169, zl_170, zl_171, zl_195, zl_200, zl_201, zl_256, zl_261, zl_999, zl_1100, zl_1884, zl_4095, zl_4096, zd1, zd2, zs1, nI_add, pk_mul, zsb, zad1, zad2, zcl, zgI, zif_le, zif_nle, zif_lt, zif_nlt, zif_eq, zif_ne, zif_self, zif_T, zif_F, Nat.zero_add, Nat.add_sub_cancel, zn21, zn31, zif_m1, zif_m1l, zif_m1n, zif_pm, zb1_k, zb2_k, zb3_k, zb4_k, zb5_k, zb6_k, zb7_k, zb8_k, zb9_k, zb10_k, zb11_k, zb12_k, zb14_k, zb21_k, zb22_k, zupd_eq, zupd_ne, zupl_eq, zupl_ne, zupf_eq, zupf_ne]
  | succ d ih =>
    intro j fu fu' P0 P1 P2 now hd hfu hfu' h0 h1 h2 hm
    obtain ⟨fu, rfl⟩ : ∃ f, fu = f + 1 := ⟨fu - 1, by omega⟩
    obtain ⟨fu', rfl⟩ : ∃ f, fu' = f + 1 := ⟨fu' - 1, by omega⟩
    have hq : a (201 + 20 * 0 + i0 + j) ≤ a 8 := by
      have := (hv.2.2.2.2 0 (by omega)).2.2.2 (i0 + j) (by omega)
      rw [← Nat.add_assoc] at this
      exact this
    have hkn : now (195 + 2 * 1 + 1) = nI kt := by
      have := hm.2.1 (2 * 1 + 1) (by omega) (Or.inr (by rw [show 195 + (2 * 1 + 1) = 195 + 2 * 1 + 1 by omega, zSh_o (by omega), hkt]; omega))
      rw [show 195 + (2 * 1 + 1) = 195 + 2 * 1 + 1 by omega, zSh_o (by omega), hkt, zs1] at this
      exact this
    have hkd : ∀ x, x < a 8 → fX11_kindOf (nI x) now = some (nI (aK a x)) := fun x hx => by
      rw [fm_kindOf hm (by omega), show aK (zSh a (201 + 20 * 0 + i0) (201 + 20 * 1 + j0) j) x = aK a x from zSh_o (by omega)]
    have f1 := fx_fits (kind := kind) (kk := kt) (q := a (201 + 20 * 0 + i0 + j)) h8 hv.2.2.1 hk hkt2 hq
    have f2 := fm_fits (now := now) (t := 1) (kk := kt) (q := a (201 + 20 * 0 + i0 + j)) h8 hv.2.2.1 (by omega) hkn hkd hkt2 hq
    rw [← hF j (by omega)] at f1
    rw [← hC j (by omega)] at f2
    rcases zFit_d a kt (a (201 + 20 * 0 + i0 + j)) with fit | fit
    · have f1 := f1.1 fit
      have f2 := f2.1 fit
      have hm2 : zMn (zSh a (201 + 20 * 0 + i0) (201 + 20 * 1 + j0) (j + 1)) (upd now (201 + 20 * 1 + j0 + j) (CR j)) := by
        rw [zSh_s, hC j (by omega)]
        exact zMn_up hm (by omega)
      obtain ⟨r, j', Q0, Q1, Q2, now', g0, g1, g2, g3, g4, g5, g6⟩ := ih (j + 1) fu fu' P0 (upd P1 (j0 + j) (F (i0 + j))) P2 (upd now (201 + 20 * 1 + j0 + j) (CR j)) (by omega) (by omega) (by omega) (by rw [zSh_s, show 201 + 20 * 1 + j0 + j = 201 + 20 * 1 + (j0 + j) by omega]; exact zXt_uo (by omega) (by omega) (by omega) (by omega) h0) (by rw [zSh_s, show 201 + 20 * 1 + j0 + j = 201 + 20 * 1 + (j0 + j) by omega]; exact zXt_up (by omega) (by omega) h1 (hF j (by omega))) (by rw [zSh_s, show 201 + 20 * 1 + j0 + j = 201 + 20 * 1 + (j0 + j) by omega]; exact zXt_uo (by omega) (by omega) (by omega) (by omega) h2) hm2
      refine ⟨r, j', Q0, Q1, Q2, now', g0, ?_, ?_, g3, g4, g5, g6⟩
      · rw [fX10_shift_L96x_s]
        simp (disch := omega) only [zl_0, zl_1, zl_2, zl_3, zl_4, zl_5, zl_6, zl_8, zl_9, zl_11, zl_12, zl_13, zl_16, zl_20, zl_23, zl_24, zl_30, zl_32, zl_40, zl_41, zl_43, zl_45, zl_50, zl_52, zl_60, zl_97, zl_99, zl_100, zl_124, zl_126, zl_127, zl_169, zl_170, zl_171, zl_195, zl_200, zl_201, zl_256, zl_261, zl_999, zl_1100, zl_1884, zl_4095, zl_4096, zd1, zd2, zs1, nI_add, pk_mul, zsb, zad1, zad2, zcl, zgI, zif_le, zif_nle, zif_lt, zif_nlt, zif_eq, zif_ne, zif_self, zif_T, zif_F, Nat.zero_add, Nat.add_sub_cancel, zn21, zn31, zif_m1, zif_m1l, zif_m1n, zif_pm, zb1_k, zb2_k, zb3_k, zb4_k, zb5_k, zb6_k, zb7_k, zb8_k, zb9_k, zb10_k, zb11_k, zb12_k, zb14_k, zb21_k, zb22_k, zupd_eq, zupd_ne, zupl_eq, zupl_ne, zupf_eq, zupf_ne, zcpyS, f1, g1]
      · rw [fX11_shift_L129_s]
        simp (disch := omega) only [zl_0, zl_1, zl_2, zl_3, zl_4, zl_5, zl_6, zl_8, zl_9, zl_11, zl_12, zl_13, zl_16, zl_20, zl_23, zl_24, zl_30, zl_32, zl_40, zl_41, zl_43, zl_45, zl_50, zl_52, zl_60, zl_97, zl_99, zl_100, zl_124, zl_126, zl_127, zl_169, zl_170, zl_171, zl_195, zl_200, zl_201, zl_256, zl_261, zl_999, zl_1100, zl_1884, zl_4095, zl_4096, zd1, zd2, zs1, nI_add, pk_mul, zsb, zad1, zad2, zcl, zgI, zif_le, zif_nle, zif_lt, zif_nlt, zif_eq, zif_ne, zif_self, zif_T, zif_F, Nat.zero_add, Nat.add_sub_cancel, zn21, zn31, zif_m1, zif_m1l, zif_m1n, zif_pm, zb1_k, zb2_k, zb3_k, zb4_k, zb5_k, zb6_k, zb7_k, zb8_k, zb9_k, zb10_k, zb11_k, zb12_k, zb14_k, zb21_k, zb22_k, zupd_eq, zupd_ne, zupl_eq, zupl_ne, zupf_eq, zupf_ne, f2, g2]
    · have f1 := f1.2 fit
      have f2 := f2.2 fit
      refine ⟨-nI 12, j, P0, P1, P2, now, by omega, ?_, ?_, h0, h1, h2, hm⟩
      · rw [fX10_shift_L96x_s]
        simp (disch := omega) only [zl_0, zl_1, zl_2, zl_3, zl_4, zl_5, zl_6, zl_8, zl_9, zl_11, zl_12, zl_13, zl_16, zl_20, zl_23, zl_24, zl_30, zl_32, zl_40, zl_41, zl_43, zl_45, zl_50, zl_52, zl_60, zl_97, zl_99, zl_100, zl_124, zl_126, zl_127, zl_169, zl_170, zl_171, zl_195, zl_200, zl_201, zl_256, zl_261, zl_999, zl_1100, zl_1884, zl_4095, zl_4096, zd1, zd2, zs1, nI_add, pk_mul, zsb, zad1, zad2, zcl, zgI, zif_le, zif_nle, zif_lt, zif_nlt, zif_eq, zif_ne, zif_self, zif_T, zif_F, Nat.zero_add, Nat.add_sub_cancel, zn21, zn31, zif_m1, zif_m1l, zif_m1n, zif_pm, zb1_k, zb2_k, zb3_k, zb4_k, zb5_k, zb6_k, zb7_k, zb8_k, zb9_k, zb10_k, zb11_k, zb12_k, zb14_k, zb21_k, zb22_k, zupd_eq, zupd_ne, zupl_eq, zupl_ne, zupf_eq, zupf_ne, zcpyS, f1]
      · rw [fX11_shift_L129_s]
        simp (disch := omega) only [zl_0, zl_1, zl_2, zl_3, zl_4, zl_5, zl_6, zl_8, zl_9, zl_11, zl_12, zl_13, zl_16, zl_20, zl_23, zl_24, zl_30, zl_32, zl_40, zl_41, zl_43, zl_45, zl_50, zl_52, zl_60, zl_97, zl_99, zl_100, zl_124, zl_126, zl_127, zl_169, zl_170, zl_171, zl_195, zl_200, zl_201, zl_256, zl_261, zl_999, zl_1100, zl_1884, zl_4095, zl_4096, zd1, zd2, zs1, nI_add, pk_mul, zsb, zad1, zad2, zcl, zgI, zif_le, zif_nle, zif_lt, zif_nlt, zif_eq, zif_ne, zif_self, zif_T, zif_F, Nat.zero_add, Nat.add_sub_cancel, zn21, zn31, zif_m1, zif_m1l, zif_m1n, zif_pm, zb1_k, zb2_k, zb3_k, zb4_k, zb5_k, zb6_k, zb7_k, zb8_k, zb9_k, zb10_k, zb11_k, zb12_k, zb14_k, zb21_k, zb22_k, zupd_eq, zupd_ne, zupl_eq, zupl_ne, zupf_eq, zupf_ne, f2]
set_option maxHeartbeats 1000000 in
theorem sh_02 {a : Nat → Nat} {kind moved F CR : Nat → Int32} {i0 j0 n kt : Nat} {k0 s0 k1 s1 k2 s2 : Int32} (hv : zV a) (hk : ∀ i, i < a 8 → kind i = nI (aK a i)) (hkt : a (195 + 2 * 2 + 1) = kt + 1) (hkt2 : kt ≤ 2) (hi : i0 + n ≤ 20) (hj : j0 + n ≤ 20) (hF : ∀ x, x < n → F (i0 + x) = nI (a (201 + 20 * 0 + i0 + x)) - nI 1) (hC : ∀ x, x < n → CR x = nI (a (201 + 20 * 0 + i0 + x))) : ∀ (d j fu fu' : Nat) (P0 P1 P2 now : Nat → Int32), j + d = n → d < fu → d < fu' → zXt (zSh a (201 + 20 * 0 + i0) (201 + 20 * 2 + j0) j) 0 k0 s0 P0 → zXt (zSh a (201 + 20 * 0 + i0) (201 + 20 * 2 + j0) j) 1 k1 s1 P1 → zXt (zSh a (201 + 20 * 0 + i0) (201 + 20 * 2 + j0) j) 2 k2 s2 P2 → zMn (zSh a (201 + 20 * 0 + i0) (201 + 20 * 2 + j0) j) now → ∃ r j' Q0 Q1 Q2 now', j' ≤ n ∧ fX10_shift_L96xx (nI kt) moved F (nI (a 8)) kind (nI i0) (nI j0) (nI n) fu (nI j) P0 P1 P2 = some (r, va_cpy F moved i0 0 n, Q0, Q1, Q2) ∧ fX11_shift_L129 (nI 2) (nI j0) (nI n) CR fu' (nI j) now = some (r, now', CR) ∧ zXt (zSh a (201 + 20 * 0 + i0) (201 + 20 * 2 + j0) j') 0 k0 s0 Q0 ∧ zXt (zSh a (201 + 20 * 0 + i0) (201 + 20 * 2 + j0) j') 1 k1 s1 Q1 ∧ zXt (zSh a (201 + 20 * 0 + i0) (201 + 20 * 2 + j0) j') 2 k2 s2 Q2 ∧ zMn (zSh a (201 + 20 * 0 + i0) (201 + 20 * 2 + j0) j') now' := by
  have h8 := hv.2.1
  intro d
  induction d with
  | zero =>
    intro j fu fu' P0 P1 P2 now hd hfu hfu' h0 h1 h2 hm
    obtain ⟨fu, rfl⟩ : ∃ f, fu = f + 1 := ⟨fu - 1, by omega⟩
    obtain ⟨fu', rfl⟩ : ∃ f, fu' = f + 1 := ⟨fu' - 1, by omega⟩
    refine ⟨nI n, j, P0, P1, P2, now, by omega, ?_, ?_, h0, h1, h2, hm⟩
    · rw [fX10_shift_L96xx_s]
      simp (disch := omega) only [zl_0, zl_1, zl_2, zl_3, zl_4, zl_5, zl_6, zl_8, zl_9, zl_11, zl_12, zl_13, zl_16, zl_20, zl_23, zl_24, zl_30, zl_32, zl_40, zl_41, zl_43, zl_45, zl_50, zl_52, zl_60, zl_97, zl_99, zl_100, zl_124, zl_126, zl_127, zl_169, zl_170, zl_171, zl_195, zl_200, zl_201, zl_256, zl_261, zl_999, zl_1100, zl_1884, zl_4095, zl_4096, zd1, zd2, zs1, nI_add, pk_mul, zsb, zad1, zad2, zcl, zgI, zif_le, zif_nle, zif_lt, zif_nlt, zif_eq, zif_ne, zif_self, zif_T, zif_F, Nat.zero_add, Nat.add_sub_cancel, zn21, zn31, zif_m1, zif_m1l, zif_m1n, zif_pm, zb1_k, zb2_k, zb3_k, zb4_k, zb5_k, zb6_k, zb7_k, zb8_k, zb9_k, zb10_k, zb11_k, zb12_k, zb14_k, zb21_k, zb22_k, zupd_eq, zupd_ne, zupl_eq, zupl_ne, zupf_eq, zupf_ne]
    · rw [fX11_shift_L129_s]
      simp (disch := omega) only [zl_0, zl_1, zl_2, zl_3, zl_4, zl_5, zl_6, zl_8, zl_9, zl_11, zl_12, zl_13, zl_16, zl_20, zl_23, zl_24, zl_30, zl_32, zl_40, zl_41, zl_43, zl_45, zl_50, zl_52, zl_60, zl_97, zl_99, zl_100, zl_124, zl_126, zl_127, zl_169, zl_170, zl_171, zl_195, zl_200, zl_201, zl_256, zl_261, zl_999, zl_1100, zl_1884, zl_4095, zl_4096, zd1, zd2, zs1, nI_add, pk_mul, zsb, zad1, zad2, zcl, zgI, zif_le, zif_nle, zif_lt, zif_nlt, zif_eq, zif_ne, zif_self, zif_T, zif_F, Nat.zero_add, Nat.add_sub_cancel, zn21, zn31, zif_m1, zif_m1l, zif_m1n, zif_pm, zb1_k, zb2_k, zb3_k, zb4_k, zb5_k, zb6_k, zb7_k, zb8_k, zb9_k, zb10_k, zb11_k, zb12_k, zb14_k, zb21_k, zb22_k, zupd_eq, zupd_ne, zupl_eq, zupl_ne, zupf_eq, zupf_ne]
  | succ d ih =>
    intro j fu fu' P0 P1 P2 now hd hfu hfu' h0 h1 h2 hm
    obtain ⟨fu, rfl⟩ : ∃ f, fu = f + 1 := ⟨fu - 1, by omega⟩
    obtain ⟨fu', rfl⟩ : ∃ f, fu' = f + 1 := ⟨fu' - 1, by omega⟩
    have hq : a (201 + 20 * 0 + i0 + j) ≤ a 8 := by
      have := (hv.2.2.2.2 0 (by omega)).2.2.2 (i0 + j) (by omega)
      rw [← Nat.add_assoc] at this
      exact this
    have hkn : now (195 + 2 * 2 + 1) = nI kt := by
      have := hm.2.1 (2 * 2 + 1) (by omega) (Or.inr (by rw [show 195 + (2 * 2 + 1) = 195 + 2 * 2 + 1 by omega, zSh_o (by omega), hkt]; omega))
      rw [show 195 + (2 * 2 + 1) = 195 + 2 * 2 + 1 by omega, zSh_o (by omega), hkt, zs1] at this
      exact this
    have hkd : ∀ x, x < a 8 → fX11_kindOf (nI x) now = some (nI (aK a x)) := fun x hx => by
      rw [fm_kindOf hm (by omega), show aK (zSh a (201 + 20 * 0 + i0) (201 + 20 * 2 + j0) j) x = aK a x from zSh_o (by omega)]
    have f1 := fx_fits (kind := kind) (kk := kt) (q := a (201 + 20 * 0 + i0 + j)) h8 hv.2.2.1 hk hkt2 hq
    have f2 := fm_fits (now := now) (t := 2) (kk := kt) (q := a (201 + 20 * 0 + i0 + j)) h8 hv.2.2.1 (by omega) hkn hkd hkt2 hq
    rw [← hF j (by omega)] at f1
    rw [← hC j (by omega)] at f2
    rcases zFit_d a kt (a (201 + 20 * 0 + i0 + j)) with fit | fit
    · have f1 := f1.1 fit
      have f2 := f2.1 fit
      have hm2 : zMn (zSh a (201 + 20 * 0 + i0) (201 + 20 * 2 + j0) (j + 1)) (upd now (201 + 20 * 2 + j0 + j) (CR j)) := by
        rw [zSh_s, hC j (by omega)]
        exact zMn_up hm (by omega)
      obtain ⟨r, j', Q0, Q1, Q2, now', g0, g1, g2, g3, g4, g5, g6⟩ := ih (j + 1) fu fu' P0 P1 (upd P2 (j0 + j) (F (i0 + j))) (upd now (201 + 20 * 2 + j0 + j) (CR j)) (by omega) (by omega) (by omega) (by rw [zSh_s, show 201 + 20 * 2 + j0 + j = 201 + 20 * 2 + (j0 + j) by omega]; exact zXt_uo (by omega) (by omega) (by omega) (by omega) h0) (by rw [zSh_s, show 201 + 20 * 2 + j0 + j = 201 + 20 * 2 + (j0 + j) by omega]; exact zXt_uo (by omega) (by omega) (by omega) (by omega) h1) (by rw [zSh_s, show 201 + 20 * 2 + j0 + j = 201 + 20 * 2 + (j0 + j) by omega]; exact zXt_up (by omega) (by omega) h2 (hF j (by omega))) hm2
      refine ⟨r, j', Q0, Q1, Q2, now', g0, ?_, ?_, g3, g4, g5, g6⟩
      · rw [fX10_shift_L96xx_s]
        simp (disch := omega) only [zl_0, zl_1, zl_2, zl_3, zl_4, zl_5, zl_6, zl_8, zl_9, zl_11, zl_12, zl_13, zl_16, zl_20, zl_23, zl_24, zl_30, zl_32, zl_40, zl_41, zl_43, zl_45, zl_50, zl_52, zl_60, zl_97, zl_99, zl_100, zl_124, zl_126, zl_127, zl_169, zl_170, zl_171, zl_195, zl_200, zl_201, zl_256, zl_261, zl_999, zl_1100, zl_1884, zl_4095, zl_4096, zd1, zd2, zs1, nI_add, pk_mul, zsb, zad1, zad2, zcl, zgI, zif_le, zif_nle, zif_lt, zif_nlt, zif_eq, zif_ne, zif_self, zif_T, zif_F, Nat.zero_add, Nat.add_sub_cancel, zn21, zn31, zif_m1, zif_m1l, zif_m1n, zif_pm, zb1_k, zb2_k, zb3_k, zb4_k, zb5_k, zb6_k, zb7_k, zb8_k, zb9_k, zb10_k, zb11_k, zb12_k, zb14_k, zb21_k, zb22_k, zupd_eq, zupd_ne, zupl_eq, zupl_ne, zupf_eq, zupf_ne, zcpyS, f1, g1]
      · rw [fX11_shift_L129_s]
        simp (disch := omega) only [zl_0, zl_1, zl_2, zl_3, zl_4, zl_5, zl_6, zl_8, zl_9, zl_11, zl_12, zl_13, zl_16, zl_20, zl_23, zl_24, zl_30, zl_32, zl_40, zl_41, zl_43, zl_45, zl_50, zl_52, zl_60, zl_97, zl_99, zl_100, zl_124, zl_126, zl_127, zl_169, zl_170, zl_171, zl_195, zl_200, zl_201, zl_256, zl_261, zl_999, zl_1100, zl_1884, zl_4095, zl_4096, zd1, zd2, zs1, nI_add, pk_mul, zsb, zad1, zad2, zcl, zgI, zif_le, zif_nle, zif_lt, zif_nlt, zif_eq, zif_ne, zif_self, zif_T, zif_F, Nat.zero_add, Nat.add_sub_cancel, zn21, zn31, zif_m1, zif_m1l, zif_m1n, zif_pm, zb1_k, zb2_k, zb3_k, zb4_k, zb5_k, zb6_k, zb7_k, zb8_k, zb9_k, zb10_k, zb11_k, zb12_k, zb14_k, zb21_k, zb22_k, zupd_eq, zupd_ne, zupl_eq, zupl_ne, zupf_eq, zupf_ne, f2, g2]
    · have f1 := f1.2 fit
      have f2 := f2.2 fit
      refine ⟨-nI 12, j, P0, P1, P2, now, by omega, ?_, ?_, h0, h1, h2, hm⟩
      · rw [fX10_shift_L96xx_s]
        simp (disch := omega) only [zl_0, zl_1, zl_2, zl_3, zl_4, zl_5, zl_6, zl_8, zl_9, zl_11, zl_12, zl_13, zl_16, zl_20, zl_23, zl_24, zl_30, zl_32, zl_40, zl_41, zl_43, zl_45, zl_50, zl_52, zl_60, zl_97, zl_99, zl_100, zl_124, zl_126, zl_127, zl_169, zl_170, zl_171, zl_195, zl_200, zl_201, zl_256, zl_261, zl_999, zl_1100, zl_1884, zl_4095, zl_4096, zd1, zd2, zs1, nI_add, pk_mul, zsb, zad1, zad2, zcl, zgI, zif_le, zif_nle, zif_lt, zif_nlt, zif_eq, zif_ne, zif_self, zif_T, zif_F, Nat.zero_add, Nat.add_sub_cancel, zn21, zn31, zif_m1, zif_m1l, zif_m1n, zif_pm, zb1_k, zb2_k, zb3_k, zb4_k, zb5_k, zb6_k, zb7_k, zb8_k, zb9_k, zb10_k, zb11_k, zb12_k, zb14_k, zb21_k, zb22_k, zupd_eq, zupd_ne, zupl_eq, zupl_ne, zupf_eq, zupf_ne, zcpyS, f1]
      · rw [fX11_shift_L129_s]
        simp (disch := omega) only [zl_0, zl_1, zl_2, zl_3, zl_4, zl_5, zl_6, zl_8, zl_9, zl_11, zl_12, zl_13, zl_16, zl_20, zl_23, zl_24, zl_30, zl_32, zl_40, zl_41, zl_43, zl_45, zl_50, zl_52, zl_60, zl_97, zl_99, zl_100, zl_124, zl_126, zl_127, zl_169, zl_170, zl_171, zl_195, zl_200, zl_201, zl_256, zl_261, zl_999, zl_1100, zl_1884, zl_4095, zl_4096, zd1, zd2, zs1, nI_add, pk_mul, zsb, zad1, zad2, zcl, zgI, zif_le, zif_nle, zif_lt, zif_nlt, zif_eq, zif_ne, zif_self, zif_T, zif_F, Nat.zero_add, Nat.add_sub_cancel, zn21, zn31, zif_m1, zif_m1l, zif_m1n, zif_pm, zb1_k, zb2_k, zb3_k, zb4_k, zb5_k, zb6_k, zb7_k, zb8_k, zb9_k, zb10_k, zb11_k, zb12_k, zb14_k, zb21_k, zb22_k, zupd_eq, zupd_ne, zupl_eq, zupl_ne, zupf_eq, zupf_ne, f2]
set_option maxHeartbeats 1000000 in
theorem sh_10 {a : Nat → Nat} {kind moved F CR : Nat → Int32} {i0 j0 n kt : Nat} {k0 s0 k1 s1 k2 s2 : Int32} (hv : zV a) (hk : ∀ i, i < a 8 → kind i = nI (aK a i)) (hkt : a (195 + 2 * 0 + 1) = kt + 1) (hkt2 : kt ≤ 2) (hi : i0 + n ≤ 20) (hj : j0 + n ≤ 20) (hF : ∀ x, x < n → F (i0 + x) = nI (a (201 + 20 * 1 + i0 + x)) - nI 1) (hC : ∀ x, x < n → CR x = nI (a (201 + 20 * 1 + i0 + x))) : ∀ (d j fu fu' : Nat) (P0 P1 P2 now : Nat → Int32), j + d = n → d < fu → d < fu' → zXt (zSh a (201 + 20 * 1 + i0) (201 + 20 * 0 + j0) j) 0 k0 s0 P0 → zXt (zSh a (201 + 20 * 1 + i0) (201 + 20 * 0 + j0) j) 1 k1 s1 P1 → zXt (zSh a (201 + 20 * 1 + i0) (201 + 20 * 0 + j0) j) 2 k2 s2 P2 → zMn (zSh a (201 + 20 * 1 + i0) (201 + 20 * 0 + j0) j) now → ∃ r j' Q0 Q1 Q2 now', j' ≤ n ∧ fX10_shift_L96xxx (nI kt) moved F (nI (a 8)) kind (nI i0) (nI j0) (nI n) fu (nI j) P0 P1 P2 = some (r, va_cpy F moved i0 0 n, Q0, Q1, Q2) ∧ fX11_shift_L129 (nI 0) (nI j0) (nI n) CR fu' (nI j) now = some (r, now', CR) ∧ zXt (zSh a (201 + 20 * 1 + i0) (201 + 20 * 0 + j0) j') 0 k0 s0 Q0 ∧ zXt (zSh a (201 + 20 * 1 + i0) (201 + 20 * 0 + j0) j') 1 k1 s1 Q1 ∧ zXt (zSh a (201 + 20 * 1 + i0) (201 + 20 * 0 + j0) j') 2 k2 s2 Q2 ∧ zMn (zSh a (201 + 20 * 1 + i0) (201 + 20 * 0 + j0) j') now' := by
  have h8 := hv.2.1
  intro d
  induction d with
  | zero =>
    intro j fu fu' P0 P1 P2 now hd hfu hfu' h0 h1 h2 hm
    obtain ⟨fu, rfl⟩ : ∃ f, fu = f + 1 := ⟨fu - 1, by omega⟩
    obtain ⟨fu', rfl⟩ : ∃ f, fu' = f + 1 := ⟨fu' - 1, by omega⟩
    refine ⟨nI n, j, P0, P1, P2, now, by omega, ?_, ?_, h0, h1, h2, hm⟩
    · rw [fX10_shift_L96xxx_s]
      simp (disch := omega) only [zl_0, zl_1, zl_2, zl_3, zl_4, zl_5, zl_6, zl_8, zl_9, zl_11, zl_12, zl_13, zl_16, zl_20, zl_23, zl_24, zl_30, zl_32, zl_40, zl_41, zl_43, zl_45, zl_50, zl_52, zl_60, zl_97, zl_99, zl_100, zl_124, zl_126, zl_127, zl_169, zl_170, zl_171, zl_195, zl_200, zl_201, zl_256, zl_261, zl_999, zl_1100, zl_1884, zl_4095, zl_4096, zd1, zd2, zs1, nI_add, pk_mul, zsb, zad1, zad2, zcl, zgI, zif_le, zif_nle, zif_lt, zif_nlt, zif_eq, zif_ne, zif_self, zif_T, zif_F, Nat.zero_add, Nat.add_sub_cancel, zn21, zn31, zif_m1, zif_m1l, zif_m1n, zif_pm, zb1_k, zb2_k, zb3_k, zb4_k, zb5_k, zb6_k, zb7_k, zb8_k, zb9_k, zb10_k, zb11_k, zb12_k, zb14_k, zb21_k, zb22_k, zupd_eq, zupd_ne, zupl_eq, zupl_ne, zupf_eq, zupf_ne]
    · rw [fX11_shift_L129_s]
      simp (disch := omega) only [zl_0, zl_1, zl_2, zl_3, zl_4, zl_5, zl_6, zl_8, zl_9, zl_11, zl_12, zl_13, zl_16, zl_20, zl_23, zl_24, zl_30, zl_32, zl_40, zl_41, zl_43, zl_45, zl_50, zl_52, zl_60, zl_97, zl_99, zl_100, zl_124, zl_126, zl_127, zl_169, zl_170, zl_171, zl_195, zl_200, zl_201, zl_256, zl_261, zl_999, zl_1100, zl_1884, zl_4095, zl_4096, zd1, zd2, zs1, nI_add, pk_mul, zsb, zad1, zad2, zcl, zgI, zif_le, zif_nle, zif_lt, zif_nlt, zif_eq, zif_ne, zif_self, zif_T, zif_F, Nat.zero_add, Nat.add_sub_cancel, zn21, zn31, zif_m1, zif_m1l, zif_m1n, zif_pm, zb1_k, zb2_k, zb3_k, zb4_k, zb5_k, zb6_k, zb7_k, zb8_k, zb9_k, zb10_k, zb11_k, zb12_k, zb14_k, zb21_k, zb22_k, zupd_eq, zupd_ne, zupl_eq, zupl_ne, zupf_eq, zupf_ne]
  | succ d ih =>
    intro j fu fu' P0 P1 P2 now hd hfu hfu' h0 h1 h2 hm
    obtain ⟨fu, rfl⟩ : ∃ f, fu = f + 1 := ⟨fu - 1, by omega⟩
    obtain ⟨fu', rfl⟩ : ∃ f, fu' = f + 1 := ⟨fu' - 1, by omega⟩
    have hq : a (201 + 20 * 1 + i0 + j) ≤ a 8 := by
      have := (hv.2.2.2.2 1 (by omega)).2.2.2 (i0 + j) (by omega)
      rw [← Nat.add_assoc] at this
      exact this
    have hkn : now (195 + 2 * 0 + 1) = nI kt := by
      have := hm.2.1 (2 * 0 + 1) (by omega) (Or.inr (by rw [show 195 + (2 * 0 + 1) = 195 + 2 * 0 + 1 by omega, zSh_o (by omega), hkt]; omega))
      rw [show 195 + (2 * 0 + 1) = 195 + 2 * 0 + 1 by omega, zSh_o (by omega), hkt, zs1] at this
      exact this
    have hkd : ∀ x, x < a 8 → fX11_kindOf (nI x) now = some (nI (aK a x)) := fun x hx => by
      rw [fm_kindOf hm (by omega), show aK (zSh a (201 + 20 * 1 + i0) (201 + 20 * 0 + j0) j) x = aK a x from zSh_o (by omega)]
    have f1 := fx_fits (kind := kind) (kk := kt) (q := a (201 + 20 * 1 + i0 + j)) h8 hv.2.2.1 hk hkt2 hq
    have f2 := fm_fits (now := now) (t := 0) (kk := kt) (q := a (201 + 20 * 1 + i0 + j)) h8 hv.2.2.1 (by omega) hkn hkd hkt2 hq
    rw [← hF j (by omega)] at f1
    rw [← hC j (by omega)] at f2
    rcases zFit_d a kt (a (201 + 20 * 1 + i0 + j)) with fit | fit
    · have f1 := f1.1 fit
      have f2 := f2.1 fit
      have hm2 : zMn (zSh a (201 + 20 * 1 + i0) (201 + 20 * 0 + j0) (j + 1)) (upd now (201 + 20 * 0 + j0 + j) (CR j)) := by
        rw [zSh_s, hC j (by omega)]
        exact zMn_up hm (by omega)
      obtain ⟨r, j', Q0, Q1, Q2, now', g0, g1, g2, g3, g4, g5, g6⟩ := ih (j + 1) fu fu' (upd P0 (j0 + j) (F (i0 + j))) P1 P2 (upd now (201 + 20 * 0 + j0 + j) (CR j)) (by omega) (by omega) (by omega) (by rw [zSh_s, show 201 + 20 * 0 + j0 + j = 201 + 20 * 0 + (j0 + j) by omega]; exact zXt_up (by omega) (by omega) h0 (hF j (by omega))) (by rw [zSh_s, show 201 + 20 * 0 + j0 + j = 201 + 20 * 0 + (j0 + j) by omega]; exact zXt_uo (by omega) (by omega) (by omega) (by omega) h1) (by rw [zSh_s, show 201 + 20 * 0 + j0 + j = 201 + 20 * 0 + (j0 + j) by omega]; exact zXt_uo (by omega) (by omega) (by omega) (by omega) h2) hm2
      refine ⟨r, j', Q0, Q1, Q2, now', g0, ?_, ?_, g3, g4, g5, g6⟩
      · rw [fX10_shift_L96xxx_s]
        simp (disch := omega) only [zl_0, zl_1, zl_2, zl_3, zl_4, zl_5, zl_6, zl_8, zl_9, zl_11, zl_12, zl_13, zl_16, zl_20, zl_23, zl_24, zl_30, zl_32, zl_40, zl_41, zl_43, zl_45, zl_50, zl_52, zl_60, zl_97, zl_99, zl_100, zl_124, zl_126, zl_127, zl_169, zl_170, zl_171, zl_195, zl_200, zl_201, zl_256, zl_261, zl_999, zl_1100, zl_1884, zl_4095, zl_4096, zd1, zd2, zs1, nI_add, pk_mul, zsb, zad1, zad2, zcl, zgI, zif_le, zif_nle, zif_lt, zif_nlt, zif_eq, zif_ne, zif_self, zif_T, zif_F, Nat.zero_add, Nat.add_sub_cancel, zn21, zn31, zif_m1, zif_m1l, zif_m1n, zif_pm, zb1_k, zb2_k, zb3_k, zb4_k, zb5_k, zb6_k, zb7_k, zb8_k, zb9_k, zb10_k, zb11_k, zb12_k, zb14_k, zb21_k, zb22_k, zupd_eq, zupd_ne, zupl_eq, zupl_ne, zupf_eq, zupf_ne, zcpyS, f1, g1]
      · rw [fX11_shift_L129_s]
        simp (disch := omega) only [zl_0, zl_1, zl_2, zl_3, zl_4, zl_5, zl_6, zl_8, zl_9, zl_11, zl_12, zl_13, zl_16, zl_20, zl_23, zl_24, zl_30, zl_32, zl_40, zl_41, zl_43, zl_45, zl_50, zl_52, zl_60, zl_97, zl_99, zl_100, zl_124, zl_126, zl_127, zl_169, zl_170, zl_171, zl_195, zl_200, zl_201, zl_256, zl_261, zl_999, zl_1100, zl_1884, zl_4095, zl_4096, zd1, zd2, zs1, nI_add, pk_mul, zsb, zad1, zad2, zcl, zgI, zif_le, zif_nle, zif_lt, zif_nlt, zif_eq, zif_ne, zif_self, zif_T, zif_F, Nat.zero_add, Nat.add_sub_cancel, zn21, zn31, zif_m1, zif_m1l, zif_m1n, zif_pm, zb1_k, zb2_k, zb3_k, zb4_k, zb5_k, zb6_k, zb7_k, zb8_k, zb9_k, zb10_k, zb11_k, zb12_k, zb14_k, zb21_k, zb22_k, zupd_eq, zupd_ne, zupl_eq, zupl_ne, zupf_eq, zupf_ne, f2, g2]
    · have f1 := f1.2 fit
      have f2 := f2.2 fit
      refine ⟨-nI 12, j, P0, P1, P2, now, by omega, ?_, ?_, h0, h1, h2, hm⟩
      · rw [fX10_shift_L96xxx_s]
        simp (disch := omega) only [zl_0, zl_1, zl_2, zl_3, zl_4, zl_5, zl_6, zl_8, zl_9, zl_11, zl_12, zl_13, zl_16, zl_20, zl_23, zl_24, zl_30, zl_32, zl_40, zl_41, zl_43, zl_45, zl_50, zl_52, zl_60, zl_97, zl_99, zl_100, zl_124, zl_126, zl_127, zl_169, zl_170, zl_171, zl_195, zl_200, zl_201, zl_256, zl_261, zl_999, zl_1100, zl_1884, zl_4095, zl_4096, zd1, zd2, zs1, nI_add, pk_mul, zsb, zad1, zad2, zcl, zgI, zif_le, zif_nle, zif_lt, zif_nlt, zif_eq, zif_ne, zif_self, zif_T, zif_F, Nat.zero_add, Nat.add_sub_cancel, zn21, zn31, zif_m1, zif_m1l, zif_m1n, zif_pm, zb1_k, zb2_k, zb3_k, zb4_k, zb5_k, zb6_k, zb7_k, zb8_k, zb9_k, zb10_k, zb11_k, zb12_k, zb14_k, zb21_k, zb22_k, zupd_eq, zupd_ne, zupl_eq, zupl_ne, zupf_eq, zupf_ne, zcpyS, f1]
      · rw [fX11_shift_L129_s]
        simp (disch := omega) only [zl_0, zl_1, zl_2, zl_3, zl_4, zl_5, zl_6, zl_8, zl_9, zl_11, zl_12, zl_13, zl_16, zl_20, zl_23, zl_24, zl_30, zl_32, zl_40, zl_41, zl_43, zl_45, zl_50, zl_52, zl_60, zl_97, zl_99, zl_100, zl_124, zl_126, zl_127, zl_169, zl_170, zl_171, zl_195, zl_200, zl_201, zl_256, zl_261, zl_999, zl_1100, zl_1884, zl_4095, zl_4096, zd1, zd2, zs1, nI_add, pk_mul, zsb, zad1, zad2, zcl, zgI, zif_le, zif_nle, zif_lt, zif_nlt, zif_eq, zif_ne, zif_self, zif_T, zif_F, Nat.zero_add, Nat.add_sub_cancel, zn21, zn31, zif_m1, zif_m1l, zif_m1n, zif_pm, zb1_k, zb2_k, zb3_k, zb4_k, zb5_k, zb6_k, zb7_k, zb8_k, zb9_k, zb10_k, zb11_k, zb12_k, zb14_k, zb21_k, zb22_k, zupd_eq, zupd_ne, zupl_eq, zupl_ne, zupf_eq, zupf_ne, f2]
set_option maxHeartbeats 1000000 in
theorem sh_11 {a : Nat → Nat} {kind moved F CR : Nat → Int32} {i0 j0 n kt : Nat} {k0 s0 k1 s1 k2 s2 : Int32} (hv : zV a) (hk : ∀ i, i < a 8 → kind i = nI (aK a i)) (hkt : a (195 + 2 * 1 + 1) = kt + 1) (hkt2 : kt ≤ 2) (hi : i0 + n ≤ 20) (hj : j0 + n ≤ 20) (hF : ∀ x, x < n → F (i0 + x) = nI (a (201 + 20 * 1 + i0 + x)) - nI 1) (hC : ∀ x, x < n → CR x = nI (a (201 + 20 * 1 + i0 + x))) : ∀ (d j fu fu' : Nat) (P0 P1 P2 now : Nat → Int32), j + d = n → d < fu → d < fu' → zXt (zSh a (201 + 20 * 1 + i0) (201 + 20 * 1 + j0) j) 0 k0 s0 P0 → zXt (zSh a (201 + 20 * 1 + i0) (201 + 20 * 1 + j0) j) 1 k1 s1 P1 → zXt (zSh a (201 + 20 * 1 + i0) (201 + 20 * 1 + j0) j) 2 k2 s2 P2 → zMn (zSh a (201 + 20 * 1 + i0) (201 + 20 * 1 + j0) j) now → ∃ r j' Q0 Q1 Q2 now', j' ≤ n ∧ fX10_shift_L96xxxx (nI kt) moved F (nI (a 8)) kind (nI i0) (nI j0) (nI n) fu (nI j) P0 P1 P2 = some (r, va_cpy F moved i0 0 n, Q0, Q1, Q2) ∧ fX11_shift_L129 (nI 1) (nI j0) (nI n) CR fu' (nI j) now = some (r, now', CR) ∧ zXt (zSh a (201 + 20 * 1 + i0) (201 + 20 * 1 + j0) j') 0 k0 s0 Q0 ∧ zXt (zSh a (201 + 20 * 1 + i0) (201 + 20 * 1 + j0) j') 1 k1 s1 Q1 ∧ zXt (zSh a (201 + 20 * 1 + i0) (201 + 20 * 1 + j0) j') 2 k2 s2 Q2 ∧ zMn (zSh a (201 + 20 * 1 + i0) (201 + 20 * 1 + j0) j') now' := by
  have h8 := hv.2.1
  intro d
  induction d with
  | zero =>
    intro j fu fu' P0 P1 P2 now hd hfu hfu' h0 h1 h2 hm
    obtain ⟨fu, rfl⟩ : ∃ f, fu = f + 1 := ⟨fu - 1, by omega⟩
    obtain ⟨fu', rfl⟩ : ∃ f, fu' = f + 1 := ⟨fu' - 1, by omega⟩
    refine ⟨nI n, j, P0, P1, P2, now, by omega, ?_, ?_, h0, h1, h2, hm⟩
    · rw [fX10_shift_L96xxxx_s]
      simp (disch := omega) only [zl_0, zl_1, zl_2, zl_3, zl_4, zl_5, zl_6, zl_8, zl_9, zl_11, zl_12, zl_13, zl_16, zl_20, zl_23, zl_24, zl_30, zl_32, zl_40, zl_41, zl_43, zl_45, zl_50, zl_52, zl_60, zl_97, zl_99, zl_100, zl_124, zl_126, zl_127, zl_169, zl_170, zl_171, zl_195, zl_200, zl_201, zl_256, zl_261, zl_999, zl_1100, zl_1884, zl_4095, zl_4096, zd1, zd2, zs1, nI_add, pk_mul, zsb, zad1, zad2, zcl, zgI, zif_le, zif_nle, zif_lt, zif_nlt, zif_eq, zif_ne, zif_self, zif_T, zif_F, Nat.zero_add, Nat.add_sub_cancel, zn21, zn31, zif_m1, zif_m1l, zif_m1n, zif_pm, zb1_k, zb2_k, zb3_k, zb4_k, zb5_k, zb6_k, zb7_k, zb8_k, zb9_k, zb10_k, zb11_k, zb12_k, zb14_k, zb21_k, zb22_k, zupd_eq, zupd_ne, zupl_eq, zupl_ne, zupf_eq, zupf_ne]
    · rw [fX11_shift_L129_s]
      simp (disch := omega) only [zl_0, zl_1, zl_2, zl_3, zl_4, zl_5, zl_6, zl_8, zl_9, zl_11, zl_12, zl_13, zl_16, zl_20, zl_23, zl_24, zl_30, zl_32, zl_40, zl_41, zl_43, zl_45, zl_50, zl_52, zl_60, zl_97, zl_99, zl_100, zl_124, zl_126, zl_127, zl_169, zl_170, zl_171, zl_195, zl_200, zl_201, zl_256, zl_261, zl_999, zl_1100, zl_1884, zl_4095, zl_4096, zd1, zd2, zs1, nI_add, pk_mul, zsb, zad1, zad2, zcl, zgI, zif_le, zif_nle, zif_lt, zif_nlt, zif_eq, zif_ne, zif_self, zif_T, zif_F, Nat.zero_add, Nat.add_sub_cancel, zn21, zn31, zif_m1, zif_m1l, zif_m1n, zif_pm, zb1_k, zb2_k, zb3_k, zb4_k, zb5_k, zb6_k, zb7_k, zb8_k, zb9_k, zb10_k, zb11_k, zb12_k, zb14_k, zb21_k, zb22_k, zupd_eq, zupd_ne, zupl_eq, zupl_ne, zupf_eq, zupf_ne]
  | succ d ih =>
    intro j fu fu' P0 P1 P2 now hd hfu hfu' h0 h1 h2 hm
    obtain ⟨fu, rfl⟩ : ∃ f, fu = f + 1 := ⟨fu - 1, by omega⟩
    obtain ⟨fu', rfl⟩ : ∃ f, fu' = f + 1 := ⟨fu' - 1, by omega⟩
    have hq : a (201 + 20 * 1 + i0 + j) ≤ a 8 := by
      have := (hv.2.2.2.2 1 (by omega)).2.2.2 (i0 + j) (by omega)
      rw [← Nat.add_assoc] at this
      exact this
    have hkn : now (195 + 2 * 1 + 1) = nI kt := by
      have := hm.2.1 (2 * 1 + 1) (by omega) (Or.inr (by rw [show 195 + (2 * 1 + 1) = 195 + 2 * 1 + 1 by omega, zSh_o (by omega), hkt]; omega))
      rw [show 195 + (2 * 1 + 1) = 195 + 2 * 1 + 1 by omega, zSh_o (by omega), hkt, zs1] at this
      exact this
    have hkd : ∀ x, x < a 8 → fX11_kindOf (nI x) now = some (nI (aK a x)) := fun x hx => by
      rw [fm_kindOf hm (by omega), show aK (zSh a (201 + 20 * 1 + i0) (201 + 20 * 1 + j0) j) x = aK a x from zSh_o (by omega)]
    have f1 := fx_fits (kind := kind) (kk := kt) (q := a (201 + 20 * 1 + i0 + j)) h8 hv.2.2.1 hk hkt2 hq
    have f2 := fm_fits (now := now) (t := 1) (kk := kt) (q := a (201 + 20 * 1 + i0 + j)) h8 hv.2.2.1 (by omega) hkn hkd hkt2 hq
    rw [← hF j (by omega)] at f1
    rw [← hC j (by omega)] at f2
    rcases zFit_d a kt (a (201 + 20 * 1 + i0 + j)) with fit | fit
    · have f1 := f1.1 fit
      have f2 := f2.1 fit
      have hm2 : zMn (zSh a (201 + 20 * 1 + i0) (201 + 20 * 1 + j0) (j + 1)) (upd now (201 + 20 * 1 + j0 + j) (CR j)) := by
        rw [zSh_s, hC j (by omega)]
        exact zMn_up hm (by omega)
      obtain ⟨r, j', Q0, Q1, Q2, now', g0, g1, g2, g3, g4, g5, g6⟩ := ih (j + 1) fu fu' P0 (upd P1 (j0 + j) (F (i0 + j))) P2 (upd now (201 + 20 * 1 + j0 + j) (CR j)) (by omega) (by omega) (by omega) (by rw [zSh_s, show 201 + 20 * 1 + j0 + j = 201 + 20 * 1 + (j0 + j) by omega]; exact zXt_uo (by omega) (by omega) (by omega) (by omega) h0) (by rw [zSh_s, show 201 + 20 * 1 + j0 + j = 201 + 20 * 1 + (j0 + j) by omega]; exact zXt_up (by omega) (by omega) h1 (hF j (by omega))) (by rw [zSh_s, show 201 + 20 * 1 + j0 + j = 201 + 20 * 1 + (j0 + j) by omega]; exact zXt_uo (by omega) (by omega) (by omega) (by omega) h2) hm2
      refine ⟨r, j', Q0, Q1, Q2, now', g0, ?_, ?_, g3, g4, g5, g6⟩
      · rw [fX10_shift_L96xxxx_s]
        simp (disch := omega) only [zl_0, zl_1, zl_2, zl_3, zl_4, zl_5, zl_6, zl_8, zl_9, zl_11, zl_12, zl_13, zl_16, zl_20, zl_23, zl_24, zl_30, zl_32, zl_40, zl_41, zl_43, zl_45, zl_50, zl_52, zl_60, zl_97, zl_99, zl_100, zl_124, zl_126, zl_127, zl_169, zl_170, zl_171, zl_195, zl_200, zl_201, zl_256, zl_261, zl_999, zl_1100, zl_1884, zl_4095, zl_4096, zd1, zd2, zs1, nI_add, pk_mul, zsb, zad1, zad2, zcl, zgI, zif_le, zif_nle, zif_lt, zif_nlt, zif_eq, zif_ne, zif_self, zif_T, zif_F, Nat.zero_add, Nat.add_sub_cancel, zn21, zn31, zif_m1, zif_m1l, zif_m1n, zif_pm, zb1_k, zb2_k, zb3_k, zb4_k, zb5_k, zb6_k, zb7_k, zb8_k, zb9_k, zb10_k, zb11_k, zb12_k, zb14_k, zb21_k, zb22_k, zupd_eq, zupd_ne, zupl_eq, zupl_ne, zupf_eq, zupf_ne, zcpyS, f1, g1]
      · rw [fX11_shift_L129_s]
        simp (disch := omega) only [zl_0, zl_1, zl_2, zl_3, zl_4, zl_5, zl_6, zl_8, zl_9, zl_11, zl_12, zl_13, zl_16, zl_20, zl_23, zl_24, zl_30, zl_32, zl_40, zl_41, zl_43, zl_45, zl_50, zl_52, zl_60, zl_97, zl_99, zl_100, zl_124, zl_126, zl_127, zl_169, zl_170, zl_171, zl_195, zl_200, zl_201, zl_256, zl_261, zl_999, zl_1100, zl_1884, zl_4095, zl_4096, zd1, zd2, zs1, nI_add, pk_mul, zsb, zad1, zad2, zcl, zgI, zif_le, zif_nle, zif_lt, zif_nlt, zif_eq, zif_ne, zif_self, zif_T, zif_F, Nat.zero_add, Nat.add_sub_cancel, zn21, zn31, zif_m1, zif_m1l, zif_m1n, zif_pm, zb1_k, zb2_k, zb3_k, zb4_k, zb5_k, zb6_k, zb7_k, zb8_k, zb9_k, zb10_k, zb11_k, zb12_k, zb14_k, zb21_k, zb22_k, zupd_eq, zupd_ne, zupl_eq, zupl_ne, zupf_eq, zupf_ne, f2, g2]
    · have f1 := f1.2 fit
      have f2 := f2.2 fit
      refine ⟨-nI 12, j, P0, P1, P2, now, by omega, ?_, ?_, h0, h1, h2, hm⟩
      · rw [fX10_shift_L96xxxx_s]
        simp (disch := omega) only [zl_0, zl_1, zl_2, zl_3, zl_4, zl_5, zl_6, zl_8, zl_9, zl_11, zl_12, zl_13, zl_16, zl_20, zl_23, zl_24, zl_30, zl_32, zl_40, zl_41, zl_43, zl_45, zl_50, zl_52, zl_60, zl_97, zl_99, zl_100, zl_124, zl_126, zl_127, zl_169, zl_170, zl_171, zl_195, zl_200, zl_201, zl_256, zl_261, zl_999, zl_1100, zl_1884, zl_4095, zl_4096, zd1, zd2, zs1, nI_add, pk_mul, zsb, zad1, zad2, zcl, zgI, zif_le, zif_nle, zif_lt, zif_nlt, zif_eq, zif_ne, zif_self, zif_T, zif_F, Nat.zero_add, Nat.add_sub_cancel, zn21, zn31, zif_m1, zif_m1l, zif_m1n, zif_pm, zb1_k, zb2_k, zb3_k, zb4_k, zb5_k, zb6_k, zb7_k, zb8_k, zb9_k, zb10_k, zb11_k, zb12_k, zb14_k, zb21_k, zb22_k, zupd_eq, zupd_ne, zupl_eq, zupl_ne, zupf_eq, zupf_ne, zcpyS, f1]
      · rw [fX11_shift_L129_s]
        simp (disch := omega) only [zl_0, zl_1, zl_2, zl_3, zl_4, zl_5, zl_6, zl_8, zl_9, zl_11, zl_12, zl_13, zl_16, zl_20, zl_23, zl_24, zl_30, zl_32, zl_40, zl_41, zl_43, zl_45, zl_50, zl_52, zl_60, zl_97, zl_99, zl_100, zl_124, zl_126, zl_127, zl_169, zl_170, zl_171, zl_195, zl_200, zl_201, zl_256, zl_261, zl_999, zl_1100, zl_1884, zl_4095, zl_4096, zd1, zd2, zs1, nI_add, pk_mul, zsb, zad1, zad2, zcl, zgI, zif_le, zif_nle, zif_lt, zif_nlt, zif_eq, zif_ne, zif_self, zif_T, zif_F, Nat.zero_add, Nat.add_sub_cancel, zn21, zn31, zif_m1, zif_m1l, zif_m1n, zif_pm, zb1_k, zb2_k, zb3_k, zb4_k, zb5_k, zb6_k, zb7_k, zb8_k, zb9_k, zb10_k, zb11_k, zb12_k, zb14_k, zb21_k, zb22_k, zupd_eq, zupd_ne, zupl_eq, zupl_ne, zupf_eq, zupf_ne, f2]
set_option maxHeartbeats 1000000 in
theorem sh_12 {a : Nat → Nat} {kind moved F CR : Nat → Int32} {i0 j0 n kt : Nat} {k0 s0 k1 s1 k2 s2 : Int32} (hv : zV a) (hk : ∀ i, i < a 8 → kind i = nI (aK a i)) (hkt : a (195 + 2 * 2 + 1) = kt + 1) (hkt2 : kt ≤ 2) (hi : i0 + n ≤ 20) (hj : j0 + n ≤ 20) (hF : ∀ x, x < n → F (i0 + x) = nI (a (201 + 20 * 1 + i0 + x)) - nI 1) (hC : ∀ x, x < n → CR x = nI (a (201 + 20 * 1 + i0 + x))) : ∀ (d j fu fu' : Nat) (P0 P1 P2 now : Nat → Int32), j + d = n → d < fu → d < fu' → zXt (zSh a (201 + 20 * 1 + i0) (201 + 20 * 2 + j0) j) 0 k0 s0 P0 → zXt (zSh a (201 + 20 * 1 + i0) (201 + 20 * 2 + j0) j) 1 k1 s1 P1 → zXt (zSh a (201 + 20 * 1 + i0) (201 + 20 * 2 + j0) j) 2 k2 s2 P2 → zMn (zSh a (201 + 20 * 1 + i0) (201 + 20 * 2 + j0) j) now → ∃ r j' Q0 Q1 Q2 now', j' ≤ n ∧ fX10_shift_L96xxxxx (nI kt) moved F (nI (a 8)) kind (nI i0) (nI j0) (nI n) fu (nI j) P0 P1 P2 = some (r, va_cpy F moved i0 0 n, Q0, Q1, Q2) ∧ fX11_shift_L129 (nI 2) (nI j0) (nI n) CR fu' (nI j) now = some (r, now', CR) ∧ zXt (zSh a (201 + 20 * 1 + i0) (201 + 20 * 2 + j0) j') 0 k0 s0 Q0 ∧ zXt (zSh a (201 + 20 * 1 + i0) (201 + 20 * 2 + j0) j') 1 k1 s1 Q1 ∧ zXt (zSh a (201 + 20 * 1 + i0) (201 + 20 * 2 + j0) j') 2 k2 s2 Q2 ∧ zMn (zSh a (201 + 20 * 1 + i0) (201 + 20 * 2 + j0) j') now' := by
  have h8 := hv.2.1
  intro d
  induction d with
  | zero =>
    intro j fu fu' P0 P1 P2 now hd hfu hfu' h0 h1 h2 hm
    obtain ⟨fu, rfl⟩ : ∃ f, fu = f + 1 := ⟨fu - 1, by omega⟩
    obtain ⟨fu', rfl⟩ : ∃ f, fu' = f + 1 := ⟨fu' - 1, by omega⟩
    refine ⟨nI n, j, P0, P1, P2, now, by omega, ?_, ?_, h0, h1, h2, hm⟩
    · rw [fX10_shift_L96xxxxx_s]
      simp (disch := omega) only [zl_0, zl_1, zl_2, zl_3, zl_4, zl_5, zl_6, zl_8, zl_9, zl_11, zl_12, zl_13, zl_16, zl_20, zl_23, zl_24, zl_30, zl_32, zl_40, zl_41, zl_43, zl_45, zl_50, zl_52, zl_60, zl_97, zl_99, zl_100, zl_124, zl_126, zl_127, zl_169, zl_170, zl_171, zl_195, zl_200, zl_201, zl_256, zl_261, zl_999, zl_1100, zl_1884, zl_4095, zl_4096, zd1, zd2, zs1, nI_add, pk_mul, zsb, zad1, zad2, zcl, zgI, zif_le, zif_nle, zif_lt, zif_nlt, zif_eq, zif_ne, zif_self, zif_T, zif_F, Nat.zero_add, Nat.add_sub_cancel, zn21, zn31, zif_m1, zif_m1l, zif_m1n, zif_pm, zb1_k, zb2_k, zb3_k, zb4_k, zb5_k, zb6_k, zb7_k, zb8_k, zb9_k, zb10_k, zb11_k, zb12_k, zb14_k, zb21_k, zb22_k, zupd_eq, zupd_ne, zupl_eq, zupl_ne, zupf_eq, zupf_ne]
    · rw [fX11_shift_L129_s]
      simp (disch := omega) only [zl_0, zl_1, zl_2, zl_3, zl_4, zl_5, zl_6, zl_8, zl_9, zl_11, zl_12, zl_13, zl_16, zl_20, zl_23, zl_24, zl_30, zl_32, zl_40, zl_41, zl_43, zl_45, zl_50, zl_52, zl_60, zl_97, zl_99, zl_100, zl_124, zl_126, zl_127, zl_169, zl_170, zl_171, zl_195, zl_200, zl_201, zl_256, zl_261, zl_999, zl_1100, zl_1884, zl_4095, zl_4096, zd1, zd2, zs1, nI_add, pk_mul, zsb, zad1, zad2, zcl, zgI, zif_le, zif_nle, zif_lt, zif_nlt, zif_eq, zif_ne, zif_self, zif_T, zif_F, Nat.zero_add, Nat.add_sub_cancel, zn21, zn31, zif_m1, zif_m1l, zif_m1n, zif_pm, zb1_k, zb2_k, zb3_k, zb4_k, zb5_k, zb6_k, zb7_k, zb8_k, zb9_k, zb10_k, zb11_k, zb12_k, zb14_k, zb21_k, zb22_k, zupd_eq, zupd_ne, zupl_eq, zupl_ne, zupf_eq, zupf_ne]
  | succ d ih =>
    intro j fu fu' P0 P1 P2 now hd hfu hfu' h0 h1 h2 hm
    obtain ⟨fu, rfl⟩ : ∃ f, fu = f + 1 := ⟨fu - 1, by omega⟩
    obtain ⟨fu', rfl⟩ : ∃ f, fu' = f + 1 := ⟨fu' - 1, by omega⟩
    have hq : a (201 + 20 * 1 + i0 + j) ≤ a 8 := by
      have := (hv.2.2.2.2 1 (by omega)).2.2.2 (i0 + j) (by omega)
      rw [← Nat.add_assoc] at this
      exact this
    have hkn : now (195 + 2 * 2 + 1) = nI kt := by
      have := hm.2.1 (2 * 2 + 1) (by omega) (Or.inr (by rw [show 195 + (2 * 2 + 1) = 195 + 2 * 2 + 1 by omega, zSh_o (by omega), hkt]; omega))
      rw [show 195 + (2 * 2 + 1) = 195 + 2 * 2 + 1 by omega, zSh_o (by omega), hkt, zs1] at this
      exact this
    have hkd : ∀ x, x < a 8 → fX11_kindOf (nI x) now = some (nI (aK a x)) := fun x hx => by
      rw [fm_kindOf hm (by omega), show aK (zSh a (201 + 20 * 1 + i0) (201 + 20 * 2 + j0) j) x = aK a x from zSh_o (by omega)]
    have f1 := fx_fits (kind := kind) (kk := kt) (q := a (201 + 20 * 1 + i0 + j)) h8 hv.2.2.1 hk hkt2 hq
    have f2 := fm_fits (now := now) (t := 2) (kk := kt) (q := a (201 + 20 * 1 + i0 + j)) h8 hv.2.2.1 (by omega) hkn hkd hkt2 hq
    rw [← hF j (by omega)] at f1
    rw [← hC j (by omega)] at f2
    rcases zFit_d a kt (a (201 + 20 * 1 + i0 + j)) with fit | fit
    · have f1 := f1.1 fit
      have f2 := f2.1 fit
      have hm2 : zMn (zSh a (201 + 20 * 1 + i0) (201 + 20 * 2 + j0) (j + 1)) (upd now (201 + 20 * 2 + j0 + j) (CR j)) := by
        rw [zSh_s, hC j (by omega)]
        exact zMn_up hm (by omega)
      obtain ⟨r, j', Q0, Q1, Q2, now', g0, g1, g2, g3, g4, g5, g6⟩ := ih (j + 1) fu fu' P0 P1 (upd P2 (j0 + j) (F (i0 + j))) (upd now (201 + 20 * 2 + j0 + j) (CR j)) (by omega) (by omega) (by omega) (by rw [zSh_s, show 201 + 20 * 2 + j0 + j = 201 + 20 * 2 + (j0 + j) by omega]; exact zXt_uo (by omega) (by omega) (by omega) (by omega) h0) (by rw [zSh_s, show 201 + 20 * 2 + j0 + j = 201 + 20 * 2 + (j0 + j) by omega]; exact zXt_uo (by omega) (by omega) (by omega) (by omega) h1) (by rw [zSh_s, show 201 + 20 * 2 + j0 + j = 201 + 20 * 2 + (j0 + j) by omega]; exact zXt_up (by omega) (by omega) h2 (hF j (by omega))) hm2
      refine ⟨r, j', Q0, Q1, Q2, now', g0, ?_, ?_, g3, g4, g5, g6⟩
      · rw [fX10_shift_L96xxxxx_s]
        simp (disch := omega) only [zl_0, zl_1, zl_2, zl_3, zl_4, zl_5, zl_6, zl_8, zl_9, zl_11, zl_12, zl_13, zl_16, zl_20, zl_23, zl_24, zl_30, zl_32, zl_40, zl_41, zl_43, zl_45, zl_50, zl_52, zl_60, zl_97, zl_99, zl_100, zl_124, zl_126, zl_127, zl_169, zl_170, zl_171, zl_195, zl_200, zl_201, zl_256, zl_261, zl_999, zl_1100, zl_1884, zl_4095, zl_4096, zd1, zd2, zs1, nI_add, pk_mul, zsb, zad1, zad2, zcl, zgI, zif_le, zif_nle, zif_lt, zif_nlt, zif_eq, zif_ne, zif_self, zif_T, zif_F, Nat.zero_add, Nat.add_sub_cancel, zn21, zn31, zif_m1, zif_m1l, zif_m1n, zif_pm, zb1_k, zb2_k, zb3_k, zb4_k, zb5_k, zb6_k, zb7_k, zb8_k, zb9_k, zb10_k, zb11_k, zb12_k, zb14_k, zb21_k, zb22_k, zupd_eq, zupd_ne, zupl_eq, zupl_ne, zupf_eq, zupf_ne, zcpyS, f1, g1]
      · rw [fX11_shift_L129_s]
        simp (disch := omega) only [zl_0, zl_1, zl_2, zl_3, zl_4, zl_5, zl_6, zl_8, zl_9, zl_11, zl_12, zl_13, zl_16, zl_20, zl_23, zl_24, zl_30, zl_32, zl_40, zl_41, zl_43, zl_45, zl_50, zl_52, zl_60, zl_97, zl_99, zl_100, zl_124, zl_126, zl_127, zl_169, zl_170, zl_171, zl_195, zl_200, zl_201, zl_256, zl_261, zl_999, zl_1100, zl_1884, zl_4095, zl_4096, zd1, zd2, zs1, nI_add, pk_mul, zsb, zad1, zad2, zcl, zgI, zif_le, zif_nle, zif_lt, zif_nlt, zif_eq, zif_ne, zif_self, zif_T, zif_F, Nat.zero_add, Nat.add_sub_cancel, zn21, zn31, zif_m1, zif_m1l, zif_m1n, zif_pm, zb1_k, zb2_k, zb3_k, zb4_k, zb5_k, zb6_k, zb7_k, zb8_k, zb9_k, zb10_k, zb11_k, zb12_k, zb14_k, zb21_k, zb22_k, zupd_eq, zupd_ne, zupl_eq, zupl_ne, zupf_eq, zupf_ne, f2, g2]
    · have f1 := f1.2 fit
      have f2 := f2.2 fit
      refine ⟨-nI 12, j, P0, P1, P2, now, by omega, ?_, ?_, h0, h1, h2, hm⟩
      · rw [fX10_shift_L96xxxxx_s]
        simp (disch := omega) only [zl_0, zl_1, zl_2, zl_3, zl_4, zl_5, zl_6, zl_8, zl_9, zl_11, zl_12, zl_13, zl_16, zl_20, zl_23, zl_24, zl_30, zl_32, zl_40, zl_41, zl_43, zl_45, zl_50, zl_52, zl_60, zl_97, zl_99, zl_100, zl_124, zl_126, zl_127, zl_169, zl_170, zl_171, zl_195, zl_200, zl_201, zl_256, zl_261, zl_999, zl_1100, zl_1884, zl_4095, zl_4096, zd1, zd2, zs1, nI_add, pk_mul, zsb, zad1, zad2, zcl, zgI, zif_le, zif_nle, zif_lt, zif_nlt, zif_eq, zif_ne, zif_self, zif_T, zif_F, Nat.zero_add, Nat.add_sub_cancel, zn21, zn31, zif_m1, zif_m1l, zif_m1n, zif_pm, zb1_k, zb2_k, zb3_k, zb4_k, zb5_k, zb6_k, zb7_k, zb8_k, zb9_k, zb10_k, zb11_k, zb12_k, zb14_k, zb21_k, zb22_k, zupd_eq, zupd_ne, zupl_eq, zupl_ne, zupf_eq, zupf_ne, zcpyS, f1]
      · rw [fX11_shift_L129_s]
        simp (disch := omega) only [zl_0, zl_1, zl_2, zl_3, zl_4, zl_5, zl_6, zl_8, zl_9, zl_11, zl_12, zl_13, zl_16, zl_20, zl_23, zl_24, zl_30, zl_32, zl_40, zl_41, zl_43, zl_45, zl_50, zl_52, zl_60, zl_97, zl_99, zl_100, zl_124, zl_126, zl_127, zl_169, zl_170, zl_171, zl_195, zl_200, zl_201, zl_256, zl_261, zl_999, zl_1100, zl_1884, zl_4095, zl_4096, zd1, zd2, zs1, nI_add, pk_mul, zsb, zad1, zad2, zcl, zgI, zif_le, zif_nle, zif_lt, zif_nlt, zif_eq, zif_ne, zif_self, zif_T, zif_F, Nat.zero_add, Nat.add_sub_cancel, zn21, zn31, zif_m1, zif_m1l, zif_m1n, zif_pm, zb1_k, zb2_k, zb3_k, zb4_k, zb5_k, zb6_k, zb7_k, zb8_k, zb9_k, zb10_k, zb11_k, zb12_k, zb14_k, zb21_k, zb22_k, zupd_eq, zupd_ne, zupl_eq, zupl_ne, zupf_eq, zupf_ne, f2]
set_option maxHeartbeats 1000000 in
theorem sh_20 {a : Nat → Nat} {kind moved F CR : Nat → Int32} {i0 j0 n kt : Nat} {k0 s0 k1 s1 k2 s2 : Int32} (hv : zV a) (hk : ∀ i, i < a 8 → kind i = nI (aK a i)) (hkt : a (195 + 2 * 0 + 1) = kt + 1) (hkt2 : kt ≤ 2) (hi : i0 + n ≤ 20) (hj : j0 + n ≤ 20) (hF : ∀ x, x < n → F (i0 + x) = nI (a (201 + 20 * 2 + i0 + x)) - nI 1) (hC : ∀ x, x < n → CR x = nI (a (201 + 20 * 2 + i0 + x))) : ∀ (d j fu fu' : Nat) (P0 P1 P2 now : Nat → Int32), j + d = n → d < fu → d < fu' → zXt (zSh a (201 + 20 * 2 + i0) (201 + 20 * 0 + j0) j) 0 k0 s0 P0 → zXt (zSh a (201 + 20 * 2 + i0) (201 + 20 * 0 + j0) j) 1 k1 s1 P1 → zXt (zSh a (201 + 20 * 2 + i0) (201 + 20 * 0 + j0) j) 2 k2 s2 P2 → zMn (zSh a (201 + 20 * 2 + i0) (201 + 20 * 0 + j0) j) now → ∃ r j' Q0 Q1 Q2 now', j' ≤ n ∧ fX10_shift_L96xxxxxx (nI kt) moved F (nI (a 8)) kind (nI i0) (nI j0) (nI n) fu (nI j) P0 P1 P2 = some (r, va_cpy F moved i0 0 n, Q0, Q1, Q2) ∧ fX11_shift_L129 (nI 0) (nI j0) (nI n) CR fu' (nI j) now = some (r, now', CR) ∧ zXt (zSh a (201 + 20 * 2 + i0) (201 + 20 * 0 + j0) j') 0 k0 s0 Q0 ∧ zXt (zSh a (201 + 20 * 2 + i0) (201 + 20 * 0 + j0) j') 1 k1 s1 Q1 ∧ zXt (zSh a (201 + 20 * 2 + i0) (201 + 20 * 0 + j0) j') 2 k2 s2 Q2 ∧ zMn (zSh a (201 + 20 * 2 + i0) (201 + 20 * 0 + j0) j') now' := by
  have h8 := hv.2.1
  intro d
  induction d with
  | zero =>
    intro j fu fu' P0 P1 P2 now hd hfu hfu' h0 h1 h2 hm
    obtain ⟨fu, rfl⟩ : ∃ f, fu = f + 1 := ⟨fu - 1, by omega⟩
    obtain ⟨fu', rfl⟩ : ∃ f, fu' = f + 1 := ⟨fu' - 1, by omega⟩
    refine ⟨nI n, j, P0, P1, P2, now, by omega, ?_, ?_, h0, h1, h2, hm⟩
    · rw [fX10_shift_L96xxxxxx_s]
      simp (disch := omega) only [zl_0, zl_1, zl_2, zl_3, zl_4, zl_5, zl_6, zl_8, zl_9, zl_11, zl_12, zl_13, zl_16, zl_20, zl_23, zl_24, zl_30, zl_32, zl_40, zl_41, zl_43, zl_45, zl_50, zl_52, zl_60, zl_97, zl_99, zl_100, zl_124, zl_126, zl_127, zl_169, zl_170, zl_171, zl_195, zl_200, zl_201, zl_256, zl_261, zl_999, zl_1100, zl_1884, zl_4095, zl_4096, zd1, zd2, zs1, nI_add, pk_mul, zsb, zad1, zad2, zcl, zgI, zif_le, zif_nle, zif_lt, zif_nlt, zif_eq, zif_ne, zif_self, zif_T, zif_F, Nat.zero_add, Nat.add_sub_cancel, zn21, zn31, zif_m1, zif_m1l, zif_m1n, zif_pm, zb1_k, zb2_k, zb3_k, zb4_k, zb5_k, zb6_k, zb7_k, zb8_k, zb9_k, zb10_k, zb11_k, zb12_k, zb14_k, zb21_k, zb22_k, zupd_eq, zupd_ne, zupl_eq, zupl_ne, zupf_eq, zupf_ne]
    · rw [fX11_shift_L129_s]
      simp (disch := omega) only [zl_0, zl_1, zl_2, zl_3, zl_4, zl_5, zl_6, zl_8, zl_9, zl_11, zl_12, zl_13, zl_16, zl_20, zl_23, zl_24, zl_30, zl_32, zl_40, zl_41, zl_43, zl_45, zl_50, zl_52, zl_60, zl_97, zl_99, zl_100, zl_124, zl_126, zl_127, zl_169, zl_170, zl_171, zl_195, zl_200, zl_201, zl_256, zl_261, zl_999, zl_1100, zl_1884, zl_4095, zl_4096, zd1, zd2, zs1, nI_add, pk_mul, zsb, zad1, zad2, zcl, zgI, zif_le, zif_nle, zif_lt, zif_nlt, zif_eq, zif_ne, zif_self, zif_T, zif_F, Nat.zero_add, Nat.add_sub_cancel, zn21, zn31, zif_m1, zif_m1l, zif_m1n, zif_pm, zb1_k, zb2_k, zb3_k, zb4_k, zb5_k, zb6_k, zb7_k, zb8_k, zb9_k, zb10_k, zb11_k, zb12_k, zb14_k, zb21_k, zb22_k, zupd_eq, zupd_ne, zupl_eq, zupl_ne, zupf_eq, zupf_ne]
  | succ d ih =>
    intro j fu fu' P0 P1 P2 now hd hfu hfu' h0 h1 h2 hm
    obtain ⟨fu, rfl⟩ : ∃ f, fu = f + 1 := ⟨fu - 1, by omega⟩
    obtain ⟨fu', rfl⟩ : ∃ f, fu' = f + 1 := ⟨fu' - 1, by omega⟩
    have hq : a (201 + 20 * 2 + i0 + j) ≤ a 8 := by
      have := (hv.2.2.2.2 2 (by omega)).2.2.2 (i0 + j) (by omega)
      rw [← Nat.add_assoc] at this
      exact this
    have hkn : now (195 + 2 * 0 + 1) = nI kt := by
      have := hm.2.1 (2 * 0 + 1) (by omega) (Or.inr (by rw [show 195 + (2 * 0 + 1) = 195 + 2 * 0 + 1 by omega, zSh_o (by omega), hkt]; omega))
      rw [show 195 + (2 * 0 + 1) = 195 + 2 * 0 + 1 by omega, zSh_o (by omega), hkt, zs1] at this
      exact this
    have hkd : ∀ x, x < a 8 → fX11_kindOf (nI x) now = some (nI (aK a x)) := fun x hx => by
      rw [fm_kindOf hm (by omega), show aK (zSh a (201 + 20 * 2 + i0) (201 + 20 * 0 + j0) j) x = aK a x from zSh_o (by omega)]
    have f1 := fx_fits (kind := kind) (kk := kt) (q := a (201 + 20 * 2 + i0 + j)) h8 hv.2.2.1 hk hkt2 hq
    have f2 := fm_fits (now := now) (t := 0) (kk := kt) (q := a (201 + 20 * 2 + i0 + j)) h8 hv.2.2.1 (by omega) hkn hkd hkt2 hq
    rw [← hF j (by omega)] at f1
    rw [← hC j (by omega)] at f2
    rcases zFit_d a kt (a (201 + 20 * 2 + i0 + j)) with fit | fit
    · have f1 := f1.1 fit
      have f2 := f2.1 fit
      have hm2 : zMn (zSh a (201 + 20 * 2 + i0) (201 + 20 * 0 + j0) (j + 1)) (upd now (201 + 20 * 0 + j0 + j) (CR j)) := by
        rw [zSh_s, hC j (by omega)]
        exact zMn_up hm (by omega)
      obtain ⟨r, j', Q0, Q1, Q2, now', g0, g1, g2, g3, g4, g5, g6⟩ := ih (j + 1) fu fu' (upd P0 (j0 + j) (F (i0 + j))) P1 P2 (upd now (201 + 20 * 0 + j0 + j) (CR j)) (by omega) (by omega) (by omega) (by rw [zSh_s, show 201 + 20 * 0 + j0 + j = 201 + 20 * 0 + (j0 + j) by omega]; exact zXt_up (by omega) (by omega) h0 (hF j (by omega))) (by rw [zSh_s, show 201 + 20 * 0 + j0 + j = 201 + 20 * 0 + (j0 + j) by omega]; exact zXt_uo (by omega) (by omega) (by omega) (by omega) h1) (by rw [zSh_s, show 201 + 20 * 0 + j0 + j = 201 + 20 * 0 + (j0 + j) by omega]; exact zXt_uo (by omega) (by omega) (by omega) (by omega) h2) hm2
      refine ⟨r, j', Q0, Q1, Q2, now', g0, ?_, ?_, g3, g4, g5, g6⟩
      · rw [fX10_shift_L96xxxxxx_s]
        simp (disch := omega) only [zl_0, zl_1, zl_2, zl_3, zl_4, zl_5, zl_6, zl_8, zl_9, zl_11, zl_12, zl_13, zl_16, zl_20, zl_23, zl_24, zl_30, zl_32, zl_40, zl_41, zl_43, zl_45, zl_50, zl_52, zl_60, zl_97, zl_99, zl_100, zl_124, zl_126, zl_127, zl_169, zl_170, zl_171, zl_195, zl_200, zl_201, zl_256, zl_261, zl_999, zl_1100, zl_1884, zl_4095, zl_4096, zd1, zd2, zs1, nI_add, pk_mul, zsb, zad1, zad2, zcl, zgI, zif_le, zif_nle, zif_lt, zif_nlt, zif_eq, zif_ne, zif_self, zif_T, zif_F, Nat.zero_add, Nat.add_sub_cancel, zn21, zn31, zif_m1, zif_m1l, zif_m1n, zif_pm, zb1_k, zb2_k, zb3_k, zb4_k, zb5_k, zb6_k, zb7_k, zb8_k, zb9_k, zb10_k, zb11_k, zb12_k, zb14_k, zb21_k, zb22_k, zupd_eq, zupd_ne, zupl_eq, zupl_ne, zupf_eq, zupf_ne, zcpyS, f1, g1]
      · rw [fX11_shift_L129_s]
        simp (disch := omega) only [zl_0, zl_1, zl_2, zl_3, zl_4, zl_5, zl_6, zl_8, zl_9, zl_11, zl_12, zl_13, zl_16, zl_20, zl_23, zl_24, zl_30, zl_32, zl_40, zl_41, zl_43, zl_45, zl_50, zl_52, zl_60, zl_97, zl_99, zl_100, zl_124, zl_126, zl_127, zl_169, zl_170, zl_171, zl_195, zl_200, zl_201, zl_256, zl_261, zl_999, zl_1100, zl_1884, zl_4095, zl_4096, zd1, zd2, zs1, nI_add, pk_mul, zsb, zad1, zad2, zcl, zgI, zif_le, zif_nle, zif_lt, zif_nlt, zif_eq, zif_ne, zif_self, zif_T, zif_F, Nat.zero_add, Nat.add_sub_cancel, zn21, zn31, zif_m1, zif_m1l, zif_m1n, zif_pm, zb1_k, zb2_k, zb3_k, zb4_k, zb5_k, zb6_k, zb7_k, zb8_k, zb9_k, zb10_k, zb11_k, zb12_k, zb14_k, zb21_k, zb22_k, zupd_eq, zupd_ne, zupl_eq, zupl_ne, zupf_eq, zupf_ne, f2, g2]
    · have f1 := f1.2 fit
      have f2 := f2.2 fit
      refine ⟨-nI 12, j, P0, P1, P2, now, by omega, ?_, ?_, h0, h1, h2, hm⟩
      · rw [fX10_shift_L96xxxxxx_s]
        simp (disch := omega) only [zl_0, zl_1, zl_2, zl_3, zl_4, zl_5, zl_6, zl_8, zl_9, zl_11, zl_12, zl_13, zl_16, zl_20, zl_23, zl_24, zl_30, zl_32, zl_40, zl_41, zl_43, zl_45, zl_50, zl_52, zl_60, zl_97, zl_99, zl_100, zl_124, zl_126, zl_127, zl_169, zl_170, zl_171, zl_195, zl_200, zl_201, zl_256, zl_261, zl_999, zl_1100, zl_1884, zl_4095, zl_4096, zd1, zd2, zs1, nI_add, pk_mul, zsb, zad1, zad2, zcl, zgI, zif_le, zif_nle, zif_lt, zif_nlt, zif_eq, zif_ne, zif_self, zif_T, zif_F, Nat.zero_add, Nat.add_sub_cancel, zn21, zn31, zif_m1, zif_m1l, zif_m1n, zif_pm, zb1_k, zb2_k, zb3_k, zb4_k, zb5_k, zb6_k, zb7_k, zb8_k, zb9_k, zb10_k, zb11_k, zb12_k, zb14_k, zb21_k, zb22_k, zupd_eq, zupd_ne, zupl_eq, zupl_ne, zupf_eq, zupf_ne, zcpyS, f1]
      · rw [fX11_shift_L129_s]
        simp (disch := omega) only [zl_0, zl_1, zl_2, zl_3, zl_4, zl_5, zl_6, zl_8, zl_9, zl_11, zl_12, zl_13, zl_16, zl_20, zl_23, zl_24, zl_30, zl_32, zl_40, zl_41, zl_43, zl_45, zl_50, zl_52, zl_60, zl_97, zl_99, zl_100, zl_124, zl_126, zl_127, zl_169, zl_170, zl_171, zl_195, zl_200, zl_201, zl_256, zl_261, zl_999, zl_1100, zl_1884, zl_4095, zl_4096, zd1, zd2, zs1, nI_add, pk_mul, zsb, zad1, zad2, zcl, zgI, zif_le, zif_nle, zif_lt, zif_nlt, zif_eq, zif_ne, zif_self, zif_T, zif_F, Nat.zero_add, Nat.add_sub_cancel, zn21, zn31, zif_m1, zif_m1l, zif_m1n, zif_pm, zb1_k, zb2_k, zb3_k, zb4_k, zb5_k, zb6_k, zb7_k, zb8_k, zb9_k, zb10_k, zb11_k, zb12_k, zb14_k, zb21_k, zb22_k, zupd_eq, zupd_ne, zupl_eq, zupl_ne, zupf_eq, zupf_ne, f2]
set_option maxHeartbeats 1000000 in
theorem sh_21 {a : Nat → Nat} {kind moved F CR : Nat → Int32} {i0 j0 n kt : Nat} {k0 s0 k1 s1 k2 s2 : Int32} (hv : zV a) (hk : ∀ i, i < a 8 → kind i = nI (aK a i)) (hkt : a (195 + 2 * 1 + 1) = kt + 1) (hkt2 : kt ≤ 2) (hi : i0 + n ≤ 20) (hj : j0 + n ≤ 20) (hF : ∀ x, x < n → F (i0 + x) = nI (a (201 + 20 * 2 + i0 + x)) - nI 1) (hC : ∀ x, x < n → CR x = nI (a (201 + 20 * 2 + i0 + x))) : ∀ (d j fu fu' : Nat) (P0 P1 P2 now : Nat → Int32), j + d = n → d < fu → d < fu' → zXt (zSh a (201 + 20 * 2 + i0) (201 + 20 * 1 + j0) j) 0 k0 s0 P0 → zXt (zSh a (201 + 20 * 2 + i0) (201 + 20 * 1 + j0) j) 1 k1 s1 P1 → zXt (zSh a (201 + 20 * 2 + i0) (201 + 20 * 1 + j0) j) 2 k2 s2 P2 → zMn (zSh a (201 + 20 * 2 + i0) (201 + 20 * 1 + j0) j) now → ∃ r j' Q0 Q1 Q2 now', j' ≤ n ∧ fX10_shift_L96xxxxxxx (nI kt) moved F (nI (a 8)) kind (nI i0) (nI j0) (nI n) fu (nI j) P0 P1 P2 = some (r, va_cpy F moved i0 0 n, Q0, Q1, Q2) ∧ fX11_shift_L129 (nI 1) (nI j0) (nI n) CR fu' (nI j) now = some (r, now', CR) ∧ zXt (zSh a (201 + 20 * 2 + i0) (201 + 20 * 1 + j0) j') 0 k0 s0 Q0 ∧ zXt (zSh a (201 + 20 * 2 + i0) (201 + 20 * 1 + j0) j') 1 k1 s1 Q1 ∧ zXt (zSh a (201 + 20 * 2 + i0) (201 + 20 * 1 + j0) j') 2 k2 s2 Q2 ∧ zMn (zSh a (201 + 20 * 2 + i0) (201 + 20 * 1 + j0) j') now' := by
  have h8 := hv.2.1
  intro d
  induction d with
  | zero =>
    intro j fu fu' P0 P1 P2 now hd hfu hfu' h0 h1 h2 hm
    obtain ⟨fu, rfl⟩ : ∃ f, fu = f + 1 := ⟨fu - 1, by omega⟩
    obtain ⟨fu', rfl⟩ : ∃ f, fu' = f + 1 := ⟨fu' - 1, by omega⟩
    refine ⟨nI n, j, P0, P1, P2, now, by omega, ?_, ?_, h0, h1, h2, hm⟩
    · rw [fX10_shift_L96xxxxxxx_s]
      simp (disch := omega) only [zl_0, zl_1, zl_2, zl_3, zl_4, zl_5, zl_6, zl_8, zl_9, zl_11, zl_12, zl_13, zl_16, zl_20, zl_23, zl_24, zl_30, zl_32, zl_40, zl_41, zl_43, zl_45, zl_50, zl_52, zl_60, zl_97, zl_99, zl_100, zl_124, zl_126, zl_127, zl_169, zl_170, zl_171, zl_195, zl_200, zl_201, zl_256, zl_261, zl_999, zl_1100, zl_1884, zl_4095, zl_4096, zd1, zd2, zs1, nI_add, pk_mul, zsb, zad1, zad2, zcl, zgI, zif_le, zif_nle, zif_lt, zif_nlt, zif_eq, zif_ne, zif_self, zif_T, zif_F, Nat.zero_add, Nat.add_sub_cancel, zn21, zn31, zif_m1, zif_m1l, zif_m1n, zif_pm, zb1_k, zb2_k, zb3_k, zb4_k, zb5_k, zb6_k, zb7_k, zb8_k, zb9_k, zb10_k, zb11_k, zb12_k, zb14_k, zb21_k, zb22_k, zupd_eq, zupd_ne, zupl_eq, zupl_ne, zupf_eq, zupf_ne]
    · rw [fX11_shift_L129_s]
      simp (disch := omega) only [zl_0, zl_1, zl_2, zl_3, zl_4, zl_5, zl_6, zl_8, zl_9, zl_11, zl_12, zl_13, zl_16, zl_20, zl_23, zl_24, zl_30, zl_32, zl_40, zl_41, zl_43, zl_45, zl_50, zl_52, zl_60, zl_97, zl_99, zl_100, zl_124, zl_126, zl_127, zl_169, zl_170, zl_171, zl_195, zl_200, zl_201, zl_256, zl_261, zl_999, zl_1100, zl_1884, zl_4095, zl_4096, zd1, zd2, zs1, nI_add, pk_mul, zsb, zad1, zad2, zcl, zgI, zif_le, zif_nle, zif_lt, zif_nlt, zif_eq, zif_ne, zif_self, zif_T, zif_F, Nat.zero_add, Nat.add_sub_cancel, zn21, zn31, zif_m1, zif_m1l, zif_m1n, zif_pm, zb1_k, zb2_k, zb3_k, zb4_k, zb5_k, zb6_k, zb7_k, zb8_k, zb9_k, zb10_k, zb11_k, zb12_k, zb14_k, zb21_k, zb22_k, zupd_eq, zupd_ne, zupl_eq, zupl_ne, zupf_eq, zupf_ne]
  | succ d ih =>
    intro j fu fu' P0 P1 P2 now hd hfu hfu' h0 h1 h2 hm
    obtain ⟨fu, rfl⟩ : ∃ f, fu = f + 1 := ⟨fu - 1, by omega⟩
    obtain ⟨fu', rfl⟩ : ∃ f, fu' = f + 1 := ⟨fu' - 1, by omega⟩
    have hq : a (201 + 20 * 2 + i0 + j) ≤ a 8 := by
      have := (hv.2.2.2.2 2 (by omega)).2.2.2 (i0 + j) (by omega)
      rw [← Nat.add_assoc] at this
      exact this
    have hkn : now (195 + 2 * 1 + 1) = nI kt := by
      have := hm.2.1 (2 * 1 + 1) (by omega) (Or.inr (by rw [show 195 + (2 * 1 + 1) = 195 + 2 * 1 + 1 by omega, zSh_o (by omega), hkt]; omega))
      rw [show 195 + (2 * 1 + 1) = 195 + 2 * 1 + 1 by omega, zSh_o (by omega), hkt, zs1] at this
      exact this
    have hkd : ∀ x, x < a 8 → fX11_kindOf (nI x) now = some (nI (aK a x)) := fun x hx => by
      rw [fm_kindOf hm (by omega), show aK (zSh a (201 + 20 * 2 + i0) (201 + 20 * 1 + j0) j) x = aK a x from zSh_o (by omega)]
    have f1 := fx_fits (kind := kind) (kk := kt) (q := a (201 + 20 * 2 + i0 + j)) h8 hv.2.2.1 hk hkt2 hq
    have f2 := fm_fits (now := now) (t := 1) (kk := kt) (q := a (201 + 20 * 2 + i0 + j)) h8 hv.2.2.1 (by omega) hkn hkd hkt2 hq
    rw [← hF j (by omega)] at f1
    rw [← hC j (by omega)] at f2
    rcases zFit_d a kt (a (201 + 20 * 2 + i0 + j)) with fit | fit
    · have f1 := f1.1 fit
      have f2 := f2.1 fit
      have hm2 : zMn (zSh a (201 + 20 * 2 + i0) (201 + 20 * 1 + j0) (j + 1)) (upd now (201 + 20 * 1 + j0 + j) (CR j)) := by
        rw [zSh_s, hC j (by omega)]
        exact zMn_up hm (by omega)
      obtain ⟨r, j', Q0, Q1, Q2, now', g0, g1, g2, g3, g4, g5, g6⟩ := ih (j + 1) fu fu' P0 (upd P1 (j0 + j) (F (i0 + j))) P2 (upd now (201 + 20 * 1 + j0 + j) (CR j)) (by omega) (by omega) (by omega) (by rw [zSh_s, show 201 + 20 * 1 + j0 + j = 201 + 20 * 1 + (j0 + j) by omega]; exact zXt_uo (by omega) (by omega) (by omega) (by omega) h0) (by rw [zSh_s, show 201 + 20 * 1 + j0 + j = 201 + 20 * 1 + (j0 + j) by omega]; exact zXt_up (by omega) (by omega) h1 (hF j (by omega))) (by rw [zSh_s, show 201 + 20 * 1 + j0 + j = 201 + 20 * 1 + (j0 + j) by omega]; exact zXt_uo (by omega) (by omega) (by omega) (by omega) h2) hm2
      refine ⟨r, j', Q0, Q1, Q2, now', g0, ?_, ?_, g3, g4, g5, g6⟩
      · rw [fX10_shift_L96xxxxxxx_s]
        simp (disch := omega) only [zl_0, zl_1, zl_2, zl_3, zl_4, zl_5, zl_6, zl_8, zl_9, zl_11, zl_12, zl_13, zl_16, zl_20, zl_23, zl_24, zl_30, zl_32, zl_40, zl_41, zl_43, zl_45, zl_50, zl_52, zl_60, zl_97, zl_99, zl_100, zl_124, zl_126, zl_127, zl_169, zl_170, zl_171, zl_195, zl_200, zl_201, zl_256, zl_261, zl_999, zl_1100, zl_1884, zl_4095, zl_4096, zd1, zd2, zs1, nI_add, pk_mul, zsb, zad1, zad2, zcl, zgI, zif_le, zif_nle, zif_lt, zif_nlt, zif_eq, zif_ne, zif_self, zif_T, zif_F, Nat.zero_add, Nat.add_sub_cancel, zn21, zn31, zif_m1, zif_m1l, zif_m1n, zif_pm, zb1_k, zb2_k, zb3_k, zb4_k, zb5_k, zb6_k, zb7_k, zb8_k, zb9_k, zb10_k, zb11_k, zb12_k, zb14_k, zb21_k, zb22_k, zupd_eq, zupd_ne, zupl_eq, zupl_ne, zupf_eq, zupf_ne, zcpyS, f1, g1]
      · rw [fX11_shift_L129_s]
        simp (disch := omega) only [zl_0, zl_1, zl_2, zl_3, zl_4, zl_5, zl_6, zl_8, zl_9, zl_11, zl_12, zl_13, zl_16, zl_20, zl_23, zl_24, zl_30, zl_32, zl_40, zl_41, zl_43, zl_45, zl_50, zl_52, zl_60, zl_97, zl_99, zl_100, zl_124, zl_126, zl_127, zl_169, zl_170, zl_171, zl_195, zl_200, zl_201, zl_256, zl_261, zl_999, zl_1100, zl_1884, zl_4095, zl_4096, zd1, zd2, zs1, nI_add, pk_mul, zsb, zad1, zad2, zcl, zgI, zif_le, zif_nle, zif_lt, zif_nlt, zif_eq, zif_ne, zif_self, zif_T, zif_F, Nat.zero_add, Nat.add_sub_cancel, zn21, zn31, zif_m1, zif_m1l, zif_m1n, zif_pm, zb1_k, zb2_k, zb3_k, zb4_k, zb5_k, zb6_k, zb7_k, zb8_k, zb9_k, zb10_k, zb11_k, zb12_k, zb14_k, zb21_k, zb22_k, zupd_eq, zupd_ne, zupl_eq, zupl_ne, zupf_eq, zupf_ne, f2, g2]
    · have f1 := f1.2 fit
      have f2 := f2.2 fit
      refine ⟨-nI 12, j, P0, P1, P2, now, by omega, ?_, ?_, h0, h1, h2, hm⟩
      · rw [fX10_shift_L96xxxxxxx_s]
        simp (disch := omega) only [zl_0, zl_1, zl_2, zl_3, zl_4, zl_5, zl_6, zl_8, zl_9, zl_11, zl_12, zl_13, zl_16, zl_20, zl_23, zl_24, zl_30, zl_32, zl_40, zl_41, zl_43, zl_45, zl_50, zl_52, zl_60, zl_97, zl_99, zl_100, zl_124, zl_126, zl_127, zl_169, zl_170, zl_171, zl_195, zl_200, zl_201, zl_256, zl_261, zl_999, zl_1100, zl_1884, zl_4095, zl_4096, zd1, zd2, zs1, nI_add, pk_mul, zsb, zad1, zad2, zcl, zgI, zif_le, zif_nle, zif_lt, zif_nlt, zif_eq, zif_ne, zif_self, zif_T, zif_F, Nat.zero_add, Nat.add_sub_cancel, zn21, zn31, zif_m1, zif_m1l, zif_m1n, zif_pm, zb1_k, zb2_k, zb3_k, zb4_k, zb5_k, zb6_k, zb7_k, zb8_k, zb9_k, zb10_k, zb11_k, zb12_k, zb14_k, zb21_k, zb22_k, zupd_eq, zupd_ne, zupl_eq, zupl_ne, zupf_eq, zupf_ne, zcpyS, f1]
      · rw [fX11_shift_L129_s]
        simp (disch := omega) only [zl_0, zl_1, zl_2, zl_3, zl_4, zl_5, zl_6, zl_8, zl_9, zl_11, zl_12, zl_13, zl_16, zl_20, zl_23, zl_24, zl_30, zl_32, zl_40, zl_41, zl_43, zl_45, zl_50, zl_52, zl_60, zl_97, zl_99, zl_100, zl_124, zl_126, zl_127, zl_169, zl_170, zl_171, zl_195, zl_200, zl_201, zl_256, zl_261, zl_999, zl_1100, zl_1884, zl_4095, zl_4096, zd1, zd2, zs1, nI_add, pk_mul, zsb, zad1, zad2, zcl, zgI, zif_le, zif_nle, zif_lt, zif_nlt, zif_eq, zif_ne, zif_self, zif_T, zif_F, Nat.zero_add, Nat.add_sub_cancel, zn21, zn31, zif_m1, zif_m1l, zif_m1n, zif_pm, zb1_k, zb2_k, zb3_k, zb4_k, zb5_k, zb6_k, zb7_k, zb8_k, zb9_k, zb10_k, zb11_k, zb12_k, zb14_k, zb21_k, zb22_k, zupd_eq, zupd_ne, zupl_eq, zupl_ne, zupf_eq, zupf_ne, f2]
set_option maxHeartbeats 1000000 in
theorem sh_22 {a : Nat → Nat} {kind moved F CR : Nat → Int32} {i0 j0 n kt : Nat} {k0 s0 k1 s1 k2 s2 : Int32} (hv : zV a) (hk : ∀ i, i < a 8 → kind i = nI (aK a i)) (hkt : a (195 + 2 * 2 + 1) = kt + 1) (hkt2 : kt ≤ 2) (hi : i0 + n ≤ 20) (hj : j0 + n ≤ 20) (hF : ∀ x, x < n → F (i0 + x) = nI (a (201 + 20 * 2 + i0 + x)) - nI 1) (hC : ∀ x, x < n → CR x = nI (a (201 + 20 * 2 + i0 + x))) : ∀ (d j fu fu' : Nat) (P0 P1 P2 now : Nat → Int32), j + d = n → d < fu → d < fu' → zXt (zSh a (201 + 20 * 2 + i0) (201 + 20 * 2 + j0) j) 0 k0 s0 P0 → zXt (zSh a (201 + 20 * 2 + i0) (201 + 20 * 2 + j0) j) 1 k1 s1 P1 → zXt (zSh a (201 + 20 * 2 + i0) (201 + 20 * 2 + j0) j) 2 k2 s2 P2 → zMn (zSh a (201 + 20 * 2 + i0) (201 + 20 * 2 + j0) j) now → ∃ r j' Q0 Q1 Q2 now', j' ≤ n ∧ fX10_shift_L96xxxxxxxx (nI kt) moved F (nI (a 8)) kind (nI i0) (nI j0) (nI n) fu (nI j) P0 P1 P2 = some (r, va_cpy F moved i0 0 n, Q0, Q1, Q2) ∧ fX11_shift_L129 (nI 2) (nI j0) (nI n) CR fu' (nI j) now = some (r, now', CR) ∧ zXt (zSh a (201 + 20 * 2 + i0) (201 + 20 * 2 + j0) j') 0 k0 s0 Q0 ∧ zXt (zSh a (201 + 20 * 2 + i0) (201 + 20 * 2 + j0) j') 1 k1 s1 Q1 ∧ zXt (zSh a (201 + 20 * 2 + i0) (201 + 20 * 2 + j0) j') 2 k2 s2 Q2 ∧ zMn (zSh a (201 + 20 * 2 + i0) (201 + 20 * 2 + j0) j') now' := by
  have h8 := hv.2.1
  intro d
  induction d with
  | zero =>
    intro j fu fu' P0 P1 P2 now hd hfu hfu' h0 h1 h2 hm
    obtain ⟨fu, rfl⟩ : ∃ f, fu = f + 1 := ⟨fu - 1, by omega⟩
    obtain ⟨fu', rfl⟩ : ∃ f, fu' = f + 1 := ⟨fu' - 1, by omega⟩
    refine ⟨nI n, j, P0, P1, P2, now, by omega, ?_, ?_, h0, h1, h2, hm⟩
    · rw [fX10_shift_L96xxxxxxxx_s]
      simp (disch := omega) only [zl_0, zl_1, zl_2, zl_3, zl_4, zl_5, zl_6, zl_8, zl_9, zl_11, zl_12, zl_13, zl_16, zl_20, zl_23, zl_24, zl_30, zl_32, zl_40, zl_41, zl_43, zl_45, zl_50, zl_52, zl_60, zl_97, zl_99, zl_100, zl_124, zl_126, zl_127, zl_169, zl_170, zl_171, zl_195, zl_200, zl_201, zl_256, zl_261, zl_999, zl_1100, zl_1884, zl_4095, zl_4096, zd1, zd2, zs1, nI_add, pk_mul, zsb, zad1, zad2, zcl, zgI, zif_le, zif_nle, zif_lt, zif_nlt, zif_eq, zif_ne, zif_self, zif_T, zif_F, Nat.zero_add, Nat.add_sub_cancel, zn21, zn31, zif_m1, zif_m1l, zif_m1n, zif_pm, zb1_k, zb2_k, zb3_k, zb4_k, zb5_k, zb6_k, zb7_k, zb8_k, zb9_k, zb10_k, zb11_k, zb12_k, zb14_k, zb21_k, zb22_k, zupd_eq, zupd_ne, zupl_eq, zupl_ne, zupf_eq, zupf_ne]
    · rw [fX11_shift_L129_s]
      simp (disch := omega) only [zl_0, zl_1, zl_2, zl_3, zl_4, zl_5, zl_6, zl_8, zl_9, zl_11, zl_12, zl_13, zl_16, zl_20, zl_23, zl_24, zl_30, zl_32, zl_40, zl_41, zl_43, zl_45, zl_50, zl_52, zl_60, zl_97, zl_99, zl_100, zl_124, zl_126, zl_127, zl_169, zl_170, zl_171, zl_195, zl_200, zl_201, zl_256, zl_261, zl_999, zl_1100, zl_1884, zl_4095, zl_4096, zd1, zd2, zs1, nI_add, pk_mul, zsb, zad1, zad2, zcl, zgI, zif_le, zif_nle, zif_lt, zif_nlt, zif_eq, zif_ne, zif_self, zif_T, zif_F, Nat.zero_add, Nat.add_sub_cancel, zn21, zn31, zif_m1, zif_m1l, zif_m1n, zif_pm, zb1_k, zb2_k, zb3_k, zb4_k, zb5_k, zb6_k, zb7_k, zb8_k, zb9_k, zb10_k, zb11_k, zb12_k, zb14_k, zb21_k, zb22_k, zupd_eq, zupd_ne, zupl_eq, zupl_ne, zupf_eq, zupf_ne]
  | succ d ih =>
    intro j fu fu' P0 P1 P2 now hd hfu hfu' h0 h1 h2 hm
    obtain ⟨fu, rfl⟩ : ∃ f, fu = f + 1 := ⟨fu - 1, by omega⟩
    obtain ⟨fu', rfl⟩ : ∃ f, fu' = f + 1 := ⟨fu' - 1, by omega⟩
    have hq : a (201 + 20 * 2 + i0 + j) ≤ a 8 := by
      have := (hv.2.2.2.2 2 (by omega)).2.2.2 (i0 + j) (by omega)
      rw [← Nat.add_assoc] at this
      exact this
    have hkn : now (195 + 2 * 2 + 1) = nI kt := by
      have := hm.2.1 (2 * 2 + 1) (by omega) (Or.inr (by rw [show 195 + (2 * 2 + 1) = 195 + 2 * 2 + 1 by omega, zSh_o (by omega), hkt]; omega))
      rw [show 195 + (2 * 2 + 1) = 195 + 2 * 2 + 1 by omega, zSh_o (by omega), hkt, zs1] at this
      exact this
    have hkd : ∀ x, x < a 8 → fX11_kindOf (nI x) now = some (nI (aK a x)) := fun x hx => by
      rw [fm_kindOf hm (by omega), show aK (zSh a (201 + 20 * 2 + i0) (201 + 20 * 2 + j0) j) x = aK a x from zSh_o (by omega)]
    have f1 := fx_fits (kind := kind) (kk := kt) (q := a (201 + 20 * 2 + i0 + j)) h8 hv.2.2.1 hk hkt2 hq
    have f2 := fm_fits (now := now) (t := 2) (kk := kt) (q := a (201 + 20 * 2 + i0 + j)) h8 hv.2.2.1 (by omega) hkn hkd hkt2 hq
    rw [← hF j (by omega)] at f1
    rw [← hC j (by omega)] at f2
    rcases zFit_d a kt (a (201 + 20 * 2 + i0 + j)) with fit | fit
    · have f1 := f1.1 fit
      have f2 := f2.1 fit
      have hm2 : zMn (zSh a (201 + 20 * 2 + i0) (201 + 20 * 2 + j0) (j + 1)) (upd now (201 + 20 * 2 + j0 + j) (CR j)) := by
        rw [zSh_s, hC j (by omega)]
        exact zMn_up hm (by omega)
      obtain ⟨r, j', Q0, Q1, Q2, now', g0, g1, g2, g3, g4, g5, g6⟩ := ih (j + 1) fu fu' P0 P1 (upd P2 (j0 + j) (F (i0 + j))) (upd now (201 + 20 * 2 + j0 + j) (CR j)) (by omega) (by omega) (by omega) (by rw [zSh_s, show 201 + 20 * 2 + j0 + j = 201 + 20 * 2 + (j0 + j) by omega]; exact zXt_uo (by omega) (by omega) (by omega) (by omega) h0) (by rw [zSh_s, show 201 + 20 * 2 + j0 + j = 201 + 20 * 2 + (j0 + j) by omega]; exact zXt_uo (by omega) (by omega) (by omega) (by omega) h1) (by rw [zSh_s, show 201 + 20 * 2 + j0 + j = 201 + 20 * 2 + (j0 + j) by omega]; exact zXt_up (by omega) (by omega) h2 (hF j (by omega))) hm2
      refine ⟨r, j', Q0, Q1, Q2, now', g0, ?_, ?_, g3, g4, g5, g6⟩
      · rw [fX10_shift_L96xxxxxxxx_s]
        simp (disch := omega) only [zl_0, zl_1, zl_2, zl_3, zl_4, zl_5, zl_6, zl_8, zl_9, zl_11, zl_12, zl_13, zl_16, zl_20, zl_23, zl_24, zl_30, zl_32, zl_40, zl_41, zl_43, zl_45, zl_50, zl_52, zl_60, zl_97, zl_99, zl_100, zl_124, zl_126, zl_127, zl_169, zl_170, zl_171, zl_195, zl_200, zl_201, zl_256, zl_261, zl_999, zl_1100, zl_1884, zl_4095, zl_4096, zd1, zd2, zs1, nI_add, pk_mul, zsb, zad1, zad2, zcl, zgI, zif_le, zif_nle, zif_lt, zif_nlt, zif_eq, zif_ne, zif_self, zif_T, zif_F, Nat.zero_add, Nat.add_sub_cancel, zn21, zn31, zif_m1, zif_m1l, zif_m1n, zif_pm, zb1_k, zb2_k, zb3_k, zb4_k, zb5_k, zb6_k, zb7_k, zb8_k, zb9_k, zb10_k, zb11_k, zb12_k, zb14_k, zb21_k, zb22_k, zupd_eq, zupd_ne, zupl_eq, zupl_ne, zupf_eq, zupf_ne, zcpyS, f1, g1]
      · rw [fX11_shift_L129_s]
        simp (disch := omega) only [zl_0, zl_1, zl_2, zl_3, zl_4, zl_5, zl_6, zl_8, zl_9, zl_11, zl_12, zl_13, zl_16, zl_20, zl_23, zl_24, zl_30, zl_32, zl_40, zl_41, zl_43, zl_45, zl_50, zl_52, zl_60, zl_97, zl_99, zl_100, zl_124, zl_126, zl_127, zl_169, zl_170, zl_171, zl_195, zl_200, zl_201, zl_256, zl_261, zl_999, zl_1100, zl_1884, zl_4095, zl_4096, zd1, zd2, zs1, nI_add, pk_mul, zsb, zad1, zad2, zcl, zgI, zif_le, zif_nle, zif_lt, zif_nlt, zif_eq, zif_ne, zif_self, zif_T, zif_F, Nat.zero_add, Nat.add_sub_cancel, zn21, zn31, zif_m1, zif_m1l, zif_m1n, zif_pm, zb1_k, zb2_k, zb3_k, zb4_k, zb5_k, zb6_k, zb7_k, zb8_k, zb9_k, zb10_k, zb11_k, zb12_k, zb14_k, zb21_k, zb22_k, zupd_eq, zupd_ne, zupl_eq, zupl_ne, zupf_eq, zupf_ne, f2, g2]
    · have f1 := f1.2 fit
      have f2 := f2.2 fit
      refine ⟨-nI 12, j, P0, P1, P2, now, by omega, ?_, ?_, h0, h1, h2, hm⟩
      · rw [fX10_shift_L96xxxxxxxx_s]
        simp (disch := omega) only [zl_0, zl_1, zl_2, zl_3, zl_4, zl_5, zl_6, zl_8, zl_9, zl_11, zl_12, zl_13, zl_16, zl_20, zl_23, zl_24, zl_30, zl_32, zl_40, zl_41, zl_43, zl_45, zl_50, zl_52, zl_60, zl_97, zl_99, zl_100, zl_124, zl_126, zl_127, zl_169, zl_170, zl_171, zl_195, zl_200, zl_201, zl_256, zl_261, zl_999, zl_1100, zl_1884, zl_4095, zl_4096, zd1, zd2, zs1, nI_add, pk_mul, zsb, zad1, zad2, zcl, zgI, zif_le, zif_nle, zif_lt, zif_nlt, zif_eq, zif_ne, zif_self, zif_T, zif_F, Nat.zero_add, Nat.add_sub_cancel, zn21, zn31, zif_m1, zif_m1l, zif_m1n, zif_pm, zb1_k, zb2_k, zb3_k, zb4_k, zb5_k, zb6_k, zb7_k, zb8_k, zb9_k, zb10_k, zb11_k, zb12_k, zb14_k, zb21_k, zb22_k, zupd_eq, zupd_ne, zupl_eq, zupl_ne, zupf_eq, zupf_ne, zcpyS, f1]
      · rw [fX11_shift_L129_s]
        simp (disch := omega) only [zl_0, zl_1, zl_2, zl_3, zl_4, zl_5, zl_6, zl_8, zl_9, zl_11, zl_12, zl_13, zl_16, zl_20, zl_23, zl_24, zl_30, zl_32, zl_40, zl_41, zl_43, zl_45, zl_50, zl_52, zl_60, zl_97, zl_99, zl_100, zl_124, zl_126, zl_127, zl_169, zl_170, zl_171, zl_195, zl_200, zl_201, zl_256, zl_261, zl_999, zl_1100, zl_1884, zl_4095, zl_4096, zd1, zd2, zs1, nI_add, pk_mul, zsb, zad1, zad2, zcl, zgI, zif_le, zif_nle, zif_lt, zif_nlt, zif_eq, zif_ne, zif_self, zif_T, zif_F, Nat.zero_add, Nat.add_sub_cancel, zn21, zn31, zif_m1, zif_m1l, zif_m1n, zif_pm, zb1_k, zb2_k, zb3_k, zb4_k, zb5_k, zb6_k, zb7_k, zb8_k, zb9_k, zb10_k, zb11_k, zb12_k, zb14_k, zb21_k, zb22_k, zupd_eq, zupd_ne, zupl_eq, zupl_ne, zupf_eq, zupf_ne, f2]
theorem zgS {R : Type} {i n : Nat} {d : Decidable (¬ nI i < nI 0 ∧ ¬ nI 0 < nI 0 ∧ ¬ nI n < nI 0 ∧ i + n ≤ 20 ∧ n ≤ 20)} {k : Option R} (h : i + n ≤ 20) : @zg R (¬ nI i < nI 0 ∧ ¬ nI 0 < nI 0 ∧ ¬ nI n < nI 0 ∧ i + n ≤ 20 ∧ n ≤ 20) d k = k := if_pos ⟨nI_nlt (by omega) (by omega), by decide, nI_nlt (by omega) (by omega), h, by omega⟩
abbrev zmC (ms : MS) (now c : Nat → Int32) : MS := (ms.1, (ms.2.1.1, ms.2.1.2.1, ms.2.1.2.2.1, ms.2.1.2.2.2.1, now, ms.2.1.2.2.2.2.2), ms.2.2.1, ms.2.2.2.1, ms.2.2.2.2.1, (ms.2.2.2.2.2.1, ms.2.2.2.2.2.2.1, c))
abbrev zxS (xs : XS) (mv p0 p1 p2 : Nat → Int32) : XS := (xs.1, xs.2.1, xs.2.2.1, xs.2.2.2.1, xs.2.2.2.2.1, xs.2.2.2.2.2.1, xs.2.2.2.2.2.2.1, (x_trays_e0_kind xs, x_trays_e0_size xs, p0, x_trays_e1_kind xs, x_trays_e1_size xs, p1, x_trays_e2_kind xs, x_trays_e2_size xs, p2), mv, xs.2.2.2.2.2.2.2.2.2)
theorem zRl_shift {Fd : FD → Prop} {xs : XS} {ms : MS} {p0 p1 p2 now : Nat → Int32} (mv c : Nat → Int32) (h : zRl Fd (zxT xs (x_trays_e0_kind xs) (x_trays_e0_size xs) p0 (x_trays_e1_kind xs) (x_trays_e1_size xs) p1 (x_trays_e2_kind xs) (x_trays_e2_size xs) p2) (zmN ms now)) : zRl Fd (zxS xs mv p0 p1 p2) (zmC ms now c) := h

theorem fm_shift13 {now c : Nat → Int32} {t1 t2 s1 s2 : Nat} {p2 p4 p5 : Int32} (e1 : fX11_isTray (nI t1) = some (nI 1)) (e2 : fX11_isTray (nI t2) = some (nI 1)) (g1 : fX11_sizeOf (nI t1) now = some (nI s1)) (g2 : fX11_sizeOf (nI t2) now = some (nI s2)) (b1 : s1 ≤ 20) (b2 : s2 ≤ 20) (h : p5 < nI 0 ∨ p2 < nI 0 ∨ p4 < nI 0 ∨ (nI s1).toInt64 < p2.toInt64 + p5.toInt64 ∨ (nI s2).toInt64 < p4.toInt64 + p5.toInt64) : fX11_shift (nI t1) p2 (nI t2) p4 p5 now c = some (-nI 13, now, c) := by
  unfold fX11_shift
  by_cases z5 : p5 < nI 0
  · simp (disch := omega) only [zl_0, zl_1, zl_2, zl_3, zl_4, zl_5, zl_6, zl_8, zl_9, zl_11, zl_12, zl_13, zl_16, zl_20, zl_23, zl_24, zl_30, zl_32, zl_40, zl_41, zl_43, zl_45, zl_50, zl_52, zl_60, zl_97, zl_99, zl_100, zl_124, zl_126, zl_127, zl_169, zl_170, zl_171, zl_195, zl_200, zl_201, zl_256, zl_261, zl_999, zl_1100, zl_1884, zl_4095, zl_4096, zd1, zd2, zs1, nI_add, pk_mul, zsb, zad1, zad2, zcl, zgI, zif_le, zif_nle, zif_lt, zif_nlt, zif_eq, zif_ne, zif_self, zif_T, zif_F, Nat.zero_add, Nat.add_sub_cancel, zn21, zn31, zif_m1, zif_m1l, zif_m1n, zif_pm, zb1_k, zb2_k, zb3_k, zb4_k, zb5_k, zb6_k, zb7_k, zb8_k, zb9_k, zb10_k, zb11_k, zb12_k, zb14_k, zb21_k, zb22_k, zupd_eq, zupd_ne, zupl_eq, zupl_ne, zupf_eq, zupf_ne, e1, e2, g1, g2, zft z5]
  · by_cases z2 : p2 < nI 0
    · simp (disch := omega) only [zl_0, zl_1, zl_2, zl_3, zl_4, zl_5, zl_6, zl_8, zl_9, zl_11, zl_12, zl_13, zl_16, zl_20, zl_23, zl_24, zl_30, zl_32, zl_40, zl_41, zl_43, zl_45, zl_50, zl_52, zl_60, zl_97, zl_99, zl_100, zl_124, zl_126, zl_127, zl_169, zl_170, zl_171, zl_195, zl_200, zl_201, zl_256, zl_261, zl_999, zl_1100, zl_1884, zl_4095, zl_4096, zd1, zd2, zs1, nI_add, pk_mul, zsb, zad1, zad2, zcl, zgI, zif_le, zif_nle, zif_lt, zif_nlt, zif_eq, zif_ne, zif_self, zif_T, zif_F, Nat.zero_add, Nat.add_sub_cancel, zn21, zn31, zif_m1, zif_m1l, zif_m1n, zif_pm, zb1_k, zb2_k, zb3_k, zb4_k, zb5_k, zb6_k, zb7_k, zb8_k, zb9_k, zb10_k, zb11_k, zb12_k, zb14_k, zb21_k, zb22_k, zupd_eq, zupd_ne, zupl_eq, zupl_ne, zupf_eq, zupf_ne, e1, e2, g1, g2, zfn z5, zft z2]
    · by_cases z4 : p4 < nI 0
      · simp (disch := omega) only [zl_0, zl_1, zl_2, zl_3, zl_4, zl_5, zl_6, zl_8, zl_9, zl_11, zl_12, zl_13, zl_16, zl_20, zl_23, zl_24, zl_30, zl_32, zl_40, zl_41, zl_43, zl_45, zl_50, zl_52, zl_60, zl_97, zl_99, zl_100, zl_124, zl_126, zl_127, zl_169, zl_170, zl_171, zl_195, zl_200, zl_201, zl_256, zl_261, zl_999, zl_1100, zl_1884, zl_4095, zl_4096, zd1, zd2, zs1, nI_add, pk_mul, zsb, zad1, zad2, zcl, zgI, zif_le, zif_nle, zif_lt, zif_nlt, zif_eq, zif_ne, zif_self, zif_T, zif_F, Nat.zero_add, Nat.add_sub_cancel, zn21, zn31, zif_m1, zif_m1l, zif_m1n, zif_pm, zb1_k, zb2_k, zb3_k, zb4_k, zb5_k, zb6_k, zb7_k, zb8_k, zb9_k, zb10_k, zb11_k, zb12_k, zb14_k, zb21_k, zb22_k, zupd_eq, zupd_ne, zupl_eq, zupl_ne, zupf_eq, zupf_ne, e1, e2, g1, g2, zfn z5, zfn z2, zft z4]
      · by_cases zs : (nI s1).toInt64 < p2.toInt64 + p5.toInt64
        · simp (disch := omega) only [zl_0, zl_1, zl_2, zl_3, zl_4, zl_5, zl_6, zl_8, zl_9, zl_11, zl_12, zl_13, zl_16, zl_20, zl_23, zl_24, zl_30, zl_32, zl_40, zl_41, zl_43, zl_45, zl_50, zl_52, zl_60, zl_97, zl_99, zl_100, zl_124, zl_126, zl_127, zl_169, zl_170, zl_171, zl_195, zl_200, zl_201, zl_256, zl_261, zl_999, zl_1100, zl_1884, zl_4095, zl_4096, zd1, zd2, zs1, nI_add, pk_mul, zsb, zad1, zad2, zcl, zgI, zif_le, zif_nle, zif_lt, zif_nlt, zif_eq, zif_ne, zif_self, zif_T, zif_F, Nat.zero_add, Nat.add_sub_cancel, zn21, zn31, zif_m1, zif_m1l, zif_m1n, zif_pm, zb1_k, zb2_k, zb3_k, zb4_k, zb5_k, zb6_k, zb7_k, zb8_k, zb9_k, zb10_k, zb11_k, zb12_k, zb14_k, zb21_k, zb22_k, zupd_eq, zupd_ne, zupl_eq, zupl_ne, zupf_eq, zupf_ne, e1, e2, g1, g2, zfn z5, zfn z2, zfn z4, zft zs]
        · have zt : ¬ p4.toInt64 + p5.toInt64 ≤ (nI s2).toInt64 := by
            rcases h with h | h | h | h | h
            · exact absurd h z5
            · exact absurd h z2
            · exact absurd h z4
            · exact absurd h zs
            · exact Int64.not_le.mpr h
          simp (disch := omega) only [zl_0, zl_1, zl_2, zl_3, zl_4, zl_5, zl_6, zl_8, zl_9, zl_11, zl_12, zl_13, zl_16, zl_20, zl_23, zl_24, zl_30, zl_32, zl_40, zl_41, zl_43, zl_45, zl_50, zl_52, zl_60, zl_97, zl_99, zl_100, zl_124, zl_126, zl_127, zl_169, zl_170, zl_171, zl_195, zl_200, zl_201, zl_256, zl_261, zl_999, zl_1100, zl_1884, zl_4095, zl_4096, zd1, zd2, zs1, nI_add, pk_mul, zsb, zad1, zad2, zcl, zgI, zif_le, zif_nle, zif_lt, zif_nlt, zif_eq, zif_ne, zif_self, zif_T, zif_F, Nat.zero_add, Nat.add_sub_cancel, zn21, zn31, zif_m1, zif_m1l, zif_m1n, zif_pm, zb1_k, zb2_k, zb3_k, zb4_k, zb5_k, zb6_k, zb7_k, zb8_k, zb9_k, zb10_k, zb11_k, zb12_k, zb14_k, zb21_k, zb22_k, zupd_eq, zupd_ne, zupl_eq, zupl_ne, zupf_eq, zupf_ne, e1, e2, g1, g2, zfn z5, zfn z2, zfn z4, zfn zs, zfn zt]
theorem fm_shiftGo {now c : Nat → Int32} {t1 t2 s1 s2 i0 j0 n : Nat} (e1 : fX11_isTray (nI t1) = some (nI 1)) (e2 : fX11_isTray (nI t2) = some (nI 1)) (g1 : fX11_sizeOf (nI t1) now = some (nI s1)) (g2 : fX11_sizeOf (nI t2) now = some (nI s2)) (b1 : s1 ≤ 20) (b2 : s2 ≤ 20) (bi : i0 ≤ 20) (bj : j0 ≤ 20) (bn : n ≤ 20) (h1 : ¬ (nI s1).toInt64 < (nI i0).toInt64 + (nI n).toInt64) (h2 : ¬ (nI s2).toInt64 < (nI j0).toInt64 + (nI n).toInt64) : fX11_shift (nI t1) (nI i0) (nI t2) (nI j0) (nI n) now c = fX11_shift_L88 (fX11_shift_J126 now (nI t2) (nI j0) (nI n)) now (nI t1) (nI i0) (nI n) 5000 (nI 0) c := by
  have h3 := Int64.not_lt.mp h2
  unfold fX11_shift
  simp (disch := omega) only [zl_0, zl_1, zl_2, zl_3, zl_4, zl_5, zl_6, zl_8, zl_9, zl_11, zl_12, zl_13, zl_16, zl_20, zl_23, zl_24, zl_30, zl_32, zl_40, zl_41, zl_43, zl_45, zl_50, zl_52, zl_60, zl_97, zl_99, zl_100, zl_124, zl_126, zl_127, zl_169, zl_170, zl_171, zl_195, zl_200, zl_201, zl_256, zl_261, zl_999, zl_1100, zl_1884, zl_4095, zl_4096, zd1, zd2, zs1, nI_add, pk_mul, zsb, zad1, zad2, zcl, zgI, zif_le, zif_nle, zif_lt, zif_nlt, zif_eq, zif_ne, zif_self, zif_T, zif_F, Nat.zero_add, Nat.add_sub_cancel, zn21, zn31, zif_m1, zif_m1l, zif_m1n, zif_pm, zb1_k, zb2_k, zb3_k, zb4_k, zb5_k, zb6_k, zb7_k, zb8_k, zb9_k, zb10_k, zb11_k, zb12_k, zb14_k, zb21_k, zb22_k, zupd_eq, zupd_ne, zupl_eq, zupl_ne, zupf_eq, zupf_ne, e1, e2, g1, g2, zfn h1, zft h3]

theorem q_shift {Fd : FD → Prop} {k : Nat} : zQ_shift (zR Fd) k := by
  intro xs ms h p1 p2 p3 p4 p5
  have h0 := h
  obtain ⟨a, hv, hx, hm, hr⟩ := h
  obtain ⟨hB, hN, hM, hT0, hT1, hT2⟩ := id hx
  have hT := hv.2.2.2.2
  have h8 := hv.2.1
  have hc : x_nets_count xs = nI (a 8) := hN.1
  rcases ztray p1 with ⟨e1, e2⟩ | ⟨t1, ht1, rfl, e1, e2⟩
  · refine zfin0 (-nI 1) h0 ?_ ?_
    · unfold stX10_shift fX10_shift
      rw [e1]
      rfl
    · unfold stX11_shift fX11_shift
      rw [e2]
      rfl
  rcases ztray p3 with ⟨e3, e4⟩ | ⟨t2, ht2, rfl, e3, e4⟩
  · refine zfin0 (-nI 1) h0 ?_ ?_
    · unfold stX10_shift fX10_shift
      rw [e1, zb1_k, e3]
      rfl
    · unfold stX11_shift fX11_shift
      rw [e2, zb1_k, e4]
      rfl
  rcases (show t1 = 0 ∨ t1 = 1 ∨ t1 = 2 by omega) with rfl | rfl | rfl
  · rcases (show t2 = 0 ∨ t2 = 1 ∨ t2 = 2 by omega) with rfl | rfl | rfl
    · have hX : stX10_shift (nI 0) p2 (nI 0) p4 p5 xs = zb5 (zb1 (fX9_isMissing (x_trays_e0_kind xs)) (fun r34 => if r34 = 0 then (zb1 (fX9_isMissing (x_trays_e0_kind xs)) (fun r42 => if r42 = 0 then (zb1 (fX9_hasStretch p2 p5 (x_trays_e0_size xs)) (fun r56 => if r56 = 0 then (some ((-13 : Int32), x_moved xs, x_trays_e0_places xs, x_trays_e1_places xs, x_trays_e2_places xs)) else (zb1 (fX9_hasStretch p4 p5 (x_trays_e0_size xs)) (fun r68 => if r68 = 0 then (some ((-13 : Int32), x_moved xs, x_trays_e0_places xs, x_trays_e1_places xs, x_trays_e2_places xs)) else (zg (¬ p2 < 0 ∧ ¬ (0 : Int32) < 0 ∧ ¬ p5 < 0 ∧ (p2).toNatClampNeg + (p5).toNatClampNeg ≤ 20 ∧ ((0 : Int32)).toNatClampNeg + (p5).toNatClampNeg ≤ 20) (fX10_shift_L96 (x_trays_e0_kind xs) (x_moved xs) (x_trays_e0_places xs) (x_nets_count xs) (x_nets_kind xs) p2 p4 p5 5000 (0 : Int32) (x_trays_e0_places xs) (x_trays_e1_places xs) (x_trays_e2_places xs))))))) else (some ((-11 : Int32), x_moved xs, x_trays_e0_places xs, x_trays_e1_places xs, x_trays_e2_places xs)))) else (some ((-11 : Int32), x_moved xs, x_trays_e0_places xs, x_trays_e1_places xs, x_trays_e2_places xs)))) (fun r v0 v1 v2 v3 => some (r, zxS xs v0 v1 v2 v3)) := by
        unfold stX10_shift fX10_shift
        (first | rw [e1, zb1_k, e3, zb1_k] | rw [e1, zb1_k])
        rfl
      rcases zTfacts (t := 0) (by omega) (hT 0 (by omega)) hT0 hm with ⟨z1, z2, z3, z4⟩ | ⟨kk, sz, z1, z2, z3, z4, z5, z6, z7, z8, z9⟩
      · have g3 := fm_sizeOf (t := 0) (by omega) z4
        refine zfin0 (-nI 11) h0 ?_ ?_
        · rw [hX]
          simp (disch := omega) only [zl_0, zl_1, zl_2, zl_3, zl_4, zl_5, zl_6, zl_8, zl_9, zl_11, zl_12, zl_13, zl_16, zl_20, zl_23, zl_24, zl_30, zl_32, zl_40, zl_41, zl_43, zl_45, zl_50, zl_52, zl_60, zl_97, zl_99, zl_100, zl_124, zl_126, zl_127, zl_169, zl_170, zl_171, zl_195, zl_200, zl_201, zl_256, zl_261, zl_999, zl_1100, zl_1884, zl_4095, zl_4096, zd1, zd2, zs1, nI_add, pk_mul, zsb, zad1, zad2, zcl, zgI, zif_le, zif_nle, zif_lt, zif_nlt, zif_eq, zif_ne, zif_self, zif_T, zif_F, Nat.zero_add, Nat.add_sub_cancel, zn21, zn31, zif_m1, zif_m1l, zif_m1n, zif_pm, zb1_k, zb2_k, zb3_k, zb4_k, zb5_k, zb6_k, zb7_k, zb8_k, zb9_k, zb10_k, zb11_k, zb12_k, zb14_k, zb21_k, zb22_k, zupd_eq, zupd_ne, zupl_eq, zupl_ne, zupf_eq, zupf_ne, fX9_isMissing, z3]; try rfl
        · simp (disch := omega) only [stX11_shift, fX11_shift, zl_0, zl_1, zl_2, zl_3, zl_4, zl_5, zl_6, zl_8, zl_9, zl_11, zl_12, zl_13, zl_16, zl_20, zl_23, zl_24, zl_30, zl_32, zl_40, zl_41, zl_43, zl_45, zl_50, zl_52, zl_60, zl_97, zl_99, zl_100, zl_124, zl_126, zl_127, zl_169, zl_170, zl_171, zl_195, zl_200, zl_201, zl_256, zl_261, zl_999, zl_1100, zl_1884, zl_4095, zl_4096, zd1, zd2, zs1, nI_add, pk_mul, zsb, zad1, zad2, zcl, zgI, zif_le, zif_nle, zif_lt, zif_nlt, zif_eq, zif_ne, zif_self, zif_T, zif_F, Nat.zero_add, Nat.add_sub_cancel, zn21, zn31, zif_m1, zif_m1l, zif_m1n, zif_pm, zb1_k, zb2_k, zb3_k, zb4_k, zb5_k, zb6_k, zb7_k, zb8_k, zb9_k, zb10_k, zb11_k, zb12_k, zb14_k, zb21_k, zb22_k, zupd_eq, zupd_ne, zupl_eq, zupl_ne, zupf_eq, zupf_ne, e2, g3, zif_m1l]; try rfl
      have g3 := fm_sizeOf (t := 0) (by omega) z7
      have y2 := z2
      have y3 := z3
      have y4 := z4
      have y5 := z5
      have y6 := z6
      have y7 := z7
      have g4 := g3
      rcases zstr p2 p5 z3 with ⟨f1, w1⟩ | ⟨i0, n, b1, rfl, rfl, f1, w1⟩
      · have hM := fm_shift13 (c := m_carried ms) (p2 := p2) (p4 := p4) (p5 := p5) e2 e4 g3 g4 z3 y3 (by
          rcases w1 with w1 | w1 | w1
          · exact Or.inl w1
          · exact Or.inr (Or.inl w1)
          · exact Or.inr (Or.inr (Or.inr (Or.inl w1))))
        refine zfin0 (-nI 13) h0 ?_ ?_
        · rw [hX]
          simp (disch := omega) only [zl_0, zl_1, zl_2, zl_3, zl_4, zl_5, zl_6, zl_8, zl_9, zl_11, zl_12, zl_13, zl_16, zl_20, zl_23, zl_24, zl_30, zl_32, zl_40, zl_41, zl_43, zl_45, zl_50, zl_52, zl_60, zl_97, zl_99, zl_100, zl_124, zl_126, zl_127, zl_169, zl_170, zl_171, zl_195, zl_200, zl_201, zl_256, zl_261, zl_999, zl_1100, zl_1884, zl_4095, zl_4096, zd1, zd2, zs1, nI_add, pk_mul, zsb, zad1, zad2, zcl, zgI, zif_le, zif_nle, zif_lt, zif_nlt, zif_eq, zif_ne, zif_self, zif_T, zif_F, Nat.zero_add, Nat.add_sub_cancel, zn21, zn31, zif_m1, zif_m1l, zif_m1n, zif_pm, zb1_k, zb2_k, zb3_k, zb4_k, zb5_k, zb6_k, zb7_k, zb8_k, zb9_k, zb10_k, zb11_k, zb12_k, zb14_k, zb21_k, zb22_k, zupd_eq, zupd_ne, zupl_eq, zupl_ne, zupf_eq, zupf_ne, fX9_isMissing, z5, y5, z6, f1]; try rfl
        · unfold stX11_shift
          rw [hM]; try rfl
      rcases zstr p4 (nI n) y3 with ⟨f2, w2⟩ | ⟨j0, n2, b2, rfl, en, f2, w2⟩
      · have hM := fm_shift13 (c := m_carried ms) (p2 := nI i0) (p4 := p4) (p5 := nI n) e2 e4 g3 g4 z3 y3 (by
          rcases w2 with w2 | w2 | w2
          · exact Or.inl w2
          · exact Or.inr (Or.inr (Or.inl w2))
          · exact Or.inr (Or.inr (Or.inr (Or.inr w2))))
        refine zfin0 (-nI 13) h0 ?_ ?_
        · rw [hX]
          simp (disch := omega) only [zl_0, zl_1, zl_2, zl_3, zl_4, zl_5, zl_6, zl_8, zl_9, zl_11, zl_12, zl_13, zl_16, zl_20, zl_23, zl_24, zl_30, zl_32, zl_40, zl_41, zl_43, zl_45, zl_50, zl_52, zl_60, zl_97, zl_99, zl_100, zl_124, zl_126, zl_127, zl_169, zl_170, zl_171, zl_195, zl_200, zl_201, zl_256, zl_261, zl_999, zl_1100, zl_1884, zl_4095, zl_4096, zd1, zd2, zs1, nI_add, pk_mul, zsb, zad1, zad2, zcl, zgI, zif_le, zif_nle, zif_lt, zif_nlt, zif_eq, zif_ne, zif_self, zif_T, zif_F, Nat.zero_add, Nat.add_sub_cancel, zn21, zn31, zif_m1, zif_m1l, zif_m1n, zif_pm, zb1_k, zb2_k, zb3_k, zb4_k, zb5_k, zb6_k, zb7_k, zb8_k, zb9_k, zb10_k, zb11_k, zb12_k, zb14_k, zb21_k, zb22_k, zupd_eq, zupd_ne, zupl_eq, zupl_ne, zupf_eq, zupf_ne, fX9_isMissing, z5, y5, z6, y6, f1, f2]; try rfl
        · unfold stX11_shift
          rw [hM]; try rfl
      have en : n = n2 := (nI_eq (by omega) (by omega)).mp en
      subst en
      have hM := fm_shiftGo (c := m_carried ms) e2 e4 g3 g4 z3 y3 (by omega) (by omega) (by omega) w1 w2
      obtain ⟨c', k1, k2⟩ := fm_carry (now := m_now ms) (t := 0) (i := i0) (n := n) (k := fX11_shift_J126 (m_now ms) (nI 0) (nI j0) (nI n)) (by omega) (by omega) n 0 5000 (m_carried ms) (by omega) (by omega) (fun x hx => by omega)
      have hz := zSh_0 a (201 + 20 * 0 + i0) (201 + 20 * 0 + j0)
      obtain ⟨r, j', Q0, Q1, Q2, now', q0, q1, q2, q3, q4, q5, q6⟩ := sh_00 (kind := x_nets_kind xs) (moved := x_moved xs) (F := x_trays_e0_places xs) (CR := c') (i0 := i0) (j0 := j0) (n := n) (kt := kk) hv hN.2.1 y2 y4 (by omega) (by omega) (fun x hx => by rw [Nat.add_assoc]; exact z9 (i0 + x) (by omega)) (fun x hx => by rw [k2 x hx]; exact hm.2.2 _ (by omega) (by omega)) n 0 5000 5000 (x_trays_e0_places xs) (x_trays_e1_places xs) (x_trays_e2_places xs) (m_now ms) (by omega) (by omega) (by omega) (by rw [hz]; exact hT0) (by rw [hz]; exact hT1) (by rw [hz]; exact hT2) (by rw [hz]; exact hm)
      refine ⟨r, zxS xs (va_cpy (x_trays_e0_places xs) (x_moved xs) i0 0 n) Q0 Q1 Q2, zmC ms now' c', ?_, ?_, zRl_shift _ _ (zRl_tray hv hx hr (zSh_T hT (by omega) (by omega) (by omega) (by omega)) (fun x hx => zSh_o (by omega)) q3 q4 q5 q6)⟩
      · rw [hX]
        simp (disch := omega) only [zl_0, zl_1, zl_2, zl_3, zl_4, zl_5, zl_6, zl_8, zl_9, zl_11, zl_12, zl_13, zl_16, zl_20, zl_23, zl_24, zl_30, zl_32, zl_40, zl_41, zl_43, zl_45, zl_50, zl_52, zl_60, zl_97, zl_99, zl_100, zl_124, zl_126, zl_127, zl_169, zl_170, zl_171, zl_195, zl_200, zl_201, zl_256, zl_261, zl_999, zl_1100, zl_1884, zl_4095, zl_4096, zd1, zd2, zs1, nI_add, pk_mul, zsb, zad1, zad2, zcl, zgI, zif_le, zif_nle, zif_lt, zif_nlt, zif_eq, zif_ne, zif_self, zif_T, zif_F, Nat.zero_add, Nat.add_sub_cancel, zn21, zn31, zif_m1, zif_m1l, zif_m1n, zif_pm, zb1_k, zb2_k, zb3_k, zb4_k, zb5_k, zb6_k, zb7_k, zb8_k, zb9_k, zb10_k, zb11_k, zb12_k, zb14_k, zb21_k, zb22_k, zupd_eq, zupd_ne, zupl_eq, zupl_ne, zupf_eq, zupf_ne, fX9_isMissing, z5, y5, z6, y6, f1, f2, zgS, hc, q1]
      · unfold stX11_shift
        rw [hM, k1]
        unfold fX11_shift_J126
        rw [zl_0, q2]
        rfl
    · have hX : stX10_shift (nI 0) p2 (nI 1) p4 p5 xs = zb5 (zb1 (fX9_isMissing (x_trays_e0_kind xs)) (fun r34 => if r34 = 0 then (zb1 (fX9_isMissing (x_trays_e1_kind xs)) (fun r42 => if r42 = 0 then (zb1 (fX9_hasStretch p2 p5 (x_trays_e0_size xs)) (fun r56 => if r56 = 0 then (some ((-13 : Int32), x_moved xs, x_trays_e0_places xs, x_trays_e1_places xs, x_trays_e2_places xs)) else (zb1 (fX9_hasStretch p4 p5 (x_trays_e1_size xs)) (fun r68 => if r68 = 0 then (some ((-13 : Int32), x_moved xs, x_trays_e0_places xs, x_trays_e1_places xs, x_trays_e2_places xs)) else (zg (¬ p2 < 0 ∧ ¬ (0 : Int32) < 0 ∧ ¬ p5 < 0 ∧ (p2).toNatClampNeg + (p5).toNatClampNeg ≤ 20 ∧ ((0 : Int32)).toNatClampNeg + (p5).toNatClampNeg ≤ 20) (fX10_shift_L96x (x_trays_e1_kind xs) (x_moved xs) (x_trays_e0_places xs) (x_nets_count xs) (x_nets_kind xs) p2 p4 p5 5000 (0 : Int32) (x_trays_e0_places xs) (x_trays_e1_places xs) (x_trays_e2_places xs))))))) else (some ((-11 : Int32), x_moved xs, x_trays_e0_places xs, x_trays_e1_places xs, x_trays_e2_places xs)))) else (some ((-11 : Int32), x_moved xs, x_trays_e0_places xs, x_trays_e1_places xs, x_trays_e2_places xs)))) (fun r v0 v1 v2 v3 => some (r, zxS xs v0 v1 v2 v3)) := by
        unfold stX10_shift fX10_shift
        (first | rw [e1, zb1_k, e3, zb1_k] | rw [e1, zb1_k])
        rfl
      rcases zTfacts (t := 0) (by omega) (hT 0 (by omega)) hT0 hm with ⟨z1, z2, z3, z4⟩ | ⟨kk, sz, z1, z2, z3, z4, z5, z6, z7, z8, z9⟩
      · have g3 := fm_sizeOf (t := 0) (by omega) z4
        refine zfin0 (-nI 11) h0 ?_ ?_
        · rw [hX]
          simp (disch := omega) only [zl_0, zl_1, zl_2, zl_3, zl_4, zl_5, zl_6, zl_8, zl_9, zl_11, zl_12, zl_13, zl_16, zl_20, zl_23, zl_24, zl_30, zl_32, zl_40, zl_41, zl_43, zl_45, zl_50, zl_52, zl_60, zl_97, zl_99, zl_100, zl_124, zl_126, zl_127, zl_169, zl_170, zl_171, zl_195, zl_200, zl_201, zl_256, zl_261, zl_999, zl_1100, zl_1884, zl_4095, zl_4096, zd1, zd2, zs1, nI_add, pk_mul, zsb, zad1, zad2, zcl, zgI, zif_le, zif_nle, zif_lt, zif_nlt, zif_eq, zif_ne, zif_self, zif_T, zif_F, Nat.zero_add, Nat.add_sub_cancel, zn21, zn31, zif_m1, zif_m1l, zif_m1n, zif_pm, zb1_k, zb2_k, zb3_k, zb4_k, zb5_k, zb6_k, zb7_k, zb8_k, zb9_k, zb10_k, zb11_k, zb12_k, zb14_k, zb21_k, zb22_k, zupd_eq, zupd_ne, zupl_eq, zupl_ne, zupf_eq, zupf_ne, fX9_isMissing, z3]; try rfl
        · simp (disch := omega) only [stX11_shift, fX11_shift, zl_0, zl_1, zl_2, zl_3, zl_4, zl_5, zl_6, zl_8, zl_9, zl_11, zl_12, zl_13, zl_16, zl_20, zl_23, zl_24, zl_30, zl_32, zl_40, zl_41, zl_43, zl_45, zl_50, zl_52, zl_60, zl_97, zl_99, zl_100, zl_124, zl_126, zl_127, zl_169, zl_170, zl_171, zl_195, zl_200, zl_201, zl_256, zl_261, zl_999, zl_1100, zl_1884, zl_4095, zl_4096, zd1, zd2, zs1, nI_add, pk_mul, zsb, zad1, zad2, zcl, zgI, zif_le, zif_nle, zif_lt, zif_nlt, zif_eq, zif_ne, zif_self, zif_T, zif_F, Nat.zero_add, Nat.add_sub_cancel, zn21, zn31, zif_m1, zif_m1l, zif_m1n, zif_pm, zb1_k, zb2_k, zb3_k, zb4_k, zb5_k, zb6_k, zb7_k, zb8_k, zb9_k, zb10_k, zb11_k, zb12_k, zb14_k, zb21_k, zb22_k, zupd_eq, zupd_ne, zupl_eq, zupl_ne, zupf_eq, zupf_ne, e2, g3, zif_m1l]; try rfl
      have g3 := fm_sizeOf (t := 0) (by omega) z7
      rcases zTfacts (t := 1) (by omega) (hT 1 (by omega)) hT1 hm with ⟨y1, y2, y3, y4⟩ | ⟨kt, sw, y1, y2, y3, y4, y5, y6, y7, y8, y9⟩
      · have g4 := fm_sizeOf (t := 1) (by omega) y4
        refine zfin0 (-nI 11) h0 ?_ ?_
        · rw [hX]
          simp (disch := omega) only [zl_0, zl_1, zl_2, zl_3, zl_4, zl_5, zl_6, zl_8, zl_9, zl_11, zl_12, zl_13, zl_16, zl_20, zl_23, zl_24, zl_30, zl_32, zl_40, zl_41, zl_43, zl_45, zl_50, zl_52, zl_60, zl_97, zl_99, zl_100, zl_124, zl_126, zl_127, zl_169, zl_170, zl_171, zl_195, zl_200, zl_201, zl_256, zl_261, zl_999, zl_1100, zl_1884, zl_4095, zl_4096, zd1, zd2, zs1, nI_add, pk_mul, zsb, zad1, zad2, zcl, zgI, zif_le, zif_nle, zif_lt, zif_nlt, zif_eq, zif_ne, zif_self, zif_T, zif_F, Nat.zero_add, Nat.add_sub_cancel, zn21, zn31, zif_m1, zif_m1l, zif_m1n, zif_pm, zb1_k, zb2_k, zb3_k, zb4_k, zb5_k, zb6_k, zb7_k, zb8_k, zb9_k, zb10_k, zb11_k, zb12_k, zb14_k, zb21_k, zb22_k, zupd_eq, zupd_ne, zupl_eq, zupl_ne, zupf_eq, zupf_ne, fX9_isMissing, z5, y3]; try rfl
        · simp (disch := omega) only [stX11_shift, fX11_shift, zl_0, zl_1, zl_2, zl_3, zl_4, zl_5, zl_6, zl_8, zl_9, zl_11, zl_12, zl_13, zl_16, zl_20, zl_23, zl_24, zl_30, zl_32, zl_40, zl_41, zl_43, zl_45, zl_50, zl_52, zl_60, zl_97, zl_99, zl_100, zl_124, zl_126, zl_127, zl_169, zl_170, zl_171, zl_195, zl_200, zl_201, zl_256, zl_261, zl_999, zl_1100, zl_1884, zl_4095, zl_4096, zd1, zd2, zs1, nI_add, pk_mul, zsb, zad1, zad2, zcl, zgI, zif_le, zif_nle, zif_lt, zif_nlt, zif_eq, zif_ne, zif_self, zif_T, zif_F, Nat.zero_add, Nat.add_sub_cancel, zn21, zn31, zif_m1, zif_m1l, zif_m1n, zif_pm, zb1_k, zb2_k, zb3_k, zb4_k, zb5_k, zb6_k, zb7_k, zb8_k, zb9_k, zb10_k, zb11_k, zb12_k, zb14_k, zb21_k, zb22_k, zupd_eq, zupd_ne, zupl_eq, zupl_ne, zupf_eq, zupf_ne, e2, e4, g3, g4, zif_7]; try rfl
      have g4 := fm_sizeOf (t := 1) (by omega) y7
      rcases zstr p2 p5 z3 with ⟨f1, w1⟩ | ⟨i0, n, b1, rfl, rfl, f1, w1⟩
      · have hM := fm_shift13 (c := m_carried ms) (p2 := p2) (p4 := p4) (p5 := p5) e2 e4 g3 g4 z3 y3 (by
          rcases w1 with w1 | w1 | w1
          · exact Or.inl w1
          · exact Or.inr (Or.inl w1)
          · exact Or.inr (Or.inr (Or.inr (Or.inl w1))))
        refine zfin0 (-nI 13) h0 ?_ ?_
        · rw [hX]
          simp (disch := omega) only [zl_0, zl_1, zl_2, zl_3, zl_4, zl_5, zl_6, zl_8, zl_9, zl_11, zl_12, zl_13, zl_16, zl_20, zl_23, zl_24, zl_30, zl_32, zl_40, zl_41, zl_43, zl_45, zl_50, zl_52, zl_60, zl_97, zl_99, zl_100, zl_124, zl_126, zl_127, zl_169, zl_170, zl_171, zl_195, zl_200, zl_201, zl_256, zl_261, zl_999, zl_1100, zl_1884, zl_4095, zl_4096, zd1, zd2, zs1, nI_add, pk_mul, zsb, zad1, zad2, zcl, zgI, zif_le, zif_nle, zif_lt, zif_nlt, zif_eq, zif_ne, zif_self, zif_T, zif_F, Nat.zero_add, Nat.add_sub_cancel, zn21, zn31, zif_m1, zif_m1l, zif_m1n, zif_pm, zb1_k, zb2_k, zb3_k, zb4_k, zb5_k, zb6_k, zb7_k, zb8_k, zb9_k, zb10_k, zb11_k, zb12_k, zb14_k, zb21_k, zb22_k, zupd_eq, zupd_ne, zupl_eq, zupl_ne, zupf_eq, zupf_ne, fX9_isMissing, z5, y5, z6, f1]; try rfl
        · unfold stX11_shift
          rw [hM]; try rfl
      rcases zstr p4 (nI n) y3 with ⟨f2, w2⟩ | ⟨j0, n2, b2, rfl, en, f2, w2⟩
      · have hM := fm_shift13 (c := m_carried ms) (p2 := nI i0) (p4 := p4) (p5 := nI n) e2 e4 g3 g4 z3 y3 (by
          rcases w2 with w2 | w2 | w2
          · exact Or.inl w2
          · exact Or.inr (Or.inr (Or.inl w2))
          · exact Or.inr (Or.inr (Or.inr (Or.inr w2))))
        refine zfin0 (-nI 13) h0 ?_ ?_
        · rw [hX]
          simp (disch := omega) only [zl_0, zl_1, zl_2, zl_3, zl_4, zl_5, zl_6, zl_8, zl_9, zl_11, zl_12, zl_13, zl_16, zl_20, zl_23, zl_24, zl_30, zl_32, zl_40, zl_41, zl_43, zl_45, zl_50, zl_52, zl_60, zl_97, zl_99, zl_100, zl_124, zl_126, zl_127, zl_169, zl_170, zl_171, zl_195, zl_200, zl_201, zl_256, zl_261, zl_999, zl_1100, zl_1884, zl_4095, zl_4096, zd1, zd2, zs1, nI_add, pk_mul, zsb, zad1, zad2, zcl, zgI, zif_le, zif_nle, zif_lt, zif_nlt, zif_eq, zif_ne, zif_self, zif_T, zif_F, Nat.zero_add, Nat.add_sub_cancel, zn21, zn31, zif_m1, zif_m1l, zif_m1n, zif_pm, zb1_k, zb2_k, zb3_k, zb4_k, zb5_k, zb6_k, zb7_k, zb8_k, zb9_k, zb10_k, zb11_k, zb12_k, zb14_k, zb21_k, zb22_k, zupd_eq, zupd_ne, zupl_eq, zupl_ne, zupf_eq, zupf_ne, fX9_isMissing, z5, y5, z6, y6, f1, f2]; try rfl
        · unfold stX11_shift
          rw [hM]; try rfl
      have en : n = n2 := (nI_eq (by omega) (by omega)).mp en
      subst en
      have hM := fm_shiftGo (c := m_carried ms) e2 e4 g3 g4 z3 y3 (by omega) (by omega) (by omega) w1 w2
      obtain ⟨c', k1, k2⟩ := fm_carry (now := m_now ms) (t := 0) (i := i0) (n := n) (k := fX11_shift_J126 (m_now ms) (nI 1) (nI j0) (nI n)) (by omega) (by omega) n 0 5000 (m_carried ms) (by omega) (by omega) (fun x hx => by omega)
      have hz := zSh_0 a (201 + 20 * 0 + i0) (201 + 20 * 1 + j0)
      obtain ⟨r, j', Q0, Q1, Q2, now', q0, q1, q2, q3, q4, q5, q6⟩ := sh_01 (kind := x_nets_kind xs) (moved := x_moved xs) (F := x_trays_e0_places xs) (CR := c') (i0 := i0) (j0 := j0) (n := n) (kt := kt) hv hN.2.1 y2 y4 (by omega) (by omega) (fun x hx => by rw [Nat.add_assoc]; exact z9 (i0 + x) (by omega)) (fun x hx => by rw [k2 x hx]; exact hm.2.2 _ (by omega) (by omega)) n 0 5000 5000 (x_trays_e0_places xs) (x_trays_e1_places xs) (x_trays_e2_places xs) (m_now ms) (by omega) (by omega) (by omega) (by rw [hz]; exact hT0) (by rw [hz]; exact hT1) (by rw [hz]; exact hT2) (by rw [hz]; exact hm)
      refine ⟨r, zxS xs (va_cpy (x_trays_e0_places xs) (x_moved xs) i0 0 n) Q0 Q1 Q2, zmC ms now' c', ?_, ?_, zRl_shift _ _ (zRl_tray hv hx hr (zSh_T hT (by omega) (by omega) (by omega) (by omega)) (fun x hx => zSh_o (by omega)) q3 q4 q5 q6)⟩
      · rw [hX]
        simp (disch := omega) only [zl_0, zl_1, zl_2, zl_3, zl_4, zl_5, zl_6, zl_8, zl_9, zl_11, zl_12, zl_13, zl_16, zl_20, zl_23, zl_24, zl_30, zl_32, zl_40, zl_41, zl_43, zl_45, zl_50, zl_52, zl_60, zl_97, zl_99, zl_100, zl_124, zl_126, zl_127, zl_169, zl_170, zl_171, zl_195, zl_200, zl_201, zl_256, zl_261, zl_999, zl_1100, zl_1884, zl_4095, zl_4096, zd1, zd2, zs1, nI_add, pk_mul, zsb, zad1, zad2, zcl, zgI, zif_le, zif_nle, zif_lt, zif_nlt, zif_eq, zif_ne, zif_self, zif_T, zif_F, Nat.zero_add, Nat.add_sub_cancel, zn21, zn31, zif_m1, zif_m1l, zif_m1n, zif_pm, zb1_k, zb2_k, zb3_k, zb4_k, zb5_k, zb6_k, zb7_k, zb8_k, zb9_k, zb10_k, zb11_k, zb12_k, zb14_k, zb21_k, zb22_k, zupd_eq, zupd_ne, zupl_eq, zupl_ne, zupf_eq, zupf_ne, fX9_isMissing, z5, y5, z6, y6, f1, f2, zgS, hc, q1]
      · unfold stX11_shift
        rw [hM, k1]
        unfold fX11_shift_J126
        rw [zl_0, q2]
        rfl
    · have hX : stX10_shift (nI 0) p2 (nI 2) p4 p5 xs = zb5 (zb1 (fX9_isMissing (x_trays_e0_kind xs)) (fun r34 => if r34 = 0 then (zb1 (fX9_isMissing (x_trays_e2_kind xs)) (fun r42 => if r42 = 0 then (zb1 (fX9_hasStretch p2 p5 (x_trays_e0_size xs)) (fun r56 => if r56 = 0 then (some ((-13 : Int32), x_moved xs, x_trays_e0_places xs, x_trays_e1_places xs, x_trays_e2_places xs)) else (zb1 (fX9_hasStretch p4 p5 (x_trays_e2_size xs)) (fun r68 => if r68 = 0 then (some ((-13 : Int32), x_moved xs, x_trays_e0_places xs, x_trays_e1_places xs, x_trays_e2_places xs)) else (zg (¬ p2 < 0 ∧ ¬ (0 : Int32) < 0 ∧ ¬ p5 < 0 ∧ (p2).toNatClampNeg + (p5).toNatClampNeg ≤ 20 ∧ ((0 : Int32)).toNatClampNeg + (p5).toNatClampNeg ≤ 20) (fX10_shift_L96xx (x_trays_e2_kind xs) (x_moved xs) (x_trays_e0_places xs) (x_nets_count xs) (x_nets_kind xs) p2 p4 p5 5000 (0 : Int32) (x_trays_e0_places xs) (x_trays_e1_places xs) (x_trays_e2_places xs))))))) else (some ((-11 : Int32), x_moved xs, x_trays_e0_places xs, x_trays_e1_places xs, x_trays_e2_places xs)))) else (some ((-11 : Int32), x_moved xs, x_trays_e0_places xs, x_trays_e1_places xs, x_trays_e2_places xs)))) (fun r v0 v1 v2 v3 => some (r, zxS xs v0 v1 v2 v3)) := by
        unfold stX10_shift fX10_shift
        (first | rw [e1, zb1_k, e3, zb1_k] | rw [e1, zb1_k])
        rfl
      rcases zTfacts (t := 0) (by omega) (hT 0 (by omega)) hT0 hm with ⟨z1, z2, z3, z4⟩ | ⟨kk, sz, z1, z2, z3, z4, z5, z6, z7, z8, z9⟩
      · have g3 := fm_sizeOf (t := 0) (by omega) z4
        refine zfin0 (-nI 11) h0 ?_ ?_
        · rw [hX]
          simp (disch := omega) only [zl_0, zl_1, zl_2, zl_3, zl_4, zl_5, zl_6, zl_8, zl_9, zl_11, zl_12, zl_13, zl_16, zl_20, zl_23, zl_24, zl_30, zl_32, zl_40, zl_41, zl_43, zl_45, zl_50, zl_52, zl_60, zl_97, zl_99, zl_100, zl_124, zl_126, zl_127, zl_169, zl_170, zl_171, zl_195, zl_200, zl_201, zl_256, zl_261, zl_999, zl_1100, zl_1884, zl_4095, zl_4096, zd1, zd2, zs1, nI_add, pk_mul, zsb, zad1, zad2, zcl, zgI, zif_le, zif_nle, zif_lt, zif_nlt, zif_eq, zif_ne, zif_self, zif_T, zif_F, Nat.zero_add, Nat.add_sub_cancel, zn21, zn31, zif_m1, zif_m1l, zif_m1n, zif_pm, zb1_k, zb2_k, zb3_k, zb4_k, zb5_k, zb6_k, zb7_k, zb8_k, zb9_k, zb10_k, zb11_k, zb12_k, zb14_k, zb21_k, zb22_k, zupd_eq, zupd_ne, zupl_eq, zupl_ne, zupf_eq, zupf_ne, fX9_isMissing, z3]; try rfl
        · simp (disch := omega) only [stX11_shift, fX11_shift, zl_0, zl_1, zl_2, zl_3, zl_4, zl_5, zl_6, zl_8, zl_9, zl_11, zl_12, zl_13, zl_16, zl_20, zl_23, zl_24, zl_30, zl_32, zl_40, zl_41, zl_43, zl_45, zl_50, zl_52, zl_60, zl_97, zl_99, zl_100, zl_124, zl_126, zl_127, zl_169, zl_170, zl_171, zl_195, zl_200, zl_201, zl_256, zl_261, zl_999, zl_1100, zl_1884, zl_4095, zl_4096, zd1, zd2, zs1, nI_add, pk_mul, zsb, zad1, zad2, zcl, zgI, zif_le, zif_nle, zif_lt, zif_nlt, zif_eq, zif_ne, zif_self, zif_T, zif_F, Nat.zero_add, Nat.add_sub_cancel, zn21, zn31, zif_m1, zif_m1l, zif_m1n, zif_pm, zb1_k, zb2_k, zb3_k, zb4_k, zb5_k, zb6_k, zb7_k, zb8_k, zb9_k, zb10_k, zb11_k, zb12_k, zb14_k, zb21_k, zb22_k, zupd_eq, zupd_ne, zupl_eq, zupl_ne, zupf_eq, zupf_ne, e2, g3, zif_m1l]; try rfl
      have g3 := fm_sizeOf (t := 0) (by omega) z7
      rcases zTfacts (t := 2) (by omega) (hT 2 (by omega)) hT2 hm with ⟨y1, y2, y3, y4⟩ | ⟨kt, sw, y1, y2, y3, y4, y5, y6, y7, y8, y9⟩
      · have g4 := fm_sizeOf (t := 2) (by omega) y4
        refine zfin0 (-nI 11) h0 ?_ ?_
        · rw [hX]
          simp (disch := omega) only [zl_0, zl_1, zl_2, zl_3, zl_4, zl_5, zl_6, zl_8, zl_9, zl_11, zl_12, zl_13, zl_16, zl_20, zl_23, zl_24, zl_30, zl_32, zl_40, zl_41, zl_43, zl_45, zl_50, zl_52, zl_60, zl_97, zl_99, zl_100, zl_124, zl_126, zl_127, zl_169, zl_170, zl_171, zl_195, zl_200, zl_201, zl_256, zl_261, zl_999, zl_1100, zl_1884, zl_4095, zl_4096, zd1, zd2, zs1, nI_add, pk_mul, zsb, zad1, zad2, zcl, zgI, zif_le, zif_nle, zif_lt, zif_nlt, zif_eq, zif_ne, zif_self, zif_T, zif_F, Nat.zero_add, Nat.add_sub_cancel, zn21, zn31, zif_m1, zif_m1l, zif_m1n, zif_pm, zb1_k, zb2_k, zb3_k, zb4_k, zb5_k, zb6_k, zb7_k, zb8_k, zb9_k, zb10_k, zb11_k, zb12_k, zb14_k, zb21_k, zb22_k, zupd_eq, zupd_ne, zupl_eq, zupl_ne, zupf_eq, zupf_ne, fX9_isMissing, z5, y3]; try rfl
        · simp (disch := omega) only [stX11_shift, fX11_shift, zl_0, zl_1, zl_2, zl_3, zl_4, zl_5, zl_6, zl_8, zl_9, zl_11, zl_12, zl_13, zl_16, zl_20, zl_23, zl_24, zl_30, zl_32, zl_40, zl_41, zl_43, zl_45, zl_50, zl_52, zl_60, zl_97, zl_99, zl_100, zl_124, zl_126, zl_127, zl_169, zl_170, zl_171, zl_195, zl_200, zl_201, zl_256, zl_261, zl_999, zl_1100, zl_1884, zl_4095, zl_4096, zd1, zd2, zs1, nI_add, pk_mul, zsb, zad1, zad2, zcl, zgI, zif_le, zif_nle, zif_lt, zif_nlt, zif_eq, zif_ne, zif_self, zif_T, zif_F, Nat.zero_add, Nat.add_sub_cancel, zn21, zn31, zif_m1, zif_m1l, zif_m1n, zif_pm, zb1_k, zb2_k, zb3_k, zb4_k, zb5_k, zb6_k, zb7_k, zb8_k, zb9_k, zb10_k, zb11_k, zb12_k, zb14_k, zb21_k, zb22_k, zupd_eq, zupd_ne, zupl_eq, zupl_ne, zupf_eq, zupf_ne, e2, e4, g3, g4, zif_7]; try rfl
      have g4 := fm_sizeOf (t := 2) (by omega) y7
      rcases zstr p2 p5 z3 with ⟨f1, w1⟩ | ⟨i0, n, b1, rfl, rfl, f1, w1⟩
      · have hM := fm_shift13 (c := m_carried ms) (p2 := p2) (p4 := p4) (p5 := p5) e2 e4 g3 g4 z3 y3 (by
          rcases w1 with w1 | w1 | w1
          · exact Or.inl w1
          · exact Or.inr (Or.inl w1)
          · exact Or.inr (Or.inr (Or.inr (Or.inl w1))))
        refine zfin0 (-nI 13) h0 ?_ ?_
        · rw [hX]
          simp (disch := omega) only [zl_0, zl_1, zl_2, zl_3, zl_4, zl_5, zl_6, zl_8, zl_9, zl_11, zl_12, zl_13, zl_16, zl_20, zl_23, zl_24, zl_30, zl_32, zl_40, zl_41, zl_43, zl_45, zl_50, zl_52, zl_60, zl_97, zl_99, zl_100, zl_124, zl_126, zl_127, zl_169, zl_170, zl_171, zl_195, zl_200, zl_201, zl_256, zl_261, zl_999, zl_1100, zl_1884, zl_4095, zl_4096, zd1, zd2, zs1, nI_add, pk_mul, zsb, zad1, zad2, zcl, zgI, zif_le, zif_nle, zif_lt, zif_nlt, zif_eq, zif_ne, zif_self, zif_T, zif_F, Nat.zero_add, Nat.add_sub_cancel, zn21, zn31, zif_m1, zif_m1l, zif_m1n, zif_pm, zb1_k, zb2_k, zb3_k, zb4_k, zb5_k, zb6_k, zb7_k, zb8_k, zb9_k, zb10_k, zb11_k, zb12_k, zb14_k, zb21_k, zb22_k, zupd_eq, zupd_ne, zupl_eq, zupl_ne, zupf_eq, zupf_ne, fX9_isMissing, z5, y5, z6, f1]; try rfl
        · unfold stX11_shift
          rw [hM]; try rfl
      rcases zstr p4 (nI n) y3 with ⟨f2, w2⟩ | ⟨j0, n2, b2, rfl, en, f2, w2⟩
      · have hM := fm_shift13 (c := m_carried ms) (p2 := nI i0) (p4 := p4) (p5 := nI n) e2 e4 g3 g4 z3 y3 (by
          rcases w2 with w2 | w2 | w2
          · exact Or.inl w2
          · exact Or.inr (Or.inr (Or.inl w2))
          · exact Or.inr (Or.inr (Or.inr (Or.inr w2))))
        refine zfin0 (-nI 13) h0 ?_ ?_
        · rw [hX]
          simp (disch := omega) only [zl_0, zl_1, zl_2, zl_3, zl_4, zl_5, zl_6, zl_8, zl_9, zl_11, zl_12, zl_13, zl_16, zl_20, zl_23, zl_24, zl_30, zl_32, zl_40, zl_41, zl_43, zl_45, zl_50, zl_52, zl_60, zl_97, zl_99, zl_100, zl_124, zl_126, zl_127, zl_169, zl_170, zl_171, zl_195, zl_200, zl_201, zl_256, zl_261, zl_999, zl_1100, zl_1884, zl_4095, zl_4096, zd1, zd2, zs1, nI_add, pk_mul, zsb, zad1, zad2, zcl, zgI, zif_le, zif_nle, zif_lt, zif_nlt, zif_eq, zif_ne, zif_self, zif_T, zif_F, Nat.zero_add, Nat.add_sub_cancel, zn21, zn31, zif_m1, zif_m1l, zif_m1n, zif_pm, zb1_k, zb2_k, zb3_k, zb4_k, zb5_k, zb6_k, zb7_k, zb8_k, zb9_k, zb10_k, zb11_k, zb12_k, zb14_k, zb21_k, zb22_k, zupd_eq, zupd_ne, zupl_eq, zupl_ne, zupf_eq, zupf_ne, fX9_isMissing, z5, y5, z6, y6, f1, f2]; try rfl
        · unfold stX11_shift
          rw [hM]; try rfl
      have en : n = n2 := (nI_eq (by omega) (by omega)).mp en
      subst en
      have hM := fm_shiftGo (c := m_carried ms) e2 e4 g3 g4 z3 y3 (by omega) (by omega) (by omega) w1 w2
      obtain ⟨c', k1, k2⟩ := fm_carry (now := m_now ms) (t := 0) (i := i0) (n := n) (k := fX11_shift_J126 (m_now ms) (nI 2) (nI j0) (nI n)) (by omega) (by omega) n 0 5000 (m_carried ms) (by omega) (by omega) (fun x hx => by omega)
      have hz := zSh_0 a (201 + 20 * 0 + i0) (201 + 20 * 2 + j0)
      obtain ⟨r, j', Q0, Q1, Q2, now', q0, q1, q2, q3, q4, q5, q6⟩ := sh_02 (kind := x_nets_kind xs) (moved := x_moved xs) (F := x_trays_e0_places xs) (CR := c') (i0 := i0) (j0 := j0) (n := n) (kt := kt) hv hN.2.1 y2 y4 (by omega) (by omega) (fun x hx => by rw [Nat.add_assoc]; exact z9 (i0 + x) (by omega)) (fun x hx => by rw [k2 x hx]; exact hm.2.2 _ (by omega) (by omega)) n 0 5000 5000 (x_trays_e0_places xs) (x_trays_e1_places xs) (x_trays_e2_places xs) (m_now ms) (by omega) (by omega) (by omega) (by rw [hz]; exact hT0) (by rw [hz]; exact hT1) (by rw [hz]; exact hT2) (by rw [hz]; exact hm)
      refine ⟨r, zxS xs (va_cpy (x_trays_e0_places xs) (x_moved xs) i0 0 n) Q0 Q1 Q2, zmC ms now' c', ?_, ?_, zRl_shift _ _ (zRl_tray hv hx hr (zSh_T hT (by omega) (by omega) (by omega) (by omega)) (fun x hx => zSh_o (by omega)) q3 q4 q5 q6)⟩
      · rw [hX]
        simp (disch := omega) only [zl_0, zl_1, zl_2, zl_3, zl_4, zl_5, zl_6, zl_8, zl_9, zl_11, zl_12, zl_13, zl_16, zl_20, zl_23, zl_24, zl_30, zl_32, zl_40, zl_41, zl_43, zl_45, zl_50, zl_52, zl_60, zl_97, zl_99, zl_100, zl_124, zl_126, zl_127, zl_169, zl_170, zl_171, zl_195, zl_200, zl_201, zl_256, zl_261, zl_999, zl_1100, zl_1884, zl_4095, zl_4096, zd1, zd2, zs1, nI_add, pk_mul, zsb, zad1, zad2, zcl, zgI, zif_le, zif_nle, zif_lt, zif_nlt, zif_eq, zif_ne, zif_self, zif_T, zif_F, Nat.zero_add, Nat.add_sub_cancel, zn21, zn31, zif_m1, zif_m1l, zif_m1n, zif_pm, zb1_k, zb2_k, zb3_k, zb4_k, zb5_k, zb6_k, zb7_k, zb8_k, zb9_k, zb10_k, zb11_k, zb12_k, zb14_k, zb21_k, zb22_k, zupd_eq, zupd_ne, zupl_eq, zupl_ne, zupf_eq, zupf_ne, fX9_isMissing, z5, y5, z6, y6, f1, f2, zgS, hc, q1]
      · unfold stX11_shift
        rw [hM, k1]
        unfold fX11_shift_J126
        rw [zl_0, q2]
        rfl
  · rcases (show t2 = 0 ∨ t2 = 1 ∨ t2 = 2 by omega) with rfl | rfl | rfl
    · have hX : stX10_shift (nI 1) p2 (nI 0) p4 p5 xs = zb5 (zb1 (fX9_isMissing (x_trays_e1_kind xs)) (fun r34 => if r34 = 0 then (zb1 (fX9_isMissing (x_trays_e0_kind xs)) (fun r42 => if r42 = 0 then (zb1 (fX9_hasStretch p2 p5 (x_trays_e1_size xs)) (fun r56 => if r56 = 0 then (some ((-13 : Int32), x_moved xs, x_trays_e0_places xs, x_trays_e1_places xs, x_trays_e2_places xs)) else (zb1 (fX9_hasStretch p4 p5 (x_trays_e0_size xs)) (fun r68 => if r68 = 0 then (some ((-13 : Int32), x_moved xs, x_trays_e0_places xs, x_trays_e1_places xs, x_trays_e2_places xs)) else (zg (¬ p2 < 0 ∧ ¬ (0 : Int32) < 0 ∧ ¬ p5 < 0 ∧ (p2).toNatClampNeg + (p5).toNatClampNeg ≤ 20 ∧ ((0 : Int32)).toNatClampNeg + (p5).toNatClampNeg ≤ 20) (fX10_shift_L96xxx (x_trays_e0_kind xs) (x_moved xs) (x_trays_e1_places xs) (x_nets_count xs) (x_nets_kind xs) p2 p4 p5 5000 (0 : Int32) (x_trays_e0_places xs) (x_trays_e1_places xs) (x_trays_e2_places xs))))))) else (some ((-11 : Int32), x_moved xs, x_trays_e0_places xs, x_trays_e1_places xs, x_trays_e2_places xs)))) else (some ((-11 : Int32), x_moved xs, x_trays_e0_places xs, x_trays_e1_places xs, x_trays_e2_places xs)))) (fun r v0 v1 v2 v3 => some (r, zxS xs v0 v1 v2 v3)) := by
        unfold stX10_shift fX10_shift
        (first | rw [e1, zb1_k, e3, zb1_k] | rw [e1, zb1_k])
        rfl
      rcases zTfacts (t := 1) (by omega) (hT 1 (by omega)) hT1 hm with ⟨z1, z2, z3, z4⟩ | ⟨kk, sz, z1, z2, z3, z4, z5, z6, z7, z8, z9⟩
      · have g3 := fm_sizeOf (t := 1) (by omega) z4
        refine zfin0 (-nI 11) h0 ?_ ?_
        · rw [hX]
          simp (disch := omega) only [zl_0, zl_1, zl_2, zl_3, zl_4, zl_5, zl_6, zl_8, zl_9, zl_11, zl_12, zl_13, zl_16, zl_20, zl_23, zl_24, zl_30, zl_32, zl_40, zl_41, zl_43, zl_45, zl_50, zl_52, zl_60, zl_97, zl_99, zl_100, zl_124, zl_126, zl_127, zl_169, zl_170, zl_171, zl_195, zl_200, zl_201, zl_256, zl_261, zl_999, zl_1100, zl_1884, zl_4095, zl_4096, zd1, zd2, zs1, nI_add, pk_mul, zsb, zad1, zad2, zcl, zgI, zif_le, zif_nle, zif_lt, zif_nlt, zif_eq, zif_ne, zif_self, zif_T, zif_F, Nat.zero_add, Nat.add_sub_cancel, zn21, zn31, zif_m1, zif_m1l, zif_m1n, zif_pm, zb1_k, zb2_k, zb3_k, zb4_k, zb5_k, zb6_k, zb7_k, zb8_k, zb9_k, zb10_k, zb11_k, zb12_k, zb14_k, zb21_k, zb22_k, zupd_eq, zupd_ne, zupl_eq, zupl_ne, zupf_eq, zupf_ne, fX9_isMissing, z3]; try rfl
        · simp (disch := omega) only [stX11_shift, fX11_shift, zl_0, zl_1, zl_2, zl_3, zl_4, zl_5, zl_6, zl_8, zl_9, zl_11, zl_12, zl_13, zl_16, zl_20, zl_23, zl_24, zl_30, zl_32, zl_40, zl_41, zl_43, zl_45, zl_50, zl_52, zl_60, zl_97, zl_99, zl_100, zl_124, zl_126, zl_127, zl_169, zl_170, zl_171, zl_195, zl_200, zl_201, zl_256, zl_261, zl_999, zl_1100, zl_1884, zl_4095, zl_4096, zd1, zd2, zs1, nI_add, pk_mul, zsb, zad1, zad2, zcl, zgI, zif_le, zif_nle, zif_lt, zif_nlt, zif_eq, zif_ne, zif_self, zif_T, zif_F, Nat.zero_add, Nat.add_sub_cancel, zn21, zn31, zif_m1, zif_m1l, zif_m1n, zif_pm, zb1_k, zb2_k, zb3_k, zb4_k, zb5_k, zb6_k, zb7_k, zb8_k, zb9_k, zb10_k, zb11_k, zb12_k, zb14_k, zb21_k, zb22_k, zupd_eq, zupd_ne, zupl_eq, zupl_ne, zupf_eq, zupf_ne, e2, g3, zif_m1l]; try rfl
      have g3 := fm_sizeOf (t := 1) (by omega) z7
      rcases zTfacts (t := 0) (by omega) (hT 0 (by omega)) hT0 hm with ⟨y1, y2, y3, y4⟩ | ⟨kt, sw, y1, y2, y3, y4, y5, y6, y7, y8, y9⟩
      · have g4 := fm_sizeOf (t := 0) (by omega) y4
        refine zfin0 (-nI 11) h0 ?_ ?_
        · rw [hX]
          simp (disch := omega) only [zl_0, zl_1, zl_2, zl_3, zl_4, zl_5, zl_6, zl_8, zl_9, zl_11, zl_12, zl_13, zl_16, zl_20, zl_23, zl_24, zl_30, zl_32, zl_40, zl_41, zl_43, zl_45, zl_50, zl_52, zl_60, zl_97, zl_99, zl_100, zl_124, zl_126, zl_127, zl_169, zl_170, zl_171, zl_195, zl_200, zl_201, zl_256, zl_261, zl_999, zl_1100, zl_1884, zl_4095, zl_4096, zd1, zd2, zs1, nI_add, pk_mul, zsb, zad1, zad2, zcl, zgI, zif_le, zif_nle, zif_lt, zif_nlt, zif_eq, zif_ne, zif_self, zif_T, zif_F, Nat.zero_add, Nat.add_sub_cancel, zn21, zn31, zif_m1, zif_m1l, zif_m1n, zif_pm, zb1_k, zb2_k, zb3_k, zb4_k, zb5_k, zb6_k, zb7_k, zb8_k, zb9_k, zb10_k, zb11_k, zb12_k, zb14_k, zb21_k, zb22_k, zupd_eq, zupd_ne, zupl_eq, zupl_ne, zupf_eq, zupf_ne, fX9_isMissing, z5, y3]; try rfl
        · simp (disch := omega) only [stX11_shift, fX11_shift, zl_0, zl_1, zl_2, zl_3, zl_4, zl_5, zl_6, zl_8, zl_9, zl_11, zl_12, zl_13, zl_16, zl_20, zl_23, zl_24, zl_30, zl_32, zl_40, zl_41, zl_43, zl_45, zl_50, zl_52, zl_60, zl_97, zl_99, zl_100, zl_124, zl_126, zl_127, zl_169, zl_170, zl_171, zl_195, zl_200, zl_201, zl_256, zl_261, zl_999, zl_1100, zl_1884, zl_4095, zl_4096, zd1, zd2, zs1, nI_add, pk_mul, zsb, zad1, zad2, zcl, zgI, zif_le, zif_nle, zif_lt, zif_nlt, zif_eq, zif_ne, zif_self, zif_T, zif_F, Nat.zero_add, Nat.add_sub_cancel, zn21, zn31, zif_m1, zif_m1l, zif_m1n, zif_pm, zb1_k, zb2_k, zb3_k, zb4_k, zb5_k, zb6_k, zb7_k, zb8_k, zb9_k, zb10_k, zb11_k, zb12_k, zb14_k, zb21_k, zb22_k, zupd_eq, zupd_ne, zupl_eq, zupl_ne, zupf_eq, zupf_ne, e2, e4, g3, g4, zif_7]; try rfl
      have g4 := fm_sizeOf (t := 0) (by omega) y7
      rcases zstr p2 p5 z3 with ⟨f1, w1⟩ | ⟨i0, n, b1, rfl, rfl, f1, w1⟩
      · have hM := fm_shift13 (c := m_carried ms) (p2 := p2) (p4 := p4) (p5 := p5) e2 e4 g3 g4 z3 y3 (by
          rcases w1 with w1 | w1 | w1
          · exact Or.inl w1
          · exact Or.inr (Or.inl w1)
          · exact Or.inr (Or.inr (Or.inr (Or.inl w1))))
        refine zfin0 (-nI 13) h0 ?_ ?_
        · rw [hX]
          simp (disch := omega) only [zl_0, zl_1, zl_2, zl_3, zl_4, zl_5, zl_6, zl_8, zl_9, zl_11, zl_12, zl_13, zl_16, zl_20, zl_23, zl_24, zl_30, zl_32, zl_40, zl_41, zl_43, zl_45, zl_50, zl_52, zl_60, zl_97, zl_99, zl_100, zl_124, zl_126, zl_127, zl_169, zl_170, zl_171, zl_195, zl_200, zl_201, zl_256, zl_261, zl_999, zl_1100, zl_1884, zl_4095, zl_4096, zd1, zd2, zs1, nI_add, pk_mul, zsb, zad1, zad2, zcl, zgI, zif_le, zif_nle, zif_lt, zif_nlt, zif_eq, zif_ne, zif_self, zif_T, zif_F, Nat.zero_add, Nat.add_sub_cancel, zn21, zn31, zif_m1, zif_m1l, zif_m1n, zif_pm, zb1_k, zb2_k, zb3_k, zb4_k, zb5_k, zb6_k, zb7_k, zb8_k, zb9_k, zb10_k, zb11_k, zb12_k, zb14_k, zb21_k, zb22_k, zupd_eq, zupd_ne, zupl_eq, zupl_ne, zupf_eq, zupf_ne, fX9_isMissing, z5, y5, z6, f1]; try rfl
        · unfold stX11_shift
          rw [hM]; try rfl
      rcases zstr p4 (nI n) y3 with ⟨f2, w2⟩ | ⟨j0, n2, b2, rfl, en, f2, w2⟩
      · have hM := fm_shift13 (c := m_carried ms) (p2 := nI i0) (p4 := p4) (p5 := nI n) e2 e4 g3 g4 z3 y3 (by
          rcases w2 with w2 | w2 | w2
          · exact Or.inl w2
          · exact Or.inr (Or.inr (Or.inl w2))
          · exact Or.inr (Or.inr (Or.inr (Or.inr w2))))
        refine zfin0 (-nI 13) h0 ?_ ?_
        · rw [hX]
          simp (disch := omega) only [zl_0, zl_1, zl_2, zl_3, zl_4, zl_5, zl_6, zl_8, zl_9, zl_11, zl_12, zl_13, zl_16, zl_20, zl_23, zl_24, zl_30, zl_32, zl_40, zl_41, zl_43, zl_45, zl_50, zl_52, zl_60, zl_97, zl_99, zl_100, zl_124, zl_126, zl_127, zl_169, zl_170, zl_171, zl_195, zl_200, zl_201, zl_256, zl_261, zl_999, zl_1100, zl_1884, zl_4095, zl_4096, zd1, zd2, zs1, nI_add, pk_mul, zsb, zad1, zad2, zcl, zgI, zif_le, zif_nle, zif_lt, zif_nlt, zif_eq, zif_ne, zif_self, zif_T, zif_F, Nat.zero_add, Nat.add_sub_cancel, zn21, zn31, zif_m1, zif_m1l, zif_m1n, zif_pm, zb1_k, zb2_k, zb3_k, zb4_k, zb5_k, zb6_k, zb7_k, zb8_k, zb9_k, zb10_k, zb11_k, zb12_k, zb14_k, zb21_k, zb22_k, zupd_eq, zupd_ne, zupl_eq, zupl_ne, zupf_eq, zupf_ne, fX9_isMissing, z5, y5, z6, y6, f1, f2]; try rfl
        · unfold stX11_shift
          rw [hM]; try rfl
      have en : n = n2 := (nI_eq (by omega) (by omega)).mp en
      subst en
      have hM := fm_shiftGo (c := m_carried ms) e2 e4 g3 g4 z3 y3 (by omega) (by omega) (by omega) w1 w2
      obtain ⟨c', k1, k2⟩ := fm_carry (now := m_now ms) (t := 1) (i := i0) (n := n) (k := fX11_shift_J126 (m_now ms) (nI 0) (nI j0) (nI n)) (by omega) (by omega) n 0 5000 (m_carried ms) (by omega) (by omega) (fun x hx => by omega)
      have hz := zSh_0 a (201 + 20 * 1 + i0) (201 + 20 * 0 + j0)
      obtain ⟨r, j', Q0, Q1, Q2, now', q0, q1, q2, q3, q4, q5, q6⟩ := sh_10 (kind := x_nets_kind xs) (moved := x_moved xs) (F := x_trays_e1_places xs) (CR := c') (i0 := i0) (j0 := j0) (n := n) (kt := kt) hv hN.2.1 y2 y4 (by omega) (by omega) (fun x hx => by rw [Nat.add_assoc]; exact z9 (i0 + x) (by omega)) (fun x hx => by rw [k2 x hx]; exact hm.2.2 _ (by omega) (by omega)) n 0 5000 5000 (x_trays_e0_places xs) (x_trays_e1_places xs) (x_trays_e2_places xs) (m_now ms) (by omega) (by omega) (by omega) (by rw [hz]; exact hT0) (by rw [hz]; exact hT1) (by rw [hz]; exact hT2) (by rw [hz]; exact hm)
      refine ⟨r, zxS xs (va_cpy (x_trays_e1_places xs) (x_moved xs) i0 0 n) Q0 Q1 Q2, zmC ms now' c', ?_, ?_, zRl_shift _ _ (zRl_tray hv hx hr (zSh_T hT (by omega) (by omega) (by omega) (by omega)) (fun x hx => zSh_o (by omega)) q3 q4 q5 q6)⟩
      · rw [hX]
        simp (disch := omega) only [zl_0, zl_1, zl_2, zl_3, zl_4, zl_5, zl_6, zl_8, zl_9, zl_11, zl_12, zl_13, zl_16, zl_20, zl_23, zl_24, zl_30, zl_32, zl_40, zl_41, zl_43, zl_45, zl_50, zl_52, zl_60, zl_97, zl_99, zl_100, zl_124, zl_126, zl_127, zl_169, zl_170, zl_171, zl_195, zl_200, zl_201, zl_256, zl_261, zl_999, zl_1100, zl_1884, zl_4095, zl_4096, zd1, zd2, zs1, nI_add, pk_mul, zsb, zad1, zad2, zcl, zgI, zif_le, zif_nle, zif_lt, zif_nlt, zif_eq, zif_ne, zif_self, zif_T, zif_F, Nat.zero_add, Nat.add_sub_cancel, zn21, zn31, zif_m1, zif_m1l, zif_m1n, zif_pm, zb1_k, zb2_k, zb3_k, zb4_k, zb5_k, zb6_k, zb7_k, zb8_k, zb9_k, zb10_k, zb11_k, zb12_k, zb14_k, zb21_k, zb22_k, zupd_eq, zupd_ne, zupl_eq, zupl_ne, zupf_eq, zupf_ne, fX9_isMissing, z5, y5, z6, y6, f1, f2, zgS, hc, q1]
      · unfold stX11_shift
        rw [hM, k1]
        unfold fX11_shift_J126
        rw [zl_0, q2]
        rfl
    · have hX : stX10_shift (nI 1) p2 (nI 1) p4 p5 xs = zb5 (zb1 (fX9_isMissing (x_trays_e1_kind xs)) (fun r34 => if r34 = 0 then (zb1 (fX9_isMissing (x_trays_e1_kind xs)) (fun r42 => if r42 = 0 then (zb1 (fX9_hasStretch p2 p5 (x_trays_e1_size xs)) (fun r56 => if r56 = 0 then (some ((-13 : Int32), x_moved xs, x_trays_e0_places xs, x_trays_e1_places xs, x_trays_e2_places xs)) else (zb1 (fX9_hasStretch p4 p5 (x_trays_e1_size xs)) (fun r68 => if r68 = 0 then (some ((-13 : Int32), x_moved xs, x_trays_e0_places xs, x_trays_e1_places xs, x_trays_e2_places xs)) else (zg (¬ p2 < 0 ∧ ¬ (0 : Int32) < 0 ∧ ¬ p5 < 0 ∧ (p2).toNatClampNeg + (p5).toNatClampNeg ≤ 20 ∧ ((0 : Int32)).toNatClampNeg + (p5).toNatClampNeg ≤ 20) (fX10_shift_L96xxxx (x_trays_e1_kind xs) (x_moved xs) (x_trays_e1_places xs) (x_nets_count xs) (x_nets_kind xs) p2 p4 p5 5000 (0 : Int32) (x_trays_e0_places xs) (x_trays_e1_places xs) (x_trays_e2_places xs))))))) else (some ((-11 : Int32), x_moved xs, x_trays_e0_places xs, x_trays_e1_places xs, x_trays_e2_places xs)))) else (some ((-11 : Int32), x_moved xs, x_trays_e0_places xs, x_trays_e1_places xs, x_trays_e2_places xs)))) (fun r v0 v1 v2 v3 => some (r, zxS xs v0 v1 v2 v3)) := by
        unfold stX10_shift fX10_shift
        (first | rw [e1, zb1_k, e3, zb1_k] | rw [e1, zb1_k])
        rfl
      rcases zTfacts (t := 1) (by omega) (hT 1 (by omega)) hT1 hm with ⟨z1, z2, z3, z4⟩ | ⟨kk, sz, z1, z2, z3, z4, z5, z6, z7, z8, z9⟩
      · have g3 := fm_sizeOf (t := 1) (by omega) z4
        refine zfin0 (-nI 11) h0 ?_ ?_
        · rw [hX]
          simp (disch := omega) only [zl_0, zl_1, zl_2, zl_3, zl_4, zl_5, zl_6, zl_8, zl_9, zl_11, zl_12, zl_13, zl_16, zl_20, zl_23, zl_24, zl_30, zl_32, zl_40, zl_41, zl_43, zl_45, zl_50, zl_52, zl_60, zl_97, zl_99, zl_100, zl_124, zl_126, zl_127, zl_169, zl_170, zl_171, zl_195, zl_200, zl_201, zl_256, zl_261, zl_999, zl_1100, zl_1884, zl_4095, zl_4096, zd1, zd2, zs1, nI_add, pk_mul, zsb, zad1, zad2, zcl, zgI, zif_le, zif_nle, zif_lt, zif_nlt, zif_eq, zif_ne, zif_self, zif_T, zif_F, Nat.zero_add, Nat.add_sub_cancel, zn21, zn31, zif_m1, zif_m1l, zif_m1n, zif_pm, zb1_k, zb2_k, zb3_k, zb4_k, zb5_k, zb6_k, zb7_k, zb8_k, zb9_k, zb10_k, zb11_k, zb12_k, zb14_k, zb21_k, zb22_k, zupd_eq, zupd_ne, zupl_eq, zupl_ne, zupf_eq, zupf_ne, fX9_isMissing, z3]; try rfl
        · simp (disch := omega) only [stX11_shift, fX11_shift, zl_0, zl_1, zl_2, zl_3, zl_4, zl_5, zl_6, zl_8, zl_9, zl_11, zl_12, zl_13, zl_16, zl_20, zl_23, zl_24, zl_30, zl_32, zl_40, zl_41, zl_43, zl_45, zl_50, zl_52, zl_60, zl_97, zl_99, zl_100, zl_124, zl_126, zl_127, zl_169, zl_170, zl_171, zl_195, zl_200, zl_201, zl_256, zl_261, zl_999, zl_1100, zl_1884, zl_4095, zl_4096, zd1, zd2, zs1, nI_add, pk_mul, zsb, zad1, zad2, zcl, zgI, zif_le, zif_nle, zif_lt, zif_nlt, zif_eq, zif_ne, zif_self, zif_T, zif_F, Nat.zero_add, Nat.add_sub_cancel, zn21, zn31, zif_m1, zif_m1l, zif_m1n, zif_pm, zb1_k, zb2_k, zb3_k, zb4_k, zb5_k, zb6_k, zb7_k, zb8_k, zb9_k, zb10_k, zb11_k, zb12_k, zb14_k, zb21_k, zb22_k, zupd_eq, zupd_ne, zupl_eq, zupl_ne, zupf_eq, zupf_ne, e2, g3, zif_m1l]; try rfl
      have g3 := fm_sizeOf (t := 1) (by omega) z7
      have y2 := z2
      have y3 := z3
      have y4 := z4
      have y5 := z5
      have y6 := z6
      have y7 := z7
      have g4 := g3
      rcases zstr p2 p5 z3 with ⟨f1, w1⟩ | ⟨i0, n, b1, rfl, rfl, f1, w1⟩
      · have hM := fm_shift13 (c := m_carried ms) (p2 := p2) (p4 := p4) (p5 := p5) e2 e4 g3 g4 z3 y3 (by
          rcases w1 with w1 | w1 | w1
          · exact Or.inl w1
          · exact Or.inr (Or.inl w1)
          · exact Or.inr (Or.inr (Or.inr (Or.inl w1))))
        refine zfin0 (-nI 13) h0 ?_ ?_
        · rw [hX]
          simp (disch := omega) only [zl_0, zl_1, zl_2, zl_3, zl_4, zl_5, zl_6, zl_8, zl_9, zl_11, zl_12, zl_13, zl_16, zl_20, zl_23, zl_24, zl_30, zl_32, zl_40, zl_41, zl_43, zl_45, zl_50, zl_52, zl_60, zl_97, zl_99, zl_100, zl_124, zl_126, zl_127, zl_169, zl_170, zl_171, zl_195, zl_200, zl_201, zl_256, zl_261, zl_999, zl_1100, zl_1884, zl_4095, zl_4096, zd1, zd2, zs1, nI_add, pk_mul, zsb, zad1, zad2, zcl, zgI, zif_le, zif_nle, zif_lt, zif_nlt, zif_eq, zif_ne, zif_self, zif_T, zif_F, Nat.zero_add, Nat.add_sub_cancel, zn21, zn31, zif_m1, zif_m1l, zif_m1n, zif_pm, zb1_k, zb2_k, zb3_k, zb4_k, zb5_k, zb6_k, zb7_k, zb8_k, zb9_k, zb10_k, zb11_k, zb12_k, zb14_k, zb21_k, zb22_k, zupd_eq, zupd_ne, zupl_eq, zupl_ne, zupf_eq, zupf_ne, fX9_isMissing, z5, y5, z6, f1]; try rfl
        · unfold stX11_shift
          rw [hM]; try rfl
      rcases zstr p4 (nI n) y3 with ⟨f2, w2⟩ | ⟨j0, n2, b2, rfl, en, f2, w2⟩
      · have hM := fm_shift13 (c := m_carried ms) (p2 := nI i0) (p4 := p4) (p5 := nI n) e2 e4 g3 g4 z3 y3 (by
          rcases w2 with w2 | w2 | w2
          · exact Or.inl w2
          · exact Or.inr (Or.inr (Or.inl w2))
          · exact Or.inr (Or.inr (Or.inr (Or.inr w2))))
        refine zfin0 (-nI 13) h0 ?_ ?_
        · rw [hX]
          simp (disch := omega) only [zl_0, zl_1, zl_2, zl_3, zl_4, zl_5, zl_6, zl_8, zl_9, zl_11, zl_12, zl_13, zl_16, zl_20, zl_23, zl_24, zl_30, zl_32, zl_40, zl_41, zl_43, zl_45, zl_50, zl_52, zl_60, zl_97, zl_99, zl_100, zl_124, zl_126, zl_127, zl_169, zl_170, zl_171, zl_195, zl_200, zl_201, zl_256, zl_261, zl_999, zl_1100, zl_1884, zl_4095, zl_4096, zd1, zd2, zs1, nI_add, pk_mul, zsb, zad1, zad2, zcl, zgI, zif_le, zif_nle, zif_lt, zif_nlt, zif_eq, zif_ne, zif_self, zif_T, zif_F, Nat.zero_add, Nat.add_sub_cancel, zn21, zn31, zif_m1, zif_m1l, zif_m1n, zif_pm, zb1_k, zb2_k, zb3_k, zb4_k, zb5_k, zb6_k, zb7_k, zb8_k, zb9_k, zb10_k, zb11_k, zb12_k, zb14_k, zb21_k, zb22_k, zupd_eq, zupd_ne, zupl_eq, zupl_ne, zupf_eq, zupf_ne, fX9_isMissing, z5, y5, z6, y6, f1, f2]; try rfl
        · unfold stX11_shift
          rw [hM]; try rfl
      have en : n = n2 := (nI_eq (by omega) (by omega)).mp en
      subst en
      have hM := fm_shiftGo (c := m_carried ms) e2 e4 g3 g4 z3 y3 (by omega) (by omega) (by omega) w1 w2
      obtain ⟨c', k1, k2⟩ := fm_carry (now := m_now ms) (t := 1) (i := i0) (n := n) (k := fX11_shift_J126 (m_now ms) (nI 1) (nI j0) (nI n)) (by omega) (by omega) n 0 5000 (m_carried ms) (by omega) (by omega) (fun x hx => by omega)
      have hz := zSh_0 a (201 + 20 * 1 + i0) (201 + 20 * 1 + j0)
      obtain ⟨r, j', Q0, Q1, Q2, now', q0, q1, q2, q3, q4, q5, q6⟩ := sh_11 (kind := x_nets_kind xs) (moved := x_moved xs) (F := x_trays_e1_places xs) (CR := c') (i0 := i0) (j0 := j0) (n := n) (kt := kk) hv hN.2.1 y2 y4 (by omega) (by omega) (fun x hx => by rw [Nat.add_assoc]; exact z9 (i0 + x) (by omega)) (fun x hx => by rw [k2 x hx]; exact hm.2.2 _ (by omega) (by omega)) n 0 5000 5000 (x_trays_e0_places xs) (x_trays_e1_places xs) (x_trays_e2_places xs) (m_now ms) (by omega) (by omega) (by omega) (by rw [hz]; exact hT0) (by rw [hz]; exact hT1) (by rw [hz]; exact hT2) (by rw [hz]; exact hm)
      refine ⟨r, zxS xs (va_cpy (x_trays_e1_places xs) (x_moved xs) i0 0 n) Q0 Q1 Q2, zmC ms now' c', ?_, ?_, zRl_shift _ _ (zRl_tray hv hx hr (zSh_T hT (by omega) (by omega) (by omega) (by omega)) (fun x hx => zSh_o (by omega)) q3 q4 q5 q6)⟩
      · rw [hX]
        simp (disch := omega) only [zl_0, zl_1, zl_2, zl_3, zl_4, zl_5, zl_6, zl_8, zl_9, zl_11, zl_12, zl_13, zl_16, zl_20, zl_23, zl_24, zl_30, zl_32, zl_40, zl_41, zl_43, zl_45, zl_50, zl_52, zl_60, zl_97, zl_99, zl_100, zl_124, zl_126, zl_127, zl_169, zl_170, zl_171, zl_195, zl_200, zl_201, zl_256, zl_261, zl_999, zl_1100, zl_1884, zl_4095, zl_4096, zd1, zd2, zs1, nI_add, pk_mul, zsb, zad1, zad2, zcl, zgI, zif_le, zif_nle, zif_lt, zif_nlt, zif_eq, zif_ne, zif_self, zif_T, zif_F, Nat.zero_add, Nat.add_sub_cancel, zn21, zn31, zif_m1, zif_m1l, zif_m1n, zif_pm, zb1_k, zb2_k, zb3_k, zb4_k, zb5_k, zb6_k, zb7_k, zb8_k, zb9_k, zb10_k, zb11_k, zb12_k, zb14_k, zb21_k, zb22_k, zupd_eq, zupd_ne, zupl_eq, zupl_ne, zupf_eq, zupf_ne, fX9_isMissing, z5, y5, z6, y6, f1, f2, zgS, hc, q1]
      · unfold stX11_shift
        rw [hM, k1]
        unfold fX11_shift_J126
        rw [zl_0, q2]
        rfl
    · have hX : stX10_shift (nI 1) p2 (nI 2) p4 p5 xs = zb5 (zb1 (fX9_isMissing (x_trays_e1_kind xs)) (fun r34 => if r34 = 0 then (zb1 (fX9_isMissing (x_trays_e2_kind xs)) (fun r42 => if r42 = 0 then (zb1 (fX9_hasStretch p2 p5 (x_trays_e1_size xs)) (fun r56 => if r56 = 0 then (some ((-13 : Int32), x_moved xs, x_trays_e0_places xs, x_trays_e1_places xs, x_trays_e2_places xs)) else (zb1 (fX9_hasStretch p4 p5 (x_trays_e2_size xs)) (fun r68 => if r68 = 0 then (some ((-13 : Int32), x_moved xs, x_trays_e0_places xs, x_trays_e1_places xs, x_trays_e2_places xs)) else (zg (¬ p2 < 0 ∧ ¬ (0 : Int32) < 0 ∧ ¬ p5 < 0 ∧ (p2).toNatClampNeg + (p5).toNatClampNeg ≤ 20 ∧ ((0 : Int32)).toNatClampNeg + (p5).toNatClampNeg ≤ 20) (fX10_shift_L96xxxxx (x_trays_e2_kind xs) (x_moved xs) (x_trays_e1_places xs) (x_nets_count xs) (x_nets_kind xs) p2 p4 p5 5000 (0 : Int32) (x_trays_e0_places xs) (x_trays_e1_places xs) (x_trays_e2_places xs))))))) else (some ((-11 : Int32), x_moved xs, x_trays_e0_places xs, x_trays_e1_places xs, x_trays_e2_places xs)))) else (some ((-11 : Int32), x_moved xs, x_trays_e0_places xs, x_trays_e1_places xs, x_trays_e2_places xs)))) (fun r v0 v1 v2 v3 => some (r, zxS xs v0 v1 v2 v3)) := by
        unfold stX10_shift fX10_shift
        (first | rw [e1, zb1_k, e3, zb1_k] | rw [e1, zb1_k])
        rfl
      rcases zTfacts (t := 1) (by omega) (hT 1 (by omega)) hT1 hm with ⟨z1, z2, z3, z4⟩ | ⟨kk, sz, z1, z2, z3, z4, z5, z6, z7, z8, z9⟩
      · have g3 := fm_sizeOf (t := 1) (by omega) z4
        refine zfin0 (-nI 11) h0 ?_ ?_
        · rw [hX]
          simp (disch := omega) only [zl_0, zl_1, zl_2, zl_3, zl_4, zl_5, zl_6, zl_8, zl_9, zl_11, zl_12, zl_13, zl_16, zl_20, zl_23, zl_24, zl_30, zl_32, zl_40, zl_41, zl_43, zl_45, zl_50, zl_52, zl_60, zl_97, zl_99, zl_100, zl_124, zl_126, zl_127, zl_169, zl_170, zl_171, zl_195, zl_200, zl_201, zl_256, zl_261, zl_999, zl_1100, zl_1884, zl_4095, zl_4096, zd1, zd2, zs1, nI_add, pk_mul, zsb, zad1, zad2, zcl, zgI, zif_le, zif_nle, zif_lt, zif_nlt, zif_eq, zif_ne, zif_self, zif_T, zif_F, Nat.zero_add, Nat.add_sub_cancel, zn21, zn31, zif_m1, zif_m1l, zif_m1n, zif_pm, zb1_k, zb2_k, zb3_k, zb4_k, zb5_k, zb6_k, zb7_k, zb8_k, zb9_k, zb10_k, zb11_k, zb12_k, zb14_k, zb21_k, zb22_k, zupd_eq, zupd_ne, zupl_eq, zupl_ne, zupf_eq, zupf_ne, fX9_isMissing, z3]; try rfl
        · simp (disch := omega) only [stX11_shift, fX11_shift, zl_0, zl_1, zl_2, zl_3, zl_4, zl_5, zl_6, zl_8, zl_9, zl_11, zl_12, zl_13, zl_16, zl_20, zl_23, zl_24, zl_30, zl_32, zl_40, zl_41, zl_43, zl_45, zl_50, zl_52, zl_60, zl_97, zl_99, zl_100, zl_124, zl_126, zl_127, zl_169, zl_170, zl_171, zl_195, zl_200, zl_201, zl_256, zl_261, zl_999, zl_1100, zl_1884, zl_4095, zl_4096, zd1, zd2, zs1, nI_add, pk_mul, zsb, zad1, zad2, zcl, zgI, zif_le, zif_nle, zif_lt, zif_nlt, zif_eq, zif_ne, zif_self, zif_T, zif_F, Nat.zero_add, Nat.add_sub_cancel, zn21, zn31, zif_m1, zif_m1l, zif_m1n, zif_pm, zb1_k, zb2_k, zb3_k, zb4_k, zb5_k, zb6_k, zb7_k, zb8_k, zb9_k, zb10_k, zb11_k, zb12_k, zb14_k, zb21_k, zb22_k, zupd_eq, zupd_ne, zupl_eq, zupl_ne, zupf_eq, zupf_ne, e2, g3, zif_m1l]; try rfl
      have g3 := fm_sizeOf (t := 1) (by omega) z7
      rcases zTfacts (t := 2) (by omega) (hT 2 (by omega)) hT2 hm with ⟨y1, y2, y3, y4⟩ | ⟨kt, sw, y1, y2, y3, y4, y5, y6, y7, y8, y9⟩
      · have g4 := fm_sizeOf (t := 2) (by omega) y4
        refine zfin0 (-nI 11) h0 ?_ ?_
        · rw [hX]
          simp (disch := omega) only [zl_0, zl_1, zl_2, zl_3, zl_4, zl_5, zl_6, zl_8, zl_9, zl_11, zl_12, zl_13, zl_16, zl_20, zl_23, zl_24, zl_30, zl_32, zl_40, zl_41, zl_43, zl_45, zl_50, zl_52, zl_60, zl_97, zl_99, zl_100, zl_124, zl_126, zl_127, zl_169, zl_170, zl_171, zl_195, zl_200, zl_201, zl_256, zl_261, zl_999, zl_1100, zl_1884, zl_4095, zl_4096, zd1, zd2, zs1, nI_add, pk_mul, zsb, zad1, zad2, zcl, zgI, zif_le, zif_nle, zif_lt, zif_nlt, zif_eq, zif_ne, zif_self, zif_T, zif_F, Nat.zero_add, Nat.add_sub_cancel, zn21, zn31, zif_m1, zif_m1l, zif_m1n, zif_pm, zb1_k, zb2_k, zb3_k, zb4_k, zb5_k, zb6_k, zb7_k, zb8_k, zb9_k, zb10_k, zb11_k, zb12_k, zb14_k, zb21_k, zb22_k, zupd_eq, zupd_ne, zupl_eq, zupl_ne, zupf_eq, zupf_ne, fX9_isMissing, z5, y3]; try rfl
        · simp (disch := omega) only [stX11_shift, fX11_shift, zl_0, zl_1, zl_2, zl_3, zl_4, zl_5, zl_6, zl_8, zl_9, zl_11, zl_12, zl_13, zl_16, zl_20, zl_23, zl_24, zl_30, zl_32, zl_40, zl_41, zl_43, zl_45, zl_50, zl_52, zl_60, zl_97, zl_99, zl_100, zl_124, zl_126, zl_127, zl_169, zl_170, zl_171, zl_195, zl_200, zl_201, zl_256, zl_261, zl_999, zl_1100, zl_1884, zl_4095, zl_4096, zd1, zd2, zs1, nI_add, pk_mul, zsb, zad1, zad2, zcl, zgI, zif_le, zif_nle, zif_lt, zif_nlt, zif_eq, zif_ne, zif_self, zif_T, zif_F, Nat.zero_add, Nat.add_sub_cancel, zn21, zn31, zif_m1, zif_m1l, zif_m1n, zif_pm, zb1_k, zb2_k, zb3_k, zb4_k, zb5_k, zb6_k, zb7_k, zb8_k, zb9_k, zb10_k, zb11_k, zb12_k, zb14_k, zb21_k, zb22_k, zupd_eq, zupd_ne, zupl_eq, zupl_ne, zupf_eq, zupf_ne, e2, e4, g3, g4, zif_7]; try rfl
      have g4 := fm_sizeOf (t := 2) (by omega) y7
      rcases zstr p2 p5 z3 with ⟨f1, w1⟩ | ⟨i0, n, b1, rfl, rfl, f1, w1⟩
      · have hM := fm_shift13 (c := m_carried ms) (p2 := p2) (p4 := p4) (p5 := p5) e2 e4 g3 g4 z3 y3 (by
          rcases w1 with w1 | w1 | w1
          · exact Or.inl w1
          · exact Or.inr (Or.inl w1)
          · exact Or.inr (Or.inr (Or.inr (Or.inl w1))))
        refine zfin0 (-nI 13) h0 ?_ ?_
        · rw [hX]
          simp (disch := omega) only [zl_0, zl_1, zl_2, zl_3, zl_4, zl_5, zl_6, zl_8, zl_9, zl_11, zl_12, zl_13, zl_16, zl_20, zl_23, zl_24, zl_30, zl_32, zl_40, zl_41, zl_43, zl_45, zl_50, zl_52, zl_60, zl_97, zl_99, zl_100, zl_124, zl_126, zl_127, zl_169, zl_170, zl_171, zl_195, zl_200, zl_201, zl_256, zl_261, zl_999, zl_1100, zl_1884, zl_4095, zl_4096, zd1, zd2, zs1, nI_add, pk_mul, zsb, zad1, zad2, zcl, zgI, zif_le, zif_nle, zif_lt, zif_nlt, zif_eq, zif_ne, zif_self, zif_T, zif_F, Nat.zero_add, Nat.add_sub_cancel, zn21, zn31, zif_m1, zif_m1l, zif_m1n, zif_pm, zb1_k, zb2_k, zb3_k, zb4_k, zb5_k, zb6_k, zb7_k, zb8_k, zb9_k, zb10_k, zb11_k, zb12_k, zb14_k, zb21_k, zb22_k, zupd_eq, zupd_ne, zupl_eq, zupl_ne, zupf_eq, zupf_ne, fX9_isMissing, z5, y5, z6, f1]; try rfl
        · unfold stX11_shift
          rw [hM]; try rfl
      rcases zstr p4 (nI n) y3 with ⟨f2, w2⟩ | ⟨j0, n2, b2, rfl, en, f2, w2⟩
      · have hM := fm_shift13 (c := m_carried ms) (p2 := nI i0) (p4 := p4) (p5 := nI n) e2 e4 g3 g4 z3 y3 (by
          rcases w2 with w2 | w2 | w2
          · exact Or.inl w2
          · exact Or.inr (Or.inr (Or.inl w2))
          · exact Or.inr (Or.inr (Or.inr (Or.inr w2))))
        refine zfin0 (-nI 13) h0 ?_ ?_
        · rw [hX]
          simp (disch := omega) only [zl_0, zl_1, zl_2, zl_3, zl_4, zl_5, zl_6, zl_8, zl_9, zl_11, zl_12, zl_13, zl_16, zl_20, zl_23, zl_24, zl_30, zl_32, zl_40, zl_41, zl_43, zl_45, zl_50, zl_52, zl_60, zl_97, zl_99, zl_100, zl_124, zl_126, zl_127, zl_169, zl_170, zl_171, zl_195, zl_200, zl_201, zl_256, zl_261, zl_999, zl_1100, zl_1884, zl_4095, zl_4096, zd1, zd2, zs1, nI_add, pk_mul, zsb, zad1, zad2, zcl, zgI, zif_le, zif_nle, zif_lt, zif_nlt, zif_eq, zif_ne, zif_self, zif_T, zif_F, Nat.zero_add, Nat.add_sub_cancel, zn21, zn31, zif_m1, zif_m1l, zif_m1n, zif_pm, zb1_k, zb2_k, zb3_k, zb4_k, zb5_k, zb6_k, zb7_k, zb8_k, zb9_k, zb10_k, zb11_k, zb12_k, zb14_k, zb21_k, zb22_k, zupd_eq, zupd_ne, zupl_eq, zupl_ne, zupf_eq, zupf_ne, fX9_isMissing, z5, y5, z6, y6, f1, f2]; try rfl
        · unfold stX11_shift
          rw [hM]; try rfl
      have en : n = n2 := (nI_eq (by omega) (by omega)).mp en
      subst en
      have hM := fm_shiftGo (c := m_carried ms) e2 e4 g3 g4 z3 y3 (by omega) (by omega) (by omega) w1 w2
      obtain ⟨c', k1, k2⟩ := fm_carry (now := m_now ms) (t := 1) (i := i0) (n := n) (k := fX11_shift_J126 (m_now ms) (nI 2) (nI j0) (nI n)) (by omega) (by omega) n 0 5000 (m_carried ms) (by omega) (by omega) (fun x hx => by omega)
      have hz := zSh_0 a (201 + 20 * 1 + i0) (201 + 20 * 2 + j0)
      obtain ⟨r, j', Q0, Q1, Q2, now', q0, q1, q2, q3, q4, q5, q6⟩ := sh_12 (kind := x_nets_kind xs) (moved := x_moved xs) (F := x_trays_e1_places xs) (CR := c') (i0 := i0) (j0 := j0) (n := n) (kt := kt) hv hN.2.1 y2 y4 (by omega) (by omega) (fun x hx => by rw [Nat.add_assoc]; exact z9 (i0 + x) (by omega)) (fun x hx => by rw [k2 x hx]; exact hm.2.2 _ (by omega) (by omega)) n 0 5000 5000 (x_trays_e0_places xs) (x_trays_e1_places xs) (x_trays_e2_places xs) (m_now ms) (by omega) (by omega) (by omega) (by rw [hz]; exact hT0) (by rw [hz]; exact hT1) (by rw [hz]; exact hT2) (by rw [hz]; exact hm)
      refine ⟨r, zxS xs (va_cpy (x_trays_e1_places xs) (x_moved xs) i0 0 n) Q0 Q1 Q2, zmC ms now' c', ?_, ?_, zRl_shift _ _ (zRl_tray hv hx hr (zSh_T hT (by omega) (by omega) (by omega) (by omega)) (fun x hx => zSh_o (by omega)) q3 q4 q5 q6)⟩
      · rw [hX]
        simp (disch := omega) only [zl_0, zl_1, zl_2, zl_3, zl_4, zl_5, zl_6, zl_8, zl_9, zl_11, zl_12, zl_13, zl_16, zl_20, zl_23, zl_24, zl_30, zl_32, zl_40, zl_41, zl_43, zl_45, zl_50, zl_52, zl_60, zl_97, zl_99, zl_100, zl_124, zl_126, zl_127, zl_169, zl_170, zl_171, zl_195, zl_200, zl_201, zl_256, zl_261, zl_999, zl_1100, zl_1884, zl_4095, zl_4096, zd1, zd2, zs1, nI_add, pk_mul, zsb, zad1, zad2, zcl, zgI, zif_le, zif_nle, zif_lt, zif_nlt, zif_eq, zif_ne, zif_self, zif_T, zif_F, Nat.zero_add, Nat.add_sub_cancel, zn21, zn31, zif_m1, zif_m1l, zif_m1n, zif_pm, zb1_k, zb2_k, zb3_k, zb4_k, zb5_k, zb6_k, zb7_k, zb8_k, zb9_k, zb10_k, zb11_k, zb12_k, zb14_k, zb21_k, zb22_k, zupd_eq, zupd_ne, zupl_eq, zupl_ne, zupf_eq, zupf_ne, fX9_isMissing, z5, y5, z6, y6, f1, f2, zgS, hc, q1]
      · unfold stX11_shift
        rw [hM, k1]
        unfold fX11_shift_J126
        rw [zl_0, q2]
        rfl
  · rcases (show t2 = 0 ∨ t2 = 1 ∨ t2 = 2 by omega) with rfl | rfl | rfl
    · have hX : stX10_shift (nI 2) p2 (nI 0) p4 p5 xs = zb5 (zb1 (fX9_isMissing (x_trays_e2_kind xs)) (fun r34 => if r34 = 0 then (zb1 (fX9_isMissing (x_trays_e0_kind xs)) (fun r42 => if r42 = 0 then (zb1 (fX9_hasStretch p2 p5 (x_trays_e2_size xs)) (fun r56 => if r56 = 0 then (some ((-13 : Int32), x_moved xs, x_trays_e0_places xs, x_trays_e1_places xs, x_trays_e2_places xs)) else (zb1 (fX9_hasStretch p4 p5 (x_trays_e0_size xs)) (fun r68 => if r68 = 0 then (some ((-13 : Int32), x_moved xs, x_trays_e0_places xs, x_trays_e1_places xs, x_trays_e2_places xs)) else (zg (¬ p2 < 0 ∧ ¬ (0 : Int32) < 0 ∧ ¬ p5 < 0 ∧ (p2).toNatClampNeg + (p5).toNatClampNeg ≤ 20 ∧ ((0 : Int32)).toNatClampNeg + (p5).toNatClampNeg ≤ 20) (fX10_shift_L96xxxxxx (x_trays_e0_kind xs) (x_moved xs) (x_trays_e2_places xs) (x_nets_count xs) (x_nets_kind xs) p2 p4 p5 5000 (0 : Int32) (x_trays_e0_places xs) (x_trays_e1_places xs) (x_trays_e2_places xs))))))) else (some ((-11 : Int32), x_moved xs, x_trays_e0_places xs, x_trays_e1_places xs, x_trays_e2_places xs)))) else (some ((-11 : Int32), x_moved xs, x_trays_e0_places xs, x_trays_e1_places xs, x_trays_e2_places xs)))) (fun r v0 v1 v2 v3 => some (r, zxS xs v0 v1 v2 v3)) := by
        unfold stX10_shift fX10_shift
        (first | rw [e1, zb1_k, e3, zb1_k] | rw [e1, zb1_k])
        rfl
      rcases zTfacts (t := 2) (by omega) (hT 2 (by omega)) hT2 hm with ⟨z1, z2, z3, z4⟩ | ⟨kk, sz, z1, z2, z3, z4, z5, z6, z7, z8, z9⟩
      · have g3 := fm_sizeOf (t := 2) (by omega) z4
        refine zfin0 (-nI 11) h0 ?_ ?_
        · rw [hX]
          simp (disch := omega) only [zl_0, zl_1, zl_2, zl_3, zl_4, zl_5, zl_6, zl_8, zl_9, zl_11, zl_12, zl_13, zl_16, zl_20, zl_23, zl_24, zl_30, zl_32, zl_40, zl_41, zl_43, zl_45, zl_50, zl_52, zl_60, zl_97, zl_99, zl_100, zl_124, zl_126, zl_127, zl_169, zl_170, zl_171, zl_195, zl_200, zl_201, zl_256, zl_261, zl_999, zl_1100, zl_1884, zl_4095, zl_4096, zd1, zd2, zs1, nI_add, pk_mul, zsb, zad1, zad2, zcl, zgI, zif_le, zif_nle, zif_lt, zif_nlt, zif_eq, zif_ne, zif_self, zif_T, zif_F, Nat.zero_add, Nat.add_sub_cancel, zn21, zn31, zif_m1, zif_m1l, zif_m1n, zif_pm, zb1_k, zb2_k, zb3_k, zb4_k, zb5_k, zb6_k, zb7_k, zb8_k, zb9_k, zb10_k, zb11_k, zb12_k, zb14_k, zb21_k, zb22_k, zupd_eq, zupd_ne, zupl_eq, zupl_ne, zupf_eq, zupf_ne, fX9_isMissing, z3]; try rfl
        · simp (disch := omega) only [stX11_shift, fX11_shift, zl_0, zl_1, zl_2, zl_3, zl_4, zl_5, zl_6, zl_8, zl_9, zl_11, zl_12, zl_13, zl_16, zl_20, zl_23, zl_24, zl_30, zl_32, zl_40, zl_41, zl_43, zl_45, zl_50, zl_52, zl_60, zl_97, zl_99, zl_100, zl_124, zl_126, zl_127, zl_169, zl_170, zl_171, zl_195, zl_200, zl_201, zl_256, zl_261, zl_999, zl_1100, zl_1884, zl_4095, zl_4096, zd1, zd2, zs1, nI_add, pk_mul, zsb, zad1, zad2, zcl, zgI, zif_le, zif_nle, zif_lt, zif_nlt, zif_eq, zif_ne, zif_self, zif_T, zif_F, Nat.zero_add, Nat.add_sub_cancel, zn21, zn31, zif_m1, zif_m1l, zif_m1n, zif_pm, zb1_k, zb2_k, zb3_k, zb4_k, zb5_k, zb6_k, zb7_k, zb8_k, zb9_k, zb10_k, zb11_k, zb12_k, zb14_k, zb21_k, zb22_k, zupd_eq, zupd_ne, zupl_eq, zupl_ne, zupf_eq, zupf_ne, e2, g3, zif_m1l]; try rfl
      have g3 := fm_sizeOf (t := 2) (by omega) z7
      rcases zTfacts (t := 0) (by omega) (hT 0 (by omega)) hT0 hm with ⟨y1, y2, y3, y4⟩ | ⟨kt, sw, y1, y2, y3, y4, y5, y6, y7, y8, y9⟩
      · have g4 := fm_sizeOf (t := 0) (by omega) y4
        refine zfin0 (-nI 11) h0 ?_ ?_
        · rw [hX]
          simp (disch := omega) only [zl_0, zl_1, zl_2, zl_3, zl_4, zl_5, zl_6, zl_8, zl_9, zl_11, zl_12, zl_13, zl_16, zl_20, zl_23, zl_24, zl_30, zl_32, zl_40, zl_41, zl_43, zl_45, zl_50, zl_52, zl_60, zl_97, zl_99, zl_100, zl_124, zl_126, zl_127, zl_169, zl_170, zl_171, zl_195, zl_200, zl_201, zl_256, zl_261, zl_999, zl_1100, zl_1884, zl_4095, zl_4096, zd1, zd2, zs1, nI_add, pk_mul, zsb, zad1, zad2, zcl, zgI, zif_le, zif_nle, zif_lt, zif_nlt, zif_eq, zif_ne, zif_self, zif_T, zif_F, Nat.zero_add, Nat.add_sub_cancel, zn21, zn31, zif_m1, zif_m1l, zif_m1n, zif_pm, zb1_k, zb2_k, zb3_k, zb4_k, zb5_k, zb6_k, zb7_k, zb8_k, zb9_k, zb10_k, zb11_k, zb12_k, zb14_k, zb21_k, zb22_k, zupd_eq, zupd_ne, zupl_eq, zupl_ne, zupf_eq, zupf_ne, fX9_isMissing, z5, y3]; try rfl
        · simp (disch := omega) only [stX11_shift, fX11_shift, zl_0, zl_1, zl_2, zl_3, zl_4, zl_5, zl_6, zl_8, zl_9, zl_11, zl_12, zl_13, zl_16, zl_20, zl_23, zl_24, zl_30, zl_32, zl_40, zl_41, zl_43, zl_45, zl_50, zl_52, zl_60, zl_97, zl_99, zl_100, zl_124, zl_126, zl_127, zl_169, zl_170, zl_171, zl_195, zl_200, zl_201, zl_256, zl_261, zl_999, zl_1100, zl_1884, zl_4095, zl_4096, zd1, zd2, zs1, nI_add, pk_mul, zsb, zad1, zad2, zcl, zgI, zif_le, zif_nle, zif_lt, zif_nlt, zif_eq, zif_ne, zif_self, zif_T, zif_F, Nat.zero_add, Nat.add_sub_cancel, zn21, zn31, zif_m1, zif_m1l, zif_m1n, zif_pm, zb1_k, zb2_k, zb3_k, zb4_k, zb5_k, zb6_k, zb7_k, zb8_k, zb9_k, zb10_k, zb11_k, zb12_k, zb14_k, zb21_k, zb22_k, zupd_eq, zupd_ne, zupl_eq, zupl_ne, zupf_eq, zupf_ne, e2, e4, g3, g4, zif_7]; try rfl
      have g4 := fm_sizeOf (t := 0) (by omega) y7
      rcases zstr p2 p5 z3 with ⟨f1, w1⟩ | ⟨i0, n, b1, rfl, rfl, f1, w1⟩
      · have hM := fm_shift13 (c := m_carried ms) (p2 := p2) (p4 := p4) (p5 := p5) e2 e4 g3 g4 z3 y3 (by
          rcases w1 with w1 | w1 | w1
          · exact Or.inl w1
          · exact Or.inr (Or.inl w1)
          · exact Or.inr (Or.inr (Or.inr (Or.inl w1))))
        refine zfin0 (-nI 13) h0 ?_ ?_
        · rw [hX]
          simp (disch := omega) only [zl_0, zl_1, zl_2, zl_3, zl_4, zl_5, zl_6, zl_8, zl_9, zl_11, zl_12, zl_13, zl_16, zl_20, zl_23, zl_24, zl_30, zl_32, zl_40, zl_41, zl_43, zl_45, zl_50, zl_52, zl_60, zl_97, zl_99, zl_100, zl_124, zl_126, zl_127, zl_169, zl_170, zl_171, zl_195, zl_200, zl_201, zl_256, zl_261, zl_999, zl_1100, zl_1884, zl_4095, zl_4096, zd1, zd2, zs1, nI_add, pk_mul, zsb, zad1, zad2, zcl, zgI, zif_le, zif_nle, zif_lt, zif_nlt, zif_eq, zif_ne, zif_self, zif_T, zif_F, Nat.zero_add, Nat.add_sub_cancel, zn21, zn31, zif_m1, zif_m1l, zif_m1n, zif_pm, zb1_k, zb2_k, zb3_k, zb4_k, zb5_k, zb6_k, zb7_k, zb8_k, zb9_k, zb10_k, zb11_k, zb12_k, zb14_k, zb21_k, zb22_k, zupd_eq, zupd_ne, zupl_eq, zupl_ne, zupf_eq, zupf_ne, fX9_isMissing, z5, y5, z6, f1]; try rfl
        · unfold stX11_shift
          rw [hM]; try rfl
      rcases zstr p4 (nI n) y3 with ⟨f2, w2⟩ | ⟨j0, n2, b2, rfl, en, f2, w2⟩
      · have hM := fm_shift13 (c := m_carried ms) (p2 := nI i0) (p4 := p4) (p5 := nI n) e2 e4 g3 g4 z3 y3 (by
          rcases w2 with w2 | w2 | w2
          · exact Or.inl w2
          · exact Or.inr (Or.inr (Or.inl w2))
          · exact Or.inr (Or.inr (Or.inr (Or.inr w2))))
        refine zfin0 (-nI 13) h0 ?_ ?_
        · rw [hX]
          simp (disch := omega) only [zl_0, zl_1, zl_2, zl_3, zl_4, zl_5, zl_6, zl_8, zl_9, zl_11, zl_12, zl_13, zl_16, zl_20, zl_23, zl_24, zl_30, zl_32, zl_40, zl_41, zl_43, zl_45, zl_50, zl_52, zl_60, zl_97, zl_99, zl_100, zl_124, zl_126, zl_127, zl_169, zl_170, zl_171, zl_195, zl_200, zl_201, zl_256, zl_261, zl_999, zl_1100, zl_1884, zl_4095, zl_4096, zd1, zd2, zs1, nI_add, pk_mul, zsb, zad1, zad2, zcl, zgI, zif_le, zif_nle, zif_lt, zif_nlt, zif_eq, zif_ne, zif_self, zif_T, zif_F, Nat.zero_add, Nat.add_sub_cancel, zn21, zn31, zif_m1, zif_m1l, zif_m1n, zif_pm, zb1_k, zb2_k, zb3_k, zb4_k, zb5_k, zb6_k, zb7_k, zb8_k, zb9_k, zb10_k, zb11_k, zb12_k, zb14_k, zb21_k, zb22_k, zupd_eq, zupd_ne, zupl_eq, zupl_ne, zupf_eq, zupf_ne, fX9_isMissing, z5, y5, z6, y6, f1, f2]; try rfl
        · unfold stX11_shift
          rw [hM]; try rfl
      have en : n = n2 := (nI_eq (by omega) (by omega)).mp en
      subst en
      have hM := fm_shiftGo (c := m_carried ms) e2 e4 g3 g4 z3 y3 (by omega) (by omega) (by omega) w1 w2
      obtain ⟨c', k1, k2⟩ := fm_carry (now := m_now ms) (t := 2) (i := i0) (n := n) (k := fX11_shift_J126 (m_now ms) (nI 0) (nI j0) (nI n)) (by omega) (by omega) n 0 5000 (m_carried ms) (by omega) (by omega) (fun x hx => by omega)
      have hz := zSh_0 a (201 + 20 * 2 + i0) (201 + 20 * 0 + j0)
      obtain ⟨r, j', Q0, Q1, Q2, now', q0, q1, q2, q3, q4, q5, q6⟩ := sh_20 (kind := x_nets_kind xs) (moved := x_moved xs) (F := x_trays_e2_places xs) (CR := c') (i0 := i0) (j0 := j0) (n := n) (kt := kt) hv hN.2.1 y2 y4 (by omega) (by omega) (fun x hx => by rw [Nat.add_assoc]; exact z9 (i0 + x) (by omega)) (fun x hx => by rw [k2 x hx]; exact hm.2.2 _ (by omega) (by omega)) n 0 5000 5000 (x_trays_e0_places xs) (x_trays_e1_places xs) (x_trays_e2_places xs) (m_now ms) (by omega) (by omega) (by omega) (by rw [hz]; exact hT0) (by rw [hz]; exact hT1) (by rw [hz]; exact hT2) (by rw [hz]; exact hm)
      refine ⟨r, zxS xs (va_cpy (x_trays_e2_places xs) (x_moved xs) i0 0 n) Q0 Q1 Q2, zmC ms now' c', ?_, ?_, zRl_shift _ _ (zRl_tray hv hx hr (zSh_T hT (by omega) (by omega) (by omega) (by omega)) (fun x hx => zSh_o (by omega)) q3 q4 q5 q6)⟩
      · rw [hX]
        simp (disch := omega) only [zl_0, zl_1, zl_2, zl_3, zl_4, zl_5, zl_6, zl_8, zl_9, zl_11, zl_12, zl_13, zl_16, zl_20, zl_23, zl_24, zl_30, zl_32, zl_40, zl_41, zl_43, zl_45, zl_50, zl_52, zl_60, zl_97, zl_99, zl_100, zl_124, zl_126, zl_127, zl_169, zl_170, zl_171, zl_195, zl_200, zl_201, zl_256, zl_261, zl_999, zl_1100, zl_1884, zl_4095, zl_4096, zd1, zd2, zs1, nI_add, pk_mul, zsb, zad1, zad2, zcl, zgI, zif_le, zif_nle, zif_lt, zif_nlt, zif_eq, zif_ne, zif_self, zif_T, zif_F, Nat.zero_add, Nat.add_sub_cancel, zn21, zn31, zif_m1, zif_m1l, zif_m1n, zif_pm, zb1_k, zb2_k, zb3_k, zb4_k, zb5_k, zb6_k, zb7_k, zb8_k, zb9_k, zb10_k, zb11_k, zb12_k, zb14_k, zb21_k, zb22_k, zupd_eq, zupd_ne, zupl_eq, zupl_ne, zupf_eq, zupf_ne, fX9_isMissing, z5, y5, z6, y6, f1, f2, zgS, hc, q1]
      · unfold stX11_shift
        rw [hM, k1]
        unfold fX11_shift_J126
        rw [zl_0, q2]
        rfl
    · have hX : stX10_shift (nI 2) p2 (nI 1) p4 p5 xs = zb5 (zb1 (fX9_isMissing (x_trays_e2_kind xs)) (fun r34 => if r34 = 0 then (zb1 (fX9_isMissing (x_trays_e1_kind xs)) (fun r42 => if r42 = 0 then (zb1 (fX9_hasStretch p2 p5 (x_trays_e2_size xs)) (fun r56 => if r56 = 0 then (some ((-13 : Int32), x_moved xs, x_trays_e0_places xs, x_trays_e1_places xs, x_trays_e2_places xs)) else (zb1 (fX9_hasStretch p4 p5 (x_trays_e1_size xs)) (fun r68 => if r68 = 0 then (some ((-13 : Int32), x_moved xs, x_trays_e0_places xs, x_trays_e1_places xs, x_trays_e2_places xs)) else (zg (¬ p2 < 0 ∧ ¬ (0 : Int32) < 0 ∧ ¬ p5 < 0 ∧ (p2).toNatClampNeg + (p5).toNatClampNeg ≤ 20 ∧ ((0 : Int32)).toNatClampNeg + (p5).toNatClampNeg ≤ 20) (fX10_shift_L96xxxxxxx (x_trays_e1_kind xs) (x_moved xs) (x_trays_e2_places xs) (x_nets_count xs) (x_nets_kind xs) p2 p4 p5 5000 (0 : Int32) (x_trays_e0_places xs) (x_trays_e1_places xs) (x_trays_e2_places xs))))))) else (some ((-11 : Int32), x_moved xs, x_trays_e0_places xs, x_trays_e1_places xs, x_trays_e2_places xs)))) else (some ((-11 : Int32), x_moved xs, x_trays_e0_places xs, x_trays_e1_places xs, x_trays_e2_places xs)))) (fun r v0 v1 v2 v3 => some (r, zxS xs v0 v1 v2 v3)) := by
        unfold stX10_shift fX10_shift
        (first | rw [e1, zb1_k, e3, zb1_k] | rw [e1, zb1_k])
        rfl
      rcases zTfacts (t := 2) (by omega) (hT 2 (by omega)) hT2 hm with ⟨z1, z2, z3, z4⟩ | ⟨kk, sz, z1, z2, z3, z4, z5, z6, z7, z8, z9⟩
      · have g3 := fm_sizeOf (t := 2) (by omega) z4
        refine zfin0 (-nI 11) h0 ?_ ?_
        · rw [hX]
          simp (disch := omega) only [zl_0, zl_1, zl_2, zl_3, zl_4, zl_5, zl_6, zl_8, zl_9, zl_11, zl_12, zl_13, zl_16, zl_20, zl_23, zl_24, zl_30, zl_32, zl_40, zl_41, zl_43, zl_45, zl_50, zl_52, zl_60, zl_97, zl_99, zl_100, zl_124, zl_126, zl_127, zl_169, zl_170, zl_171, zl_195, zl_200, zl_201, zl_256, zl_261, zl_999, zl_1100, zl_1884, zl_4095, zl_4096, zd1, zd2, zs1, nI_add, pk_mul, zsb, zad1, zad2, zcl, zgI, zif_le, zif_nle, zif_lt, zif_nlt, zif_eq, zif_ne, zif_self, zif_T, zif_F, Nat.zero_add, Nat.add_sub_cancel, zn21, zn31, zif_m1, zif_m1l, zif_m1n, zif_pm, zb1_k, zb2_k, zb3_k, zb4_k, zb5_k, zb6_k, zb7_k, zb8_k, zb9_k, zb10_k, zb11_k, zb12_k, zb14_k, zb21_k, zb22_k, zupd_eq, zupd_ne, zupl_eq, zupl_ne, zupf_eq, zupf_ne, fX9_isMissing, z3]; try rfl
        · simp (disch := omega) only [stX11_shift, fX11_shift, zl_0, zl_1, zl_2, zl_3, zl_4, zl_5, zl_6, zl_8, zl_9, zl_11, zl_12, zl_13, zl_16, zl_20, zl_23, zl_24, zl_30, zl_32, zl_40, zl_41, zl_43, zl_45, zl_50, zl_52, zl_60, zl_97, zl_99, zl_100, zl_124, zl_126, zl_127, zl_169, zl_170, zl_171, zl_195, zl_200, zl_201, zl_256, zl_261, zl_999, zl_1100, zl_1884, zl_4095, zl_4096, zd1, zd2, zs1, nI_add, pk_mul, zsb, zad1, zad2, zcl, zgI, zif_le, zif_nle, zif_lt, zif_nlt, zif_eq, zif_ne, zif_self, zif_T, zif_F, Nat.zero_add, Nat.add_sub_cancel, zn21, zn31, zif_m1, zif_m1l, zif_m1n, zif_pm, zb1_k, zb2_k, zb3_k, zb4_k, zb5_k, zb6_k, zb7_k, zb8_k, zb9_k, zb10_k, zb11_k, zb12_k, zb14_k, zb21_k, zb22_k, zupd_eq, zupd_ne, zupl_eq, zupl_ne, zupf_eq, zupf_ne, e2, g3, zif_m1l]; try rfl
      have g3 := fm_sizeOf (t := 2) (by omega) z7
      rcases zTfacts (t := 1) (by omega) (hT 1 (by omega)) hT1 hm with ⟨y1, y2, y3, y4⟩ | ⟨kt, sw, y1, y2, y3, y4, y5, y6, y7, y8, y9⟩
      · have g4 := fm_sizeOf (t := 1) (by omega) y4
        refine zfin0 (-nI 11) h0 ?_ ?_
        · rw [hX]
          simp (disch := omega) only [zl_0, zl_1, zl_2, zl_3, zl_4, zl_5, zl_6, zl_8, zl_9, zl_11, zl_12, zl_13, zl_16, zl_20, zl_23, zl_24, zl_30, zl_32, zl_40, zl_41, zl_43, zl_45, zl_50, zl_52, zl_60, zl_97, zl_99, zl_100, zl_124, zl_126, zl_127, zl_169, zl_170, zl_171, zl_195, zl_200, zl_201, zl_256, zl_261, zl_999, zl_1100, zl_1884, zl_4095, zl_4096, zd1, zd2, zs1, nI_add, pk_mul, zsb, zad1, zad2, zcl, zgI, zif_le, zif_nle, zif_lt, zif_nlt, zif_eq, zif_ne, zif_self, zif_T, zif_F, Nat.zero_add, Nat.add_sub_cancel, zn21, zn31, zif_m1, zif_m1l, zif_m1n, zif_pm, zb1_k, zb2_k, zb3_k, zb4_k, zb5_k, zb6_k, zb7_k, zb8_k, zb9_k, zb10_k, zb11_k, zb12_k, zb14_k, zb21_k, zb22_k, zupd_eq, zupd_ne, zupl_eq, zupl_ne, zupf_eq, zupf_ne, fX9_isMissing, z5, y3]; try rfl
        · simp (disch := omega) only [stX11_shift, fX11_shift, zl_0, zl_1, zl_2, zl_3, zl_4, zl_5, zl_6, zl_8, zl_9, zl_11, zl_12, zl_13, zl_16, zl_20, zl_23, zl_24, zl_30, zl_32, zl_40, zl_41, zl_43, zl_45, zl_50, zl_52, zl_60, zl_97, zl_99, zl_100, zl_124, zl_126, zl_127, zl_169, zl_170, zl_171, zl_195, zl_200, zl_201, zl_256, zl_261, zl_999, zl_1100, zl_1884, zl_4095, zl_4096, zd1, zd2, zs1, nI_add, pk_mul, zsb, zad1, zad2, zcl, zgI, zif_le, zif_nle, zif_lt, zif_nlt, zif_eq, zif_ne, zif_self, zif_T, zif_F, Nat.zero_add, Nat.add_sub_cancel, zn21, zn31, zif_m1, zif_m1l, zif_m1n, zif_pm, zb1_k, zb2_k, zb3_k, zb4_k, zb5_k, zb6_k, zb7_k, zb8_k, zb9_k, zb10_k, zb11_k, zb12_k, zb14_k, zb21_k, zb22_k, zupd_eq, zupd_ne, zupl_eq, zupl_ne, zupf_eq, zupf_ne, e2, e4, g3, g4, zif_7]; try rfl
      have g4 := fm_sizeOf (t := 1) (by omega) y7
      rcases zstr p2 p5 z3 with ⟨f1, w1⟩ | ⟨i0, n, b1, rfl, rfl, f1, w1⟩
      · have hM := fm_shift13 (c := m_carried ms) (p2 := p2) (p4 := p4) (p5 := p5) e2 e4 g3 g4 z3 y3 (by
          rcases w1 with w1 | w1 | w1
          · exact Or.inl w1
          · exact Or.inr (Or.inl w1)
          · exact Or.inr (Or.inr (Or.inr (Or.inl w1))))
        refine zfin0 (-nI 13) h0 ?_ ?_
        · rw [hX]
          simp (disch := omega) only [zl_0, zl_1, zl_2, zl_3, zl_4, zl_5, zl_6, zl_8, zl_9, zl_11, zl_12, zl_13, zl_16, zl_20, zl_23, zl_24, zl_30, zl_32, zl_40, zl_41, zl_43, zl_45, zl_50, zl_52, zl_60, zl_97, zl_99, zl_100, zl_124, zl_126, zl_127, zl_169, zl_170, zl_171, zl_195, zl_200, zl_201, zl_256, zl_261, zl_999, zl_1100, zl_1884, zl_4095, zl_4096, zd1, zd2, zs1, nI_add, pk_mul, zsb, zad1, zad2, zcl, zgI, zif_le, zif_nle, zif_lt, zif_nlt, zif_eq, zif_ne, zif_self, zif_T, zif_F, Nat.zero_add, Nat.add_sub_cancel, zn21, zn31, zif_m1, zif_m1l, zif_m1n, zif_pm, zb1_k, zb2_k, zb3_k, zb4_k, zb5_k, zb6_k, zb7_k, zb8_k, zb9_k, zb10_k, zb11_k, zb12_k, zb14_k, zb21_k, zb22_k, zupd_eq, zupd_ne, zupl_eq, zupl_ne, zupf_eq, zupf_ne, fX9_isMissing, z5, y5, z6, f1]; try rfl
        · unfold stX11_shift
          rw [hM]; try rfl
      rcases zstr p4 (nI n) y3 with ⟨f2, w2⟩ | ⟨j0, n2, b2, rfl, en, f2, w2⟩
      · have hM := fm_shift13 (c := m_carried ms) (p2 := nI i0) (p4 := p4) (p5 := nI n) e2 e4 g3 g4 z3 y3 (by
          rcases w2 with w2 | w2 | w2
          · exact Or.inl w2
          · exact Or.inr (Or.inr (Or.inl w2))
          · exact Or.inr (Or.inr (Or.inr (Or.inr w2))))
        refine zfin0 (-nI 13) h0 ?_ ?_
        · rw [hX]
          simp (disch := omega) only [zl_0, zl_1, zl_2, zl_3, zl_4, zl_5, zl_6, zl_8, zl_9, zl_11, zl_12, zl_13, zl_16, zl_20, zl_23, zl_24, zl_30, zl_32, zl_40, zl_41, zl_43, zl_45, zl_50, zl_52, zl_60, zl_97, zl_99, zl_100, zl_124, zl_126, zl_127, zl_169, zl_170, zl_171, zl_195, zl_200, zl_201, zl_256, zl_261, zl_999, zl_1100, zl_1884, zl_4095, zl_4096, zd1, zd2, zs1, nI_add, pk_mul, zsb, zad1, zad2, zcl, zgI, zif_le, zif_nle, zif_lt, zif_nlt, zif_eq, zif_ne, zif_self, zif_T, zif_F, Nat.zero_add, Nat.add_sub_cancel, zn21, zn31, zif_m1, zif_m1l, zif_m1n, zif_pm, zb1_k, zb2_k, zb3_k, zb4_k, zb5_k, zb6_k, zb7_k, zb8_k, zb9_k, zb10_k, zb11_k, zb12_k, zb14_k, zb21_k, zb22_k, zupd_eq, zupd_ne, zupl_eq, zupl_ne, zupf_eq, zupf_ne, fX9_isMissing, z5, y5, z6, y6, f1, f2]; try rfl
        · unfold stX11_shift
          rw [hM]; try rfl
      have en : n = n2 := (nI_eq (by omega) (by omega)).mp en
      subst en
      have hM := fm_shiftGo (c := m_carried ms) e2 e4 g3 g4 z3 y3 (by omega) (by omega) (by omega) w1 w2
      obtain ⟨c', k1, k2⟩ := fm_carry (now := m_now ms) (t := 2) (i := i0) (n := n) (k := fX11_shift_J126 (m_now ms) (nI 1) (nI j0) (nI n)) (by omega) (by omega) n 0 5000 (m_carried ms) (by omega) (by omega) (fun x hx => by omega)
      have hz := zSh_0 a (201 + 20 * 2 + i0) (201 + 20 * 1 + j0)
      obtain ⟨r, j', Q0, Q1, Q2, now', q0, q1, q2, q3, q4, q5, q6⟩ := sh_21 (kind := x_nets_kind xs) (moved := x_moved xs) (F := x_trays_e2_places xs) (CR := c') (i0 := i0) (j0 := j0) (n := n) (kt := kt) hv hN.2.1 y2 y4 (by omega) (by omega) (fun x hx => by rw [Nat.add_assoc]; exact z9 (i0 + x) (by omega)) (fun x hx => by rw [k2 x hx]; exact hm.2.2 _ (by omega) (by omega)) n 0 5000 5000 (x_trays_e0_places xs) (x_trays_e1_places xs) (x_trays_e2_places xs) (m_now ms) (by omega) (by omega) (by omega) (by rw [hz]; exact hT0) (by rw [hz]; exact hT1) (by rw [hz]; exact hT2) (by rw [hz]; exact hm)
      refine ⟨r, zxS xs (va_cpy (x_trays_e2_places xs) (x_moved xs) i0 0 n) Q0 Q1 Q2, zmC ms now' c', ?_, ?_, zRl_shift _ _ (zRl_tray hv hx hr (zSh_T hT (by omega) (by omega) (by omega) (by omega)) (fun x hx => zSh_o (by omega)) q3 q4 q5 q6)⟩
      · rw [hX]
        simp (disch := omega) only [zl_0, zl_1, zl_2, zl_3, zl_4, zl_5, zl_6, zl_8, zl_9, zl_11, zl_12, zl_13, zl_16, zl_20, zl_23, zl_24, zl_30, zl_32, zl_40, zl_41, zl_43, zl_45, zl_50, zl_52, zl_60, zl_97, zl_99, zl_100, zl_124, zl_126, zl_127, zl_169, zl_170, zl_171, zl_195, zl_200, zl_201, zl_256, zl_261, zl_999, zl_1100, zl_1884, zl_4095, zl_4096, zd1, zd2, zs1, nI_add, pk_mul, zsb, zad1, zad2, zcl, zgI, zif_le, zif_nle, zif_lt, zif_nlt, zif_eq, zif_ne, zif_self, zif_T, zif_F, Nat.zero_add, Nat.add_sub_cancel, zn21, zn31, zif_m1, zif_m1l, zif_m1n, zif_pm, zb1_k, zb2_k, zb3_k, zb4_k, zb5_k, zb6_k, zb7_k, zb8_k, zb9_k, zb10_k, zb11_k, zb12_k, zb14_k, zb21_k, zb22_k, zupd_eq, zupd_ne, zupl_eq, zupl_ne, zupf_eq, zupf_ne, fX9_isMissing, z5, y5, z6, y6, f1, f2, zgS, hc, q1]
      · unfold stX11_shift
        rw [hM, k1]
        unfold fX11_shift_J126
        rw [zl_0, q2]
        rfl
    · have hX : stX10_shift (nI 2) p2 (nI 2) p4 p5 xs = zb5 (zb1 (fX9_isMissing (x_trays_e2_kind xs)) (fun r34 => if r34 = 0 then (zb1 (fX9_isMissing (x_trays_e2_kind xs)) (fun r42 => if r42 = 0 then (zb1 (fX9_hasStretch p2 p5 (x_trays_e2_size xs)) (fun r56 => if r56 = 0 then (some ((-13 : Int32), x_moved xs, x_trays_e0_places xs, x_trays_e1_places xs, x_trays_e2_places xs)) else (zb1 (fX9_hasStretch p4 p5 (x_trays_e2_size xs)) (fun r68 => if r68 = 0 then (some ((-13 : Int32), x_moved xs, x_trays_e0_places xs, x_trays_e1_places xs, x_trays_e2_places xs)) else (zg (¬ p2 < 0 ∧ ¬ (0 : Int32) < 0 ∧ ¬ p5 < 0 ∧ (p2).toNatClampNeg + (p5).toNatClampNeg ≤ 20 ∧ ((0 : Int32)).toNatClampNeg + (p5).toNatClampNeg ≤ 20) (fX10_shift_L96xxxxxxxx (x_trays_e2_kind xs) (x_moved xs) (x_trays_e2_places xs) (x_nets_count xs) (x_nets_kind xs) p2 p4 p5 5000 (0 : Int32) (x_trays_e0_places xs) (x_trays_e1_places xs) (x_trays_e2_places xs))))))) else (some ((-11 : Int32), x_moved xs, x_trays_e0_places xs, x_trays_e1_places xs, x_trays_e2_places xs)))) else (some ((-11 : Int32), x_moved xs, x_trays_e0_places xs, x_trays_e1_places xs, x_trays_e2_places xs)))) (fun r v0 v1 v2 v3 => some (r, zxS xs v0 v1 v2 v3)) := by
        unfold stX10_shift fX10_shift
        (first | rw [e1, zb1_k, e3, zb1_k] | rw [e1, zb1_k])
        rfl
      rcases zTfacts (t := 2) (by omega) (hT 2 (by omega)) hT2 hm with ⟨z1, z2, z3, z4⟩ | ⟨kk, sz, z1, z2, z3, z4, z5, z6, z7, z8, z9⟩
      · have g3 := fm_sizeOf (t := 2) (by omega) z4
        refine zfin0 (-nI 11) h0 ?_ ?_
        · rw [hX]
          simp (disch := omega) only [zl_0, zl_1, zl_2, zl_3, zl_4, zl_5, zl_6, zl_8, zl_9, zl_11, zl_12, zl_13, zl_16, zl_20, zl_23, zl_24, zl_30, zl_32, zl_40, zl_41, zl_43, zl_45, zl_50, zl_52, zl_60, zl_97, zl_99, zl_100, zl_124, zl_126, zl_127, zl_169, zl_170, zl_171, zl_195, zl_200, zl_201, zl_256, zl_261, zl_999, zl_1100, zl_1884, zl_4095, zl_4096, zd1, zd2, zs1, nI_add, pk_mul, zsb, zad1, zad2, zcl, zgI, zif_le, zif_nle, zif_lt, zif_nlt, zif_eq, zif_ne, zif_self, zif_T, zif_F, Nat.zero_add, Nat.add_sub_cancel, zn21, zn31, zif_m1, zif_m1l, zif_m1n, zif_pm, zb1_k, zb2_k, zb3_k, zb4_k, zb5_k, zb6_k, zb7_k, zb8_k, zb9_k, zb10_k, zb11_k, zb12_k, zb14_k, zb21_k, zb22_k, zupd_eq, zupd_ne, zupl_eq, zupl_ne, zupf_eq, zupf_ne, fX9_isMissing, z3]; try rfl
        · simp (disch := omega) only [stX11_shift, fX11_shift, zl_0, zl_1, zl_2, zl_3, zl_4, zl_5, zl_6, zl_8, zl_9, zl_11, zl_12, zl_13, zl_16, zl_20, zl_23, zl_24, zl_30, zl_32, zl_40, zl_41, zl_43, zl_45, zl_50, zl_52, zl_60, zl_97, zl_99, zl_100, zl_124, zl_126, zl_127, zl_169, zl_170, zl_171, zl_195, zl_200, zl_201, zl_256, zl_261, zl_999, zl_1100, zl_1884, zl_4095, zl_4096, zd1, zd2, zs1, nI_add, pk_mul, zsb, zad1, zad2, zcl, zgI, zif_le, zif_nle, zif_lt, zif_nlt, zif_eq, zif_ne, zif_self, zif_T, zif_F, Nat.zero_add, Nat.add_sub_cancel, zn21, zn31, zif_m1, zif_m1l, zif_m1n, zif_pm, zb1_k, zb2_k, zb3_k, zb4_k, zb5_k, zb6_k, zb7_k, zb8_k, zb9_k, zb10_k, zb11_k, zb12_k, zb14_k, zb21_k, zb22_k, zupd_eq, zupd_ne, zupl_eq, zupl_ne, zupf_eq, zupf_ne, e2, g3, zif_m1l]; try rfl
      have g3 := fm_sizeOf (t := 2) (by omega) z7
      have y2 := z2
      have y3 := z3
      have y4 := z4
      have y5 := z5
      have y6 := z6
      have y7 := z7
      have g4 := g3
      rcases zstr p2 p5 z3 with ⟨f1, w1⟩ | ⟨i0, n, b1, rfl, rfl, f1, w1⟩
      · have hM := fm_shift13 (c := m_carried ms) (p2 := p2) (p4 := p4) (p5 := p5) e2 e4 g3 g4 z3 y3 (by
          rcases w1 with w1 | w1 | w1
          · exact Or.inl w1
          · exact Or.inr (Or.inl w1)
          · exact Or.inr (Or.inr (Or.inr (Or.inl w1))))
        refine zfin0 (-nI 13) h0 ?_ ?_
        · rw [hX]
          simp (disch := omega) only [zl_0, zl_1, zl_2, zl_3, zl_4, zl_5, zl_6, zl_8, zl_9, zl_11, zl_12, zl_13, zl_16, zl_20, zl_23, zl_24, zl_30, zl_32, zl_40, zl_41, zl_43, zl_45, zl_50, zl_52, zl_60, zl_97, zl_99, zl_100, zl_124, zl_126, zl_127, zl_169, zl_170, zl_171, zl_195, zl_200, zl_201, zl_256, zl_261, zl_999, zl_1100, zl_1884, zl_4095, zl_4096, zd1, zd2, zs1, nI_add, pk_mul, zsb, zad1, zad2, zcl, zgI, zif_le, zif_nle, zif_lt, zif_nlt, zif_eq, zif_ne, zif_self, zif_T, zif_F, Nat.zero_add, Nat.add_sub_cancel, zn21, zn31, zif_m1, zif_m1l, zif_m1n, zif_pm, zb1_k, zb2_k, zb3_k, zb4_k, zb5_k, zb6_k, zb7_k, zb8_k, zb9_k, zb10_k, zb11_k, zb12_k, zb14_k, zb21_k, zb22_k, zupd_eq, zupd_ne, zupl_eq, zupl_ne, zupf_eq, zupf_ne, fX9_isMissing, z5, y5, z6, f1]; try rfl
        · unfold stX11_shift
          rw [hM]; try rfl
      rcases zstr p4 (nI n) y3 with ⟨f2, w2⟩ | ⟨j0, n2, b2, rfl, en, f2, w2⟩
      · have hM := fm_shift13 (c := m_carried ms) (p2 := nI i0) (p4 := p4) (p5 := nI n) e2 e4 g3 g4 z3 y3 (by
          rcases w2 with w2 | w2 | w2
          · exact Or.inl w2
          · exact Or.inr (Or.inr (Or.inl w2))
          · exact Or.inr (Or.inr (Or.inr (Or.inr w2))))
        refine zfin0 (-nI 13) h0 ?_ ?_
        · rw [hX]
          simp (disch := omega) only [zl_0, zl_1, zl_2, zl_3, zl_4, zl_5, zl_6, zl_8, zl_9, zl_11, zl_12, zl_13, zl_16, zl_20, zl_23, zl_24, zl_30, zl_32, zl_40, zl_41, zl_43, zl_45, zl_50, zl_52, zl_60, zl_97, zl_99, zl_100, zl_124, zl_126, zl_127, zl_169, zl_170, zl_171, zl_195, zl_200, zl_201, zl_256, zl_261, zl_999, zl_1100, zl_1884, zl_4095, zl_4096, zd1, zd2, zs1, nI_add, pk_mul, zsb, zad1, zad2, zcl, zgI, zif_le, zif_nle, zif_lt, zif_nlt, zif_eq, zif_ne, zif_self, zif_T, zif_F, Nat.zero_add, Nat.add_sub_cancel, zn21, zn31, zif_m1, zif_m1l, zif_m1n, zif_pm, zb1_k, zb2_k, zb3_k, zb4_k, zb5_k, zb6_k, zb7_k, zb8_k, zb9_k, zb10_k, zb11_k, zb12_k, zb14_k, zb21_k, zb22_k, zupd_eq, zupd_ne, zupl_eq, zupl_ne, zupf_eq, zupf_ne, fX9_isMissing, z5, y5, z6, y6, f1, f2]; try rfl
        · unfold stX11_shift
          rw [hM]; try rfl
      have en : n = n2 := (nI_eq (by omega) (by omega)).mp en
      subst en
      have hM := fm_shiftGo (c := m_carried ms) e2 e4 g3 g4 z3 y3 (by omega) (by omega) (by omega) w1 w2
      obtain ⟨c', k1, k2⟩ := fm_carry (now := m_now ms) (t := 2) (i := i0) (n := n) (k := fX11_shift_J126 (m_now ms) (nI 2) (nI j0) (nI n)) (by omega) (by omega) n 0 5000 (m_carried ms) (by omega) (by omega) (fun x hx => by omega)
      have hz := zSh_0 a (201 + 20 * 2 + i0) (201 + 20 * 2 + j0)
      obtain ⟨r, j', Q0, Q1, Q2, now', q0, q1, q2, q3, q4, q5, q6⟩ := sh_22 (kind := x_nets_kind xs) (moved := x_moved xs) (F := x_trays_e2_places xs) (CR := c') (i0 := i0) (j0 := j0) (n := n) (kt := kk) hv hN.2.1 y2 y4 (by omega) (by omega) (fun x hx => by rw [Nat.add_assoc]; exact z9 (i0 + x) (by omega)) (fun x hx => by rw [k2 x hx]; exact hm.2.2 _ (by omega) (by omega)) n 0 5000 5000 (x_trays_e0_places xs) (x_trays_e1_places xs) (x_trays_e2_places xs) (m_now ms) (by omega) (by omega) (by omega) (by rw [hz]; exact hT0) (by rw [hz]; exact hT1) (by rw [hz]; exact hT2) (by rw [hz]; exact hm)
      refine ⟨r, zxS xs (va_cpy (x_trays_e2_places xs) (x_moved xs) i0 0 n) Q0 Q1 Q2, zmC ms now' c', ?_, ?_, zRl_shift _ _ (zRl_tray hv hx hr (zSh_T hT (by omega) (by omega) (by omega) (by omega)) (fun x hx => zSh_o (by omega)) q3 q4 q5 q6)⟩
      · rw [hX]
        simp (disch := omega) only [zl_0, zl_1, zl_2, zl_3, zl_4, zl_5, zl_6, zl_8, zl_9, zl_11, zl_12, zl_13, zl_16, zl_20, zl_23, zl_24, zl_30, zl_32, zl_40, zl_41, zl_43, zl_45, zl_50, zl_52, zl_60, zl_97, zl_99, zl_100, zl_124, zl_126, zl_127, zl_169, zl_170, zl_171, zl_195, zl_200, zl_201, zl_256, zl_261, zl_999, zl_1100, zl_1884, zl_4095, zl_4096, zd1, zd2, zs1, nI_add, pk_mul, zsb, zad1, zad2, zcl, zgI, zif_le, zif_nle, zif_lt, zif_nlt, zif_eq, zif_ne, zif_self, zif_T, zif_F, Nat.zero_add, Nat.add_sub_cancel, zn21, zn31, zif_m1, zif_m1l, zif_m1n, zif_pm, zb1_k, zb2_k, zb3_k, zb4_k, zb5_k, zb6_k, zb7_k, zb8_k, zb9_k, zb10_k, zb11_k, zb12_k, zb14_k, zb21_k, zb22_k, zupd_eq, zupd_ne, zupl_eq, zupl_ne, zupf_eq, zupf_ne, fX9_isMissing, z5, y5, z6, y6, f1, f2, zgS, hc, q1]
      · unfold stX11_shift
        rw [hM, k1]
        unfold fX11_shift_J126
        rw [zl_0, q2]
        rfl
