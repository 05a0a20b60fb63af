/-! drawn: both stacks at once -/
theorem xm_drawW {a : Nat → Nat} {len : Nat} {kd so od now ohms spread : Nat → Int32} (kX : Int32 → (Nat → UInt32) → Option (UInt32 × Int32 × Int32 × (Nat → Int32) × (Nat → Int32) × (Nat → Int32) × (Nat → UInt32))) (kM : Int32 → (Nat → UInt32) → Option (UInt32 × Int32 × (Nat → UInt32))) (hv : zV a) (hb : zXb a ohms spread) (hm : zMn a now) (hlen : len ≤ 23) : ∀ i, i < a 8 → ∀ (h off fu fu' : Nat) (sd : Int32) (arr brr : Nat → UInt32), h + aP a i ≤ 12 → off + (apo a i).length ≤ len → (apo a i).length < fu → (apo a i).length < fu' → zAr kd (fun x => nI (aK a x)) off (apo a i) → zAr so (fun x => nI (aF a x)) off (apo a i) → zAr od nI off (apo a i) → ∃ arr' brr' sd' v, fX4_floatOf_L10 kX ohms spread (nI 1) (nI len) kd so fu (nI h) (nI off) sd arr = fX4_floatOf_L10 kX ohms spread (nI 1) (nI len) kd so (fu - (apo a i).length) (nI (h + 1)) (nI (off + (apo a i).length)) sd' arr' ∧ fX11_draws_L4 kM (nI len) od now fu' (nI h) (nI off) sd brr = fX11_draws_L4 kM (nI len) od now (fu' - (apo a i).length) (nI (h + 1)) (nI (off + (apo a i).length)) sd' brr' ∧ zE (127 - aP a i) (160 + aP a i) v ∧ arr' h = v ∧ brr' h = v ∧ ∀ q, q < h → arr' q = arr q ∧ brr' q = brr q := by
  intro i
  induction i using Nat.strongRecOn with
  | ind i ih =>
    intro hi h off fu fu' sd arr brr hp hoff hfu hfu' ak as ao
    have h8 := hv.2.1
    have b := zNet_b hv.2.2.1 hi h8
    have kO := fm_kindOf hm (i := i) (by omega)
    have fO := fm_firstOf hm (i := i) (by omega)
    rcases hv.2.2.1 i hi with ⟨n1, n2, n3, n4, n5⟩ | ⟨n1, n2, n3, n4, n5⟩
    · have e : apo a i = [i] := zpo_0 n1
      rw [e] at hoff hfu hfu' ak as ao ⊢
      have k1 : kd off = nI (aK a i) := ak.1
      have k2 : so off = nI (aF a i) := as.1
      have k3 : od off = nI i := ao.1
      simp only [List.length_singleton] at hoff hfu hfu' ⊢
      obtain ⟨fu, rfl⟩ : ∃ f, fu = f + 1 := ⟨fu - 1, by omega⟩
      obtain ⟨fu', rfl⟩ : ∃ f, fu' = f + 1 := ⟨fu' - 1, by omega⟩
      have g := fx_draw hb hv.1 n2 n5 sd
      have g' := fm_draw hm hv.1 n2 n5 sd
      have bd := (zdrw_b hv.1 n2 n5 sd).2.2
      generalize zdrw (nI (a (aF a i))) (nI (a (4 + aF a i))) sd = v at *
      generalize sd * (1103515245 : Int32) + (12345 : Int32) = sd' at *
      refine ⟨vf_upd arr h v, vf_upd brr h v, sd', v, ?_, ?_, zE_w bd (by omega) (by omega), zupf_eq rfl, zupf_eq rfl, fun q hq => ⟨zupf_ne (by omega), zupf_ne (by omega)⟩⟩
      · rw [n1] at k1
        rw [fX4_floatOf_L10_s]
        simp (disch := omega) only [zl_0, zl_1, zl_2, zl_3, zl_4, zl_5, zl_6, zl_8, zl_9, zl_11, zl_12, zl_13, zl_16, zl_20, zl_23, zl_24, zl_30, zl_32, zl_40, zl_41, zl_43, zl_45, zl_50, zl_52, zl_60, zl_97, zl_99, zl_100, zl_124, zl_126, zl_127, zl_169, zl_170, zl_171, zl_195, zl_200, zl_201, zl_256, zl_261, zl_999, zl_1100, zl_1884, zl_4095, zl_4096, zd1, zd2, zs1, nI_add, pk_mul, zsb, zad1, zad2, zcl, zgI, zif_le, zif_nle, zif_lt, zif_nlt, zif_eq, zif_ne, zif_self, zif_T, zif_F, Nat.zero_add, Nat.add_sub_cancel, zn21, zn31, zif_m1, zif_m1l, zif_m1n, zif_pm, zb1_k, zb2_k, zb3_k, zb4_k, zb5_k, zb6_k, zb7_k, zb8_k, zb9_k, zb10_k, zb11_k, zb12_k, zb14_k, zb21_k, zb22_k, zupd_eq, zupd_ne, zupl_eq, zupl_ne, zupf_eq, zupf_ne, k1, k2, g, fX4_floatOf_J86]
      · rw [n1] at kO
        rw [fX11_draws_L4_s]
        simp (disch := omega) only [zl_0, zl_1, zl_2, zl_3, zl_4, zl_5, zl_6, zl_8, zl_9, zl_11, zl_12, zl_13, zl_16, zl_20, zl_23, zl_24, zl_30, zl_32, zl_40, zl_41, zl_43, zl_45, zl_50, zl_52, zl_60, zl_97, zl_99, zl_100, zl_124, zl_126, zl_127, zl_169, zl_170, zl_171, zl_195, zl_200, zl_201, zl_256, zl_261, zl_999, zl_1100, zl_1884, zl_4095, zl_4096, zd1, zd2, zs1, nI_add, pk_mul, zsb, zad1, zad2, zcl, zgI, zif_le, zif_nle, zif_lt, zif_nlt, zif_eq, zif_ne, zif_self, zif_T, zif_F, Nat.zero_add, Nat.add_sub_cancel, zn21, zn31, zif_m1, zif_m1l, zif_m1n, zif_pm, zb1_k, zb2_k, zb3_k, zb4_k, zb5_k, zb6_k, zb7_k, zb8_k, zb9_k, zb10_k, zb11_k, zb12_k, zb14_k, zb21_k, zb22_k, zupd_eq, zupd_ne, zupl_eq, zupl_ne, zupf_eq, zupf_ne, k3, kO, fO, g']
    · have ac := zAc_net hv
      have b1 := zNet_b hv.2.2.1 (i := aF a i) (by omega) h8
      have b2 := zNet_b hv.2.2.1 (i := aS a i) (by omega) h8
      have e : apo a i = apo a (aF a i) ++ apo a (aS a i) ++ [i] := zpo_1 ac hi (by omega)
      rw [e] at hoff hfu hfu' ak as ao ⊢
      have l : (apo a (aF a i) ++ apo a (aS a i) ++ [i]).length = (apo a (aF a i)).length + (apo a (aS a i)).length + 1 := by simp only [List.length_append, List.length_singleton]
      rw [l] at hoff hfu hfu' ⊢
      obtain ⟨r1, t1, sd1, x, f1, f1', bx, f2, f2', f3⟩ := ih _ n2 (by omega) h off fu fu' sd arr brr (by omega) (by omega) (by omega) (by omega) (zAr_l (zAr_l ak)) (zAr_l (zAr_l as)) (zAr_l (zAr_l ao))
      obtain ⟨r2, t2, sd2, y, g1, g1', bY, g2, g2', g3⟩ := ih _ n3 (by omega) (h + 1) (off + (apo a (aF a i)).length) (fu - (apo a (aF a i)).length) (fu' - (apo a (aF a i)).length) sd1 r1 t1 (by omega) (by omega) (by omega) (by omega) (zAr_r (zAr_l ak)) (zAr_r (zAr_l as)) (zAr_r (zAr_l ao))
      have k1 := zAr_r ak
      have k3 := zAr_r ao
      rw [List.length_append] at k1 k3
      have k1 : kd (off + ((apo a (aF a i)).length + (apo a (aS a i)).length)) = nI (aK a i) := k1.1
      have k3 : od (off + ((apo a (aF a i)).length + (apo a (aS a i)).length)) = nI i := k3.1
      obtain ⟨bz, s1, s2, s3, s4, s5⟩ := zej_b (kk := aK a i) b1.2.2.2.2 b2.2.2.2.2 (by omega) bx bY
      rw [← n4] at bz
      have jf := fm_joinedF n1 s1 s2 s3 s4 s5
      have r2h : r2 h = x := (g3 h (by omega)).1.trans f2
      have t2h : t2 h = x := (g3 h (by omega)).2.trans f2'
      refine ⟨vf_upd r2 h (zej (aK a i) x y), vf_upd t2 h (zej (aK a i) x y), sd2, zej (aK a i) x y, ?_, ?_, bz, zupf_eq rfl, zupf_eq rfl, fun q hq => ⟨by rw [zupf_ne (by omega), (g3 q (by omega)).1, (f3 q hq).1], by rw [zupf_ne (by omega), (g3 q (by omega)).2, (f3 q hq).2]⟩⟩
      · rw [f1, g1]
        rw [show off + (apo a (aF a i)).length + (apo a (aS a i)).length = off + ((apo a (aF a i)).length + (apo a (aS a i)).length) by omega, show off + ((apo a (aF a i)).length + (apo a (aS a i)).length + 1) = off + ((apo a (aF a i)).length + (apo a (aS a i)).length) + 1 by omega]
        obtain ⟨w, hw⟩ : ∃ w, (apo a (aF a i)).length + (apo a (aS a i)).length = w := ⟨_, rfl⟩
        rw [hw] at k1 ⊢
        obtain ⟨fu2, e2⟩ : ∃ f, fu - (apo a (aF a i)).length - (apo a (aS a i)).length = f + 1 := ⟨fu - (apo a (aF a i)).length - (apo a (aS a i)).length - 1, by omega⟩
        rw [e2, show fu - (w + 1) = fu2 by omega, fX4_floatOf_L10_s]
        rcases n1 with n1 | n1
        · rw [n1] at k1 ⊢
          simp (disch := omega) only [zl_0, zl_1, zl_2, zl_3, zl_4, zl_5, zl_6, zl_8, zl_9, zl_11, zl_12, zl_13, zl_16, zl_20, zl_23, zl_24, zl_30, zl_32, zl_40, zl_41, zl_43, zl_45, zl_50, zl_52, zl_60, zl_97, zl_99, zl_100, zl_124, zl_126, zl_127, zl_169, zl_170, zl_171, zl_195, zl_200, zl_201, zl_256, zl_261, zl_999, zl_1100, zl_1884, zl_4095, zl_4096, zd1, zd2, zs1, nI_add, pk_mul, zsb, zad1, zad2, zcl, zgI, zif_le, zif_nle, zif_lt, zif_nlt, zif_eq, zif_ne, zif_self, zif_T, zif_F, Nat.zero_add, Nat.add_sub_cancel, zn21, zn31, zif_m1, zif_m1l, zif_m1n, zif_pm, zb1_k, zb2_k, zb3_k, zb4_k, zb5_k, zb6_k, zb7_k, zb8_k, zb9_k, zb10_k, zb11_k, zb12_k, zb14_k, zb21_k, zb22_k, zupd_eq, zupd_ne, zupl_eq, zupl_ne, zupf_eq, zupf_ne, k1, r2h, g2, fX4_floatOf_J93, fX4_floatOf_J151, zpT s1]
          rfl
        · rw [n1] at k1 ⊢
          simp (disch := omega) only [zl_0, zl_1, zl_2, zl_3, zl_4, zl_5, zl_6, zl_8, zl_9, zl_11, zl_12, zl_13, zl_16, zl_20, zl_23, zl_24, zl_30, zl_32, zl_40, zl_41, zl_43, zl_45, zl_50, zl_52, zl_60, zl_97, zl_99, zl_100, zl_124, zl_126, zl_127, zl_169, zl_170, zl_171, zl_195, zl_200, zl_201, zl_256, zl_261, zl_999, zl_1100, zl_1884, zl_4095, zl_4096, zd1, zd2, zs1, nI_add, pk_mul, zsb, zad1, zad2, zcl, zgI, zif_le, zif_nle, zif_lt, zif_nlt, zif_eq, zif_ne, zif_self, zif_T, zif_F, Nat.zero_add, Nat.add_sub_cancel, zn21, zn31, zif_m1, zif_m1l, zif_m1n, zif_pm, zb1_k, zb2_k, zb3_k, zb4_k, zb5_k, zb6_k, zb7_k, zb8_k, zb9_k, zb10_k, zb11_k, zb12_k, zb14_k, zb21_k, zb22_k, zupd_eq, zupd_ne, zupl_eq, zupl_ne, zupf_eq, zupf_ne, k1, r2h, g2, fX4_floatOf_J93, fX4_floatOf_J151, zpT s2, zpT s3, zpT s4, zpT s5]
          rfl
      · rw [f1', g1']
        rw [show off + (apo a (aF a i)).length + (apo a (aS a i)).length = off + ((apo a (aF a i)).length + (apo a (aS a i)).length) by omega, show off + ((apo a (aF a i)).length + (apo a (aS a i)).length + 1) = off + ((apo a (aF a i)).length + (apo a (aS a i)).length) + 1 by omega]
        obtain ⟨w, hw⟩ : ∃ w, (apo a (aF a i)).length + (apo a (aS a i)).length = w := ⟨_, rfl⟩
        rw [hw] at k3 ⊢
        obtain ⟨fu2, e2⟩ : ∃ f, fu' - (apo a (aF a i)).length - (apo a (aS a i)).length = f + 1 := ⟨fu' - (apo a (aF a i)).length - (apo a (aS a i)).length - 1, by omega⟩
        rw [e2, show fu' - (w + 1) = fu2 by omega, fX11_draws_L4_s]
        simp (disch := omega) only [zl_0, zl_1, zl_2, zl_3, zl_4, zl_5, zl_6, zl_8, zl_9, zl_11, zl_12, zl_13, zl_16, zl_20, zl_23, zl_24, zl_30, zl_32, zl_40, zl_41, zl_43, zl_45, zl_50, zl_52, zl_60, zl_97, zl_99, zl_100, zl_124, zl_126, zl_127, zl_169, zl_170, zl_171, zl_195, zl_200, zl_201, zl_256, zl_261, zl_999, zl_1100, zl_1884, zl_4095, zl_4096, zd1, zd2, zs1, nI_add, pk_mul, zsb, zad1, zad2, zcl, zgI, zif_le, zif_nle, zif_lt, zif_nlt, zif_eq, zif_ne, zif_self, zif_T, zif_F, Nat.zero_add, Nat.add_sub_cancel, zn21, zn31, zif_m1, zif_m1l, zif_m1n, zif_pm, zb1_k, zb2_k, zb3_k, zb4_k, zb5_k, zb6_k, zb7_k, zb8_k, zb9_k, zb10_k, zb11_k, zb12_k, zb14_k, zb21_k, zb22_k, zupd_eq, zupd_ne, zupl_eq, zupl_ne, zupf_eq, zupf_ne, k3, kO, t2h, g2', jf]
