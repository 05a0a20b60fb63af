/-! trays -/
theorem zofn (n : Nat) : Int32.ofNat n = nI n := by unfold nI; rfl
theorem zn01 : nI 0 - nI 1 = -nI 1 := by decide
abbrev zxT (xs : XS) (k0 s0 : Int32) (p0 : Nat → Int32) (k1 s1 : Int32) (p1 : Nat → Int32) (k2 s2 : Int32) (p2 : Nat → Int32) : XS := (xs.1, xs.2.1, xs.2.2.1, xs.2.2.2.1, xs.2.2.2.2.1, xs.2.2.2.2.2.1, xs.2.2.2.2.2.2.1, (k0, s0, p0, k1, s1, p1, k2, s2, p2), xs.2.2.2.2.2.2.2.2)
theorem zRl_tray {Fd : FD → Prop} {a b : Nat → Nat} {xs : XS} {ms : MS} {k0 s0 k1 s1 k2 s2 : Int32} {p0 p1 p2 now : Nat → Int32} (hv : zV a) (hx : zX a xs) (hr : zIm xs ms ∧ zTp xs ms ∧ Fd (x_found xs)) (hT : ∀ t, t < 3 → zTry b t) (e : ∀ j, j < 195 → b j = a j) (h0 : zXt b 0 k0 s0 p0) (h1 : zXt b 1 k1 s1 p1) (h2 : zXt b 2 k2 s2 p2) (hw : zMn b now) : zRl Fd (zxT xs k0 s0 p0 k1 s1 p1 k2 s2 p2) (zmN ms now) := by
  obtain ⟨v1, v8, v3, v4, v5⟩ := hv
  obtain ⟨g1, g2, g3, g4, g5, g6⟩ := hx
  exact ⟨b, ⟨fun s hs => by rw [e s (by omega), e (4 + s) (by omega)]; exact v1 s hs, (e 8 (by omega)).symm ▸ v8, zNet_fr v8 v3 (fun j x y => e j (by omega)) (fun s hs h0 _ => by rw [e s (by omega)]; exact h0), zMsh_fr v4 (fun j x y => e j (by omega)), hT⟩, ⟨zXb_fr g1 (fun j hj => e j (by omega)), zXn_fr v8 g2 (fun j x y => e j (by omega)), zXm_fr v4 g3 (fun j x y => e j (by omega)), h0, h1, h2⟩, hw, hr.1, hr.2.1, hr.2.2⟩
theorem zTfacts {a : Nat → Nat} {now : Nat → Int32} {t : Nat} {k s : Int32} {p : Nat → Int32} (ht : t < 3) (hv : zTry a t) (hx : zXt a t k s p) (hm : zMn a now) : (a (195 + 2 * t) = 0 ∧ a (195 + 2 * t + 1) = 0 ∧ k = -nI 1 ∧ now (195 + 2 * t) = -nI 1) ∨ ∃ kk sz, a (195 + 2 * t) = sz + 1 ∧ a (195 + 2 * t + 1) = kk + 1 ∧ sz ≤ 20 ∧ kk ≤ 2 ∧ k = nI kk ∧ s = nI sz ∧ now (195 + 2 * t) = nI sz ∧ now (195 + 2 * t + 1) = nI kk ∧ ∀ i, i < 20 → p i = nI (a (201 + 20 * t + i)) - nI 1 := by
  obtain ⟨v1, v2, v3, v4⟩ := hv
  have m1 := hm.2.1 (2 * t) (by omega) (Or.inl (by omega))
  have m2 := hm.2.1 (2 * t + 1) (by omega)
  rw [show 195 + (2 * t + 1) = 195 + 2 * t + 1 by omega] at m2
  by_cases z : a (195 + 2 * t) = 0
  · left
    have z2 := v3.mp z
    refine ⟨z, z2, ?_, ?_⟩
    · rw [hx.1, z2]; exact zn01
    · rw [m1, z]; exact zn01
  · right
    have z2 : a (195 + 2 * t + 1) ≠ 0 := fun e => z (v3.mpr e)
    obtain ⟨sz, hs⟩ : ∃ sz, a (195 + 2 * t) = sz + 1 := ⟨a (195 + 2 * t) - 1, by omega⟩
    obtain ⟨kk, hk⟩ : ∃ kk, a (195 + 2 * t + 1) = kk + 1 := ⟨a (195 + 2 * t + 1) - 1, by omega⟩
    have hx2 := hx.2 (by omega)
    refine ⟨kk, sz, hs, hk, by omega, by omega, ?_, ?_, ?_, ?_, hx2.2⟩
    · rw [hx.1, hk, zs1]
    · rw [hx2.1, hs, zs1]
    · rw [m1, hs, zs1]
    · rw [m2 (Or.inr (by omega)), hk, zs1]
/-- whether what is one more than an ID may lie in a tray of a kind -/
def zFit (a : Nat → Nat) (kk q : Nat) : Prop := q = 0 ∨ kk = 0 ∨ (kk = 1 ↔ aK a (q - 1) = 0)
theorem zFit_d (a : Nat → Nat) (kk q : Nat) : zFit a kk q ∨ ¬ zFit a kk q := Classical.em _
theorem fx_fits {a : Nat → Nat} {kind : Nat → Int32} {kk q : Nat} (h8 : a 8 ≤ 40) (hN : zNet a) (hk : ∀ i, i < a 8 → kind i = nI (aK a i)) (hkk : kk ≤ 2) (hq : q ≤ a 8) : (zFit a kk q → fX9_fits (nI q - nI 1) (nI kk) (nI (a 8)) kind = some (nI 1)) ∧ (¬ zFit a kk q → fX9_fits (nI q - nI 1) (nI kk) (nI (a 8)) kind = some (nI 0)) := by
  unfold fX9_fits
  cases q with
  | zero =>
    rw [zn01]
    refine ⟨fun _ => ?_, fun h => absurd (Or.inl rfl) h⟩
    have e : fX5_has (-nI 1) (nI (a 8)) = some (nI 0) := zhasF (Or.inl (by decide))
    by_cases z : kk = 0
    · simp (disch := omega) only [zl_0, zl_1, zl_2, zl_3, zl_4, zl_5, zl_6, zl_8, zl_9, zl_11, zl_12, zl_13, zl_16, zl_20, zl_23, zl_24, zl_30, zl_32, zl_40, zl_41, zl_43, zl_45, zl_50, zl_52, zl_60, zl_97, zl_99, zl_100, zl_124, zl_126, zl_127, zl_169, zl_170, zl_171, zl_195, zl_200, zl_201, zl_256, zl_261, zl_999, zl_1100, zl_1884, zl_4095, zl_4096, zd1, zd2, zs1, nI_add, pk_mul, zsb, zad1, zad2, zcl, zgI, zif_le, zif_nle, zif_lt, zif_nlt, zif_eq, zif_ne, zif_self, zif_T, zif_F, Nat.zero_add, Nat.add_sub_cancel, zn21, zn31, zif_m1, zif_m1l, zif_m1n, zif_pm, zb1_k, zb2_k, zb3_k, zb4_k, zb5_k, zb6_k, zb7_k, zb8_k, zb9_k, zb10_k, zb11_k, zb12_k, zb14_k, zb21_k, zb22_k, zupd_eq, zupd_ne, zupl_eq, zupl_ne, zupf_eq, zupf_ne]
    · simp (disch := omega) only [zl_0, zl_1, zl_2, zl_3, zl_4, zl_5, zl_6, zl_8, zl_9, zl_11, zl_12, zl_13, zl_16, zl_20, zl_23, zl_24, zl_30, zl_32, zl_40, zl_41, zl_43, zl_45, zl_50, zl_52, zl_60, zl_97, zl_99, zl_100, zl_124, zl_126, zl_127, zl_169, zl_170, zl_171, zl_195, zl_200, zl_201, zl_256, zl_261, zl_999, zl_1100, zl_1884, zl_4095, zl_4096, zd1, zd2, zs1, nI_add, pk_mul, zsb, zad1, zad2, zcl, zgI, zif_le, zif_nle, zif_lt, zif_nlt, zif_eq, zif_ne, zif_self, zif_T, zif_F, Nat.zero_add, Nat.add_sub_cancel, zn21, zn31, zif_m1, zif_m1l, zif_m1n, zif_pm, zb1_k, zb2_k, zb3_k, zb4_k, zb5_k, zb6_k, zb7_k, zb8_k, zb9_k, zb10_k, zb11_k, zb12_k, zb14_k, zb21_k, zb22_k, zupd_eq, zupd_ne, zupl_eq, zupl_ne, zupf_eq, zupf_ne, e]
  | succ q =>
    rw [zs1]
    have e := zhasT (j := q) (n := a 8) (by omega) h8
    have b := zNet_b hN (i := q) (by omega) h8
    by_cases z : kk = 0
    · refine ⟨fun _ => ?_, fun h => absurd (Or.inr (Or.inl z)) h⟩
      simp (disch := omega) only [zl_0, zl_1, zl_2, zl_3, zl_4, zl_5, zl_6, zl_8, zl_9, zl_11, zl_12, zl_13, zl_16, zl_20, zl_23, zl_24, zl_30, zl_32, zl_40, zl_41, zl_43, zl_45, zl_50, zl_52, zl_60, zl_97, zl_99, zl_100, zl_124, zl_126, zl_127, zl_169, zl_170, zl_171, zl_195, zl_200, zl_201, zl_256, zl_261, zl_999, zl_1100, zl_1884, zl_4095, zl_4096, zd1, zd2, zs1, nI_add, pk_mul, zsb, zad1, zad2, zcl, zgI, zif_le, zif_nle, zif_lt, zif_nlt, zif_eq, zif_ne, zif_self, zif_T, zif_F, Nat.zero_add, Nat.add_sub_cancel, zn21, zn31, zif_m1, zif_m1l, zif_m1n, zif_pm, zb1_k, zb2_k, zb3_k, zb4_k, zb5_k, zb6_k, zb7_k, zb8_k, zb9_k, zb10_k, zb11_k, zb12_k, zb14_k, zb21_k, zb22_k, zupd_eq, zupd_ne, zupl_eq, zupl_ne, zupf_eq, zupf_ne]
    · by_cases z1 : kk = 1
      · by_cases z2 : aK a q = 0
        · refine ⟨fun _ => ?_, fun h => absurd (Or.inr (Or.inr ⟨fun _ => z2, fun _ => z1⟩)) h⟩
          simp (disch := omega) only [zl_0, zl_1, zl_2, zl_3, zl_4, zl_5, zl_6, zl_8, zl_9, zl_11, zl_12, zl_13, zl_16, zl_20, zl_23, zl_24, zl_30, zl_32, zl_40, zl_41, zl_43, zl_45, zl_50, zl_52, zl_60, zl_97, zl_99, zl_100, zl_124, zl_126, zl_127, zl_169, zl_170, zl_171, zl_195, zl_200, zl_201, zl_256, zl_261, zl_999, zl_1100, zl_1884, zl_4095, zl_4096, zd1, zd2, zs1, nI_add, pk_mul, zsb, zad1, zad2, zcl, zgI, zif_le, zif_nle, zif_lt, zif_nlt, zif_eq, zif_ne, zif_self, zif_T, zif_F, Nat.zero_add, Nat.add_sub_cancel, zn21, zn31, zif_m1, zif_m1l, zif_m1n, zif_pm, zb1_k, zb2_k, zb3_k, zb4_k, zb5_k, zb6_k, zb7_k, zb8_k, zb9_k, zb10_k, zb11_k, zb12_k, zb14_k, zb21_k, zb22_k, zupd_eq, zupd_ne, zupl_eq, zupl_ne, zupf_eq, zupf_ne, e, fX9_fits_J30, fX9_fits_J44, hk]
        · refine ⟨fun h => ?_, fun h => ?_⟩
          · rcases h with h | h | h
            · omega
            · omega
            · exact absurd (h.mp z1) z2
          · simp (disch := omega) only [zl_0, zl_1, zl_2, zl_3, zl_4, zl_5, zl_6, zl_8, zl_9, zl_11, zl_12, zl_13, zl_16, zl_20, zl_23, zl_24, zl_30, zl_32, zl_40, zl_41, zl_43, zl_45, zl_50, zl_52, zl_60, zl_97, zl_99, zl_100, zl_124, zl_126, zl_127, zl_169, zl_170, zl_171, zl_195, zl_200, zl_201, zl_256, zl_261, zl_999, zl_1100, zl_1884, zl_4095, zl_4096, zd1, zd2, zs1, nI_add, pk_mul, zsb, zad1, zad2, zcl, zgI, zif_le, zif_nle, zif_lt, zif_nlt, zif_eq, zif_ne, zif_self, zif_T, zif_F, Nat.zero_add, Nat.add_sub_cancel, zn21, zn31, zif_m1, zif_m1l, zif_m1n, zif_pm, zb1_k, zb2_k, zb3_k, zb4_k, zb5_k, zb6_k, zb7_k, zb8_k, zb9_k, zb10_k, zb11_k, zb12_k, zb14_k, zb21_k, zb22_k, zupd_eq, zupd_ne, zupl_eq, zupl_ne, zupf_eq, zupf_ne, e, fX9_fits_J30, fX9_fits_J44, hk]
      · by_cases z2 : aK a q = 0
        · refine ⟨fun h => ?_, fun h => ?_⟩
          · rcases h with h | h | h
            · omega
            · omega
            · exact absurd (h.mpr z2) z1
          · simp (disch := omega) only [zl_0, zl_1, zl_2, zl_3, zl_4, zl_5, zl_6, zl_8, zl_9, zl_11, zl_12, zl_13, zl_16, zl_20, zl_23, zl_24, zl_30, zl_32, zl_40, zl_41, zl_43, zl_45, zl_50, zl_52, zl_60, zl_97, zl_99, zl_100, zl_124, zl_126, zl_127, zl_169, zl_170, zl_171, zl_195, zl_200, zl_201, zl_256, zl_261, zl_999, zl_1100, zl_1884, zl_4095, zl_4096, zd1, zd2, zs1, nI_add, pk_mul, zsb, zad1, zad2, zcl, zgI, zif_le, zif_nle, zif_lt, zif_nlt, zif_eq, zif_ne, zif_self, zif_T, zif_F, Nat.zero_add, Nat.add_sub_cancel, zn21, zn31, zif_m1, zif_m1l, zif_m1n, zif_pm, zb1_k, zb2_k, zb3_k, zb4_k, zb5_k, zb6_k, zb7_k, zb8_k, zb9_k, zb10_k, zb11_k, zb12_k, zb14_k, zb21_k, zb22_k, zupd_eq, zupd_ne, zupl_eq, zupl_ne, zupf_eq, zupf_ne, e, fX9_fits_J30, fX9_fits_J44, hk]
        · refine ⟨fun _ => ?_, fun h => absurd (Or.inr (Or.inr ⟨fun w => absurd w z1, fun w => absurd w z2⟩)) h⟩
          simp (disch := omega) only [zl_0, zl_1, zl_2, zl_3, zl_4, zl_5, zl_6, zl_8, zl_9, zl_11, zl_12, zl_13, zl_16, zl_20, zl_23, zl_24, zl_30, zl_32, zl_40, zl_41, zl_43, zl_45, zl_50, zl_52, zl_60, zl_97, zl_99, zl_100, zl_124, zl_126, zl_127, zl_169, zl_170, zl_171, zl_195, zl_200, zl_201, zl_256, zl_261, zl_999, zl_1100, zl_1884, zl_4095, zl_4096, zd1, zd2, zs1, nI_add, pk_mul, zsb, zad1, zad2, zcl, zgI, zif_le, zif_nle, zif_lt, zif_nlt, zif_eq, zif_ne, zif_self, zif_T, zif_F, Nat.zero_add, Nat.add_sub_cancel, zn21, zn31, zif_m1, zif_m1l, zif_m1n, zif_pm, zb1_k, zb2_k, zb3_k, zb4_k, zb5_k, zb6_k, zb7_k, zb8_k, zb9_k, zb10_k, zb11_k, zb12_k, zb14_k, zb21_k, zb22_k, zupd_eq, zupd_ne, zupl_eq, zupl_ne, zupf_eq, zupf_ne, e, fX9_fits_J30, fX9_fits_J44, hk]
theorem fm_fits {a : Nat → Nat} {now : Nat → Int32} {t kk q : Nat} (h8 : a 8 ≤ 40) (hN : zNet a) (ht : t < 3) (hk : now (195 + 2 * t + 1) = nI kk) (hn : ∀ i, i < a 8 → fX11_kindOf (nI i) now = some (nI (aK a i))) (hkk : kk ≤ 2) (hq : q ≤ a 8) : (zFit a kk q → fX11_mayLie (nI t) (nI q) now = some (nI 1)) ∧ (¬ zFit a kk q → fX11_mayLie (nI t) (nI q) now = some (nI 0)) := by
  unfold fX11_mayLie
  cases q with
  | zero =>
    refine ⟨fun _ => ?_, fun h => absurd (Or.inl rfl) h⟩
    simp (disch := omega) only [zl_0, zl_1, zl_2, zl_3, zl_4, zl_5, zl_6, zl_8, zl_9, zl_11, zl_12, zl_13, zl_16, zl_20, zl_23, zl_24, zl_30, zl_32, zl_40, zl_41, zl_43, zl_45, zl_50, zl_52, zl_60, zl_97, zl_99, zl_100, zl_124, zl_126, zl_127, zl_169, zl_170, zl_171, zl_195, zl_200, zl_201, zl_256, zl_261, zl_999, zl_1100, zl_1884, zl_4095, zl_4096, zd1, zd2, zs1, nI_add, pk_mul, zsb, zad1, zad2, zcl, zgI, zif_le, zif_nle, zif_lt, zif_nlt, zif_eq, zif_ne, zif_self, zif_T, zif_F, Nat.zero_add, Nat.add_sub_cancel, zn21, zn31, zif_m1, zif_m1l, zif_m1n, zif_pm, zb1_k, zb2_k, zb3_k, zb4_k, zb5_k, zb6_k, zb7_k, zb8_k, zb9_k, zb10_k, zb11_k, zb12_k, zb14_k, zb21_k, zb22_k, zupd_eq, zupd_ne, zupl_eq, zupl_ne, zupf_eq, zupf_ne]
  | succ q =>
    have b := zNet_b hN (i := q) (by omega) h8
    by_cases z : kk = 0
    · refine ⟨fun _ => ?_, fun h => absurd (Or.inr (Or.inl z)) h⟩
      simp (disch := omega) only [zl_0, zl_1, zl_2, zl_3, zl_4, zl_5, zl_6, zl_8, zl_9, zl_11, zl_12, zl_13, zl_16, zl_20, zl_23, zl_24, zl_30, zl_32, zl_40, zl_41, zl_43, zl_45, zl_50, zl_52, zl_60, zl_97, zl_99, zl_100, zl_124, zl_126, zl_127, zl_169, zl_170, zl_171, zl_195, zl_200, zl_201, zl_256, zl_261, zl_999, zl_1100, zl_1884, zl_4095, zl_4096, zd1, zd2, zs1, nI_add, pk_mul, zsb, zad1, zad2, zcl, zgI, zif_le, zif_nle, zif_lt, zif_nlt, zif_eq, zif_ne, zif_self, zif_T, zif_F, Nat.zero_add, Nat.add_sub_cancel, zn21, zn31, zif_m1, zif_m1l, zif_m1n, zif_pm, zb1_k, zb2_k, zb3_k, zb4_k, zb5_k, zb6_k, zb7_k, zb8_k, zb9_k, zb10_k, zb11_k, zb12_k, zb14_k, zb21_k, zb22_k, zupd_eq, zupd_ne, zupl_eq, zupl_ne, zupf_eq, zupf_ne, hk]
    · by_cases z1 : kk = 1
      · by_cases z2 : aK a q = 0
        · refine ⟨fun _ => ?_, fun h => absurd (Or.inr (Or.inr ⟨fun _ => z2, fun _ => z1⟩)) h⟩
          simp (disch := omega) only [zl_0, zl_1, zl_2, zl_3, zl_4, zl_5, zl_6, zl_8, zl_9, zl_11, zl_12, zl_13, zl_16, zl_20, zl_23, zl_24, zl_30, zl_32, zl_40, zl_41, zl_43, zl_45, zl_50, zl_52, zl_60, zl_97, zl_99, zl_100, zl_124, zl_126, zl_127, zl_169, zl_170, zl_171, zl_195, zl_200, zl_201, zl_256, zl_261, zl_999, zl_1100, zl_1884, zl_4095, zl_4096, zd1, zd2, zs1, nI_add, pk_mul, zsb, zad1, zad2, zcl, zgI, zif_le, zif_nle, zif_lt, zif_nlt, zif_eq, zif_ne, zif_self, zif_T, zif_F, Nat.zero_add, Nat.add_sub_cancel, zn21, zn31, zif_m1, zif_m1l, zif_m1n, zif_pm, zb1_k, zb2_k, zb3_k, zb4_k, zb5_k, zb6_k, zb7_k, zb8_k, zb9_k, zb10_k, zb11_k, zb12_k, zb14_k, zb21_k, zb22_k, zupd_eq, zupd_ne, zupl_eq, zupl_ne, zupf_eq, zupf_ne, hk, fX11_mayLie_J33, fX11_mayLie_J48, hn]
        · refine ⟨fun h => ?_, fun h => ?_⟩
          · rcases h with h | h | h
            · omega
            · omega
            · exact absurd (h.mp z1) z2
          · simp (disch := omega) only [zl_0, zl_1, zl_2, zl_3, zl_4, zl_5, zl_6, zl_8, zl_9, zl_11, zl_12, zl_13, zl_16, zl_20, zl_23, zl_24, zl_30, zl_32, zl_40, zl_41, zl_43, zl_45, zl_50, zl_52, zl_60, zl_97, zl_99, zl_100, zl_124, zl_126, zl_127, zl_169, zl_170, zl_171, zl_195, zl_200, zl_201, zl_256, zl_261, zl_999, zl_1100, zl_1884, zl_4095, zl_4096, zd1, zd2, zs1, nI_add, pk_mul, zsb, zad1, zad2, zcl, zgI, zif_le, zif_nle, zif_lt, zif_nlt, zif_eq, zif_ne, zif_self, zif_T, zif_F, Nat.zero_add, Nat.add_sub_cancel, zn21, zn31, zif_m1, zif_m1l, zif_m1n, zif_pm, zb1_k, zb2_k, zb3_k, zb4_k, zb5_k, zb6_k, zb7_k, zb8_k, zb9_k, zb10_k, zb11_k, zb12_k, zb14_k, zb21_k, zb22_k, zupd_eq, zupd_ne, zupl_eq, zupl_ne, zupf_eq, zupf_ne, hk, fX11_mayLie_J33, fX11_mayLie_J48, hn]
      · by_cases z2 : aK a q = 0
        · refine ⟨fun h => ?_, fun h => ?_⟩
          · rcases h with h | h | h
            · omega
            · omega
            · exact absurd (h.mpr z2) z1
          · simp (disch := omega) only [zl_0, zl_1, zl_2, zl_3, zl_4, zl_5, zl_6, zl_8, zl_9, zl_11, zl_12, zl_13, zl_16, zl_20, zl_23, zl_24, zl_30, zl_32, zl_40, zl_41, zl_43, zl_45, zl_50, zl_52, zl_60, zl_97, zl_99, zl_100, zl_124, zl_126, zl_127, zl_169, zl_170, zl_171, zl_195, zl_200, zl_201, zl_256, zl_261, zl_999, zl_1100, zl_1884, zl_4095, zl_4096, zd1, zd2, zs1, nI_add, pk_mul, zsb, zad1, zad2, zcl, zgI, zif_le, zif_nle, zif_lt, zif_nlt, zif_eq, zif_ne, zif_self, zif_T, zif_F, Nat.zero_add, Nat.add_sub_cancel, zn21, zn31, zif_m1, zif_m1l, zif_m1n, zif_pm, zb1_k, zb2_k, zb3_k, zb4_k, zb5_k, zb6_k, zb7_k, zb8_k, zb9_k, zb10_k, zb11_k, zb12_k, zb14_k, zb21_k, zb22_k, zupd_eq, zupd_ne, zupl_eq, zupl_ne, zupf_eq, zupf_ne, hk, fX11_mayLie_J33, fX11_mayLie_J48, hn]
        · refine ⟨fun _ => ?_, fun h => absurd (Or.inr (Or.inr ⟨fun w => absurd w z1, fun w => absurd w z2⟩)) h⟩
          simp (disch := omega) only [zl_0, zl_1, zl_2, zl_3, zl_4, zl_5, zl_6, zl_8, zl_9, zl_11, zl_12, zl_13, zl_16, zl_20, zl_23, zl_24, zl_30, zl_32, zl_40, zl_41, zl_43, zl_45, zl_50, zl_52, zl_60, zl_97, zl_99, zl_100, zl_124, zl_126, zl_127, zl_169, zl_170, zl_171, zl_195, zl_200, zl_201, zl_256, zl_261, zl_999, zl_1100, zl_1884, zl_4095, zl_4096, zd1, zd2, zs1, nI_add, pk_mul, zsb, zad1, zad2, zcl, zgI, zif_le, zif_nle, zif_lt, zif_nlt, zif_eq, zif_ne, zif_self, zif_T, zif_F, Nat.zero_add, Nat.add_sub_cancel, zn21, zn31, zif_m1, zif_m1l, zif_m1n, zif_pm, zb1_k, zb2_k, zb3_k, zb4_k, zb5_k, zb6_k, zb7_k, zb8_k, zb9_k, zb10_k, zb11_k, zb12_k, zb14_k, zb21_k, zb22_k, zupd_eq, zupd_ne, zupl_eq, zupl_ne, zupf_eq, zupf_ne, hk, fX11_mayLie_J33, fX11_mayLie_J48, hn]
/-- a place of a row of sz -/
theorem zplace (p : Int32) {sz : Nat} (hs : sz ≤ 20) : (fX9_hasPlace p (nI sz) = some (nI 0) ∧ fX11_in p.toInt64 (0 : Int64) (nI sz - nI 1).toInt64 = some (nI 0)) ∨ ∃ i, i < sz ∧ p = nI i ∧ fX9_hasPlace (nI i) (nI sz) = some (nI 1) ∧ fX11_in (nI i).toInt64 (0 : Int64) (nI (sz - 1)).toInt64 = some (nI 1) := by
  rw [zprd p sz (by omega)]
  rcases zprdI p sz (by omega) with ⟨e, h⟩ | ⟨i, hi, rfl, e⟩
  · refine Or.inl ⟨?_, e⟩
    unfold fX9_hasPlace
    rcases h with h | h
    · rw [if_pos h]; try rfl
    · by_cases z : p < 0
      · rw [if_pos z]; try rfl
      · rw [if_neg z, if_pos h]; try rfl
  · refine Or.inr ⟨i, hi, rfl, ?_, ?_⟩
    · unfold fX9_hasPlace
      simp (disch := omega) only [zl_0, zl_1, zl_2, zl_3, zl_4, zl_5, zl_6, zl_8, zl_9, zl_11, zl_12, zl_13, zl_16, zl_20, zl_23, zl_24, zl_30, zl_32, zl_40, zl_41, zl_43, zl_45, zl_50, zl_52, zl_60, zl_97, zl_99, zl_100, zl_124, zl_126, zl_127, zl_169, zl_170, zl_171, zl_195, zl_200, zl_201, zl_256, zl_261, zl_999, zl_1100, zl_1884, zl_4095, zl_4096, zd1, zd2, zs1, nI_add, pk_mul, zsb, zad1, zad2, zcl, zgI, zif_le, zif_nle, zif_lt, zif_nlt, zif_eq, zif_ne, zif_self, zif_T, zif_F, Nat.zero_add, Nat.add_sub_cancel, zn21, zn31, zif_m1, zif_m1l, zif_m1n, zif_pm, zb1_k, zb2_k, zb3_k, zb4_k, zb5_k, zb6_k, zb7_k, zb8_k, zb9_k, zb10_k, zb11_k, zb12_k, zb14_k, zb21_k, zb22_k, zupd_eq, zupd_ne, zupl_eq, zupl_ne, zupf_eq, zupf_ne]
    · rw [← pk_sub (a := sz) (b := 1) (by omega), ← e]
      exact zprd (nI i) sz (by omega)
theorem fx_fill {v : Int32} {f : Nat → Int32} : ∃ g, fJ7_fill_53178 v 20 f = some g ∧ ∀ i, i < 20 → g i = v := by
  have key : ∀ d j fu (f : Nat → Int32), j + d = 20 → d < fu → (∀ i, i < j → f i = v) → ∃ g, fJ7_fill_53178_L5 20 v fu (nI j) f = some g ∧ ∀ i, i < 20 → g i = v := by
    intro d
    induction d with
    | zero =>
      intro j fu f hj hfu hf
      obtain ⟨fu, rfl⟩ : ∃ f, fu = f + 1 := ⟨fu - 1, by omega⟩
      refine ⟨f, ?_, fun i hi => hf i (by omega)⟩
      rw [fJ7_fill_53178_L5_s]
      simp (disch := omega) only [zl_0, zl_1, zl_2, zl_3, zl_4, zl_5, zl_6, zl_8, zl_9, zl_11, zl_12, zl_13, zl_16, zl_20, zl_23, zl_24, zl_30, zl_32, zl_40, zl_41, zl_43, zl_45, zl_50, zl_52, zl_60, zl_97, zl_99, zl_100, zl_124, zl_126, zl_127, zl_169, zl_170, zl_171, zl_195, zl_200, zl_201, zl_256, zl_261, zl_999, zl_1100, zl_1884, zl_4095, zl_4096, zd1, zd2, zs1, nI_add, pk_mul, zsb, zad1, zad2, zcl, zgI, zif_le, zif_nle, zif_lt, zif_nlt, zif_eq, zif_ne, zif_self, zif_T, zif_F, Nat.zero_add, Nat.add_sub_cancel, zn21, zn31, zif_m1, zif_m1l, zif_m1n, zif_pm, zb1_k, zb2_k, zb3_k, zb4_k, zb5_k, zb6_k, zb7_k, zb8_k, zb9_k, zb10_k, zb11_k, zb12_k, zb14_k, zb21_k, zb22_k, zupd_eq, zupd_ne, zupl_eq, zupl_ne, zupf_eq, zupf_ne, zofn]
    | succ d ih =>
      intro j fu f hj hfu hf
      obtain ⟨fu, rfl⟩ : ∃ f, fu = f + 1 := ⟨fu - 1, by omega⟩
      obtain ⟨g, h1, h2⟩ := ih (j + 1) fu (upd f j v) (by omega) (by omega) (fun i hi => by
        by_cases e : i = j
        · rw [zupd_eq e]
        · rw [zupd_ne e]; exact hf i (by omega))
      refine ⟨g, ?_, h2⟩
      rw [fJ7_fill_53178_L5_s]
      simp (disch := omega) only [zl_0, zl_1, zl_2, zl_3, zl_4, zl_5, zl_6, zl_8, zl_9, zl_11, zl_12, zl_13, zl_16, zl_20, zl_23, zl_24, zl_30, zl_32, zl_40, zl_41, zl_43, zl_45, zl_50, zl_52, zl_60, zl_97, zl_99, zl_100, zl_124, zl_126, zl_127, zl_169, zl_170, zl_171, zl_195, zl_200, zl_201, zl_256, zl_261, zl_999, zl_1100, zl_1884, zl_4095, zl_4096, zd1, zd2, zs1, nI_add, pk_mul, zsb, zad1, zad2, zcl, zgI, zif_le, zif_nle, zif_lt, zif_nlt, zif_eq, zif_ne, zif_self, zif_T, zif_F, Nat.zero_add, Nat.add_sub_cancel, zn21, zn31, zif_m1, zif_m1l, zif_m1n, zif_pm, zb1_k, zb2_k, zb3_k, zb4_k, zb5_k, zb6_k, zb7_k, zb8_k, zb9_k, zb10_k, zb11_k, zb12_k, zb14_k, zb21_k, zb22_k, zupd_eq, zupd_ne, zupl_eq, zupl_ne, zupf_eq, zupf_ne, zofn, h1]
  exact key 20 0 5000 f (by omega) (by omega) (fun i hi => by omega)
/-- a tray made anew: one more than its size, one more than its kind -/
def zTs (a : Nat → Nat) (t s k : Nat) : Nat → Nat := fun j => if j = 195 + 2 * t then s else if j = 195 + 2 * t + 1 then k else if 201 + 20 * t ≤ j ∧ j < 201 + 20 * t + 20 then 0 else a j
theorem zTs_0 {a : Nat → Nat} {t s k : Nat} : zTs a t s k (195 + 2 * t) = s := if_pos rfl
theorem zTs_1 {a : Nat → Nat} {t s k : Nat} : zTs a t s k (195 + 2 * t + 1) = k := by
  unfold zTs
  rw [if_neg (by omega), if_pos rfl]
theorem zTs_2 {a : Nat → Nat} {t s k i : Nat} (ht : t < 3) (hi : i < 20) : zTs a t s k (201 + 20 * t + i) = 0 := by
  unfold zTs
  rw [if_neg (by omega), if_neg (by omega), if_pos (by omega)]
theorem zTs_n {a : Nat → Nat} {t s k j : Nat} (h1 : j ≠ 195 + 2 * t) (h2 : j ≠ 195 + 2 * t + 1) (h3 : j < 201 + 20 * t ∨ 201 + 20 * t + 20 ≤ j) : zTs a t s k j = a j := by
  unfold zTs
  rw [if_neg h1, if_neg h2, if_neg (by omega)]
theorem zTs_T {a : Nat → Nat} {t s k : Nat} (hT : ∀ t, t < 3 → zTry a t) (ht : t < 3) (hs : s ≤ 21) (hk : k ≤ 3) (hz : s = 0 ↔ k = 0) : ∀ u, u < 3 → zTry (zTs a t s k) u := by
  intro u hu
  have e8 : zTs a t s k 8 = a 8 := zTs_n (by omega) (by omega) (by omega)
  by_cases e : u = t
  · subst e
    unfold zTry
    rw [zTs_0, zTs_1]
    exact ⟨hs, hk, hz, fun i hi => by rw [zTs_2 ht hi]; omega⟩
  · obtain ⟨t1, t2, t3, t4⟩ := hT u hu
    unfold zTry
    rw [zTs_n (by omega) (by omega) (by omega), zTs_n (j := 195 + 2 * u + 1) (by omega) (by omega) (by omega), e8]
    exact ⟨t1, t2, t3, fun i hi => by rw [zTs_n (by omega) (by omega) (by omega)]; exact t4 i hi⟩
theorem zTs_fr {a : Nat → Nat} {t s k u : Nat} {kk ss : Int32} {p : Nat → Int32} (ht : t < 3) (hu : u < 3) (hn : u ≠ t) (h : zXt a u kk ss p) : zXt (zTs a t s k) u kk ss p :=
  zXt_fr hu h (zTs_n (by omega) (by omega) (by omega)) (zTs_n (by omega) (by omega) (by omega)) (fun i hi => zTs_n (by omega) (by omega) (by omega))
theorem zTs_X {a : Nat → Nat} {t s k : Nat} {kk ss : Int32} {p : Nat → Int32} (ht : t < 3) (h1 : kk = nI k - nI 1) (h2 : 0 < k → ss = nI s - nI 1) (h3 : ∀ i, i < 20 → p i = -nI 1) : zXt (zTs a t s k) t kk ss p := by
  refine ⟨by rw [zTs_1]; exact h1, fun h0 => ?_⟩
  rw [zTs_1] at h0
  refine ⟨by rw [zTs_0]; exact h2 h0, fun i hi => ?_⟩
  rw [zTs_2 ht hi, zn01]
  exact h3 i hi
theorem fm_tray {a : Nat → Nat} {now : Nat → Int32} {t s k : Nat} {v2 v1 : Int32} (ht : t < 3) (hm : zMn a now) (h1 : v1 = nI k - nI 1) (h2 : v2 = nI s - nI 1) : ∃ now', fX11_tray_J64 now (nI t) v1 v2 = some (nI 1, now') ∧ zMn (zTs a t s k) now' := by
  have key : ∀ d j fu (f : Nat → Int32), j + d = 20 → d < fu → ∃ g, fX11_tray_L83 (nI t) fu (nI j) f = some (nI 1, g) ∧ ∀ x, g x = if 201 + 20 * t + j ≤ x ∧ x < 201 + 20 * t + 20 then nI 0 else f x := by
    intro d
    induction d with
    | zero =>
      intro j fu f hj hfu
      obtain ⟨fu, rfl⟩ : ∃ f, fu = f + 1 := ⟨fu - 1, by omega⟩
      refine ⟨f, ?_, fun x => ?_⟩
      · rw [fX11_tray_L83_s]
        simp (disch := omega) only [zl_0, zl_1, zl_2, zl_3, zl_4, zl_5, zl_6, zl_8, zl_9, zl_11, zl_12, zl_13, zl_16, zl_20, zl_23, zl_24, zl_30, zl_32, zl_40, zl_41, zl_43, zl_45, zl_50, zl_52, zl_60, zl_97, zl_99, zl_100, zl_124, zl_126, zl_127, zl_169, zl_170, zl_171, zl_195, zl_200, zl_201, zl_256, zl_261, zl_999, zl_1100, zl_1884, zl_4095, zl_4096, zd1, zd2, zs1, nI_add, pk_mul, zsb, zad1, zad2, zcl, zgI, zif_le, zif_nle, zif_lt, zif_nlt, zif_eq, zif_ne, zif_self, zif_T, zif_F, Nat.zero_add, Nat.add_sub_cancel, zn21, zn31, zif_m1, zif_m1l, zif_m1n, zif_pm, zb1_k, zb2_k, zb3_k, zb4_k, zb5_k, zb6_k, zb7_k, zb8_k, zb9_k, zb10_k, zb11_k, zb12_k, zb14_k, zb21_k, zb22_k, zupd_eq, zupd_ne, zupl_eq, zupl_ne, zupf_eq, zupf_ne]
      · rw [if_neg (by omega)]
    | succ d ih =>
      intro j fu f hj hfu
      obtain ⟨fu, rfl⟩ : ∃ f, fu = f + 1 := ⟨fu - 1, by omega⟩
      obtain ⟨g, h1, h2⟩ := ih (j + 1) fu (upd f (201 + 20 * t + j) (nI 0)) (by omega) (by omega)
      refine ⟨g, ?_, fun x => ?_⟩
      · rw [fX11_tray_L83_s]
        simp (disch := omega) only [zl_0, zl_1, zl_2, zl_3, zl_4, zl_5, zl_6, zl_8, zl_9, zl_11, zl_12, zl_13, zl_16, zl_20, zl_23, zl_24, zl_30, zl_32, zl_40, zl_41, zl_43, zl_45, zl_50, zl_52, zl_60, zl_97, zl_99, zl_100, zl_124, zl_126, zl_127, zl_169, zl_170, zl_171, zl_195, zl_200, zl_201, zl_256, zl_261, zl_999, zl_1100, zl_1884, zl_4095, zl_4096, zd1, zd2, zs1, nI_add, pk_mul, zsb, zad1, zad2, zcl, zgI, zif_le, zif_nle, zif_lt, zif_nlt, zif_eq, zif_ne, zif_self, zif_T, zif_F, Nat.zero_add, Nat.add_sub_cancel, zn21, zn31, zif_m1, zif_m1l, zif_m1n, zif_pm, zb1_k, zb2_k, zb3_k, zb4_k, zb5_k, zb6_k, zb7_k, zb8_k, zb9_k, zb10_k, zb11_k, zb12_k, zb14_k, zb21_k, zb22_k, zupd_eq, zupd_ne, zupl_eq, zupl_ne, zupf_eq, zupf_ne, h1]
      · rw [h2 x]
        by_cases e : x = 201 + 20 * t + j
        · rw [if_neg (by omega), if_pos (by omega), zupd_eq e]
        · by_cases e2 : 201 + 20 * t + (j + 1) ≤ x ∧ x < 201 + 20 * t + 20
          · rw [if_pos e2, if_pos (by omega)]
          · rw [if_neg e2, if_neg (by omega), zupd_ne e]
  obtain ⟨g, g1, g2⟩ := key 20 0 5000 (upd (upd now (195 + 2 * t) v2) (195 + 2 * t + 1) v1) (by omega) (by omega)
  refine ⟨g, ?_, ⟨fun j hj => ?_, fun u hu hz => ?_, fun j h3 h4 => ?_⟩⟩
  · unfold fX11_tray_J64
    simp (disch := omega) only [zl_0, zl_1, zl_2, zl_3, zl_4, zl_5, zl_6, zl_8, zl_9, zl_11, zl_12, zl_13, zl_16, zl_20, zl_23, zl_24, zl_30, zl_32, zl_40, zl_41, zl_43, zl_45, zl_50, zl_52, zl_60, zl_97, zl_99, zl_100, zl_124, zl_126, zl_127, zl_169, zl_170, zl_171, zl_195, zl_200, zl_201, zl_256, zl_261, zl_999, zl_1100, zl_1884, zl_4095, zl_4096, zd1, zd2, zs1, nI_add, pk_mul, zsb, zad1, zad2, zcl, zgI, zif_le, zif_nle, zif_lt, zif_nlt, zif_eq, zif_ne, zif_self, zif_T, zif_F, Nat.zero_add, Nat.add_sub_cancel, zn21, zn31, zif_m1, zif_m1l, zif_m1n, zif_pm, zb1_k, zb2_k, zb3_k, zb4_k, zb5_k, zb6_k, zb7_k, zb8_k, zb9_k, zb10_k, zb11_k, zb12_k, zb14_k, zb21_k, zb22_k, zupd_eq, zupd_ne, zupl_eq, zupl_ne, zupf_eq, zupf_ne, g1]
  · rw [g2, if_neg (by omega), zupd_ne (by omega), zupd_ne (by omega), zTs_n (by omega) (by omega) (by omega)]
    exact hm.1 j hj
  · rw [g2, if_neg (by omega)]
    by_cases e1 : u = 2 * t + 1
    · subst e1
      rw [show 195 + (2 * t + 1) = 195 + 2 * t + 1 by omega, zupd_eq rfl, zTs_1]
      exact h1
    · by_cases e2 : u = 2 * t
      · subst e2
        rw [zupd_ne (by omega), zupd_eq rfl, zTs_0]
        exact h2
      · rw [zTs_n (by omega) (by omega) (by omega)] at hz
        rw [zupd_ne (by omega), zupd_ne (by omega), zTs_n (by omega) (by omega) (by omega)]
        exact hm.2.1 u hu hz
  · rw [g2]
    by_cases e : 201 + 20 * t ≤ j ∧ j < 201 + 20 * t + 20
    · rw [if_pos (by omega)]
      have := zTs_2 (a := a) (t := t) (s := s) (k := k) (i := j - (201 + 20 * t)) ht (by omega)
      rw [show 201 + 20 * t + (j - (201 + 20 * t)) = j by omega] at this
      rw [this]
    · rw [if_neg (by omega), zupd_ne (by omega), zupd_ne (by omega), zTs_n (by omega) (by omega) (by omega)]
      exact hm.2.2 j h3 h4

theorem zm1_cases (p : Int32) : (fX10_isIn p (-nI 1) (nI 2) = some (nI 0)) ∨ (p = -nI 1 ∧ fX10_isIn (-nI 1) (-nI 1) (nI 2) = some (nI 1)) ∨ ∃ k, k ≤ 2 ∧ p = nI k ∧ fX10_isIn (nI k) (-nI 1) (nI 2) = some (nI 1) := by
  rcases zisIn p (-nI 1) (nI 2) with ⟨e, _⟩ | ⟨e, h1, h2⟩
  · exact Or.inl e
  · by_cases z : p < 0
    · right; left
      have a := Int32.le_iff_toInt_le.mp h1
      have b := Int32.lt_iff_toInt_lt.mp z
      rw [show (-nI 1).toInt = -1 from by decide] at a
      rw [show (0 : Int32).toInt = 0 from by decide] at b
      have : p = -nI 1 := Int32.toInt_inj.mp (by rw [show (-nI 1).toInt = -1 from by decide]; omega)
      subst this
      exact ⟨rfl, e⟩
    · right; right
      obtain ⟨j, hj, rfl⟩ := nI_of z
      have := (nI_leI hj (b := 2) (by decide)).mp h2
      exact ⟨j, this, rfl, e⟩
theorem zif_neglt {α : Sort _} {b : Nat} {d : Decidable (nI b ≤ -nI 1)} {x y : α} (h : b < 2147483648) : @ite α (nI b ≤ -nI 1) d x y = y := zif_m1n h
theorem znle : ¬ nI 0 ≤ -nI 1 := by decide
theorem zif_n1le {α : Sort _} {d : Decidable (nI 0 ≤ -nI 1)} {x y : α} : @ite α (nI 0 ≤ -nI 1) d x y = y := if_neg znle
set_option maxHeartbeats 4000000 in
theorem q_tray {Fd : FD → Prop} {k : Nat} : zQ_tray (zR Fd) k := by
  intro xs ms h p1 p2 p3
  have h0 := h
  obtain ⟨a, hv, hx, hm, hr⟩ := h
  obtain ⟨hB, hN, hM, hT0, hT1, hT2⟩ := id hx
  have hT := hv.2.2.2.2
  rcases ztray p1 with ⟨e1, e2⟩ | ⟨t, ht, rfl, e1, e2⟩
  · refine ⟨-nI 1, xs, ms, ?_, ?_, h0⟩
    · simp (maxSteps := 4000000) (disch := omega) only [stX10_tray, fX10_tray, zl_0, zl_1, zl_2, zl_3, zl_4, zl_5, zl_6, zl_8, zl_9, zl_11, zl_12, zl_13, zl_16, zl_20, zl_23, zl_24, zl_30, zl_32, zl_40, zl_41, zl_43, zl_45, zl_50, zl_52, zl_60, zl_97, zl_99, zl_100, zl_124, zl_126, zl_127, zl_169, zl_170, zl_171, zl_195, zl_200, zl_201, zl_256, zl_261, zl_999, zl_1100, zl_1884, zl_4095, zl_4096, zd1, zd2, zs1, nI_add, pk_mul, zsb, zad1, zad2, zcl, zgI, zif_le, zif_nle, zif_lt, zif_nlt, zif_eq, zif_ne, zif_self, zif_T, zif_F, Nat.zero_add, Nat.add_sub_cancel, zn21, zn31, zif_m1, zif_m1l, zif_m1n, zif_pm, zb1_k, zb2_k, zb3_k, zb4_k, zb5_k, zb6_k, zb7_k, zb8_k, zb9_k, zb10_k, zb11_k, zb12_k, zb14_k, zb21_k, zb22_k, zupd_eq, zupd_ne, zupl_eq, zupl_ne, zupf_eq, zupf_ne, e1]; try rfl
    · simp (disch := omega) only [stX11_tray, fX11_tray, zl_0, zl_1, zl_2, zl_3, zl_4, zl_5, zl_6, zl_8, zl_9, zl_11, zl_12, zl_13, zl_16, zl_20, zl_23, zl_24, zl_30, zl_32, zl_40, zl_41, zl_43, zl_45, zl_50, zl_52, zl_60, zl_97, zl_99, zl_100, zl_124, zl_126, zl_127, zl_169, zl_170, zl_171, zl_195, zl_200, zl_201, zl_256, zl_261, zl_999, zl_1100, zl_1884, zl_4095, zl_4096, zd1, zd2, zs1, nI_add, pk_mul, zsb, zad1, zad2, zcl, zgI, zif_le, zif_nle, zif_lt, zif_nlt, zif_eq, zif_ne, zif_self, zif_T, zif_F, Nat.zero_add, Nat.add_sub_cancel, zn21, zn31, zif_m1, zif_m1l, zif_m1n, zif_pm, zb1_k, zb2_k, zb3_k, zb4_k, zb5_k, zb6_k, zb7_k, zb8_k, zb9_k, zb10_k, zb11_k, zb12_k, zb14_k, zb21_k, zb22_k, zupd_eq, zupd_ne, zupl_eq, zupl_ne, zupf_eq, zupf_ne, e2]; try rfl
  rcases zm1_cases p2 with e3 | ⟨rfl, e3⟩ | ⟨kk, hk, rfl, e3⟩
  · refine ⟨-nI 1, xs, ms, ?_, ?_, h0⟩
    · simp (maxSteps := 4000000) (disch := omega) only [stX10_tray, fX10_tray, zl_0, zl_1, zl_2, zl_3, zl_4, zl_5, zl_6, zl_8, zl_9, zl_11, zl_12, zl_13, zl_16, zl_20, zl_23, zl_24, zl_30, zl_32, zl_40, zl_41, zl_43, zl_45, zl_50, zl_52, zl_60, zl_97, zl_99, zl_100, zl_124, zl_126, zl_127, zl_169, zl_170, zl_171, zl_195, zl_200, zl_201, zl_256, zl_261, zl_999, zl_1100, zl_1884, zl_4095, zl_4096, zd1, zd2, zs1, nI_add, pk_mul, zsb, zad1, zad2, zcl, zgI, zif_le, zif_nle, zif_lt, zif_nlt, zif_eq, zif_ne, zif_self, zif_T, zif_F, Nat.zero_add, Nat.add_sub_cancel, zn21, zn31, zif_m1, zif_m1l, zif_m1n, zif_pm, zb1_k, zb2_k, zb3_k, zb4_k, zb5_k, zb6_k, zb7_k, zb8_k, zb9_k, zb10_k, zb11_k, zb12_k, zb14_k, zb21_k, zb22_k, zupd_eq, zupd_ne, zupl_eq, zupl_ne, zupf_eq, zupf_ne, e1, e3]; try rfl
    · simp (disch := omega) only [stX11_tray, fX11_tray, zi_m1_2, zl_0, zl_1, zl_2, zl_3, zl_4, zl_5, zl_6, zl_8, zl_9, zl_11, zl_12, zl_13, zl_16, zl_20, zl_23, zl_24, zl_30, zl_32, zl_40, zl_41, zl_43, zl_45, zl_50, zl_52, zl_60, zl_97, zl_99, zl_100, zl_124, zl_126, zl_127, zl_169, zl_170, zl_171, zl_195, zl_200, zl_201, zl_256, zl_261, zl_999, zl_1100, zl_1884, zl_4095, zl_4096, zd1, zd2, zs1, nI_add, pk_mul, zsb, zad1, zad2, zcl, zgI, zif_le, zif_nle, zif_lt, zif_nlt, zif_eq, zif_ne, zif_self, zif_T, zif_F, Nat.zero_add, Nat.add_sub_cancel, zn21, zn31, zif_m1, zif_m1l, zif_m1n, zif_pm, zb1_k, zb2_k, zb3_k, zb4_k, zb5_k, zb6_k, zb7_k, zb8_k, zb9_k, zb10_k, zb11_k, zb12_k, zb14_k, zb21_k, zb22_k, zupd_eq, zupd_ne, zupl_eq, zupl_ne, zupf_eq, zupf_ne, e2, e3]; try rfl
  · obtain ⟨now', g1, g2⟩ := fm_tray (s := 0) (k := 0) ht hm zn01.symm zn01.symm
    rcases (show t = 0 ∨ t = 1 ∨ t = 2 by omega) with rfl | rfl | rfl
    · obtain ⟨g, f1, f2⟩ := fx_fill (v := -nI 1) (f := x_trays_e0_places xs)
      refine ⟨nI 1, zxT xs (-nI 1) (nI 0) g (x_trays_e1_kind xs) (x_trays_e1_size xs) (x_trays_e1_places xs) (x_trays_e2_kind xs) (x_trays_e2_size xs) (x_trays_e2_places xs), zmN ms now', ?_, ?_, zRl_tray hv hx hr (zTs_T hT ht (by omega) (by omega) (by omega)) (fun j hj => zTs_n (by omega) (by omega) (by omega)) (zTs_X (by omega) zn01.symm (fun h => absurd h (by omega)) f2) (zTs_fr (by omega) (by omega) (by omega) hT1) (zTs_fr (by omega) (by omega) (by omega) hT2) g2⟩
      · simp (maxSteps := 4000000) (disch := omega) only [stX10_tray, fX10_tray, fX9_become, zl_0, zl_1, zl_2, zl_3, zl_4, zl_5, zl_6, zl_8, zl_9, zl_11, zl_12, zl_13, zl_16, zl_20, zl_23, zl_24, zl_30, zl_32, zl_40, zl_41, zl_43, zl_45, zl_50, zl_52, zl_60, zl_97, zl_99, zl_100, zl_124, zl_126, zl_127, zl_169, zl_170, zl_171, zl_195, zl_200, zl_201, zl_256, zl_261, zl_999, zl_1100, zl_1884, zl_4095, zl_4096, zd1, zd2, zs1, nI_add, pk_mul, zsb, zad1, zad2, zcl, zgI, zif_le, zif_nle, zif_lt, zif_nlt, zif_eq, zif_ne, zif_self, zif_T, zif_F, Nat.zero_add, Nat.add_sub_cancel, zn21, zn31, zif_m1, zif_m1l, zif_m1n, zif_pm, zb1_k, zb2_k, zb3_k, zb4_k, zb5_k, zb6_k, zb7_k, zb8_k, zb9_k, zb10_k, zb11_k, zb12_k, zb14_k, zb21_k, zb22_k, zupd_eq, zupd_ne, zupl_eq, zupl_ne, zupf_eq, zupf_ne, e1, e3, f1]
      · simp (disch := omega) only [stX11_tray, fX11_tray, fX11_tray_J33, fX11_tray_J44, zi_m1_2, zl_0, zl_1, zl_2, zl_3, zl_4, zl_5, zl_6, zl_8, zl_9, zl_11, zl_12, zl_13, zl_16, zl_20, zl_23, zl_24, zl_30, zl_32, zl_40, zl_41, zl_43, zl_45, zl_50, zl_52, zl_60, zl_97, zl_99, zl_100, zl_124, zl_126, zl_127, zl_169, zl_170, zl_171, zl_195, zl_200, zl_201, zl_256, zl_261, zl_999, zl_1100, zl_1884, zl_4095, zl_4096, zd1, zd2, zs1, nI_add, pk_mul, zsb, zad1, zad2, zcl, zgI, zif_le, zif_nle, zif_lt, zif_nlt, zif_eq, zif_ne, zif_self, zif_T, zif_F, Nat.zero_add, Nat.add_sub_cancel, zn21, zn31, zif_m1, zif_m1l, zif_m1n, zif_pm, zb1_k, zb2_k, zb3_k, zb4_k, zb5_k, zb6_k, zb7_k, zb8_k, zb9_k, zb10_k, zb11_k, zb12_k, zb14_k, zb21_k, zb22_k, zupd_eq, zupd_ne, zupl_eq, zupl_ne, zupf_eq, zupf_ne, e2, e3, zif_n1le, g1]
    · obtain ⟨g, f1, f2⟩ := fx_fill (v := -nI 1) (f := x_trays_e1_places xs)
      refine ⟨nI 1, zxT xs (x_trays_e0_kind xs) (x_trays_e0_size xs) (x_trays_e0_places xs) (-nI 1) (nI 0) g (x_trays_e2_kind xs) (x_trays_e2_size xs) (x_trays_e2_places xs), zmN ms now', ?_, ?_, zRl_tray hv hx hr (zTs_T hT ht (by omega) (by omega) (by omega)) (fun j hj => zTs_n (by omega) (by omega) (by omega)) (zTs_fr (by omega) (by omega) (by omega) hT0) (zTs_X (by omega) zn01.symm (fun h => absurd h (by omega)) f2) (zTs_fr (by omega) (by omega) (by omega) hT2) g2⟩
      · simp (maxSteps := 4000000) (disch := omega) only [stX10_tray, fX10_tray, fX9_become, zl_0, zl_1, zl_2, zl_3, zl_4, zl_5, zl_6, zl_8, zl_9, zl_11, zl_12, zl_13, zl_16, zl_20, zl_23, zl_24, zl_30, zl_32, zl_40, zl_41, zl_43, zl_45, zl_50, zl_52, zl_60, zl_97, zl_99, zl_100, zl_124, zl_126, zl_127, zl_169, zl_170, zl_171, zl_195, zl_200, zl_201, zl_256, zl_261, zl_999, zl_1100, zl_1884, zl_4095, zl_4096, zd1, zd2, zs1, nI_add, pk_mul, zsb, zad1, zad2, zcl, zgI, zif_le, zif_nle, zif_lt, zif_nlt, zif_eq, zif_ne, zif_self, zif_T, zif_F, Nat.zero_add, Nat.add_sub_cancel, zn21, zn31, zif_m1, zif_m1l, zif_m1n, zif_pm, zb1_k, zb2_k, zb3_k, zb4_k, zb5_k, zb6_k, zb7_k, zb8_k, zb9_k, zb10_k, zb11_k, zb12_k, zb14_k, zb21_k, zb22_k, zupd_eq, zupd_ne, zupl_eq, zupl_ne, zupf_eq, zupf_ne, e1, e3, f1]
      · simp (disch := omega) only [stX11_tray, fX11_tray, fX11_tray_J33, fX11_tray_J44, zi_m1_2, zl_0, zl_1, zl_2, zl_3, zl_4, zl_5, zl_6, zl_8, zl_9, zl_11, zl_12, zl_13, zl_16, zl_20, zl_23, zl_24, zl_30, zl_32, zl_40, zl_41, zl_43, zl_45, zl_50, zl_52, zl_60, zl_97, zl_99, zl_100, zl_124, zl_126, zl_127, zl_169, zl_170, zl_171, zl_195, zl_200, zl_201, zl_256, zl_261, zl_999, zl_1100, zl_1884, zl_4095, zl_4096, zd1, zd2, zs1, nI_add, pk_mul, zsb, zad1, zad2, zcl, zgI, zif_le, zif_nle, zif_lt, zif_nlt, zif_eq, zif_ne, zif_self, zif_T, zif_F, Nat.zero_add, Nat.add_sub_cancel, zn21, zn31, zif_m1, zif_m1l, zif_m1n, zif_pm, zb1_k, zb2_k, zb3_k, zb4_k, zb5_k, zb6_k, zb7_k, zb8_k, zb9_k, zb10_k, zb11_k, zb12_k, zb14_k, zb21_k, zb22_k, zupd_eq, zupd_ne, zupl_eq, zupl_ne, zupf_eq, zupf_ne, e2, e3, zif_n1le, g1]
    · obtain ⟨g, f1, f2⟩ := fx_fill (v := -nI 1) (f := x_trays_e2_places xs)
      refine ⟨nI 1, zxT xs (x_trays_e0_kind xs) (x_trays_e0_size xs) (x_trays_e0_places xs) (x_trays_e1_kind xs) (x_trays_e1_size xs) (x_trays_e1_places xs) (-nI 1) (nI 0) g, zmN ms now', ?_, ?_, zRl_tray hv hx hr (zTs_T hT ht (by omega) (by omega) (by omega)) (fun j hj => zTs_n (by omega) (by omega) (by omega)) (zTs_fr (by omega) (by omega) (by omega) hT0) (zTs_fr (by omega) (by omega) (by omega) hT1) (zTs_X (by omega) zn01.symm (fun h => absurd h (by omega)) f2) g2⟩
      · simp (maxSteps := 4000000) (disch := omega) only [stX10_tray, fX10_tray, fX9_become, zl_0, zl_1, zl_2, zl_3, zl_4, zl_5, zl_6, zl_8, zl_9, zl_11, zl_12, zl_13, zl_16, zl_20, zl_23, zl_24, zl_30, zl_32, zl_40, zl_41, zl_43, zl_45, zl_50, zl_52, zl_60, zl_97, zl_99, zl_100, zl_124, zl_126, zl_127, zl_169, zl_170, zl_171, zl_195, zl_200, zl_201, zl_256, zl_261, zl_999, zl_1100, zl_1884, zl_4095, zl_4096, zd1, zd2, zs1, nI_add, pk_mul, zsb, zad1, zad2, zcl, zgI, zif_le, zif_nle, zif_lt, zif_nlt, zif_eq, zif_ne, zif_self, zif_T, zif_F, Nat.zero_add, Nat.add_sub_cancel, zn21, zn31, zif_m1, zif_m1l, zif_m1n, zif_pm, zb1_k, zb2_k, zb3_k, zb4_k, zb5_k, zb6_k, zb7_k, zb8_k, zb9_k, zb10_k, zb11_k, zb12_k, zb14_k, zb21_k, zb22_k, zupd_eq, zupd_ne, zupl_eq, zupl_ne, zupf_eq, zupf_ne, e1, e3, f1]
      · simp (disch := omega) only [stX11_tray, fX11_tray, fX11_tray_J33, fX11_tray_J44, zi_m1_2, zl_0, zl_1, zl_2, zl_3, zl_4, zl_5, zl_6, zl_8, zl_9, zl_11, zl_12, zl_13, zl_16, zl_20, zl_23, zl_24, zl_30, zl_32, zl_40, zl_41, zl_43, zl_45, zl_50, zl_52, zl_60, zl_97, zl_99, zl_100, zl_124, zl_126, zl_127, zl_169, zl_170, zl_171, zl_195, zl_200, zl_201, zl_256, zl_261, zl_999, zl_1100, zl_1884, zl_4095, zl_4096, zd1, zd2, zs1, nI_add, pk_mul, zsb, zad1, zad2, zcl, zgI, zif_le, zif_nle, zif_lt, zif_nlt, zif_eq, zif_ne, zif_self, zif_T, zif_F, Nat.zero_add, Nat.add_sub_cancel, zn21, zn31, zif_m1, zif_m1l, zif_m1n, zif_pm, zb1_k, zb2_k, zb3_k, zb4_k, zb5_k, zb6_k, zb7_k, zb8_k, zb9_k, zb10_k, zb11_k, zb12_k, zb14_k, zb21_k, zb22_k, zupd_eq, zupd_ne, zupl_eq, zupl_ne, zupf_eq, zupf_ne, e2, e3, zif_n1le, g1]
  · by_cases z20 : p3 ≤ nI 20
    · by_cases z0 : (0 : Int32) ≤ p3
      · obtain ⟨sz, _, hs, rfl⟩ := zbetw (l := 0) (h := 20) (by decide) (by decide) z0 z20
        obtain ⟨now', g1, g2⟩ := fm_tray (s := sz + 1) (k := kk + 1) ht hm (zs1 kk).symm (zs1 sz).symm
        rcases (show t = 0 ∨ t = 1 ∨ t = 2 by omega) with rfl | rfl | rfl
        · obtain ⟨g, f1, f2⟩ := fx_fill (v := -nI 1) (f := x_trays_e0_places xs)
          refine ⟨nI 1, zxT xs (nI kk) (nI sz) g (x_trays_e1_kind xs) (x_trays_e1_size xs) (x_trays_e1_places xs) (x_trays_e2_kind xs) (x_trays_e2_size xs) (x_trays_e2_places xs), zmN ms now', ?_, ?_, zRl_tray hv hx hr (zTs_T hT ht (by omega) (by omega) (by omega)) (fun j hj => zTs_n (by omega) (by omega) (by omega)) (zTs_X (by omega) (zs1 kk).symm (fun _ => (zs1 sz).symm) f2) (zTs_fr (by omega) (by omega) (by omega) hT1) (zTs_fr (by omega) (by omega) (by omega) hT2) g2⟩
          · simp (maxSteps := 4000000) (disch := omega) only [stX10_tray, fX10_tray, fX9_become, zl_0, zl_1, zl_2, zl_3, zl_4, zl_5, zl_6, zl_8, zl_9, zl_11, zl_12, zl_13, zl_16, zl_20, zl_23, zl_24, zl_30, zl_32, zl_40, zl_41, zl_43, zl_45, zl_50, zl_52, zl_60, zl_97, zl_99, zl_100, zl_124, zl_126, zl_127, zl_169, zl_170, zl_171, zl_195, zl_200, zl_201, zl_256, zl_261, zl_999, zl_1100, zl_1884, zl_4095, zl_4096, zd1, zd2, zs1, nI_add, pk_mul, zsb, zad1, zad2, zcl, zgI, zif_le, zif_nle, zif_lt, zif_nlt, zif_eq, zif_ne, zif_self, zif_T, zif_F, Nat.zero_add, Nat.add_sub_cancel, zn21, zn31, zif_m1, zif_m1l, zif_m1n, zif_pm, zb1_k, zb2_k, zb3_k, zb4_k, zb5_k, zb6_k, zb7_k, zb8_k, zb9_k, zb10_k, zb11_k, zb12_k, zb14_k, zb21_k, zb22_k, zupd_eq, zupd_ne, zupl_eq, zupl_ne, zupf_eq, zupf_ne, e1, e3, f1]
          · simp (disch := omega) only [stX11_tray, fX11_tray, fX11_tray_J33, fX11_tray_J44, zi_m1_2, zl_0, zl_1, zl_2, zl_3, zl_4, zl_5, zl_6, zl_8, zl_9, zl_11, zl_12, zl_13, zl_16, zl_20, zl_23, zl_24, zl_30, zl_32, zl_40, zl_41, zl_43, zl_45, zl_50, zl_52, zl_60, zl_97, zl_99, zl_100, zl_124, zl_126, zl_127, zl_169, zl_170, zl_171, zl_195, zl_200, zl_201, zl_256, zl_261, zl_999, zl_1100, zl_1884, zl_4095, zl_4096, zd1, zd2, zs1, nI_add, pk_mul, zsb, zad1, zad2, zcl, zgI, zif_le, zif_nle, zif_lt, zif_nlt, zif_eq, zif_ne, zif_self, zif_T, zif_F, Nat.zero_add, Nat.add_sub_cancel, zn21, zn31, zif_m1, zif_m1l, zif_m1n, zif_pm, zb1_k, zb2_k, zb3_k, zb4_k, zb5_k, zb6_k, zb7_k, zb8_k, zb9_k, zb10_k, zb11_k, zb12_k, zb14_k, zb21_k, zb22_k, zupd_eq, zupd_ne, zupl_eq, zupl_ne, zupf_eq, zupf_ne, e2, e3, g1]
        · obtain ⟨g, f1, f2⟩ := fx_fill (v := -nI 1) (f := x_trays_e1_places xs)
          refine ⟨nI 1, zxT xs (x_trays_e0_kind xs) (x_trays_e0_size xs) (x_trays_e0_places xs) (nI kk) (nI sz) g (x_trays_e2_kind xs) (x_trays_e2_size xs) (x_trays_e2_places xs), zmN ms now', ?_, ?_, zRl_tray hv hx hr (zTs_T hT ht (by omega) (by omega) (by omega)) (fun j hj => zTs_n (by omega) (by omega) (by omega)) (zTs_fr (by omega) (by omega) (by omega) hT0) (zTs_X (by omega) (zs1 kk).symm (fun _ => (zs1 sz).symm) f2) (zTs_fr (by omega) (by omega) (by omega) hT2) g2⟩
          · simp (maxSteps := 4000000) (disch := omega) only [stX10_tray, fX10_tray, fX9_become, zl_0, zl_1, zl_2, zl_3, zl_4, zl_5, zl_6, zl_8, zl_9, zl_11, zl_12, zl_13, zl_16, zl_20, zl_23, zl_24, zl_30, zl_32, zl_40, zl_41, zl_43, zl_45, zl_50, zl_52, zl_60, zl_97, zl_99, zl_100, zl_124, zl_126, zl_127, zl_169, zl_170, zl_171, zl_195, zl_200, zl_201, zl_256, zl_261, zl_999, zl_1100, zl_1884, zl_4095, zl_4096, zd1, zd2, zs1, nI_add, pk_mul, zsb, zad1, zad2, zcl, zgI, zif_le, zif_nle, zif_lt, zif_nlt, zif_eq, zif_ne, zif_self, zif_T, zif_F, Nat.zero_add, Nat.add_sub_cancel, zn21, zn31, zif_m1, zif_m1l, zif_m1n, zif_pm, zb1_k, zb2_k, zb3_k, zb4_k, zb5_k, zb6_k, zb7_k, zb8_k, zb9_k, zb10_k, zb11_k, zb12_k, zb14_k, zb21_k, zb22_k, zupd_eq, zupd_ne, zupl_eq, zupl_ne, zupf_eq, zupf_ne, e1, e3, f1]
          · simp (disch := omega) only [stX11_tray, fX11_tray, fX11_tray_J33, fX11_tray_J44, zi_m1_2, zl_0, zl_1, zl_2, zl_3, zl_4, zl_5, zl_6, zl_8, zl_9, zl_11, zl_12, zl_13, zl_16, zl_20, zl_23, zl_24, zl_30, zl_32, zl_40, zl_41, zl_43, zl_45, zl_50, zl_52, zl_60, zl_97, zl_99, zl_100, zl_124, zl_126, zl_127, zl_169, zl_170, zl_171, zl_195, zl_200, zl_201, zl_256, zl_261, zl_999, zl_1100, zl_1884, zl_4095, zl_4096, zd1, zd2, zs1, nI_add, pk_mul, zsb, zad1, zad2, zcl, zgI, zif_le, zif_nle, zif_lt, zif_nlt, zif_eq, zif_ne, zif_self, zif_T, zif_F, Nat.zero_add, Nat.add_sub_cancel, zn21, zn31, zif_m1, zif_m1l, zif_m1n, zif_pm, zb1_k, zb2_k, zb3_k, zb4_k, zb5_k, zb6_k, zb7_k, zb8_k, zb9_k, zb10_k, zb11_k, zb12_k, zb14_k, zb21_k, zb22_k, zupd_eq, zupd_ne, zupl_eq, zupl_ne, zupf_eq, zupf_ne, e2, e3, g1]
        · obtain ⟨g, f1, f2⟩ := fx_fill (v := -nI 1) (f := x_trays_e2_places xs)
          refine ⟨nI 1, zxT xs (x_trays_e0_kind xs) (x_trays_e0_size xs) (x_trays_e0_places xs) (x_trays_e1_kind xs) (x_trays_e1_size xs) (x_trays_e1_places xs) (nI kk) (nI sz) g, zmN ms now', ?_, ?_, zRl_tray hv hx hr (zTs_T hT ht (by omega) (by omega) (by omega)) (fun j hj => zTs_n (by omega) (by omega) (by omega)) (zTs_fr (by omega) (by omega) (by omega) hT0) (zTs_fr (by omega) (by omega) (by omega) hT1) (zTs_X (by omega) (zs1 kk).symm (fun _ => (zs1 sz).symm) f2) g2⟩
          · simp (maxSteps := 4000000) (disch := omega) only [stX10_tray, fX10_tray, fX9_become, zl_0, zl_1, zl_2, zl_3, zl_4, zl_5, zl_6, zl_8, zl_9, zl_11, zl_12, zl_13, zl_16, zl_20, zl_23, zl_24, zl_30, zl_32, zl_40, zl_41, zl_43, zl_45, zl_50, zl_52, zl_60, zl_97, zl_99, zl_100, zl_124, zl_126, zl_127, zl_169, zl_170, zl_171, zl_195, zl_200, zl_201, zl_256, zl_261, zl_999, zl_1100, zl_1884, zl_4095, zl_4096, zd1, zd2, zs1, nI_add, pk_mul, zsb, zad1, zad2, zcl, zgI, zif_le, zif_nle, zif_lt, zif_nlt, zif_eq, zif_ne, zif_self, zif_T, zif_F, Nat.zero_add, Nat.add_sub_cancel, zn21, zn31, zif_m1, zif_m1l, zif_m1n, zif_pm, zb1_k, zb2_k, zb3_k, zb4_k, zb5_k, zb6_k, zb7_k, zb8_k, zb9_k, zb10_k, zb11_k, zb12_k, zb14_k, zb21_k, zb22_k, zupd_eq, zupd_ne, zupl_eq, zupl_ne, zupf_eq, zupf_ne, e1, e3, f1]
          · simp (disch := omega) only [stX11_tray, fX11_tray, fX11_tray_J33, fX11_tray_J44, zi_m1_2, zl_0, zl_1, zl_2, zl_3, zl_4, zl_5, zl_6, zl_8, zl_9, zl_11, zl_12, zl_13, zl_16, zl_20, zl_23, zl_24, zl_30, zl_32, zl_40, zl_41, zl_43, zl_45, zl_50, zl_52, zl_60, zl_97, zl_99, zl_100, zl_124, zl_126, zl_127, zl_169, zl_170, zl_171, zl_195, zl_200, zl_201, zl_256, zl_261, zl_999, zl_1100, zl_1884, zl_4095, zl_4096, zd1, zd2, zs1, nI_add, pk_mul, zsb, zad1, zad2, zcl, zgI, zif_le, zif_nle, zif_lt, zif_nlt, zif_eq, zif_ne, zif_self, zif_T, zif_F, Nat.zero_add, Nat.add_sub_cancel, zn21, zn31, zif_m1, zif_m1l, zif_m1n, zif_pm, zb1_k, zb2_k, zb3_k, zb4_k, zb5_k, zb6_k, zb7_k, zb8_k, zb9_k, zb10_k, zb11_k, zb12_k, zb14_k, zb21_k, zb22_k, zupd_eq, zupd_ne, zupl_eq, zupl_ne, zupf_eq, zupf_ne, e2, e3, g1]
      · have z0 : ¬ nI 0 ≤ p3 := z0
        refine ⟨-nI 14, xs, ms, ?_, ?_, h0⟩
        · simp (maxSteps := 4000000) (disch := omega) only [stX10_tray, fX10_tray, zl_0, zl_1, zl_2, zl_3, zl_4, zl_5, zl_6, zl_8, zl_9, zl_11, zl_12, zl_13, zl_16, zl_20, zl_23, zl_24, zl_30, zl_32, zl_40, zl_41, zl_43, zl_45, zl_50, zl_52, zl_60, zl_97, zl_99, zl_100, zl_124, zl_126, zl_127, zl_169, zl_170, zl_171, zl_195, zl_200, zl_201, zl_256, zl_261, zl_999, zl_1100, zl_1884, zl_4095, zl_4096, zd1, zd2, zs1, nI_add, pk_mul, zsb, zad1, zad2, zcl, zgI, zif_le, zif_nle, zif_lt, zif_nlt, zif_eq, zif_ne, zif_self, zif_T, zif_F, Nat.zero_add, Nat.add_sub_cancel, zn21, zn31, zif_m1, zif_m1l, zif_m1n, zif_pm, zb1_k, zb2_k, zb3_k, zb4_k, zb5_k, zb6_k, zb7_k, zb8_k, zb9_k, zb10_k, zb11_k, zb12_k, zb14_k, zb21_k, zb22_k, zupd_eq, zupd_ne, zupl_eq, zupl_ne, zupf_eq, zupf_ne, e1, e3, if_pos z20, if_neg z0]; try rfl
        · simp (disch := omega) only [stX11_tray, fX11_tray, fX11_tray_J33, zi_m1_2, zl_0, zl_1, zl_2, zl_3, zl_4, zl_5, zl_6, zl_8, zl_9, zl_11, zl_12, zl_13, zl_16, zl_20, zl_23, zl_24, zl_30, zl_32, zl_40, zl_41, zl_43, zl_45, zl_50, zl_52, zl_60, zl_97, zl_99, zl_100, zl_124, zl_126, zl_127, zl_169, zl_170, zl_171, zl_195, zl_200, zl_201, zl_256, zl_261, zl_999, zl_1100, zl_1884, zl_4095, zl_4096, zd1, zd2, zs1, nI_add, pk_mul, zsb, zad1, zad2, zcl, zgI, zif_le, zif_nle, zif_lt, zif_nlt, zif_eq, zif_ne, zif_self, zif_T, zif_F, Nat.zero_add, Nat.add_sub_cancel, zn21, zn31, zif_m1, zif_m1l, zif_m1n, zif_pm, zb1_k, zb2_k, zb3_k, zb4_k, zb5_k, zb6_k, zb7_k, zb8_k, zb9_k, zb10_k, zb11_k, zb12_k, zb14_k, zb21_k, zb22_k, zupd_eq, zupd_ne, zupl_eq, zupl_ne, zupf_eq, zupf_ne, e2, e3, if_pos z20, if_neg z0]; try rfl
    · refine ⟨-nI 1, xs, ms, ?_, ?_, h0⟩
      · simp (maxSteps := 4000000) (disch := omega) only [stX10_tray, fX10_tray, zl_0, zl_1, zl_2, zl_3, zl_4, zl_5, zl_6, zl_8, zl_9, zl_11, zl_12, zl_13, zl_16, zl_20, zl_23, zl_24, zl_30, zl_32, zl_40, zl_41, zl_43, zl_45, zl_50, zl_52, zl_60, zl_97, zl_99, zl_100, zl_124, zl_126, zl_127, zl_169, zl_170, zl_171, zl_195, zl_200, zl_201, zl_256, zl_261, zl_999, zl_1100, zl_1884, zl_4095, zl_4096, zd1, zd2, zs1, nI_add, pk_mul, zsb, zad1, zad2, zcl, zgI, zif_le, zif_nle, zif_lt, zif_nlt, zif_eq, zif_ne, zif_self, zif_T, zif_F, Nat.zero_add, Nat.add_sub_cancel, zn21, zn31, zif_m1, zif_m1l, zif_m1n, zif_pm, zb1_k, zb2_k, zb3_k, zb4_k, zb5_k, zb6_k, zb7_k, zb8_k, zb9_k, zb10_k, zb11_k, zb12_k, zb14_k, zb21_k, zb22_k, zupd_eq, zupd_ne, zupl_eq, zupl_ne, zupf_eq, zupf_ne, e1, e3, if_neg z20]; try rfl
      · simp (disch := omega) only [stX11_tray, fX11_tray, zi_m1_2, zl_0, zl_1, zl_2, zl_3, zl_4, zl_5, zl_6, zl_8, zl_9, zl_11, zl_12, zl_13, zl_16, zl_20, zl_23, zl_24, zl_30, zl_32, zl_40, zl_41, zl_43, zl_45, zl_50, zl_52, zl_60, zl_97, zl_99, zl_100, zl_124, zl_126, zl_127, zl_169, zl_170, zl_171, zl_195, zl_200, zl_201, zl_256, zl_261, zl_999, zl_1100, zl_1884, zl_4095, zl_4096, zd1, zd2, zs1, nI_add, pk_mul, zsb, zad1, zad2, zcl, zgI, zif_le, zif_nle, zif_lt, zif_nlt, zif_eq, zif_ne, zif_self, zif_T, zif_F, Nat.zero_add, Nat.add_sub_cancel, zn21, zn31, zif_m1, zif_m1l, zif_m1n, zif_pm, zb1_k, zb2_k, zb3_k, zb4_k, zb5_k, zb6_k, zb7_k, zb8_k, zb9_k, zb10_k, zb11_k, zb12_k, zb14_k, zb21_k, zb22_k, zupd_eq, zupd_ne, zupl_eq, zupl_ne, zupf_eq, zupf_ne, e2, e3, if_neg z20]; try rfl


set_option maxHeartbeats 4000000 in
theorem q_at {Fd : FD → Prop} {k : Nat} : zQ_at (zR Fd) k := by
  intro xs ms h p1 p2
  have h0 := h
  obtain ⟨a, hv, hx, hm, hr⟩ := h
  obtain ⟨hB, hN, hM, hT0, hT1, hT2⟩ := id hx
  have hT := hv.2.2.2.2
  have h8 := hv.2.1
  rcases ztray p1 with ⟨e1, e2⟩ | ⟨t, ht, rfl, e1, e2⟩
  · refine ⟨-nI 1, xs, ms, ?_, ?_, h0⟩
    · simp (maxSteps := 4000000) (disch := omega) only [stX10_at, fX10_at, zl_0, zl_1, zl_2, zl_3, zl_4, zl_5, zl_6, zl_8, zl_9, zl_11, zl_12, zl_13, zl_16, zl_20, zl_23, zl_24, zl_30, zl_32, zl_40, zl_41, zl_43, zl_45, zl_50, zl_52, zl_60, zl_97, zl_99, zl_100, zl_124, zl_126, zl_127, zl_169, zl_170, zl_171, zl_195, zl_200, zl_201, zl_256, zl_261, zl_999, zl_1100, zl_1884, zl_4095, zl_4096, zd1, zd2, zs1, nI_add, pk_mul, zsb, zad1, zad2, zcl, zgI, zif_le, zif_nle, zif_lt, zif_nlt, zif_eq, zif_ne, zif_self, zif_T, zif_F, Nat.zero_add, Nat.add_sub_cancel, zn21, zn31, zif_m1, zif_m1l, zif_m1n, zif_pm, zb1_k, zb2_k, zb3_k, zb4_k, zb5_k, zb6_k, zb7_k, zb8_k, zb9_k, zb10_k, zb11_k, zb12_k, zb14_k, zb21_k, zb22_k, zupd_eq, zupd_ne, zupl_eq, zupl_ne, zupf_eq, zupf_ne, e1]
    · simp (disch := omega) only [stX11_at, fX11_at, zl_0, zl_1, zl_2, zl_3, zl_4, zl_5, zl_6, zl_8, zl_9, zl_11, zl_12, zl_13, zl_16, zl_20, zl_23, zl_24, zl_30, zl_32, zl_40, zl_41, zl_43, zl_45, zl_50, zl_52, zl_60, zl_97, zl_99, zl_100, zl_124, zl_126, zl_127, zl_169, zl_170, zl_171, zl_195, zl_200, zl_201, zl_256, zl_261, zl_999, zl_1100, zl_1884, zl_4095, zl_4096, zd1, zd2, zs1, nI_add, pk_mul, zsb, zad1, zad2, zcl, zgI, zif_le, zif_nle, zif_lt, zif_nlt, zif_eq, zif_ne, zif_self, zif_T, zif_F, Nat.zero_add, Nat.add_sub_cancel, zn21, zn31, zif_m1, zif_m1l, zif_m1n, zif_pm, zb1_k, zb2_k, zb3_k, zb4_k, zb5_k, zb6_k, zb7_k, zb8_k, zb9_k, zb10_k, zb11_k, zb12_k, zb14_k, zb21_k, zb22_k, zupd_eq, zupd_ne, zupl_eq, zupl_ne, zupf_eq, zupf_ne, e2]
  rcases (show t = 0 ∨ t = 1 ∨ t = 2 by omega) with rfl | rfl | rfl
  · rcases zTfacts (t := 0) (by omega) (hT 0 (by omega)) hT0 hm with ⟨z1, z2, z3, z4⟩ | ⟨kk, sz, z1, z2, z3, z4, z5, z6, z7, z8, z9⟩
    · have z3 : x_trays_e0_kind xs = -nI 1 := z3
      have z4 : m_now ms 195 = -nI 1 := z4
      refine ⟨-nI 11, xs, ms, ?_, ?_, h0⟩
      · simp (maxSteps := 4000000) (disch := omega) only [stX10_at, fX10_at, fX9_isMissing, zl_0, zl_1, zl_2, zl_3, zl_4, zl_5, zl_6, zl_8, zl_9, zl_11, zl_12, zl_13, zl_16, zl_20, zl_23, zl_24, zl_30, zl_32, zl_40, zl_41, zl_43, zl_45, zl_50, zl_52, zl_60, zl_97, zl_99, zl_100, zl_124, zl_126, zl_127, zl_169, zl_170, zl_171, zl_195, zl_200, zl_201, zl_256, zl_261, zl_999, zl_1100, zl_1884, zl_4095, zl_4096, zd1, zd2, zs1, nI_add, pk_mul, zsb, zad1, zad2, zcl, zgI, zif_le, zif_nle, zif_lt, zif_nlt, zif_eq, zif_ne, zif_self, zif_T, zif_F, Nat.zero_add, Nat.add_sub_cancel, zn21, zn31, zif_m1, zif_m1l, zif_m1n, zif_pm, zb1_k, zb2_k, zb3_k, zb4_k, zb5_k, zb6_k, zb7_k, zb8_k, zb9_k, zb10_k, zb11_k, zb12_k, zb14_k, zb21_k, zb22_k, zupd_eq, zupd_ne, zupl_eq, zupl_ne, zupf_eq, zupf_ne, e1, z3]; try rfl
      · simp (disch := omega) only [stX11_at, fX11_at, fX11_sizeOf, zl_0, zl_1, zl_2, zl_3, zl_4, zl_5, zl_6, zl_8, zl_9, zl_11, zl_12, zl_13, zl_16, zl_20, zl_23, zl_24, zl_30, zl_32, zl_40, zl_41, zl_43, zl_45, zl_50, zl_52, zl_60, zl_97, zl_99, zl_100, zl_124, zl_126, zl_127, zl_169, zl_170, zl_171, zl_195, zl_200, zl_201, zl_256, zl_261, zl_999, zl_1100, zl_1884, zl_4095, zl_4096, zd1, zd2, zs1, nI_add, pk_mul, zsb, zad1, zad2, zcl, zgI, zif_le, zif_nle, zif_lt, zif_nlt, zif_eq, zif_ne, zif_self, zif_T, zif_F, Nat.zero_add, Nat.add_sub_cancel, zn21, zn31, zif_m1, zif_m1l, zif_m1n, zif_pm, zb1_k, zb2_k, zb3_k, zb4_k, zb5_k, zb6_k, zb7_k, zb8_k, zb9_k, zb10_k, zb11_k, zb12_k, zb14_k, zb21_k, zb22_k, zupd_eq, zupd_ne, zupl_eq, zupl_ne, zupf_eq, zupf_ne, e2, z4, Nat.reduceAdd, Nat.reduceMul, zif_n1le]; try rfl
    · have z5 : x_trays_e0_kind xs = nI kk := z5
      have z6 : x_trays_e0_size xs = nI sz := z6
      have z7 : m_now ms 195 = nI sz := z7
      rcases zplace p2 z3 with ⟨g1, g2⟩ | ⟨i, hi, rfl, g1, g2⟩
      · refine ⟨-nI 13, xs, ms, ?_, ?_, h0⟩
        · simp (maxSteps := 4000000) (disch := omega) only [stX10_at, fX10_at, fX9_isMissing, zl_0, zl_1, zl_2, zl_3, zl_4, zl_5, zl_6, zl_8, zl_9, zl_11, zl_12, zl_13, zl_16, zl_20, zl_23, zl_24, zl_30, zl_32, zl_40, zl_41, zl_43, zl_45, zl_50, zl_52, zl_60, zl_97, zl_99, zl_100, zl_124, zl_126, zl_127, zl_169, zl_170, zl_171, zl_195, zl_200, zl_201, zl_256, zl_261, zl_999, zl_1100, zl_1884, zl_4095, zl_4096, zd1, zd2, zs1, nI_add, pk_mul, zsb, zad1, zad2, zcl, zgI, zif_le, zif_nle, zif_lt, zif_nlt, zif_eq, zif_ne, zif_self, zif_T, zif_F, Nat.zero_add, Nat.add_sub_cancel, zn21, zn31, zif_m1, zif_m1l, zif_m1n, zif_pm, zb1_k, zb2_k, zb3_k, zb4_k, zb5_k, zb6_k, zb7_k, zb8_k, zb9_k, zb10_k, zb11_k, zb12_k, zb14_k, zb21_k, zb22_k, zupd_eq, zupd_ne, zupl_eq, zupl_ne, zupf_eq, zupf_ne, e1, z5, z6, g1]; try rfl
        · have g3 : fX11_sizeOf (nI 0) (m_now ms) = some (nI sz) := by
            unfold fX11_sizeOf
            simp (disch := omega) only [zl_0, zl_1, zl_2, zl_3, zl_4, zl_5, zl_6, zl_8, zl_9, zl_11, zl_12, zl_13, zl_16, zl_20, zl_23, zl_24, zl_30, zl_32, zl_40, zl_41, zl_43, zl_45, zl_50, zl_52, zl_60, zl_97, zl_99, zl_100, zl_124, zl_126, zl_127, zl_169, zl_170, zl_171, zl_195, zl_200, zl_201, zl_256, zl_261, zl_999, zl_1100, zl_1884, zl_4095, zl_4096, zd1, zd2, zs1, nI_add, pk_mul, zsb, zad1, zad2, zcl, zgI, zif_le, zif_nle, zif_lt, zif_nlt, zif_eq, zif_ne, zif_self, zif_T, zif_F, Nat.zero_add, Nat.add_sub_cancel, zn21, zn31, zif_m1, zif_m1l, zif_m1n, zif_pm, zb1_k, zb2_k, zb3_k, zb4_k, zb5_k, zb6_k, zb7_k, zb8_k, zb9_k, zb10_k, zb11_k, zb12_k, zb14_k, zb21_k, zb22_k, zupd_eq, zupd_ne, zupl_eq, zupl_ne, zupf_eq, zupf_ne, z7, Nat.reduceAdd, Nat.reduceMul]
          simp only [stX11_at, fX11_at, e2, g3, zb1_k, zl_0, zl_1, g2]
          simp (disch := omega) only [zl_0, zl_1, zl_2, zl_3, zl_4, zl_5, zl_6, zl_8, zl_9, zl_11, zl_12, zl_13, zl_16, zl_20, zl_23, zl_24, zl_30, zl_32, zl_40, zl_41, zl_43, zl_45, zl_50, zl_52, zl_60, zl_97, zl_99, zl_100, zl_124, zl_126, zl_127, zl_169, zl_170, zl_171, zl_195, zl_200, zl_201, zl_256, zl_261, zl_999, zl_1100, zl_1884, zl_4095, zl_4096, zd1, zd2, zs1, nI_add, pk_mul, zsb, zad1, zad2, zcl, zgI, zif_le, zif_nle, zif_lt, zif_nlt, zif_eq, zif_ne, zif_self, zif_T, zif_F, Nat.zero_add, Nat.add_sub_cancel, zn21, zn31, zif_m1, zif_m1l, zif_m1n, zif_pm, zb1_k, zb2_k, zb3_k, zb4_k, zb5_k, zb6_k, zb7_k, zb8_k, zb9_k, zb10_k, zb11_k, zb12_k, zb14_k, zb21_k, zb22_k, zupd_eq, zupd_ne, zupl_eq, zupl_ne, zupf_eq, zupf_ne]; try rfl
      · have q := z9 i (by omega)
        have qm := hm.2.2 (201 + 20 * 0 + i) (by omega) (by omega)
        have qb := (hT 0 (by omega)).2.2.2 i (by omega)
        have g3 : fX11_sizeOf (nI 0) (m_now ms) = some (nI sz) := by
          unfold fX11_sizeOf
          simp (disch := omega) only [zl_0, zl_1, zl_2, zl_3, zl_4, zl_5, zl_6, zl_8, zl_9, zl_11, zl_12, zl_13, zl_16, zl_20, zl_23, zl_24, zl_30, zl_32, zl_40, zl_41, zl_43, zl_45, zl_50, zl_52, zl_60, zl_97, zl_99, zl_100, zl_124, zl_126, zl_127, zl_169, zl_170, zl_171, zl_195, zl_200, zl_201, zl_256, zl_261, zl_999, zl_1100, zl_1884, zl_4095, zl_4096, zd1, zd2, zs1, nI_add, pk_mul, zsb, zad1, zad2, zcl, zgI, zif_le, zif_nle, zif_lt, zif_nlt, zif_eq, zif_ne, zif_self, zif_T, zif_F, Nat.zero_add, Nat.add_sub_cancel, zn21, zn31, zif_m1, zif_m1l, zif_m1n, zif_pm, zb1_k, zb2_k, zb3_k, zb4_k, zb5_k, zb6_k, zb7_k, zb8_k, zb9_k, zb10_k, zb11_k, zb12_k, zb14_k, zb21_k, zb22_k, zupd_eq, zupd_ne, zupl_eq, zupl_ne, zupf_eq, zupf_ne, z7, Nat.reduceAdd, Nat.reduceMul]
        by_cases qz : a (201 + 20 * 0 + i) = 0
        · rw [qz] at qm q
          rw [zn01] at q
          have q : x_trays_e0_places xs i = -nI 1 := q
          refine ⟨-nI 2, xs, ms, ?_, ?_, h0⟩
          · simp (maxSteps := 4000000) (disch := omega) only [stX10_at, fX10_at, fX9_isMissing, zl_0, zl_1, zl_2, zl_3, zl_4, zl_5, zl_6, zl_8, zl_9, zl_11, zl_12, zl_13, zl_16, zl_20, zl_23, zl_24, zl_30, zl_32, zl_40, zl_41, zl_43, zl_45, zl_50, zl_52, zl_60, zl_97, zl_99, zl_100, zl_124, zl_126, zl_127, zl_169, zl_170, zl_171, zl_195, zl_200, zl_201, zl_256, zl_261, zl_999, zl_1100, zl_1884, zl_4095, zl_4096, zd1, zd2, zs1, nI_add, pk_mul, zsb, zad1, zad2, zcl, zgI, zif_le, zif_nle, zif_lt, zif_nlt, zif_eq, zif_ne, zif_self, zif_T, zif_F, Nat.zero_add, Nat.add_sub_cancel, zn21, zn31, zif_m1, zif_m1l, zif_m1n, zif_pm, zb1_k, zb2_k, zb3_k, zb4_k, zb5_k, zb6_k, zb7_k, zb8_k, zb9_k, zb10_k, zb11_k, zb12_k, zb14_k, zb21_k, zb22_k, zupd_eq, zupd_ne, zupl_eq, zupl_ne, zupf_eq, zupf_ne, e1, z5, z6, g1, q]; try rfl
          · simp (disch := omega) only [stX11_at, fX11_at, zl_0, zl_1, zl_2, zl_3, zl_4, zl_5, zl_6, zl_8, zl_9, zl_11, zl_12, zl_13, zl_16, zl_20, zl_23, zl_24, zl_30, zl_32, zl_40, zl_41, zl_43, zl_45, zl_50, zl_52, zl_60, zl_97, zl_99, zl_100, zl_124, zl_126, zl_127, zl_169, zl_170, zl_171, zl_195, zl_200, zl_201, zl_256, zl_261, zl_999, zl_1100, zl_1884, zl_4095, zl_4096, zd1, zd2, zs1, nI_add, pk_mul, zsb, zad1, zad2, zcl, zgI, zif_le, zif_nle, zif_lt, zif_nlt, zif_eq, zif_ne, zif_self, zif_T, zif_F, Nat.zero_add, Nat.add_sub_cancel, zn21, zn31, zif_m1, zif_m1l, zif_m1n, zif_pm, zb1_k, zb2_k, zb3_k, zb4_k, zb5_k, zb6_k, zb7_k, zb8_k, zb9_k, zb10_k, zb11_k, zb12_k, zb14_k, zb21_k, zb22_k, zupd_eq, zupd_ne, zupl_eq, zupl_ne, zupf_eq, zupf_ne, e2, g3, g2, qm]; try rfl
        · obtain ⟨y, hy⟩ : ∃ y, a (201 + 20 * 0 + i) = y + 1 := ⟨a (201 + 20 * 0 + i) - 1, by omega⟩
          rw [hy] at qm q
          rw [zs1] at q
          have q : x_trays_e0_places xs i = nI y := q
          refine ⟨nI y, xs, ms, ?_, ?_, h0⟩
          · simp (maxSteps := 4000000) (disch := omega) only [stX10_at, fX10_at, fX9_isMissing, zl_0, zl_1, zl_2, zl_3, zl_4, zl_5, zl_6, zl_8, zl_9, zl_11, zl_12, zl_13, zl_16, zl_20, zl_23, zl_24, zl_30, zl_32, zl_40, zl_41, zl_43, zl_45, zl_50, zl_52, zl_60, zl_97, zl_99, zl_100, zl_124, zl_126, zl_127, zl_169, zl_170, zl_171, zl_195, zl_200, zl_201, zl_256, zl_261, zl_999, zl_1100, zl_1884, zl_4095, zl_4096, zd1, zd2, zs1, nI_add, pk_mul, zsb, zad1, zad2, zcl, zgI, zif_le, zif_nle, zif_lt, zif_nlt, zif_eq, zif_ne, zif_self, zif_T, zif_F, Nat.zero_add, Nat.add_sub_cancel, zn21, zn31, zif_m1, zif_m1l, zif_m1n, zif_pm, zb1_k, zb2_k, zb3_k, zb4_k, zb5_k, zb6_k, zb7_k, zb8_k, zb9_k, zb10_k, zb11_k, zb12_k, zb14_k, zb21_k, zb22_k, zupd_eq, zupd_ne, zupl_eq, zupl_ne, zupf_eq, zupf_ne, e1, z5, z6, g1, q]; try rfl
          · simp (disch := omega) only [stX11_at, fX11_at, zl_0, zl_1, zl_2, zl_3, zl_4, zl_5, zl_6, zl_8, zl_9, zl_11, zl_12, zl_13, zl_16, zl_20, zl_23, zl_24, zl_30, zl_32, zl_40, zl_41, zl_43, zl_45, zl_50, zl_52, zl_60, zl_97, zl_99, zl_100, zl_124, zl_126, zl_127, zl_169, zl_170, zl_171, zl_195, zl_200, zl_201, zl_256, zl_261, zl_999, zl_1100, zl_1884, zl_4095, zl_4096, zd1, zd2, zs1, nI_add, pk_mul, zsb, zad1, zad2, zcl, zgI, zif_le, zif_nle, zif_lt, zif_nlt, zif_eq, zif_ne, zif_self, zif_T, zif_F, Nat.zero_add, Nat.add_sub_cancel, zn21, zn31, zif_m1, zif_m1l, zif_m1n, zif_pm, zb1_k, zb2_k, zb3_k, zb4_k, zb5_k, zb6_k, zb7_k, zb8_k, zb9_k, zb10_k, zb11_k, zb12_k, zb14_k, zb21_k, zb22_k, zupd_eq, zupd_ne, zupl_eq, zupl_ne, zupf_eq, zupf_ne, e2, g3, g2, qm]; try rfl
  · rcases zTfacts (t := 1) (by omega) (hT 1 (by omega)) hT1 hm with ⟨z1, z2, z3, z4⟩ | ⟨kk, sz, z1, z2, z3, z4, z5, z6, z7, z8, z9⟩
    · have z3 : x_trays_e1_kind xs = -nI 1 := z3
      have z4 : m_now ms 197 = -nI 1 := z4
      refine ⟨-nI 11, xs, ms, ?_, ?_, h0⟩
      · simp (maxSteps := 4000000) (disch := omega) only [stX10_at, fX10_at, fX9_isMissing, zl_0, zl_1, zl_2, zl_3, zl_4, zl_5, zl_6, zl_8, zl_9, zl_11, zl_12, zl_13, zl_16, zl_20, zl_23, zl_24, zl_30, zl_32, zl_40, zl_41, zl_43, zl_45, zl_50, zl_52, zl_60, zl_97, zl_99, zl_100, zl_124, zl_126, zl_127, zl_169, zl_170, zl_171, zl_195, zl_200, zl_201, zl_256, zl_261, zl_999, zl_1100, zl_1884, zl_4095, zl_4096, zd1, zd2, zs1, nI_add, pk_mul, zsb, zad1, zad2, zcl, zgI, zif_le, zif_nle, zif_lt, zif_nlt, zif_eq, zif_ne, zif_self, zif_T, zif_F, Nat.zero_add, Nat.add_sub_cancel, zn21, zn31, zif_m1, zif_m1l, zif_m1n, zif_pm, zb1_k, zb2_k, zb3_k, zb4_k, zb5_k, zb6_k, zb7_k, zb8_k, zb9_k, zb10_k, zb11_k, zb12_k, zb14_k, zb21_k, zb22_k, zupd_eq, zupd_ne, zupl_eq, zupl_ne, zupf_eq, zupf_ne, e1, z3]; try rfl
      · simp (disch := omega) only [stX11_at, fX11_at, fX11_sizeOf, zl_0, zl_1, zl_2, zl_3, zl_4, zl_5, zl_6, zl_8, zl_9, zl_11, zl_12, zl_13, zl_16, zl_20, zl_23, zl_24, zl_30, zl_32, zl_40, zl_41, zl_43, zl_45, zl_50, zl_52, zl_60, zl_97, zl_99, zl_100, zl_124, zl_126, zl_127, zl_169, zl_170, zl_171, zl_195, zl_200, zl_201, zl_256, zl_261, zl_999, zl_1100, zl_1884, zl_4095, zl_4096, zd1, zd2, zs1, nI_add, pk_mul, zsb, zad1, zad2, zcl, zgI, zif_le, zif_nle, zif_lt, zif_nlt, zif_eq, zif_ne, zif_self, zif_T, zif_F, Nat.zero_add, Nat.add_sub_cancel, zn21, zn31, zif_m1, zif_m1l, zif_m1n, zif_pm, zb1_k, zb2_k, zb3_k, zb4_k, zb5_k, zb6_k, zb7_k, zb8_k, zb9_k, zb10_k, zb11_k, zb12_k, zb14_k, zb21_k, zb22_k, zupd_eq, zupd_ne, zupl_eq, zupl_ne, zupf_eq, zupf_ne, e2, z4, Nat.reduceAdd, Nat.reduceMul, zif_n1le]; try rfl
    · have z5 : x_trays_e1_kind xs = nI kk := z5
      have z6 : x_trays_e1_size xs = nI sz := z6
      have z7 : m_now ms 197 = nI sz := z7
      rcases zplace p2 z3 with ⟨g1, g2⟩ | ⟨i, hi, rfl, g1, g2⟩
      · refine ⟨-nI 13, xs, ms, ?_, ?_, h0⟩
        · simp (maxSteps := 4000000) (disch := omega) only [stX10_at, fX10_at, fX9_isMissing, zl_0, zl_1, zl_2, zl_3, zl_4, zl_5, zl_6, zl_8, zl_9, zl_11, zl_12, zl_13, zl_16, zl_20, zl_23, zl_24, zl_30, zl_32, zl_40, zl_41, zl_43, zl_45, zl_50, zl_52, zl_60, zl_97, zl_99, zl_100, zl_124, zl_126, zl_127, zl_169, zl_170, zl_171, zl_195, zl_200, zl_201, zl_256, zl_261, zl_999, zl_1100, zl_1884, zl_4095, zl_4096, zd1, zd2, zs1, nI_add, pk_mul, zsb, zad1, zad2, zcl, zgI, zif_le, zif_nle, zif_lt, zif_nlt, zif_eq, zif_ne, zif_self, zif_T, zif_F, Nat.zero_add, Nat.add_sub_cancel, zn21, zn31, zif_m1, zif_m1l, zif_m1n, zif_pm, zb1_k, zb2_k, zb3_k, zb4_k, zb5_k, zb6_k, zb7_k, zb8_k, zb9_k, zb10_k, zb11_k, zb12_k, zb14_k, zb21_k, zb22_k, zupd_eq, zupd_ne, zupl_eq, zupl_ne, zupf_eq, zupf_ne, e1, z5, z6, g1]; try rfl
        · have g3 : fX11_sizeOf (nI 1) (m_now ms) = some (nI sz) := by
            unfold fX11_sizeOf
            simp (disch := omega) only [zl_0, zl_1, zl_2, zl_3, zl_4, zl_5, zl_6, zl_8, zl_9, zl_11, zl_12, zl_13, zl_16, zl_20, zl_23, zl_24, zl_30, zl_32, zl_40, zl_41, zl_43, zl_45, zl_50, zl_52, zl_60, zl_97, zl_99, zl_100, zl_124, zl_126, zl_127, zl_169, zl_170, zl_171, zl_195, zl_200, zl_201, zl_256, zl_261, zl_999, zl_1100, zl_1884, zl_4095, zl_4096, zd1, zd2, zs1, nI_add, pk_mul, zsb, zad1, zad2, zcl, zgI, zif_le, zif_nle, zif_lt, zif_nlt, zif_eq, zif_ne, zif_self, zif_T, zif_F, Nat.zero_add, Nat.add_sub_cancel, zn21, zn31, zif_m1, zif_m1l, zif_m1n, zif_pm, zb1_k, zb2_k, zb3_k, zb4_k, zb5_k, zb6_k, zb7_k, zb8_k, zb9_k, zb10_k, zb11_k, zb12_k, zb14_k, zb21_k, zb22_k, zupd_eq, zupd_ne, zupl_eq, zupl_ne, zupf_eq, zupf_ne, z7, Nat.reduceAdd, Nat.reduceMul]
          simp only [stX11_at, fX11_at, e2, g3, zb1_k, zl_0, zl_1, g2]
          simp (disch := omega) only [zl_0, zl_1, zl_2, zl_3, zl_4, zl_5, zl_6, zl_8, zl_9, zl_11, zl_12, zl_13, zl_16, zl_20, zl_23, zl_24, zl_30, zl_32, zl_40, zl_41, zl_43, zl_45, zl_50, zl_52, zl_60, zl_97, zl_99, zl_100, zl_124, zl_126, zl_127, zl_169, zl_170, zl_171, zl_195, zl_200, zl_201, zl_256, zl_261, zl_999, zl_1100, zl_1884, zl_4095, zl_4096, zd1, zd2, zs1, nI_add, pk_mul, zsb, zad1, zad2, zcl, zgI, zif_le, zif_nle, zif_lt, zif_nlt, zif_eq, zif_ne, zif_self, zif_T, zif_F, Nat.zero_add, Nat.add_sub_cancel, zn21, zn31, zif_m1, zif_m1l, zif_m1n, zif_pm, zb1_k, zb2_k, zb3_k, zb4_k, zb5_k, zb6_k, zb7_k, zb8_k, zb9_k, zb10_k, zb11_k, zb12_k, zb14_k, zb21_k, zb22_k, zupd_eq, zupd_ne, zupl_eq, zupl_ne, zupf_eq, zupf_ne]; try rfl
      · have q := z9 i (by omega)
        have qm := hm.2.2 (201 + 20 * 1 + i) (by omega) (by omega)
        have qb := (hT 1 (by omega)).2.2.2 i (by omega)
        have g3 : fX11_sizeOf (nI 1) (m_now ms) = some (nI sz) := by
          unfold fX11_sizeOf
          simp (disch := omega) only [zl_0, zl_1, zl_2, zl_3, zl_4, zl_5, zl_6, zl_8, zl_9, zl_11, zl_12, zl_13, zl_16, zl_20, zl_23, zl_24, zl_30, zl_32, zl_40, zl_41, zl_43, zl_45, zl_50, zl_52, zl_60, zl_97, zl_99, zl_100, zl_124, zl_126, zl_127, zl_169, zl_170, zl_171, zl_195, zl_200, zl_201, zl_256, zl_261, zl_999, zl_1100, zl_1884, zl_4095, zl_4096, zd1, zd2, zs1, nI_add, pk_mul, zsb, zad1, zad2, zcl, zgI, zif_le, zif_nle, zif_lt, zif_nlt, zif_eq, zif_ne, zif_self, zif_T, zif_F, Nat.zero_add, Nat.add_sub_cancel, zn21, zn31, zif_m1, zif_m1l, zif_m1n, zif_pm, zb1_k, zb2_k, zb3_k, zb4_k, zb5_k, zb6_k, zb7_k, zb8_k, zb9_k, zb10_k, zb11_k, zb12_k, zb14_k, zb21_k, zb22_k, zupd_eq, zupd_ne, zupl_eq, zupl_ne, zupf_eq, zupf_ne, z7, Nat.reduceAdd, Nat.reduceMul]
        by_cases qz : a (201 + 20 * 1 + i) = 0
        · rw [qz] at qm q
          rw [zn01] at q
          have q : x_trays_e1_places xs i = -nI 1 := q
          refine ⟨-nI 2, xs, ms, ?_, ?_, h0⟩
          · simp (maxSteps := 4000000) (disch := omega) only [stX10_at, fX10_at, fX9_isMissing, zl_0, zl_1, zl_2, zl_3, zl_4, zl_5, zl_6, zl_8, zl_9, zl_11, zl_12, zl_13, zl_16, zl_20, zl_23, zl_24, zl_30, zl_32, zl_40, zl_41, zl_43, zl_45, zl_50, zl_52, zl_60, zl_97, zl_99, zl_100, zl_124, zl_126, zl_127, zl_169, zl_170, zl_171, zl_195, zl_200, zl_201, zl_256, zl_261, zl_999, zl_1100, zl_1884, zl_4095, zl_4096, zd1, zd2, zs1, nI_add, pk_mul, zsb, zad1, zad2, zcl, zgI, zif_le, zif_nle, zif_lt, zif_nlt, zif_eq, zif_ne, zif_self, zif_T, zif_F, Nat.zero_add, Nat.add_sub_cancel, zn21, zn31, zif_m1, zif_m1l, zif_m1n, zif_pm, zb1_k, zb2_k, zb3_k, zb4_k, zb5_k, zb6_k, zb7_k, zb8_k, zb9_k, zb10_k, zb11_k, zb12_k, zb14_k, zb21_k, zb22_k, zupd_eq, zupd_ne, zupl_eq, zupl_ne, zupf_eq, zupf_ne, e1, z5, z6, g1, q]; try rfl
          · simp (disch := omega) only [stX11_at, fX11_at, zl_0, zl_1, zl_2, zl_3, zl_4, zl_5, zl_6, zl_8, zl_9, zl_11, zl_12, zl_13, zl_16, zl_20, zl_23, zl_24, zl_30, zl_32, zl_40, zl_41, zl_43, zl_45, zl_50, zl_52, zl_60, zl_97, zl_99, zl_100, zl_124, zl_126, zl_127, zl_169, zl_170, zl_171, zl_195, zl_200, zl_201, zl_256, zl_261, zl_999, zl_1100, zl_1884, zl_4095, zl_4096, zd1, zd2, zs1, nI_add, pk_mul, zsb, zad1, zad2, zcl, zgI, zif_le, zif_nle, zif_lt, zif_nlt, zif_eq, zif_ne, zif_self, zif_T, zif_F, Nat.zero_add, Nat.add_sub_cancel, zn21, zn31, zif_m1, zif_m1l, zif_m1n, zif_pm, zb1_k, zb2_k, zb3_k, zb4_k, zb5_k, zb6_k, zb7_k, zb8_k, zb9_k, zb10_k, zb11_k, zb12_k, zb14_k, zb21_k, zb22_k, zupd_eq, zupd_ne, zupl_eq, zupl_ne, zupf_eq, zupf_ne, e2, g3, g2, qm]; try rfl
        · obtain ⟨y, hy⟩ : ∃ y, a (201 + 20 * 1 + i) = y + 1 := ⟨a (201 + 20 * 1 + i) - 1, by omega⟩
          rw [hy] at qm q
          rw [zs1] at q
          have q : x_trays_e1_places xs i = nI y := q
          refine ⟨nI y, xs, ms, ?_, ?_, h0⟩
          · simp (maxSteps := 4000000) (disch := omega) only [stX10_at, fX10_at, fX9_isMissing, zl_0, zl_1, zl_2, zl_3, zl_4, zl_5, zl_6, zl_8, zl_9, zl_11, zl_12, zl_13, zl_16, zl_20, zl_23, zl_24, zl_30, zl_32, zl_40, zl_41, zl_43, zl_45, zl_50, zl_52, zl_60, zl_97, zl_99, zl_100, zl_124, zl_126, zl_127, zl_169, zl_170, zl_171, zl_195, zl_200, zl_201, zl_256, zl_261, zl_999, zl_1100, zl_1884, zl_4095, zl_4096, zd1, zd2, zs1, nI_add, pk_mul, zsb, zad1, zad2, zcl, zgI, zif_le, zif_nle, zif_lt, zif_nlt, zif_eq, zif_ne, zif_self, zif_T, zif_F, Nat.zero_add, Nat.add_sub_cancel, zn21, zn31, zif_m1, zif_m1l, zif_m1n, zif_pm, zb1_k, zb2_k, zb3_k, zb4_k, zb5_k, zb6_k, zb7_k, zb8_k, zb9_k, zb10_k, zb11_k, zb12_k, zb14_k, zb21_k, zb22_k, zupd_eq, zupd_ne, zupl_eq, zupl_ne, zupf_eq, zupf_ne, e1, z5, z6, g1, q]; try rfl
          · simp (disch := omega) only [stX11_at, fX11_at, zl_0, zl_1, zl_2, zl_3, zl_4, zl_5, zl_6, zl_8, zl_9, zl_11, zl_12, zl_13, zl_16, zl_20, zl_23, zl_24, zl_30, zl_32, zl_40, zl_41, zl_43, zl_45, zl_50, zl_52, zl_60, zl_97, zl_99, zl_100, zl_124, zl_126, zl_127, zl_169, zl_170, zl_171, zl_195, zl_200, zl_201, zl_256, zl_261, zl_999, zl_1100, zl_1884, zl_4095, zl_4096, zd1, zd2, zs1, nI_add, pk_mul, zsb, zad1, zad2, zcl, zgI, zif_le, zif_nle, zif_lt, zif_nlt, zif_eq, zif_ne, zif_self, zif_T, zif_F, Nat.zero_add, Nat.add_sub_cancel, zn21, zn31, zif_m1, zif_m1l, zif_m1n, zif_pm, zb1_k, zb2_k, zb3_k, zb4_k, zb5_k, zb6_k, zb7_k, zb8_k, zb9_k, zb10_k, zb11_k, zb12_k, zb14_k, zb21_k, zb22_k, zupd_eq, zupd_ne, zupl_eq, zupl_ne, zupf_eq, zupf_ne, e2, g3, g2, qm]; try rfl
  · rcases zTfacts (t := 2) (by omega) (hT 2 (by omega)) hT2 hm with ⟨z1, z2, z3, z4⟩ | ⟨kk, sz, z1, z2, z3, z4, z5, z6, z7, z8, z9⟩
    · have z3 : x_trays_e2_kind xs = -nI 1 := z3
      have z4 : m_now ms 199 = -nI 1 := z4
      refine ⟨-nI 11, xs, ms, ?_, ?_, h0⟩
      · simp (maxSteps := 4000000) (disch := omega) only [stX10_at, fX10_at, fX9_isMissing, zl_0, zl_1, zl_2, zl_3, zl_4, zl_5, zl_6, zl_8, zl_9, zl_11, zl_12, zl_13, zl_16, zl_20, zl_23, zl_24, zl_30, zl_32, zl_40, zl_41, zl_43, zl_45, zl_50, zl_52, zl_60, zl_97, zl_99, zl_100, zl_124, zl_126, zl_127, zl_169, zl_170, zl_171, zl_195, zl_200, zl_201, zl_256, zl_261, zl_999, zl_1100, zl_1884, zl_4095, zl_4096, zd1, zd2, zs1, nI_add, pk_mul, zsb, zad1, zad2, zcl, zgI, zif_le, zif_nle, zif_lt, zif_nlt, zif_eq, zif_ne, zif_self, zif_T, zif_F, Nat.zero_add, Nat.add_sub_cancel, zn21, zn31, zif_m1, zif_m1l, zif_m1n, zif_pm, zb1_k, zb2_k, zb3_k, zb4_k, zb5_k, zb6_k, zb7_k, zb8_k, zb9_k, zb10_k, zb11_k, zb12_k, zb14_k, zb21_k, zb22_k, zupd_eq, zupd_ne, zupl_eq, zupl_ne, zupf_eq, zupf_ne, e1, z3]; try rfl
      · simp (disch := omega) only [stX11_at, fX11_at, fX11_sizeOf, zl_0, zl_1, zl_2, zl_3, zl_4, zl_5, zl_6, zl_8, zl_9, zl_11, zl_12, zl_13, zl_16, zl_20, zl_23, zl_24, zl_30, zl_32, zl_40, zl_41, zl_43, zl_45, zl_50, zl_52, zl_60, zl_97, zl_99, zl_100, zl_124, zl_126, zl_127, zl_169, zl_170, zl_171, zl_195, zl_200, zl_201, zl_256, zl_261, zl_999, zl_1100, zl_1884, zl_4095, zl_4096, zd1, zd2, zs1, nI_add, pk_mul, zsb, zad1, zad2, zcl, zgI, zif_le, zif_nle, zif_lt, zif_nlt, zif_eq, zif_ne, zif_self, zif_T, zif_F, Nat.zero_add, Nat.add_sub_cancel, zn21, zn31, zif_m1, zif_m1l, zif_m1n, zif_pm, zb1_k, zb2_k, zb3_k, zb4_k, zb5_k, zb6_k, zb7_k, zb8_k, zb9_k, zb10_k, zb11_k, zb12_k, zb14_k, zb21_k, zb22_k, zupd_eq, zupd_ne, zupl_eq, zupl_ne, zupf_eq, zupf_ne, e2, z4, Nat.reduceAdd, Nat.reduceMul, zif_n1le]; try rfl
    · have z5 : x_trays_e2_kind xs = nI kk := z5
      have z6 : x_trays_e2_size xs = nI sz := z6
      have z7 : m_now ms 199 = nI sz := z7
      rcases zplace p2 z3 with ⟨g1, g2⟩ | ⟨i, hi, rfl, g1, g2⟩
      · refine ⟨-nI 13, xs, ms, ?_, ?_, h0⟩
        · simp (maxSteps := 4000000) (disch := omega) only [stX10_at, fX10_at, fX9_isMissing, zl_0, zl_1, zl_2, zl_3, zl_4, zl_5, zl_6, zl_8, zl_9, zl_11, zl_12, zl_13, zl_16, zl_20, zl_23, zl_24, zl_30, zl_32, zl_40, zl_41, zl_43, zl_45, zl_50, zl_52, zl_60, zl_97, zl_99, zl_100, zl_124, zl_126, zl_127, zl_169, zl_170, zl_171, zl_195, zl_200, zl_201, zl_256, zl_261, zl_999, zl_1100, zl_1884, zl_4095, zl_4096, zd1, zd2, zs1, nI_add, pk_mul, zsb, zad1, zad2, zcl, zgI, zif_le, zif_nle, zif_lt, zif_nlt, zif_eq, zif_ne, zif_self, zif_T, zif_F, Nat.zero_add, Nat.add_sub_cancel, zn21, zn31, zif_m1, zif_m1l, zif_m1n, zif_pm, zb1_k, zb2_k, zb3_k, zb4_k, zb5_k, zb6_k, zb7_k, zb8_k, zb9_k, zb10_k, zb11_k, zb12_k, zb14_k, zb21_k, zb22_k, zupd_eq, zupd_ne, zupl_eq, zupl_ne, zupf_eq, zupf_ne, e1, z5, z6, g1]; try rfl
        · have g3 : fX11_sizeOf (nI 2) (m_now ms) = some (nI sz) := by
            unfold fX11_sizeOf
            simp (disch := omega) only [zl_0, zl_1, zl_2, zl_3, zl_4, zl_5, zl_6, zl_8, zl_9, zl_11, zl_12, zl_13, zl_16, zl_20, zl_23, zl_24, zl_30, zl_32, zl_40, zl_41, zl_43, zl_45, zl_50, zl_52, zl_60, zl_97, zl_99, zl_100, zl_124, zl_126, zl_127, zl_169, zl_170, zl_171, zl_195, zl_200, zl_201, zl_256, zl_261, zl_999, zl_1100, zl_1884, zl_4095, zl_4096, zd1, zd2, zs1, nI_add, pk_mul, zsb, zad1, zad2, zcl, zgI, zif_le, zif_nle, zif_lt, zif_nlt, zif_eq, zif_ne, zif_self, zif_T, zif_F, Nat.zero_add, Nat.add_sub_cancel, zn21, zn31, zif_m1, zif_m1l, zif_m1n, zif_pm, zb1_k, zb2_k, zb3_k, zb4_k, zb5_k, zb6_k, zb7_k, zb8_k, zb9_k, zb10_k, zb11_k, zb12_k, zb14_k, zb21_k, zb22_k, zupd_eq, zupd_ne, zupl_eq, zupl_ne, zupf_eq, zupf_ne, z7, Nat.reduceAdd, Nat.reduceMul]
          simp only [stX11_at, fX11_at, e2, g3, zb1_k, zl_0, zl_1, g2]
          simp (disch := omega) only [zl_0, zl_1, zl_2, zl_3, zl_4, zl_5, zl_6, zl_8, zl_9, zl_11, zl_12, zl_13, zl_16, zl_20, zl_23, zl_24, zl_30, zl_32, zl_40, zl_41, zl_43, zl_45, zl_50, zl_52, zl_60, zl_97, zl_99, zl_100, zl_124, zl_126, zl_127, zl_169, zl_170, zl_171, zl_195, zl_200, zl_201, zl_256, zl_261, zl_999, zl_1100, zl_1884, zl_4095, zl_4096, zd1, zd2, zs1, nI_add, pk_mul, zsb, zad1, zad2, zcl, zgI, zif_le, zif_nle, zif_lt, zif_nlt, zif_eq, zif_ne, zif_self, zif_T, zif_F, Nat.zero_add, Nat.add_sub_cancel, zn21, zn31, zif_m1, zif_m1l, zif_m1n, zif_pm, zb1_k, zb2_k, zb3_k, zb4_k, zb5_k, zb6_k, zb7_k, zb8_k, zb9_k, zb10_k, zb11_k, zb12_k, zb14_k, zb21_k, zb22_k, zupd_eq, zupd_ne, zupl_eq, zupl_ne, zupf_eq, zupf_ne]; try rfl
      · have q := z9 i (by omega)
        have qm := hm.2.2 (201 + 20 * 2 + i) (by omega) (by omega)
        have qb := (hT 2 (by omega)).2.2.2 i (by omega)
        have g3 : fX11_sizeOf (nI 2) (m_now ms) = some (nI sz) := by
          unfold fX11_sizeOf
          simp (disch := omega) only [zl_0, zl_1, zl_2, zl_3, zl_4, zl_5, zl_6, zl_8, zl_9, zl_11, zl_12, zl_13, zl_16, zl_20, zl_23, zl_24, zl_30, zl_32, zl_40, zl_41, zl_43, zl_45, zl_50, zl_52, zl_60, zl_97, zl_99, zl_100, zl_124, zl_126, zl_127, zl_169, zl_170, zl_171, zl_195, zl_200, zl_201, zl_256, zl_261, zl_999, zl_1100, zl_1884, zl_4095, zl_4096, zd1, zd2, zs1, nI_add, pk_mul, zsb, zad1, zad2, zcl, zgI, zif_le, zif_nle, zif_lt, zif_nlt, zif_eq, zif_ne, zif_self, zif_T, zif_F, Nat.zero_add, Nat.add_sub_cancel, zn21, zn31, zif_m1, zif_m1l, zif_m1n, zif_pm, zb1_k, zb2_k, zb3_k, zb4_k, zb5_k, zb6_k, zb7_k, zb8_k, zb9_k, zb10_k, zb11_k, zb12_k, zb14_k, zb21_k, zb22_k, zupd_eq, zupd_ne, zupl_eq, zupl_ne, zupf_eq, zupf_ne, z7, Nat.reduceAdd, Nat.reduceMul]
        by_cases qz : a (201 + 20 * 2 + i) = 0
        · rw [qz] at qm q
          rw [zn01] at q
          have q : x_trays_e2_places xs i = -nI 1 := q
          refine ⟨-nI 2, xs, ms, ?_, ?_, h0⟩
          · simp (maxSteps := 4000000) (disch := omega) only [stX10_at, fX10_at, fX9_isMissing, zl_0, zl_1, zl_2, zl_3, zl_4, zl_5, zl_6, zl_8, zl_9, zl_11, zl_12, zl_13, zl_16, zl_20, zl_23, zl_24, zl_30, zl_32, zl_40, zl_41, zl_43, zl_45, zl_50, zl_52, zl_60, zl_97, zl_99, zl_100, zl_124, zl_126, zl_127, zl_169, zl_170, zl_171, zl_195, zl_200, zl_201, zl_256, zl_261, zl_999, zl_1100, zl_1884, zl_4095, zl_4096, zd1, zd2, zs1, nI_add, pk_mul, zsb, zad1, zad2, zcl, zgI, zif_le, zif_nle, zif_lt, zif_nlt, zif_eq, zif_ne, zif_self, zif_T, zif_F, Nat.zero_add, Nat.add_sub_cancel, zn21, zn31, zif_m1, zif_m1l, zif_m1n, zif_pm, zb1_k, zb2_k, zb3_k, zb4_k, zb5_k, zb6_k, zb7_k, zb8_k, zb9_k, zb10_k, zb11_k, zb12_k, zb14_k, zb21_k, zb22_k, zupd_eq, zupd_ne, zupl_eq, zupl_ne, zupf_eq, zupf_ne, e1, z5, z6, g1, q]; try rfl
          · simp (disch := omega) only [stX11_at, fX11_at, zl_0, zl_1, zl_2, zl_3, zl_4, zl_5, zl_6, zl_8, zl_9, zl_11, zl_12, zl_13, zl_16, zl_20, zl_23, zl_24, zl_30, zl_32, zl_40, zl_41, zl_43, zl_45, zl_50, zl_52, zl_60, zl_97, zl_99, zl_100, zl_124, zl_126, zl_127, zl_169, zl_170, zl_171, zl_195, zl_200, zl_201, zl_256, zl_261, zl_999, zl_1100, zl_1884, zl_4095, zl_4096, zd1, zd2, zs1, nI_add, pk_mul, zsb, zad1, zad2, zcl, zgI, zif_le, zif_nle, zif_lt, zif_nlt, zif_eq, zif_ne, zif_self, zif_T, zif_F, Nat.zero_add, Nat.add_sub_cancel, zn21, zn31, zif_m1, zif_m1l, zif_m1n, zif_pm, zb1_k, zb2_k, zb3_k, zb4_k, zb5_k, zb6_k, zb7_k, zb8_k, zb9_k, zb10_k, zb11_k, zb12_k, zb14_k, zb21_k, zb22_k, zupd_eq, zupd_ne, zupl_eq, zupl_ne, zupf_eq, zupf_ne, e2, g3, g2, qm]; try rfl
        · obtain ⟨y, hy⟩ : ∃ y, a (201 + 20 * 2 + i) = y + 1 := ⟨a (201 + 20 * 2 + i) - 1, by omega⟩
          rw [hy] at qm q
          rw [zs1] at q
          have q : x_trays_e2_places xs i = nI y := q
          refine ⟨nI y, xs, ms, ?_, ?_, h0⟩
          · simp (maxSteps := 4000000) (disch := omega) only [stX10_at, fX10_at, fX9_isMissing, zl_0, zl_1, zl_2, zl_3, zl_4, zl_5, zl_6, zl_8, zl_9, zl_11, zl_12, zl_13, zl_16, zl_20, zl_23, zl_24, zl_30, zl_32, zl_40, zl_41, zl_43, zl_45, zl_50, zl_52, zl_60, zl_97, zl_99, zl_100, zl_124, zl_126, zl_127, zl_169, zl_170, zl_171, zl_195, zl_200, zl_201, zl_256, zl_261, zl_999, zl_1100, zl_1884, zl_4095, zl_4096, zd1, zd2, zs1, nI_add, pk_mul, zsb, zad1, zad2, zcl, zgI, zif_le, zif_nle, zif_lt, zif_nlt, zif_eq, zif_ne, zif_self, zif_T, zif_F, Nat.zero_add, Nat.add_sub_cancel, zn21, zn31, zif_m1, zif_m1l, zif_m1n, zif_pm, zb1_k, zb2_k, zb3_k, zb4_k, zb5_k, zb6_k, zb7_k, zb8_k, zb9_k, zb10_k, zb11_k, zb12_k, zb14_k, zb21_k, zb22_k, zupd_eq, zupd_ne, zupl_eq, zupl_ne, zupf_eq, zupf_ne, e1, z5, z6, g1, q]; try rfl
          · simp (disch := omega) only [stX11_at, fX11_at, zl_0, zl_1, zl_2, zl_3, zl_4, zl_5, zl_6, zl_8, zl_9, zl_11, zl_12, zl_13, zl_16, zl_20, zl_23, zl_24, zl_30, zl_32, zl_40, zl_41, zl_43, zl_45, zl_50, zl_52, zl_60, zl_97, zl_99, zl_100, zl_124, zl_126, zl_127, zl_169, zl_170, zl_171, zl_195, zl_200, zl_201, zl_256, zl_261, zl_999, zl_1100, zl_1884, zl_4095, zl_4096, zd1, zd2, zs1, nI_add, pk_mul, zsb, zad1, zad2, zcl, zgI, zif_le, zif_nle, zif_lt, zif_nlt, zif_eq, zif_ne, zif_self, zif_T, zif_F, Nat.zero_add, Nat.add_sub_cancel, zn21, zn31, zif_m1, zif_m1l, zif_m1n, zif_pm, zb1_k, zb2_k, zb3_k, zb4_k, zb5_k, zb6_k, zb7_k, zb8_k, zb9_k, zb10_k, zb11_k, zb12_k, zb14_k, zb21_k, zb22_k, zupd_eq, zupd_ne, zupl_eq, zupl_ne, zupf_eq, zupf_ne, e2, g3, g2, qm]; try rfl
