/-! shortly: a net's value as a float -/
def zej (kk : Nat) (x y : UInt32) : UInt32 := if kk = 1 then FP.fadd x y else FP.fdiv FP.fconst1 (FP.fadd (FP.fdiv FP.fconst1 x) (FP.fdiv FP.fconst1 y))
/-- bounds: a net of p parts -/
theorem zej_b {kk p q : Nat} {x y : UInt32} (hp : 1 ≤ p) (hq : 1 ≤ q) (hpq : p + q ≤ 12) (hx : zE (127 - p) (160 + p) x) (hy : zE (127 - q) (160 + q) y) : zE (127 - (p + q)) (160 + (p + q)) (zej kk x y) ∧ FP.fadd x y &&& 0x7fffffff ≤ 0x7f800000 ∧ FP.fdiv FP.fconst1 x &&& 0x7fffffff ≤ 0x7f800000 ∧ FP.fdiv FP.fconst1 y &&& 0x7fffffff ≤ 0x7f800000 ∧ FP.fadd (FP.fdiv FP.fconst1 x) (FP.fdiv FP.fconst1 y) &&& 0x7fffffff ≤ 0x7f800000 ∧ FP.fdiv FP.fconst1 (FP.fadd (FP.fdiv FP.fconst1 x) (FP.fdiv FP.fconst1 y)) &&& 0x7fffffff ≤ 0x7f800000 := by
  have x' : zE (128 - (p + q)) (159 + (p + q)) x := zE_w hx (by omega) (by omega)
  have y' : zE (128 - (p + q)) (159 + (p + q)) y := zE_w hy (by omega) (by omega)
  have s := zE_add x' y' (by omega) (by omega) (by omega)
  have u := zE_inv x' (by omega) (by omega) (by omega)
  have v := zE_inv y' (by omega) (by omega) (by omega)
  have t := zE_add u v (by omega) (by omega) (by omega)
  have r := zE_par x' y' (by omega) (by omega) (by omega)
  refine ⟨?_, zE_fin s (by omega), zE_fin u (by omega), zE_fin v (by omega), zE_fin t (by omega), zE_fin r (by omega)⟩
  unfold zej
  split
  · exact zE_w s (by omega) (by omega)
  · exact zE_w r (by omega) (by omega)
theorem fm_joinedF {kk : Nat} {x y : UInt32} (hk : kk = 1 ∨ kk = 2) (s1 : FP.fadd x y &&& 0x7fffffff ≤ 0x7f800000) (s2 : FP.fdiv FP.fconst1 x &&& 0x7fffffff ≤ 0x7f800000) (s3 : FP.fdiv FP.fconst1 y &&& 0x7fffffff ≤ 0x7f800000) (s4 : FP.fadd (FP.fdiv FP.fconst1 x) (FP.fdiv FP.fconst1 y) &&& 0x7fffffff ≤ 0x7f800000) (s5 : FP.fdiv FP.fconst1 (FP.fadd (FP.fdiv FP.fconst1 x) (FP.fdiv FP.fconst1 y)) &&& 0x7fffffff ≤ 0x7f800000) : fX11_joinedFloats (nI kk) x y = some (zej kk x y) := by
  unfold fX11_joinedFloats
  rcases hk with rfl | rfl
  · simp (disch := omega) only [zl_0, zl_1, zl_2, zl_3, zl_4, zl_5, zl_6, zl_8, zl_9, zl_11, zl_12, zl_13, zl_16, zl_20, zl_23, zl_24, zl_30, zl_32, zl_40, zl_41, zl_43, zl_45, zl_50, zl_52, zl_60, zl_97, zl_99, zl_100, zl_124, zl_126, zl_127, zl_169, zl_170, zl_171, zl_195, zl_200, zl_201, zl_256, zl_261, zl_999, zl_1100, zl_1884, zl_4095, zl_4096, zd1, zd2, zs1, nI_add, pk_mul, zsb, zad1, zad2, zcl, zgI, zif_le, zif_nle, zif_lt, zif_nlt, zif_eq, zif_ne, zif_self, zif_T, zif_F, Nat.zero_add, Nat.add_sub_cancel, zn21, zn31, zif_m1, zif_m1l, zif_m1n, zif_pm, zb1_k, zb2_k, zb3_k, zb4_k, zb5_k, zb6_k, zb7_k, zb8_k, zb9_k, zb10_k, zb11_k, zb12_k, zb14_k, zb21_k, zb22_k, zupd_eq, zupd_ne, zupl_eq, zupl_ne, zupf_eq, zupf_ne, zpT s1]
    rfl
  · simp (disch := omega) only [zl_0, zl_1, zl_2, zl_3, zl_4, zl_5, zl_6, zl_8, zl_9, zl_11, zl_12, zl_13, zl_16, zl_20, zl_23, zl_24, zl_30, zl_32, zl_40, zl_41, zl_43, zl_45, zl_50, zl_52, zl_60, zl_97, zl_99, zl_100, zl_124, zl_126, zl_127, zl_169, zl_170, zl_171, zl_195, zl_200, zl_201, zl_256, zl_261, zl_999, zl_1100, zl_1884, zl_4095, zl_4096, zd1, zd2, zs1, nI_add, pk_mul, zsb, zad1, zad2, zcl, zgI, zif_le, zif_nle, zif_lt, zif_nlt, zif_eq, zif_ne, zif_self, zif_T, zif_F, Nat.zero_add, Nat.add_sub_cancel, zn21, zn31, zif_m1, zif_m1l, zif_m1n, zif_pm, zb1_k, zb2_k, zb3_k, zb4_k, zb5_k, zb6_k, zb7_k, zb8_k, zb9_k, zb10_k, zb11_k, zb12_k, zb14_k, zb21_k, zb22_k, zupd_eq, zupd_ne, zupl_eq, zupl_ne, zupf_eq, zupf_ne, zpT s2, zpT s3, zpT s4, zpT s5]
    rfl
def zeV (a : Nat → Nat) : Nat → Nat → UInt32
  | 0, _ => 0
  | f + 1, i => if aK a i = 0 then FP.i2f (nI (a (aF a i))) else zej (aK a i) (zeV a f (aF a i)) (zeV a f (aS a i))
def zev (a : Nat → Nat) (i : Nat) : UInt32 := zeV a (i + 1) i
theorem zeV_st {a : Nat → Nat} (ac : zAc (aK a) (aF a) (aS a) (a 8)) : ∀ i, i < a 8 → ∀ f g, i < f → i < g → zeV a f i = zeV a g i := by
  intro i
  induction i using Nat.strongRecOn with
  | ind i ih =>
    intro hi f g hf hg
    obtain ⟨f, rfl⟩ : ∃ x, f = x + 1 := ⟨f - 1, by omega⟩
    obtain ⟨g, rfl⟩ : ∃ x, g = x + 1 := ⟨g - 1, by omega⟩
    unfold zeV
    by_cases k : aK a i = 0
    · rw [if_pos k, if_pos k]
    · have h := ac i hi k
      rw [if_neg k, if_neg k, ih _ h.1 (by omega) f g (by omega) (by omega), ih _ h.2 (by omega) f g (by omega) (by omega)]
theorem zev_0 {a : Nat → Nat} {i : Nat} (k : aK a i = 0) : zev a i = FP.i2f (nI (a (aF a i))) := if_pos k
theorem zev_1 {a : Nat → Nat} {i : Nat} (ac : zAc (aK a) (aF a) (aS a) (a 8)) (hi : i < a 8) (k : aK a i ≠ 0) : zev a i = zej (aK a i) (zev a (aF a i)) (zev a (aS a i)) := by
  have h := ac i hi k
  unfold zev
  rw [show zeV a (i + 1) i = zej (aK a i) (zeV a i (aF a i)) (zeV a i (aS a i)) from if_neg k, zeV_st ac (aF a i) (by omega) i (aF a i + 1) (by omega) (by omega), zeV_st ac (aS a i) (by omega) i (aS a i + 1) (by omega) (by omega)]
theorem zev_b {a : Nat → Nat} (hv : zV a) : ∀ i, i < a 8 → zE (127 - aP a i) (160 + aP a i) (zev a i) := by
  intro i
  induction i using Nat.strongRecOn with
  | ind i ih =>
    intro hi
    have b := zNet_b hv.2.2.1 hi hv.2.1
    rcases hv.2.2.1 i hi with ⟨n1, n2, n3, n4, n5⟩ | ⟨n1, n2, n3, n4, n5⟩
    · have bb := (hv.1 _ n2).1
      rw [zev_0 n1]
      exact zE_w (zE_i2f (by rw [nI_toInt (by omega)]; omega)) (by omega) (by omega)
    · have b1 := zNet_b hv.2.2.1 (i := aF a i) (by omega) hv.2.1
      have b2 := zNet_b hv.2.2.1 (i := aS a i) (by omega) hv.2.1
      rw [zev_1 (zAc_net hv) hi (by omega), n4]
      exact (zej_b (by omega) (by omega) (by omega) (ih _ n2 (by omega)) (ih _ n3 (by omega))).1
theorem fx_shortW {a : Nat → Nat} {len : Nat} {kd so ohms spread : Nat → Int32} {sd : Int32} (k : Int32 → (Nat → UInt32) → Option (UInt32 × Int32 × Int32 × (Nat → Int32) × (Nat → Int32) × (Nat → Int32) × (Nat → UInt32))) (hv : zV a) (hb : zXb a ohms spread) (hlen : len ≤ 23) : ∀ i, i < a 8 → ∀ (h off fu : Nat) (arr : Nat → UInt32), h + aP a i ≤ 12 → off + (apo a i).length ≤ len → (apo a i).length < fu → zAr kd (fun x => nI (aK a x)) off (apo a i) → zAr so (fun x => nI (aF a x)) off (apo a i) → ∃ arr', fX4_floatOf_L10 k ohms spread (nI 0) (nI len) kd so fu (nI h) (nI off) sd arr = fX4_floatOf_L10 k ohms spread (nI 0) (nI len) kd so (fu - (apo a i).length) (nI (h + 1)) (nI (off + (apo a i).length)) sd arr' ∧ arr' h = zev a i ∧ ∀ q, q < h → arr' q = arr q := by
  intro i
  induction i using Nat.strongRecOn with
  | ind i ih =>
    intro hi h off fu arr hp hoff hfu ak as
    have b := zNet_b hv.2.2.1 hi hv.2.1
    rcases hv.2.2.1 i hi with ⟨n1, n2, n3, n4, n5⟩ | ⟨n1, n2, n3, n4, n5⟩
    · have e : apo a i = [i] := zpo_0 n1
      rw [e] at hoff hfu ak as ⊢
      obtain ⟨k1, _⟩ := ak
      obtain ⟨k2, _⟩ := as
      have k1 : kd off = nI (aK a i) := k1
      have k2 : so off = nI (aF a i) := k2
      simp only [List.length_singleton] at hoff hfu ⊢
      obtain ⟨fu, rfl⟩ : ∃ f, fu = f + 1 := ⟨fu - 1, by omega⟩
      have g := hb.1 _ n2
      refine ⟨vf_upd arr h (FP.i2f (nI (a (aF a i)))), ?_, by rw [zupf_eq rfl, zev_0 n1], fun q hq => zupf_ne (by omega)⟩
      rw [n1] at k1
      rw [fX4_floatOf_L10_s]
      simp (disch := omega) only [zl_0, zl_1, zl_2, zl_3, zl_4, zl_5, zl_6, zl_8, zl_9, zl_11, zl_12, zl_13, zl_16, zl_20, zl_23, zl_24, zl_30, zl_32, zl_40, zl_41, zl_43, zl_45, zl_50, zl_52, zl_60, zl_97, zl_99, zl_100, zl_124, zl_126, zl_127, zl_169, zl_170, zl_171, zl_195, zl_200, zl_201, zl_256, zl_261, zl_999, zl_1100, zl_1884, zl_4095, zl_4096, zd1, zd2, zs1, nI_add, pk_mul, zsb, zad1, zad2, zcl, zgI, zif_le, zif_nle, zif_lt, zif_nlt, zif_eq, zif_ne, zif_self, zif_T, zif_F, Nat.zero_add, Nat.add_sub_cancel, zn21, zn31, zif_m1, zif_m1l, zif_m1n, zif_pm, zb1_k, zb2_k, zb3_k, zb4_k, zb5_k, zb6_k, zb7_k, zb8_k, zb9_k, zb10_k, zb11_k, zb12_k, zb14_k, zb21_k, zb22_k, zupd_eq, zupd_ne, zupl_eq, zupl_ne, zupf_eq, zupf_ne, k1, k2, g, fX4_floatOf_J86]
    · have ac := zAc_net hv
      have b1 := zNet_b hv.2.2.1 (i := aF a i) (by omega) hv.2.1
      have b2 := zNet_b hv.2.2.1 (i := aS a i) (by omega) hv.2.1
      have e : apo a i = apo a (aF a i) ++ apo a (aS a i) ++ [i] := zpo_1 ac hi (by omega)
      rw [e] at hoff hfu ak as ⊢
      have l : (apo a (aF a i) ++ apo a (aS a i) ++ [i]).length = (apo a (aF a i)).length + (apo a (aS a i)).length + 1 := by simp only [List.length_append, List.length_singleton]
      rw [l] at hoff hfu ⊢
      obtain ⟨r1, f1, f2, f3⟩ := ih _ n2 (by omega) h off fu arr (by omega) (by omega) (by omega) (zAr_l (zAr_l ak)) (zAr_l (zAr_l as))
      obtain ⟨r2, g1, g2, g3⟩ := ih _ n3 (by omega) (h + 1) (off + (apo a (aF a i)).length) (fu - (apo a (aF a i)).length) r1 (by omega) (by omega) (by omega) (zAr_r (zAr_l ak)) (zAr_r (zAr_l as))
      have k1 := zAr_r ak
      rw [List.length_append] at k1
      have k1 : kd (off + ((apo a (aF a i)).length + (apo a (aS a i)).length)) = nI (aK a i) := k1.1
      obtain ⟨_, s1, s2, s3, s4, s5⟩ := zej_b (kk := aK a i) b1.2.2.2.2 b2.2.2.2.2 (by omega) (zev_b hv (aF a i) (by omega)) (zev_b hv (aS a i) (by omega))
      have r2h : r2 h = zev a (aF a i) := (g3 h (by omega)).trans f2
      refine ⟨vf_upd r2 h (zej (aK a i) (zev a (aF a i)) (zev a (aS a i))), ?_, by rw [zupf_eq rfl, zev_1 ac hi (by omega)], fun q hq => by rw [zupf_ne (by omega), g3 q (by omega), f3 q hq]⟩
      rw [f1, g1]
      rw [← r2h, ← g2] at s1 s4 s5 ⊢
      rw [← r2h] at s2
      rw [← g2] at s3
      rw [show off + (apo a (aF a i)).length + (apo a (aS a i)).length = off + ((apo a (aF a i)).length + (apo a (aS a i)).length) by omega, show off + ((apo a (aF a i)).length + (apo a (aS a i)).length + 1) = off + ((apo a (aF a i)).length + (apo a (aS a i)).length) + 1 by omega]
      obtain ⟨w, hw⟩ : ∃ w, (apo a (aF a i)).length + (apo a (aS a i)).length = w := ⟨_, rfl⟩
      rw [hw] at k1 ⊢
      obtain ⟨fu2, e2⟩ : ∃ f, fu - (apo a (aF a i)).length - (apo a (aS a i)).length = f + 1 := ⟨fu - (apo a (aF a i)).length - (apo a (aS a i)).length - 1, by omega⟩
      rw [e2, show fu - (w + 1) = fu2 by omega, fX4_floatOf_L10_s]
      rcases n1 with n1 | n1
      · rw [n1] at k1 ⊢
        simp (disch := omega) only [zl_0, zl_1, zl_2, zl_3, zl_4, zl_5, zl_6, zl_8, zl_9, zl_11, zl_12, zl_13, zl_16, zl_20, zl_23, zl_24, zl_30, zl_32, zl_40, zl_41, zl_43, zl_45, zl_50, zl_52, zl_60, zl_97, zl_99, zl_100, zl_124, zl_126, zl_127, zl_169, zl_170, zl_171, zl_195, zl_200, zl_201, zl_256, zl_261, zl_999, zl_1100, zl_1884, zl_4095, zl_4096, zd1, zd2, zs1, nI_add, pk_mul, zsb, zad1, zad2, zcl, zgI, zif_le, zif_nle, zif_lt, zif_nlt, zif_eq, zif_ne, zif_self, zif_T, zif_F, Nat.zero_add, Nat.add_sub_cancel, zn21, zn31, zif_m1, zif_m1l, zif_m1n, zif_pm, zb1_k, zb2_k, zb3_k, zb4_k, zb5_k, zb6_k, zb7_k, zb8_k, zb9_k, zb10_k, zb11_k, zb12_k, zb14_k, zb21_k, zb22_k, zupd_eq, zupd_ne, zupl_eq, zupl_ne, zupf_eq, zupf_ne, k1, fX4_floatOf_J93, fX4_floatOf_J151, zpT s1]
        rfl
      · rw [n1] at k1 ⊢
        simp (disch := omega) only [zl_0, zl_1, zl_2, zl_3, zl_4, zl_5, zl_6, zl_8, zl_9, zl_11, zl_12, zl_13, zl_16, zl_20, zl_23, zl_24, zl_30, zl_32, zl_40, zl_41, zl_43, zl_45, zl_50, zl_52, zl_60, zl_97, zl_99, zl_100, zl_124, zl_126, zl_127, zl_169, zl_170, zl_171, zl_195, zl_200, zl_201, zl_256, zl_261, zl_999, zl_1100, zl_1884, zl_4095, zl_4096, zd1, zd2, zs1, nI_add, pk_mul, zsb, zad1, zad2, zcl, zgI, zif_le, zif_nle, zif_lt, zif_nlt, zif_eq, zif_ne, zif_self, zif_T, zif_F, Nat.zero_add, Nat.add_sub_cancel, zn21, zn31, zif_m1, zif_m1l, zif_m1n, zif_pm, zb1_k, zb2_k, zb3_k, zb4_k, zb5_k, zb6_k, zb7_k, zb8_k, zb9_k, zb10_k, zb11_k, zb12_k, zb14_k, zb21_k, zb22_k, zupd_eq, zupd_ne, zupl_eq, zupl_ne, zupf_eq, zupf_ne, k1, fX4_floatOf_J93, fX4_floatOf_J151, zpT s2, zpT s3, zpT s4, zpT s5]
        rfl
