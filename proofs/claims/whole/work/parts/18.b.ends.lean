/-! ends: a net's value as a double -/
theorem zAr_l {α β : Type} {w : Nat → α} {g : β → α} : ∀ {L : List β} {o : Nat} {M : List β}, zAr w g o (L ++ M) → zAr w g o L
  | [], _, _, _ => trivial
  | _ :: _, _, _, h => ⟨h.1, zAr_l h.2⟩
theorem zAr_r {α β : Type} {w : Nat → α} {g : β → α} : ∀ {L : List β} {o : Nat} {M : List β}, zAr w g o (L ++ M) → zAr w g (o + L.length) M
  | [], _, _, h => h
  | x :: r, o, M, h => by
    have := zAr_r h.2
    rw [show o + (x :: r).length = o + 1 + r.length by simp only [List.length_cons]; omega]
    exact this
def zep (a : Nat → Nat) (how s : Nat) : UInt64 := if how = 0 then FP.ddiv (FP.i2d (nI (a s * (100 - a (4 + s))))) (4636737291354636288 : UInt64) else if how = 1 then FP.ddiv (FP.i2d (nI (a s * (100 + a (4 + s))))) (4636737291354636288 : UInt64) else FP.i2d (nI (a s))
theorem zep_b {a : Nat → Nat} (hb : zBox a) {how s : Nat} (hs : s < 4) (hp : 0 < a s) : zD 1016 1056 (zep a how s) := by
  have b := hb s hs
  have m1 : a s * (100 - a (4 + s)) ≤ 99 * 150 := Nat.mul_le_mul b.1 (by omega)
  have m2 : a s * (100 + a (4 + s)) ≤ 99 * 150 := Nat.mul_le_mul b.1 (by omega)
  have p1 : 0 < a s * (100 - a (4 + s)) := Nat.mul_pos hp (by omega)
  have p2 : 0 < a s * (100 + a (4 + s)) := Nat.mul_pos hp (by omega)
  unfold zep
  split
  · exact zD_w (zD_end (by rw [nI_toInt (by omega)]; omega)) (by omega) (by omega)
  · split
    · exact zD_w (zD_end (by rw [nI_toInt (by omega)]; omega)) (by omega) (by omega)
    · exact zD_w (zD_i2d (by rw [nI_toInt (by omega)]; omega)) (by omega) (by omega)
theorem fx_endPart {a : Nat → Nat} {ohms spread : Nat → Int32} (hx : zXb a ohms spread) (hb : zBox a) {how s : Nat} (hh : how ≤ 2) (hs : s < 4) (hp : 0 < a s) : fX4_endOfPart (nI s) (nI how) ohms spread = some (zep a how s) := by
  have b := hb s hs
  have e := zep_b hb (how := how) hs hp
  have h1 := hx.1 s hs
  have h2 := hx.2 s hs
  have f := zD_fin e (by omega)
  unfold fX4_endOfPart
  rcases (show how = 0 ∨ how = 1 ∨ how = 2 by omega) with rfl | rfl | rfl
  · have f : FP.ddiv (FP.i2d (nI (a s * (100 - a (4 + s))))) (4636737291354636288 : UInt64) &&& 0x7fffffffffffffff ≤ 0x7ff0000000000000 := f
    simp (disch := omega) only [zl_0, zl_1, zl_2, zl_3, zl_4, zl_5, zl_6, zl_8, zl_9, zl_11, zl_12, zl_13, zl_16, zl_20, zl_23, zl_24, zl_30, zl_32, zl_40, zl_41, zl_43, zl_45, zl_50, zl_52, zl_60, zl_97, zl_99, zl_100, zl_124, zl_126, zl_127, zl_169, zl_170, zl_171, zl_195, zl_200, zl_201, zl_256, zl_261, zl_999, zl_1100, zl_1884, zl_4095, zl_4096, zd1, zd2, zs1, nI_add, pk_mul, zsb, zad1, zad2, zcl, zgI, zif_le, zif_nle, zif_lt, zif_nlt, zif_eq, zif_ne, zif_self, zif_T, zif_F, Nat.zero_add, Nat.add_sub_cancel, zn21, zn31, zif_m1, zif_m1l, zif_m1n, zif_pm, zb1_k, zb2_k, zb3_k, zb4_k, zb5_k, zb6_k, zb7_k, zb8_k, zb9_k, zb10_k, zb11_k, zb12_k, zb14_k, zb21_k, zb22_k, zupd_eq, zupd_ne, zupl_eq, zupl_ne, zupf_eq, zupf_ne, h1, h2, zpT f]
    rfl
  · have f : FP.ddiv (FP.i2d (nI (a s * (100 + a (4 + s))))) (4636737291354636288 : UInt64) &&& 0x7fffffffffffffff ≤ 0x7ff0000000000000 := f
    simp (disch := omega) only [zl_0, zl_1, zl_2, zl_3, zl_4, zl_5, zl_6, zl_8, zl_9, zl_11, zl_12, zl_13, zl_16, zl_20, zl_23, zl_24, zl_30, zl_32, zl_40, zl_41, zl_43, zl_45, zl_50, zl_52, zl_60, zl_97, zl_99, zl_100, zl_124, zl_126, zl_127, zl_169, zl_170, zl_171, zl_195, zl_200, zl_201, zl_256, zl_261, zl_999, zl_1100, zl_1884, zl_4095, zl_4096, zd1, zd2, zs1, nI_add, pk_mul, zsb, zad1, zad2, zcl, zgI, zif_le, zif_nle, zif_lt, zif_nlt, zif_eq, zif_ne, zif_self, zif_T, zif_F, Nat.zero_add, Nat.add_sub_cancel, zn21, zn31, zif_m1, zif_m1l, zif_m1n, zif_pm, zb1_k, zb2_k, zb3_k, zb4_k, zb5_k, zb6_k, zb7_k, zb8_k, zb9_k, zb10_k, zb11_k, zb12_k, zb14_k, zb21_k, zb22_k, zupd_eq, zupd_ne, zupl_eq, zupl_ne, zupf_eq, zupf_ne, h1, h2, zpT f]
    rfl
  · simp (disch := omega) only [zl_0, zl_1, zl_2, zl_3, zl_4, zl_5, zl_6, zl_8, zl_9, zl_11, zl_12, zl_13, zl_16, zl_20, zl_23, zl_24, zl_30, zl_32, zl_40, zl_41, zl_43, zl_45, zl_50, zl_52, zl_60, zl_97, zl_99, zl_100, zl_124, zl_126, zl_127, zl_169, zl_170, zl_171, zl_195, zl_200, zl_201, zl_256, zl_261, zl_999, zl_1100, zl_1884, zl_4095, zl_4096, zd1, zd2, zs1, nI_add, pk_mul, zsb, zad1, zad2, zcl, zgI, zif_le, zif_nle, zif_lt, zif_nlt, zif_eq, zif_ne, zif_self, zif_T, zif_F, Nat.zero_add, Nat.add_sub_cancel, zn21, zn31, zif_m1, zif_m1l, zif_m1n, zif_pm, zb1_k, zb2_k, zb3_k, zb4_k, zb5_k, zb6_k, zb7_k, zb8_k, zb9_k, zb10_k, zb11_k, zb12_k, zb14_k, zb21_k, zb22_k, zupd_eq, zupd_ne, zupl_eq, zupl_ne, zupf_eq, zupf_ne, h1, h2]
    rfl
theorem fm_endPart {a : Nat → Nat} {now : Nat → Int32} (hm : zMn a now) (hb : zBox a) {how s : Nat} (hh : how ≤ 2) (hs : s < 4) (hp : 0 < a s) : fX11_endOf (nI s) (nI how) now = some (zep a how s) := by
  have b := hb s hs
  have e := zep_b hb (how := how) hs hp
  have f := zD_fin e (by omega)
  unfold fX11_endOf
  rcases (show how = 0 ∨ how = 1 ∨ how = 2 by omega) with rfl | rfl | rfl
  · have f : FP.ddiv (FP.i2d (nI (a s * (100 - a (4 + s))))) (4636737291354636288 : UInt64) &&& 0x7fffffffffffffff ≤ 0x7ff0000000000000 := f
    simp (disch := omega) only [zl_0, zl_1, zl_2, zl_3, zl_4, zl_5, zl_6, zl_8, zl_9, zl_11, zl_12, zl_13, zl_16, zl_20, zl_23, zl_24, zl_30, zl_32, zl_40, zl_41, zl_43, zl_45, zl_50, zl_52, zl_60, zl_97, zl_99, zl_100, zl_124, zl_126, zl_127, zl_169, zl_170, zl_171, zl_195, zl_200, zl_201, zl_256, zl_261, zl_999, zl_1100, zl_1884, zl_4095, zl_4096, zd1, zd2, zs1, nI_add, pk_mul, zsb, zad1, zad2, zcl, zgI, zif_le, zif_nle, zif_lt, zif_nlt, zif_eq, zif_ne, zif_self, zif_T, zif_F, Nat.zero_add, Nat.add_sub_cancel, zn21, zn31, zif_m1, zif_m1l, zif_m1n, zif_pm, zb1_k, zb2_k, zb3_k, zb4_k, zb5_k, zb6_k, zb7_k, zb8_k, zb9_k, zb10_k, zb11_k, zb12_k, zb14_k, zb21_k, zb22_k, zupd_eq, zupd_ne, zupl_eq, zupl_ne, zupf_eq, zupf_ne, hm.1, zpT f]
    rfl
  · have f : FP.ddiv (FP.i2d (nI (a s * (100 + a (4 + s))))) (4636737291354636288 : UInt64) &&& 0x7fffffffffffffff ≤ 0x7ff0000000000000 := f
    simp (disch := omega) only [zl_0, zl_1, zl_2, zl_3, zl_4, zl_5, zl_6, zl_8, zl_9, zl_11, zl_12, zl_13, zl_16, zl_20, zl_23, zl_24, zl_30, zl_32, zl_40, zl_41, zl_43, zl_45, zl_50, zl_52, zl_60, zl_97, zl_99, zl_100, zl_124, zl_126, zl_127, zl_169, zl_170, zl_171, zl_195, zl_200, zl_201, zl_256, zl_261, zl_999, zl_1100, zl_1884, zl_4095, zl_4096, zd1, zd2, zs1, nI_add, pk_mul, zsb, zad1, zad2, zcl, zgI, zif_le, zif_nle, zif_lt, zif_nlt, zif_eq, zif_ne, zif_self, zif_T, zif_F, Nat.zero_add, Nat.add_sub_cancel, zn21, zn31, zif_m1, zif_m1l, zif_m1n, zif_pm, zb1_k, zb2_k, zb3_k, zb4_k, zb5_k, zb6_k, zb7_k, zb8_k, zb9_k, zb10_k, zb11_k, zb12_k, zb14_k, zb21_k, zb22_k, zupd_eq, zupd_ne, zupl_eq, zupl_ne, zupf_eq, zupf_ne, hm.1, zpT f]
    rfl
  · simp (disch := omega) only [zl_0, zl_1, zl_2, zl_3, zl_4, zl_5, zl_6, zl_8, zl_9, zl_11, zl_12, zl_13, zl_16, zl_20, zl_23, zl_24, zl_30, zl_32, zl_40, zl_41, zl_43, zl_45, zl_50, zl_52, zl_60, zl_97, zl_99, zl_100, zl_124, zl_126, zl_127, zl_169, zl_170, zl_171, zl_195, zl_200, zl_201, zl_256, zl_261, zl_999, zl_1100, zl_1884, zl_4095, zl_4096, zd1, zd2, zs1, nI_add, pk_mul, zsb, zad1, zad2, zcl, zgI, zif_le, zif_nle, zif_lt, zif_nlt, zif_eq, zif_ne, zif_self, zif_T, zif_F, Nat.zero_add, Nat.add_sub_cancel, zn21, zn31, zif_m1, zif_m1l, zif_m1n, zif_pm, zb1_k, zb2_k, zb3_k, zb4_k, zb5_k, zb6_k, zb7_k, zb8_k, zb9_k, zb10_k, zb11_k, zb12_k, zb14_k, zb21_k, zb22_k, zupd_eq, zupd_ne, zupl_eq, zupl_ne, zupf_eq, zupf_ne, hm.1]
    rfl
def zdj (kk : Nat) (x y : UInt64) : UInt64 := if kk = 1 then FP.dadd x y else FP.ddiv (FP.dmul x y) (FP.dadd x y)
def zdV (a : Nat → Nat) (how : Nat) : Nat → Nat → UInt64
  | 0, _ => 0
  | f + 1, i => if aK a i = 0 then zep a how (aF a i) else zdj (aK a i) (zdV a how f (aF a i)) (zdV a how f (aS a i))
def zdv (a : Nat → Nat) (how i : Nat) : UInt64 := zdV a how (i + 1) i
theorem zdV_st {a : Nat → Nat} {how : Nat} (ac : zAc (aK a) (aF a) (aS a) (a 8)) : ∀ i, i < a 8 → ∀ f g, i < f → i < g → zdV a how f i = zdV a how g i := by
  intro i
  induction i using Nat.strongRecOn with
  | ind i ih =>
    intro hi f g hf hg
    obtain ⟨f, rfl⟩ : ∃ x, f = x + 1 := ⟨f - 1, by omega⟩
    obtain ⟨g, rfl⟩ : ∃ x, g = x + 1 := ⟨g - 1, by omega⟩
    unfold zdV
    by_cases k : aK a i = 0
    · rw [if_pos k, if_pos k]
    · have h := ac i hi k
      rw [if_neg k, if_neg k, ih _ h.1 (by omega) f g (by omega) (by omega), ih _ h.2 (by omega) f g (by omega) (by omega)]
theorem zdv_0 {a : Nat → Nat} {how i : Nat} (k : aK a i = 0) : zdv a how i = zep a how (aF a i) := if_pos k
theorem zdv_1 {a : Nat → Nat} {how i : Nat} (ac : zAc (aK a) (aF a) (aS a) (a 8)) (hi : i < a 8) (k : aK a i ≠ 0) : zdv a how i = zdj (aK a i) (zdv a how (aF a i)) (zdv a how (aS a i)) := by
  have h := ac i hi k
  unfold zdv
  rw [show zdV a how (i + 1) i = zdj (aK a i) (zdV a how i (aF a i)) (zdV a how i (aS a i)) from if_neg k, zdV_st ac (aF a i) (by omega) i (aF a i + 1) (by omega) (by omega), zdV_st ac (aS a i) (by omega) i (aS a i + 1) (by omega) (by omega)]
/-- bounds: a net of p parts -/
theorem zdj_b {kk p q : Nat} {x y : UInt64} (hp : 1 ≤ p) (hq : 1 ≤ q) (hpq : p + q ≤ 12) (hx : zD (1019 - 3 * p) (1053 + 3 * p) x) (hy : zD (1019 - 3 * q) (1053 + 3 * q) y) : zD (1019 - 3 * (p + q)) (1053 + 3 * (p + q)) (zdj kk x y) ∧ FP.dadd x y &&& 0x7fffffffffffffff ≤ 0x7ff0000000000000 ∧ FP.dmul x y &&& 0x7fffffffffffffff ≤ 0x7ff0000000000000 ∧ FP.ddiv (FP.dmul x y) (FP.dadd x y) &&& 0x7fffffffffffffff ≤ 0x7ff0000000000000 := by
  have x' : zD (1022 - 3 * (p + q)) (1050 + 3 * (p + q)) x := zD_w hx (by omega) (by omega)
  have y' : zD (1022 - 3 * (p + q)) (1050 + 3 * (p + q)) y := zD_w hy (by omega) (by omega)
  have s := zD_add x' y' (by omega) (by omega) (by omega)
  have m := zD_mulB x' y' (by omega) (by omega) (by omega)
  have r := zD_par x' y' (by omega) (by omega)
  refine ⟨?_, zD_fin s (by omega), zD_fin m (by omega), zD_fin r (by omega)⟩
  unfold zdj
  split
  · exact zD_w s (by omega) (by omega)
  · exact zD_w r (by omega) (by omega)
theorem zdv_b {a : Nat → Nat} {how : Nat} (hv : zV a) : ∀ i, i < a 8 → zD (1019 - 3 * aP a i) (1053 + 3 * aP a i) (zdv a how i) := by
  intro i
  induction i using Nat.strongRecOn with
  | ind i ih =>
    intro hi
    have b := zNet_b hv.2.2.1 hi hv.2.1
    rcases hv.2.2.1 i hi with ⟨n1, n2, n3, n4, n5⟩ | ⟨n1, n2, n3, n4, n5⟩
    · rw [zdv_0 n1]
      exact zD_w (zep_b hv.1 n2 n5) (by omega) (by omega)
    · have b1 := zNet_b hv.2.2.1 (i := aF a i) (by omega) hv.2.1
      have b2 := zNet_b hv.2.2.1 (i := aS a i) (by omega) hv.2.1
      rw [zdv_1 (zAc_net hv) hi (by omega), n4]
      exact (zdj_b (by omega) (by omega) (by omega) (ih _ n2 (by omega)) (ih _ n3 (by omega))).1
/-- the class's stack: one net's walk puts its value on it -/
theorem fx_endW {a : Nat → Nat} {how len : Nat} {kd so ohms spread : Nat → Int32} (k : (Nat → UInt64) → Option (UInt64 × Int32 × (Nat → Int32) × (Nat → Int32) × (Nat → Int32) × (Nat → UInt64))) (hv : zV a) (hb : zXb a ohms spread) (hh : how ≤ 2) (hlen : len ≤ 23) : ∀ i, i < a 8 → ∀ (h off fu : Nat) (arr : Nat → UInt64), h + aP a i ≤ 12 → off + (apo a i).length ≤ len → (apo a i).length < fu → zAr kd (fun x => nI (aK a x)) off (apo a i) → zAr so (fun x => nI (aF a x)) off (apo a i) → ∃ arr', fX4_endOf_L10 k ohms spread (nI how) (nI len) kd so fu (nI h) (nI off) arr = fX4_endOf_L10 k ohms spread (nI how) (nI len) kd so (fu - (apo a i).length) (nI (h + 1)) (nI (off + (apo a i).length)) arr' ∧ arr' h = zdv a how i ∧ ∀ q, q < h → arr' q = arr q := by
  intro i
  induction i using Nat.strongRecOn with
  | ind i ih =>
    intro hi h off fu arr hp hoff hfu ak as
    have b := zNet_b hv.2.2.1 hi hv.2.1
    rcases hv.2.2.1 i hi with ⟨n1, n2, n3, n4, n5⟩ | ⟨n1, n2, n3, n4, n5⟩
    · have e : apo a i = [i] := zpo_0 n1
      rw [e] at hoff hfu ak as ⊢
      obtain ⟨k1, _⟩ := ak
      obtain ⟨k2, _⟩ := as
      have k1 : kd off = nI (aK a i) := k1
      have k2 : so off = nI (aF a i) := k2
      simp only [List.length_singleton] at hoff hfu ⊢
      obtain ⟨fu, rfl⟩ : ∃ f, fu = f + 1 := ⟨fu - 1, by omega⟩
      have g := fx_endPart hb hv.1 hh n2 n5
      refine ⟨vf_upd arr h (zep a how (aF a i)), ?_, by rw [zupf_eq rfl, zdv_0 n1], fun q hq => zupf_ne (by omega)⟩
      rw [n1] at k1
      rw [fX4_endOf_L10_s]
      simp (disch := omega) only [zl_0, zl_1, zl_2, zl_3, zl_4, zl_5, zl_6, zl_8, zl_9, zl_11, zl_12, zl_13, zl_16, zl_20, zl_23, zl_24, zl_30, zl_32, zl_40, zl_41, zl_43, zl_45, zl_50, zl_52, zl_60, zl_97, zl_99, zl_100, zl_124, zl_126, zl_127, zl_169, zl_170, zl_171, zl_195, zl_200, zl_201, zl_256, zl_261, zl_999, zl_1100, zl_1884, zl_4095, zl_4096, zd1, zd2, zs1, nI_add, pk_mul, zsb, zad1, zad2, zcl, zgI, zif_le, zif_nle, zif_lt, zif_nlt, zif_eq, zif_ne, zif_self, zif_T, zif_F, Nat.zero_add, Nat.add_sub_cancel, zn21, zn31, zif_m1, zif_m1l, zif_m1n, zif_pm, zb1_k, zb2_k, zb3_k, zb4_k, zb5_k, zb6_k, zb7_k, zb8_k, zb9_k, zb10_k, zb11_k, zb12_k, zb14_k, zb21_k, zb22_k, zupd_eq, zupd_ne, zupl_eq, zupl_ne, zupf_eq, zupf_ne, k1, k2, g]
    · have ac := zAc_net hv
      have b1 := zNet_b hv.2.2.1 (i := aF a i) (by omega) hv.2.1
      have b2 := zNet_b hv.2.2.1 (i := aS a i) (by omega) hv.2.1
      have e : apo a i = apo a (aF a i) ++ apo a (aS a i) ++ [i] := zpo_1 ac hi (by omega)
      rw [e] at hoff hfu ak as ⊢
      have l : (apo a (aF a i) ++ apo a (aS a i) ++ [i]).length = (apo a (aF a i)).length + (apo a (aS a i)).length + 1 := by simp only [List.length_append, List.length_singleton]
      rw [l] at hoff hfu ⊢
      obtain ⟨r1, f1, f2, f3⟩ := ih _ n2 (by omega) h off fu arr (by omega) (by omega) (by omega) (zAr_l (zAr_l ak)) (zAr_l (zAr_l as))
      obtain ⟨r2, g1, g2, g3⟩ := ih _ n3 (by omega) (h + 1) (off + (apo a (aF a i)).length) (fu - (apo a (aF a i)).length) r1 (by omega) (by omega) (by omega) (zAr_r (zAr_l ak)) (zAr_r (zAr_l as))
      have k1 := zAr_r ak
      rw [List.length_append] at k1
      have k1 : kd (off + ((apo a (aF a i)).length + (apo a (aS a i)).length)) = nI (aK a i) := k1.1
      have vx := zdv_b (how := how) hv (aF a i) (by omega)
      have vy := zdv_b (how := how) hv (aS a i) (by omega)
      obtain ⟨_, s1, s2, s3⟩ := zdj_b (kk := aK a i) b1.2.2.2.2 b2.2.2.2.2 (by omega) vx vy
      have r2h : r2 h = zdv a how (aF a i) := (g3 h (by omega)).trans f2
      refine ⟨vf_upd r2 h (zdj (aK a i) (zdv a how (aF a i)) (zdv a how (aS a i))), ?_, by rw [zupf_eq rfl, zdv_1 ac hi (by omega)], fun q hq => by rw [zupf_ne (by omega), g3 q (by omega), f3 q hq]⟩
      rw [f1, g1]
      rw [← r2h, ← g2] at s1 s2 s3 ⊢
      rw [show off + (apo a (aF a i)).length + (apo a (aS a i)).length = off + ((apo a (aF a i)).length + (apo a (aS a i)).length) by omega, show off + ((apo a (aF a i)).length + (apo a (aS a i)).length + 1) = off + ((apo a (aF a i)).length + (apo a (aS a i)).length) + 1 by omega]
      obtain ⟨w, hw⟩ : ∃ w, (apo a (aF a i)).length + (apo a (aS a i)).length = w := ⟨_, rfl⟩
      rw [hw] at k1 ⊢
      obtain ⟨fu2, e2⟩ : ∃ f, fu - (apo a (aF a i)).length - (apo a (aS a i)).length = f + 1 := ⟨fu - (apo a (aF a i)).length - (apo a (aS a i)).length - 1, by omega⟩
      rw [e2, show fu - (w + 1) = fu2 by omega, fX4_endOf_L10_s]
      rcases n1 with n1 | n1
      · rw [n1] at k1 ⊢
        simp (disch := omega) only [zl_0, zl_1, zl_2, zl_3, zl_4, zl_5, zl_6, zl_8, zl_9, zl_11, zl_12, zl_13, zl_16, zl_20, zl_23, zl_24, zl_30, zl_32, zl_40, zl_41, zl_43, zl_45, zl_50, zl_52, zl_60, zl_97, zl_99, zl_100, zl_124, zl_126, zl_127, zl_169, zl_170, zl_171, zl_195, zl_200, zl_201, zl_256, zl_261, zl_999, zl_1100, zl_1884, zl_4095, zl_4096, zd1, zd2, zs1, nI_add, pk_mul, zsb, zad1, zad2, zcl, zgI, zif_le, zif_nle, zif_lt, zif_nlt, zif_eq, zif_ne, zif_self, zif_T, zif_F, Nat.zero_add, Nat.add_sub_cancel, zn21, zn31, zif_m1, zif_m1l, zif_m1n, zif_pm, zb1_k, zb2_k, zb3_k, zb4_k, zb5_k, zb6_k, zb7_k, zb8_k, zb9_k, zb10_k, zb11_k, zb12_k, zb14_k, zb21_k, zb22_k, zupd_eq, zupd_ne, zupl_eq, zupl_ne, zupf_eq, zupf_ne, k1, fX4_endOf_J72, fX4_endOf_J130, zpT s1]
        rfl
      · rw [n1] at k1 ⊢
        simp (disch := omega) only [zl_0, zl_1, zl_2, zl_3, zl_4, zl_5, zl_6, zl_8, zl_9, zl_11, zl_12, zl_13, zl_16, zl_20, zl_23, zl_24, zl_30, zl_32, zl_40, zl_41, zl_43, zl_45, zl_50, zl_52, zl_60, zl_97, zl_99, zl_100, zl_124, zl_126, zl_127, zl_169, zl_170, zl_171, zl_195, zl_200, zl_201, zl_256, zl_261, zl_999, zl_1100, zl_1884, zl_4095, zl_4096, zd1, zd2, zs1, nI_add, pk_mul, zsb, zad1, zad2, zcl, zgI, zif_le, zif_nle, zif_lt, zif_nlt, zif_eq, zif_ne, zif_self, zif_T, zif_F, Nat.zero_add, Nat.add_sub_cancel, zn21, zn31, zif_m1, zif_m1l, zif_m1n, zif_pm, zb1_k, zb2_k, zb3_k, zb4_k, zb5_k, zb6_k, zb7_k, zb8_k, zb9_k, zb10_k, zb11_k, zb12_k, zb14_k, zb21_k, zb22_k, zupd_eq, zupd_ne, zupl_eq, zupl_ne, zupf_eq, zupf_ne, k1, fX4_endOf_J72, fX4_endOf_J130, zpT s1, zpT s2, zpT s3]
        rfl
