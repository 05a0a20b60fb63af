/-! bounds by powers of two -/
theorem zfb_S {f : FP.Core.Fmt} {a b : Nat} (ha : 1 ≤ a) (hb : 1 ≤ b) : FP.Core.unitsOf f (a * f.tails) * FP.Core.unitsOf f (b * f.tails) = f.tails * f.tails * 2 ^ (a + b - 2) := by
  rw [FP.Core.unitsOf_start ha, FP.Core.unitsOf_start hb, Nat.mul_mul_mul_comm, ← Nat.pow_add]
  congr 2
  omega
theorem zfb_P {f : FP.Core.Fmt} (hf : FP.Core.Good f) {a : Nat} (ha : 1 ≤ a) : FP.Core.unitsOf f (a * f.tails) * 2 ^ (-f.qmin).toNat = f.tails * f.tails * 2 ^ (a + f.emax - 2) := by
  rw [← zfp_P hf, zfb_S ha (FP.Core.emax_pos hf)]
theorem zfb_le {f : FP.Core.Fmt} {x y : Nat} (h : x ≤ y) : FP.Core.unitsOf f x ≤ FP.Core.unitsOf f y := FP.Core.unitsOf_le_iff.mpr h
theorem zfb_I {f : FP.Core.Fmt} (hf : FP.Core.Good f) {K x : Nat} (h : x ≤ K * f.tails) (hK : K ≤ 2 * f.emax) : x < FP.Core.infBits f := by
  rw [zfp_I hf]
  exact Nat.lt_of_le_of_lt h (Nat.mul_lt_mul_of_pos_right (by omega) (FP.Core.tails_pos f))
theorem zfb_I2 {f : FP.Core.Fmt} (hf : FP.Core.Good f) {K : Nat} (hK : K ≤ 2 * f.emax + 1) : K * f.tails ≤ FP.Core.infBits f := by
  rw [zfp_I hf]
  exact Nat.mul_le_mul_right _ hK
theorem zfb_pos {f : FP.Core.Fmt} {L x : Nat} (hL : 1 ≤ L) (h : L * f.tails ≤ x) : 0 < x := by
  have := Nat.mul_pos hL (FP.Core.tails_pos f)
  omega
theorem zfb_add {f : FP.Core.Fmt} (hf : FP.Core.Good f) {x y L K : Nat} (px : 0 < x) (hx : x ≤ K * f.tails) (hy : y ≤ K * f.tails) (h : L * f.tails ≤ x ∨ L * f.tails ≤ y) (hL : 1 ≤ L) (hK : 1 ≤ K) (hKI : K ≤ 2 * f.emax) (hLI : L ≤ K) : L * f.tails ≤ FP.Core.add f x y ∧ FP.Core.add f x y ≤ (K + 1) * f.tails := by
  have ht := FP.Core.tails_pos f
  obtain ⟨_, a, b⟩ := zfp_add hf (zfb_I hf hx hKI) (zfb_I hf hy hKI) px
  refine ⟨b _ (zfb_I2 hf (by omega)) ?_, a _ ?_⟩
  · rcases h with h | h
    · have := zfb_le (f := f) h; omega
    · have := zfb_le (f := f) h; omega
  · have e : (K + 1) * f.tails = K * f.tails + f.tails := by rw [Nat.add_mul, Nat.one_mul]
    rw [e, zfp_up (Nat.le_mul_of_pos_left _ hK)]
    have := zfb_le (f := f) hx
    have := zfb_le (f := f) hy
    omega
theorem zfb_mul {f : FP.Core.Fmt} (hf : FP.Core.Good f) {x y L1 K1 L2 K2 : Nat} (h1 : L1 * f.tails ≤ x) (h2 : x ≤ K1 * f.tails) (h3 : L2 * f.tails ≤ y) (h4 : y ≤ K2 * f.tails) (g1 : 1 ≤ L1) (g2 : 1 ≤ L2) (g3 : L1 ≤ K1) (g4 : L2 ≤ K2) (g5 : K1 ≤ 2 * f.emax) (g6 : K2 ≤ 2 * f.emax) (g7 : f.emax + 1 ≤ L1 + L2) (g8 : K1 + K2 ≤ 3 * f.emax + 1) : (L1 + L2 - f.emax) * f.tails ≤ FP.Core.mul f x y ∧ FP.Core.mul f x y ≤ (K1 + K2 - f.emax) * f.tails := by
  obtain ⟨_, a, b⟩ := zfp_mul hf (zfb_I hf h2 g5) (zfb_I hf h4 g6)
  refine ⟨b _ (zfb_I2 hf (by omega)) ?_, a _ ?_⟩
  · have m := Nat.mul_le_mul (zfb_le (f := f) h1) (zfb_le (f := f) h3)
    rw [zfb_S g1 g2] at m
    rw [zfb_P hf (by omega), show L1 + L2 - f.emax + f.emax - 2 = L1 + L2 - 2 by omega]
    exact m
  · have m := Nat.mul_le_mul (zfb_le (f := f) h2) (zfb_le (f := f) h4)
    rw [zfb_S (by omega) (by omega)] at m
    rw [zfb_P hf (by omega), show K1 + K2 - f.emax + f.emax - 2 = K1 + K2 - 2 by omega]
    exact m
theorem zfb_div {f : FP.Core.Fmt} (hf : FP.Core.Good f) {x y L1 K1 L2 K2 : Nat} (h1 : L1 * f.tails ≤ x) (h2 : x ≤ K1 * f.tails) (h3 : L2 * f.tails ≤ y) (h4 : y ≤ K2 * f.tails) (g1 : 1 ≤ L1) (g2 : 1 ≤ L2) (g3 : L1 ≤ K1) (g4 : L2 ≤ K2) (g5 : K1 ≤ 2 * f.emax) (g6 : K2 ≤ 2 * f.emax) (g7 : K2 + 1 ≤ L1 + f.emax) (g8 : K1 + f.emax ≤ 2 * f.emax + 1 + L2) : (L1 + f.emax - K2) * f.tails ≤ FP.Core.div f x y ∧ FP.Core.div f x y ≤ (K1 + f.emax - L2) * f.tails := by
  obtain ⟨_, a, b⟩ := zfp_div hf (zfb_I hf h2 g5) (zfb_I hf h4 g6) (zfb_pos g2 h3)
  refine ⟨b _ (zfb_I2 hf (by omega)) ?_, a _ ?_⟩
  · refine Nat.le_trans (Nat.mul_le_mul_left _ (zfb_le (f := f) h4)) (Nat.le_trans ?_ (Nat.mul_le_mul_right _ (zfb_le (f := f) h1)))
    rw [zfb_S (by omega) (by omega), zfb_P hf g1, show L1 + f.emax - K2 + K2 - 2 = L1 + f.emax - 2 by omega]
    exact Nat.le_refl _
  · refine Nat.le_trans (Nat.mul_le_mul_right _ (zfb_le (f := f) h2)) (Nat.le_trans ?_ (Nat.mul_le_mul_left _ (zfb_le (f := f) h3)))
    rw [zfb_P hf (by omega), zfb_S (by omega) (by omega), show K1 + f.emax - L2 + L2 - 2 = K1 + f.emax - 2 by omega]
    exact Nat.le_refl _
/-- a double, a float, between two powers of two -/
def zD (L K : Nat) (x : UInt64) : Prop := L * 4503599627370496 ≤ x.toNat ∧ x.toNat ≤ K * 4503599627370496
def zE (L K : Nat) (x : UInt32) : Prop := L * 8388608 ≤ x.toNat ∧ x.toNat ≤ K * 8388608
theorem zD_w {L K L' K' : Nat} {x : UInt64} (h : zD L K x) (hL : L' ≤ L) (hK : K ≤ K') : zD L' K' x := ⟨Nat.le_trans (Nat.mul_le_mul_right _ hL) h.1, Nat.le_trans h.2 (Nat.mul_le_mul_right _ hK)⟩
theorem zE_w {L K L' K' : Nat} {x : UInt32} (h : zE L K x) (hL : L' ≤ L) (hK : K ≤ K') : zE L' K' x := ⟨Nat.le_trans (Nat.mul_le_mul_right _ hL) h.1, Nat.le_trans h.2 (Nat.mul_le_mul_right _ hK)⟩
theorem zD_fin {L K : Nat} {x : UInt64} (h : zD L K x) (hK : K ≤ 2047) : x &&& 0x7fffffffffffffff ≤ 0x7ff0000000000000 := zd_fin (by have := h.2; omega)
theorem zE_fin {L K : Nat} {x : UInt32} (h : zE L K x) (hK : K ≤ 255) : x &&& 0x7fffffff ≤ 0x7f800000 := ze_fin (by have := h.2; omega)
theorem zD_add {L K : Nat} {x y : UInt64} (hx : zD L K x) (hy : zD L K y) (hL : 1 ≤ L) (hLK : L ≤ K) (hK : K ≤ 2046) : zD L (K + 1) (FP.dadd x y) := by
  have := zfb_add FP.Core.good_b64 (x := x.toNat) (y := y.toNat) (L := L) (K := K) (zfb_pos hL (by rw [zd_T]; exact hx.1)) (by rw [zd_T]; exact hx.2) (by rw [zd_T]; exact hy.2) (Or.inl (by rw [zd_T]; exact hx.1)) hL (by omega) (by rw [zd_M]; omega) hLK
  rw [zd_T, ← zd_add] at this
  exact this
theorem zD_div {L1 K1 L2 K2 : Nat} {x y : UInt64} (hx : zD L1 K1 x) (hy : zD L2 K2 y) (g1 : 1 ≤ L1) (g2 : 1 ≤ L2) (g3 : L1 ≤ K1) (g4 : L2 ≤ K2) (g5 : K1 ≤ 2046) (g6 : K2 ≤ 2046) (g7 : K2 + 1 ≤ L1 + 1023) (g8 : K1 + 1023 ≤ 2047 + L2) : zD (L1 + 1023 - K2) (K1 + 1023 - L2) (FP.ddiv x y) := by
  have := zfb_div FP.Core.good_b64 (x := x.toNat) (y := y.toNat) (L1 := L1) (K1 := K1) (L2 := L2) (K2 := K2) (by rw [zd_T]; exact hx.1) (by rw [zd_T]; exact hx.2) (by rw [zd_T]; exact hy.1) (by rw [zd_T]; exact hy.2) g1 g2 g3 g4 (by rw [zd_M]; omega) (by rw [zd_M]; omega) (by rw [zd_M]; omega) (by rw [zd_M]; omega)
  rw [zd_T, zd_M, ← zd_div] at this
  exact this
theorem zD_mul {L1 K1 L2 K2 : Nat} {x y : UInt64} (hx : zD L1 K1 x) (hy : zD L2 K2 y) (g1 : 1 ≤ L1) (g2 : 1 ≤ L2) (g3 : L1 ≤ K1) (g4 : L2 ≤ K2) (g5 : K1 ≤ 2046) (g6 : K2 ≤ 2046) (g7 : 1024 ≤ L1 + L2) (g8 : K1 + K2 ≤ 3070) : zD (L1 + L2 - 1023) (K1 + K2 - 1023) (FP.dmul x y) := by
  have := zfb_mul FP.Core.good_b64 (x := x.toNat) (y := y.toNat) (L1 := L1) (K1 := K1) (L2 := L2) (K2 := K2) (by rw [zd_T]; exact hx.1) (by rw [zd_T]; exact hx.2) (by rw [zd_T]; exact hy.1) (by rw [zd_T]; exact hy.2) g1 g2 g3 g4 (by rw [zd_M]; omega) (by rw [zd_M]; omega) (by rw [zd_M]; omega) (by rw [zd_M]; omega)
  rw [zd_T, zd_M, ← zd_mul] at this
  exact this
theorem zE_add {L K : Nat} {x y : UInt32} (hx : zE L K x) (hy : zE L K y) (hL : 1 ≤ L) (hLK : L ≤ K) (hK : K ≤ 254) : zE L (K + 1) (FP.fadd x y) := by
  have := zfb_add FP.Core.good_b32 (x := x.toNat) (y := y.toNat) (L := L) (K := K) (zfb_pos hL (by rw [ze_T]; exact hx.1)) (by rw [ze_T]; exact hx.2) (by rw [ze_T]; exact hy.2) (Or.inl (by rw [ze_T]; exact hx.1)) hL (by omega) (by rw [ze_M]; omega) hLK
  rw [ze_T, ← ze_add] at this
  exact this
theorem zE_div {L1 K1 L2 K2 : Nat} {x y : UInt32} (hx : zE L1 K1 x) (hy : zE L2 K2 y) (g1 : 1 ≤ L1) (g2 : 1 ≤ L2) (g3 : L1 ≤ K1) (g4 : L2 ≤ K2) (g5 : K1 ≤ 254) (g6 : K2 ≤ 254) (g7 : K2 + 1 ≤ L1 + 127) (g8 : K1 + 127 ≤ 255 + L2) : zE (L1 + 127 - K2) (K1 + 127 - L2) (FP.fdiv x y) := by
  have := zfb_div FP.Core.good_b32 (x := x.toNat) (y := y.toNat) (L1 := L1) (K1 := K1) (L2 := L2) (K2 := K2) (by rw [ze_T]; exact hx.1) (by rw [ze_T]; exact hx.2) (by rw [ze_T]; exact hy.1) (by rw [ze_T]; exact hy.2) g1 g2 g3 g4 (by rw [ze_M]; omega) (by rw [ze_M]; omega) (by rw [ze_M]; omega) (by rw [ze_M]; omega)
  rw [ze_T, ze_M, ← ze_div] at this
  exact this
/-- side by side, as doubles -/
theorem zblk (n t : Nat) (ht : 0 < t) : ∃ i, n / t = i ∧ i * t ≤ n ∧ n ≤ (i + 1) * t := ⟨n / t, rfl, Nat.div_mul_le_self n t, Nat.le_of_lt ((Nat.div_lt_iff_lt_mul ht).mp (Nat.lt_succ_self _))⟩
theorem zD_par0 {L K : Nat} {x y : UInt64} (hx : zD L K x) (hy : zD L K y) (hxy : x.toNat ≤ y.toNat) (hL : 900 ≤ L) (hK : K ≤ 1100) : zD (L - 2) (K + 2) (FP.ddiv (FP.dmul x y) (FP.dadd x y)) := by
  unfold zD at hx hy
  obtain ⟨i, hi, i4, i5⟩ := zblk x.toNat 4503599627370496 (by decide)
  obtain ⟨j, hj, j4, j5⟩ := zblk y.toNat 4503599627370496 (by decide)
  have i2 : L ≤ i := by omega
  have i3 : i ≤ K := by omega
  have j2 : L ≤ j := by omega
  have j3 : j ≤ K := by omega
  have ij : i ≤ j := by omega
  have px : 0 < x.toNat := by omega
  have x5 : x.toNat ≤ (j + 1) * 4503599627370496 := Nat.le_trans hxy j5
  have i1 : zD i (i + 1) x := ⟨i4, i5⟩
  have j1 : zD j (j + 1) y := ⟨j4, j5⟩
  clear hi hj hx hy
  have s := zfb_add FP.Core.good_b64 (x := x.toNat) (y := y.toNat) (L := j) (K := j + 1) px (by rw [zd_T]; exact x5) (by rw [zd_T]; exact j5) (Or.inr (by rw [zd_T]; exact j4)) (by omega) (by omega) (by rw [zd_M]; omega) (by omega)
  rw [zd_T, ← zd_add] at s
  have m := zD_mul i1 j1 (by omega) (by omega) (by omega) (by omega) (by omega) (by omega) (by omega) (by omega)
  have e2 : j + 1 + 1 = j + 2 := by omega
  rw [e2] at s
  have s : zD j (j + 2) (FP.dadd x y) := by unfold zD; exact s
  have d := zD_div m s (by omega) (by omega) (by omega) (by omega) (by omega) (by omega) (by omega) (by omega)
  exact zD_w d (by omega) (by omega)
theorem zD_par {L K : Nat} {x y : UInt64} (hx : zD L K x) (hy : zD L K y) (hL : 900 ≤ L) (hK : K ≤ 1100) : zD (L - 2) (K + 2) (FP.ddiv (FP.dmul x y) (FP.dadd x y)) := by
  rcases Nat.le_total x.toNat y.toNat with h | h
  · exact zD_par0 hx hy h hL hK
  · have e1 : FP.dmul x y = FP.dmul y x := FP.Core.dmul_comm x y
    have e2 : FP.dadd x y = FP.dadd y x := FP.Core.dadd_comm x y
    rw [e1, e2]
    exact zD_par0 hy hx h hL hK
theorem zD_mulB {L K : Nat} {x y : UInt64} (hx : zD L K x) (hy : zD L K y) (hL : 900 ≤ L) (hLK : L ≤ K) (hK : K ≤ 1100) : zD (L + L - 1023) (K + K - 1023) (FP.dmul x y) := zD_mul hx hy (by omega) (by omega) hLK hLK (by omega) (by omega) (by omega) (by omega)
theorem zE_1 : zE 127 127 FP.fconst1 := by unfold zE; decide
theorem zE_inv {L K : Nat} {x : UInt32} (hx : zE L K x) (hL : 1 ≤ L) (hLK : L ≤ K) (hK : K ≤ 253) : zE (254 - K) (254 - L) (FP.fdiv FP.fconst1 x) := zE_w (zE_div zE_1 hx (by omega) hL (by omega) hLK (by omega) (by omega) (by omega) (by omega)) (by omega) (by omega)
theorem zE_par {L K : Nat} {x y : UInt32} (hx : zE L K x) (hy : zE L K y) (hL : 2 ≤ L) (hLK : L ≤ K) (hK : K ≤ 253) : zE (L - 1) K (FP.fdiv FP.fconst1 (FP.fadd (FP.fdiv FP.fconst1 x) (FP.fdiv FP.fconst1 y))) := by
  have a := zE_inv hx (by omega) hLK hK
  have b := zE_inv hy (by omega) hLK hK
  have s := zE_add a b (by omega) (by omega) (by omega)
  have r := zE_inv s (by omega) (by omega) (by omega)
  exact zE_w r (by omega) (by omega)
/-- the parts' own values -/
theorem zD_100 : zD 1029 1030 (4636737291354636288 : UInt64) := by unfold zD; decide
theorem zD_i2d {v : Int32} (h : 0 < v.toInt) : zD 1023 1056 (FP.i2d v) := by
  have a : 1023 * 2 ^ 52 ≤ (FP.i2d v).toNat % 2 ^ 63 ∧ (FP.i2d v).toNat % 2 ^ 63 < 2047 * 2 ^ 52 := FP.Core.i2d_big (v := v) (by omega)
  have b : (FP.i2d v).toNat % 2 ^ 63 < 1056 * 2 ^ 52 := FP.Core.i2d_mag v
  have c : FP.Core.sgn (FP.Core.val64 (FP.i2d v)) = false := by
    have e : FP.Core.val64 (FP.i2d v) = FP.Core.round FP.Core.b64 (FP.Core.ofInt v.toInt) := FP.Core.val64_i2d v
    rw [e]
    show FP.Core.sgn (FP.Core.roundRatio FP.Core.b64 (decide (v.toInt < 0)) v.toInt.natAbs 1 0) = false
    rw [FP.Core.sgn_roundRatio, decide_eq_false (by omega)]
  have d := FP.Core.sgn_bits (a := FP.i2d v) ((FP.Core.ne_nan _).mpr (by omega))
  rw [c] at d
  have l : (FP.i2d v).toNat < 2 ^ 63 := by
    by_cases q : 2 ^ 63 ≤ (FP.i2d v).toNat
    · rw [decide_eq_true q] at d; cases d
    · omega
  have m := Nat.mod_eq_of_lt l
  rw [m] at a b
  exact ⟨by omega, by omega⟩
theorem zD_end {v : Int32} (h : 0 < v.toInt) : zD 1016 1050 (FP.ddiv (FP.i2d v) (4636737291354636288 : UInt64)) := zD_w (zD_div (zD_i2d h) zD_100 (by omega) (by omega) (by omega) (by omega) (by omega) (by omega) (by omega) (by omega)) (by omega) (by omega)
theorem zE_i2f {v : Int32} (h : 0 < v.toInt) : zE 127 160 (FP.i2f v) := by
  have a : 127 * 2 ^ 23 ≤ (FP.i2f v).toNat % 2 ^ 31 ∧ (FP.i2f v).toNat % 2 ^ 31 < 255 * 2 ^ 23 := FP.Core.i2f_big (v := v) (by omega)
  have b : (FP.i2f v).toNat % 2 ^ 31 < 160 * 2 ^ 23 := FP.Core.i2f_mag v
  have c : FP.Core.sgn (FP.Core.val32 (FP.i2f v)) = false := by
    have e : FP.Core.val32 (FP.i2f v) = FP.Core.round FP.Core.b32 (FP.Core.ofInt v.toInt) := FP.Core.val32_i2f v
    rw [e]
    show FP.Core.sgn (FP.Core.roundRatio FP.Core.b32 (decide (v.toInt < 0)) v.toInt.natAbs 1 0) = false
    rw [FP.Core.sgn_roundRatio, decide_eq_false (by omega)]
  have d := FP.Core.sgn_bits32 (a := FP.i2f v) ((FP.Core.ne_nan32 _).mpr (by omega))
  rw [c] at d
  have l : (FP.i2f v).toNat < 2 ^ 31 := by
    by_cases q : 2 ^ 31 ≤ (FP.i2f v).toNat
    · rw [decide_eq_true q] at d; cases d
    · omega
  have m := Nat.mod_eq_of_lt l
  rw [m] at a b
  exact ⟨by omega, by omega⟩
