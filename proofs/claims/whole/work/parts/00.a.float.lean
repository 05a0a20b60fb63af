/-! floating point: bounds in bits, positive numbers -/
theorem zfp_pos {f : FP.Core.Fmt} (hf : FP.Core.Good f) {x : Nat} (hx : x < FP.Core.infBits f) : ∃ c q, FP.Core.decode f x = .fin false c q ∧ FP.Core.fits f (.fin false c q) ∧ FP.Core.zmag f (.fin false c q) = FP.Core.unitsOf f x := by
  have hh := FP.Core.infBits_lt f
  have hm : FP.Core.mag f x = x := FP.Core.mag_of_lt (by omega)
  obtain ⟨s, c, q, h1, h2, h3⟩ := FP.Core.fin_of_mag hf (n := x) (by rw [hm]; exact hx)
  have hs := FP.Core.sgn_decode (f := f) (n := x) (by rw [hm]; omega) (by omega)
  rw [h1, decide_eq_false (show ¬ FP.Core.half f ≤ x by omega)] at hs
  have hs : s = false := hs
  subst hs
  rw [hm] at h3
  exact ⟨c, q, h1, h2, h3⟩
theorem zfp_res {f : FP.Core.Fmt} (hf : FP.Core.Good f) {n A B : Nat} {e : Int} (hn : FP.Core.decode f n = FP.Core.roundRatio f false A B e) (h2 : n < 2 * FP.Core.half f) : n ≤ FP.Core.infBits f ∧ FP.Core.mag f n = n := by
  have hh := FP.Core.infBits_lt f
  have h1 : FP.Core.mag f n ≤ FP.Core.infBits f := Nat.le_of_not_lt fun h1 => FP.Core.roundRatio_ne_nan f false A B e (hn ▸ (FP.Core.decode_nan n).mpr h1)
  have hs := FP.Core.sgn_decode (f := f) h1 h2
  rw [hn, FP.Core.sgn_roundRatio] at hs
  have hl : n < FP.Core.half f := by
    by_cases q : FP.Core.half f ≤ n
    · rw [decide_eq_true q] at hs; cases hs
    · omega
  have hm : FP.Core.mag f n = n := FP.Core.mag_of_lt hl
  rw [hm] at h1
  exact ⟨h1, hm⟩
theorem zfp_enc {f : FP.Core.Fmt} (hf : FP.Core.Good f) {d : FP.Core.Datum} (h : FP.Core.fits f d) : FP.Core.encode f d < 2 * FP.Core.half f := by
  have := FP.Core.encode_lt hf d h
  rw [Nat.mul_assoc] at this
  exact this
theorem zfp_add {f : FP.Core.Fmt} (hf : FP.Core.Good f) {x y : Nat} (hx : x < FP.Core.infBits f) (hy : y < FP.Core.infBits f) (px : 0 < x) : FP.Core.add f x y ≤ FP.Core.infBits f ∧ (∀ m, FP.Core.unitsOf f x + FP.Core.unitsOf f y ≤ FP.Core.unitsOf f m → FP.Core.add f x y ≤ m) ∧ ∀ m, m ≤ FP.Core.infBits f → FP.Core.unitsOf f m ≤ FP.Core.unitsOf f x + FP.Core.unitsOf f y → m ≤ FP.Core.add f x y := by
  obtain ⟨c, q, x1, x2, x3⟩ := zfp_pos hf hx
  obtain ⟨d, r, y1, y2, y3⟩ := zfp_pos hf hy
  obtain ⟨sg, v, e, p1, p2, p3⟩ := FP.Core.sum_units x2 y2
  have ux : 0 < FP.Core.unitsOf f x := by
    rcases Nat.eq_zero_or_pos (FP.Core.unitsOf f x) with z | z
    · have := FP.Core.unitsOf_eq_zero.mp z; omega
    · exact z
  have zx : FP.Core.zval f (.fin false c q) = (FP.Core.unitsOf f x : Int) := by rw [← x3]; rfl
  have zy : FP.Core.zval f (.fin false d r) = (FP.Core.unitsOf f y : Int) := by rw [← y3]; rfl
  rw [zx, zy] at p3
  have hs : sg = false := by
    cases sg with
    | false => rfl
    | true =>
      have : -((FP.Core.inUnits v e f.qmin : Nat) : Int) = (FP.Core.unitsOf f x : Int) + (FP.Core.unitsOf f y : Int) := p3
      omega
  subst hs
  have p3 : ((FP.Core.inUnits v e f.qmin : Nat) : Int) = (FP.Core.unitsOf f x : Int) + (FP.Core.unitsOf f y : Int) := p3
  have p4 : FP.Core.inUnits v e f.qmin = FP.Core.unitsOf f x + FP.Core.unitsOf f y := by omega
  have hd : FP.Core.decode f (FP.Core.add f x y) = FP.Core.roundRatio f false v 1 e := by
    unfold FP.Core.add
    rw [FP.Core.decode_enc hf (FP.Core.round_fits hf _), x1, y1, p1]
    rfl
  obtain ⟨r1, r2⟩ := zfp_res hf hd (zfp_enc hf (FP.Core.round_fits hf _))
  refine ⟨r1, fun m hm => ?_, fun m hI hm => ?_⟩
  · have := FP.Core.mag_le hf hd (by decide) (e0 := f.qmin) (by omega) p2 (m := m) (by rw [p4, Int.sub_self, Int.toNat_zero, Nat.pow_zero, Nat.mul_one, Nat.mul_one]; exact hm)
    rw [r2] at this
    exact this
  · have := FP.Core.mag_ge hf hd (by decide) (e0 := f.qmin) (by omega) p2 (m := m) hI (by rw [p4, Int.sub_self, Int.toNat_zero, Nat.pow_zero, Nat.mul_one, Nat.mul_one]; exact hm)
    rw [r2] at this
    exact this
theorem zfp_mul {f : FP.Core.Fmt} (hf : FP.Core.Good f) {x y : Nat} (hx : x < FP.Core.infBits f) (hy : y < FP.Core.infBits f) : FP.Core.mul f x y ≤ FP.Core.infBits f ∧ (∀ m, FP.Core.unitsOf f x * FP.Core.unitsOf f y ≤ FP.Core.unitsOf f m * 2 ^ (-f.qmin).toNat → FP.Core.mul f x y ≤ m) ∧ ∀ m, m ≤ FP.Core.infBits f → FP.Core.unitsOf f m * 2 ^ (-f.qmin).toNat ≤ FP.Core.unitsOf f x * FP.Core.unitsOf f y → m ≤ FP.Core.mul f x y := by
  obtain ⟨c, q, x1, x2, x3⟩ := zfp_pos hf hx
  obtain ⟨d, r, y1, y2, y3⟩ := zfp_pos hf hy
  obtain ⟨p1, p2, p3⟩ := FP.Core.product_units x2 y2
  have hq := FP.Core.qmin_neg hf
  have hd : FP.Core.decode f (FP.Core.mul f x y) = FP.Core.roundRatio f false (c * d) 1 (q + r) := by
    unfold FP.Core.mul
    rw [FP.Core.decode_enc hf (FP.Core.round_fits hf _), x1, y1, p1]
    rfl
  rw [x3, y3] at p3
  have e2 : f.qmin - 2 * f.qmin = -f.qmin := by omega
  obtain ⟨r1, r2⟩ := zfp_res hf hd (zfp_enc hf (FP.Core.round_fits hf _))
  refine ⟨r1, fun m hm => ?_, fun m hI hm => ?_⟩
  · have := FP.Core.mag_le hf hd (by decide) (e0 := 2 * f.qmin) (by omega) p2 (m := m) (by rw [p3, e2, Nat.mul_one]; exact hm)
    rw [r2] at this
    exact this
  · have := FP.Core.mag_ge hf hd (by decide) (e0 := 2 * f.qmin) (by omega) p2 (m := m) hI (by rw [p3, e2, Nat.mul_one]; exact hm)
    rw [r2] at this
    exact this
theorem zfp_div {f : FP.Core.Fmt} (hf : FP.Core.Good f) {x y : Nat} (hx : x < FP.Core.infBits f) (hy : y < FP.Core.infBits f) (py : 0 < y) : FP.Core.div f x y ≤ FP.Core.infBits f ∧ (∀ m, FP.Core.unitsOf f x * 2 ^ (-f.qmin).toNat ≤ FP.Core.unitsOf f m * FP.Core.unitsOf f y → FP.Core.div f x y ≤ m) ∧ ∀ m, m ≤ FP.Core.infBits f → FP.Core.unitsOf f m * FP.Core.unitsOf f y ≤ FP.Core.unitsOf f x * 2 ^ (-f.qmin).toNat → m ≤ FP.Core.div f x y := by
  obtain ⟨c, q, x1, x2, x3⟩ := zfp_pos hf hx
  obtain ⟨d, r, y1, y2, y3⟩ := zfp_pos hf hy
  have hq := FP.Core.qmin_neg hf
  have uy : 0 < FP.Core.unitsOf f y := by
    rcases Nat.eq_zero_or_pos (FP.Core.unitsOf f y) with z | z
    · have := FP.Core.unitsOf_eq_zero.mp z; omega
    · exact z
  have hd0 : d ≠ 0 := by
    intro z
    subst z
    have : FP.Core.zmag f (.fin false 0 r) = 0 := Nat.zero_mul _
    omega
  have hd : FP.Core.decode f (FP.Core.div f x y) = FP.Core.roundRatio f false c d (q - r) := by
    unfold FP.Core.div
    rw [FP.Core.decode_enc hf (FP.Core.quotient_fits hf _ _), x1, y1]
    simp only [FP.Core.quotient, if_neg hd0]
    rfl
  have hx1 := x2.2.1
  have hy1 := y2.2.1
  have e1 : FP.Core.inUnits c (q - r) (2 * f.qmin - r) = FP.Core.zmag f (.fin false c q) * 2 ^ (-f.qmin).toNat := by
    show c * _ = c * _ * _
    rw [Nat.mul_assoc, ← Nat.pow_add]
    congr 2
    omega
  have e2 : 2 ^ (f.qmin - (2 * f.qmin - r)).toNat * d = FP.Core.zmag f (.fin false d r) := by
    show _ = d * _
    rw [Nat.mul_comm]
    congr 2
    omega
  rw [x3] at e1
  rw [y3] at e2
  obtain ⟨r1, r2⟩ := zfp_res hf hd (zfp_enc hf (FP.Core.quotient_fits hf _ _))
  refine ⟨r1, fun m hm => ?_, fun m hI hm => ?_⟩
  · have := FP.Core.mag_le hf hd (by omega) (e0 := 2 * f.qmin - r) (by omega) (by omega) (m := m) (by rw [e1, Nat.mul_assoc, e2]; exact hm)
    rw [r2] at this
    exact this
  · have := FP.Core.mag_ge hf hd (by omega) (e0 := 2 * f.qmin - r) (by omega) (by omega) (m := m) hI (by rw [e1, Nat.mul_assoc, e2]; exact hm)
    rw [r2] at this
    exact this
/-- one block on: twice as much -/
theorem zfp_up {f : FP.Core.Fmt} {b : Nat} (h : f.tails ≤ b) : FP.Core.unitsOf f (b + f.tails) = 2 * FP.Core.unitsOf f b := by
  have ht := FP.Core.tails_pos f
  unfold FP.Core.unitsOf
  rw [if_neg (by omega), if_neg (by omega), Nat.add_mod_right, Nat.add_div_right _ ht]
  have h1 : 1 ≤ b / f.tails := (Nat.le_div_iff_mul_le ht).mpr (by omega)
  rw [show (b / f.tails).succ - 1 = (b / f.tails - 1) + 1 by omega, Nat.pow_succ, ← Nat.mul_assoc, Nat.mul_comm _ 2]
