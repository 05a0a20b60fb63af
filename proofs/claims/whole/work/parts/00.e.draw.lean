/-! a part's drawn value: signs -/
theorem zfs_mag {f : FP.Core.Fmt} (hf : FP.Core.Good f) {n A B : Nat} {s : Bool} {e : Int} (hn : FP.Core.decode f n = FP.Core.roundRatio f s A B e) : FP.Core.mag f n ≤ FP.Core.infBits f := Nat.le_of_not_lt fun h1 => FP.Core.roundRatio_ne_nan f s A B e (hn ▸ (FP.Core.decode_nan n).mpr h1)
theorem zfs_mul {f : FP.Core.Fmt} (hf : FP.Core.Good f) {x y m : Nat} (hx : FP.Core.mag f x < FP.Core.infBits f) (hy : FP.Core.mag f y < FP.Core.infBits f) (h : FP.Core.unitsOf f (FP.Core.mag f x) * FP.Core.unitsOf f (FP.Core.mag f y) ≤ FP.Core.unitsOf f m * 2 ^ (-f.qmin).toNat) : FP.Core.mag f (FP.Core.mul f x y) ≤ m := by
  obtain ⟨s, c, q, x1, x2, x3⟩ := FP.Core.fin_of_mag hf hx
  obtain ⟨t, d, r, y1, y2, y3⟩ := FP.Core.fin_of_mag hf hy
  obtain ⟨p1, p2, p3⟩ := FP.Core.product_units x2 y2
  have hq := FP.Core.qmin_neg hf
  have hd : FP.Core.decode f (FP.Core.mul f x y) = FP.Core.roundRatio f (s != t) (c * d) 1 (q + r) := by
    unfold FP.Core.mul
    rw [FP.Core.decode_enc hf (FP.Core.round_fits hf _), x1, y1, p1]
    rfl
  rw [x3, y3] at p3
  have e2 : f.qmin - 2 * f.qmin = -f.qmin := by omega
  exact FP.Core.mag_le hf hd (by decide) (e0 := 2 * f.qmin) (by omega) p2 (m := m) (by rw [p3, e2, Nat.mul_one]; exact h)
theorem zfs_div {f : FP.Core.Fmt} (hf : FP.Core.Good f) {x y m : Nat} (hx : FP.Core.mag f x < FP.Core.infBits f) (hy : FP.Core.mag f y < FP.Core.infBits f) (py : 0 < FP.Core.mag f y) (h : FP.Core.unitsOf f (FP.Core.mag f x) * 2 ^ (-f.qmin).toNat ≤ FP.Core.unitsOf f m * FP.Core.unitsOf f (FP.Core.mag f y)) : FP.Core.mag f (FP.Core.div f x y) ≤ m := by
  obtain ⟨s, c, q, x1, x2, x3⟩ := FP.Core.fin_of_mag hf hx
  obtain ⟨t, d, r, y1, y2, y3⟩ := FP.Core.fin_of_mag hf hy
  have hq := FP.Core.qmin_neg hf
  have uy : 0 < FP.Core.unitsOf f (FP.Core.mag f y) := by
    rcases Nat.eq_zero_or_pos (FP.Core.unitsOf f (FP.Core.mag f y)) with z | z
    · have := FP.Core.unitsOf_eq_zero.mp z; omega
    · exact z
  have hd0 : d ≠ 0 := by
    intro z
    subst z
    have : FP.Core.zmag f (.fin t 0 r) = 0 := Nat.zero_mul _
    omega
  have hd : FP.Core.decode f (FP.Core.div f x y) = FP.Core.roundRatio f (s != t) c d (q - r) := by
    unfold FP.Core.div
    rw [FP.Core.decode_enc hf (FP.Core.quotient_fits hf _ _), x1, y1]
    simp only [FP.Core.quotient, if_neg hd0]
  have hx1 := x2.2.1
  have hy1 := y2.2.1
  have e1 : FP.Core.inUnits c (q - r) (2 * f.qmin - r) = FP.Core.zmag f (.fin s c q) * 2 ^ (-f.qmin).toNat := by
    show c * _ = c * _ * _
    rw [Nat.mul_assoc, ← Nat.pow_add]
    congr 2
    omega
  have e2 : 2 ^ (f.qmin - (2 * f.qmin - r)).toNat * d = FP.Core.zmag f (.fin t d r) := by
    show _ = d * _
    rw [Nat.mul_comm]
    congr 2
    omega
  rw [x3] at e1
  rw [y3] at e2
  exact FP.Core.mag_le hf hd (by omega) (e0 := 2 * f.qmin - r) (by omega) (by omega) (m := m) (by rw [e1, Nat.mul_assoc, e2]; exact h)
theorem zfs_add {f : FP.Core.Fmt} (hf : FP.Core.Good f) {x y : Nat} (hx : x < FP.Core.infBits f) (px : 0 < x) (hy : FP.Core.mag f y < FP.Core.infBits f) (h : 2 * FP.Core.unitsOf f (FP.Core.mag f y) ≤ FP.Core.unitsOf f x) : (∀ m, 3 * FP.Core.unitsOf f x ≤ 2 * FP.Core.unitsOf f m → FP.Core.add f x y ≤ m) ∧ ∀ m, m ≤ FP.Core.infBits f → 2 * FP.Core.unitsOf f m ≤ FP.Core.unitsOf f x → m ≤ FP.Core.add f x y := by
  obtain ⟨c, q, x1, x2, x3⟩ := zfp_pos hf hx
  obtain ⟨t, d, r, y1, y2, y3⟩ := FP.Core.fin_of_mag hf hy
  obtain ⟨sg, v, e, p1, p2, p3⟩ := FP.Core.sum_units x2 y2
  have ux : 0 < FP.Core.unitsOf f x := by
    rcases Nat.eq_zero_or_pos (FP.Core.unitsOf f x) with z | z
    · have := FP.Core.unitsOf_eq_zero.mp z; omega
    · exact z
  have zx : FP.Core.zval f (.fin false c q) = (FP.Core.unitsOf f x : Int) := by rw [← x3]; rfl
  have zy : FP.Core.zval f (.fin t d r) = (FP.Core.unitsOf f (FP.Core.mag f y) : Int) ∨ FP.Core.zval f (.fin t d r) = -(FP.Core.unitsOf f (FP.Core.mag f y) : Int) := by
    rw [← y3]
    cases t
    · exact Or.inl rfl
    · exact Or.inr rfl
  rw [zx] at p3
  have hs : sg = false := by
    cases sg with
    | false => rfl
    | true =>
      have : -((FP.Core.inUnits v e f.qmin : Nat) : Int) = (FP.Core.unitsOf f x : Int) + FP.Core.zval f (.fin t d r) := p3
      omega
  subst hs
  have p3 : ((FP.Core.inUnits v e f.qmin : Nat) : Int) = (FP.Core.unitsOf f x : Int) + FP.Core.zval f (.fin t d r) := p3
  have hd : FP.Core.decode f (FP.Core.add f x y) = FP.Core.roundRatio f false v 1 e := by
    unfold FP.Core.add
    rw [FP.Core.decode_enc hf (FP.Core.round_fits hf _), x1, y1, p1]
    rfl
  obtain ⟨r1, r2⟩ := zfp_res hf hd (zfp_enc hf (FP.Core.round_fits hf _))
  refine ⟨fun m hm => ?_, fun m hI hm => ?_⟩
  · have := FP.Core.mag_le hf hd (by decide) (e0 := f.qmin) (by omega) p2 (m := m) (by rw [Int.sub_self, Int.toNat_zero, Nat.pow_zero, Nat.mul_one, Nat.mul_one]; omega)
    rw [r2] at this
    exact this
  · have := FP.Core.mag_ge hf hd (by decide) (e0 := f.qmin) (by omega) p2 (m := m) hI (by rw [Int.sub_self, Int.toNat_zero, Nat.pow_zero, Nat.mul_one, Nat.mul_one]; omega)
    rw [r2] at this
    exact this
/-- a small whole number as a float: its size -/
theorem ze_whole {v : Int32} (h : v.toInt.natAbs < 16777216) : FP.Core.unitsOf FP.Core.b32 (FP.Core.mag FP.Core.b32 (FP.i2f v).toNat) = v.toInt.natAbs * 2 ^ (-FP.Core.b32.qmin).toNat ∧ FP.Core.mag FP.Core.b32 (FP.i2f v).toNat < FP.Core.infBits FP.Core.b32 := by
  have hd : FP.Core.decode FP.Core.b32 (FP.i2f v).toNat = FP.Core.roundRatio FP.Core.b32 (decide (v.toInt < 0)) v.toInt.natAbs 1 0 := FP.Core.val32_i2f v
  have hb : FP.Core.mag FP.Core.b32 (FP.i2f v).toNat < 160 * 2 ^ 23 := by
    rw [FP.Core.mag_toNat32]
    exact FP.Core.i2f_mag v
  have hI : FP.Core.mag FP.Core.b32 (FP.i2f v).toNat < FP.Core.infBits FP.Core.b32 := by rw [ze_I]; omega
  obtain ⟨m, m1, _⟩ := zfp_rep (f := FP.Core.b32) (-FP.Core.b32.qmin).toNat v.toInt.natAbs (by rw [ze_T]; omega)
  have iu : FP.Core.inUnits v.toInt.natAbs 0 FP.Core.b32.qmin = v.toInt.natAbs * 2 ^ (-FP.Core.b32.qmin).toNat := by
    unfold FP.Core.inUnits
    rw [Int.zero_sub]
  have q : (FP.Core.b32.qmin - FP.Core.b32.qmin).toNat = 0 := by rw [Int.sub_self]; rfl
  have qn : FP.Core.b32.qmin ≤ 0 := by decide
  have a := FP.Core.mag_le FP.Core.good_b32 hd (by decide) (e0 := FP.Core.b32.qmin) (Int.le_refl _) qn (m := m) (by rw [iu, q, Nat.pow_zero, Nat.mul_one, Nat.mul_one, m1]; exact Nat.le_refl _)
  have mI : m ≤ FP.Core.infBits FP.Core.b32 := by
    rcases Nat.lt_or_ge (FP.Core.infBits FP.Core.b32) m with z | z
    · exfalso
      have u := FP.Core.unitsOf_lt (f := FP.Core.b32) z
      rw [FP.Core.unitsOf_inf FP.Core.good_b32, m1, ze_T] at u
      have e : v.toInt.natAbs * 2 ^ (-FP.Core.b32.qmin).toNat ≤ 16777216 * 2 ^ (-FP.Core.b32.qmin).toNat := Nat.mul_le_mul_right _ (Nat.le_of_lt h)
      have k : 16777216 * 2 ^ (-FP.Core.b32.qmin).toNat ≤ 8388608 * 2 ^ (FP.Core.b32.exps - 2) := by decide +kernel
      omega
    · exact z
  have b := FP.Core.mag_ge FP.Core.good_b32 hd (by decide) (e0 := FP.Core.b32.qmin) (Int.le_refl _) qn (m := m) mI (by rw [iu, q, Nat.pow_zero, Nat.mul_one, Nat.mul_one, m1]; exact Nat.le_refl _)
  have e : FP.Core.mag FP.Core.b32 (FP.i2f v).toNat = m := Nat.le_antisymm a b
  exact ⟨by rw [e, m1], hI⟩
theorem ze_P : (-FP.Core.b32.qmin).toNat = 149 := by decide
theorem ze_10000 : FP.i2f 10000 = (1176256512 : UInt32) := by decide +kernel
theorem zE_draw {o n : Int32} (h1 : 1 ≤ o.toInt) (h2 : o.toInt ≤ 99) (h3 : n.toInt.natAbs ≤ 5000) : (FP.fmul (FP.i2f o) (FP.i2f n)) &&& 0x7fffffff ≤ 0x7f800000 ∧ (FP.fdiv (FP.fmul (FP.i2f o) (FP.i2f n)) (1176256512 : UInt32)) &&& 0x7fffffff ≤ 0x7f800000 ∧ zE 126 161 (FP.fadd (FP.i2f o) (FP.fdiv (FP.fmul (FP.i2f o) (FP.i2f n)) (1176256512 : UInt32))) := by
  have hx := zE_i2f (v := o) (by omega)
  unfold zE at hx
  obtain ⟨x1, x2⟩ := ze_whole (v := o) (by omega)
  obtain ⟨y1, y2⟩ := ze_whole (v := n) (by omega)
  obtain ⟨k1, k2⟩ := ze_whole (v := 10000) (by decide)
  have k3 : (10000 : Int32).toInt.natAbs = 10000 := by decide
  rw [k3] at k1
  rw [ze_10000] at k1 k2
  have hm : FP.Core.mag FP.Core.b32 (FP.i2f o).toNat = (FP.i2f o).toNat := by
    rw [FP.Core.mag_toNat32]
    exact Nat.mod_eq_of_lt (by omega)
  have e1 := ze_mul (FP.i2f o) (FP.i2f n)
  have e2 := ze_div (FP.fmul (FP.i2f o) (FP.i2f n)) (1176256512 : UInt32)
  have e3 := ze_add (FP.i2f o) (FP.fdiv (FP.fmul (FP.i2f o) (FP.i2f n)) (1176256512 : UInt32))
  generalize hX : FP.i2f o = X at *
  generalize hN : FP.i2f n = N at *
  generalize hF : FP.fmul X N = M at *
  generalize hV : FP.fdiv M (1176256512 : UInt32) = Y at *
  generalize hR : FP.fadd X Y = R at *
  have on : o.toInt.natAbs * n.toInt.natAbs ≤ 99 * 5000 := Nat.mul_le_mul (by omega) h3
  obtain ⟨m, m1, _⟩ := zfp_rep (f := FP.Core.b32) (-FP.Core.b32.qmin).toNat (o.toInt.natAbs * n.toInt.natAbs) (by rw [ze_T]; omega)
  have a1 := zfs_mul FP.Core.good_b32 (m := m) x2 y2 (by rw [x1, y1, m1, Nat.mul_mul_mul_comm, Nat.mul_assoc (o.toInt.natAbs * n.toInt.natAbs)]; exact Nat.le_refl _)
  rw [← e1] at a1
  have mB : m ≤ 150 * FP.Core.b32.tails := by
    rw [← FP.Core.unitsOf_le_iff (f := FP.Core.b32), m1, FP.Core.unitsOf_start (by decide), ze_P]
    exact Nat.mul_le_mul_right _ (by rw [ze_T]; omega)
  rw [ze_T] at mB
  have a2 : FP.Core.mag FP.Core.b32 M.toNat < FP.Core.infBits FP.Core.b32 := by rw [ze_I]; omega
  -- half of the part
  have up := zfp_up (f := FP.Core.b32) (b := X.toNat - FP.Core.b32.tails) (by rw [ze_T]; omega)
  rw [Nat.sub_add_cancel (by rw [ze_T]; omega)] at up
  have up2 := zfp_up (f := FP.Core.b32) (b := X.toNat) (by rw [ze_T]; omega)
  rw [hm] at x1 x2
  have u1 := zfb_le (f := FP.Core.b32) a1
  rw [m1] at u1
  have u2 : o.toInt.natAbs * n.toInt.natAbs * 2 ^ (-FP.Core.b32.qmin).toNat ≤ o.toInt.natAbs * 5000 * 2 ^ (-FP.Core.b32.qmin).toNat := Nat.mul_le_mul_right _ (Nat.mul_le_mul_left _ h3)
  have u3 : o.toInt.natAbs * 5000 * 2 ^ (-FP.Core.b32.qmin).toNat = 5000 * (o.toInt.natAbs * 2 ^ (-FP.Core.b32.qmin).toNat) := by
    rw [Nat.mul_comm o.toInt.natAbs 5000, Nat.mul_assoc]
  rw [← x1] at u3
  have u4 : FP.Core.unitsOf FP.Core.b32 (FP.Core.mag FP.Core.b32 M.toNat) ≤ 10000 * FP.Core.unitsOf FP.Core.b32 (X.toNat - FP.Core.b32.tails) := by omega
  have b1 := zfs_div FP.Core.good_b32 (m := X.toNat - FP.Core.b32.tails) a2 k2 (by rw [FP.Core.mag_toNat32]; decide) (by
    rw [k1, ← Nat.mul_assoc, Nat.mul_comm _ 10000]
    exact Nat.mul_le_mul_right _ u4)
  rw [← e2] at b1
  have b2 : FP.Core.mag FP.Core.b32 Y.toNat < FP.Core.infBits FP.Core.b32 := by rw [ze_I]; omega
  have u5 := zfb_le (f := FP.Core.b32) b1
  obtain ⟨c1, c2⟩ := zfs_add FP.Core.good_b32 x2 (by omega) b2 (by omega)
  have d1 := c1 (X.toNat + FP.Core.b32.tails) (by omega)
  have d2 := c2 (X.toNat - FP.Core.b32.tails) (by rw [ze_I]; omega) (by omega)
  rw [← e3, ze_T] at d1 d2
  refine ⟨?_, ?_, ⟨by omega, by omega⟩⟩
  · rw [UInt32.le_iff_toNat_le, FP.Core.mask_toNat32]
    have e : (0x7f800000 : UInt32).toNat = 2139095040 := by decide
    rw [FP.Core.mag_toNat32, ze_I] at a2
    rw [e]
    omega
  · rw [UInt32.le_iff_toNat_le, FP.Core.mask_toNat32]
    have e : (0x7f800000 : UInt32).toNat = 2139095040 := by decide
    rw [FP.Core.mag_toNat32, ze_I] at b2
    rw [e]
    omega
