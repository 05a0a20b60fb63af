/-! halving, doubling, one taken away, scaled: exact -/
theorem zfp_P {f : FP.Core.Fmt} (hf : FP.Core.Good f) : FP.Core.unitsOf f (f.emax * f.tails) = 2 ^ (-f.qmin).toNat := by
  have h1 := FP.Core.emax_pos hf
  rw [FP.Core.unitsOf_start h1]
  unfold FP.Core.Fmt.tails FP.Core.Fmt.qmin
  rw [← Nat.pow_add]
  have := hf.2
  congr 1
  omega
theorem zfp_2P {f : FP.Core.Fmt} (hf : FP.Core.Good f) : FP.Core.unitsOf f ((f.emax + 1) * f.tails) = 2 * 2 ^ (-f.qmin).toNat := by
  have h1 := FP.Core.emax_pos hf
  have ht := FP.Core.tails_pos f
  rw [Nat.add_mul, Nat.one_mul, zfp_up (Nat.le_mul_of_pos_left _ h1), zfp_P hf]
theorem zfp_I {f : FP.Core.Fmt} (hf : FP.Core.Good f) : FP.Core.infBits f = (2 * f.emax + 1) * f.tails := by
  unfold FP.Core.infBits
  rw [FP.Core.emax_exps hf]
  rfl
theorem zfp_2I {f : FP.Core.Fmt} (hf : FP.Core.Good f) : (f.emax + 1) * f.tails < FP.Core.infBits f := by
  have h1 := FP.Core.emax_pos hf
  rw [zfp_I hf]
  exact Nat.mul_lt_mul_of_pos_right (by omega) (FP.Core.tails_pos f)
theorem zfp_half {f : FP.Core.Fmt} (hf : FP.Core.Good f) {x : Nat} (h1 : 2 * f.tails ≤ x) (h2 : x < FP.Core.infBits f) : FP.Core.div f x ((f.emax + 1) * f.tails) = x - f.tails := by
  have ht := FP.Core.tails_pos f
  have hp : 0 < (f.emax + 1) * f.tails := Nat.mul_pos (Nat.succ_pos _) ht
  obtain ⟨_, a, b⟩ := zfp_div hf h2 (zfp_2I hf) hp
  have e : FP.Core.unitsOf f x = 2 * FP.Core.unitsOf f (x - f.tails) := by
    rw [← zfp_up (show f.tails ≤ x - f.tails by omega), Nat.sub_add_cancel (by omega)]
  have q : FP.Core.unitsOf f x * 2 ^ (-f.qmin).toNat = FP.Core.unitsOf f (x - f.tails) * FP.Core.unitsOf f ((f.emax + 1) * f.tails) := by
    rw [e, zfp_2P hf, Nat.mul_comm 2, Nat.mul_assoc]
  exact Nat.le_antisymm (a _ (Nat.le_of_eq q)) (b _ (by omega) (Nat.le_of_eq q.symm))
theorem zfp_dbl {f : FP.Core.Fmt} (hf : FP.Core.Good f) {x : Nat} (h1 : f.tails ≤ x) (h2 : x + f.tails ≤ FP.Core.infBits f) : FP.Core.mul f x ((f.emax + 1) * f.tails) = x + f.tails := by
  have ht := FP.Core.tails_pos f
  obtain ⟨_, a, b⟩ := zfp_mul hf (x := x) (y := (f.emax + 1) * f.tails) (by omega) (zfp_2I hf)
  have q : FP.Core.unitsOf f x * FP.Core.unitsOf f ((f.emax + 1) * f.tails) = FP.Core.unitsOf f (x + f.tails) * 2 ^ (-f.qmin).toNat := by
    rw [zfp_up h1, zfp_2P hf, ← Nat.mul_assoc, Nat.mul_comm (FP.Core.unitsOf f x) 2]
  exact Nat.le_antisymm (a _ (Nat.le_of_eq q)) (b _ h2 (Nat.le_of_eq q.symm))
/-- every number of few digits is one of the format's -/
theorem zfp_rep {f : FP.Core.Fmt} : ∀ (k c : Nat), c < 2 * f.tails → ∃ m, FP.Core.unitsOf f m = c * 2 ^ k ∧ (0 < c → 0 < m)
  | 0, c, h => by
    have ht := FP.Core.tails_pos f
    refine ⟨c, ?_, fun z => z⟩
    unfold FP.Core.unitsOf
    by_cases q : c < f.tails
    · rw [if_pos q, Nat.pow_zero, Nat.mul_one]
    · have d : c / f.tails = 1 := by
        have a1 : 1 ≤ c / f.tails := (Nat.le_div_iff_mul_le ht).mpr (by omega)
        have a2 : c / f.tails < 2 := (Nat.div_lt_iff_lt_mul ht).mpr (by omega)
        omega
      have m := Nat.div_add_mod c f.tails
      rw [d, Nat.mul_one] at m
      rw [if_neg q, d, m]
  | k + 1, c, h => by
    have ht := FP.Core.tails_pos f
    by_cases q : c < f.tails
    · obtain ⟨m, h1, h2⟩ := zfp_rep (f := f) k (2 * c) (by omega)
      refine ⟨m, ?_, fun z => h2 (by omega)⟩
      rw [h1, Nat.pow_succ, Nat.mul_comm 2 c, Nat.mul_assoc, Nat.mul_comm 2]
    · obtain ⟨m, h1, h2⟩ := zfp_rep (f := f) k c h
      have hm : f.tails ≤ m := by
        have l : FP.Core.unitsOf f f.tails ≤ FP.Core.unitsOf f m := by
          rw [h1]
          have u : FP.Core.unitsOf f f.tails = f.tails := by
            have := FP.Core.unitsOf_start (f := f) (K := 1) (Nat.le_refl _)
            rw [Nat.one_mul, Nat.sub_self, Nat.pow_zero, Nat.mul_one] at this
            exact this
          rw [u]
          exact Nat.le_trans (by omega) (Nat.le_mul_of_pos_right c (Nat.two_pow_pos k))
        exact FP.Core.unitsOf_le_iff.mp l
      refine ⟨m + f.tails, ?_, fun _ => by omega⟩
      rw [zfp_up hm, h1, Nat.pow_succ, Nat.mul_comm 2 (c * 2 ^ k), Nat.mul_assoc]
theorem zfp_sub1 {f : FP.Core.Fmt} (hf : FP.Core.Good f) {t : Nat} (h0 : 0 < t) (ht : t < f.tails) : FP.Core.unitsOf f (FP.Core.sub f (f.emax * f.tails + t) (f.emax * f.tails)) = t * 2 ^ (f.emax - 1) ∧ FP.Core.sub f (f.emax * f.tails + t) (f.emax * f.tails) < FP.Core.infBits f := by
  have h1 := FP.Core.emax_pos hf
  have tp := FP.Core.tails_pos f
  have h2I := zfp_2I hf
  have hx : f.emax * f.tails + t < FP.Core.infBits f := by rw [Nat.add_mul, Nat.one_mul] at h2I; omega
  have hy : f.emax * f.tails < FP.Core.infBits f := by omega
  obtain ⟨c, q, x1, x2, x3⟩ := zfp_pos hf hx
  obtain ⟨d, r, y1, y2, y3⟩ := zfp_pos hf hy
  have y4 : FP.Core.fits f (.fin true d r) := y2
  obtain ⟨sg, v, e, p1, p2, p3⟩ := FP.Core.sum_units x2 y4
  have zx : FP.Core.zval f (.fin false c q) = (FP.Core.unitsOf f (f.emax * f.tails + t) : Int) := by rw [← x3]; rfl
  have zy : FP.Core.zval f (.fin true d r) = -(FP.Core.unitsOf f (f.emax * f.tails) : Int) := by rw [← y3]; rfl
  rw [zx, zy] at p3
  have ux : FP.Core.unitsOf f (f.emax * f.tails + t) = FP.Core.unitsOf f (f.emax * f.tails) + t * 2 ^ (f.emax - 1) := by
    rw [FP.Core.unitsOf_start h1]
    have le : f.tails ≤ f.emax * f.tails := Nat.le_mul_of_pos_left _ h1
    unfold FP.Core.unitsOf
    rw [if_neg (by omega), Nat.mul_comm f.emax, Nat.mul_add_mod, Nat.mod_eq_of_lt ht, Nat.mul_add_div tp, Nat.div_eq_of_lt ht, Nat.add_zero, Nat.add_mul]
  have pp : 0 < t * 2 ^ (f.emax - 1) := Nat.mul_pos h0 (Nat.two_pow_pos _)
  have hs : sg = false := by
    cases sg with
    | false => rfl
    | true =>
      have : -((FP.Core.inUnits v e f.qmin : Nat) : Int) = (FP.Core.unitsOf f (f.emax * f.tails + t) : Int) + -(FP.Core.unitsOf f (f.emax * f.tails) : Int) := p3
      omega
  subst hs
  have p3 : ((FP.Core.inUnits v e f.qmin : Nat) : Int) = (FP.Core.unitsOf f (f.emax * f.tails + t) : Int) + -(FP.Core.unitsOf f (f.emax * f.tails) : Int) := p3
  have p4 : FP.Core.inUnits v e f.qmin = t * 2 ^ (f.emax - 1) := by omega
  have hd : FP.Core.decode f (FP.Core.sub f (f.emax * f.tails + t) (f.emax * f.tails)) = FP.Core.roundRatio f false v 1 e := by
    unfold FP.Core.sub
    have ng : FP.Core.negate (.fin false d r) = .fin true d r := rfl
    rw [FP.Core.decode_enc hf (FP.Core.round_fits hf _), x1, y1, ng, p1]
    rfl
  obtain ⟨r1, r2⟩ := zfp_res hf hd (zfp_enc hf (FP.Core.round_fits hf _))
  obtain ⟨m, m1, _⟩ := zfp_rep (f := f) (f.emax - 1) t (by omega)
  have mI : m < FP.Core.infBits f := by
    have : m < f.emax * f.tails + t := by
      rw [← FP.Core.unitsOf_lt_iff (f := f), m1, ux]
      have := FP.Core.unitsOf_start (f := f) h1
      have : 0 < f.tails * 2 ^ (f.emax - 1) := Nat.mul_pos tp (Nat.two_pow_pos _)
      omega
    omega
  have a := FP.Core.mag_le hf hd (by decide) (e0 := f.qmin) (by omega) p2 (m := m) (by rw [p4, m1, Int.sub_self, Int.toNat_zero, Nat.pow_zero, Nat.mul_one, Nat.mul_one]; exact Nat.le_refl _)
  have b := FP.Core.mag_ge hf hd (by decide) (e0 := f.qmin) (by omega) p2 (m := m) (by omega) (by rw [p4, m1, Int.sub_self, Int.toNat_zero, Nat.pow_zero, Nat.mul_one, Nat.mul_one]; exact Nat.le_refl _)
  rw [r2] at a b
  rw [show FP.Core.sub f (f.emax * f.tails + t) (f.emax * f.tails) = m by omega]
  exact ⟨m1, mI⟩
theorem zfp_sc {f : FP.Core.Fmt} (hf : FP.Core.Good f) {m t : Nat} (hm : m < FP.Core.infBits f) (h : FP.Core.unitsOf f m = t * 2 ^ (f.emax - 1)) (ht : t < f.tails) (hB : f.emax + f.p - 1 < 2 * f.emax + 1) : FP.Core.unitsOf f (FP.Core.mul f m ((f.emax + f.p - 1) * f.tails)) = t * 2 ^ (-f.qmin).toNat ∧ FP.Core.mul f m ((f.emax + f.p - 1) * f.tails) < FP.Core.infBits f := by
  have h1 := FP.Core.emax_pos hf
  have tp := FP.Core.tails_pos f
  have h2 := hf.2
  have hBI : (f.emax + f.p - 1) * f.tails < FP.Core.infBits f := by
    rw [zfp_I hf]
    exact Nat.mul_lt_mul_of_pos_right hB tp
  obtain ⟨_, a, b⟩ := zfp_mul hf hm hBI
  have eP := zfp_P hf
  rw [FP.Core.unitsOf_start h1] at eP
  have uB : FP.Core.unitsOf f ((f.emax + f.p - 1) * f.tails) = f.tails * 2 ^ (-f.qmin).toNat := by
    rw [FP.Core.unitsOf_start (by omega)]
    congr 2
    unfold FP.Core.Fmt.qmin
    omega
  obtain ⟨m2, g1, _⟩ := zfp_rep (f := f) (-f.qmin).toNat t (by omega)
  have g2 : m2 < FP.Core.infBits f := by
    have : m2 < (f.emax + f.p - 1) * f.tails := by
      rw [← FP.Core.unitsOf_lt_iff (f := f), g1, uB]
      exact Nat.mul_lt_mul_of_pos_right ht (Nat.two_pow_pos _)
    omega
  have q : FP.Core.unitsOf f m * FP.Core.unitsOf f ((f.emax + f.p - 1) * f.tails) = FP.Core.unitsOf f m2 * 2 ^ (-f.qmin).toNat := by
    rw [h, uB, g1, ← Nat.mul_assoc]
    congr 1
    rw [Nat.mul_assoc, Nat.mul_comm (2 ^ (f.emax - 1)), eP]
  have r := Nat.le_antisymm (a _ (Nat.le_of_eq q)) (b _ (by omega) (Nat.le_of_eq q.symm))
  rw [r]
  exact ⟨g1, g2⟩
