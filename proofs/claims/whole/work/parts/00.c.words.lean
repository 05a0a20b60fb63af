/-! the same for the machine's doubles and floats -/
theorem zd_op {d : FP.Core.Datum} (h : FP.Core.fits FP.Core.b64 d) : (FP.Core.of64 d).toNat = FP.Core.encode FP.Core.b64 d := FP.Core.toNat_of64 h
theorem zd_div (x y : UInt64) : (FP.ddiv x y).toNat = FP.Core.div FP.Core.b64 x.toNat y.toNat := FP.Core.toNat_of64 (FP.Core.quotient_fits FP.Core.good_b64 _ _)
theorem zd_mul (x y : UInt64) : (FP.dmul x y).toNat = FP.Core.mul FP.Core.b64 x.toNat y.toNat := FP.Core.toNat_of64 (FP.Core.round_fits FP.Core.good_b64 _)
theorem zd_add (x y : UInt64) : (FP.dadd x y).toNat = FP.Core.add FP.Core.b64 x.toNat y.toNat := FP.Core.toNat_of64 (FP.Core.round_fits FP.Core.good_b64 _)
theorem zd_sub (x y : UInt64) : (FP.dsub x y).toNat = FP.Core.sub FP.Core.b64 x.toNat y.toNat := FP.Core.toNat_of64 (FP.Core.round_fits FP.Core.good_b64 _)
theorem ze_div (x y : UInt32) : (FP.fdiv x y).toNat = FP.Core.div FP.Core.b32 x.toNat y.toNat := FP.Core.toNat_of32 (FP.Core.quotient_fits FP.Core.good_b32 _ _)
theorem ze_mul (x y : UInt32) : (FP.fmul x y).toNat = FP.Core.mul FP.Core.b32 x.toNat y.toNat := FP.Core.toNat_of32 (FP.Core.round_fits FP.Core.good_b32 _)
theorem ze_add (x y : UInt32) : (FP.fadd x y).toNat = FP.Core.add FP.Core.b32 x.toNat y.toNat := FP.Core.toNat_of32 (FP.Core.round_fits FP.Core.good_b32 _)
theorem ze_sub (x y : UInt32) : (FP.fsub x y).toNat = FP.Core.sub FP.Core.b32 x.toNat y.toNat := FP.Core.toNat_of32 (FP.Core.round_fits FP.Core.good_b32 _)
theorem zd_T : FP.Core.b64.tails = 4503599627370496 := by decide
theorem zd_I : FP.Core.infBits FP.Core.b64 = 9218868437227405312 := by decide
theorem zd_M : FP.Core.b64.emax = 1023 := by decide
theorem ze_T : FP.Core.b32.tails = 8388608 := by decide
theorem ze_I : FP.Core.infBits FP.Core.b32 = 2139095040 := by decide
theorem ze_M : FP.Core.b32.emax = 127 := by decide
theorem zd_half {x : UInt64} (h1 : 9007199254740992 ≤ x.toNat) (h2 : x.toNat < 9218868437227405312) : (FP.ddiv x 4611686018427387904).toNat = x.toNat - 4503599627370496 := by
  have := zfp_half FP.Core.good_b64 (x := x.toNat) (by rw [zd_T]; omega) (by rw [zd_I]; omega)
  rw [zd_T, zd_M] at this
  rw [zd_div]
  exact this
theorem zd_dbl {x : UInt64} (h1 : 4503599627370496 ≤ x.toNat) (h2 : x.toNat + 4503599627370496 ≤ 9218868437227405312) : (FP.dmul x 4611686018427387904).toNat = x.toNat + 4503599627370496 := by
  have := zfp_dbl FP.Core.good_b64 (x := x.toNat) (by rw [zd_T]; omega) (by rw [zd_I, zd_T]; omega)
  rw [zd_T, zd_M] at this
  rw [zd_mul]
  exact this
theorem ze_half {x : UInt32} (h1 : 16777216 ≤ x.toNat) (h2 : x.toNat < 2139095040) : (FP.fdiv x FP.fconst2).toNat = x.toNat - 8388608 := by
  have := zfp_half FP.Core.good_b32 (x := x.toNat) (by rw [ze_T]; omega) (by rw [ze_I]; omega)
  rw [ze_T, ze_M] at this
  rw [ze_div]
  exact this
theorem ze_dbl {x : UInt32} (h1 : 8388608 ≤ x.toNat) (h2 : x.toNat + 8388608 ≤ 2139095040) : (FP.fmul x FP.fconst2).toNat = x.toNat + 8388608 := by
  have := zfp_dbl FP.Core.good_b32 (x := x.toNat) (by rw [ze_T]; omega) (by rw [ze_I, ze_T]; omega)
  rw [ze_T, ze_M] at this
  rw [ze_mul]
  exact this
theorem zd_fin {x : UInt64} (h : x.toNat ≤ 9218868437227405312) : x &&& 0x7fffffffffffffff ≤ 0x7ff0000000000000 := by
  rw [UInt64.le_iff_toNat_le, FP.Core.mask_toNat]
  have e : (0x7ff0000000000000 : UInt64).toNat = 9218868437227405312 := by decide
  rw [e]
  omega
theorem ze_fin {x : UInt32} (h : x.toNat ≤ 2139095040) : x &&& 0x7fffffff ≤ 0x7f800000 := by
  rw [UInt32.le_iff_toNat_le, FP.Core.mask_toNat32]
  have e : (0x7f800000 : UInt32).toNat = 2139095040 := by decide
  rw [e]
  omega
theorem zd_nn {x : UInt64} (h : x.toNat ≤ 9218868437227405312) : FP.Core.val64 x ≠ .nan := (FP.Core.ne_nan x).mpr (by omega)
theorem ze_nn {x : UInt32} (h : x.toNat ≤ 2139095040) : FP.Core.val32 x ≠ .nan := (FP.Core.ne_nan32 x).mpr (by omega)
theorem zd_key {x : UInt64} (h : x.toNat ≤ 9218868437227405312) : FP.Core.dkey x = (x.toNat : Int) := by
  unfold FP.Core.dkey
  rw [if_neg (by omega)]
theorem ze_key {x : UInt32} (h : x.toNat ≤ 2139095040) : FP.Core.fkey x = (x.toNat : Int) := by
  unfold FP.Core.fkey
  rw [if_neg (by omega)]
theorem zd_cmp {x y : UInt64} (hx : x.toNat ≤ 9218868437227405312) (hy : y.toNat ≤ 9218868437227405312) : FP.dcmp x y = some (if x.toNat < y.toNat then .lt else if x.toNat = y.toNat then .eq else .gt) := by
  have := FP.Core.dcmp_key (zd_nn hx) (zd_nn hy)
  rw [zd_key hx, zd_key hy, FP.Core.compare_ite] at this
  refine this.trans ?_
  congr 1
  by_cases a : x.toNat < y.toNat
  · rw [if_pos a, if_pos (by omega)]
  · rw [if_neg a, if_neg (by omega)]
    by_cases b : x.toNat = y.toNat
    · rw [if_pos b, if_pos (by omega)]
    · rw [if_neg b, if_neg (by omega)]
theorem ze_cmp {x y : UInt32} (hx : x.toNat ≤ 2139095040) (hy : y.toNat ≤ 2139095040) : FP.fcmp x y = some (if x.toNat < y.toNat then .lt else if x.toNat = y.toNat then .eq else .gt) := by
  have := FP.Core.fcmp_key (ze_nn hx) (ze_nn hy)
  rw [ze_key hx, ze_key hy, FP.Core.compare_ite] at this
  refine this.trans ?_
  congr 1
  by_cases a : x.toNat < y.toNat
  · rw [if_pos a, if_pos (by omega)]
  · rw [if_neg a, if_neg (by omega)]
    by_cases b : x.toNat = y.toNat
    · rw [if_pos b, if_pos (by omega)]
    · rw [if_neg b, if_neg (by omega)]
theorem zd_lt2 {x : UInt64} (hx : x.toNat ≤ 9218868437227405312) : Op.cmpValue (FP.dcmp x (4611686018427387904 : UInt64)) CmpOp.l < 0 ↔ x.toNat < 4611686018427387904 := by
  have e : (4611686018427387904 : UInt64).toNat = 4611686018427387904 := by decide
  rw [zd_cmp hx (by rw [e]; omega), e]
  by_cases a : x.toNat < 4611686018427387904
  · rw [if_pos a]; exact ⟨fun _ => a, fun _ => by decide⟩
  · rw [if_neg a]
    by_cases b : x.toNat = 4611686018427387904
    · rw [if_pos b]; exact ⟨fun z => absurd z (by decide), fun z => absurd z a⟩
    · rw [if_neg b]; exact ⟨fun z => absurd z (by decide), fun z => absurd z a⟩
theorem zd_ge1 {x : UInt64} (hx : x.toNat ≤ 9218868437227405312) : 0 ≤ Op.cmpValue (FP.dcmp x FP.dconst1) CmpOp.g ↔ 4607182418800017408 ≤ x.toNat := by
  have e : FP.dconst1.toNat = 4607182418800017408 := by decide
  rw [zd_cmp hx (by rw [e]; omega), e]
  by_cases a : x.toNat < 4607182418800017408
  · rw [if_pos a]; exact ⟨fun z => absurd z (by decide), fun z => by omega⟩
  · rw [if_neg a]
    by_cases b : x.toNat = 4607182418800017408
    · rw [if_pos b]; exact ⟨fun _ => by omega, fun _ => by decide⟩
    · rw [if_neg b]; exact ⟨fun _ => by omega, fun _ => by decide⟩
theorem zd_nan {x : UInt64} (hx : x.toNat ≤ 9218868437227405312) : Op.cmpValue (FP.dcmp x x) CmpOp.l = 0 := by
  rw [zd_cmp hx hx, if_neg (Nat.lt_irrefl _), if_pos rfl]
  decide
theorem ze_lt2 {x : UInt32} (hx : x.toNat ≤ 2139095040) : Op.cmpValue (FP.fcmp x FP.fconst2) CmpOp.l < 0 ↔ x.toNat < 1073741824 := by
  have e : FP.fconst2.toNat = 1073741824 := by decide
  rw [ze_cmp hx (by rw [e]; omega), e]
  by_cases a : x.toNat < 1073741824
  · rw [if_pos a]; exact ⟨fun _ => a, fun _ => by decide⟩
  · rw [if_neg a]
    by_cases b : x.toNat = 1073741824
    · rw [if_pos b]; exact ⟨fun z => absurd z (by decide), fun z => absurd z a⟩
    · rw [if_neg b]; exact ⟨fun z => absurd z (by decide), fun z => absurd z a⟩
theorem ze_ge1 {x : UInt32} (hx : x.toNat ≤ 2139095040) : 0 ≤ Op.cmpValue (FP.fcmp x FP.fconst1) CmpOp.g ↔ 1065353216 ≤ x.toNat := by
  have e : FP.fconst1.toNat = 1065353216 := by decide
  rw [ze_cmp hx (by rw [e]; omega), e]
  by_cases a : x.toNat < 1065353216
  · rw [if_pos a]; exact ⟨fun z => absurd z (by decide), fun z => by omega⟩
  · rw [if_neg a]
    by_cases b : x.toNat = 1065353216
    · rw [if_pos b]; exact ⟨fun _ => by omega, fun _ => by decide⟩
    · rw [if_neg b]; exact ⟨fun _ => by omega, fun _ => by decide⟩
theorem ze_nan {x : UInt32} (hx : x.toNat ≤ 2139095040) : Op.cmpValue (FP.fcmp x x) CmpOp.l = 0 := by
  rw [ze_cmp hx hx, if_neg (Nat.lt_irrefl _), if_pos rfl]
  decide
/-- the fraction's digits -/
theorem zd_last {x : UInt64} {t : Nat} (ht : t < 4503599627370496) (hx : x.toNat = 4607182418800017408 + t) : (FP.dsub x FP.dconst1).toNat ≤ 9218868437227405312 ∧ (FP.dmul (FP.dsub x FP.dconst1) (4841369599423283200 : UInt64)).toNat ≤ 9218868437227405312 ∧ FP.d2l (FP.dmul (FP.dsub x FP.dconst1) (4841369599423283200 : UInt64)) = Int64.ofNat t := by
  by_cases h0 : t = 0
  · have e : x = FP.dconst1 := UInt64.toNat_inj.mp (by rw [hx, h0]; decide)
    subst h0 e
    decide +kernel
  · have e1 : FP.dconst1.toNat = FP.Core.b64.emax * FP.Core.b64.tails := by decide
    have e2 : x.toNat = FP.Core.b64.emax * FP.Core.b64.tails + t := by rw [hx, zd_M, zd_T]
    have e3 : (4841369599423283200 : UInt64).toNat = (FP.Core.b64.emax + FP.Core.b64.p - 1) * FP.Core.b64.tails := by decide
    obtain ⟨a1, a2⟩ := zfp_sub1 FP.Core.good_b64 (t := t) (by omega) (by rw [zd_T]; exact ht)
    obtain ⟨b1, b2⟩ := zfp_sc FP.Core.good_b64 a2 a1 (by rw [zd_T]; exact ht) (by decide)
    rw [← e2, ← e1, ← zd_sub] at a2 b1 b2
    rw [← e3, ← zd_mul] at b1 b2
    rw [zd_I] at a2 b2
    refine ⟨Nat.le_of_lt a2, Nat.le_of_lt b2, ?_⟩
    generalize FP.dmul (FP.dsub x FP.dconst1) (4841369599423283200 : UInt64) = y at *
    have nn := zd_nn (Nat.le_of_lt b2)
    have v := FP.Core.d2l_val nn
    rw [FP.Core.sgn_bits nn, decide_eq_false (show ¬ 2 ^ 63 ≤ y.toNat by omega), FP.Core.zmag_bits nn, Nat.mod_eq_of_lt (show y.toNat < 2 ^ 63 by omega), b1, show (2 : Nat) ^ (-FP.Core.b64.qmin).toNat = FP.Core.one64 from FP.Core.pow_qmin64, Nat.mul_div_cancel _ FP.Core.one64_pos] at v
    apply Int64.toInt_inj.mp
    have s : FP.Core.signed false t = (t : Int) := rfl
    rw [s] at v
    have o : (Int64.ofNat t).toInt = t := by
      rw [Int64.toInt_ofNat_of_lt (by omega)]
    rw [o]
    refine v.trans ?_
    omega
theorem ze_last {x : UInt32} {t : Nat} (ht : t < 8388608) (hx : x.toNat = 1065353216 + t) : (FP.fsub x FP.fconst1).toNat ≤ 2139095040 ∧ (FP.fmul (FP.fsub x FP.fconst1) (1258291200 : UInt32)).toNat ≤ 2139095040 ∧ FP.f2i (FP.fmul (FP.fsub x FP.fconst1) (1258291200 : UInt32)) = Int32.ofNat t := by
  by_cases h0 : t = 0
  · have e : x = FP.fconst1 := UInt32.toNat_inj.mp (by rw [hx, h0]; decide)
    subst h0 e
    decide +kernel
  · have e1 : FP.fconst1.toNat = FP.Core.b32.emax * FP.Core.b32.tails := by decide
    have e2 : x.toNat = FP.Core.b32.emax * FP.Core.b32.tails + t := by rw [hx, ze_M, ze_T]
    have e3 : (1258291200 : UInt32).toNat = (FP.Core.b32.emax + FP.Core.b32.p - 1) * FP.Core.b32.tails := by decide
    obtain ⟨a1, a2⟩ := zfp_sub1 FP.Core.good_b32 (t := t) (by omega) (by rw [ze_T]; exact ht)
    obtain ⟨b1, b2⟩ := zfp_sc FP.Core.good_b32 a2 a1 (by rw [ze_T]; exact ht) (by decide)
    rw [← e2, ← e1, ← ze_sub] at a2 b1 b2
    rw [← e3, ← ze_mul] at b1 b2
    rw [ze_I] at a2 b2
    refine ⟨Nat.le_of_lt a2, Nat.le_of_lt b2, ?_⟩
    generalize FP.fmul (FP.fsub x FP.fconst1) (1258291200 : UInt32) = y at *
    have nn := ze_nn (Nat.le_of_lt b2)
    have v := FP.Core.f2i_val nn
    rw [FP.Core.sgn_bits32 nn, decide_eq_false (show ¬ 2 ^ 31 ≤ y.toNat by omega), FP.Core.zmag_bits32 nn, Nat.mod_eq_of_lt (show y.toNat < 2 ^ 31 by omega), b1, show (2 : Nat) ^ (-FP.Core.b32.qmin).toNat = FP.Core.one32 from FP.Core.pow_qmin32, Nat.mul_div_cancel _ FP.Core.one32_pos] at v
    apply Int32.toInt_inj.mp
    have s : FP.Core.signed false t = (t : Int) := rfl
    rw [s] at v
    have o : (Int32.ofNat t).toInt = t := by
      rw [Int32.toInt_ofNat_of_lt (by omega)]
    rw [o]
    refine v.trans ?_
    omega
