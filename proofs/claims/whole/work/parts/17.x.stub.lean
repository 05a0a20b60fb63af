/-! for trying only: statements of the float parts -/
theorem zd_half {x : UInt64} (h1 : 9007199254740992 ≤ x.toNat) (h2 : x.toNat < 9218868437227405312) : (FP.ddiv x 4611686018427387904).toNat = x.toNat - 4503599627370496 := sorry
theorem zd_dbl {x : UInt64} (h1 : 4503599627370496 ≤ x.toNat) (h2 : x.toNat + 4503599627370496 ≤ 9218868437227405312) : (FP.dmul x 4611686018427387904).toNat = x.toNat + 4503599627370496 := sorry
theorem ze_half {x : UInt32} (h1 : 16777216 ≤ x.toNat) (h2 : x.toNat < 2139095040) : (FP.fdiv x FP.fconst2).toNat = x.toNat - 8388608 := sorry
theorem ze_dbl {x : UInt32} (h1 : 8388608 ≤ x.toNat) (h2 : x.toNat + 8388608 ≤ 2139095040) : (FP.fmul x FP.fconst2).toNat = x.toNat + 8388608 := sorry
theorem zd_fin {x : UInt64} (h : x.toNat ≤ 9218868437227405312) : x &&& 0x7fffffffffffffff ≤ 0x7ff0000000000000 := sorry
theorem ze_fin {x : UInt32} (h : x.toNat ≤ 2139095040) : x &&& 0x7fffffff ≤ 0x7f800000 := sorry
theorem zd_cmp {x y : UInt64} (hx : x.toNat ≤ 9218868437227405312) (hy : y.toNat ≤ 9218868437227405312) : FP.dcmp x y = some (if x.toNat < y.toNat then .lt else if x.toNat = y.toNat then .eq else .gt) := sorry
theorem ze_cmp {x y : UInt32} (hx : x.toNat ≤ 2139095040) (hy : y.toNat ≤ 2139095040) : FP.fcmp x y = some (if x.toNat < y.toNat then .lt else if x.toNat = y.toNat then .eq else .gt) := sorry
theorem zd_lt2 {x : UInt64} (hx : x.toNat ≤ 9218868437227405312) : Op.cmpValue (FP.dcmp x (4611686018427387904 : UInt64)) CmpOp.l < 0 ↔ x.toNat < 4611686018427387904 := sorry
theorem zd_ge1 {x : UInt64} (hx : x.toNat ≤ 9218868437227405312) : 0 ≤ Op.cmpValue (FP.dcmp x FP.dconst1) CmpOp.g ↔ 4607182418800017408 ≤ x.toNat := sorry
theorem zd_nan {x : UInt64} (hx : x.toNat ≤ 9218868437227405312) : Op.cmpValue (FP.dcmp x x) CmpOp.l = 0 := sorry
theorem ze_lt2 {x : UInt32} (hx : x.toNat ≤ 2139095040) : Op.cmpValue (FP.fcmp x FP.fconst2) CmpOp.l < 0 ↔ x.toNat < 1073741824 := sorry
theorem ze_ge1 {x : UInt32} (hx : x.toNat ≤ 2139095040) : 0 ≤ Op.cmpValue (FP.fcmp x FP.fconst1) CmpOp.g ↔ 1065353216 ≤ x.toNat := sorry
theorem ze_nan {x : UInt32} (hx : x.toNat ≤ 2139095040) : Op.cmpValue (FP.fcmp x x) CmpOp.l = 0 := sorry
theorem zd_last {x : UInt64} {t : Nat} (ht : t < 4503599627370496) (hx : x.toNat = 4607182418800017408 + t) : (FP.dsub x FP.dconst1).toNat ≤ 9218868437227405312 ∧ (FP.dmul (FP.dsub x FP.dconst1) (4841369599423283200 : UInt64)).toNat ≤ 9218868437227405312 ∧ FP.d2l (FP.dmul (FP.dsub x FP.dconst1) (4841369599423283200 : UInt64)) = Int64.ofNat t := sorry
theorem ze_last {x : UInt32} {t : Nat} (ht : t < 8388608) (hx : x.toNat = 1065353216 + t) : (FP.fsub x FP.fconst1).toNat ≤ 2139095040 ∧ (FP.fmul (FP.fsub x FP.fconst1) (1258291200 : UInt32)).toNat ≤ 2139095040 ∧ FP.f2i (FP.fmul (FP.fsub x FP.fconst1) (1258291200 : UInt32)) = Int32.ofNat t := sorry
def zD (L K : Nat) (x : UInt64) : Prop := L * 4503599627370496 ≤ x.toNat ∧ x.toNat ≤ K * 4503599627370496
def zE (L K : Nat) (x : UInt32) : Prop := L * 8388608 ≤ x.toNat ∧ x.toNat ≤ K * 8388608
theorem zD_w {L K L' K' : Nat} {x : UInt64} (h : zD L K x) (hL : L' ≤ L) (hK : K ≤ K') : zD L' K' x := ⟨Nat.le_trans (Nat.mul_le_mul_right _ hL) h.1, Nat.le_trans h.2 (Nat.mul_le_mul_right _ hK)⟩
theorem zE_w {L K L' K' : Nat} {x : UInt32} (h : zE L K x) (hL : L' ≤ L) (hK : K ≤ K') : zE L' K' x := ⟨Nat.le_trans (Nat.mul_le_mul_right _ hL) h.1, Nat.le_trans h.2 (Nat.mul_le_mul_right _ hK)⟩
theorem zD_fin {L K : Nat} {x : UInt64} (h : zD L K x) (hK : K ≤ 2047) : x &&& 0x7fffffffffffffff ≤ 0x7ff0000000000000 := sorry
theorem zE_fin {L K : Nat} {x : UInt32} (h : zE L K x) (hK : K ≤ 255) : x &&& 0x7fffffff ≤ 0x7f800000 := sorry
theorem zD_add {L K : Nat} {x y : UInt64} (hx : zD L K x) (hy : zD L K y) (hL : 1 ≤ L) (hLK : L ≤ K) (hK : K ≤ 2046) : zD L (K + 1) (FP.dadd x y) := sorry
theorem zD_div {L1 K1 L2 K2 : Nat} {x y : UInt64} (hx : zD L1 K1 x) (hy : zD L2 K2 y) (g1 : 1 ≤ L1) (g2 : 1 ≤ L2) (g3 : L1 ≤ K1) (g4 : L2 ≤ K2) (g5 : K1 ≤ 2046) (g6 : K2 ≤ 2046) (g7 : K2 + 1 ≤ L1 + 1023) (g8 : K1 + 1023 ≤ 2047 + L2) : zD (L1 + 1023 - K2) (K1 + 1023 - L2) (FP.ddiv x y) := sorry
theorem zD_mul {L1 K1 L2 K2 : Nat} {x y : UInt64} (hx : zD L1 K1 x) (hy : zD L2 K2 y) (g1 : 1 ≤ L1) (g2 : 1 ≤ L2) (g3 : L1 ≤ K1) (g4 : L2 ≤ K2) (g5 : K1 ≤ 2046) (g6 : K2 ≤ 2046) (g7 : 1024 ≤ L1 + L2) (g8 : K1 + K2 ≤ 3070) : zD (L1 + L2 - 1023) (K1 + K2 - 1023) (FP.dmul x y) := sorry
theorem zE_add {L K : Nat} {x y : UInt32} (hx : zE L K x) (hy : zE L K y) (hL : 1 ≤ L) (hLK : L ≤ K) (hK : K ≤ 254) : zE L (K + 1) (FP.fadd x y) := sorry
theorem zE_div {L1 K1 L2 K2 : Nat} {x y : UInt32} (hx : zE L1 K1 x) (hy : zE L2 K2 y) (g1 : 1 ≤ L1) (g2 : 1 ≤ L2) (g3 : L1 ≤ K1) (g4 : L2 ≤ K2) (g5 : K1 ≤ 254) (g6 : K2 ≤ 254) (g7 : K2 + 1 ≤ L1 + 127) (g8 : K1 + 127 ≤ 255 + L2) : zE (L1 + 127 - K2) (K1 + 127 - L2) (FP.fdiv x y) := sorry
theorem zblk (n t : Nat) (ht : 0 < t) : ∃ i, n / t = i ∧ i * t ≤ n ∧ n ≤ (i + 1) * t := ⟨n / t, rfl, Nat.div_mul_le_self n t, Nat.le_of_lt ((Nat.div_lt_iff_lt_mul ht).mp (Nat.lt_succ_self _))⟩
theorem zD_par0 {L K : Nat} {x y : UInt64} (hx : zD L K x) (hy : zD L K y) (hxy : x.toNat ≤ y.toNat) (hL : 900 ≤ L) (hK : K ≤ 1100) : zD (L - 2) (K + 2) (FP.ddiv (FP.dmul x y) (FP.dadd x y)) := sorry
theorem zD_par {L K : Nat} {x y : UInt64} (hx : zD L K x) (hy : zD L K y) (hL : 900 ≤ L) (hK : K ≤ 1100) : zD (L - 2) (K + 2) (FP.ddiv (FP.dmul x y) (FP.dadd x y)) := sorry
theorem zD_mulB {L K : Nat} {x y : UInt64} (hx : zD L K x) (hy : zD L K y) (hL : 900 ≤ L) (hLK : L ≤ K) (hK : K ≤ 1100) : zD (L + L - 1023) (K + K - 1023) (FP.dmul x y) := sorry
theorem zE_1 : zE 127 127 FP.fconst1 := sorry
theorem zE_inv {L K : Nat} {x : UInt32} (hx : zE L K x) (hL : 1 ≤ L) (hLK : L ≤ K) (hK : K ≤ 253) : zE (254 - K) (254 - L) (FP.fdiv FP.fconst1 x) := sorry
theorem zE_par {L K : Nat} {x y : UInt32} (hx : zE L K x) (hy : zE L K y) (hL : 2 ≤ L) (hLK : L ≤ K) (hK : K ≤ 253) : zE (L - 1) K (FP.fdiv FP.fconst1 (FP.fadd (FP.fdiv FP.fconst1 x) (FP.fdiv FP.fconst1 y))) := sorry
theorem zD_100 : zD 1029 1030 (4636737291354636288 : UInt64) := sorry
theorem zD_i2d {v : Int32} (h : 0 < v.toInt) : zD 1023 1056 (FP.i2d v) := sorry
theorem zD_end {v : Int32} (h : 0 < v.toInt) : zD 1016 1050 (FP.ddiv (FP.i2d v) (4636737291354636288 : UInt64)) := sorry
theorem zE_i2f {v : Int32} (h : 0 < v.toInt) : zE 127 160 (FP.i2f v) := sorry
theorem ze_10000 : FP.i2f 10000 = (1176256512 : UInt32) := sorry
theorem zE_draw {o n : Int32} (h1 : 1 ≤ o.toInt) (h2 : o.toInt ≤ 99) (h3 : n.toInt.natAbs ≤ 5000) : (FP.fmul (FP.i2f o) (FP.i2f n)) &&& 0x7fffffff ≤ 0x7f800000 ∧ (FP.fdiv (FP.fmul (FP.i2f o) (FP.i2f n)) (1176256512 : UInt32)) &&& 0x7fffffff ≤ 0x7f800000 ∧ zE 126 161 (FP.fadd (FP.i2f o) (FP.fdiv (FP.fmul (FP.i2f o) (FP.i2f n)) (1176256512 : UInt32))) := sorry
