/-! the bits of a double, of a float, as each side makes them -/
theorem zb64 {E t : Nat} {x : UInt64} (hE : E < 2048) (ht : t < 4503599627370496) (hx : x.toNat = E * 4503599627370496 + t) : (zL E <<< (((52 : Int32)).toInt64 &&& 63)) ||| Int64.ofNat t = x.toInt64 := by
  apply Int64.toBitVec_inj.mp
  apply BitVec.eq_of_toNat_eq
  have e : (((52 : Int32)).toInt64 &&& 63) = 52 := by decide
  have s : ((52 : Int64).toBitVec.smod (64#64)).toNat = 52 := by decide
  rw [e, Int64.toBitVec_or, BitVec.toNat_or, Int64.toBitVec_shiftLeft]
  have a : ((zL E).toBitVec <<< ((52 : Int64).toBitVec.smod (64#64))).toNat = E * 4503599627370496 := by
    show ((zL E).toBitVec <<< ((52 : Int64).toBitVec.smod (64#64)).toNat).toNat = _
    rw [s, BitVec.toNat_shiftLeft]
    have z : (zL E).toBitVec.toNat = E := by
      show E % 18446744073709551616 = E
      omega
    rw [z, Nat.shiftLeft_eq]
    omega
  have b : (Int64.ofNat t).toBitVec.toNat = t := by
    show t % 18446744073709551616 = t
    omega
  have c : x.toInt64.toBitVec.toNat = x.toNat := rfl
  rw [b, c, hx]
  refine (congrArg (· ||| t) a).trans ?_
  have := Nat.shiftLeft_add_eq_or_of_lt (a := E) (b := t) (i := 52) ht
  rw [Nat.shiftLeft_eq] at this
  exact this.symm
theorem zb32 {E t : Nat} {x : UInt32} (hE : E < 256) (ht : t < 8388608) (hx : x.toNat = E * 8388608 + t) : (nI E <<< ((23 : Int32) &&& 31)) ||| Int32.ofNat t = x.toInt32 := by
  apply Int32.toBitVec_inj.mp
  apply BitVec.eq_of_toNat_eq
  have e : ((23 : Int32) &&& 31) = 23 := by decide
  have s : ((23 : Int32).toBitVec.smod (32#32)).toNat = 23 := by decide
  rw [e, Int32.toBitVec_or, BitVec.toNat_or, Int32.toBitVec_shiftLeft]
  have a : ((nI E).toBitVec <<< ((23 : Int32).toBitVec.smod (32#32))).toNat = E * 8388608 := by
    show ((nI E).toBitVec <<< ((23 : Int32).toBitVec.smod (32#32)).toNat).toNat = _
    rw [s, BitVec.toNat_shiftLeft]
    have z : (nI E).toBitVec.toNat = E := pk_tn (by omega)
    rw [z, Nat.shiftLeft_eq]
    omega
  have b : (Int32.ofNat t).toBitVec.toNat = t := by
    show t % 4294967296 = t
    omega
  have c : x.toInt32.toBitVec.toNat = x.toNat := rfl
  rw [b, c, hx]
  refine (congrArg (· ||| t) a).trans ?_
  have := Nat.shiftLeft_add_eq_or_of_lt (a := E) (b := t) (i := 23) ht
  rw [Nat.shiftLeft_eq] at this
  exact this.symm
theorem fx_bd1 (k : UInt64 → Int64 → Option Int64) : ∀ (d i fu e : Nat) (x : UInt64) (t : Nat), t < 4503599627370496 → x.toNat = (1023 + d) * 4503599627370496 + t → d ≤ 1000 → i + d < 1100 → d < fu → ∃ y, fX10_bitsOfDouble_L10 k fu x (zL e) (nI i) = k y (zL (e + d)) ∧ y.toNat = 1023 * 4503599627370496 + t := by
  intro d
  induction d with
  | zero =>
    intro i fu e x t ht hx hd hi hfu
    obtain ⟨fu, rfl⟩ : ∃ f, fu = f + 1 := ⟨fu - 1, by omega⟩
    have c := (zd_lt2 (x := x) (by omega)).mpr (by omega)
    refine ⟨x, ?_, hx⟩
    rw [fX10_bitsOfDouble_L10_s, zl_1100, if_neg (nI_ge (by omega) (by omega)), if_pos c]
    rfl
  | succ d ih =>
    intro i fu e x t ht hx hd hi hfu
    obtain ⟨fu, rfl⟩ : ∃ f, fu = f + 1 := ⟨fu - 1, by omega⟩
    have c : ¬ Op.cmpValue (FP.dcmp x (4611686018427387904 : UInt64)) CmpOp.l < 0 := fun z => by have := (zd_lt2 (x := x) (by omega)).mp z; omega
    have hh := zd_half (x := x) (by omega) (by omega)
    have hf := zd_fin (x := FP.ddiv x 4611686018427387904) (by omega)
    obtain ⟨y, g1, g2⟩ := ih (i + 1) fu (e + 1) (FP.ddiv x 4611686018427387904) t ht (by omega) (by omega) (by omega) (by omega)
    refine ⟨y, ?_, g2⟩
    rw [fX10_bitsOfDouble_L10_s, zl_1100, if_neg (nI_ge (by omega) (by omega)), if_neg c, zg, if_pos hf, zl64_1, zL_add, zl_1, nI_add, g1, show e + 1 + d = e + (d + 1) by omega]
theorem fx_bd2 (k : UInt64 → Int64 → Option Int64) : ∀ (d i fu e : Nat) (x : UInt64) (t : Nat), t < 4503599627370496 → x.toNat + d * 4503599627370496 = 1023 * 4503599627370496 + t → d ≤ 1000 → d ≤ e → i + d < 1100 → d < fu → ∃ y, fX10_bitsOfDouble_L47 k fu x (zL e) (nI i) = k y (zL (e - d)) ∧ y.toNat = 1023 * 4503599627370496 + t := by
  intro d
  induction d with
  | zero =>
    intro i fu e x t ht hx hd he hi hfu
    obtain ⟨fu, rfl⟩ : ∃ f, fu = f + 1 := ⟨fu - 1, by omega⟩
    have c := (zd_ge1 (x := x) (by omega)).mpr (by omega)
    refine ⟨x, ?_, by omega⟩
    rw [fX10_bitsOfDouble_L47_s, zl_1100, if_neg (nI_ge (by omega) (by omega)), if_pos c]
    rfl
  | succ d ih =>
    intro i fu e x t ht hx hd he hi hfu
    obtain ⟨fu, rfl⟩ : ∃ f, fu = f + 1 := ⟨fu - 1, by omega⟩
    have c : ¬ 0 ≤ Op.cmpValue (FP.dcmp x FP.dconst1) CmpOp.g := fun z => by have := (zd_ge1 (x := x) (by omega)).mp z; omega
    have hh := zd_dbl (x := x) (by omega) (by omega)
    have hf := zd_fin (x := FP.dmul x 4611686018427387904) (by omega)
    obtain ⟨y, g1, g2⟩ := ih (i + 1) fu (e - 1) (FP.dmul x 4611686018427387904) t ht (by omega) (by omega) (by omega) (by omega) (by omega)
    refine ⟨y, ?_, g2⟩
    rw [fX10_bitsOfDouble_L47_s, zl_1100, if_neg (nI_ge (by omega) (by omega)), if_neg c, zg, if_pos hf, zl64_1, zL_sub (by omega), zl_1, nI_add, g1, show e - 1 - d = e - (d + 1) by omega]
theorem fx_bitsD {x : UInt64} {L K : Nat} (h : zD L K x) (hL : 900 ≤ L) (hK : K ≤ 1200) : fX10_bitsOfDouble x = some x.toInt64 := by
  unfold zD at h
  obtain ⟨E, t, ht, hx⟩ : ∃ E t, t < 4503599627370496 ∧ x.toNat = E * 4503599627370496 + t := ⟨x.toNat / 4503599627370496, x.toNat % 4503599627370496, by omega, by omega⟩
  have h1 : 900 ≤ E := by omega
  have h2 : E ≤ 1200 := by omega
  have last : ∀ (y : UInt64), y.toNat = 1023 * 4503599627370496 + t → fX10_bitsOfDouble_J79 y (zL E) = some x.toInt64 := fun y hy => by
    obtain ⟨a, b, c⟩ := zd_last (x := y) ht (by omega)
    unfold fX10_bitsOfDouble_J79
    rw [zg, if_pos (zd_fin a), zg, if_pos (zd_fin b), c, zb64 (by omega) ht hx]
  unfold fX10_bitsOfDouble
  rw [zl_0, show (1023 : Int64) = zL 1023 by unfold zL; rfl]
  by_cases q : 1023 ≤ E
  · obtain ⟨y, g1, g2⟩ := fx_bd1 fX10_bitsOfDouble_J44 (E - 1023) 0 5000 1023 x t ht (by rw [show 1023 + (E - 1023) = E by omega]; exact hx) (by omega) (by omega) (by omega)
    rw [g1]
    unfold fX10_bitsOfDouble_J44
    obtain ⟨z, g3, g4⟩ := fx_bd2 fX10_bitsOfDouble_J79 0 0 5000 (1023 + (E - 1023)) y t ht (by omega) (by omega) (by omega) (by omega) (by omega)
    rw [zl_0, g3, show 1023 + (E - 1023) - 0 = E by omega]
    exact last z g4
  · have c := (zd_lt2 (x := x) (by omega)).mpr (by omega)
    rw [show (5000 : Nat) = 4999 + 1 from rfl, fX10_bitsOfDouble_L10_s, zl_1100, if_neg (nI_ge (by omega) (by omega)), if_pos c]
    unfold fX10_bitsOfDouble_J44
    obtain ⟨z, g3, g4⟩ := fx_bd2 fX10_bitsOfDouble_J79 (1023 - E) 0 5000 1023 x t ht (by omega) (by omega) (by omega) (by omega) (by omega)
    rw [zl_0, g3, show 1023 - (1023 - E) = E by omega]
    exact last z g4
theorem fm_bitsD {x : UInt64} {L K : Nat} (h : zD L K x) (hK : K ≤ 2047) : fJxe99ae_doubleToLongBits_ccdee x = some x.toInt64 := by
  unfold zD at h
  have n := zd_nan (x := x) (by omega)
  unfold fJxe99ae_doubleToLongBits_ccdee fJxe99ae_isNaN_b9ae7
  rw [if_pos n, zb1_k, if_pos rfl]
theorem fx_be1 (k : UInt32 → Int32 → Option Int64) : ∀ (d i fu e : Nat) (x : UInt32) (t : Nat), t < 8388608 → x.toNat = (127 + d) * 8388608 + t → d ≤ 100 → i + d < 200 → d < fu → ∃ y, fX10_bitsOfFloat_L7 k fu x (nI e) (nI i) = k y (nI (e + d)) ∧ y.toNat = 127 * 8388608 + t := by
  intro d
  induction d with
  | zero =>
    intro i fu e x t ht hx hd hi hfu
    obtain ⟨fu, rfl⟩ : ∃ f, fu = f + 1 := ⟨fu - 1, by omega⟩
    have c := (ze_lt2 (x := x) (by omega)).mpr (by omega)
    refine ⟨x, ?_, hx⟩
    rw [fX10_bitsOfFloat_L7_s, zl_200, if_neg (nI_ge (by omega) (by omega)), if_pos c]
    rfl
  | succ d ih =>
    intro i fu e x t ht hx hd hi hfu
    obtain ⟨fu, rfl⟩ : ∃ f, fu = f + 1 := ⟨fu - 1, by omega⟩
    have c : ¬ Op.cmpValue (FP.fcmp x FP.fconst2) CmpOp.l < 0 := fun z => by have := (ze_lt2 (x := x) (by omega)).mp z; omega
    have hh := ze_half (x := x) (by omega) (by omega)
    have hf := ze_fin (x := FP.fdiv x FP.fconst2) (by omega)
    obtain ⟨y, g1, g2⟩ := ih (i + 1) fu (e + 1) (FP.fdiv x FP.fconst2) t ht (by omega) (by omega) (by omega) (by omega)
    refine ⟨y, ?_, g2⟩
    rw [fX10_bitsOfFloat_L7_s, zl_200, if_neg (nI_ge (by omega) (by omega)), if_neg c, zg, if_pos hf, zl_1, nI_add, nI_add, g1, show e + 1 + d = e + (d + 1) by omega]
theorem fx_be2 (k : UInt32 → Int32 → Option Int64) : ∀ (d i fu e : Nat) (x : UInt32) (t : Nat), t < 8388608 → x.toNat + d * 8388608 = 127 * 8388608 + t → d ≤ 100 → d ≤ e → i + d < 200 → d < fu → ∃ y, fX10_bitsOfFloat_L35 k fu x (nI e) (nI i) = k y (nI (e - d)) ∧ y.toNat = 127 * 8388608 + t := by
  intro d
  induction d with
  | zero =>
    intro i fu e x t ht hx hd he hi hfu
    obtain ⟨fu, rfl⟩ : ∃ f, fu = f + 1 := ⟨fu - 1, by omega⟩
    have c := (ze_ge1 (x := x) (by omega)).mpr (by omega)
    refine ⟨x, ?_, by omega⟩
    rw [fX10_bitsOfFloat_L35_s, zl_200, if_neg (nI_ge (by omega) (by omega)), if_pos c]
    rfl
  | succ d ih =>
    intro i fu e x t ht hx hd he hi hfu
    obtain ⟨fu, rfl⟩ : ∃ f, fu = f + 1 := ⟨fu - 1, by omega⟩
    have c : ¬ 0 ≤ Op.cmpValue (FP.fcmp x FP.fconst1) CmpOp.g := fun z => by have := (ze_ge1 (x := x) (by omega)).mp z; omega
    have hh := ze_dbl (x := x) (by omega) (by omega)
    have hf := ze_fin (x := FP.fmul x FP.fconst2) (by omega)
    obtain ⟨y, g1, g2⟩ := ih (i + 1) fu (e - 1) (FP.fmul x FP.fconst2) t ht (by omega) (by omega) (by omega) (by omega) (by omega)
    refine ⟨y, ?_, g2⟩
    rw [fX10_bitsOfFloat_L35_s, zl_200, if_neg (nI_ge (by omega) (by omega)), if_neg c, zg, if_pos hf, zl_1, zad1 (by omega), nI_add, g1, show e - 1 - d = e - (d + 1) by omega]
theorem fx_bitsE {x : UInt32} {L K : Nat} (h : zE L K x) (hL : 30 ≤ L) (hK : K ≤ 220) : fX10_bitsOfFloat x = some x.toInt32.toInt64 := by
  unfold zE at h
  obtain ⟨E, t, ht, hx⟩ : ∃ E t, t < 8388608 ∧ x.toNat = E * 8388608 + t := ⟨x.toNat / 8388608, x.toNat % 8388608, by omega, by omega⟩
  have h1 : 30 ≤ E := by omega
  have h2 : E ≤ 220 := by omega
  have last : ∀ (y : UInt32), y.toNat = 127 * 8388608 + t → fX10_bitsOfFloat_J61 y (nI E) = some x.toInt32.toInt64 := fun y hy => by
    obtain ⟨a, b, c⟩ := ze_last (x := y) ht (by omega)
    unfold fX10_bitsOfFloat_J61
    rw [zg, if_pos (ze_fin a), zg, if_pos (ze_fin b), c, zb32 (by omega) ht hx]
  unfold fX10_bitsOfFloat
  rw [zl_0, zl_127]
  by_cases q : 127 ≤ E
  · obtain ⟨y, g1, g2⟩ := fx_be1 fX10_bitsOfFloat_J33 (E - 127) 0 5000 127 x t ht (by rw [show 127 + (E - 127) = E by omega]; exact hx) (by omega) (by omega) (by omega)
    rw [g1]
    unfold fX10_bitsOfFloat_J33
    obtain ⟨z, g3, g4⟩ := fx_be2 fX10_bitsOfFloat_J61 0 0 5000 (127 + (E - 127)) y t ht (by omega) (by omega) (by omega) (by omega) (by omega)
    rw [zl_0, g3, show 127 + (E - 127) - 0 = E by omega]
    exact last z g4
  · have c := (ze_lt2 (x := x) (by omega)).mpr (by omega)
    rw [show (5000 : Nat) = 4999 + 1 from rfl, fX10_bitsOfFloat_L7_s, zl_200, if_neg (nI_ge (by omega) (by omega)), if_pos c]
    unfold fX10_bitsOfFloat_J33
    obtain ⟨z, g3, g4⟩ := fx_be2 fX10_bitsOfFloat_J61 (127 - E) 0 5000 127 x t ht (by omega) (by omega) (by omega) (by omega) (by omega)
    rw [zl_0, g3, show 127 - (127 - E) = E by omega]
    exact last z g4
theorem fm_bitsE {x : UInt32} {L K : Nat} (h : zE L K x) (hK : K ≤ 255) : fJxf58ca_floatToIntBits_5c35a x = some x.toInt32 := by
  unfold zE at h
  have n := ze_nan (x := x) (by omega)
  unfold fJxf58ca_floatToIntBits_5c35a fJxf58ca_isNaN_12338
  rw [if_pos n, zb1_k, if_pos rfl]
