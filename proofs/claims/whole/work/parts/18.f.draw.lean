/-! a part drawn, on both sides -/
def zrw (sd : Int32) : Int32 := (((sd * (1103515245 : Int32)) + (12345 : Int32)).toUInt32 >>> (((16 : Int32)).toUInt32 &&& Int32.toUInt32 31)).toInt32
theorem zrw_n (sd : Int32) : ∃ m, m < 65536 ∧ zrw sd = nI m := by
  unfold zrw
  have e : (((16 : Int32)).toUInt32 &&& Int32.toUInt32 31) = 16 := by decide
  rw [e]
  generalize ((sd * (1103515245 : Int32)) + (12345 : Int32)).toUInt32 = u
  have hu := u.toNat_lt
  have s : (u >>> 16).toNat = u.toNat / 65536 := by
    rw [UInt32.toNat_shiftRight, Nat.shiftRight_eq_div_pow]
    rfl
  refine ⟨u.toNat / 65536, by omega, ?_⟩
  apply Int32.toBitVec_inj.mp
  apply BitVec.eq_of_toNat_eq
  rw [pk_tn (by omega), ← s]
  rfl
def zrn (q sd : Int32) : Int32 := q * ((zrw sd - zrw sd / (201 : Int32) * (201 : Int32)) - (100 : Int32))
theorem zrn_b {q : Nat} (hq : q ≤ 50) (sd : Int32) : (zrn (nI q) sd).toInt.natAbs ≤ 5000 := by
  obtain ⟨m, hm, e⟩ := zrw_n sd
  unfold zrn
  rw [e, zl_201, pk_rem (by omega) (by omega) (by omega), zl_100]
  have h : m % 201 < 201 := Nat.mod_lt _ (by omega)
  generalize m % 201 = r at *
  have key : ∀ q, q < 51 → ∀ r, r < 201 → (nI q * (nI r - nI 100)).toInt.natAbs ≤ 5000 := by decide +kernel
  exact key q (by omega) r h
def zdrw (o q sd : Int32) : UInt32 := FP.fadd (FP.i2f o) (FP.fdiv (FP.fmul (FP.i2f o) (FP.i2f (zrn q sd))) (1176256512 : UInt32))
theorem zdrw_b {a : Nat → Nat} (hb : zBox a) {s : Nat} (hs : s < 4) (hp : 0 < a s) (sd : Int32) : (FP.fmul (FP.i2f (nI (a s))) (FP.i2f (zrn (nI (a (4 + s))) sd))) &&& 0x7fffffff ≤ 0x7f800000 ∧ (FP.fdiv (FP.fmul (FP.i2f (nI (a s))) (FP.i2f (zrn (nI (a (4 + s))) sd))) (1176256512 : UInt32)) &&& 0x7fffffff ≤ 0x7f800000 ∧ zE 126 161 (zdrw (nI (a s)) (nI (a (4 + s))) sd) := by
  have b := hb s hs
  exact zE_draw (o := nI (a s)) (n := zrn (nI (a (4 + s))) sd) (by rw [nI_toInt (by omega)]; omega) (by rw [nI_toInt (by omega)]; omega) (zrn_b b.2 sd)
theorem fx_draw {a : Nat → Nat} {ohms spread : Nat → Int32} (hx : zXb a ohms spread) (hb : zBox a) {s : Nat} (hs : s < 4) (hp : 0 < a s) (sd : Int32) : fX4_drawPart (nI s) sd ohms spread = some (zdrw (nI (a s)) (nI (a (4 + s))) sd, sd * (1103515245 : Int32) + (12345 : Int32)) := by
  obtain ⟨f1, f2, f3⟩ := zdrw_b hb hs hp sd
  have f4 := zE_fin f3 (by omega)
  unfold fX4_drawPart
  rw [zgI hs (by omega), zgI hs (by omega), zcl (by omega), hx.1 s hs, hx.2 s hs]
  exact (zpT f1).trans ((zpT f2).trans (zpT f4))
theorem fm_draw {a : Nat → Nat} {now : Nat → Int32} (hm : zMn a now) (hb : zBox a) {s : Nat} (hs : s < 4) (hp : 0 < a s) (sd : Int32) : fX11_drawnPart (nI s) sd now = some (zdrw (nI (a s)) (nI (a (4 + s))) sd, sd * (1103515245 : Int32) + (12345 : Int32)) := by
  obtain ⟨f1, f2, f3⟩ := zdrw_b hb hs hp sd
  have f4 := zE_fin f3 (by omega)
  have e1 : (0 : Int32) + nI s = nI s := by rw [zl_0, nI_add, Nat.zero_add]
  have e2 : (4 : Int32) + nI s = nI (4 + s) := by rw [zl_4, nI_add]
  unfold fX11_drawnPart
  rw [e1, e2, zgI (by omega) (by omega), zgI (by omega) (by omega), zcl (by omega), zcl (by omega), hm.1 s (by omega), hm.1 (4 + s) (by omega)]
  exact (zpT f1).trans ((zpT f2).trans (zpT f4))
