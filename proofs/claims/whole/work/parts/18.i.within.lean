/-! the call within -/
theorem zwn_ok {x : UInt32} (h : FP.fIsNaN x = false) : x &&& 0x7fffffff ≤ 0x7f800000 := by
  have h1 := (FP.Core.ne_nan32 x).mp ((FP.Core.notNaN_iff32 x).mp h)
  rw [UInt32.le_iff_toNat_le, FP.Core.mask_toNat32]
  have e : (0x7f800000 : UInt32).toNat = 2139095040 := by decide
  rw [e]
  omega
theorem zwn_fin {L K : Nat} {x : UInt32} (h : zE L K x) (hK : K ≤ 254) : FP.Core.FFin x := (FP.Core.fin_bits32 x).mpr (by have := h.2; omega)
theorem zwn_nn {x : UInt32} (h : FP.Core.FFin x) : FP.fIsNaN x = false := h.notNaN
theorem zwn_0 : FP.Core.FFin FP.fconst0 := (FP.Core.fin_bits32 _).mpr (by decide)
theorem zwn_100 : FP.Core.FFin (1120403456 : UInt32) := (FP.Core.fin_bits32 _).mpr (by decide)
theorem zwn_100z : ¬ FP.Core.FZero (1120403456 : UInt32) := fun h => by
  have := (FP.Core.zero_bits232 _).mp h
  exact absurd this (by decide)
theorem zwn_e : ∀ e, e < 100 → FP.Core.FFin (FP.i2f (nI e)) := by
  intro e he
  rw [FP.Core.fin_bits32, ← FP.Core.mag_toNat32]
  have h := (ze_whole (v := nI e) (by rw [nI_toInt (by omega)]; omega)).2
  rw [ze_I] at h
  exact h
theorem zwn_w {p q : Nat} (h1 : 1 ≤ p) (h2 : p ≤ 999) (h3 : 1 ≤ q) (h4 : q ≤ 999) : FP.Core.FFin (FP.fdiv (FP.i2f (nI p)) (FP.i2f (nI q))) :=
  zwn_fin (zE_div (zE_i2f (v := nI p) (by rw [nI_toInt (by omega)]; omega)) (zE_i2f (v := nI q) (by rw [nI_toInt (by omega)]; omega)) (by omega) (by omega) (by omega) (by omega) (by omega) (by omega) (by omega) (by omega)) (by omega)
theorem xm_drawOn {a : Nat → Nat} {i : Nat} {cnt : Int32} {kind first second parts ohms spread now od : Nat → Int32} (hv : zV a) (hx : zXn a cnt kind first second parts) (hb : zXb a ohms spread) (hm : zMn a now) (hi : i < a 8) (g5 : zAr od nI 0 (apo a i)) (sd pl : Int32) (pw pk ps : Nat → Int32) (arr brr : Nat → UInt32) : ∃ v sd' pl' pw' pk' ps' arr' brr', fX4_floatOf (nI i) (nI 1) sd parts pl pw kind pk first ps second ohms spread arr = some (v, sd', pl', pw', pk', ps', arr') ∧ fX11_draws (nI (2 * aP a i - 1)) sd od now brr = some (v, sd', brr') ∧ zE (127 - aP a i) (160 + aP a i) v := by
  obtain ⟨pw', pk', ps', g1, g2, g3⟩ := fx_walk hv hx hi pl pw pk ps
  have l := apo_len hv hi
  have b := zNet_b hv.2.2.1 hi hv.2.1
  obtain ⟨arr', brr', sd', v, e1, e2, e3, e4, e5, _⟩ := xm_drawW (fX4_floatOf_J158 (nI (2 * aP a i - 1)) pw' pk' ps') fX11_draws_J88 hv hb hm (show 2 * aP a i - 1 ≤ 23 by omega) i hi 0 0 5000 5000 sd arr brr (by omega) (by omega) (by omega) (by omega) g2 g3 g5
  obtain ⟨fu, e6⟩ : ∃ f, 5000 - (2 * aP a i - 1) = f + 1 := ⟨5000 - (2 * aP a i - 1) - 1, by omega⟩
  refine ⟨v, sd', nI (2 * aP a i - 1), pw', pk', ps', arr', brr', ?_, ?_, e3⟩
  · unfold fX4_floatOf
    rw [g1, zb4_k, zl_0, e1, Nat.zero_add, Nat.zero_add, l.2, e6, fX4_floatOf_L10_s, if_pos (nI_le (Nat.le_refl _) (by omega))]
    unfold fX4_floatOf_J158
    rw [zl_0, zcl (by omega), e4]
  · unfold fX11_draws
    rw [zl_0, e2, Nat.zero_add, Nat.zero_add, l.2, e6, fX11_draws_L4_s, if_pos (nI_le (Nat.le_refl _) (by omega))]
    unfold fX11_draws_J88
    rw [zl_0, zcl (by omega), e5]
theorem xm_withinL {a : Nat → Nat} {i M : Nat} {P Q E : Int32} {cnt : Int32} {kind first second parts ohms spread now od wt : Nat → Int32} (hv : zV a) (hx : zXn a cnt kind first second parts) (hb : zXb a ohms spread) (hm : zMn a now) (hi : i < a 8) (g5 : zAr od nI 0 (apo a i)) (hM : M ≤ 30) (hW : FP.Core.FFin (FP.fdiv (FP.i2f P) (FP.i2f Q))) (hE : FP.Core.FFin (FP.i2f E)) : ∀ d j fu fu' (x sd pl : Int32) (pw pk ps : Nat → Int32) (arr brr : Nat → UInt32), j + d = M → d < fu → d < fu' → ∃ r sd' pl' pw' pk' ps' arr' brr', fX10_within_L67 parts kind first second ohms spread (nI i) (nI M) P Q E fu x (nI j) sd pl pw pk ps arr = some (r, sd', pl', pw', pk', ps', arr') ∧ fX11_within_L70 now (nI M) P Q E (nI (2 * aP a i - 1)) (nI 0) wt od fu' x (nI j) sd brr = some (r, nI (2 * aP a i - 1), nI 0, sd', wt, od, brr') := by
  intro d
  induction d with
  | zero =>
    intro j fu fu' x sd pl pw pk ps arr brr hd hfu hfu'
    obtain ⟨fu, rfl⟩ : ∃ f, fu = f + 1 := ⟨fu - 1, by omega⟩
    obtain ⟨fu', rfl⟩ : ∃ f, fu' = f + 1 := ⟨fu' - 1, by omega⟩
    refine ⟨x, sd, pl, pw, pk, ps, arr, brr, ?_, ?_⟩
    · rw [fX10_within_L67_s, if_pos (nI_le (by omega) (by omega))]
    · rw [fX11_within_L70_s, if_pos (nI_le (by omega) (by omega))]
  | succ d ih =>
    intro j fu fu' x sd pl pw pk ps arr brr hd hfu hfu'
    obtain ⟨fu, rfl⟩ : ∃ f, fu = f + 1 := ⟨fu - 1, by omega⟩
    obtain ⟨fu', rfl⟩ : ∃ f, fu' = f + 1 := ⟨fu' - 1, by omega⟩
    obtain ⟨v, sd1, pl1, pw1, pk1, ps1, arr1, brr1, e1, e2, e3⟩ := xm_drawOn hv hx hb hm hi g5 sd pl pw pk ps arr brr
    have b := zNet_b hv.2.2.1 hi hv.2.1
    have fv := zwn_fin e3 (by omega)
    have n1 := FP.Core.fsub_out (zwn_nn fv) hW
    have n2 := FP.Core.fsub_out' zwn_0 n1
    have n3 := FP.Core.fmul_out' n1 zwn_100 zwn_100z
    have n4 := FP.Core.fmul_out' n2 zwn_100 zwn_100z
    have n5 := FP.Core.fmul_out hW hE
    have nj : ¬ nI M ≤ nI j := nI_ge (by omega) (by omega)
    have key : ∀ y : UInt32, FP.fIsNaN (FP.fmul y (1120403456 : UInt32)) = false → ∃ r sd' pl' pw' pk' ps' arr' brr', fX10_within_J100 P Q E x (nI j) (fX10_within_L67 parts kind first second ohms spread (nI i) (nI M) P Q E fu) sd1 pl1 pw1 pk1 ps1 arr1 y = some (r, sd', pl', pw', pk', ps', arr') ∧ fX11_within_J98 P Q E x (nI j) (fX11_within_L70 now (nI M) P Q E (nI (2 * aP a i - 1)) (nI 0) wt od fu') sd1 brr1 y = some (r, nI (2 * aP a i - 1), nI 0, sd', wt, od, brr') := by
      intro y hy
      unfold fX10_within_J100 fX11_within_J98
      rw [zpT (zwn_ok hy), zpT (zwn_ok hy), zpT (zwn_ok n5), zpT (zwn_ok n5), zl_1, nI_add]
      by_cases c : 0 < (Op.cmpValue (FP.fcmp (FP.fmul y (1120403456 : UInt32)) (FP.fmul (FP.fdiv (FP.i2f P) (FP.i2f Q)) (FP.i2f E))) CmpOp.g)
      · rw [if_pos c, if_pos c, Int32.add_zero]
        exact ih (j + 1) fu fu' x sd1 pl1 pw1 pk1 ps1 arr1 brr1 (by omega) (by omega) (by omega)
      · rw [if_neg c, if_neg c]
        exact ih (j + 1) fu fu' (x + nI 1) sd1 pl1 pw1 pk1 ps1 arr1 brr1 (by omega) (by omega) (by omega)
    rw [fX10_within_L67_s, fX11_within_L70_s, if_neg nj, if_neg nj, zl_1, e1, zb7_k, e2, zb3_k, zpT (zwn_ok n1), zpT (zwn_ok n1)]
    by_cases c : 0 ≤ (Op.cmpValue (FP.fcmp (FP.fsub v (FP.fdiv (FP.i2f P) (FP.i2f Q))) FP.fconst0) CmpOp.g)
    · rw [if_pos c, if_pos c]
      exact key _ n3
    · rw [if_neg c, if_neg c, zpT (zwn_ok n2), zpT (zwn_ok n2)]
      exact key _ n4
theorem zw10 : ¬ nI 1 = nI 0 := by decide
theorem zwish (p q : Int32) : (fX10_isWish p q = some (nI 0) ∧ fX11_isWish p q = some (nI 0)) ∨ ∃ P Q, 1 ≤ P ∧ P ≤ 999 ∧ 1 ≤ Q ∧ Q ≤ 999 ∧ p = nI P ∧ q = nI Q ∧ fX10_isWish (nI P) (nI Q) = some (nI 1) ∧ fX11_isWish (nI P) (nI Q) = some (nI 1) := by
  have m : ∀ r : Int32, fX11_in r.toInt64 (1 : Int64) (999 : Int64) = fX10_isIn r (nI 1) (nI 999) := fun r => by
    rw [show (1 : Int64) = (nI 1).toInt64 from by decide, show (999 : Int64) = (nI 999).toInt64 from by decide]
    exact zin64 r _ _
  unfold fX10_isWish fX11_isWish
  rcases zrg p 1 999 (by decide) (by decide) with e | ⟨P, h1, h2, rfl, e⟩
  · left
    simp (disch := omega) only [m, zl_0, zl_1, zl_2, zl_3, zl_4, zl_5, zl_6, zl_8, zl_9, zl_11, zl_12, zl_13, zl_16, zl_20, zl_23, zl_24, zl_30, zl_32, zl_40, zl_41, zl_43, zl_45, zl_50, zl_52, zl_60, zl_97, zl_99, zl_100, zl_124, zl_126, zl_127, zl_169, zl_170, zl_171, zl_195, zl_200, zl_201, zl_256, zl_261, zl_999, zl_1100, zl_1884, zl_4095, zl_4096, zd1, zd2, zs1, nI_add, pk_mul, zsb, zad1, zad2, zcl, zgI, zif_le, zif_nle, zif_lt, zif_nlt, zif_eq, zif_ne, zif_self, zif_T, zif_F, Nat.zero_add, Nat.add_sub_cancel, zn21, zn31, zif_m1, zif_m1l, zif_m1n, zif_pm, zb1_k, zb2_k, zb3_k, zb4_k, zb5_k, zb6_k, zb7_k, zb8_k, zb9_k, zb10_k, zb11_k, zb12_k, zb14_k, zb21_k, zb22_k, zupd_eq, zupd_ne, zupl_eq, zupl_ne, zupf_eq, zupf_ne, e]
    exact ⟨trivial, trivial⟩
  rcases zrg q 1 999 (by decide) (by decide) with e' | ⟨Q, h3, h4, rfl, e'⟩
  · left
    simp (disch := omega) only [m, zl_0, zl_1, zl_2, zl_3, zl_4, zl_5, zl_6, zl_8, zl_9, zl_11, zl_12, zl_13, zl_16, zl_20, zl_23, zl_24, zl_30, zl_32, zl_40, zl_41, zl_43, zl_45, zl_50, zl_52, zl_60, zl_97, zl_99, zl_100, zl_124, zl_126, zl_127, zl_169, zl_170, zl_171, zl_195, zl_200, zl_201, zl_256, zl_261, zl_999, zl_1100, zl_1884, zl_4095, zl_4096, zd1, zd2, zs1, nI_add, pk_mul, zsb, zad1, zad2, zcl, zgI, zif_le, zif_nle, zif_lt, zif_nlt, zif_eq, zif_ne, zif_self, zif_T, zif_F, Nat.zero_add, Nat.add_sub_cancel, zn21, zn31, zif_m1, zif_m1l, zif_m1n, zif_pm, zb1_k, zb2_k, zb3_k, zb4_k, zb5_k, zb6_k, zb7_k, zb8_k, zb9_k, zb10_k, zb11_k, zb12_k, zb14_k, zb21_k, zb22_k, zupd_eq, zupd_ne, zupl_eq, zupl_ne, zupf_eq, zupf_ne, e, e']
    exact ⟨trivial, trivial⟩
  · right
    refine ⟨P, Q, h1, h2, h3, h4, rfl, rfl, ?_, ?_⟩
    · simp (disch := omega) only [m, zl_0, zl_1, zl_2, zl_3, zl_4, zl_5, zl_6, zl_8, zl_9, zl_11, zl_12, zl_13, zl_16, zl_20, zl_23, zl_24, zl_30, zl_32, zl_40, zl_41, zl_43, zl_45, zl_50, zl_52, zl_60, zl_97, zl_99, zl_100, zl_124, zl_126, zl_127, zl_169, zl_170, zl_171, zl_195, zl_200, zl_201, zl_256, zl_261, zl_999, zl_1100, zl_1884, zl_4095, zl_4096, zd1, zd2, zs1, nI_add, pk_mul, zsb, zad1, zad2, zcl, zgI, zif_le, zif_nle, zif_lt, zif_nlt, zif_eq, zif_ne, zif_self, zif_T, zif_F, Nat.zero_add, Nat.add_sub_cancel, zn21, zn31, zif_m1, zif_m1l, zif_m1n, zif_pm, zb1_k, zb2_k, zb3_k, zb4_k, zb5_k, zb6_k, zb7_k, zb8_k, zb9_k, zb10_k, zb11_k, zb12_k, zb14_k, zb21_k, zb22_k, zupd_eq, zupd_ne, zupl_eq, zupl_ne, zupf_eq, zupf_ne, e, e']
    · simp (disch := omega) only [m, zl_0, zl_1, zl_2, zl_3, zl_4, zl_5, zl_6, zl_8, zl_9, zl_11, zl_12, zl_13, zl_16, zl_20, zl_23, zl_24, zl_30, zl_32, zl_40, zl_41, zl_43, zl_45, zl_50, zl_52, zl_60, zl_97, zl_99, zl_100, zl_124, zl_126, zl_127, zl_169, zl_170, zl_171, zl_195, zl_200, zl_201, zl_256, zl_261, zl_999, zl_1100, zl_1884, zl_4095, zl_4096, zd1, zd2, zs1, nI_add, pk_mul, zsb, zad1, zad2, zcl, zgI, zif_le, zif_nle, zif_lt, zif_nlt, zif_eq, zif_ne, zif_self, zif_T, zif_F, Nat.zero_add, Nat.add_sub_cancel, zn21, zn31, zif_m1, zif_m1l, zif_m1n, zif_pm, zb1_k, zb2_k, zb3_k, zb4_k, zb5_k, zb6_k, zb7_k, zb8_k, zb9_k, zb10_k, zb11_k, zb12_k, zb14_k, zb21_k, zb22_k, zupd_eq, zupd_ne, zupl_eq, zupl_ne, zupf_eq, zupf_ne, e, e']
theorem zinM (r : Int32) {lo hi : Nat} {l h : Int64} (e1 : l = (nI lo).toInt64) (e2 : h = (nI hi).toInt64) : fX11_in r.toInt64 l h = fX10_isIn r (nI lo) (nI hi) := by
  subst e1
  subst e2
  exact zin64 r _ _
theorem q_within {Fd : FD → Prop} {k : Nat} : zQ_within (zR Fd) k := by
  intro xs ms h p1 p2 p3 p4 p5 p6
  have h0 := h
  obtain ⟨a, hv, hx, hm, hr⟩ := h
  obtain ⟨hB, hN, hM, hT0, hT1, hT2⟩ := id hx
  have h8 := hv.2.1
  have hc : x_nets_count xs = nI (a 8) := hN.1
  have hm8 : m_now ms 8 = nI (a 8) := hm.1 8 (by omega)
  have i1 : ∀ r : Int32, fX11_in r.toInt64 (1 : Int64) (30 : Int64) = fX10_isIn r (nI 1) (nI 30) := fun r => zinM r (by decide) (by decide)
  have i2 : ∀ r : Int32, fX11_in r.toInt64 (0 : Int64) (99 : Int64) = fX10_isIn r (nI 0) (nI 99) := fun r => zinM r (by decide) (by decide)
  rcases znet p1 h8 hm8 with ⟨e1, e2⟩ | ⟨i, hi, rfl, e1, e2⟩
  · refine zfin0 (-1 : Int32) h0 ?_ ?_
    · simp (disch := omega) only [stX10_within, fX10_within, zl_0, zl_1, zl_2, zl_3, zl_4, zl_5, zl_6, zl_8, zl_9, zl_11, zl_12, zl_13, zl_16, zl_20, zl_23, zl_24, zl_30, zl_32, zl_40, zl_41, zl_43, zl_45, zl_50, zl_52, zl_60, zl_97, zl_99, zl_100, zl_124, zl_126, zl_127, zl_169, zl_170, zl_171, zl_195, zl_200, zl_201, zl_256, zl_261, zl_999, zl_1100, zl_1884, zl_4095, zl_4096, zd1, zd2, zs1, nI_add, pk_mul, zsb, zad1, zad2, zcl, zgI, zif_le, zif_nle, zif_lt, zif_nlt, zif_eq, zif_ne, zif_self, zif_T, zif_F, Nat.zero_add, Nat.add_sub_cancel, zn21, zn31, zif_m1, zif_m1l, zif_m1n, zif_pm, zb1_k, zb2_k, zb3_k, zb4_k, zb5_k, zb6_k, zb7_k, zb8_k, zb9_k, zb10_k, zb11_k, zb12_k, zb14_k, zb21_k, zb22_k, zupd_eq, zupd_ne, zupl_eq, zupl_ne, zupf_eq, zupf_ne, hc, e1]
    · simp (disch := omega) only [stX11_within, fX11_within, zl_0, zl_1, zl_2, zl_3, zl_4, zl_5, zl_6, zl_8, zl_9, zl_11, zl_12, zl_13, zl_16, zl_20, zl_23, zl_24, zl_30, zl_32, zl_40, zl_41, zl_43, zl_45, zl_50, zl_52, zl_60, zl_97, zl_99, zl_100, zl_124, zl_126, zl_127, zl_169, zl_170, zl_171, zl_195, zl_200, zl_201, zl_256, zl_261, zl_999, zl_1100, zl_1884, zl_4095, zl_4096, zd1, zd2, zs1, nI_add, pk_mul, zsb, zad1, zad2, zcl, zgI, zif_le, zif_nle, zif_lt, zif_nlt, zif_eq, zif_ne, zif_self, zif_T, zif_F, Nat.zero_add, Nat.add_sub_cancel, zn21, zn31, zif_m1, zif_m1l, zif_m1n, zif_pm, zb1_k, zb2_k, zb3_k, zb4_k, zb5_k, zb6_k, zb7_k, zb8_k, zb9_k, zb10_k, zb11_k, zb12_k, zb14_k, zb21_k, zb22_k, zupd_eq, zupd_ne, zupl_eq, zupl_ne, zupf_eq, zupf_ne, e2]
  rcases zrg p3 1 30 (by decide) (by decide) with f1 | ⟨M, m1, m2, rfl, f1⟩
  · refine zfin0 (-1 : Int32) h0 ?_ ?_
    · simp (disch := omega) only [stX10_within, fX10_within, zl_0, zl_1, zl_2, zl_3, zl_4, zl_5, zl_6, zl_8, zl_9, zl_11, zl_12, zl_13, zl_16, zl_20, zl_23, zl_24, zl_30, zl_32, zl_40, zl_41, zl_43, zl_45, zl_50, zl_52, zl_60, zl_97, zl_99, zl_100, zl_124, zl_126, zl_127, zl_169, zl_170, zl_171, zl_195, zl_200, zl_201, zl_256, zl_261, zl_999, zl_1100, zl_1884, zl_4095, zl_4096, zd1, zd2, zs1, nI_add, pk_mul, zsb, zad1, zad2, zcl, zgI, zif_le, zif_nle, zif_lt, zif_nlt, zif_eq, zif_ne, zif_self, zif_T, zif_F, Nat.zero_add, Nat.add_sub_cancel, zn21, zn31, zif_m1, zif_m1l, zif_m1n, zif_pm, zb1_k, zb2_k, zb3_k, zb4_k, zb5_k, zb6_k, zb7_k, zb8_k, zb9_k, zb10_k, zb11_k, zb12_k, zb14_k, zb21_k, zb22_k, zupd_eq, zupd_ne, zupl_eq, zupl_ne, zupf_eq, zupf_ne, hc, e1, f1]
    · simp (disch := omega) only [stX11_within, fX11_within, zl_0, zl_1, zl_2, zl_3, zl_4, zl_5, zl_6, zl_8, zl_9, zl_11, zl_12, zl_13, zl_16, zl_20, zl_23, zl_24, zl_30, zl_32, zl_40, zl_41, zl_43, zl_45, zl_50, zl_52, zl_60, zl_97, zl_99, zl_100, zl_124, zl_126, zl_127, zl_169, zl_170, zl_171, zl_195, zl_200, zl_201, zl_256, zl_261, zl_999, zl_1100, zl_1884, zl_4095, zl_4096, zd1, zd2, zs1, nI_add, pk_mul, zsb, zad1, zad2, zcl, zgI, zif_le, zif_nle, zif_lt, zif_nlt, zif_eq, zif_ne, zif_self, zif_T, zif_F, Nat.zero_add, Nat.add_sub_cancel, zn21, zn31, zif_m1, zif_m1l, zif_m1n, zif_pm, zb1_k, zb2_k, zb3_k, zb4_k, zb5_k, zb6_k, zb7_k, zb8_k, zb9_k, zb10_k, zb11_k, zb12_k, zb14_k, zb21_k, zb22_k, zupd_eq, zupd_ne, zupl_eq, zupl_ne, zupf_eq, zupf_ne, i1, e2, f1]
  rcases zwish p4 p5 with ⟨g1, g2⟩ | ⟨P, Q, w1, w2, w3, w4, rfl, rfl, g1, g2⟩
  · refine zfin0 (-1 : Int32) h0 ?_ ?_
    · simp (disch := omega) only [stX10_within, fX10_within, zl_0, zl_1, zl_2, zl_3, zl_4, zl_5, zl_6, zl_8, zl_9, zl_11, zl_12, zl_13, zl_16, zl_20, zl_23, zl_24, zl_30, zl_32, zl_40, zl_41, zl_43, zl_45, zl_50, zl_52, zl_60, zl_97, zl_99, zl_100, zl_124, zl_126, zl_127, zl_169, zl_170, zl_171, zl_195, zl_200, zl_201, zl_256, zl_261, zl_999, zl_1100, zl_1884, zl_4095, zl_4096, zd1, zd2, zs1, nI_add, pk_mul, zsb, zad1, zad2, zcl, zgI, zif_le, zif_nle, zif_lt, zif_nlt, zif_eq, zif_ne, zif_self, zif_T, zif_F, Nat.zero_add, Nat.add_sub_cancel, zn21, zn31, zif_m1, zif_m1l, zif_m1n, zif_pm, zb1_k, zb2_k, zb3_k, zb4_k, zb5_k, zb6_k, zb7_k, zb8_k, zb9_k, zb10_k, zb11_k, zb12_k, zb14_k, zb21_k, zb22_k, zupd_eq, zupd_ne, zupl_eq, zupl_ne, zupf_eq, zupf_ne, hc, e1, f1, g1]
    · simp (disch := omega) only [stX11_within, fX11_within, zl_0, zl_1, zl_2, zl_3, zl_4, zl_5, zl_6, zl_8, zl_9, zl_11, zl_12, zl_13, zl_16, zl_20, zl_23, zl_24, zl_30, zl_32, zl_40, zl_41, zl_43, zl_45, zl_50, zl_52, zl_60, zl_97, zl_99, zl_100, zl_124, zl_126, zl_127, zl_169, zl_170, zl_171, zl_195, zl_200, zl_201, zl_256, zl_261, zl_999, zl_1100, zl_1884, zl_4095, zl_4096, zd1, zd2, zs1, nI_add, pk_mul, zsb, zad1, zad2, zcl, zgI, zif_le, zif_nle, zif_lt, zif_nlt, zif_eq, zif_ne, zif_self, zif_T, zif_F, Nat.zero_add, Nat.add_sub_cancel, zn21, zn31, zif_m1, zif_m1l, zif_m1n, zif_pm, zb1_k, zb2_k, zb3_k, zb4_k, zb5_k, zb6_k, zb7_k, zb8_k, zb9_k, zb10_k, zb11_k, zb12_k, zb14_k, zb21_k, zb22_k, zupd_eq, zupd_ne, zupl_eq, zupl_ne, zupf_eq, zupf_ne, i1, e2, f1, g2]
  rcases zrg p6 0 99 (by decide) (by decide) with d1 | ⟨E, _, q2, rfl, d1⟩
  · refine zfin0 (-1 : Int32) h0 ?_ ?_
    · simp (disch := omega) only [stX10_within, fX10_within, zl_0, zl_1, zl_2, zl_3, zl_4, zl_5, zl_6, zl_8, zl_9, zl_11, zl_12, zl_13, zl_16, zl_20, zl_23, zl_24, zl_30, zl_32, zl_40, zl_41, zl_43, zl_45, zl_50, zl_52, zl_60, zl_97, zl_99, zl_100, zl_124, zl_126, zl_127, zl_169, zl_170, zl_171, zl_195, zl_200, zl_201, zl_256, zl_261, zl_999, zl_1100, zl_1884, zl_4095, zl_4096, zd1, zd2, zs1, nI_add, pk_mul, zsb, zad1, zad2, zcl, zgI, zif_le, zif_nle, zif_lt, zif_nlt, zif_eq, zif_ne, zif_self, zif_T, zif_F, Nat.zero_add, Nat.add_sub_cancel, zn21, zn31, zif_m1, zif_m1l, zif_m1n, zif_pm, zb1_k, zb2_k, zb3_k, zb4_k, zb5_k, zb6_k, zb7_k, zb8_k, zb9_k, zb10_k, zb11_k, zb12_k, zb14_k, zb21_k, zb22_k, zupd_eq, zupd_ne, zupl_eq, zupl_ne, zupf_eq, zupf_ne, hc, e1, f1, g1, d1]
    · simp (disch := omega) only [stX11_within, fX11_within, zl_0, zl_1, zl_2, zl_3, zl_4, zl_5, zl_6, zl_8, zl_9, zl_11, zl_12, zl_13, zl_16, zl_20, zl_23, zl_24, zl_30, zl_32, zl_40, zl_41, zl_43, zl_45, zl_50, zl_52, zl_60, zl_97, zl_99, zl_100, zl_124, zl_126, zl_127, zl_169, zl_170, zl_171, zl_195, zl_200, zl_201, zl_256, zl_261, zl_999, zl_1100, zl_1884, zl_4095, zl_4096, zd1, zd2, zs1, nI_add, pk_mul, zsb, zad1, zad2, zcl, zgI, zif_le, zif_nle, zif_lt, zif_nlt, zif_eq, zif_ne, zif_self, zif_T, zif_F, Nat.zero_add, Nat.add_sub_cancel, zn21, zn31, zif_m1, zif_m1l, zif_m1n, zif_pm, zb1_k, zb2_k, zb3_k, zb4_k, zb5_k, zb6_k, zb7_k, zb8_k, zb9_k, zb10_k, zb11_k, zb12_k, zb14_k, zb21_k, zb22_k, zupd_eq, zupd_ne, zupl_eq, zupl_ne, zupf_eq, zupf_ne, i1, i2, e2, f1, g2, d1]
  have hW := zwn_w w1 w2 w3 w4
  have hE := zwn_e E (by omega)
  have nW := zwn_ok (zwn_nn hW)
  obtain ⟨wt', od', g4, g5⟩ := fm_goes hv hm hi (m_orderMany ms) (m_waitMany ms) (m_waits ms) (m_order ms)
  obtain ⟨r, sd', pl', pw', pk', ps', arr', brr', x1, x2⟩ := xm_withinL (wt := wt') hv hN hB hm hi g5 m2 hW hE M 0 5000 5000 (nI 0) p2 (x_meter_plan_length xs) (x_meter_plan_waiting xs) (x_meter_plan_kind xs) (x_meter_plan_sort xs) (x_meter_floats xs) (m_floats ms) (by omega) (by omega) (by omega)
  have X : fX10_within (nI i) p2 (nI M) (nI P) (nI Q) (nI E) (x_nets_count xs) (x_meter_seed xs) (x_nets_parts xs) (x_meter_plan_length xs) (x_meter_plan_waiting xs) (x_nets_kind xs) (x_meter_plan_kind xs) (x_nets_first xs) (x_meter_plan_sort xs) (x_nets_second xs) (x_box_ohms xs) (x_box_spread xs) (x_meter_floats xs) = some (r, sd', pl', pw', pk', ps', arr') := by
    unfold fX10_within
    rw [hc, e1, zb1_k, zl_0, if_neg zw10, zl_1, zl_30, f1, zb1_k, if_neg zw10, g1, zb1_k, if_neg zw10, zl_99, d1, zb1_k, if_neg zw10, zpT nW]
    exact x1
  have Y : fX11_within (nI i) p2 (nI M) (nI P) (nI Q) (nI E) (m_orderMany ms) (m_waitMany ms) (m_seed ms) (m_now ms) (m_waits ms) (m_order ms) (m_floats ms) = some (r, nI (2 * aP a i - 1), nI 0, sd', wt', od', brr') := by
    unfold fX11_within
    rw [e2, zb1_k, zl_0, if_neg zw10, i1, f1, zb1_k, if_neg zw10, g2, zb1_k, if_neg zw10, i2, d1, zb1_k, if_neg zw10, g4, zb4_k, zpT nW]
    exact x2
  refine zfinM r h0 ?_ ?_
  · simp (disch := omega) only [stX10_within, zl_0, zl_1, zl_2, zl_3, zl_4, zl_5, zl_6, zl_8, zl_9, zl_11, zl_12, zl_13, zl_16, zl_20, zl_23, zl_24, zl_30, zl_32, zl_40, zl_41, zl_43, zl_45, zl_50, zl_52, zl_60, zl_97, zl_99, zl_100, zl_124, zl_126, zl_127, zl_169, zl_170, zl_171, zl_195, zl_200, zl_201, zl_256, zl_261, zl_999, zl_1100, zl_1884, zl_4095, zl_4096, zd1, zd2, zs1, nI_add, pk_mul, zsb, zad1, zad2, zcl, zgI, zif_le, zif_nle, zif_lt, zif_nlt, zif_eq, zif_ne, zif_self, zif_T, zif_F, Nat.zero_add, Nat.add_sub_cancel, zn21, zn31, zif_m1, zif_m1l, zif_m1n, zif_pm, zb1_k, zb2_k, zb3_k, zb4_k, zb5_k, zb6_k, zb7_k, zb8_k, zb9_k, zb10_k, zb11_k, zb12_k, zb14_k, zb21_k, zb22_k, zupd_eq, zupd_ne, zupl_eq, zupl_ne, zupf_eq, zupf_ne, X]
    exact ⟨_, rfl⟩
  · simp (disch := omega) only [stX11_within, zl_0, zl_1, zl_2, zl_3, zl_4, zl_5, zl_6, zl_8, zl_9, zl_11, zl_12, zl_13, zl_16, zl_20, zl_23, zl_24, zl_30, zl_32, zl_40, zl_41, zl_43, zl_45, zl_50, zl_52, zl_60, zl_97, zl_99, zl_100, zl_124, zl_126, zl_127, zl_169, zl_170, zl_171, zl_195, zl_200, zl_201, zl_256, zl_261, zl_999, zl_1100, zl_1884, zl_4095, zl_4096, zd1, zd2, zs1, nI_add, pk_mul, zsb, zad1, zad2, zcl, zgI, zif_le, zif_nle, zif_lt, zif_nlt, zif_eq, zif_ne, zif_self, zif_T, zif_F, Nat.zero_add, Nat.add_sub_cancel, zn21, zn31, zif_m1, zif_m1l, zif_m1n, zif_pm, zb1_k, zb2_k, zb3_k, zb4_k, zb5_k, zb6_k, zb7_k, zb8_k, zb9_k, zb10_k, zb11_k, zb12_k, zb14_k, zb21_k, zb22_k, zupd_eq, zupd_ne, zupl_eq, zupl_ne, zupf_eq, zupf_ne, Y]
    exact ⟨_, rfl, rfl, rfl, rfl, rfl, rfl⟩
