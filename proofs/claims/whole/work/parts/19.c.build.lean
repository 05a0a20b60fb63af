/-! the class builds its rows level by level -/
theorem zwX_k {o b : Nat → Nat} {n : Nat} {L0 : List zwE} (h : zwX o b n L0) {i : Nat} : ∀ m, 1 ≤ m → m ≤ n → i < b m → ∃ k, 1 ≤ k ∧ k < m ∧ b k ≤ i ∧ i < b (k + 1)
  | 0, h1, _, _ => by omega
  | 1, _, _, h3 => by
    have := h.1
    omega
  | m + 2, _, h2, h3 => by
    by_cases z : i < b (m + 1)
    · obtain ⟨k, k1, k2, k3, k4⟩ := zwX_k h (m + 1) (by omega) (by omega) z
      exact ⟨k, k1, by omega, k3, k4⟩
    · exact ⟨m + 1, by omega, by omega, by omega, h3⟩
theorem zwG_I {o b : Nat → Nat} {n : Nat} {L0 l : List zwE} (h : zwX o b n L0) (hi : zwI o b n L0 l) (h1 : 1 ≤ n) (hn : n ≤ 4) : zwG l := by
  intro i e he
  by_cases z : i < L0.length
  · obtain ⟨k, k1, k2, k3, k4⟩ := zwX_k h n h1 (Nat.le_refl _) (by rw [h.2.2.1]; exact z)
    rw [zwP_s hi.1 z] at he
    exact zwB_op (by omega) (h.2.2.2.2 k k1 k2 i e k3 k4 he).1
  · exact zwB_op hn (hi.2.2 i e (by omega) he).1
theorem zwcb1 {p q : Nat × Nat} (hp : 0 < p.2) (hq : 0 < q.2) : zCb 1 p q = zRd (p.1 * q.2 + q.1 * p.2) (p.2 * q.2) := by
  unfold zCb
  rw [zwJ1 hp hq]
theorem zwcb2 {p q : Nat × Nat} (hp1 : 0 < p.1) (hq1 : 0 < q.1) (hp : 0 < p.2) (hq : 0 < q.2) : zCb 2 p q = zRd (p.1 * q.1) (p.1 * q.2 + q.1 * p.2) := by
  unfold zCb
  rw [zwJ2 hp1 hq1 hp hq]
theorem fx_pairsY {o b : Nat → Nat} {n k r x yhi : Nat} {L0 : List zwE} {st : Nat → Int32} (K : Int32 → Int32 → (Nat → Int32) → (Nat → Int32) → (Nat → Int32) → (Nat → Int32) → (Nat → Int32) → (Nat → Int32) → Option (Int32 × (Nat → Int32) × (Nat → Int32) × (Nat → Int32) × (Nat → Int32) × (Nat → Int32) × (Nat → Int32))) (h : zwX o b n L0) (hn : n ≤ 4) (k1 : 1 ≤ k) (k2 : k < n) (kr : r = n - k) (x1 : b k ≤ x) (x2 : x < b (k + 1)) (yh : yhi = b (r + 1)) (hst : st (r + 1) = nI yhi) : ∀ d y fu l sz ab be tb kd fi se, y + d = yhi → d < fu → b r ≤ y → zwI o b n L0 l → l.length + 2 * d ≤ 1884 → zwXr l sz tb ab be kd fi se → ∃ sz' ab' be' tb' kd' fi' se', fX7_addPairs_L36 K st (nI r) (nI x) fu (nI y) sz ab be tb kd fi se = K (nI (x + 1)) sz' ab' be' tb' kd' fi' se' ∧ zwXr (zwy x d y l) sz' tb' ab' be' kd' fi' se' := by
  intro d
  induction d with
  | zero =>
    intro y fu l sz ab be tb kd fi se hd hfu hy hI hl hr
    obtain ⟨fu, rfl⟩ : ∃ f, fu = f + 1 := ⟨fu - 1, by omega⟩
    have hb := (h.2.1 r (by omega) (by omega)).2
    have hL := zwP_l hI.1
    refine ⟨sz, ab, be, tb, kd, fi, se, ?_, hr⟩
    rw [fX7_addPairs_L36_s]
    simp (disch := omega) only [zl_0, zl_1, zl_2, zl_3, zl_4, zl_5, zl_6, zl_8, zl_9, zl_11, zl_12, zl_13, zl_16, zl_20, zl_23, zl_24, zl_30, zl_32, zl_40, zl_41, zl_43, zl_45, zl_50, zl_52, zl_60, zl_97, zl_99, zl_100, zl_124, zl_126, zl_127, zl_169, zl_170, zl_171, zl_195, zl_200, zl_201, zl_256, zl_261, zl_999, zl_1100, zl_1884, zl_4095, zl_4096, zd1, zd2, zs1, nI_add, pk_mul, zsb, zad1, zad2, zcl, zgI, zif_le, zif_nle, zif_lt, zif_nlt, zif_eq, zif_ne, zif_self, zif_T, zif_F, Nat.zero_add, Nat.add_sub_cancel, zn21, zn31, zif_m1, zif_m1l, zif_m1n, zif_pm, zb1_k, zb2_k, zb3_k, zb4_k, zb5_k, zb6_k, zb7_k, zb8_k, zb9_k, zb10_k, zb11_k, zb12_k, zb14_k, zb21_k, zb22_k, zupd_eq, zupd_ne, zupl_eq, zupl_ne, zupf_eq, zupf_ne, hst]
  | succ d ih =>
    intro y fu l sz ab be tb kd fi se hd hfu hy hI hl hr
    obtain ⟨fu, rfl⟩ : ∃ f, fu = f + 1 := ⟨fu - 1, by omega⟩
    have hb := (h.2.1 r (by omega) (by omega)).2
    have hL := zwP_l hI.1
    obtain ⟨vx, vx2⟩ := zwX_v h hI.1 k1 k2 x1 x2
    obtain ⟨vy, vy2⟩ := zwX_v h hI.1 (k := r) (by omega) (by omega) hy (by omega)
    have bc1 := zwB_op hn (zwcbn (kk := 1) (Or.inl rfl) k1 k2 hn vx (kr ▸ vy))
    have bc2 := zwB_op hn (zwcbn (kk := 2) (Or.inr rfl) k1 k2 hn vx (kr ▸ vy))
    have vx := zwB_op (by omega) vx
    have vy := zwB_op (by omega) vy
    obtain ⟨ex, hex⟩ := zwget (l := l) (i := x) (by omega)
    obtain ⟨ey, hey⟩ := zwget (l := l) (i := y) (by omega)
    have hG := zwG_I h hI (by omega) hn
    have I1 := zwI_a hI (e := (zCb 1 (zwv l x) (zwv l y), 1, x, y)) ⟨zwcbn (Or.inl rfl) k1 k2 hn (zwX_v h hI.1 k1 k2 x1 x2).1 (kr ▸ (zwX_v h hI.1 (k := r) (by omega) (by omega) hy (by omega)).1), Or.inr ⟨by omega, Or.inl rfl, k, k1, k2, x1, x2, kr ▸ hy, kr ▸ (show y < b (r + 1) by omega)⟩⟩
    have hG1 := zwG_I h I1 (by omega) hn
    have P1 := zwa_P l (zCb 1 (zwv l x) (zwv l y), 1, x, y)
    have len1 := zwa_len l (zCb 1 (zwv l x) (zwv l y), 1, x, y)
    have I2 := zwI_2 h hI hn k1 k2 x1 x2 (kr ▸ hy) (kr ▸ (show y < b (r + 1) by omega))
    have len2 := zw2_len l x y
    have ex1 := zwP_g P1 hex
    have ey1 := zwP_g P1 hey
    rw [show zwy x (d + 1) y l = zwy x d (y + 1) (zw2 l x y) from rfl]
    unfold zw2 at I2 len2 ⊢
    rw [zwv_e hex, zwv_e hey] at *
    obtain ⟨px, qx⟩ := ex
    obtain ⟨py, qy⟩ := ey
    simp only at *
    obtain ⟨a1, a2, a3, a4, a5⟩ := vx
    obtain ⟨c1, c2, c3, c4, c5⟩ := vy
    have m1 := Nat.mul_le_mul a2 c4
    have m2 := Nat.mul_le_mul c2 a4
    have m3 := Nat.mul_le_mul a2 c2
    have m4 := Nat.mul_le_mul a4 c4
    have n1 := Nat.mul_pos a1 c3
    have n2 := Nat.mul_pos a1 c1
    have n3 := Nat.mul_pos a3 c3
    rw [zwcb1 a3 c3] at *
    rw [zwcb2 a1 c1 a3 c3] at *
    obtain ⟨rx1, rx2, _⟩ := hr.2.2 x _ hex
    obtain ⟨ry1, ry2, _⟩ := hr.2.2 y _ hey
    obtain ⟨sz1, tb1, ab1, be1, kd1, fi1, se1, g1, g2⟩ := fx_add (h := 1) (x := x) (y := y) (s0 := nI y) hG (by omega) (show px.1 * py.2 + py.1 * px.2 < 4611686018427387904 by omega) (show px.2 * py.2 < 4611686018427387904 by omega) (by omega) bc1 (fun _ => rfl) hr
    obtain ⟨sx1, sx2, _⟩ := g2.2.2 x _ ex1
    obtain ⟨sy1, sy2, _⟩ := g2.2.2 y _ ey1
    obtain ⟨sz2, tb2, ab2, be2, kd2, fi2, se2, g3, g4⟩ := fx_add (h := 2) (x := x) (y := y) (s0 := nI y) hG1 (by omega) (show px.1 * py.1 < 4611686018427387904 by omega) (show px.1 * py.2 + py.1 * px.2 < 4611686018427387904 by omega) n2 bc2 (fun _ => rfl) g2
    obtain ⟨sz', ab', be', tb', kd', fi', se', f1, f2⟩ := ih (y + 1) fu _ sz2 ab2 be2 tb2 kd2 fi2 se2 (by omega) (by omega) (by omega) I2 (by omega) g4
    refine ⟨sz', ab', be', tb', kd', fi', se', ?_, f2⟩
    rw [← f1, fX7_addPairs_L36_s]
    simp only at rx1 rx2 ry1 ry2 sx1 sx2 sy1 sy2
    simp (disch := omega) only [zl_0, zl_1, zl_2, zl_3, zl_4, zl_5, zl_6, zl_8, zl_9, zl_11, zl_12, zl_13, zl_16, zl_20, zl_23, zl_24, zl_30, zl_32, zl_40, zl_41, zl_43, zl_45, zl_50, zl_52, zl_60, zl_97, zl_99, zl_100, zl_124, zl_126, zl_127, zl_169, zl_170, zl_171, zl_195, zl_200, zl_201, zl_256, zl_261, zl_999, zl_1100, zl_1884, zl_4095, zl_4096, zd1, zd2, zs1, nI_add, pk_mul, zsb, zad1, zad2, zcl, zgI, zif_le, zif_nle, zif_lt, zif_nlt, zif_eq, zif_ne, zif_self, zif_T, zif_F, Nat.zero_add, Nat.add_sub_cancel, zn21, zn31, zif_m1, zif_m1l, zif_m1n, zif_pm, zb1_k, zb2_k, zb3_k, zb4_k, zb5_k, zb6_k, zb7_k, zb8_k, zb9_k, zb10_k, zb11_k, zb12_k, zb14_k, zb21_k, zb22_k, zupd_eq, zupd_ne, zupl_eq, zupl_ne, zupf_eq, zupf_ne, hst, rx1, rx2, ry1, ry2, zi2l, zL_mul, zL_add, g1, sx1, sy1, g3]
theorem fx_pairsX {o b : Nat → Nat} {n k r : Nat} {L0 : List zwE} {st : Nat → Int32} (h : zwX o b n L0) (hn : n ≤ 4) (k1 : 1 ≤ k) (k2 : k < n) (kr : r = n - k) (hst : ∀ j, 1 ≤ j → j ≤ n → st j = nI (b j)) : ∀ d x fu l sz ab be tb kd fi se, x + d = b (k + 1) → d < fu → b k ≤ x → zwI o b n L0 l → l.length + 2 * zwc (decide (k = r)) (b r) (b (r + 1)) d x ≤ 1884 → zwXr l sz tb ab be kd fi se → ∃ sz' ab' be' tb' kd' fi' se', fX7_addPairs_L7 st (nI k) (nI r) fu (nI x) sz ab be tb kd fi se = some (sz', ab', be', tb', kd', fi', se') ∧ zwXr (zwx (decide (k = r)) (b r) (b (r + 1)) d x l) sz' tb' ab' be' kd' fi' se' := by
  have hs1 := hst (k + 1) (by omega) (by omega)
  have hs2 := hst r (by omega) (by omega)
  have hs3 := hst (r + 1) (by omega) (by omega)
  have hb1 := h.2.1 k k1 k2
  have hb2 := h.2.1 r (by omega) (by omega)
  intro d
  induction d with
  | zero =>
    intro x fu l sz ab be tb kd fi se hd hfu hx hI hl hr
    obtain ⟨fu, rfl⟩ : ∃ f, fu = f + 1 := ⟨fu - 1, by omega⟩
    have hL := zwP_l hI.1
    refine ⟨sz, ab, be, tb, kd, fi, se, ?_, hr⟩
    rw [fX7_addPairs_L7_s]
    simp (disch := omega) only [zl_0, zl_1, zl_2, zl_3, zl_4, zl_5, zl_6, zl_8, zl_9, zl_11, zl_12, zl_13, zl_16, zl_20, zl_23, zl_24, zl_30, zl_32, zl_40, zl_41, zl_43, zl_45, zl_50, zl_52, zl_60, zl_97, zl_99, zl_100, zl_124, zl_126, zl_127, zl_169, zl_170, zl_171, zl_195, zl_200, zl_201, zl_256, zl_261, zl_999, zl_1100, zl_1884, zl_4095, zl_4096, zd1, zd2, zs1, nI_add, pk_mul, zsb, zad1, zad2, zcl, zgI, zif_le, zif_nle, zif_lt, zif_nlt, zif_eq, zif_ne, zif_self, zif_T, zif_F, Nat.zero_add, Nat.add_sub_cancel, zn21, zn31, zif_m1, zif_m1l, zif_m1n, zif_pm, zb1_k, zb2_k, zb3_k, zb4_k, zb5_k, zb6_k, zb7_k, zb8_k, zb9_k, zb10_k, zb11_k, zb12_k, zb14_k, zb21_k, zb22_k, zupd_eq, zupd_ne, zupl_eq, zupl_ne, zupf_eq, zupf_ne, hs1]
  | succ d ih =>
    intro x fu l sz ab be tb kd fi se hd hfu hx hI hl hr
    obtain ⟨fu, rfl⟩ : ∃ f, fu = f + 1 := ⟨fu - 1, by omega⟩
    have hL := zwP_l hI.1
    have e2 : zwc (decide (k = r)) (b r) (b (r + 1)) (d + 1) x = (b (r + 1) - zwlo (decide (k = r)) (b r) x) + zwc (decide (k = r)) (b r) (b (r + 1)) d (x + 1) := rfl
    rw [e2] at hl
    have lo1 : b r ≤ zwlo (decide (k = r)) (b r) x ∧ zwlo (decide (k = r)) (b r) x ≤ b (r + 1) := by
      unfold zwlo
      by_cases z : k = r
      · rw [if_pos (decide_eq_true z)]
        rw [z] at hx hd
        omega
      · rw [if_neg (fun w => z (of_decide_eq_true w))]
        omega
    have ly := zwy_len x (b (r + 1) - zwlo (decide (k = r)) (b r) x) (zwlo (decide (k = r)) (b r) x) l
    have Iy : zwI o b n L0 (zwy x (b (r + 1) - zwlo (decide (k = r)) (b r) x) (zwlo (decide (k = r)) (b r) x) l) := zwy_I _ _ l hI (fun l' y' q h1 h2 => zwI_2 h q hn k1 k2 hx (by omega) (kr ▸ (show b r ≤ y' by omega)) (kr ▸ (show y' < b (r + 1) by omega)))
    obtain ⟨sz1, ab1, be1, tb1, kd1, fi1, se1, g1, g2⟩ := fx_pairsY (fX7_addPairs_L7 st (nI k) (nI r) fu) h hn k1 k2 kr hx (by omega) rfl hs3 (b (r + 1) - zwlo (decide (k = r)) (b r) x) (zwlo (decide (k = r)) (b r) x) 5000 l sz ab be tb kd fi se (by omega) (by omega) lo1.1 hI (by omega) hr
    obtain ⟨sz', ab', be', tb', kd', fi', se', f1, f2⟩ := ih (x + 1) fu _ sz1 ab1 be1 tb1 kd1 fi1 se1 (by omega) (by omega) (by omega) Iy (by omega) g2
    refine ⟨sz', ab', be', tb', kd', fi', se', ?_, f2⟩
    rw [← f1, ← g1, fX7_addPairs_L7_s]
    by_cases z : k = r
    · have lo : zwlo (decide (k = r)) (b r) x = x := if_pos (decide_eq_true z)
      rw [lo]
      simp (disch := omega) only [zl_0, zl_1, zl_2, zl_3, zl_4, zl_5, zl_6, zl_8, zl_9, zl_11, zl_12, zl_13, zl_16, zl_20, zl_23, zl_24, zl_30, zl_32, zl_40, zl_41, zl_43, zl_45, zl_50, zl_52, zl_60, zl_97, zl_99, zl_100, zl_124, zl_126, zl_127, zl_169, zl_170, zl_171, zl_195, zl_200, zl_201, zl_256, zl_261, zl_999, zl_1100, zl_1884, zl_4095, zl_4096, zd1, zd2, zs1, nI_add, pk_mul, zsb, zad1, zad2, zcl, zgI, zif_le, zif_nle, zif_lt, zif_nlt, zif_eq, zif_ne, zif_self, zif_T, zif_F, Nat.zero_add, Nat.add_sub_cancel, zn21, zn31, zif_m1, zif_m1l, zif_m1n, zif_pm, zb1_k, zb2_k, zb3_k, zb4_k, zb5_k, zb6_k, zb7_k, zb8_k, zb9_k, zb10_k, zb11_k, zb12_k, zb14_k, zb21_k, zb22_k, zupd_eq, zupd_ne, zupl_eq, zupl_ne, zupf_eq, zupf_ne, hs1, fX7_addPairs_J34]
    · have lo : zwlo (decide (k = r)) (b r) x = b r := if_neg (fun w => z (of_decide_eq_true w))
      rw [lo]
      simp (disch := omega) only [zl_0, zl_1, zl_2, zl_3, zl_4, zl_5, zl_6, zl_8, zl_9, zl_11, zl_12, zl_13, zl_16, zl_20, zl_23, zl_24, zl_30, zl_32, zl_40, zl_41, zl_43, zl_45, zl_50, zl_52, zl_60, zl_97, zl_99, zl_100, zl_124, zl_126, zl_127, zl_169, zl_170, zl_171, zl_195, zl_200, zl_201, zl_256, zl_261, zl_999, zl_1100, zl_1884, zl_4095, zl_4096, zd1, zd2, zs1, nI_add, pk_mul, zsb, zad1, zad2, zcl, zgI, zif_le, zif_nle, zif_lt, zif_nlt, zif_eq, zif_ne, zif_self, zif_T, zif_F, Nat.zero_add, Nat.add_sub_cancel, zn21, zn31, zif_m1, zif_m1l, zif_m1n, zif_pm, zb1_k, zb2_k, zb3_k, zb4_k, zb5_k, zb6_k, zb7_k, zb8_k, zb9_k, zb10_k, zb11_k, zb12_k, zb14_k, zb21_k, zb22_k, zupd_eq, zupd_ne, zupl_eq, zupl_ne, zupf_eq, zupf_ne, hs1, hs2, fX7_addPairs_J34]
theorem fx_buildK {o b : Nat → Nat} {n : Nat} {L0 : List zwE} {st st0 : Nat → Int32} {s0 : Int32} (K : Int32 → (Nat → Int32) → (Nat → Int32) → (Nat → Int32) → (Nat → Int32) → (Nat → Int32) → (Nat → Int32) → Option (Int32 × Int32 × Int32 × (Nat → Int32) × (Nat → Int32) × (Nat → Int32) × (Nat → Int32) × (Nat → Int32) × (Nat → Int32) × (Nat → Int32) × (Nat → Int32))) (h : zwX o b n L0) (h1 : 1 ≤ n) (hn : n ≤ 4) (est : st = upd st0 n s0) (hst : ∀ j, 1 ≤ j → j ≤ n → st j = nI (b j)) : ∀ d k fu l sz ab be tb kd fi se, k + d = n / 2 + 1 → d < fu → 1 ≤ k → zwI o b n L0 l → l.length + 2 * zwkc b n d k ≤ 1884 → zwXr l sz tb ab be kd fi se → ∃ sz' ab' be' tb' kd' fi' se', fX7_build_L85 K (nI n) s0 st0 fu (nI k) sz tb ab be kd fi se = K sz' tb' ab' be' kd' fi' se' ∧ zwXr (zwk b n d k l) sz' tb' ab' be' kd' fi' se' := by
  have dv : nI n / nI 2 = nI (n / 2) := pk_div (by omega) (by omega) (by omega)
  intro d
  induction d with
  | zero =>
    intro k fu l sz ab be tb kd fi se hd hfu hk hI hl hr
    obtain ⟨fu, rfl⟩ : ∃ f, fu = f + 1 := ⟨fu - 1, by omega⟩
    refine ⟨sz, ab, be, tb, kd, fi, se, ?_, hr⟩
    rw [fX7_build_L85_s]
    simp (disch := omega) only [zl_0, zl_1, zl_2, zl_3, zl_4, zl_5, zl_6, zl_8, zl_9, zl_11, zl_12, zl_13, zl_16, zl_20, zl_23, zl_24, zl_30, zl_32, zl_40, zl_41, zl_43, zl_45, zl_50, zl_52, zl_60, zl_97, zl_99, zl_100, zl_124, zl_126, zl_127, zl_169, zl_170, zl_171, zl_195, zl_200, zl_201, zl_256, zl_261, zl_999, zl_1100, zl_1884, zl_4095, zl_4096, zd1, zd2, zs1, nI_add, pk_mul, zsb, zad1, zad2, zcl, zgI, zif_le, zif_nle, zif_lt, zif_nlt, zif_eq, zif_ne, zif_self, zif_T, zif_F, Nat.zero_add, Nat.add_sub_cancel, zn21, zn31, zif_m1, zif_m1l, zif_m1n, zif_pm, zb1_k, zb2_k, zb3_k, zb4_k, zb5_k, zb6_k, zb7_k, zb8_k, zb9_k, zb10_k, zb11_k, zb12_k, zb14_k, zb21_k, zb22_k, zupd_eq, zupd_ne, zupl_eq, zupl_ne, zupf_eq, zupf_ne, dv]
  | succ d ih =>
    intro k fu l sz ab be tb kd fi se hd hfu hk hI hl hr
    obtain ⟨fu, rfl⟩ : ∃ f, fu = f + 1 := ⟨fu - 1, by omega⟩
    have hL := zwP_l hI.1
    have hb1 := h.2.1 k hk (by omega)
    have e2 : zwkc b n (d + 1) k = zwc (decide (k = n - k)) (b (n - k)) (b (n - k + 1)) (b (k + 1) - b k) (b k) + zwkc b n d (k + 1) := rfl
    rw [e2] at hl
    have lx := zwx_len (decide (k = n - k)) (b (n - k)) (b (n - k + 1)) (b (k + 1) - b k) (b k) l
    have Ix : zwI o b n L0 (zwx (decide (k = n - k)) (b (n - k)) (b (n - k + 1)) (b (k + 1) - b k) (b k) l) := zwx_I _ _ l hI (fun l' x' y' q h1 h2 h3 h4 => zwI_2 h q hn hk (by omega) h1 (by omega) (by
      unfold zwlo at h3
      by_cases z : k = n - k
      · rw [if_pos (decide_eq_true z)] at h3
        rw [← z]
        omega
      · rw [if_neg (fun w => z (of_decide_eq_true w))] at h3
        exact h3) h4)
    obtain ⟨sz1, ab1, be1, tb1, kd1, fi1, se1, g1, g2⟩ := fx_pairsX (r := n - k) h hn hk (by omega) rfl hst (b (k + 1) - b k) (b k) 5000 l sz ab be tb kd fi se (by omega) (by omega) (Nat.le_refl _) hI (by omega) hr
    obtain ⟨sz', ab', be', tb', kd', fi', se', f1, f2⟩ := ih (k + 1) fu _ sz1 ab1 be1 tb1 kd1 fi1 se1 (by omega) (by omega) (by omega) Ix (by omega) g2
    refine ⟨sz', ab', be', tb', kd', fi', se', ?_, f2⟩
    have sk := hst k hk (by omega)
    have ap : fX7_addPairs (nI k) (nI (n - k)) sz (upd st0 n s0) ab be tb kd fi se = some (sz1, ab1, be1, tb1, kd1, fi1, se1) := by
      unfold fX7_addPairs
      rw [← est]
      simp (disch := omega) only [zl_0, zl_1, zl_2, zl_3, zl_4, zl_5, zl_6, zl_8, zl_9, zl_11, zl_12, zl_13, zl_16, zl_20, zl_23, zl_24, zl_30, zl_32, zl_40, zl_41, zl_43, zl_45, zl_50, zl_52, zl_60, zl_97, zl_99, zl_100, zl_124, zl_126, zl_127, zl_169, zl_170, zl_171, zl_195, zl_200, zl_201, zl_256, zl_261, zl_999, zl_1100, zl_1884, zl_4095, zl_4096, zd1, zd2, zs1, nI_add, pk_mul, zsb, zad1, zad2, zcl, zgI, zif_le, zif_nle, zif_lt, zif_nlt, zif_eq, zif_ne, zif_self, zif_T, zif_F, Nat.zero_add, Nat.add_sub_cancel, zn21, zn31, zif_m1, zif_m1l, zif_m1n, zif_pm, zb1_k, zb2_k, zb3_k, zb4_k, zb5_k, zb6_k, zb7_k, zb8_k, zb9_k, zb10_k, zb11_k, zb12_k, zb14_k, zb21_k, zb22_k, zupd_eq, zupd_ne, zupl_eq, zupl_ne, zupf_eq, zupf_ne, sk, g1]
    rw [← f1, fX7_build_L85_s]
    simp (disch := omega) only [zl_0, zl_1, zl_2, zl_3, zl_4, zl_5, zl_6, zl_8, zl_9, zl_11, zl_12, zl_13, zl_16, zl_20, zl_23, zl_24, zl_30, zl_32, zl_40, zl_41, zl_43, zl_45, zl_50, zl_52, zl_60, zl_97, zl_99, zl_100, zl_124, zl_126, zl_127, zl_169, zl_170, zl_171, zl_195, zl_200, zl_201, zl_256, zl_261, zl_999, zl_1100, zl_1884, zl_4095, zl_4096, zd1, zd2, zs1, nI_add, pk_mul, zsb, zad1, zad2, zcl, zgI, zif_le, zif_nle, zif_lt, zif_nlt, zif_eq, zif_ne, zif_self, zif_T, zif_F, Nat.zero_add, Nat.add_sub_cancel, zn21, zn31, zif_m1, zif_m1l, zif_m1n, zif_pm, zb1_k, zb2_k, zb3_k, zb4_k, zb5_k, zb6_k, zb7_k, zb8_k, zb9_k, zb10_k, zb11_k, zb12_k, zb14_k, zb21_k, zb22_k, zupd_eq, zupd_ne, zupl_eq, zupl_ne, zupf_eq, zupf_ne, dv, ap]
theorem fx_parts {a : Nat → Nat} {ohms spread : Nat → Int32} (hx : zXb a ohms spread) (hb : zBox a) : ∀ d s fu l sz tb ab be kd fi se, s + d = 4 → d < fu → zwG l → l.length + d ≤ 4 → zwXr l sz tb ab be kd fi se → ∃ sz' tb' ab' be' kd' fi' se', fX7_addParts_L2 ohms fu (nI s) sz tb ab be kd fi se = some (sz', tb', ab', be', kd', fi', se') ∧ zwXr (zw1 a d s l) sz' tb' ab' be' kd' fi' se' := by
  intro d
  induction d with
  | zero =>
    intro s fu l sz tb ab be kd fi se hd hfu hG hl hr
    obtain ⟨fu, rfl⟩ : ∃ f, fu = f + 1 := ⟨fu - 1, by omega⟩
    refine ⟨sz, tb, ab, be, kd, fi, se, ?_, hr⟩
    rw [fX7_addParts_L2_s]
    simp (disch := omega) only [zl_0, zl_1, zl_2, zl_3, zl_4, zl_5, zl_6, zl_8, zl_9, zl_11, zl_12, zl_13, zl_16, zl_20, zl_23, zl_24, zl_30, zl_32, zl_40, zl_41, zl_43, zl_45, zl_50, zl_52, zl_60, zl_97, zl_99, zl_100, zl_124, zl_126, zl_127, zl_169, zl_170, zl_171, zl_195, zl_200, zl_201, zl_256, zl_261, zl_999, zl_1100, zl_1884, zl_4095, zl_4096, zd1, zd2, zs1, nI_add, pk_mul, zsb, zad1, zad2, zcl, zgI, zif_le, zif_nle, zif_lt, zif_nlt, zif_eq, zif_ne, zif_self, zif_T, zif_F, Nat.zero_add, Nat.add_sub_cancel, zn21, zn31, zif_m1, zif_m1l, zif_m1n, zif_pm, zb1_k, zb2_k, zb3_k, zb4_k, zb5_k, zb6_k, zb7_k, zb8_k, zb9_k, zb10_k, zb11_k, zb12_k, zb14_k, zb21_k, zb22_k, zupd_eq, zupd_ne, zupl_eq, zupl_ne, zupf_eq, zupf_ne]
  | succ d ih =>
    intro s fu l sz tb ab be kd fi se hd hfu hG hl hr
    obtain ⟨fu, rfl⟩ : ∃ f, fu = f + 1 := ⟨fu - 1, by omega⟩
    have hs := fx_hasSort hx hb (s := s) (by omega)
    have os := hx.1 s (by omega)
    have b99 := (hb s (by omega)).1
    rw [show zw1 a (d + 1) s l = zw1 a d (s + 1) (if a s = 0 then l else zwa l ((a s, 1), 0, s, 0)) from rfl]
    by_cases z : a s = 0
    · rw [if_pos z] at hs ⊢
      obtain ⟨sz', tb', ab', be', kd', fi', se', f1, f2⟩ := ih (s + 1) fu l sz tb ab be kd fi se (by omega) (by omega) hG (by omega) hr
      refine ⟨sz', tb', ab', be', kd', fi', se', ?_, f2⟩
      rw [← f1, fX7_addParts_L2_s]
      simp (disch := omega) only [zl_0, zl_1, zl_2, zl_3, zl_4, zl_5, zl_6, zl_8, zl_9, zl_11, zl_12, zl_13, zl_16, zl_20, zl_23, zl_24, zl_30, zl_32, zl_40, zl_41, zl_43, zl_45, zl_50, zl_52, zl_60, zl_97, zl_99, zl_100, zl_124, zl_126, zl_127, zl_169, zl_170, zl_171, zl_195, zl_200, zl_201, zl_256, zl_261, zl_999, zl_1100, zl_1884, zl_4095, zl_4096, zd1, zd2, zs1, nI_add, pk_mul, zsb, zad1, zad2, zcl, zgI, zif_le, zif_nle, zif_lt, zif_nlt, zif_eq, zif_ne, zif_self, zif_T, zif_F, Nat.zero_add, Nat.add_sub_cancel, zn21, zn31, zif_m1, zif_m1l, zif_m1n, zif_pm, zb1_k, zb2_k, zb3_k, zb4_k, zb5_k, zb6_k, zb7_k, zb8_k, zb9_k, zb10_k, zb11_k, zb12_k, zb14_k, zb21_k, zb22_k, zupd_eq, zupd_ne, zupl_eq, zupl_ne, zupf_eq, zupf_ne, hs]
    · rw [if_neg z] at hs ⊢
      have rd : zRd (a s) 1 = (a s, 1) := zRd_id (Nat.gcd_one_right _)
      have bb : zwB 96059601 3881196 (a s, 1) := ⟨by show 0 < a s; omega, by show a s ≤ _; omega, by show 0 < 1; omega, by show 1 ≤ 3881196; omega, Nat.gcd_one_right _⟩
      obtain ⟨sz1, tb1, ab1, be1, kd1, fi1, se1, g1, g2⟩ := fx_add (h := 0) (x := s) (y := 0) (u := a s) (v := 1) (s0 := -nI 1) hG (by omega) (by omega) (by omega) (by omega) (by rw [rd]; exact bb) (fun w => absurd rfl w) hr
      rw [rd] at g2
      have G1 : zwG (zwa l ((a s, 1), 0, s, 0)) := by
        unfold zwa
        by_cases w : zwh l (a s, 1) = true
        · rw [if_pos w]; exact hG
        · rw [if_neg w]
          intro i e he
          rcases zwsn he with he | ⟨_, rfl⟩
          · exact hG i e he
          · exact bb
      have len := zwa_len l ((a s, 1), 0, s, 0)
      obtain ⟨sz', tb', ab', be', kd', fi', se', f1, f2⟩ := ih (s + 1) fu _ sz1 tb1 ab1 be1 kd1 fi1 se1 (by omega) (by omega) G1 (by omega) g2
      refine ⟨sz', tb', ab', be', kd', fi', se', ?_, f2⟩
      have z1 : (1 : Int64) = zL 1 := zl64_1
      rw [← f1, fX7_addParts_L2_s]
      simp (disch := omega) only [zl_0, zl_1, zl_2, zl_3, zl_4, zl_5, zl_6, zl_8, zl_9, zl_11, zl_12, zl_13, zl_16, zl_20, zl_23, zl_24, zl_30, zl_32, zl_40, zl_41, zl_43, zl_45, zl_50, zl_52, zl_60, zl_97, zl_99, zl_100, zl_124, zl_126, zl_127, zl_169, zl_170, zl_171, zl_195, zl_200, zl_201, zl_256, zl_261, zl_999, zl_1100, zl_1884, zl_4095, zl_4096, zd1, zd2, zs1, nI_add, pk_mul, zsb, zad1, zad2, zcl, zgI, zif_le, zif_nle, zif_lt, zif_nlt, zif_eq, zif_ne, zif_self, zif_T, zif_F, Nat.zero_add, Nat.add_sub_cancel, zn21, zn31, zif_m1, zif_m1l, zif_m1n, zif_pm, zb1_k, zb2_k, zb3_k, zb4_k, zb5_k, zb6_k, zb7_k, zb8_k, zb9_k, zb10_k, zb11_k, zb12_k, zb14_k, zb21_k, zb22_k, zupd_eq, zupd_ne, zupl_eq, zupl_ne, zupf_eq, zupf_ne, hs, os, zi2l, z1, g1]
def zwRp (o : Nat → Nat) (m : Nat) (sz lv : Int32) (tb st ab be kd fi se : Nat → Int32) : Prop := lv = nI m ∧ zwXr (zwL o m).1 sz tb ab be kd fi se ∧ ∀ k, 1 ≤ k → k ≤ m + 1 → st k = nI ((zwL o m).2 k)
theorem fx_buildL {a : Nat → Nat} {ohms spread bf : Nat → Int32} {lio : Int32} {N : Nat} (hx : zXb a ohms spread) (hb : zBox a) (hN : N ≤ 4) : ∀ d m fu sz lv tb st ab be kd fi se, m + d = N → d < fu → zwRp a m sz lv tb st ab be kd fi se → ∃ sz' lv' tb' st' ab' be' kd' fi' se', fX7_build_L54 ohms (nI N) lio bf fu (nI (m + 1)) sz lv tb st ab be kd fi se = some (sz', lv', lio, bf, tb', st', ab', be', kd', fi', se') ∧ zwRp a N sz' lv' tb' st' ab' be' kd' fi' se' := by
  have ho : ∀ s, s < 4 → a s ≤ 99 := fun s hs => (hb s hs).1
  intro d
  induction d with
  | zero =>
    intro m fu sz lv tb st ab be kd fi se hd hfu hr
    obtain ⟨fu, rfl⟩ : ∃ f, fu = f + 1 := ⟨fu - 1, by omega⟩
    have : m = N := by omega
    subst this
    refine ⟨sz, lv, tb, st, ab, be, kd, fi, se, ?_, hr⟩
    rw [fX7_build_L54_s]
    simp (disch := omega) only [zl_0, zl_1, zl_2, zl_3, zl_4, zl_5, zl_6, zl_8, zl_9, zl_11, zl_12, zl_13, zl_16, zl_20, zl_23, zl_24, zl_30, zl_32, zl_40, zl_41, zl_43, zl_45, zl_50, zl_52, zl_60, zl_97, zl_99, zl_100, zl_124, zl_126, zl_127, zl_169, zl_170, zl_171, zl_195, zl_200, zl_201, zl_256, zl_261, zl_999, zl_1100, zl_1884, zl_4095, zl_4096, zd1, zd2, zs1, nI_add, pk_mul, zsb, zad1, zad2, zcl, zgI, zif_le, zif_nle, zif_lt, zif_nlt, zif_eq, zif_ne, zif_self, zif_T, zif_F, Nat.zero_add, Nat.add_sub_cancel, zn21, zn31, zif_m1, zif_m1l, zif_m1n, zif_pm, zb1_k, zb2_k, zb3_k, zb4_k, zb5_k, zb6_k, zb7_k, zb8_k, zb9_k, zb10_k, zb11_k, zb12_k, zb14_k, zb21_k, zb22_k, zupd_eq, zupd_ne, zupl_eq, zupl_ne, zupf_eq, zupf_ne]
  | succ d ih =>
    intro m fu sz lv tb st ab be kd fi se hd hfu hr
    obtain ⟨fu, rfl⟩ : ∃ f, fu = f + 1 := ⟨fu - 1, by omega⟩
    obtain ⟨r1, r2, r3⟩ := hr
    have hX := zwX_s ho m (by omega)
    have fin : ∀ sz2 tb2 ab2 be2 kd2 fi2 se2, zwXr (zwL a (m + 1)).1 sz2 tb2 ab2 be2 kd2 fi2 se2 → ∃ sz' lv' tb' st' ab' be' kd' fi' se', fX7_build_J106 (nI (m + 1)) sz st (fX7_build_L54 ohms (nI N) lio bf fu) sz2 tb2 ab2 be2 kd2 fi2 se2 = some (sz', lv', lio, bf, tb', st', ab', be', kd', fi', se') ∧ zwRp a N sz' lv' tb' st' ab' be' kd' fi' se' := by
      intro sz2 tb2 ab2 be2 kd2 fi2 se2 g
      obtain ⟨sz', lv', tb', st', ab', be', kd', fi', se', f1, f2⟩ := ih (m + 1) fu sz2 (nI (m + 1)) tb2 (upd (upd st (m + 1) sz) (m + 2) sz2) ab2 be2 kd2 fi2 se2 (by omega) (by omega) ⟨rfl, g, fun k h1 h2 => by
        by_cases e : k = m + 2
        · rw [zupd_eq e, e, zwL_n a m]
          exact g.1
        · rw [zupd_ne e, zwL_b a (by omega)]
          by_cases e1 : k = m + 1
          · rw [zupd_eq e1, e1, zwL_bl a]
            exact r2.1
          · rw [zupd_ne e1]
            exact r3 k h1 (by omega)⟩
      refine ⟨sz', lv', tb', st', ab', be', kd', fi', se', ?_, f2⟩
      rw [← f1]
      unfold fX7_build_J106
      simp (disch := omega) only [zl_0, zl_1, zl_2, zl_3, zl_4, zl_5, zl_6, zl_8, zl_9, zl_11, zl_12, zl_13, zl_16, zl_20, zl_23, zl_24, zl_30, zl_32, zl_40, zl_41, zl_43, zl_45, zl_50, zl_52, zl_60, zl_97, zl_99, zl_100, zl_124, zl_126, zl_127, zl_169, zl_170, zl_171, zl_195, zl_200, zl_201, zl_256, zl_261, zl_999, zl_1100, zl_1884, zl_4095, zl_4096, zd1, zd2, zs1, nI_add, pk_mul, zsb, zad1, zad2, zcl, zgI, zif_le, zif_nle, zif_lt, zif_nlt, zif_eq, zif_ne, zif_self, zif_T, zif_F, Nat.zero_add, Nat.add_sub_cancel, zn21, zn31, zif_m1, zif_m1l, zif_m1n, zif_pm, zb1_k, zb2_k, zb3_k, zb4_k, zb5_k, zb6_k, zb7_k, zb8_k, zb9_k, zb10_k, zb11_k, zb12_k, zb14_k, zb21_k, zb22_k, zupd_eq, zupd_ne, zupl_eq, zupl_ne, zupf_eq, zupf_ne]
    have hst : ∀ j, 1 ≤ j → j ≤ m + 1 → upd st (m + 1) sz j = nI ((zwL a m).2 j) := by
      intro j h1 h2
      by_cases e1 : j = m + 1
      · rw [zupd_eq e1, e1, zwL_bl a]
        exact r2.1
      · rw [zupd_ne e1]
        exact r3 j h1 (by omega)
    have c1 : ¬ nI N < nI (m + 1) := nI_nlt (by omega) (by omega)
    have c2 : ¬ nI 4 < nI (m + 1) := nI_nlt (by omega) (by omega)
    rw [fX7_build_L54_s, zl_4, if_neg c1, if_neg c2, zgI (by omega) (by omega), zl_1]
    by_cases z : m = 0
    · subst z
      obtain ⟨sz1, tb1, ab1, be1, kd1, fi1, se1, g1, g2⟩ := fx_parts hx hb 4 0 5000 [] sz tb ab be kd fi se (by omega) (by omega) (fun i e he => by cases he) (by simp only [List.length_nil]; omega) r2
      have g1 : fX7_addParts sz ohms tb ab be kd fi se = some (sz1, tb1, ab1, be1, kd1, fi1, se1) := by
        unfold fX7_addParts
        rw [zl_0]
        exact g1
      obtain ⟨sz', lv', tb', st', ab', be', kd', fi', se', f1, f2⟩ := fin sz1 tb1 ab1 be1 kd1 fi1 se1 g2
      refine ⟨sz', lv', tb', st', ab', be', kd', fi', se', ?_, f2⟩
      rw [← f1]
      have dv : nI 1 / nI 2 = nI 0 := by decide
      rw [zif_eq rfl, g1, zb7_k]
      unfold fX7_build_J83
      rw [show (5000 : Nat) = 4999 + 1 from rfl, fX7_build_L85_s, zl_2, zl_1, dv, if_pos (nI_lt (by omega) (by omega))]
    · obtain ⟨n1, n2, n3, n4, n5, n6, n7⟩ := zwN ho
      have cnt : (zwL a m).1.length + 2 * zwkc (zwL a m).2 (m + 1) ((m + 1) / 2) 1 ≤ 1884 := by
        have c : m = 1 ∨ m = 2 ∨ m = 3 := by omega
        rcases c with rfl | rfl | rfl
        · exact n5
        · exact n6
        · exact n7
      obtain ⟨sz1, ab1, be1, tb1, kd1, fi1, se1, g1, g2⟩ := fx_buildK (fX7_build_J106 (nI (m + 1)) sz st (fX7_build_L54 ohms (nI N) lio bf fu)) hX (by omega) (by omega) rfl hst ((m + 1) / 2) 1 5000 _ sz ab be tb kd fi se (by omega) (by omega) (by omega) (zwI_0 hX) cnt r2
      have eS : (zwL a (m + 1)).1 = zwk (zwL a m).2 (m + 1) ((m + 1) / 2) 1 (zwL a m).1 := by
        rw [zwL_1]
        unfold zwS
        rw [if_neg z]
      rw [← eS] at g2
      obtain ⟨sz', lv', tb', st', ab', be', kd', fi', se', f1, f2⟩ := fin sz1 tb1 ab1 be1 kd1 fi1 se1 g2
      refine ⟨sz', lv', tb', st', ab', be', kd', fi', se', ?_, f2⟩
      rw [← f1, ← g1, zif_ne (by omega) (by omega) (by omega)]
      unfold fX7_build_J83
      rw [zl_1]
theorem fx_fill0 : ∀ (f : Nat → Int32), ∃ g, fJ7_fill_53178 (0 : Int32) 4096 f = some g ∧ ∀ i, i < 4096 → g i = nI 0 := by
  have key : ∀ d j fu (f : Nat → Int32), j + d = 4096 → d < fu → (∀ i, i < j → f i = nI 0) → ∃ g, fJ7_fill_53178_L5 4096 (nI 0) fu (nI j) f = some g ∧ ∀ i, i < 4096 → g i = nI 0 := by
    intro d
    induction d with
    | zero =>
      intro j fu f hj hfu hf
      obtain ⟨fu, rfl⟩ : ∃ f, fu = f + 1 := ⟨fu - 1, by omega⟩
      refine ⟨f, ?_, fun i hi => hf i (by omega)⟩
      rw [fJ7_fill_53178_L5_s, if_pos (show Int32.ofNat 4096 ≤ nI j from nI_le (a := 4096) (by omega) (by omega))]
    | succ d ih =>
      intro j fu f hj hfu hf
      obtain ⟨fu, rfl⟩ : ∃ f, fu = f + 1 := ⟨fu - 1, by omega⟩
      obtain ⟨g, h1, h2⟩ := ih (j + 1) fu (upd f j (nI 0)) (by omega) (by omega) (fun i hi => by
        by_cases e : i = j
        · rw [zupd_eq e]
        · rw [zupd_ne e]; exact hf i (by omega))
      refine ⟨g, ?_, h2⟩
      rw [fJ7_fill_53178_L5_s, if_neg (show ¬ Int32.ofNat 4096 ≤ nI j from nI_ge (b := 4096) (by omega) (by omega)), zgI (by omega) (by omega), zcl (by omega), zl_1, nI_add]
      exact h1
  intro f
  unfold fJ7_fill_53178
  rw [zl_0]
  exact key 4096 0 5000 f (by omega) (by omega) (fun i hi => by omega)
theorem zwcn_0 : ∀ n, zwcn (fun _ => 0) n = 0
  | 0 => rfl
  | n + 1 => by
    show zwcn (fun _ => 0) n + (if (0 : Nat) = 0 then 0 else 1) = 0
    rw [zwcn_0 n, if_pos rfl]
theorem fx_same {O a : Nat → Nat} {bf ohms spread : Nat → Int32} (hO : ∀ s, s < 4 → O s ≤ 99) (hf : ∀ s, s < 4 → bf s = nI (O s)) (hx : zXb a ohms spread) (hb : zBox a) : (fX7_isBuiltForBox bf ohms = some (nI 1) ∧ ∀ s, s < 4 → O s = a s) ∨ fX7_isBuiltForBox bf ohms = some (nI 0) := by
  have key : ∀ d j fu, j + d = 4 → d < fu → (∀ s, s < j → O s = a s) → (fX7_isBuiltForBox_L2 bf ohms fu (nI j) = some (nI 1) ∧ ∀ s, s < 4 → O s = a s) ∨ fX7_isBuiltForBox_L2 bf ohms fu (nI j) = some (nI 0) := by
    intro d
    induction d with
    | zero =>
      intro j fu hj hfu hs
      obtain ⟨fu, rfl⟩ : ∃ f, fu = f + 1 := ⟨fu - 1, by omega⟩
      left
      refine ⟨?_, fun s h => hs s (by omega)⟩
      rw [fX7_isBuiltForBox_L2_s]
      simp (disch := omega) only [zl_0, zl_1, zl_2, zl_3, zl_4, zl_5, zl_6, zl_8, zl_9, zl_11, zl_12, zl_13, zl_16, zl_20, zl_23, zl_24, zl_30, zl_32, zl_40, zl_41, zl_43, zl_45, zl_50, zl_52, zl_60, zl_97, zl_99, zl_100, zl_124, zl_126, zl_127, zl_169, zl_170, zl_171, zl_195, zl_200, zl_201, zl_256, zl_261, zl_999, zl_1100, zl_1884, zl_4095, zl_4096, zd1, zd2, zs1, nI_add, pk_mul, zsb, zad1, zad2, zcl, zgI, zif_le, zif_nle, zif_lt, zif_nlt, zif_eq, zif_ne, zif_self, zif_T, zif_F, Nat.zero_add, Nat.add_sub_cancel, zn21, zn31, zif_m1, zif_m1l, zif_m1n, zif_pm, zb1_k, zb2_k, zb3_k, zb4_k, zb5_k, zb6_k, zb7_k, zb8_k, zb9_k, zb10_k, zb11_k, zb12_k, zb14_k, zb21_k, zb22_k, zupd_eq, zupd_ne, zupl_eq, zupl_ne, zupf_eq, zupf_ne]
    | succ d ih =>
      intro j fu hj hfu hs
      obtain ⟨fu, rfl⟩ : ∃ f, fu = f + 1 := ⟨fu - 1, by omega⟩
      have e1 := hf j (by omega)
      have e2 := hx.1 j (by omega)
      have b1 := hO j (by omega)
      have b2 := (hb j (by omega)).1
      rw [fX7_isBuiltForBox_L2_s]
      by_cases q : O j = a j
      · have := ih (j + 1) fu (by omega) (by omega) (fun s h => by
          by_cases e : s = j
          · rw [e]; exact q
          · exact hs s (by omega))
        simp (disch := omega) only [zl_0, zl_1, zl_2, zl_3, zl_4, zl_5, zl_6, zl_8, zl_9, zl_11, zl_12, zl_13, zl_16, zl_20, zl_23, zl_24, zl_30, zl_32, zl_40, zl_41, zl_43, zl_45, zl_50, zl_52, zl_60, zl_97, zl_99, zl_100, zl_124, zl_126, zl_127, zl_169, zl_170, zl_171, zl_195, zl_200, zl_201, zl_256, zl_261, zl_999, zl_1100, zl_1884, zl_4095, zl_4096, zd1, zd2, zs1, nI_add, pk_mul, zsb, zad1, zad2, zcl, zgI, zif_le, zif_nle, zif_lt, zif_nlt, zif_eq, zif_ne, zif_self, zif_T, zif_F, Nat.zero_add, Nat.add_sub_cancel, zn21, zn31, zif_m1, zif_m1l, zif_m1n, zif_pm, zb1_k, zb2_k, zb3_k, zb4_k, zb5_k, zb6_k, zb7_k, zb8_k, zb9_k, zb10_k, zb11_k, zb12_k, zb14_k, zb21_k, zb22_k, zupd_eq, zupd_ne, zupl_eq, zupl_ne, zupf_eq, zupf_ne, e1, e2]
        exact this
      · right
        simp (disch := omega) only [zl_0, zl_1, zl_2, zl_3, zl_4, zl_5, zl_6, zl_8, zl_9, zl_11, zl_12, zl_13, zl_16, zl_20, zl_23, zl_24, zl_30, zl_32, zl_40, zl_41, zl_43, zl_45, zl_50, zl_52, zl_60, zl_97, zl_99, zl_100, zl_124, zl_126, zl_127, zl_169, zl_170, zl_171, zl_195, zl_200, zl_201, zl_256, zl_261, zl_999, zl_1100, zl_1884, zl_4095, zl_4096, zd1, zd2, zs1, nI_add, pk_mul, zsb, zad1, zad2, zcl, zgI, zif_le, zif_nle, zif_lt, zif_nlt, zif_eq, zif_ne, zif_self, zif_T, zif_F, Nat.zero_add, Nat.add_sub_cancel, zn21, zn31, zif_m1, zif_m1l, zif_m1n, zif_pm, zb1_k, zb2_k, zb3_k, zb4_k, zb5_k, zb6_k, zb7_k, zb8_k, zb9_k, zb10_k, zb11_k, zb12_k, zb14_k, zb21_k, zb22_k, zupd_eq, zupd_ne, zupl_eq, zupl_ne, zupf_eq, zupf_ne, e1, e2]
  unfold fX7_isBuiltForBox
  rw [zl_0]
  exact key 4 0 5000 (by omega) (by omega) (fun s h => by omega)
theorem fx_build {O a : Nat → Nat} {m N : Nat} {bf ohms spread tb st ab be kd fi se : Nat → Int32} {sz lv lio : Int32} (hO : ∀ s, s < 4 → O s ≤ 99) (hf : ∀ s, s < 4 → bf s = nI (O s)) (hx : zXb a ohms spread) (hb : zBox a) (hm : m ≤ 4) (hN : N ≤ 4) (hr : zwRp O m sz lv tb st ab be kd fi se) : ∃ m' sz' lv' lio' bf' tb' st' ab' be' kd' fi' se', fX7_build (nI N) sz lv lio bf ohms tb st ab be kd fi se = some (sz', lv', lio', bf', tb', st', ab', be', kd', fi', se') ∧ zwRp a m' sz' lv' tb' st' ab' be' kd' fi' se' ∧ N ≤ m' ∧ m' ≤ 4 ∧ (∀ s, s < 4 → bf' s = nI (a s)) ∧ ((lio' = lio ∧ m ≤ m' ∧ ∀ s, s < 4 → O s = a s) ∨ lio' = nI 0) := by
  have ho : ∀ s, s < 4 → a s ≤ 99 := fun s hs => (hb s hs).1
  rcases fx_same hO hf hx hb with ⟨e, q⟩ | e
  · have hr : zwRp a m sz lv tb st ab be kd fi se := by
      unfold zwRp at hr ⊢
      rw [zwL_c q m] at hr
      exact hr
    have hfa : ∀ s, s < 4 → bf s = nI (a s) := fun s hs => by rw [hf s hs, q s hs]
    have lv1 := hr.1
    by_cases z : m ≤ N
    · obtain ⟨sz', lv', tb', st', ab', be', kd', fi', se', f1, f2⟩ := fx_buildL (lio := lio) (bf := bf) hx hb hN (N - m) m 5000 sz lv tb st ab be kd fi se (by omega) (by omega) hr
      refine ⟨N, sz', lv', lio, bf, tb', st', ab', be', kd', fi', se', ?_, f2, Nat.le_refl _, hN, hfa, Or.inl ⟨rfl, z, q⟩⟩
      unfold fX7_build fX7_build_J47
      simp (disch := omega) only [zl_0, zl_1, zl_2, zl_3, zl_4, zl_5, zl_6, zl_8, zl_9, zl_11, zl_12, zl_13, zl_16, zl_20, zl_23, zl_24, zl_30, zl_32, zl_40, zl_41, zl_43, zl_45, zl_50, zl_52, zl_60, zl_97, zl_99, zl_100, zl_124, zl_126, zl_127, zl_169, zl_170, zl_171, zl_195, zl_200, zl_201, zl_256, zl_261, zl_999, zl_1100, zl_1884, zl_4095, zl_4096, zd1, zd2, zs1, nI_add, pk_mul, zsb, zad1, zad2, zcl, zgI, zif_le, zif_nle, zif_lt, zif_nlt, zif_eq, zif_ne, zif_self, zif_T, zif_F, Nat.zero_add, Nat.add_sub_cancel, zn21, zn31, zif_m1, zif_m1l, zif_m1n, zif_pm, zb1_k, zb2_k, zb3_k, zb4_k, zb5_k, zb6_k, zb7_k, zb8_k, zb9_k, zb10_k, zb11_k, zb12_k, zb14_k, zb21_k, zb22_k, zupd_eq, zupd_ne, zupl_eq, zupl_ne, zupf_eq, zupf_ne, e, lv1]
      rw [lv1] at f1
      exact f1
    · refine ⟨m, sz, lv, lio, bf, tb, st, ab, be, kd, fi, se, ?_, hr, by omega, hm, hfa, Or.inl ⟨rfl, Nat.le_refl _, q⟩⟩
      unfold fX7_build fX7_build_J47
      simp (disch := omega) only [zl_0, zl_1, zl_2, zl_3, zl_4, zl_5, zl_6, zl_8, zl_9, zl_11, zl_12, zl_13, zl_16, zl_20, zl_23, zl_24, zl_30, zl_32, zl_40, zl_41, zl_43, zl_45, zl_50, zl_52, zl_60, zl_97, zl_99, zl_100, zl_124, zl_126, zl_127, zl_169, zl_170, zl_171, zl_195, zl_200, zl_201, zl_256, zl_261, zl_999, zl_1100, zl_1884, zl_4095, zl_4096, zd1, zd2, zs1, nI_add, pk_mul, zsb, zad1, zad2, zcl, zgI, zif_le, zif_nle, zif_lt, zif_nlt, zif_eq, zif_ne, zif_self, zif_T, zif_F, Nat.zero_add, Nat.add_sub_cancel, zn21, zn31, zif_m1, zif_m1l, zif_m1n, zif_pm, zb1_k, zb2_k, zb3_k, zb4_k, zb5_k, zb6_k, zb7_k, zb8_k, zb9_k, zb10_k, zb11_k, zb12_k, zb14_k, zb21_k, zb22_k, zupd_eq, zupd_ne, zupl_eq, zupl_ne, zupf_eq, zupf_ne, e, lv1]
      rw [show (5000 : Nat) = 4999 + 1 from rfl, fX7_build_L54_s, if_pos (nI_lt (by omega) (by omega))]
  · obtain ⟨g, g1, g2⟩ := fx_fill0 tb
    have hr0 : zwRp a 0 (nI 0) (nI 0) g st ab be kd fi se := by
      refine ⟨rfl, ⟨rfl, ⟨fun _ => 0, g2, ⟨fun i hi => Nat.zero_le _, zwcn_0 4096, fun i e he => by cases he⟩⟩, fun i e he => by cases he⟩, fun k h1 h2 => ?_⟩
      have : k = 1 := by omega
      subst this
      rw [hr.2.2 1 (by omega) (by omega), zwL_b1, zwL_b1]
    obtain ⟨sz', lv', tb', st', ab', be', kd', fi', se', f1, f2⟩ := fx_buildL (lio := nI 0) (bf := va_cpy ohms bf 0 0 4) hx hb hN N 0 5000 (nI 0) (nI 0) g st ab be kd fi se (by omega) (by omega) hr0
    refine ⟨N, sz', lv', nI 0, va_cpy ohms bf 0 0 4, tb', st', ab', be', kd', fi', se', ?_, f2, Nat.le_refl _, hN, fun s hs => (zcpyI hs).trans (hx.1 s hs), Or.inr rfl⟩
    rw [zl_0] at g1
    unfold fX7_build fX7_build_J47
    simp (disch := omega) only [zl_0, zl_1, zl_2, zl_3, zl_4, zl_5, zl_6, zl_8, zl_9, zl_11, zl_12, zl_13, zl_16, zl_20, zl_23, zl_24, zl_30, zl_32, zl_40, zl_41, zl_43, zl_45, zl_50, zl_52, zl_60, zl_97, zl_99, zl_100, zl_124, zl_126, zl_127, zl_169, zl_170, zl_171, zl_195, zl_200, zl_201, zl_256, zl_261, zl_999, zl_1100, zl_1884, zl_4095, zl_4096, zd1, zd2, zs1, nI_add, pk_mul, zsb, zad1, zad2, zcl, zgI, zif_le, zif_nle, zif_lt, zif_nlt, zif_eq, zif_ne, zif_self, zif_T, zif_F, Nat.zero_add, Nat.add_sub_cancel, zn21, zn31, zif_m1, zif_m1l, zif_m1n, zif_pm, zb1_k, zb2_k, zb3_k, zb4_k, zb5_k, zb6_k, zb7_k, zb8_k, zb9_k, zb10_k, zb11_k, zb12_k, zb14_k, zb21_k, zb22_k, zupd_eq, zupd_ne, zupl_eq, zupl_ne, zupf_eq, zupf_ne, e, g1]
    exact f1
