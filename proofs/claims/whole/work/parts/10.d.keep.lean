/-! keeping nets, on both sides -/
theorem zMn_up {a : Nat → Nat} {now : Nat → Int32} (hm : zMn a now) {k v : Nat} (hk : k < 195 ∨ (201 ≤ k ∧ k < 261)) : zMn (vf_upd a k v) (upd now k (nI v)) := by
  refine ⟨fun j hj => ?_, fun t ht hz => ?_, fun j h1 h2 => ?_⟩
  · by_cases e : j = k
    · rw [zupd_eq e, zupf_eq e]
    · rw [zupd_ne e, zupf_ne e]; exact hm.1 j hj
  · rw [zupf_ne (by omega)] at hz; rw [zupd_ne (by omega), zupf_ne (by omega)]; exact hm.2.1 t ht hz
  · by_cases e : j = k
    · rw [zupd_eq e, zupf_eq e]
    · rw [zupd_ne e, zupf_ne e]; exact hm.2.2 j h1 h2
theorem fm_kept {a : Nat → Nat} {now : Nat → Int32} {kk ff ss pp : Nat} (hv : zV a) (hm : zMn a now) (h : zNew a kk ff ss pp) : ∃ now', fX11_kept (nI kk) (nI ff) (nI ss) (nI pp) now = some ((zKp a kk ff ss pp).1, now') ∧ zMn (zKp a kk ff ss pp).2 now' := by
  have b := zNew_b hv.2.1 h
  have h8 := hv.2.1
  have hf := fm_find (kk := kk) (ff := ff) (ss := ss) hv.2.1 hv.2.2.1 hm b.1 b.2.1 b.2.2.1
  unfold fX11_kept
  cases e : zfnd (zP a kk ff ss) (a 8) 0 with
  | some i =>
    have hi := zfnd_s _ _ _ e
    refine ⟨now, ?_, ?_⟩
    · simp (disch := omega) only [zl_0, zl_1, zl_2, zl_3, zl_4, zl_5, zl_6, zl_8, zl_9, zl_11, zl_12, zl_13, zl_16, zl_20, zl_23, zl_24, zl_30, zl_32, zl_40, zl_41, zl_43, zl_45, zl_50, zl_52, zl_60, zl_97, zl_99, zl_100, zl_124, zl_126, zl_127, zl_169, zl_170, zl_171, zl_195, zl_200, zl_201, zl_256, zl_261, zl_999, zl_1100, zl_1884, zl_4095, zl_4096, zd1, zd2, zs1, nI_add, pk_mul, zsb, zad1, zad2, zcl, zgI, zif_le, zif_nle, zif_lt, zif_nlt, zif_eq, zif_ne, zif_self, zif_T, zif_F, Nat.zero_add, Nat.add_sub_cancel, zn21, zn31, zif_m1, zif_m1l, zif_m1n, zif_pm, zb1_k, zb2_k, zb3_k, zb4_k, zb5_k, zb6_k, zb7_k, zb8_k, zb9_k, zb10_k, zb11_k, zb12_k, zb14_k, zb21_k, zb22_k, zupd_eq, zupd_ne, zupl_eq, zupl_ne, zupf_eq, zupf_ne, hf, e, zopt_n, zopt_j, zKp]
    · simp only [zKp, e]; exact hm
  | none =>
    by_cases e8 : a 8 = 40
    · refine ⟨now, ?_, ?_⟩
      · simp (disch := omega) only [zl_0, zl_1, zl_2, zl_3, zl_4, zl_5, zl_6, zl_8, zl_9, zl_11, zl_12, zl_13, zl_16, zl_20, zl_23, zl_24, zl_30, zl_32, zl_40, zl_41, zl_43, zl_45, zl_50, zl_52, zl_60, zl_97, zl_99, zl_100, zl_124, zl_126, zl_127, zl_169, zl_170, zl_171, zl_195, zl_200, zl_201, zl_256, zl_261, zl_999, zl_1100, zl_1884, zl_4095, zl_4096, zd1, zd2, zs1, nI_add, pk_mul, zsb, zad1, zad2, zcl, zgI, zif_le, zif_nle, zif_lt, zif_nlt, zif_eq, zif_ne, zif_self, zif_T, zif_F, Nat.zero_add, Nat.add_sub_cancel, zn21, zn31, zif_m1, zif_m1l, zif_m1n, zif_pm, zb1_k, zb2_k, zb3_k, zb4_k, zb5_k, zb6_k, zb7_k, zb8_k, zb9_k, zb10_k, zb11_k, zb12_k, zb14_k, zb21_k, zb22_k, zupd_eq, zupd_ne, zupl_eq, zupl_ne, zupf_eq, zupf_ne, hf, e, zopt_n, zopt_j, zKp, hm.1, if_pos e8]
      · simp only [zKp, e, if_pos e8]; exact hm
    · refine ⟨upd (upd (upd (upd (upd now (9 + 4 * a 8) (nI kk)) (9 + 4 * a 8 + 1) (nI ff)) (9 + 4 * a 8 + 2) (nI ss)) (9 + 4 * a 8 + 3) (nI pp)) 8 (nI (a 8 + 1)), ?_, ?_⟩
      · simp (disch := omega) only [zl_0, zl_1, zl_2, zl_3, zl_4, zl_5, zl_6, zl_8, zl_9, zl_11, zl_12, zl_13, zl_16, zl_20, zl_23, zl_24, zl_30, zl_32, zl_40, zl_41, zl_43, zl_45, zl_50, zl_52, zl_60, zl_97, zl_99, zl_100, zl_124, zl_126, zl_127, zl_169, zl_170, zl_171, zl_195, zl_200, zl_201, zl_256, zl_261, zl_999, zl_1100, zl_1884, zl_4095, zl_4096, zd1, zd2, zs1, nI_add, pk_mul, zsb, zad1, zad2, zcl, zgI, zif_le, zif_nle, zif_lt, zif_nlt, zif_eq, zif_ne, zif_self, zif_T, zif_F, Nat.zero_add, Nat.add_sub_cancel, zn21, zn31, zif_m1, zif_m1l, zif_m1n, zif_pm, zb1_k, zb2_k, zb3_k, zb4_k, zb5_k, zb6_k, zb7_k, zb8_k, zb9_k, zb10_k, zb11_k, zb12_k, zb14_k, zb21_k, zb22_k, zupd_eq, zupd_ne, zupl_eq, zupl_ne, zupf_eq, zupf_ne, hf, e, zopt_n, zopt_j, zKp, hm.1, if_neg e8]
      · simp only [zKp, e, if_neg e8]
        unfold zAdd
        exact zMn_up (zMn_up (zMn_up (zMn_up (zMn_up hm (by omega)) (by omega)) (by omega)) (by omega)) (by omega)
theorem fx_keepPart {a : Nat → Nat} {cnt : Int32} {kind first second parts : Nat → Int32} {s : Nat} (hv : zV a) (hx : zXn a cnt kind first second parts) (hs : s < 4) : ∃ cnt' k' f' s' p', fX5_keepPart (nI s) cnt kind first second parts = some ((zKp a 0 s 0 1).1, cnt', k', f', s', p') ∧ zXn (zKp a 0 s 0 1).2 cnt' k' f' s' p' := by
  have h8 := hv.2.1
  have hf : fX5_find (nI 0) (nI s) (-nI 1) cnt kind first second = some (zopt (zfnd (zP a 0 s 0) (a 8) 0)) := fx_find (kk := 0) (ff := s) (ss := 0) h8 hv.2.2.1 hx (by omega) (by omega) (by omega) (fun _ => rfl)
  have hc : cnt = nI (a 8) := hx.1
  subst hc
  unfold fX5_keepPart fX5_partOf fX5_add
  cases e : zfnd (zP a 0 s 0) (a 8) 0 with
  | some i =>
    have hi := zfnd_s _ _ _ e
    refine ⟨nI (a 8), kind, first, second, parts, ?_, ?_⟩
    · simp (disch := omega) only [zl_0, zl_1, zl_2, zl_3, zl_4, zl_5, zl_6, zl_8, zl_9, zl_11, zl_12, zl_13, zl_16, zl_20, zl_23, zl_24, zl_30, zl_32, zl_40, zl_41, zl_43, zl_45, zl_50, zl_52, zl_60, zl_97, zl_99, zl_100, zl_124, zl_126, zl_127, zl_169, zl_170, zl_171, zl_195, zl_200, zl_201, zl_256, zl_261, zl_999, zl_1100, zl_1884, zl_4095, zl_4096, zd1, zd2, zs1, nI_add, pk_mul, zsb, zad1, zad2, zcl, zgI, zif_le, zif_nle, zif_lt, zif_nlt, zif_eq, zif_ne, zif_self, zif_T, zif_F, Nat.zero_add, Nat.add_sub_cancel, zn21, zn31, zif_m1, zif_m1l, zif_m1n, zif_pm, zb1_k, zb2_k, zb3_k, zb4_k, zb5_k, zb6_k, zb7_k, zb8_k, zb9_k, zb10_k, zb11_k, zb12_k, zb14_k, zb21_k, zb22_k, zupd_eq, zupd_ne, zupl_eq, zupl_ne, zupf_eq, zupf_ne, hf, e, zopt_n, zopt_j, zKp]
    · simp only [zKp, e]; exact hx
  | none =>
    by_cases e8 : a 8 = 40
    · refine ⟨nI (a 8), kind, first, second, parts, ?_, ?_⟩
      · simp (disch := omega) only [zl_0, zl_1, zl_2, zl_3, zl_4, zl_5, zl_6, zl_8, zl_9, zl_11, zl_12, zl_13, zl_16, zl_20, zl_23, zl_24, zl_30, zl_32, zl_40, zl_41, zl_43, zl_45, zl_50, zl_52, zl_60, zl_97, zl_99, zl_100, zl_124, zl_126, zl_127, zl_169, zl_170, zl_171, zl_195, zl_200, zl_201, zl_256, zl_261, zl_999, zl_1100, zl_1884, zl_4095, zl_4096, zd1, zd2, zs1, nI_add, pk_mul, zsb, zad1, zad2, zcl, zgI, zif_le, zif_nle, zif_lt, zif_nlt, zif_eq, zif_ne, zif_self, zif_T, zif_F, Nat.zero_add, Nat.add_sub_cancel, zn21, zn31, zif_m1, zif_m1l, zif_m1n, zif_pm, zb1_k, zb2_k, zb3_k, zb4_k, zb5_k, zb6_k, zb7_k, zb8_k, zb9_k, zb10_k, zb11_k, zb12_k, zb14_k, zb21_k, zb22_k, zupd_eq, zupd_ne, zupl_eq, zupl_ne, zupf_eq, zupf_ne, hf, e, zopt_n, zopt_j, zKp, if_pos e8]
      · simp only [zKp, e, if_pos e8]; exact hx
    · refine ⟨nI (a 8 + 1), upd kind (a 8) (nI 0), upd first (a 8) (nI s), upd second (a 8) (-nI 1), upd parts (a 8) (nI 1), ?_, ?_⟩
      · simp (disch := omega) only [zl_0, zl_1, zl_2, zl_3, zl_4, zl_5, zl_6, zl_8, zl_9, zl_11, zl_12, zl_13, zl_16, zl_20, zl_23, zl_24, zl_30, zl_32, zl_40, zl_41, zl_43, zl_45, zl_50, zl_52, zl_60, zl_97, zl_99, zl_100, zl_124, zl_126, zl_127, zl_169, zl_170, zl_171, zl_195, zl_200, zl_201, zl_256, zl_261, zl_999, zl_1100, zl_1884, zl_4095, zl_4096, zd1, zd2, zs1, nI_add, pk_mul, zsb, zad1, zad2, zcl, zgI, zif_le, zif_nle, zif_lt, zif_nlt, zif_eq, zif_ne, zif_self, zif_T, zif_F, Nat.zero_add, Nat.add_sub_cancel, zn21, zn31, zif_m1, zif_m1l, zif_m1n, zif_pm, zb1_k, zb2_k, zb3_k, zb4_k, zb5_k, zb6_k, zb7_k, zb8_k, zb9_k, zb10_k, zb11_k, zb12_k, zb14_k, zb21_k, zb22_k, zupd_eq, zupd_ne, zupl_eq, zupl_ne, zupf_eq, zupf_ne, hf, e, zopt_n, zopt_j, zKp, if_neg e8]
      · simp only [zKp, e, if_neg e8]
        exact zXn_add hx
theorem fx_keepJoin {a : Nat → Nat} {cnt : Int32} {kind first second parts : Nat → Int32} {kk i j : Nat} (hv : zV a) (hx : zXn a cnt kind first second parts) (hk : kk = 1 ∨ kk = 2) (hi : i < a 8) (hj : j < a 8) (h12 : aP a i + aP a j ≤ 12) : ∃ cnt' k' f' s' p', fX5_keepJoin (nI kk) (nI i) (nI j) cnt parts kind first second = some ((zKp a kk i j (aP a i + aP a j)).1, cnt', p', k', f', s') ∧ zXn (zKp a kk i j (aP a i + aP a j)).2 cnt' k' f' s' p' := by
  have h8 := hv.2.1
  have ez : zsec kk j = nI j := if_neg (by omega)
  have hf : fX5_find (nI kk) (nI i) (nI j) cnt kind first second = some (zopt (zfnd (zP a kk i j) (a 8) 0)) := by
    have := fx_find (kk := kk) (ff := i) (ss := j) h8 hv.2.2.1 hx (by omega) (by omega) (by omega) (fun _ => by omega)
    rw [ez] at this
    exact this
  have hc : cnt = nI (a 8) := hx.1
  subst hc
  have hp := hx.2.2.2.2
  unfold fX5_keepJoin fX5_add
  cases e : zfnd (zP a kk i j) (a 8) 0 with
  | some q =>
    have hq := zfnd_s _ _ _ e
    refine ⟨nI (a 8), kind, first, second, parts, ?_, ?_⟩
    · simp (disch := omega) only [zl_0, zl_1, zl_2, zl_3, zl_4, zl_5, zl_6, zl_8, zl_9, zl_11, zl_12, zl_13, zl_16, zl_20, zl_23, zl_24, zl_30, zl_32, zl_40, zl_41, zl_43, zl_45, zl_50, zl_52, zl_60, zl_97, zl_99, zl_100, zl_124, zl_126, zl_127, zl_169, zl_170, zl_171, zl_195, zl_200, zl_201, zl_256, zl_261, zl_999, zl_1100, zl_1884, zl_4095, zl_4096, zd1, zd2, zs1, nI_add, pk_mul, zsb, zad1, zad2, zcl, zgI, zif_le, zif_nle, zif_lt, zif_nlt, zif_eq, zif_ne, zif_self, zif_T, zif_F, Nat.zero_add, Nat.add_sub_cancel, zn21, zn31, zif_m1, zif_m1l, zif_m1n, zif_pm, zb1_k, zb2_k, zb3_k, zb4_k, zb5_k, zb6_k, zb7_k, zb8_k, zb9_k, zb10_k, zb11_k, zb12_k, zb14_k, zb21_k, zb22_k, zupd_eq, zupd_ne, zupl_eq, zupl_ne, zupf_eq, zupf_ne, hf, e, zopt_n, zopt_j, zKp, hp]
    · simp only [zKp, e]; exact hx
  | none =>
    by_cases e8 : a 8 = 40
    · refine ⟨nI (a 8), kind, first, second, parts, ?_, ?_⟩
      · simp (disch := omega) only [zl_0, zl_1, zl_2, zl_3, zl_4, zl_5, zl_6, zl_8, zl_9, zl_11, zl_12, zl_13, zl_16, zl_20, zl_23, zl_24, zl_30, zl_32, zl_40, zl_41, zl_43, zl_45, zl_50, zl_52, zl_60, zl_97, zl_99, zl_100, zl_124, zl_126, zl_127, zl_169, zl_170, zl_171, zl_195, zl_200, zl_201, zl_256, zl_261, zl_999, zl_1100, zl_1884, zl_4095, zl_4096, zd1, zd2, zs1, nI_add, pk_mul, zsb, zad1, zad2, zcl, zgI, zif_le, zif_nle, zif_lt, zif_nlt, zif_eq, zif_ne, zif_self, zif_T, zif_F, Nat.zero_add, Nat.add_sub_cancel, zn21, zn31, zif_m1, zif_m1l, zif_m1n, zif_pm, zb1_k, zb2_k, zb3_k, zb4_k, zb5_k, zb6_k, zb7_k, zb8_k, zb9_k, zb10_k, zb11_k, zb12_k, zb14_k, zb21_k, zb22_k, zupd_eq, zupd_ne, zupl_eq, zupl_ne, zupf_eq, zupf_ne, hf, e, zopt_n, zopt_j, zKp, hp, if_pos e8]
      · simp only [zKp, e, if_pos e8]; exact hx
    · refine ⟨nI (a 8 + 1), upd kind (a 8) (nI kk), upd first (a 8) (nI i), upd second (a 8) (nI j), upd parts (a 8) (nI (aP a i + aP a j)), ?_, ?_⟩
      · simp (disch := omega) only [zl_0, zl_1, zl_2, zl_3, zl_4, zl_5, zl_6, zl_8, zl_9, zl_11, zl_12, zl_13, zl_16, zl_20, zl_23, zl_24, zl_30, zl_32, zl_40, zl_41, zl_43, zl_45, zl_50, zl_52, zl_60, zl_97, zl_99, zl_100, zl_124, zl_126, zl_127, zl_169, zl_170, zl_171, zl_195, zl_200, zl_201, zl_256, zl_261, zl_999, zl_1100, zl_1884, zl_4095, zl_4096, zd1, zd2, zs1, nI_add, pk_mul, zsb, zad1, zad2, zcl, zgI, zif_le, zif_nle, zif_lt, zif_nlt, zif_eq, zif_ne, zif_self, zif_T, zif_F, Nat.zero_add, Nat.add_sub_cancel, zn21, zn31, zif_m1, zif_m1l, zif_m1n, zif_pm, zb1_k, zb2_k, zb3_k, zb4_k, zb5_k, zb6_k, zb7_k, zb8_k, zb9_k, zb10_k, zb11_k, zb12_k, zb14_k, zb21_k, zb22_k, zupd_eq, zupd_ne, zupl_eq, zupl_ne, zupf_eq, zupf_ne, hf, e, zopt_n, zopt_j, zKp, hp, if_neg e8]
      · simp only [zKp, e, if_neg e8]
        rw [← ez]
        exact zXn_add hx
theorem fx_keepLong {a : Nat → Nat} {cnt : Int32} {kind first second parts : Nat → Int32} {kk i j : Nat} (hv : zV a) (hx : zXn a cnt kind first second parts) (hi : i < a 8) (hj : j < a 8) (h12 : 12 < aP a i + aP a j) : fX5_keepJoin (nI kk) (nI i) (nI j) cnt parts kind first second = some (-nI 7, cnt, parts, kind, first, second) := by
  have h8 := hv.2.1
  have hp := hx.2.2.2.2
  have b1 := zNet_b hv.2.2.1 hi h8
  have b2 := zNet_b hv.2.2.1 hj h8
  unfold fX5_keepJoin
  simp (disch := omega) only [zl_0, zl_1, zl_2, zl_3, zl_4, zl_5, zl_6, zl_8, zl_9, zl_11, zl_12, zl_13, zl_16, zl_20, zl_23, zl_24, zl_30, zl_32, zl_40, zl_41, zl_43, zl_45, zl_50, zl_52, zl_60, zl_97, zl_99, zl_100, zl_124, zl_126, zl_127, zl_169, zl_170, zl_171, zl_195, zl_200, zl_201, zl_256, zl_261, zl_999, zl_1100, zl_1884, zl_4095, zl_4096, zd1, zd2, zs1, nI_add, pk_mul, zsb, zad1, zad2, zcl, zgI, zif_le, zif_nle, zif_lt, zif_nlt, zif_eq, zif_ne, zif_self, zif_T, zif_F, Nat.zero_add, Nat.add_sub_cancel, zn21, zn31, zif_m1, zif_m1l, zif_m1n, zif_pm, zb1_k, zb2_k, zb3_k, zb4_k, zb5_k, zb6_k, zb7_k, zb8_k, zb9_k, zb10_k, zb11_k, zb12_k, zb14_k, zb21_k, zb22_k, zupd_eq, zupd_ne, zupl_eq, zupl_ne, zupf_eq, zupf_ne, hp]
  rfl
theorem zKp_neg {a : Nat → Nat} {kk ff ss pp : Nat} : (∃ i, (zKp a kk ff ss pp).1 = nI i ∧ i < (zKp a kk ff ss pp).2 8) ∨ (zKp a kk ff ss pp).1 = -nI 3 := by
  unfold zKp
  cases e : zfnd (zP a kk ff ss) (a 8) 0 with
  | some i => exact Or.inl ⟨i, rfl, by have := zfnd_s _ _ _ e; show i < a 8; omega⟩
  | none =>
    by_cases e8 : a 8 = 40
    · right; simp only [if_pos e8]
    · left
      simp only [if_neg e8]
      exact ⟨a 8, rfl, by rw [zAdd_8]; omega⟩
abbrev zxN (xs : XS) (cnt : Int32) (k f s p : Nat → Int32) : XS := (xs.1, (cnt, k, f, s, p, xs.2.1.2.2.2.2.2), xs.2.2)
abbrev zmN (ms : MS) (now : Nat → Int32) : MS := (ms.1, (ms.2.1.1, ms.2.1.2.1, ms.2.1.2.2.1, ms.2.1.2.2.2.1, now, ms.2.1.2.2.2.2.2), ms.2.2)
theorem zRl_nets {Fd : FD → Prop} {a b : Nat → Nat} {xs : XS} {ms : MS} {cnt : Int32} {k f s p now : Nat → Int32} (hv : zV a) (hx : zX a xs) (hm : zMn a (m_now ms)) (hr : zIm xs ms ∧ zTp xs ms ∧ Fd (x_found xs)) (hb : zV b) (ho : zFf a b) (hn : zXn b cnt k f s p) (hw : zMn b now) : zRl Fd (zxN xs cnt k f s p) (zmN ms now) :=
  ⟨b, hb, zX_off hv.2.2.2.1 hx ho hn, hw, hr.1, hr.2.1, hr.2.2⟩
