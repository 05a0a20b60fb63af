/-! turned -/
def zTn (a L : Nat → Nat) (i k : Nat) : Bool := decide (aK a k = aK a i ∧ aK a i ≠ 0 ∧ ((L (aF a k) = L (aF a i) ∧ L (aS a k) = L (aS a i)) ∨ (L (aF a k) = L (aS a i) ∧ L (aS a k) = L (aF a i))))
theorem zTn_n {a L : Nat → Nat} {i k : Nat} (h : ¬ (aK a k = aK a i ∧ aK a i ≠ 0 ∧ ((L (aF a k) = L (aF a i) ∧ L (aS a k) = L (aS a i)) ∨ (L (aF a k) = L (aS a i) ∧ L (aS a k) = L (aF a i))))) : zTn a L i k = false := decide_eq_false h
theorem zTn_y {a L : Nat → Nat} {i k : Nat} (h : aK a k = aK a i ∧ aK a i ≠ 0 ∧ ((L (aF a k) = L (aF a i) ∧ L (aS a k) = L (aS a i)) ∨ (L (aF a k) = L (aS a i) ∧ L (aS a k) = L (aF a i)))) : zTn a L i k = true := decide_eq_true h
theorem zfnd_last {P : Nat → Bool} : ∀ (m j : Nat), zfnd P (m + 1) j = match zfnd P m j with
    | some k => some k
    | none => if P (j + m) = true then some (j + m) else none
  | 0, j => by
    show (if P j = true then some j else zfnd P 0 (j + 1)) = _
    rfl
  | m + 1, j => by
    show (if P j = true then some j else zfnd P (m + 1) (j + 1)) = match (if P j = true then some j else zfnd P m (j + 1)) with
      | some k => some k
      | none => if P (j + (m + 1)) = true then some (j + (m + 1)) else none
    by_cases h : P j = true
    · rw [if_pos h, if_pos h]
    · rw [if_neg h, if_neg h, zfnd_last m (j + 1), show j + 1 + m = j + (m + 1) by omega]
def zgo (L : Nat → Nat) (c : Nat) : Option Nat → Nat
  | none => c
  | some k => L k
theorem fx_isTurn {a L : Nat → Nat} {cnt : Int32} {kind first second parts lk : Nat → Int32} {i k : Nat} (hv : zV a) (hx : zXn a cnt kind first second parts) (hi : i < a 8) (hk : k < i) (hl : ∀ x, x < i → lk x = nI (L x)) (hL : ∀ x, x < i → L x ≤ x) : fX5_isTurn (nI k) (nI i) kind first lk second = some (if zTn a L i k = true then nI 1 else nI 0) := by
  have h8 := hv.2.1
  obtain ⟨_, ek, ef, es, _⟩ := hx
  have bi := zNet_b hv.2.2.1 hi h8
  have bk := zNet_b hv.2.2.1 (show k < a 8 by omega) h8
  unfold fX5_isTurn fX5_isTurn_J90
  by_cases k1 : aK a k = aK a i
  · by_cases k0 : aK a i = 0
    · rw [zTn_n (fun h => h.2.1 k0)]
      simp (disch := omega) only [zl_0, zl_1, zl_2, zl_3, zl_4, zl_5, zl_6, zl_8, zl_9, zl_11, zl_12, zl_13, zl_16, zl_20, zl_23, zl_24, zl_30, zl_32, zl_40, zl_41, zl_43, zl_45, zl_50, zl_52, zl_60, zl_97, zl_99, zl_100, zl_124, zl_126, zl_127, zl_169, zl_170, zl_171, zl_195, zl_200, zl_201, zl_256, zl_261, zl_999, zl_1100, zl_1884, zl_4095, zl_4096, zd1, zd2, zs1, nI_add, pk_mul, zsb, zad1, zad2, zcl, zgI, zif_le, zif_nle, zif_lt, zif_nlt, zif_eq, zif_ne, zif_self, zif_T, zif_F, Nat.zero_add, Nat.add_sub_cancel, zn21, zn31, zif_m1, zif_m1l, zif_m1n, zif_pm, zb1_k, zb2_k, zb3_k, zb4_k, zb5_k, zb6_k, zb7_k, zb8_k, zb9_k, zb10_k, zb11_k, zb12_k, zb14_k, zb21_k, zb22_k, zupd_eq, zupd_ne, zupl_eq, zupl_ne, zupf_eq, zupf_ne, ek, zfn Bool.false_ne_true]
    · have a1 := zAc_net hv i hi k0
      have a2 := zAc_net hv k (by omega) (by omega)
      have s1 : second i = nI (aS a i) := (es i hi).trans (if_neg k0)
      have s2 : second k = nI (aS a k) := (es k (by omega)).trans (if_neg (by omega))
      have l1 := hL (aF a i) (by omega)
      have l2 := hL (aS a i) (by omega)
      have l3 := hL (aF a k) (by omega)
      have l4 := hL (aS a k) (by omega)
      by_cases q1 : L (aF a k) = L (aF a i) ∧ L (aS a k) = L (aS a i)
      · rw [zTn_y ⟨k1, k0, Or.inl q1⟩]
        obtain ⟨q1, q2⟩ := q1
        simp (disch := omega) only [zl_0, zl_1, zl_2, zl_3, zl_4, zl_5, zl_6, zl_8, zl_9, zl_11, zl_12, zl_13, zl_16, zl_20, zl_23, zl_24, zl_30, zl_32, zl_40, zl_41, zl_43, zl_45, zl_50, zl_52, zl_60, zl_97, zl_99, zl_100, zl_124, zl_126, zl_127, zl_169, zl_170, zl_171, zl_195, zl_200, zl_201, zl_256, zl_261, zl_999, zl_1100, zl_1884, zl_4095, zl_4096, zd1, zd2, zs1, nI_add, pk_mul, zsb, zad1, zad2, zcl, zgI, zif_le, zif_nle, zif_lt, zif_nlt, zif_eq, zif_ne, zif_self, zif_T, zif_F, Nat.zero_add, Nat.add_sub_cancel, zn21, zn31, zif_m1, zif_m1l, zif_m1n, zif_pm, zb1_k, zb2_k, zb3_k, zb4_k, zb5_k, zb6_k, zb7_k, zb8_k, zb9_k, zb10_k, zb11_k, zb12_k, zb14_k, zb21_k, zb22_k, zupd_eq, zupd_ne, zupl_eq, zupl_ne, zupf_eq, zupf_ne, ek, ef, s1, s2, hl, zft rfl]
      · by_cases q2 : L (aF a k) = L (aS a i) ∧ L (aS a k) = L (aF a i)
        · rw [zTn_y ⟨k1, k0, Or.inr q2⟩]
          obtain ⟨q2, q3⟩ := q2
          by_cases q4 : L (aF a k) = L (aF a i)
          · have q5 : L (aS a k) ≠ L (aS a i) := fun e => q1 ⟨q4, e⟩
            exfalso
            omega
          · simp (disch := omega) only [zl_0, zl_1, zl_2, zl_3, zl_4, zl_5, zl_6, zl_8, zl_9, zl_11, zl_12, zl_13, zl_16, zl_20, zl_23, zl_24, zl_30, zl_32, zl_40, zl_41, zl_43, zl_45, zl_50, zl_52, zl_60, zl_97, zl_99, zl_100, zl_124, zl_126, zl_127, zl_169, zl_170, zl_171, zl_195, zl_200, zl_201, zl_256, zl_261, zl_999, zl_1100, zl_1884, zl_4095, zl_4096, zd1, zd2, zs1, nI_add, pk_mul, zsb, zad1, zad2, zcl, zgI, zif_le, zif_nle, zif_lt, zif_nlt, zif_eq, zif_ne, zif_self, zif_T, zif_F, Nat.zero_add, Nat.add_sub_cancel, zn21, zn31, zif_m1, zif_m1l, zif_m1n, zif_pm, zb1_k, zb2_k, zb3_k, zb4_k, zb5_k, zb6_k, zb7_k, zb8_k, zb9_k, zb10_k, zb11_k, zb12_k, zb14_k, zb21_k, zb22_k, zupd_eq, zupd_ne, zupl_eq, zupl_ne, zupf_eq, zupf_ne, ek, ef, s1, s2, hl, zft rfl]
        · rw [zTn_n (fun h => h.2.2.elim q1 q2)]
          by_cases q4 : L (aF a k) = L (aF a i)
          · have q5 : L (aS a k) ≠ L (aS a i) := fun e => q1 ⟨q4, e⟩
            by_cases q6 : L (aF a k) = L (aS a i)
            · have q7 : L (aS a k) ≠ L (aF a i) := fun e => q2 ⟨q6, e⟩
              simp (disch := omega) only [zl_0, zl_1, zl_2, zl_3, zl_4, zl_5, zl_6, zl_8, zl_9, zl_11, zl_12, zl_13, zl_16, zl_20, zl_23, zl_24, zl_30, zl_32, zl_40, zl_41, zl_43, zl_45, zl_50, zl_52, zl_60, zl_97, zl_99, zl_100, zl_124, zl_126, zl_127, zl_169, zl_170, zl_171, zl_195, zl_200, zl_201, zl_256, zl_261, zl_999, zl_1100, zl_1884, zl_4095, zl_4096, zd1, zd2, zs1, nI_add, pk_mul, zsb, zad1, zad2, zcl, zgI, zif_le, zif_nle, zif_lt, zif_nlt, zif_eq, zif_ne, zif_self, zif_T, zif_F, Nat.zero_add, Nat.add_sub_cancel, zn21, zn31, zif_m1, zif_m1l, zif_m1n, zif_pm, zb1_k, zb2_k, zb3_k, zb4_k, zb5_k, zb6_k, zb7_k, zb8_k, zb9_k, zb10_k, zb11_k, zb12_k, zb14_k, zb21_k, zb22_k, zupd_eq, zupd_ne, zupl_eq, zupl_ne, zupf_eq, zupf_ne, ek, ef, s1, s2, hl, zfn Bool.false_ne_true]
            · simp (disch := omega) only [zl_0, zl_1, zl_2, zl_3, zl_4, zl_5, zl_6, zl_8, zl_9, zl_11, zl_12, zl_13, zl_16, zl_20, zl_23, zl_24, zl_30, zl_32, zl_40, zl_41, zl_43, zl_45, zl_50, zl_52, zl_60, zl_97, zl_99, zl_100, zl_124, zl_126, zl_127, zl_169, zl_170, zl_171, zl_195, zl_200, zl_201, zl_256, zl_261, zl_999, zl_1100, zl_1884, zl_4095, zl_4096, zd1, zd2, zs1, nI_add, pk_mul, zsb, zad1, zad2, zcl, zgI, zif_le, zif_nle, zif_lt, zif_nlt, zif_eq, zif_ne, zif_self, zif_T, zif_F, Nat.zero_add, Nat.add_sub_cancel, zn21, zn31, zif_m1, zif_m1l, zif_m1n, zif_pm, zb1_k, zb2_k, zb3_k, zb4_k, zb5_k, zb6_k, zb7_k, zb8_k, zb9_k, zb10_k, zb11_k, zb12_k, zb14_k, zb21_k, zb22_k, zupd_eq, zupd_ne, zupl_eq, zupl_ne, zupf_eq, zupf_ne, ek, ef, s1, s2, hl, zfn Bool.false_ne_true]
          · by_cases q6 : L (aF a k) = L (aS a i)
            · have q7 : L (aS a k) ≠ L (aF a i) := fun e => q2 ⟨q6, e⟩
              simp (disch := omega) only [zl_0, zl_1, zl_2, zl_3, zl_4, zl_5, zl_6, zl_8, zl_9, zl_11, zl_12, zl_13, zl_16, zl_20, zl_23, zl_24, zl_30, zl_32, zl_40, zl_41, zl_43, zl_45, zl_50, zl_52, zl_60, zl_97, zl_99, zl_100, zl_124, zl_126, zl_127, zl_169, zl_170, zl_171, zl_195, zl_200, zl_201, zl_256, zl_261, zl_999, zl_1100, zl_1884, zl_4095, zl_4096, zd1, zd2, zs1, nI_add, pk_mul, zsb, zad1, zad2, zcl, zgI, zif_le, zif_nle, zif_lt, zif_nlt, zif_eq, zif_ne, zif_self, zif_T, zif_F, Nat.zero_add, Nat.add_sub_cancel, zn21, zn31, zif_m1, zif_m1l, zif_m1n, zif_pm, zb1_k, zb2_k, zb3_k, zb4_k, zb5_k, zb6_k, zb7_k, zb8_k, zb9_k, zb10_k, zb11_k, zb12_k, zb14_k, zb21_k, zb22_k, zupd_eq, zupd_ne, zupl_eq, zupl_ne, zupf_eq, zupf_ne, ek, ef, s1, s2, hl, zfn Bool.false_ne_true]
            · simp (disch := omega) only [zl_0, zl_1, zl_2, zl_3, zl_4, zl_5, zl_6, zl_8, zl_9, zl_11, zl_12, zl_13, zl_16, zl_20, zl_23, zl_24, zl_30, zl_32, zl_40, zl_41, zl_43, zl_45, zl_50, zl_52, zl_60, zl_97, zl_99, zl_100, zl_124, zl_126, zl_127, zl_169, zl_170, zl_171, zl_195, zl_200, zl_201, zl_256, zl_261, zl_999, zl_1100, zl_1884, zl_4095, zl_4096, zd1, zd2, zs1, nI_add, pk_mul, zsb, zad1, zad2, zcl, zgI, zif_le, zif_nle, zif_lt, zif_nlt, zif_eq, zif_ne, zif_self, zif_T, zif_F, Nat.zero_add, Nat.add_sub_cancel, zn21, zn31, zif_m1, zif_m1l, zif_m1n, zif_pm, zb1_k, zb2_k, zb3_k, zb4_k, zb5_k, zb6_k, zb7_k, zb8_k, zb9_k, zb10_k, zb11_k, zb12_k, zb14_k, zb21_k, zb22_k, zupd_eq, zupd_ne, zupl_eq, zupl_ne, zupf_eq, zupf_ne, ek, ef, s1, s2, hl, zfn Bool.false_ne_true]
  · rw [zTn_n (fun h => k1 h.1)]
    simp (disch := omega) only [zl_0, zl_1, zl_2, zl_3, zl_4, zl_5, zl_6, zl_8, zl_9, zl_11, zl_12, zl_13, zl_16, zl_20, zl_23, zl_24, zl_30, zl_32, zl_40, zl_41, zl_43, zl_45, zl_50, zl_52, zl_60, zl_97, zl_99, zl_100, zl_124, zl_126, zl_127, zl_169, zl_170, zl_171, zl_195, zl_200, zl_201, zl_256, zl_261, zl_999, zl_1100, zl_1884, zl_4095, zl_4096, zd1, zd2, zs1, nI_add, pk_mul, zsb, zad1, zad2, zcl, zgI, zif_le, zif_nle, zif_lt, zif_nlt, zif_eq, zif_ne, zif_self, zif_T, zif_F, Nat.zero_add, Nat.add_sub_cancel, zn21, zn31, zif_m1, zif_m1l, zif_m1n, zif_pm, zb1_k, zb2_k, zb3_k, zb4_k, zb5_k, zb6_k, zb7_k, zb8_k, zb9_k, zb10_k, zb11_k, zb12_k, zb14_k, zb21_k, zb22_k, zupd_eq, zupd_ne, zupl_eq, zupl_ne, zupf_eq, zupf_ne, ek, zfn Bool.false_ne_true]
theorem fx_likeL {a L : Nat → Nat} {cnt : Int32} {kind first second parts lk : Nat → Int32} {i : Nat} {k53 : Int32 → Option (Int32 × (Nat → Int32))} (hv : zV a) (hx : zXn a cnt kind first second parts) (hi : i < a 8) (hl : ∀ x, x < i → lk x = nI (L x)) (hL : ∀ x, x < i → L x ≤ x) : ∀ (d k fu : Nat), k + d = i → d + 1 < fu → fX5_areTurned_L16 k53 kind first second (nI i) lk fu (nI i) (nI k) = k53 (nI (zgo L i (zfnd (zTn a L i) d k))) := by
  have h8 := hv.2.1
  intro d
  induction d with
  | zero =>
    intro k fu hk hfu
    obtain ⟨fu, rfl⟩ : ∃ f, fu = f + 1 := ⟨fu - 1, by omega⟩
    rw [fX5_areTurned_L16_s]
    simp (disch := omega) only [zl_0, zl_1, zl_2, zl_3, zl_4, zl_5, zl_6, zl_8, zl_9, zl_11, zl_12, zl_13, zl_16, zl_20, zl_23, zl_24, zl_30, zl_32, zl_40, zl_41, zl_43, zl_45, zl_50, zl_52, zl_60, zl_97, zl_99, zl_100, zl_124, zl_126, zl_127, zl_169, zl_170, zl_171, zl_195, zl_200, zl_201, zl_256, zl_261, zl_999, zl_1100, zl_1884, zl_4095, zl_4096, zd1, zd2, zs1, nI_add, pk_mul, zsb, zad1, zad2, zcl, zgI, zif_le, zif_nle, zif_lt, zif_nlt, zif_eq, zif_ne, zif_self, zif_T, zif_F, Nat.zero_add, Nat.add_sub_cancel, zn21, zn31, zif_m1, zif_m1l, zif_m1n, zif_pm, zb1_k, zb2_k, zb3_k, zb4_k, zb5_k, zb6_k, zb7_k, zb8_k, zb9_k, zb10_k, zb11_k, zb12_k, zb14_k, zb21_k, zb22_k, zupd_eq, zupd_ne, zupl_eq, zupl_ne, zupf_eq, zupf_ne]
    rfl
  | succ d ih =>
    intro k fu hk hfu
    obtain ⟨fu, rfl⟩ : ∃ f, fu = f + 1 := ⟨fu - 1, by omega⟩
    have ht := fx_isTurn (k := k) hv hx hi (by omega) hl hL
    have hih := ih (k + 1) fu (by omega) (by omega)
    rw [fX5_areTurned_L16_s]
    unfold zfnd
    by_cases q : zTn a L i k = true
    · rw [if_pos q] at ht ⊢
      have l1 := hL k (by omega)
      obtain ⟨fu, rfl⟩ : ∃ f, fu = f + 1 := ⟨fu - 1, by omega⟩
      have e2 : fX5_areTurned_L16 k53 kind first second (nI i) lk (fu + 1) (nI (L k)) (nI (k + 1)) = k53 (nI (L k)) := by
        rw [fX5_areTurned_L16_s]
        by_cases z : i ≤ k + 1
        · simp (disch := omega) only [zl_0, zl_1, zl_2, zl_3, zl_4, zl_5, zl_6, zl_8, zl_9, zl_11, zl_12, zl_13, zl_16, zl_20, zl_23, zl_24, zl_30, zl_32, zl_40, zl_41, zl_43, zl_45, zl_50, zl_52, zl_60, zl_97, zl_99, zl_100, zl_124, zl_126, zl_127, zl_169, zl_170, zl_171, zl_195, zl_200, zl_201, zl_256, zl_261, zl_999, zl_1100, zl_1884, zl_4095, zl_4096, zd1, zd2, zs1, nI_add, pk_mul, zsb, zad1, zad2, zcl, zgI, zif_le, zif_nle, zif_lt, zif_nlt, zif_eq, zif_ne, zif_self, zif_T, zif_F, Nat.zero_add, Nat.add_sub_cancel, zn21, zn31, zif_m1, zif_m1l, zif_m1n, zif_pm, zb1_k, zb2_k, zb3_k, zb4_k, zb5_k, zb6_k, zb7_k, zb8_k, zb9_k, zb10_k, zb11_k, zb12_k, zb14_k, zb21_k, zb22_k, zupd_eq, zupd_ne, zupl_eq, zupl_ne, zupf_eq, zupf_ne]
        · simp (disch := omega) only [zl_0, zl_1, zl_2, zl_3, zl_4, zl_5, zl_6, zl_8, zl_9, zl_11, zl_12, zl_13, zl_16, zl_20, zl_23, zl_24, zl_30, zl_32, zl_40, zl_41, zl_43, zl_45, zl_50, zl_52, zl_60, zl_97, zl_99, zl_100, zl_124, zl_126, zl_127, zl_169, zl_170, zl_171, zl_195, zl_200, zl_201, zl_256, zl_261, zl_999, zl_1100, zl_1884, zl_4095, zl_4096, zd1, zd2, zs1, nI_add, pk_mul, zsb, zad1, zad2, zcl, zgI, zif_le, zif_nle, zif_lt, zif_nlt, zif_eq, zif_ne, zif_self, zif_T, zif_F, Nat.zero_add, Nat.add_sub_cancel, zn21, zn31, zif_m1, zif_m1l, zif_m1n, zif_pm, zb1_k, zb2_k, zb3_k, zb4_k, zb5_k, zb6_k, zb7_k, zb8_k, zb9_k, zb10_k, zb11_k, zb12_k, zb14_k, zb21_k, zb22_k, zupd_eq, zupd_ne, zupl_eq, zupl_ne, zupf_eq, zupf_ne]
      simp (disch := omega) only [zl_0, zl_1, zl_2, zl_3, zl_4, zl_5, zl_6, zl_8, zl_9, zl_11, zl_12, zl_13, zl_16, zl_20, zl_23, zl_24, zl_30, zl_32, zl_40, zl_41, zl_43, zl_45, zl_50, zl_52, zl_60, zl_97, zl_99, zl_100, zl_124, zl_126, zl_127, zl_169, zl_170, zl_171, zl_195, zl_200, zl_201, zl_256, zl_261, zl_999, zl_1100, zl_1884, zl_4095, zl_4096, zd1, zd2, zs1, nI_add, pk_mul, zsb, zad1, zad2, zcl, zgI, zif_le, zif_nle, zif_lt, zif_nlt, zif_eq, zif_ne, zif_self, zif_T, zif_F, Nat.zero_add, Nat.add_sub_cancel, zn21, zn31, zif_m1, zif_m1l, zif_m1n, zif_pm, zb1_k, zb2_k, zb3_k, zb4_k, zb5_k, zb6_k, zb7_k, zb8_k, zb9_k, zb10_k, zb11_k, zb12_k, zb14_k, zb21_k, zb22_k, zupd_eq, zupd_ne, zupl_eq, zupl_ne, zupf_eq, zupf_ne, ht, hl, e2]
      rfl
    · rw [if_neg q] at ht ⊢
      simp (disch := omega) only [zl_0, zl_1, zl_2, zl_3, zl_4, zl_5, zl_6, zl_8, zl_9, zl_11, zl_12, zl_13, zl_16, zl_20, zl_23, zl_24, zl_30, zl_32, zl_40, zl_41, zl_43, zl_45, zl_50, zl_52, zl_60, zl_97, zl_99, zl_100, zl_124, zl_126, zl_127, zl_169, zl_170, zl_171, zl_195, zl_200, zl_201, zl_256, zl_261, zl_999, zl_1100, zl_1884, zl_4095, zl_4096, zd1, zd2, zs1, nI_add, pk_mul, zsb, zad1, zad2, zcl, zgI, zif_le, zif_nle, zif_lt, zif_nlt, zif_eq, zif_ne, zif_self, zif_T, zif_F, Nat.zero_add, Nat.add_sub_cancel, zn21, zn31, zif_m1, zif_m1l, zif_m1n, zif_pm, zb1_k, zb2_k, zb3_k, zb4_k, zb5_k, zb6_k, zb7_k, zb8_k, zb9_k, zb10_k, zb11_k, zb12_k, zb14_k, zb21_k, zb22_k, zupd_eq, zupd_ne, zupl_eq, zupl_ne, zupf_eq, zupf_ne, ht, hih]
set_option maxHeartbeats 8000000 in
theorem fm_sameL {a L : Nat → Nat} {now : Nat → Int32} {i : Nat} {k2 : Int32 → (Nat → Int32) → Option (Nat → Int32)} (hv : zV a) (hm : zMn a now) (hi : i < a 8) (hL : ∀ x, x < i → L x ≤ x) : ∀ (m fu : Nat) (v2 : Int32) (w : Nat → Int32) (cur : Nat), m ≤ i → m < fu → v2 = zM1 m → (∀ x, x < i → w x = nI (L x)) → w i = nI cur → ∃ w', fX11_laySame_L24 k2 now (nI i) fu v2 w = k2 (nI (i + 1)) w' ∧ (∀ x, x < i → w' x = nI (L x)) ∧ w' i = nI (zgo L cur (zfnd (zTn a L i) m 0)) := by
  have h8 := hv.2.1
  have bi := zNet_b hv.2.2.1 hi h8
  have kI := fm_kindOf hm (i := i) (by omega)
  have fI := fm_firstOf hm (i := i) (by omega)
  have sI := fm_secondOf hm (i := i) (by omega)
  intro m
  induction m with
  | zero =>
    intro fu v2 w cur hm0 hfu e2 hw hwi
    obtain ⟨fu, rfl⟩ : ∃ f, fu = f + 1 := ⟨fu - 1, by omega⟩
    refine ⟨w, ?_, hw, hwi⟩
    rw [fX11_laySame_L24_s, e2]
    simp (disch := omega) only [zl_0, zl_1, zl_2, zl_3, zl_4, zl_5, zl_6, zl_8, zl_9, zl_11, zl_12, zl_13, zl_16, zl_20, zl_23, zl_24, zl_30, zl_32, zl_40, zl_41, zl_43, zl_45, zl_50, zl_52, zl_60, zl_97, zl_99, zl_100, zl_124, zl_126, zl_127, zl_169, zl_170, zl_171, zl_195, zl_200, zl_201, zl_256, zl_261, zl_999, zl_1100, zl_1884, zl_4095, zl_4096, zd1, zd2, zs1, nI_add, pk_mul, zsb, zad1, zad2, zcl, zgI, zif_le, zif_nle, zif_lt, zif_nlt, zif_eq, zif_ne, zif_self, zif_T, zif_F, Nat.zero_add, Nat.add_sub_cancel, zn21, zn31, zif_m1, zif_m1l, zif_m1n, zif_pm, zb1_k, zb2_k, zb3_k, zb4_k, zb5_k, zb6_k, zb7_k, zb8_k, zb9_k, zb10_k, zb11_k, zb12_k, zb14_k, zb21_k, zb22_k, zupd_eq, zupd_ne, zupl_eq, zupl_ne, zupf_eq, zupf_ne, zM1]
  | succ m ih =>
    intro fu v2 w cur hm0 hfu e2 hw hwi
    obtain ⟨fu, rfl⟩ : ∃ f, fu = f + 1 := ⟨fu - 1, by omega⟩
    have bk := zNet_b hv.2.2.1 (show m < a 8 by omega) h8
    have kM := fm_kindOf hm (i := m) (by omega)
    have fM := fm_firstOf hm (i := m) (by omega)
    have sM := fm_secondOf hm (i := m) (by omega)
    have efin : ∀ c, zgo L c (zfnd (zTn a L i) (m + 1) 0) = zgo L (if zTn a L i m = true then L m else c) (zfnd (zTn a L i) m 0) := fun c => by
      rw [zfnd_last, Nat.zero_add]
      cases zfnd (zTn a L i) m 0 with
      | some k => rfl
      | none =>
        by_cases q : zTn a L i m = true
        · rw [if_pos q, if_pos q]; try rfl
        · rw [if_neg q, if_neg q]; try rfl
    have hup : ∀ v, ∀ x, x < i → upd w i v x = nI (L x) := fun v x hx => by rw [zupd_ne (by omega)]; exact hw x hx
    by_cases q : zTn a L i m = true
    · obtain ⟨w', g1, g2, g3⟩ := ih fu (nI m + -nI 1) (upd w i (nI (L m))) (L m) (by omega) (by omega) (zM1_i m) (hup _) (zupd_eq rfl)
      refine ⟨w', ?_, g2, by rw [efin, if_pos q]; exact g3⟩
      rw [← g1, fX11_laySame_L24_s, e2]
      obtain ⟨k1, k0, q2⟩ := of_decide_eq_true q
      have a1 := zAc_net hv i hi k0
      have a2 := zAc_net hv m (by omega) (by omega)
      have l1 := hL (aF a i) (by omega)
      have l2 := hL (aS a i) (by omega)
      have l3 := hL (aF a m) (by omega)
      have l4 := hL (aS a m) (by omega)
      have l5 := hL m (by omega)
      by_cases q3 : L (aF a i) = L (aF a m)
      · by_cases q4 : L (aS a i) = L (aS a m)
        · simp (disch := omega) only [zl_0, zl_1, zl_2, zl_3, zl_4, zl_5, zl_6, zl_8, zl_9, zl_11, zl_12, zl_13, zl_16, zl_20, zl_23, zl_24, zl_30, zl_32, zl_40, zl_41, zl_43, zl_45, zl_50, zl_52, zl_60, zl_97, zl_99, zl_100, zl_124, zl_126, zl_127, zl_169, zl_170, zl_171, zl_195, zl_200, zl_201, zl_256, zl_261, zl_999, zl_1100, zl_1884, zl_4095, zl_4096, zd1, zd2, zs1, nI_add, pk_mul, zsb, zad1, zad2, zcl, zgI, zif_le, zif_nle, zif_lt, zif_nlt, zif_eq, zif_ne, zif_self, zif_T, zif_F, Nat.zero_add, Nat.add_sub_cancel, zn21, zn31, zif_m1, zif_m1l, zif_m1n, zif_pm, zb1_k, zb2_k, zb3_k, zb4_k, zb5_k, zb6_k, zb7_k, zb8_k, zb9_k, zb10_k, zb11_k, zb12_k, zb14_k, zb21_k, zb22_k, zupd_eq, zupd_ne, zupl_eq, zupl_ne, zupf_eq, zupf_ne, zM1, kM, kI, fI, sI, fM, sM, hw, fX11_laySame_J127, fX11_laySame_J142]
        · have q5 : L (aF a i) = L (aS a m) ∧ L (aS a i) = L (aF a m) := by
            rcases q2 with q2 | q2
            · exact absurd q2.2.symm q4
            · exact ⟨q2.2.symm, q2.1.symm⟩
          exfalso
          omega
      · have q5 : L (aF a i) = L (aS a m) ∧ L (aS a i) = L (aF a m) := by
          rcases q2 with q2 | q2
          · exact absurd q2.1.symm q3
          · exact ⟨q2.2.symm, q2.1.symm⟩
        obtain ⟨q5, q6⟩ := q5
        simp (disch := omega) only [zl_0, zl_1, zl_2, zl_3, zl_4, zl_5, zl_6, zl_8, zl_9, zl_11, zl_12, zl_13, zl_16, zl_20, zl_23, zl_24, zl_30, zl_32, zl_40, zl_41, zl_43, zl_45, zl_50, zl_52, zl_60, zl_97, zl_99, zl_100, zl_124, zl_126, zl_127, zl_169, zl_170, zl_171, zl_195, zl_200, zl_201, zl_256, zl_261, zl_999, zl_1100, zl_1884, zl_4095, zl_4096, zd1, zd2, zs1, nI_add, pk_mul, zsb, zad1, zad2, zcl, zgI, zif_le, zif_nle, zif_lt, zif_nlt, zif_eq, zif_ne, zif_self, zif_T, zif_F, Nat.zero_add, Nat.add_sub_cancel, zn21, zn31, zif_m1, zif_m1l, zif_m1n, zif_pm, zb1_k, zb2_k, zb3_k, zb4_k, zb5_k, zb6_k, zb7_k, zb8_k, zb9_k, zb10_k, zb11_k, zb12_k, zb14_k, zb21_k, zb22_k, zupd_eq, zupd_ne, zupl_eq, zupl_ne, zupf_eq, zupf_ne, zM1, kM, kI, fI, sI, fM, sM, hw, fX11_laySame_J114, fX11_laySame_J127, fX11_laySame_J142]
    · have qn : ¬ (aK a m = aK a i ∧ aK a i ≠ 0 ∧ ((L (aF a m) = L (aF a i) ∧ L (aS a m) = L (aS a i)) ∨ (L (aF a m) = L (aS a i) ∧ L (aS a m) = L (aF a i)))) := fun e => q (decide_eq_true e)
      by_cases k1 : aK a m = aK a i
      · by_cases k0 : aK a i = 0
        · obtain ⟨w', g1, g2, g3⟩ := ih fu (nI m + -nI 1) w cur (by omega) (by omega) (zM1_i m) hw hwi
          refine ⟨w', ?_, g2, by rw [efin, if_neg q]; exact g3⟩
          rw [← g1, fX11_laySame_L24_s, e2]
          simp (disch := omega) only [zl_0, zl_1, zl_2, zl_3, zl_4, zl_5, zl_6, zl_8, zl_9, zl_11, zl_12, zl_13, zl_16, zl_20, zl_23, zl_24, zl_30, zl_32, zl_40, zl_41, zl_43, zl_45, zl_50, zl_52, zl_60, zl_97, zl_99, zl_100, zl_124, zl_126, zl_127, zl_169, zl_170, zl_171, zl_195, zl_200, zl_201, zl_256, zl_261, zl_999, zl_1100, zl_1884, zl_4095, zl_4096, zd1, zd2, zs1, nI_add, pk_mul, zsb, zad1, zad2, zcl, zgI, zif_le, zif_nle, zif_lt, zif_nlt, zif_eq, zif_ne, zif_self, zif_T, zif_F, Nat.zero_add, Nat.add_sub_cancel, zn21, zn31, zif_m1, zif_m1l, zif_m1n, zif_pm, zb1_k, zb2_k, zb3_k, zb4_k, zb5_k, zb6_k, zb7_k, zb8_k, zb9_k, zb10_k, zb11_k, zb12_k, zb14_k, zb21_k, zb22_k, zupd_eq, zupd_ne, zupl_eq, zupl_ne, zupf_eq, zupf_ne, zM1, kM, kI]
        · obtain ⟨w', g1, g2, g3⟩ := ih fu (nI m + -nI 1) (upd w i (w i)) cur (by omega) (by omega) (zM1_i m) (hup _) (by rw [zupd_eq rfl]; exact hwi)
          refine ⟨w', ?_, g2, by rw [efin, if_neg q]; exact g3⟩
          rw [← g1, fX11_laySame_L24_s, e2]
          have a1 := zAc_net hv i hi k0
          have a2 := zAc_net hv m (by omega) (by omega)
          have l1 := hL (aF a i) (by omega)
          have l2 := hL (aS a i) (by omega)
          have l3 := hL (aF a m) (by omega)
          have l4 := hL (aS a m) (by omega)
          have n1 : ¬ (L (aF a i) = L (aF a m) ∧ L (aS a i) = L (aS a m)) := fun e => qn ⟨k1, k0, Or.inl ⟨e.1.symm, e.2.symm⟩⟩
          have n2 : ¬ (L (aF a i) = L (aS a m) ∧ L (aS a i) = L (aF a m)) := fun e => qn ⟨k1, k0, Or.inr ⟨e.2.symm, e.1.symm⟩⟩
          by_cases q3 : L (aF a i) = L (aF a m)
          · have q4 : L (aS a i) ≠ L (aS a m) := fun e => n1 ⟨q3, e⟩
            by_cases q5 : L (aF a i) = L (aS a m)
            · have q6 : L (aS a i) ≠ L (aF a m) := fun e => n2 ⟨q5, e⟩
              simp (disch := omega) only [zl_0, zl_1, zl_2, zl_3, zl_4, zl_5, zl_6, zl_8, zl_9, zl_11, zl_12, zl_13, zl_16, zl_20, zl_23, zl_24, zl_30, zl_32, zl_40, zl_41, zl_43, zl_45, zl_50, zl_52, zl_60, zl_97, zl_99, zl_100, zl_124, zl_126, zl_127, zl_169, zl_170, zl_171, zl_195, zl_200, zl_201, zl_256, zl_261, zl_999, zl_1100, zl_1884, zl_4095, zl_4096, zd1, zd2, zs1, nI_add, pk_mul, zsb, zad1, zad2, zcl, zgI, zif_le, zif_nle, zif_lt, zif_nlt, zif_eq, zif_ne, zif_self, zif_T, zif_F, Nat.zero_add, Nat.add_sub_cancel, zn21, zn31, zif_m1, zif_m1l, zif_m1n, zif_pm, zb1_k, zb2_k, zb3_k, zb4_k, zb5_k, zb6_k, zb7_k, zb8_k, zb9_k, zb10_k, zb11_k, zb12_k, zb14_k, zb21_k, zb22_k, zupd_eq, zupd_ne, zupl_eq, zupl_ne, zupf_eq, zupf_ne, zM1, kM, kI, fI, sI, fM, sM, hw, fX11_laySame_J114, fX11_laySame_J136, fX11_laySame_J142]
            · simp (disch := omega) only [zl_0, zl_1, zl_2, zl_3, zl_4, zl_5, zl_6, zl_8, zl_9, zl_11, zl_12, zl_13, zl_16, zl_20, zl_23, zl_24, zl_30, zl_32, zl_40, zl_41, zl_43, zl_45, zl_50, zl_52, zl_60, zl_97, zl_99, zl_100, zl_124, zl_126, zl_127, zl_169, zl_170, zl_171, zl_195, zl_200, zl_201, zl_256, zl_261, zl_999, zl_1100, zl_1884, zl_4095, zl_4096, zd1, zd2, zs1, nI_add, pk_mul, zsb, zad1, zad2, zcl, zgI, zif_le, zif_nle, zif_lt, zif_nlt, zif_eq, zif_ne, zif_self, zif_T, zif_F, Nat.zero_add, Nat.add_sub_cancel, zn21, zn31, zif_m1, zif_m1l, zif_m1n, zif_pm, zb1_k, zb2_k, zb3_k, zb4_k, zb5_k, zb6_k, zb7_k, zb8_k, zb9_k, zb10_k, zb11_k, zb12_k, zb14_k, zb21_k, zb22_k, zupd_eq, zupd_ne, zupl_eq, zupl_ne, zupf_eq, zupf_ne, zM1, kM, kI, fI, sI, fM, sM, hw, fX11_laySame_J114, fX11_laySame_J136, fX11_laySame_J142]
          · by_cases q5 : L (aF a i) = L (aS a m)
            · have q6 : L (aS a i) ≠ L (aF a m) := fun e => n2 ⟨q5, e⟩
              simp (disch := omega) only [zl_0, zl_1, zl_2, zl_3, zl_4, zl_5, zl_6, zl_8, zl_9, zl_11, zl_12, zl_13, zl_16, zl_20, zl_23, zl_24, zl_30, zl_32, zl_40, zl_41, zl_43, zl_45, zl_50, zl_52, zl_60, zl_97, zl_99, zl_100, zl_124, zl_126, zl_127, zl_169, zl_170, zl_171, zl_195, zl_200, zl_201, zl_256, zl_261, zl_999, zl_1100, zl_1884, zl_4095, zl_4096, zd1, zd2, zs1, nI_add, pk_mul, zsb, zad1, zad2, zcl, zgI, zif_le, zif_nle, zif_lt, zif_nlt, zif_eq, zif_ne, zif_self, zif_T, zif_F, Nat.zero_add, Nat.add_sub_cancel, zn21, zn31, zif_m1, zif_m1l, zif_m1n, zif_pm, zb1_k, zb2_k, zb3_k, zb4_k, zb5_k, zb6_k, zb7_k, zb8_k, zb9_k, zb10_k, zb11_k, zb12_k, zb14_k, zb21_k, zb22_k, zupd_eq, zupd_ne, zupl_eq, zupl_ne, zupf_eq, zupf_ne, zM1, kM, kI, fI, sI, fM, sM, hw, fX11_laySame_J114, fX11_laySame_J136, fX11_laySame_J142]
            · simp (disch := omega) only [zl_0, zl_1, zl_2, zl_3, zl_4, zl_5, zl_6, zl_8, zl_9, zl_11, zl_12, zl_13, zl_16, zl_20, zl_23, zl_24, zl_30, zl_32, zl_40, zl_41, zl_43, zl_45, zl_50, zl_52, zl_60, zl_97, zl_99, zl_100, zl_124, zl_126, zl_127, zl_169, zl_170, zl_171, zl_195, zl_200, zl_201, zl_256, zl_261, zl_999, zl_1100, zl_1884, zl_4095, zl_4096, zd1, zd2, zs1, nI_add, pk_mul, zsb, zad1, zad2, zcl, zgI, zif_le, zif_nle, zif_lt, zif_nlt, zif_eq, zif_ne, zif_self, zif_T, zif_F, Nat.zero_add, Nat.add_sub_cancel, zn21, zn31, zif_m1, zif_m1l, zif_m1n, zif_pm, zb1_k, zb2_k, zb3_k, zb4_k, zb5_k, zb6_k, zb7_k, zb8_k, zb9_k, zb10_k, zb11_k, zb12_k, zb14_k, zb21_k, zb22_k, zupd_eq, zupd_ne, zupl_eq, zupl_ne, zupf_eq, zupf_ne, zM1, kM, kI, fI, sI, fM, sM, hw, fX11_laySame_J114, fX11_laySame_J136, fX11_laySame_J142]
      · obtain ⟨w', g1, g2, g3⟩ := ih fu (nI m + -nI 1) w cur (by omega) (by omega) (zM1_i m) hw hwi
        refine ⟨w', ?_, g2, by rw [efin, if_neg q]; exact g3⟩
        rw [← g1, fX11_laySame_L24_s, e2]
        simp (disch := omega) only [zl_0, zl_1, zl_2, zl_3, zl_4, zl_5, zl_6, zl_8, zl_9, zl_11, zl_12, zl_13, zl_16, zl_20, zl_23, zl_24, zl_30, zl_32, zl_40, zl_41, zl_43, zl_45, zl_50, zl_52, zl_60, zl_97, zl_99, zl_100, zl_124, zl_126, zl_127, zl_169, zl_170, zl_171, zl_195, zl_200, zl_201, zl_256, zl_261, zl_999, zl_1100, zl_1884, zl_4095, zl_4096, zd1, zd2, zs1, nI_add, pk_mul, zsb, zad1, zad2, zcl, zgI, zif_le, zif_nle, zif_lt, zif_nlt, zif_eq, zif_ne, zif_self, zif_T, zif_F, Nat.zero_add, Nat.add_sub_cancel, zn21, zn31, zif_m1, zif_m1l, zif_m1n, zif_pm, zb1_k, zb2_k, zb3_k, zb4_k, zb5_k, zb6_k, zb7_k, zb8_k, zb9_k, zb10_k, zb11_k, zb12_k, zb14_k, zb21_k, zb22_k, zupd_eq, zupd_ne, zupl_eq, zupl_ne, zupf_eq, zupf_ne, zM1, kM, kI]
theorem zgo_le {L : Nat → Nat} {a : Nat → Nat} {i : Nat} (hL : ∀ x, x < i → L x ≤ x) : zgo L i (zfnd (zTn a L i) i 0) ≤ i := by
  cases e : zfnd (zTn a L i) i 0 with
  | none => exact Nat.le_refl _
  | some k =>
    have := zfnd_s _ _ _ e
    have := hL k (by omega)
    show L k ≤ i
    omega
theorem xm_turned {a : Nat → Nat} {kind first second parts now : Nat → Int32} {k67 : (Nat → Int32) → Option (Int32 × (Nat → Int32))} (hv : zV a) (hx : zXn a (nI (a 8)) kind first second parts) (hm : zMn a now) : ∀ (d i fu fu' : Nat) (lk sm : Nat → Int32) (L : Nat → Nat), i + d = a 8 → d < fu → d < fu' → (∀ x, x < i → L x ≤ x) → (∀ x, x < i → lk x = nI (L x)) → (∀ x, x < i → sm x = nI (L x)) → ∃ (lk' sm' : Nat → Int32) (L' : Nat → Nat), fX5_areTurned_L2 k67 (nI (a 8)) kind first second fu (nI i) lk = k67 lk' ∧ fX11_laySame_L2 now fu' (nI i) sm = some sm' ∧ (∀ x, x < a 8 → L' x ≤ x) ∧ (∀ x, x < a 8 → lk' x = nI (L' x)) ∧ (∀ x, x < a 8 → sm' x = nI (L' x)) := by
  have h8 := hv.2.1
  intro d
  induction d with
  | zero =>
    intro i fu fu' lk sm L hi hfu hfu' hL hl hs
    obtain ⟨fu, rfl⟩ : ∃ f, fu = f + 1 := ⟨fu - 1, by omega⟩
    obtain ⟨fu', rfl⟩ : ∃ f, fu' = f + 1 := ⟨fu' - 1, by omega⟩
    refine ⟨lk, sm, L, ?_, ?_, fun x hx => hL x (by omega), fun x hx => hl x (by omega), fun x hx => hs x (by omega)⟩
    · rw [fX5_areTurned_L2_s]
      simp (disch := omega) only [zl_0, zl_1, zl_2, zl_3, zl_4, zl_5, zl_6, zl_8, zl_9, zl_11, zl_12, zl_13, zl_16, zl_20, zl_23, zl_24, zl_30, zl_32, zl_40, zl_41, zl_43, zl_45, zl_50, zl_52, zl_60, zl_97, zl_99, zl_100, zl_124, zl_126, zl_127, zl_169, zl_170, zl_171, zl_195, zl_200, zl_201, zl_256, zl_261, zl_999, zl_1100, zl_1884, zl_4095, zl_4096, zd1, zd2, zs1, nI_add, pk_mul, zsb, zad1, zad2, zcl, zgI, zif_le, zif_nle, zif_lt, zif_nlt, zif_eq, zif_ne, zif_self, zif_T, zif_F, Nat.zero_add, Nat.add_sub_cancel, zn21, zn31, zif_m1, zif_m1l, zif_m1n, zif_pm, zb1_k, zb2_k, zb3_k, zb4_k, zb5_k, zb6_k, zb7_k, zb8_k, zb9_k, zb10_k, zb11_k, zb12_k, zb14_k, zb21_k, zb22_k, zupd_eq, zupd_ne, zupl_eq, zupl_ne, zupf_eq, zupf_ne]
    · rw [fX11_laySame_L2_s]
      simp (disch := omega) only [zl_0, zl_1, zl_2, zl_3, zl_4, zl_5, zl_6, zl_8, zl_9, zl_11, zl_12, zl_13, zl_16, zl_20, zl_23, zl_24, zl_30, zl_32, zl_40, zl_41, zl_43, zl_45, zl_50, zl_52, zl_60, zl_97, zl_99, zl_100, zl_124, zl_126, zl_127, zl_169, zl_170, zl_171, zl_195, zl_200, zl_201, zl_256, zl_261, zl_999, zl_1100, zl_1884, zl_4095, zl_4096, zd1, zd2, zs1, nI_add, pk_mul, zsb, zad1, zad2, zcl, zgI, zif_le, zif_nle, zif_lt, zif_nlt, zif_eq, zif_ne, zif_self, zif_T, zif_F, Nat.zero_add, Nat.add_sub_cancel, zn21, zn31, zif_m1, zif_m1l, zif_m1n, zif_pm, zb1_k, zb2_k, zb3_k, zb4_k, zb5_k, zb6_k, zb7_k, zb8_k, zb9_k, zb10_k, zb11_k, zb12_k, zb14_k, zb21_k, zb22_k, zupd_eq, zupd_ne, zupl_eq, zupl_ne, zupf_eq, zupf_ne, hm.1]
  | succ d ih =>
    intro i fu fu' lk sm L hi hfu hfu' hL hl hs
    obtain ⟨fu, rfl⟩ : ∃ f, fu = f + 1 := ⟨fu - 1, by omega⟩
    obtain ⟨fu', rfl⟩ : ∃ f, fu' = f + 1 := ⟨fu' - 1, by omega⟩
    have hi2 : i < a 8 := by omega
    have g1 := fx_likeL (k53 := fX5_areTurned_J53 (nI i) lk (fX5_areTurned_L2 k67 (nI (a 8)) kind first second fu)) hv hx hi2 hl hL i 0 5000 (by omega) (by omega)
    obtain ⟨w', g2, g3, g4⟩ := fm_sameL (k2 := fX11_laySame_L2 now fu') hv hm hi2 hL i 5000 (nI i - nI 1) (upd sm i (nI i)) i (Nat.le_refl _) (by omega) (zM1_j i) (fun x hx => by rw [zupd_ne (by omega)]; exact hs x hx) (zupd_eq rfl)
    have hle := zgo_le (a := a) hL
    generalize zgo L i (zfnd (zTn a L i) i 0) = v at *
    obtain ⟨lk', sm', L', k1, k2, k3, k4, k5⟩ := ih (i + 1) fu fu' (upd lk i (nI v)) w' (vf_upd L i v) (by omega) (by omega) (by omega) (fun x hx => by
      by_cases e : x = i
      · rw [zupf_eq e, e]; exact hle
      · rw [zupf_ne e]; exact hL x (by omega)) (fun x hx => by
      by_cases e : x = i
      · rw [zupf_eq e, zupd_eq e]
      · rw [zupf_ne e, zupd_ne e]; exact hl x (by omega)) (fun x hx => by
      by_cases e : x = i
      · rw [zupf_eq e, e]; exact g4
      · rw [zupf_ne e]; exact g3 x (by omega))
    refine ⟨lk', sm', L', ?_, ?_, k3, k4, k5⟩
    · rw [fX5_areTurned_L2_s]
      simp (disch := omega) only [zl_0, zl_1, zl_2, zl_3, zl_4, zl_5, zl_6, zl_8, zl_9, zl_11, zl_12, zl_13, zl_16, zl_20, zl_23, zl_24, zl_30, zl_32, zl_40, zl_41, zl_43, zl_45, zl_50, zl_52, zl_60, zl_97, zl_99, zl_100, zl_124, zl_126, zl_127, zl_169, zl_170, zl_171, zl_195, zl_200, zl_201, zl_256, zl_261, zl_999, zl_1100, zl_1884, zl_4095, zl_4096, zd1, zd2, zs1, nI_add, pk_mul, zsb, zad1, zad2, zcl, zgI, zif_le, zif_nle, zif_lt, zif_nlt, zif_eq, zif_ne, zif_self, zif_T, zif_F, Nat.zero_add, Nat.add_sub_cancel, zn21, zn31, zif_m1, zif_m1l, zif_m1n, zif_pm, zb1_k, zb2_k, zb3_k, zb4_k, zb5_k, zb6_k, zb7_k, zb8_k, zb9_k, zb10_k, zb11_k, zb12_k, zb14_k, zb21_k, zb22_k, zupd_eq, zupd_ne, zupl_eq, zupl_ne, zupf_eq, zupf_ne, g1, fX5_areTurned_J53, k1]
    · rw [fX11_laySame_L2_s, if_neg (show ¬ now ((8 : Int32)).toNatClampNeg ≤ nI i by rw [zc8, hm.1 8 (by omega)]; exact nI_ge hi2 (by omega)), zgI (by omega) (by omega), zcl (by omega), show nI i - (1 : Int32) = nI i - nI 1 from rfl, g2]
      exact k2
theorem q_turned {Fd : FD → Prop} {k : Nat} : zQ_turned (zR Fd) k := by
  intro xs ms h p1 p2
  have h0 := h
  obtain ⟨a, hv, hx, hm, hr⟩ := h
  obtain ⟨hB, hN, hM, hT0, hT1, hT2⟩ := id hx
  have h8 := hv.2.1
  have hc : x_nets_count xs = nI (a 8) := hN.1
  have hm8 : m_now ms 8 = nI (a 8) := hm.1 8 (by omega)
  rcases znet p1 h8 hm8 with ⟨e1, e2⟩ | ⟨i, hi, rfl, e1, e2⟩
  · refine zfin0 (-nI 1) h0 ?_ ?_
    · simp (disch := omega) only [stX10_turned, fX10_turned, zl_0, zl_1, zl_2, zl_3, zl_4, zl_5, zl_6, zl_8, zl_9, zl_11, zl_12, zl_13, zl_16, zl_20, zl_23, zl_24, zl_30, zl_32, zl_40, zl_41, zl_43, zl_45, zl_50, zl_52, zl_60, zl_97, zl_99, zl_100, zl_124, zl_126, zl_127, zl_169, zl_170, zl_171, zl_195, zl_200, zl_201, zl_256, zl_261, zl_999, zl_1100, zl_1884, zl_4095, zl_4096, zd1, zd2, zs1, nI_add, pk_mul, zsb, zad1, zad2, zcl, zgI, zif_le, zif_nle, zif_lt, zif_nlt, zif_eq, zif_ne, zif_self, zif_T, zif_F, Nat.zero_add, Nat.add_sub_cancel, zn21, zn31, zif_m1, zif_m1l, zif_m1n, zif_pm, zb1_k, zb2_k, zb3_k, zb4_k, zb5_k, zb6_k, zb7_k, zb8_k, zb9_k, zb10_k, zb11_k, zb12_k, zb14_k, zb21_k, zb22_k, zupd_eq, zupd_ne, zupl_eq, zupl_ne, zupf_eq, zupf_ne, hc, e1]; (try rw [← hc]); try rfl
    · simp (disch := omega) only [stX11_turned, fX11_turned, zl_0, zl_1, zl_2, zl_3, zl_4, zl_5, zl_6, zl_8, zl_9, zl_11, zl_12, zl_13, zl_16, zl_20, zl_23, zl_24, zl_30, zl_32, zl_40, zl_41, zl_43, zl_45, zl_50, zl_52, zl_60, zl_97, zl_99, zl_100, zl_124, zl_126, zl_127, zl_169, zl_170, zl_171, zl_195, zl_200, zl_201, zl_256, zl_261, zl_999, zl_1100, zl_1884, zl_4095, zl_4096, zd1, zd2, zs1, nI_add, pk_mul, zsb, zad1, zad2, zcl, zgI, zif_le, zif_nle, zif_lt, zif_nlt, zif_eq, zif_ne, zif_self, zif_T, zif_F, Nat.zero_add, Nat.add_sub_cancel, zn21, zn31, zif_m1, zif_m1l, zif_m1n, zif_pm, zb1_k, zb2_k, zb3_k, zb4_k, zb5_k, zb6_k, zb7_k, zb8_k, zb9_k, zb10_k, zb11_k, zb12_k, zb14_k, zb21_k, zb22_k, zupd_eq, zupd_ne, zupl_eq, zupl_ne, zupf_eq, zupf_ne, e2]
  rcases znet p2 h8 hm8 with ⟨e3, e4⟩ | ⟨j, hj, rfl, e3, e4⟩
  · refine zfin0 (-nI 1) h0 ?_ ?_
    · simp (disch := omega) only [stX10_turned, fX10_turned, zl_0, zl_1, zl_2, zl_3, zl_4, zl_5, zl_6, zl_8, zl_9, zl_11, zl_12, zl_13, zl_16, zl_20, zl_23, zl_24, zl_30, zl_32, zl_40, zl_41, zl_43, zl_45, zl_50, zl_52, zl_60, zl_97, zl_99, zl_100, zl_124, zl_126, zl_127, zl_169, zl_170, zl_171, zl_195, zl_200, zl_201, zl_256, zl_261, zl_999, zl_1100, zl_1884, zl_4095, zl_4096, zd1, zd2, zs1, nI_add, pk_mul, zsb, zad1, zad2, zcl, zgI, zif_le, zif_nle, zif_lt, zif_nlt, zif_eq, zif_ne, zif_self, zif_T, zif_F, Nat.zero_add, Nat.add_sub_cancel, zn21, zn31, zif_m1, zif_m1l, zif_m1n, zif_pm, zb1_k, zb2_k, zb3_k, zb4_k, zb5_k, zb6_k, zb7_k, zb8_k, zb9_k, zb10_k, zb11_k, zb12_k, zb14_k, zb21_k, zb22_k, zupd_eq, zupd_ne, zupl_eq, zupl_ne, zupf_eq, zupf_ne, hc, e1, e3]; (try rw [← hc]); try rfl
    · simp (disch := omega) only [stX11_turned, fX11_turned, zl_0, zl_1, zl_2, zl_3, zl_4, zl_5, zl_6, zl_8, zl_9, zl_11, zl_12, zl_13, zl_16, zl_20, zl_23, zl_24, zl_30, zl_32, zl_40, zl_41, zl_43, zl_45, zl_50, zl_52, zl_60, zl_97, zl_99, zl_100, zl_124, zl_126, zl_127, zl_169, zl_170, zl_171, zl_195, zl_200, zl_201, zl_256, zl_261, zl_999, zl_1100, zl_1884, zl_4095, zl_4096, zd1, zd2, zs1, nI_add, pk_mul, zsb, zad1, zad2, zcl, zgI, zif_le, zif_nle, zif_lt, zif_nlt, zif_eq, zif_ne, zif_self, zif_T, zif_F, Nat.zero_add, Nat.add_sub_cancel, zn21, zn31, zif_m1, zif_m1l, zif_m1n, zif_pm, zb1_k, zb2_k, zb3_k, zb4_k, zb5_k, zb6_k, zb7_k, zb8_k, zb9_k, zb10_k, zb11_k, zb12_k, zb14_k, zb21_k, zb22_k, zupd_eq, zupd_ne, zupl_eq, zupl_ne, zupf_eq, zupf_ne, e2, e4]
  rw [hc] at hN
  obtain ⟨lk', sm', L, g1, g2, g3, g4, g5⟩ := xm_turned (k67 := fX5_areTurned_J67 (nI i) (nI j)) hv hN hm (a 8) 0 5000 5000 (x_nets_likes xs) (m_same ms) (fun _ => 0) (by omega) (by omega) (by omega) (fun x hx => by omega) (fun x hx => by omega) (fun x hx => by omega)
  have l1 := g3 i hi
  have l2 := g3 j hj
  have hM : fX11_turned (nI i) (nI j) (m_now ms) (m_same ms) = some (if L i = L j then nI 1 else nI 0, sm') := by
    have hs : fX11_laySame (m_now ms) (m_same ms) = some sm' := by
      unfold fX11_laySame
      rw [zl_0]
      exact g2
    unfold fX11_turned
    by_cases q : L i = L j
    · rw [if_pos q]
      simp (disch := omega) only [zl_0, zl_1, zl_2, zl_3, zl_4, zl_5, zl_6, zl_8, zl_9, zl_11, zl_12, zl_13, zl_16, zl_20, zl_23, zl_24, zl_30, zl_32, zl_40, zl_41, zl_43, zl_45, zl_50, zl_52, zl_60, zl_97, zl_99, zl_100, zl_124, zl_126, zl_127, zl_169, zl_170, zl_171, zl_195, zl_200, zl_201, zl_256, zl_261, zl_999, zl_1100, zl_1884, zl_4095, zl_4096, zd1, zd2, zs1, nI_add, pk_mul, zsb, zad1, zad2, zcl, zgI, zif_le, zif_nle, zif_lt, zif_nlt, zif_eq, zif_ne, zif_self, zif_T, zif_F, Nat.zero_add, Nat.add_sub_cancel, zn21, zn31, zif_m1, zif_m1l, zif_m1n, zif_pm, zb1_k, zb2_k, zb3_k, zb4_k, zb5_k, zb6_k, zb7_k, zb8_k, zb9_k, zb10_k, zb11_k, zb12_k, zb14_k, zb21_k, zb22_k, zupd_eq, zupd_ne, zupl_eq, zupl_ne, zupf_eq, zupf_ne, e2, e4, hs, g5]
    · rw [if_neg q]
      simp (disch := omega) only [zl_0, zl_1, zl_2, zl_3, zl_4, zl_5, zl_6, zl_8, zl_9, zl_11, zl_12, zl_13, zl_16, zl_20, zl_23, zl_24, zl_30, zl_32, zl_40, zl_41, zl_43, zl_45, zl_50, zl_52, zl_60, zl_97, zl_99, zl_100, zl_124, zl_126, zl_127, zl_169, zl_170, zl_171, zl_195, zl_200, zl_201, zl_256, zl_261, zl_999, zl_1100, zl_1884, zl_4095, zl_4096, zd1, zd2, zs1, nI_add, pk_mul, zsb, zad1, zad2, zcl, zgI, zif_le, zif_nle, zif_lt, zif_nlt, zif_eq, zif_ne, zif_self, zif_T, zif_F, Nat.zero_add, Nat.add_sub_cancel, zn21, zn31, zif_m1, zif_m1l, zif_m1n, zif_pm, zb1_k, zb2_k, zb3_k, zb4_k, zb5_k, zb6_k, zb7_k, zb8_k, zb9_k, zb10_k, zb11_k, zb12_k, zb14_k, zb21_k, zb22_k, zupd_eq, zupd_ne, zupl_eq, zupl_ne, zupf_eq, zupf_ne, e2, e4, hs, g5]
  have hX : fX10_turned (nI i) (nI j) (x_nets_count xs) (x_nets_kind xs) (x_nets_first xs) (x_nets_likes xs) (x_nets_second xs) = some (if L i = L j then nI 1 else nI 0, lk') := by
    have hs : fX5_areTurned (nI i) (nI j) (nI (a 8)) (x_nets_kind xs) (x_nets_first xs) (x_nets_likes xs) (x_nets_second xs) = fX5_areTurned_J67 (nI i) (nI j) lk' := by
      unfold fX5_areTurned
      rw [zl_0]
      exact g1
    unfold fX10_turned
    by_cases q : L i = L j
    · rw [if_pos q]
      simp (disch := omega) only [zl_0, zl_1, zl_2, zl_3, zl_4, zl_5, zl_6, zl_8, zl_9, zl_11, zl_12, zl_13, zl_16, zl_20, zl_23, zl_24, zl_30, zl_32, zl_40, zl_41, zl_43, zl_45, zl_50, zl_52, zl_60, zl_97, zl_99, zl_100, zl_124, zl_126, zl_127, zl_169, zl_170, zl_171, zl_195, zl_200, zl_201, zl_256, zl_261, zl_999, zl_1100, zl_1884, zl_4095, zl_4096, zd1, zd2, zs1, nI_add, pk_mul, zsb, zad1, zad2, zcl, zgI, zif_le, zif_nle, zif_lt, zif_nlt, zif_eq, zif_ne, zif_self, zif_T, zif_F, Nat.zero_add, Nat.add_sub_cancel, zn21, zn31, zif_m1, zif_m1l, zif_m1n, zif_pm, zb1_k, zb2_k, zb3_k, zb4_k, zb5_k, zb6_k, zb7_k, zb8_k, zb9_k, zb10_k, zb11_k, zb12_k, zb14_k, zb21_k, zb22_k, zupd_eq, zupd_ne, zupl_eq, zupl_ne, zupf_eq, zupf_ne, hc, e1, e3, hs, fX5_areTurned_J67, g4]
    · rw [if_neg q]
      simp (disch := omega) only [zl_0, zl_1, zl_2, zl_3, zl_4, zl_5, zl_6, zl_8, zl_9, zl_11, zl_12, zl_13, zl_16, zl_20, zl_23, zl_24, zl_30, zl_32, zl_40, zl_41, zl_43, zl_45, zl_50, zl_52, zl_60, zl_97, zl_99, zl_100, zl_124, zl_126, zl_127, zl_169, zl_170, zl_171, zl_195, zl_200, zl_201, zl_256, zl_261, zl_999, zl_1100, zl_1884, zl_4095, zl_4096, zd1, zd2, zs1, nI_add, pk_mul, zsb, zad1, zad2, zcl, zgI, zif_le, zif_nle, zif_lt, zif_nlt, zif_eq, zif_ne, zif_self, zif_T, zif_F, Nat.zero_add, Nat.add_sub_cancel, zn21, zn31, zif_m1, zif_m1l, zif_m1n, zif_pm, zb1_k, zb2_k, zb3_k, zb4_k, zb5_k, zb6_k, zb7_k, zb8_k, zb9_k, zb10_k, zb11_k, zb12_k, zb14_k, zb21_k, zb22_k, zupd_eq, zupd_ne, zupl_eq, zupl_ne, zupf_eq, zupf_ne, hc, e1, e3, hs, fX5_areTurned_J67, g4]
  refine ⟨if L i = L j then nI 1 else nI 0, (xs.1, (xs.2.1.1, xs.2.1.2.1, xs.2.1.2.2.1, xs.2.1.2.2.2.1, xs.2.1.2.2.2.2.1, lk', xs.2.1.2.2.2.2.2.2), xs.2.2), (ms.1, ms.2.1, ms.2.2.1, (ms.2.2.2.1.1, sm', ms.2.2.2.1.2.2), ms.2.2.2.2), ?_, ?_, h0⟩
  · unfold stX10_turned
    rw [hX]
    rfl
  · unfold stX11_turned
    rw [hM]
    rfl
