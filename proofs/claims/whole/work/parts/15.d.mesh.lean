/-! what lies between two points, on both sides -/
theorem fx_bits0 : ∀ n, n < 256 → fJ6_bitCount_0f7a4 (nI n) = some (nI (zc8' n)) := by decide +kernel
theorem zcP : ∀ P, P < 64 → zc8' P = zct P := by decide +kernel
theorem fm_count {n : Nat} (hn : n < 256) : fX11_countOf (nI n) = some (nI (zc8' n)) := by
  have c := fun i => zbt_c n i
  have key : ∀ d j fu s, j + d = 8 → d < fu → s ≤ j → fX11_countOf_L4 (nI n) fu (nI s) (nI j) = some (nI (s + (if j ≤ 0 then zbt n 0 else 0) + (if j ≤ 1 then zbt n 1 else 0) + (if j ≤ 2 then zbt n 2 else 0) + (if j ≤ 3 then zbt n 3 else 0) + (if j ≤ 4 then zbt n 4 else 0) + (if j ≤ 5 then zbt n 5 else 0) + (if j ≤ 6 then zbt n 6 else 0) + (if j ≤ 7 then zbt n 7 else 0))) := by
    intro d
    induction d with
    | zero =>
      intro j fu s hj hfu hs
      obtain ⟨fu, rfl⟩ : ∃ f, fu = f + 1 := ⟨fu - 1, by omega⟩
      have e : j = 8 := by omega
      subst e
      rw [fX11_countOf_L4_s, zl_8, if_pos (nI_le (Nat.le_refl _) (by decide))]
      rfl
    | succ d ih =>
      intro j fu s hj hfu hs
      obtain ⟨fu, rfl⟩ : ∃ f, fu = f + 1 := ⟨fu - 1, by omega⟩
      have br := zbr (n := n) (i := j) (by omega) (by omega)
      have b1 : zbt n j ≤ 1 := by have := c j; omega
      rw [fX11_countOf_L4_s, zl_8, if_neg (nI_ge (by omega) (by omega)), zl_1, br, nI_add, nI_add, ih (j + 1) fu (s + zbt n j) (by omega) (by omega) (by omega)]
      congr 1
      congr 1
      rcases (show j = 0 ∨ j = 1 ∨ j = 2 ∨ j = 3 ∨ j = 4 ∨ j = 5 ∨ j = 6 ∨ j = 7 by omega) with rfl | rfl | rfl | rfl | rfl | rfl | rfl | rfl <;> simp <;> omega
  have := key 8 0 5000 0 (by omega) (by omega) (by omega)
  unfold fX11_countOf
  rw [zl_0, this]
  congr 1
  congr 1
  unfold zc8'
  simp
def zpro (a : Nat → Nat) (k : Nat) : Nat → Nat
  | 0 => 1
  | j + 1 => zpro a k j * (if zbt k j = 1 then eW a j else 1)
theorem zpro_b {a : Nat → Nat} (hM : zMsh a) (k : Nat) : ∀ j, j ≤ a 170 → zpro a k j ≤ 99 ^ j
  | 0, _ => Nat.le_refl _
  | j + 1, hj => by
    have h := (hM.2.2.2 j (by omega)).2.2.2
    have := zpro_b hM k j (by omega)
    rw [Nat.pow_succ]
    refine Nat.mul_le_mul this ?_
    split
    · exact h
    · omega
theorem zpro_p {a : Nat → Nat} (k : Nat) : ∀ j, (∀ e, e < j → zbt k e = 1 → eW a e ≠ 0) → 0 < zpro a k j
  | 0, _ => Nat.one_pos
  | j + 1, h => by
    refine Nat.mul_pos (zpro_p k j (fun e he => h e (by omega))) ?_
    by_cases q : zbt k j = 1
    · rw [if_pos q]; exact Nat.pos_of_ne_zero (h j (by omega) q)
    · rw [if_neg q]; exact Nat.one_pos
theorem fx_ohms {a : Nat → Nat} {one oth mo : Nat → Int32} {pts edg : Int32} {k : Nat} (hM : zMsh a) (hx : zXm a pts edg one oth mo) (hk : k < 256) : fX3_ohmsOf (nI k) edg mo = some (zL (zpro a k (a 170))) := by
  have h8 := hM.2.2.1
  obtain ⟨_, ee, _, _, e5⟩ := hx
  subst ee
  have key : ∀ d j fu, j + d = a 170 → d < fu → fX3_ohmsOf_L5 (nI (a 170)) mo (nI k) fu (zL (zpro a k j)) (nI j) = some (zL (zpro a k (a 170))) := by
    intro d
    induction d with
    | zero =>
      intro j fu hj hfu
      obtain ⟨fu, rfl⟩ : ∃ f, fu = f + 1 := ⟨fu - 1, by omega⟩
      rw [fX3_ohmsOf_L5_s]
      simp (disch := omega) only [zl_0, zl_1, zl_2, zl_3, zl_4, zl_5, zl_6, zl_8, zl_9, zl_11, zl_12, zl_13, zl_16, zl_20, zl_23, zl_24, zl_30, zl_32, zl_40, zl_41, zl_43, zl_45, zl_50, zl_52, zl_60, zl_97, zl_99, zl_100, zl_124, zl_126, zl_127, zl_169, zl_170, zl_171, zl_195, zl_200, zl_201, zl_256, zl_261, zl_999, zl_1100, zl_1884, zl_4095, zl_4096, zd1, zd2, zs1, nI_add, pk_mul, zsb, zad1, zad2, zcl, zgI, zif_le, zif_nle, zif_lt, zif_nlt, zif_eq, zif_ne, zif_self, zif_T, zif_F, Nat.zero_add, Nat.add_sub_cancel, zn21, zn31, zif_m1, zif_m1l, zif_m1n, zif_pm, zb1_k, zb2_k, zb3_k, zb4_k, zb5_k, zb6_k, zb7_k, zb8_k, zb9_k, zb10_k, zb11_k, zb12_k, zb14_k, zb21_k, zb22_k, zupd_eq, zupd_ne, zupl_eq, zupl_ne, zupf_eq, zupf_ne]
      rw [show j = a 170 by omega]
    | succ d ih =>
      intro j fu hj hfu
      obtain ⟨fu, rfl⟩ : ∃ f, fu = f + 1 := ⟨fu - 1, by omega⟩
      have hj2 : j < a 170 := by omega
      have hW := (hM.2.2.2 j hj2).2.2.2
      have br := zbr (n := k) (i := j) (by omega) (by omega)
      have hih := ih (j + 1) fu (by omega) (by omega)
      rw [fX3_ohmsOf_L5_s]
      by_cases q : zbt k j = 1
      · have eq : zpro a k (j + 1) = zpro a k j * eW a j := by show zpro a k j * (if zbt k j = 1 then eW a j else 1) = _; rw [if_pos q]
        rw [eq] at hih
        simp (disch := omega) only [zl_0, zl_1, zl_2, zl_3, zl_4, zl_5, zl_6, zl_8, zl_9, zl_11, zl_12, zl_13, zl_16, zl_20, zl_23, zl_24, zl_30, zl_32, zl_40, zl_41, zl_43, zl_45, zl_50, zl_52, zl_60, zl_97, zl_99, zl_100, zl_124, zl_126, zl_127, zl_169, zl_170, zl_171, zl_195, zl_200, zl_201, zl_256, zl_261, zl_999, zl_1100, zl_1884, zl_4095, zl_4096, zd1, zd2, zs1, nI_add, pk_mul, zsb, zad1, zad2, zcl, zgI, zif_le, zif_nle, zif_lt, zif_nlt, zif_eq, zif_ne, zif_self, zif_T, zif_F, Nat.zero_add, Nat.add_sub_cancel, zn21, zn31, zif_m1, zif_m1l, zif_m1n, zif_pm, zb1_k, zb2_k, zb3_k, zb4_k, zb5_k, zb6_k, zb7_k, zb8_k, zb9_k, zb10_k, zb11_k, zb12_k, zb14_k, zb21_k, zb22_k, zupd_eq, zupd_ne, zupl_eq, zupl_ne, zupf_eq, zupf_ne, br, zif_b1 q, e5, zi2l, zL_mul, hih]
      · have eq : zpro a k (j + 1) = zpro a k j := by show zpro a k j * (if zbt k j = 1 then eW a j else 1) = _; rw [if_neg q, Nat.mul_one]
        rw [eq] at hih
        simp (disch := omega) only [zl_0, zl_1, zl_2, zl_3, zl_4, zl_5, zl_6, zl_8, zl_9, zl_11, zl_12, zl_13, zl_16, zl_20, zl_23, zl_24, zl_30, zl_32, zl_40, zl_41, zl_43, zl_45, zl_50, zl_52, zl_60, zl_97, zl_99, zl_100, zl_124, zl_126, zl_127, zl_169, zl_170, zl_171, zl_195, zl_200, zl_201, zl_256, zl_261, zl_999, zl_1100, zl_1884, zl_4095, zl_4096, zd1, zd2, zs1, nI_add, pk_mul, zsb, zad1, zad2, zcl, zgI, zif_le, zif_nle, zif_lt, zif_nlt, zif_eq, zif_ne, zif_self, zif_T, zif_F, Nat.zero_add, Nat.add_sub_cancel, zn21, zn31, zif_m1, zif_m1l, zif_m1n, zif_pm, zb1_k, zb2_k, zb3_k, zb4_k, zb5_k, zb6_k, zb7_k, zb8_k, zb9_k, zb10_k, zb11_k, zb12_k, zb14_k, zb21_k, zb22_k, zupd_eq, zupd_ne, zupl_eq, zupl_ne, zupf_eq, zupf_ne, br, zif_b0 q, hih]
  unfold fX3_ohmsOf
  exact key (a 170) 0 5000 (by omega) (by omega)
theorem fm_others {a : Nat → Nat} {now : Nat → Int32} {IP c : Nat} (hM : zMsh a) (hm : zMn a now) (hI : IP < 256) (hc : c < 256) : fX11_othersOf (nI IP) (nI c) now = some (zL (zpro a (zdf IP c) (a 170))) := by
  have h8 := hM.2.2.1
  have hk : zdf IP c < 256 := Nat.lt_of_le_of_lt (zdf_le _ _) hI
  have zn := zbn (a := IP) (b := c) (by omega) (by omega)
  generalize zdf IP c = k at *
  have key : ∀ d j fu, j + d = a 170 → d < fu → fX11_othersOf_L5 now (nI IP) (nI c) fu (zL (zpro a k j)) (nI j) = some (zL (zpro a k (a 170))) := by
    intro d
    induction d with
    | zero =>
      intro j fu hj hfu
      obtain ⟨fu, rfl⟩ : ∃ f, fu = f + 1 := ⟨fu - 1, by omega⟩
      rw [fX11_othersOf_L5_s]
      simp (disch := omega) only [zl_0, zl_1, zl_2, zl_3, zl_4, zl_5, zl_6, zl_8, zl_9, zl_11, zl_12, zl_13, zl_16, zl_20, zl_23, zl_24, zl_30, zl_32, zl_40, zl_41, zl_43, zl_45, zl_50, zl_52, zl_60, zl_97, zl_99, zl_100, zl_124, zl_126, zl_127, zl_169, zl_170, zl_171, zl_195, zl_200, zl_201, zl_256, zl_261, zl_999, zl_1100, zl_1884, zl_4095, zl_4096, zd1, zd2, zs1, nI_add, pk_mul, zsb, zad1, zad2, zcl, zgI, zif_le, zif_nle, zif_lt, zif_nlt, zif_eq, zif_ne, zif_self, zif_T, zif_F, Nat.zero_add, Nat.add_sub_cancel, zn21, zn31, zif_m1, zif_m1l, zif_m1n, zif_pm, zb1_k, zb2_k, zb3_k, zb4_k, zb5_k, zb6_k, zb7_k, zb8_k, zb9_k, zb10_k, zb11_k, zb12_k, zb14_k, zb21_k, zb22_k, zupd_eq, zupd_ne, zupl_eq, zupl_ne, zupf_eq, zupf_ne, hm.1]
      rw [show j = a 170 by omega]
    | succ d ih =>
      intro j fu hj hfu
      obtain ⟨fu, rfl⟩ : ∃ f, fu = f + 1 := ⟨fu - 1, by omega⟩
      have hj2 : j < a 170 := by omega
      have hW := (hM.2.2.2 j hj2).2.2.2
      have br := zbr (n := k) (i := j) (by omega) (by omega)
      have hih := ih (j + 1) fu (by omega) (by omega)
      rw [fX11_othersOf_L5_s]
      by_cases q : zbt k j = 1
      · have eq : zpro a k (j + 1) = zpro a k j * eW a j := by show zpro a k j * (if zbt k j = 1 then eW a j else 1) = _; rw [if_pos q]
        rw [eq] at hih
        simp (disch := omega) only [zl_0, zl_1, zl_2, zl_3, zl_4, zl_5, zl_6, zl_8, zl_9, zl_11, zl_12, zl_13, zl_16, zl_20, zl_23, zl_24, zl_30, zl_32, zl_40, zl_41, zl_43, zl_45, zl_50, zl_52, zl_60, zl_97, zl_99, zl_100, zl_124, zl_126, zl_127, zl_169, zl_170, zl_171, zl_195, zl_200, zl_201, zl_256, zl_261, zl_999, zl_1100, zl_1884, zl_4095, zl_4096, zd1, zd2, zs1, nI_add, pk_mul, zsb, zad1, zad2, zcl, zgI, zif_le, zif_nle, zif_lt, zif_nlt, zif_eq, zif_ne, zif_self, zif_T, zif_F, Nat.zero_add, Nat.add_sub_cancel, zn21, zn31, zif_m1, zif_m1l, zif_m1n, zif_pm, zb1_k, zb2_k, zb3_k, zb4_k, zb5_k, zb6_k, zb7_k, zb8_k, zb9_k, zb10_k, zb11_k, zb12_k, zb14_k, zb21_k, zb22_k, zupd_eq, zupd_ne, zupl_eq, zupl_ne, zupf_eq, zupf_ne, hm.1, zn, br, zif_b1 q, zi2l, zL_mul, hih]
      · have eq : zpro a k (j + 1) = zpro a k j := by show zpro a k j * (if zbt k j = 1 then eW a j else 1) = _; rw [if_neg q, Nat.mul_one]
        rw [eq] at hih
        simp (disch := omega) only [zl_0, zl_1, zl_2, zl_3, zl_4, zl_5, zl_6, zl_8, zl_9, zl_11, zl_12, zl_13, zl_16, zl_20, zl_23, zl_24, zl_30, zl_32, zl_40, zl_41, zl_43, zl_45, zl_50, zl_52, zl_60, zl_97, zl_99, zl_100, zl_124, zl_126, zl_127, zl_169, zl_170, zl_171, zl_195, zl_200, zl_201, zl_256, zl_261, zl_999, zl_1100, zl_1884, zl_4095, zl_4096, zd1, zd2, zs1, nI_add, pk_mul, zsb, zad1, zad2, zcl, zgI, zif_le, zif_nle, zif_lt, zif_nlt, zif_eq, zif_ne, zif_self, zif_T, zif_F, Nat.zero_add, Nat.add_sub_cancel, zn21, zn31, zif_m1, zif_m1l, zif_m1n, zif_pm, zb1_k, zb2_k, zb3_k, zb4_k, zb5_k, zb6_k, zb7_k, zb8_k, zb9_k, zb10_k, zb11_k, zb12_k, zb14_k, zb21_k, zb22_k, zupd_eq, zupd_ne, zupl_eq, zupl_ne, zupf_eq, zupf_ne, hm.1, zn, br, zif_b0 q, hih]
  unfold fX11_othersOf
  exact key (a 170) 0 5000 (by omega) (by omega)
/-- the edges in play -/
def zip' (a : Nat → Nat) (cl P : Nat) (e : Nat) : Bool := decide (zbt cl e = 1 ∧ zbt P (eA a e) = 1)
def zIP (a : Nat → Nat) (cl P : Nat) : Nat := zmask (zip' a cl P) (a 170)
theorem fx_edgesOn {a : Nat → Nat} {one oth mo : Nat → Int32} {pts edg : Int32} {cl P : Nat} (hM : zMsh a) (hx : zXm a pts edg one oth mo) (hc : cl < 256) (hP : P < 64) : fX3_edgesOn (nI P) (nI cl) edg one = some (nI (zIP a cl P)) := by
  have h8 := hM.2.2.1
  have h6 := hM.2.1
  obtain ⟨_, ee, e1, _, _⟩ := hx
  subst ee
  have key : ∀ d j fu, j + d = a 170 → d < fu → fX3_edgesOn_L5 (nI (a 170)) one (nI P) (nI cl) fu (nI (zmask (zip' a cl P) j)) (nI j) = some (nI (zIP a cl P)) := by
    intro d
    induction d with
    | zero =>
      intro j fu hj hfu
      obtain ⟨fu, rfl⟩ : ∃ f, fu = f + 1 := ⟨fu - 1, by omega⟩
      rw [fX3_edgesOn_L5_s]
      simp (disch := omega) only [zl_0, zl_1, zl_2, zl_3, zl_4, zl_5, zl_6, zl_8, zl_9, zl_11, zl_12, zl_13, zl_16, zl_20, zl_23, zl_24, zl_30, zl_32, zl_40, zl_41, zl_43, zl_45, zl_50, zl_52, zl_60, zl_97, zl_99, zl_100, zl_124, zl_126, zl_127, zl_169, zl_170, zl_171, zl_195, zl_200, zl_201, zl_256, zl_261, zl_999, zl_1100, zl_1884, zl_4095, zl_4096, zd1, zd2, zs1, nI_add, pk_mul, zsb, zad1, zad2, zcl, zgI, zif_le, zif_nle, zif_lt, zif_nlt, zif_eq, zif_ne, zif_self, zif_T, zif_F, Nat.zero_add, Nat.add_sub_cancel, zn21, zn31, zif_m1, zif_m1l, zif_m1n, zif_pm, zb1_k, zb2_k, zb3_k, zb4_k, zb5_k, zb6_k, zb7_k, zb8_k, zb9_k, zb10_k, zb11_k, zb12_k, zb14_k, zb21_k, zb22_k, zupd_eq, zupd_ne, zupl_eq, zupl_ne, zupf_eq, zupf_ne]
      rw [show j = a 170 by omega]
      rfl
    | succ d ih =>
      intro j fu hj hfu
      obtain ⟨fu, rfl⟩ : ∃ f, fu = f + 1 := ⟨fu - 1, by omega⟩
      have hj2 : j < a 170 := by omega
      have hA := (hM.2.2.2 j hj2).1
      have br := zbr (n := cl) (i := j) (by omega) (by omega)
      have bp := zbr (n := P) (i := a (171 + 3 * j)) (by omega) (by omega)
      have ml := zmask_8 (zip' a cl P) (show j ≤ 8 by omega)
      have p2 := zp2 (i := j) (by omega)
      have hih := ih (j + 1) fu (by omega) (by omega)
      rw [fX3_edgesOn_L5_s]
      by_cases q : zbt cl j = 1
      · by_cases w : zbt P (a (171 + 3 * j)) = 1
        · have eq : zmask (zip' a cl P) (j + 1) = zmask (zip' a cl P) j ||| 2 ^ j := if_pos (decide_eq_true ⟨q, w⟩)
          rw [eq] at hih
          simp (disch := omega) only [zl_0, zl_1, zl_2, zl_3, zl_4, zl_5, zl_6, zl_8, zl_9, zl_11, zl_12, zl_13, zl_16, zl_20, zl_23, zl_24, zl_30, zl_32, zl_40, zl_41, zl_43, zl_45, zl_50, zl_52, zl_60, zl_97, zl_99, zl_100, zl_124, zl_126, zl_127, zl_169, zl_170, zl_171, zl_195, zl_200, zl_201, zl_256, zl_261, zl_999, zl_1100, zl_1884, zl_4095, zl_4096, zd1, zd2, zs1, nI_add, pk_mul, zsb, zad1, zad2, zcl, zgI, zif_le, zif_nle, zif_lt, zif_nlt, zif_eq, zif_ne, zif_self, zif_T, zif_F, Nat.zero_add, Nat.add_sub_cancel, zn21, zn31, zif_m1, zif_m1l, zif_m1n, zif_pm, zb1_k, zb2_k, zb3_k, zb4_k, zb5_k, zb6_k, zb7_k, zb8_k, zb9_k, zb10_k, zb11_k, zb12_k, zb14_k, zb21_k, zb22_k, zupd_eq, zupd_ne, zupl_eq, zupl_ne, zupf_eq, zupf_ne, e1, br, bp, zif_b1 q, zif_b1 w, zbs, zbor, hih]
        · have eq : zmask (zip' a cl P) (j + 1) = zmask (zip' a cl P) j := if_neg (fun z => w (of_decide_eq_true z).2)
          rw [eq] at hih
          simp (disch := omega) only [zl_0, zl_1, zl_2, zl_3, zl_4, zl_5, zl_6, zl_8, zl_9, zl_11, zl_12, zl_13, zl_16, zl_20, zl_23, zl_24, zl_30, zl_32, zl_40, zl_41, zl_43, zl_45, zl_50, zl_52, zl_60, zl_97, zl_99, zl_100, zl_124, zl_126, zl_127, zl_169, zl_170, zl_171, zl_195, zl_200, zl_201, zl_256, zl_261, zl_999, zl_1100, zl_1884, zl_4095, zl_4096, zd1, zd2, zs1, nI_add, pk_mul, zsb, zad1, zad2, zcl, zgI, zif_le, zif_nle, zif_lt, zif_nlt, zif_eq, zif_ne, zif_self, zif_T, zif_F, Nat.zero_add, Nat.add_sub_cancel, zn21, zn31, zif_m1, zif_m1l, zif_m1n, zif_pm, zb1_k, zb2_k, zb3_k, zb4_k, zb5_k, zb6_k, zb7_k, zb8_k, zb9_k, zb10_k, zb11_k, zb12_k, zb14_k, zb21_k, zb22_k, zupd_eq, zupd_ne, zupl_eq, zupl_ne, zupf_eq, zupf_ne, e1, br, bp, zif_b1 q, zif_b0 w, hih]
      · have eq : zmask (zip' a cl P) (j + 1) = zmask (zip' a cl P) j := if_neg (fun z => q (of_decide_eq_true z).1)
        rw [eq] at hih
        simp (disch := omega) only [zl_0, zl_1, zl_2, zl_3, zl_4, zl_5, zl_6, zl_8, zl_9, zl_11, zl_12, zl_13, zl_16, zl_20, zl_23, zl_24, zl_30, zl_32, zl_40, zl_41, zl_43, zl_45, zl_50, zl_52, zl_60, zl_97, zl_99, zl_100, zl_124, zl_126, zl_127, zl_169, zl_170, zl_171, zl_195, zl_200, zl_201, zl_256, zl_261, zl_999, zl_1100, zl_1884, zl_4095, zl_4096, zd1, zd2, zs1, nI_add, pk_mul, zsb, zad1, zad2, zcl, zgI, zif_le, zif_nle, zif_lt, zif_nlt, zif_eq, zif_ne, zif_self, zif_T, zif_F, Nat.zero_add, Nat.add_sub_cancel, zn21, zn31, zif_m1, zif_m1l, zif_m1n, zif_pm, zb1_k, zb2_k, zb3_k, zb4_k, zb5_k, zb6_k, zb7_k, zb8_k, zb9_k, zb10_k, zb11_k, zb12_k, zb14_k, zb21_k, zb22_k, zupd_eq, zupd_ne, zupl_eq, zupl_ne, zupf_eq, zupf_ne, br, zif_b0 q, hih]
  unfold fX3_edgesOn
  exact key (a 170) 0 5000 (by omega) (by omega)
theorem fm_edgesOn {a : Nat → Nat} {now : Nat → Int32} {k117 : Int32 → Option (Int64 × Int64)} {cl P : Nat} (hM : zMsh a) (hm : zMn a now) (hc : cl < 256) (hP : P < 64) : fX11_between0_L53 k117 now (nI cl) (nI P) 5000 (nI 0) (nI 0) = k117 (nI (zIP a cl P)) := by
  have h8 := hM.2.2.1
  have h6 := hM.2.1
  have key : ∀ d j fu, j + d = a 170 → d < fu → fX11_between0_L53 k117 now (nI cl) (nI P) fu (nI (zmask (zip' a cl P) j)) (nI j) = k117 (nI (zIP a cl P)) := by
    intro d
    induction d with
    | zero =>
      intro j fu hj hfu
      obtain ⟨fu, rfl⟩ : ∃ f, fu = f + 1 := ⟨fu - 1, by omega⟩
      rw [fX11_between0_L53_s]
      simp (disch := omega) only [zl_0, zl_1, zl_2, zl_3, zl_4, zl_5, zl_6, zl_8, zl_9, zl_11, zl_12, zl_13, zl_16, zl_20, zl_23, zl_24, zl_30, zl_32, zl_40, zl_41, zl_43, zl_45, zl_50, zl_52, zl_60, zl_97, zl_99, zl_100, zl_124, zl_126, zl_127, zl_169, zl_170, zl_171, zl_195, zl_200, zl_201, zl_256, zl_261, zl_999, zl_1100, zl_1884, zl_4095, zl_4096, zd1, zd2, zs1, nI_add, pk_mul, zsb, zad1, zad2, zcl, zgI, zif_le, zif_nle, zif_lt, zif_nlt, zif_eq, zif_ne, zif_self, zif_T, zif_F, Nat.zero_add, Nat.add_sub_cancel, zn21, zn31, zif_m1, zif_m1l, zif_m1n, zif_pm, zb1_k, zb2_k, zb3_k, zb4_k, zb5_k, zb6_k, zb7_k, zb8_k, zb9_k, zb10_k, zb11_k, zb12_k, zb14_k, zb21_k, zb22_k, zupd_eq, zupd_ne, zupl_eq, zupl_ne, zupf_eq, zupf_ne, hm.1]
      rw [show j = a 170 by omega]
      rfl
    | succ d ih =>
      intro j fu hj hfu
      obtain ⟨fu, rfl⟩ : ∃ f, fu = f + 1 := ⟨fu - 1, by omega⟩
      have hj2 : j < a 170 := by omega
      have hA := (hM.2.2.2 j hj2).1
      have br := zbr (n := cl) (i := j) (by omega) (by omega)
      have bp := zbr (n := P) (i := a (171 + 3 * j)) (by omega) (by omega)
      have ml := zmask_8 (zip' a cl P) (show j ≤ 8 by omega)
      have p2 := zp2 (i := j) (by omega)
      have hih := ih (j + 1) fu (by omega) (by omega)
      rw [fX11_between0_L53_s]
      by_cases q : zbt cl j = 1
      · by_cases w : zbt P (a (171 + 3 * j)) = 1
        · have eq : zmask (zip' a cl P) (j + 1) = zmask (zip' a cl P) j ||| 2 ^ j := if_pos (decide_eq_true ⟨q, w⟩)
          rw [eq] at hih
          simp (disch := omega) only [zl_0, zl_1, zl_2, zl_3, zl_4, zl_5, zl_6, zl_8, zl_9, zl_11, zl_12, zl_13, zl_16, zl_20, zl_23, zl_24, zl_30, zl_32, zl_40, zl_41, zl_43, zl_45, zl_50, zl_52, zl_60, zl_97, zl_99, zl_100, zl_124, zl_126, zl_127, zl_169, zl_170, zl_171, zl_195, zl_200, zl_201, zl_256, zl_261, zl_999, zl_1100, zl_1884, zl_4095, zl_4096, zd1, zd2, zs1, nI_add, pk_mul, zsb, zad1, zad2, zcl, zgI, zif_le, zif_nle, zif_lt, zif_nlt, zif_eq, zif_ne, zif_self, zif_T, zif_F, Nat.zero_add, Nat.add_sub_cancel, zn21, zn31, zif_m1, zif_m1l, zif_m1n, zif_pm, zb1_k, zb2_k, zb3_k, zb4_k, zb5_k, zb6_k, zb7_k, zb8_k, zb9_k, zb10_k, zb11_k, zb12_k, zb14_k, zb21_k, zb22_k, zupd_eq, zupd_ne, zupl_eq, zupl_ne, zupf_eq, zupf_ne, hm.1, br, bp, zif_c1 q, zif_c1 w, zbs, zbor, hih]
        · have eq : zmask (zip' a cl P) (j + 1) = zmask (zip' a cl P) j := if_neg (fun z => w (of_decide_eq_true z).2)
          rw [eq] at hih
          simp (disch := omega) only [zl_0, zl_1, zl_2, zl_3, zl_4, zl_5, zl_6, zl_8, zl_9, zl_11, zl_12, zl_13, zl_16, zl_20, zl_23, zl_24, zl_30, zl_32, zl_40, zl_41, zl_43, zl_45, zl_50, zl_52, zl_60, zl_97, zl_99, zl_100, zl_124, zl_126, zl_127, zl_169, zl_170, zl_171, zl_195, zl_200, zl_201, zl_256, zl_261, zl_999, zl_1100, zl_1884, zl_4095, zl_4096, zd1, zd2, zs1, nI_add, pk_mul, zsb, zad1, zad2, zcl, zgI, zif_le, zif_nle, zif_lt, zif_nlt, zif_eq, zif_ne, zif_self, zif_T, zif_F, Nat.zero_add, Nat.add_sub_cancel, zn21, zn31, zif_m1, zif_m1l, zif_m1n, zif_pm, zb1_k, zb2_k, zb3_k, zb4_k, zb5_k, zb6_k, zb7_k, zb8_k, zb9_k, zb10_k, zb11_k, zb12_k, zb14_k, zb21_k, zb22_k, zupd_eq, zupd_ne, zupl_eq, zupl_ne, zupf_eq, zupf_ne, hm.1, br, bp, zif_c1 q, zif_c0 w, zor0, hih]
      · have eq : zmask (zip' a cl P) (j + 1) = zmask (zip' a cl P) j := if_neg (fun z => q (of_decide_eq_true z).1)
        rw [eq] at hih
        simp (disch := omega) only [zl_0, zl_1, zl_2, zl_3, zl_4, zl_5, zl_6, zl_8, zl_9, zl_11, zl_12, zl_13, zl_16, zl_20, zl_23, zl_24, zl_30, zl_32, zl_40, zl_41, zl_43, zl_45, zl_50, zl_52, zl_60, zl_97, zl_99, zl_100, zl_124, zl_126, zl_127, zl_169, zl_170, zl_171, zl_195, zl_200, zl_201, zl_256, zl_261, zl_999, zl_1100, zl_1884, zl_4095, zl_4096, zd1, zd2, zs1, nI_add, pk_mul, zsb, zad1, zad2, zcl, zgI, zif_le, zif_nle, zif_lt, zif_nlt, zif_eq, zif_ne, zif_self, zif_T, zif_F, Nat.zero_add, Nat.add_sub_cancel, zn21, zn31, zif_m1, zif_m1l, zif_m1n, zif_pm, zb1_k, zb2_k, zb3_k, zb4_k, zb5_k, zb6_k, zb7_k, zb8_k, zb9_k, zb10_k, zb11_k, zb12_k, zb14_k, zb21_k, zb22_k, zupd_eq, zupd_ne, zupl_eq, zupl_ne, zupf_eq, zupf_ne, hm.1, br, zif_c0 q, zor0, hih]
  exact key (a 170) 0 5000 (by omega) (by omega)
/-! no ring among the edges chosen -/
theorem fx_hang {T : Nat → Nat} {tr : Nat → Int32} {fr to : Nat} (hT : ∀ x, x < 6 → T x < 6) (hfr : fr < 6) (h : ∀ x, x < 6 → tr x = nI (T x)) : ∃ tr', fX3_hang (nI fr) (nI to) tr = some tr' ∧ ∀ x, x < 6 → tr' x = nI (zmg T fr to x) := by
  have key : ∀ d j fu (tr : Nat → Int32), j + d = 6 → d < fu → (∀ x, x < j → tr x = nI (zmg T fr to x)) → (∀ x, j ≤ x → x < 6 → tr x = nI (T x)) → ∃ tr', fX3_hang_L2 (nI fr) (nI to) fu (nI j) tr = some tr' ∧ ∀ x, x < 6 → tr' x = nI (zmg T fr to x) := by
    intro d
    induction d with
    | zero =>
      intro j fu tr hj hfu h1 h2
      obtain ⟨fu, rfl⟩ : ∃ f, fu = f + 1 := ⟨fu - 1, by omega⟩
      refine ⟨tr, ?_, fun x hx => h1 x (by omega)⟩
      rw [fX3_hang_L2_s]
      simp (disch := omega) only [zl_0, zl_1, zl_2, zl_3, zl_4, zl_5, zl_6, zl_8, zl_9, zl_11, zl_12, zl_13, zl_16, zl_20, zl_23, zl_24, zl_30, zl_32, zl_40, zl_41, zl_43, zl_45, zl_50, zl_52, zl_60, zl_97, zl_99, zl_100, zl_124, zl_126, zl_127, zl_169, zl_170, zl_171, zl_195, zl_200, zl_201, zl_256, zl_261, zl_999, zl_1100, zl_1884, zl_4095, zl_4096, zd1, zd2, zs1, nI_add, pk_mul, zsb, zad1, zad2, zcl, zgI, zif_le, zif_nle, zif_lt, zif_nlt, zif_eq, zif_ne, zif_self, zif_T, zif_F, Nat.zero_add, Nat.add_sub_cancel, zn21, zn31, zif_m1, zif_m1l, zif_m1n, zif_pm, zb1_k, zb2_k, zb3_k, zb4_k, zb5_k, zb6_k, zb7_k, zb8_k, zb9_k, zb10_k, zb11_k, zb12_k, zb14_k, zb21_k, zb22_k, zupd_eq, zupd_ne, zupl_eq, zupl_ne, zupf_eq, zupf_ne]
    | succ d ih =>
      intro j fu tr hj hfu h1 h2
      obtain ⟨fu, rfl⟩ : ∃ f, fu = f + 1 := ⟨fu - 1, by omega⟩
      have hj := hT j (by omega)
      have e := h2 j (Nat.le_refl _) (by omega)
      by_cases q : T j = fr
      · obtain ⟨tr', g1, g2⟩ := ih (j + 1) fu (upd tr j (nI to)) (by omega) (by omega) (fun x hx => by
          by_cases z : x = j
          · rw [zupd_eq z, z]
            exact congrArg nI (if_pos q).symm
          · rw [zupd_ne z]; exact h1 x (by omega)) (fun x hx hx6 => by rw [zupd_ne (by omega)]; exact h2 x (by omega) hx6)
        refine ⟨tr', ?_, g2⟩
        rw [fX3_hang_L2_s]
        simp (disch := omega) only [zl_0, zl_1, zl_2, zl_3, zl_4, zl_5, zl_6, zl_8, zl_9, zl_11, zl_12, zl_13, zl_16, zl_20, zl_23, zl_24, zl_30, zl_32, zl_40, zl_41, zl_43, zl_45, zl_50, zl_52, zl_60, zl_97, zl_99, zl_100, zl_124, zl_126, zl_127, zl_169, zl_170, zl_171, zl_195, zl_200, zl_201, zl_256, zl_261, zl_999, zl_1100, zl_1884, zl_4095, zl_4096, zd1, zd2, zs1, nI_add, pk_mul, zsb, zad1, zad2, zcl, zgI, zif_le, zif_nle, zif_lt, zif_nlt, zif_eq, zif_ne, zif_self, zif_T, zif_F, Nat.zero_add, Nat.add_sub_cancel, zn21, zn31, zif_m1, zif_m1l, zif_m1n, zif_pm, zb1_k, zb2_k, zb3_k, zb4_k, zb5_k, zb6_k, zb7_k, zb8_k, zb9_k, zb10_k, zb11_k, zb12_k, zb14_k, zb21_k, zb22_k, zupd_eq, zupd_ne, zupl_eq, zupl_ne, zupf_eq, zupf_ne, e, g1]
      · obtain ⟨tr', g1, g2⟩ := ih (j + 1) fu tr (by omega) (by omega) (fun x hx => by
          by_cases z : x = j
          · rw [z, e]
            exact congrArg nI (if_neg q).symm
          · exact h1 x (by omega)) (fun x hx hx6 => h2 x (by omega) hx6)
        refine ⟨tr', ?_, g2⟩
        rw [fX3_hang_L2_s]
        simp (disch := omega) only [zl_0, zl_1, zl_2, zl_3, zl_4, zl_5, zl_6, zl_8, zl_9, zl_11, zl_12, zl_13, zl_16, zl_20, zl_23, zl_24, zl_30, zl_32, zl_40, zl_41, zl_43, zl_45, zl_50, zl_52, zl_60, zl_97, zl_99, zl_100, zl_124, zl_126, zl_127, zl_169, zl_170, zl_171, zl_195, zl_200, zl_201, zl_256, zl_261, zl_999, zl_1100, zl_1884, zl_4095, zl_4096, zd1, zd2, zs1, nI_add, pk_mul, zsb, zad1, zad2, zcl, zgI, zif_le, zif_nle, zif_lt, zif_nlt, zif_eq, zif_ne, zif_self, zif_T, zif_F, Nat.zero_add, Nat.add_sub_cancel, zn21, zn31, zif_m1, zif_m1l, zif_m1n, zif_pm, zb1_k, zb2_k, zb3_k, zb4_k, zb5_k, zb6_k, zb7_k, zb8_k, zb9_k, zb10_k, zb11_k, zb12_k, zb14_k, zb21_k, zb22_k, zupd_eq, zupd_ne, zupl_eq, zupl_ne, zupf_eq, zupf_ne, e, g1]
  unfold fX3_hang
  exact key 6 0 5000 tr (by omega) (by omega) (fun x hx => by omega) (fun x _ hx => h x hx)
theorem zmg_lt {T : Nat → Nat} {fr to : Nat} (hT : ∀ x, x < 6 → T x < 6) (hto : to < 6) : ∀ x, x < 6 → zmg T fr to x < 6 := fun x hx => by
  show (if T x = fr then to else T x) < 6
  split
  · exact hto
  · exact hT x hx
theorem fx_forestL {a : Nat → Nat} {one oth mo : Nat → Int32} {pts edg : Int32} {c : Nat} (hM : zMsh a) (hx : zXm a pts edg one oth mo) (hc : c < 256) : ∀ d j fu T u tr, j + d = a 170 → d < fu → (∀ x, x < 6 → T x < 6) → (∀ x, x < 6 → tr x = nI (T x)) → (∀ e, zbt u e = 1 → e < j) → ∃ r tr', fX3_isForest_L23 (nI (a 170)) one oth (nI c) fu (nI j) tr = some (r, tr') ∧ ((r = nI 1 ∧ (∀ x, x < 6 → tr' x = nI ((zuf a c d j T u).1 x)) ∧ ∀ e, j ≤ e → e < a 170 → zbt c e = 1 → zbt (zuf a c d j T u).2 e = 1) ∨ (r = nI 0 ∧ ∃ e, j ≤ e ∧ e < a 170 ∧ zbt c e = 1 ∧ ¬ zbt (zuf a c d j T u).2 e = 1)) := by
  have h8 := hM.2.2.1
  have h6 := hM.2.1
  obtain ⟨_, _, e1, e2, _⟩ := hx
  intro d
  induction d with
  | zero =>
    intro j fu T u tr hj hfu hT htr hu
    obtain ⟨fu, rfl⟩ : ∃ f, fu = f + 1 := ⟨fu - 1, by omega⟩
    refine ⟨nI 1, tr, ?_, Or.inl ⟨rfl, htr, fun e h1 h2 => by omega⟩⟩
    rw [fX3_isForest_L23_s]
    simp (disch := omega) only [zl_0, zl_1, zl_2, zl_3, zl_4, zl_5, zl_6, zl_8, zl_9, zl_11, zl_12, zl_13, zl_16, zl_20, zl_23, zl_24, zl_30, zl_32, zl_40, zl_41, zl_43, zl_45, zl_50, zl_52, zl_60, zl_97, zl_99, zl_100, zl_124, zl_126, zl_127, zl_169, zl_170, zl_171, zl_195, zl_200, zl_201, zl_256, zl_261, zl_999, zl_1100, zl_1884, zl_4095, zl_4096, zd1, zd2, zs1, nI_add, pk_mul, zsb, zad1, zad2, zcl, zgI, zif_le, zif_nle, zif_lt, zif_nlt, zif_eq, zif_ne, zif_self, zif_T, zif_F, Nat.zero_add, Nat.add_sub_cancel, zn21, zn31, zif_m1, zif_m1l, zif_m1n, zif_pm, zb1_k, zb2_k, zb3_k, zb4_k, zb5_k, zb6_k, zb7_k, zb8_k, zb9_k, zb10_k, zb11_k, zb12_k, zb14_k, zb21_k, zb22_k, zupd_eq, zupd_ne, zupl_eq, zupl_ne, zupf_eq, zupf_ne]
  | succ d ih =>
    intro j fu T u tr hj hfu hT htr hu
    obtain ⟨fu, rfl⟩ : ∃ f, fu = f + 1 := ⟨fu - 1, by omega⟩
    have hj2 : j < a 170 := by omega
    have hE := hM.2.2.2 j hj2
    have br := zbr (n := c) (i := j) (by omega) (by omega)
    have tA := hT (a (171 + 3 * j)) (by omega)
    have tB := hT (a (171 + 3 * j + 1)) (by omega)
    by_cases q : zbt c j = 1
    · by_cases w : T (eA a j) = T (eB a j)
      · have w : T (a (171 + 3 * j)) = T (a (171 + 3 * j + 1)) := w
        refine ⟨nI 0, tr, ?_, Or.inr ⟨rfl, j, Nat.le_refl _, hj2, q, ?_⟩⟩
        · rw [fX3_isForest_L23_s]
          simp (disch := omega) only [zl_0, zl_1, zl_2, zl_3, zl_4, zl_5, zl_6, zl_8, zl_9, zl_11, zl_12, zl_13, zl_16, zl_20, zl_23, zl_24, zl_30, zl_32, zl_40, zl_41, zl_43, zl_45, zl_50, zl_52, zl_60, zl_97, zl_99, zl_100, zl_124, zl_126, zl_127, zl_169, zl_170, zl_171, zl_195, zl_200, zl_201, zl_256, zl_261, zl_999, zl_1100, zl_1884, zl_4095, zl_4096, zd1, zd2, zs1, nI_add, pk_mul, zsb, zad1, zad2, zcl, zgI, zif_le, zif_nle, zif_lt, zif_nlt, zif_eq, zif_ne, zif_self, zif_T, zif_F, Nat.zero_add, Nat.add_sub_cancel, zn21, zn31, zif_m1, zif_m1l, zif_m1n, zif_pm, zb1_k, zb2_k, zb3_k, zb4_k, zb5_k, zb6_k, zb7_k, zb8_k, zb9_k, zb10_k, zb11_k, zb12_k, zb14_k, zb21_k, zb22_k, zupd_eq, zupd_ne, zupl_eq, zupl_ne, zupf_eq, zupf_ne, br, zif_b1 q, e1, e2, htr]
        · rw [zuf_n (fun z => z.2 w)]
          intro z
          have := hu j (zuf_lo d (j + 1) T u j (by omega) z)
          omega
      · obtain ⟨tr', k1, k2⟩ := fx_hang (fr := T (a (171 + 3 * j + 1))) (to := T (a (171 + 3 * j))) hT tB htr
        obtain ⟨r, tr2, g1, g2⟩ := ih (j + 1) fu (zmg T (T (a (171 + 3 * j + 1))) (T (a (171 + 3 * j)))) (u ||| 2 ^ j) tr' (by omega) (by omega) (zmg_lt hT tA) k2 (fun e he => by
          rcases (zbt_or _ _ _).mp he with z | z
          · have := hu e z; omega
          · have := (zbt_2 _ _).mp z; omega)
        have w2 : ¬ T (a (171 + 3 * j)) = T (a (171 + 3 * j + 1)) := w
        refine ⟨r, tr2, ?_, ?_⟩
        · rw [fX3_isForest_L23_s]
          simp (disch := omega) only [zl_0, zl_1, zl_2, zl_3, zl_4, zl_5, zl_6, zl_8, zl_9, zl_11, zl_12, zl_13, zl_16, zl_20, zl_23, zl_24, zl_30, zl_32, zl_40, zl_41, zl_43, zl_45, zl_50, zl_52, zl_60, zl_97, zl_99, zl_100, zl_124, zl_126, zl_127, zl_169, zl_170, zl_171, zl_195, zl_200, zl_201, zl_256, zl_261, zl_999, zl_1100, zl_1884, zl_4095, zl_4096, zd1, zd2, zs1, nI_add, pk_mul, zsb, zad1, zad2, zcl, zgI, zif_le, zif_nle, zif_lt, zif_nlt, zif_eq, zif_ne, zif_self, zif_T, zif_F, Nat.zero_add, Nat.add_sub_cancel, zn21, zn31, zif_m1, zif_m1l, zif_m1n, zif_pm, zb1_k, zb2_k, zb3_k, zb4_k, zb5_k, zb6_k, zb7_k, zb8_k, zb9_k, zb10_k, zb11_k, zb12_k, zb14_k, zb21_k, zb22_k, zupd_eq, zupd_ne, zupl_eq, zupl_ne, zupf_eq, zupf_ne, br, zif_b1 q, e1, e2, htr, k1, g1]
        · rw [zuf_y q w]
          rcases g2 with ⟨rfl, g3, g4⟩ | ⟨rfl, e, g3, g4, g5, g6⟩
          · refine Or.inl ⟨rfl, g3, fun e h1 h2 h3 => ?_⟩
            by_cases z : e = j
            · subst z
              exact zuf_up _ _ _ _ _ ((zbt_or _ _ _).mpr (Or.inr ((zbt_2 _ _).mpr rfl)))
            · exact g4 e (by omega) h2 h3
          · exact Or.inr ⟨rfl, e, by omega, g4, g5, g6⟩
    · obtain ⟨r, tr2, g1, g2⟩ := ih (j + 1) fu T u tr (by omega) (by omega) hT htr (fun e he => by have := hu e he; omega)
      refine ⟨r, tr2, ?_, ?_⟩
      · rw [fX3_isForest_L23_s]
        simp (disch := omega) only [zl_0, zl_1, zl_2, zl_3, zl_4, zl_5, zl_6, zl_8, zl_9, zl_11, zl_12, zl_13, zl_16, zl_20, zl_23, zl_24, zl_30, zl_32, zl_40, zl_41, zl_43, zl_45, zl_50, zl_52, zl_60, zl_97, zl_99, zl_100, zl_124, zl_126, zl_127, zl_169, zl_170, zl_171, zl_195, zl_200, zl_201, zl_256, zl_261, zl_999, zl_1100, zl_1884, zl_4095, zl_4096, zd1, zd2, zs1, nI_add, pk_mul, zsb, zad1, zad2, zcl, zgI, zif_le, zif_nle, zif_lt, zif_nlt, zif_eq, zif_ne, zif_self, zif_T, zif_F, Nat.zero_add, Nat.add_sub_cancel, zn21, zn31, zif_m1, zif_m1l, zif_m1n, zif_pm, zb1_k, zb2_k, zb3_k, zb4_k, zb5_k, zb6_k, zb7_k, zb8_k, zb9_k, zb10_k, zb11_k, zb12_k, zb14_k, zb21_k, zb22_k, zupd_eq, zupd_ne, zupl_eq, zupl_ne, zupf_eq, zupf_ne, br, zif_b0 q, g1]
      · rw [zuf_n (fun z => q z.1)]
        rcases g2 with ⟨rfl, g3, g4⟩ | ⟨rfl, e, g3, g4, g5, g6⟩
        · refine Or.inl ⟨rfl, g3, fun e h1 h2 h3 => ?_⟩
          by_cases z : e = j
          · subst z; exact absurd h3 q
          · exact g4 e (by omega) h2 h3
        · exact Or.inr ⟨rfl, e, by omega, g4, g5, g6⟩
theorem fx_forest {a : Nat → Nat} {one oth mo tr : Nat → Int32} {pts edg : Int32} {c IP : Nat} (hM : zMsh a) (hx : zXm a pts edg one oth mo) (hc : c < 256) (hs : ∀ e, zbt c e = 1 → e < a 170) : ∃ r tr', fX3_isForest (nI c) edg tr one oth = some (r, tr') ∧ ((r = nI 1 ∧ (∀ x, x < 6 → tr' x = nI (zTl a c x)) ∧ zc8' (zUl a c) = zc8' c) ∨ (r = nI 0 ∧ zc8' (zUl a c) ≠ zc8' c)) := by
  have h8 := hM.2.2.1
  have h6 := hM.2.1
  have ee := hx.2.1
  have i6 := (zTU (c := c) hM).2.2.2.2
  have le := zc8_le (u := zUl a c) (c := c) (fun e he => (i6 e he).2)
  have key : ∀ d j fu (tr : Nat → Int32), j + d = 6 → d < fu → (∀ x, x < j → tr x = nI x) → ∃ tr', fX3_isForest_L2 (fX3_isForest_J21 edg one oth (nI c)) fu (nI j) tr = fX3_isForest_J21 edg one oth (nI c) tr' ∧ ∀ x, x < 6 → tr' x = nI x := by
    intro d
    induction d with
    | zero =>
      intro j fu tr hj hfu h
      obtain ⟨fu, rfl⟩ : ∃ f, fu = f + 1 := ⟨fu - 1, by omega⟩
      refine ⟨tr, ?_, fun x hx => h x (by omega)⟩
      rw [fX3_isForest_L2_s]
      simp (disch := omega) only [zl_0, zl_1, zl_2, zl_3, zl_4, zl_5, zl_6, zl_8, zl_9, zl_11, zl_12, zl_13, zl_16, zl_20, zl_23, zl_24, zl_30, zl_32, zl_40, zl_41, zl_43, zl_45, zl_50, zl_52, zl_60, zl_97, zl_99, zl_100, zl_124, zl_126, zl_127, zl_169, zl_170, zl_171, zl_195, zl_200, zl_201, zl_256, zl_261, zl_999, zl_1100, zl_1884, zl_4095, zl_4096, zd1, zd2, zs1, nI_add, pk_mul, zsb, zad1, zad2, zcl, zgI, zif_le, zif_nle, zif_lt, zif_nlt, zif_eq, zif_ne, zif_self, zif_T, zif_F, Nat.zero_add, Nat.add_sub_cancel, zn21, zn31, zif_m1, zif_m1l, zif_m1n, zif_pm, zb1_k, zb2_k, zb3_k, zb4_k, zb5_k, zb6_k, zb7_k, zb8_k, zb9_k, zb10_k, zb11_k, zb12_k, zb14_k, zb21_k, zb22_k, zupd_eq, zupd_ne, zupl_eq, zupl_ne, zupf_eq, zupf_ne]
    | succ d ih =>
      intro j fu tr hj hfu h
      obtain ⟨fu, rfl⟩ : ∃ f, fu = f + 1 := ⟨fu - 1, by omega⟩
      obtain ⟨tr', g1, g2⟩ := ih (j + 1) fu (upd tr j (nI j)) (by omega) (by omega) (fun x hx => by
        by_cases z : x = j
        · rw [zupd_eq z, z]
        · rw [zupd_ne z]; exact h x (by omega))
      refine ⟨tr', ?_, g2⟩
      rw [← g1, fX3_isForest_L2_s]
      simp (disch := omega) only [zl_0, zl_1, zl_2, zl_3, zl_4, zl_5, zl_6, zl_8, zl_9, zl_11, zl_12, zl_13, zl_16, zl_20, zl_23, zl_24, zl_30, zl_32, zl_40, zl_41, zl_43, zl_45, zl_50, zl_52, zl_60, zl_97, zl_99, zl_100, zl_124, zl_126, zl_127, zl_169, zl_170, zl_171, zl_195, zl_200, zl_201, zl_256, zl_261, zl_999, zl_1100, zl_1884, zl_4095, zl_4096, zd1, zd2, zs1, nI_add, pk_mul, zsb, zad1, zad2, zcl, zgI, zif_le, zif_nle, zif_lt, zif_nlt, zif_eq, zif_ne, zif_self, zif_T, zif_F, Nat.zero_add, Nat.add_sub_cancel, zn21, zn31, zif_m1, zif_m1l, zif_m1n, zif_pm, zb1_k, zb2_k, zb3_k, zb4_k, zb5_k, zb6_k, zb7_k, zb8_k, zb9_k, zb10_k, zb11_k, zb12_k, zb14_k, zb21_k, zb22_k, zupd_eq, zupd_ne, zupl_eq, zupl_ne, zupf_eq, zupf_ne]
  obtain ⟨tr1, k1, k2⟩ := key 6 0 5000 tr (by omega) (by omega) (fun x hx => by omega)
  obtain ⟨r, tr', g1, g2⟩ := fx_forestL hM hx hc (a 170) 0 5000 (fun x => x) 0 tr1 (by omega) (by omega) (fun x hx => hx) k2 (fun e he => absurd he (zbt_0 e))
  refine ⟨r, tr', ?_, ?_⟩
  · unfold fX3_isForest
    rw [zl_0, k1]
    unfold fX3_isForest_J21
    rw [ee, zl_0]
    exact g1
  · rcases g2 with ⟨rfl, g3, g4⟩ | ⟨rfl, e, g3, g4, g5, g6⟩
    · refine Or.inl ⟨rfl, g3, ?_⟩
      have := zc8_le (u := c) (c := zUl a c) (fun e he => g4 e (Nat.zero_le _) (hs e he) he)
      omega
    · refine Or.inr ⟨rfl, fun z => g6 ?_⟩
      exact zc8_eq (fun e he => (i6 e he).2) z e (by omega) g5
