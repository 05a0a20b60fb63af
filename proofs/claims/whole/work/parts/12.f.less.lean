/-! which of two fractions is less, by whole parts -/
theorem zdl {a b c d : Nat} (hb : 0 < b) (hd : 0 < d) (h : a / b < c / d) : a * d < c * b := by
  have h1 : a < (a / b + 1) * b := by
    have := Nat.div_add_mod' a b
    have := Nat.mod_lt a hb
    rw [Nat.add_mul, Nat.one_mul]
    omega
  have h2 : (a / b + 1) * b * d ≤ c / d * b * d := Nat.mul_le_mul_right d (Nat.mul_le_mul_right b h)
  have h3 : a * d < (a / b + 1) * b * d := Nat.mul_lt_mul_of_pos_right h1 hd
  have h4 : c / d * d ≤ c := Nat.div_mul_le_self c d
  have h5 : c / d * b * d ≤ c * b := by
    rw [Nat.mul_assoc, Nat.mul_comm b d, ← Nat.mul_assoc]
    exact Nat.mul_le_mul_right b h4
  omega
/-- with like whole parts, what is left over turned upside down -/
theorem zdr {a b c d : Nat} (h : a / b = c / d) : (a * d < c * b ↔ d * (a % b) < b * (c % d)) ∧ (c * b < a * d ↔ b * (c % d) < d * (a % b)) := by
  have h1 := Nat.div_add_mod' a b
  have h2 := Nat.div_add_mod' c d
  have e1 : a * d = a / b * b * d + d * (a % b) := by
    conv => lhs; rw [← h1]
    rw [Nat.add_mul, Nat.mul_comm (a % b) d]
  have e2 : c * b = a / b * b * d + b * (c % d) := by
    conv => lhs; rw [← h2]
    rw [Nat.add_mul, Nat.mul_comm (c % d) b, h, Nat.mul_assoc, Nat.mul_comm d b, ← Nat.mul_assoc]
  rw [e1, e2]
  constructor <;> omega
def zsg (x y : Nat) : Int32 := if y < x then nI 1 else if x < y then -nI 1 else nI 0
theorem zsg_gt {x y : Nat} (h : y < x) : zsg x y = nI 1 := if_pos h
theorem zsg_lt {x y : Nat} (h : x < y) : zsg x y = -nI 1 := by
  unfold zsg
  rw [if_neg (by omega), if_pos h]
theorem zsg_eq {x y : Nat} (h : x = y) : zsg x y = nI 0 := by
  unfold zsg
  rw [if_neg (by omega), if_neg (by omega)]
/-- the turned flag, the sign -/
def zfl (t : Bool) (x y : Nat) : Int32 := if t then (if y < x then nI 1 else nI 0) else (if x < y then nI 1 else nI 0)
theorem zfl_sw (t : Bool) (x y : Nat) : zfl (!t) y x = zfl t x y := by cases t <;> rfl
theorem fm_lessJ {a b c d : Nat} (t : Bool) (ha : a < 9223372036854775808) (hb : b < 9223372036854775808) (hc : c < 9223372036854775808) (hd : d < 9223372036854775808) (pa : 0 < a ∨ 0 < b) (pc : 0 < c ∨ 0 < d) (h : b = 0 ∨ d = 0 ∨ a / b ≠ c / d) : fX11_isLess_J90 (zL a) (zL b) (zL c) (zL d) (if t then nI 1 else nI 0) = some (zfl t (a * d) (c * b)) := by
  have d1 : a / b ≤ a := Nat.div_le_self _ _
  have d2 : c / d ≤ c := Nat.div_le_self _ _
  have d3 : a / b < 9223372036854775808 := by omega
  have d4 : c / d < 9223372036854775808 := by omega
  unfold fX11_isLess_J90 zfl
  by_cases z1 : b = 0
  · subst z1
    by_cases z2 : d = 0
    · subst z2
      rw [Nat.mul_zero, Nat.mul_zero, if_neg (Nat.lt_irrefl 0)]
      cases t <;> simp (disch := omega) only [zl_0, zl_1, zl_2, zl_3, zl_4, zl_5, zl_6, zl_8, zl_9, zl_11, zl_12, zl_13, zl_16, zl_20, zl_23, zl_24, zl_30, zl_32, zl_40, zl_41, zl_43, zl_45, zl_50, zl_52, zl_60, zl_97, zl_99, zl_100, zl_124, zl_126, zl_127, zl_169, zl_170, zl_171, zl_195, zl_200, zl_201, zl_256, zl_261, zl_999, zl_1100, zl_1884, zl_4095, zl_4096, zd1, zd2, zs1, nI_add, pk_mul, zsb, zad1, zad2, zcl, zgI, zif_le, zif_nle, zif_lt, zif_nlt, zif_eq, zif_ne, zif_self, zif_T, zif_F, Nat.zero_add, Nat.add_sub_cancel, zn21, zn31, zif_m1, zif_m1l, zif_m1n, zif_pm, zb1_k, zb2_k, zb3_k, zb4_k, zb5_k, zb6_k, zb7_k, zb8_k, zb9_k, zb10_k, zb11_k, zb12_k, zb14_k, zb21_k, zb22_k, zupd_eq, zupd_ne, zupl_eq, zupl_ne, zupf_eq, zupf_ne, zl64_0, zjf_eq, if_true, if_false, Bool.false_eq_true]
    · have g : 0 < a * d := Nat.mul_pos (by omega) (by omega)
      rw [Nat.mul_zero, if_pos g, if_neg (Nat.not_lt_zero _)]
      cases t <;> simp (disch := omega) only [zl_0, zl_1, zl_2, zl_3, zl_4, zl_5, zl_6, zl_8, zl_9, zl_11, zl_12, zl_13, zl_16, zl_20, zl_23, zl_24, zl_30, zl_32, zl_40, zl_41, zl_43, zl_45, zl_50, zl_52, zl_60, zl_97, zl_99, zl_100, zl_124, zl_126, zl_127, zl_169, zl_170, zl_171, zl_195, zl_200, zl_201, zl_256, zl_261, zl_999, zl_1100, zl_1884, zl_4095, zl_4096, zd1, zd2, zs1, nI_add, pk_mul, zsb, zad1, zad2, zcl, zgI, zif_le, zif_nle, zif_lt, zif_nlt, zif_eq, zif_ne, zif_self, zif_T, zif_F, Nat.zero_add, Nat.add_sub_cancel, zn21, zn31, zif_m1, zif_m1l, zif_m1n, zif_pm, zb1_k, zb2_k, zb3_k, zb4_k, zb5_k, zb6_k, zb7_k, zb8_k, zb9_k, zb10_k, zb11_k, zb12_k, zb14_k, zb21_k, zb22_k, zupd_eq, zupd_ne, zupl_eq, zupl_ne, zupf_eq, zupf_ne, zl64_0, zjf_eq, zjf_ne, if_true, if_false, Bool.false_eq_true]
  · by_cases z2 : d = 0
    · subst z2
      have g : 0 < c * b := Nat.mul_pos (by omega) (by omega)
      rw [Nat.mul_zero, if_neg (Nat.not_lt_zero _), if_pos g]
      cases t <;> simp (disch := omega) only [zl_0, zl_1, zl_2, zl_3, zl_4, zl_5, zl_6, zl_8, zl_9, zl_11, zl_12, zl_13, zl_16, zl_20, zl_23, zl_24, zl_30, zl_32, zl_40, zl_41, zl_43, zl_45, zl_50, zl_52, zl_60, zl_97, zl_99, zl_100, zl_124, zl_126, zl_127, zl_169, zl_170, zl_171, zl_195, zl_200, zl_201, zl_256, zl_261, zl_999, zl_1100, zl_1884, zl_4095, zl_4096, zd1, zd2, zs1, nI_add, pk_mul, zsb, zad1, zad2, zcl, zgI, zif_le, zif_nle, zif_lt, zif_nlt, zif_eq, zif_ne, zif_self, zif_T, zif_F, Nat.zero_add, Nat.add_sub_cancel, zn21, zn31, zif_m1, zif_m1l, zif_m1n, zif_pm, zb1_k, zb2_k, zb3_k, zb4_k, zb5_k, zb6_k, zb7_k, zb8_k, zb9_k, zb10_k, zb11_k, zb12_k, zb14_k, zb21_k, zb22_k, zupd_eq, zupd_ne, zupl_eq, zupl_ne, zupf_eq, zupf_ne, zl64_0, zjf_eq, zjf_ne, if_true, if_false, Bool.false_eq_true]
    · have hne : a / b ≠ c / d := by rcases h with h | h | h <;> first | omega | exact h
      rcases Nat.lt_or_gt_of_ne hne with q | q
      · have g := zdl (by omega) (by omega) q
        rw [if_neg (show ¬ c * b < a * d by omega), if_pos g]
        generalize hx : a / b = X at *
        generalize hy : c / d = Y at *
        cases t <;> simp (disch := omega) only [zl_0, zl_1, zl_2, zl_3, zl_4, zl_5, zl_6, zl_8, zl_9, zl_11, zl_12, zl_13, zl_16, zl_20, zl_23, zl_24, zl_30, zl_32, zl_40, zl_41, zl_43, zl_45, zl_50, zl_52, zl_60, zl_97, zl_99, zl_100, zl_124, zl_126, zl_127, zl_169, zl_170, zl_171, zl_195, zl_200, zl_201, zl_256, zl_261, zl_999, zl_1100, zl_1884, zl_4095, zl_4096, zd1, zd2, zs1, nI_add, pk_mul, zsb, zad1, zad2, zcl, zgI, zif_le, zif_nle, zif_lt, zif_nlt, zif_eq, zif_ne, zif_self, zif_T, zif_F, Nat.zero_add, Nat.add_sub_cancel, zn21, zn31, zif_m1, zif_m1l, zif_m1n, zif_pm, zb1_k, zb2_k, zb3_k, zb4_k, zb5_k, zb6_k, zb7_k, zb8_k, zb9_k, zb10_k, zb11_k, zb12_k, zb14_k, zb21_k, zb22_k, zupd_eq, zupd_ne, zupl_eq, zupl_ne, zupf_eq, zupf_ne, zl64_0, zjf_eq, zjf_ne, zgL, zL_div, hx, hy, zjf_le, zjf_nle, if_true, if_false, Bool.false_eq_true]
      · have g := zdl (by omega) (by omega) q
        rw [if_pos g, if_neg (show ¬ a * d < c * b by omega)]
        generalize hx : a / b = X at *
        generalize hy : c / d = Y at *
        cases t <;> simp (disch := omega) only [zl_0, zl_1, zl_2, zl_3, zl_4, zl_5, zl_6, zl_8, zl_9, zl_11, zl_12, zl_13, zl_16, zl_20, zl_23, zl_24, zl_30, zl_32, zl_40, zl_41, zl_43, zl_45, zl_50, zl_52, zl_60, zl_97, zl_99, zl_100, zl_124, zl_126, zl_127, zl_169, zl_170, zl_171, zl_195, zl_200, zl_201, zl_256, zl_261, zl_999, zl_1100, zl_1884, zl_4095, zl_4096, zd1, zd2, zs1, nI_add, pk_mul, zsb, zad1, zad2, zcl, zgI, zif_le, zif_nle, zif_lt, zif_nlt, zif_eq, zif_ne, zif_self, zif_T, zif_F, Nat.zero_add, Nat.add_sub_cancel, zn21, zn31, zif_m1, zif_m1l, zif_m1n, zif_pm, zb1_k, zb2_k, zb3_k, zb4_k, zb5_k, zb6_k, zb7_k, zb8_k, zb9_k, zb10_k, zb11_k, zb12_k, zb14_k, zb21_k, zb22_k, zupd_eq, zupd_ne, zupl_eq, zupl_ne, zupf_eq, zupf_ne, zl64_0, zjf_eq, zjf_ne, zgL, zL_div, hx, hy, zjf_le, zjf_nle, if_true, if_false, Bool.false_eq_true]
theorem fm_lessL : ∀ (k a b c d fu : Nat) (t : Bool), a < 9223372036854775808 → b < 9223372036854775808 → c < 9223372036854775808 → d < 9223372036854775808 → (0 < a ∨ 0 < b) → (0 < c ∨ 0 < d) → b ≤ a → a * b < 2 ^ k → k < fu → fX11_isLess_L17 fX11_isLess_J90 fu (zL a) (zL b) (zL c) (zL d) (if t then nI 1 else nI 0) = some (zfl t (a * d) (c * b)) := by
  intro k
  induction k with
  | zero =>
    intro a b c d fu t ha hb hc hd pa pc hab h hfu
    obtain ⟨fu, rfl⟩ : ∃ f, fu = f + 1 := ⟨fu - 1, by omega⟩
    have hb0 : b = 0 := by
      rcases Nat.eq_zero_or_pos b with e | e
      · exact e
      · have := Nat.mul_pos (Nat.lt_of_lt_of_le e hab) e
        omega
    rw [fX11_isLess_L17_s, fm_lessJ t ha hb hc hd pa pc (Or.inl hb0)]
    subst hb0
    rw [zl64_0, if_pos rfl]
  | succ k ih =>
    intro a b c d fu t ha hb hc hd pa pc hab h hfu
    obtain ⟨fu, rfl⟩ : ∃ f, fu = f + 1 := ⟨fu - 1, by omega⟩
    rw [fX11_isLess_L17_s]
    by_cases z1 : b = 0
    · rw [fm_lessJ t ha hb hc hd pa pc (Or.inl z1)]
      subst z1
      rw [zl64_0, if_pos rfl]
    · by_cases z2 : d = 0
      · rw [fm_lessJ t ha hb hc hd pa pc (Or.inr (Or.inl z2))]
        subst z2
        rw [zl64_0, if_neg (fun e => z1 ((zL_eq hb (by omega)).mp e)), if_pos rfl]
      · by_cases z3 : a / b = c / d
        · have r1 := Nat.mod_lt a (show 0 < b by omega)
          have r2 := Nat.mod_lt c (show 0 < d by omega)
          have hr := ih b (a % b) d (c % d) fu (!t) hb (by omega) hd (by omega) (by omega) (by omega) (by omega) (zeu (by omega) hab h) (by omega)
          have er : zfl (!t) (b * (c % d)) (d * (a % b)) = zfl t (a * d) (c * b) := by
            rw [zfl_sw]
            have q := zdr z3
            unfold zfl
            cases t
            · simp only [Bool.false_eq_true, if_false]
              by_cases w : a * d < c * b
              · rw [if_pos w, if_pos (q.1.mp w)]
              · rw [if_neg w, if_neg (fun e => w (q.1.mpr e))]
            · simp only [if_true]
              by_cases w : c * b < a * d
              · rw [if_pos w, if_pos (q.2.mp w)]
              · rw [if_neg w, if_neg (fun e => w (q.2.mpr e))]
          rw [er] at hr
          have e3 : zL a / zL b = zL c / zL d := by rw [zL_div ha (by omega) hb, zL_div hc (by omega) hd, z3]
          have f1 := zL_rem ha (show 0 < b by omega) hb
          have f2 := zL_rem hc (show 0 < d by omega) hd
          rw [f1, f2]
          cases t
          · simp (disch := omega) only [zl_0, zl_1, zl_2, zl_3, zl_4, zl_5, zl_6, zl_8, zl_9, zl_11, zl_12, zl_13, zl_16, zl_20, zl_23, zl_24, zl_30, zl_32, zl_40, zl_41, zl_43, zl_45, zl_50, zl_52, zl_60, zl_97, zl_99, zl_100, zl_124, zl_126, zl_127, zl_169, zl_170, zl_171, zl_195, zl_200, zl_201, zl_256, zl_261, zl_999, zl_1100, zl_1884, zl_4095, zl_4096, zd1, zd2, zs1, nI_add, pk_mul, zsb, zad1, zad2, zcl, zgI, zif_le, zif_nle, zif_lt, zif_nlt, zif_eq, zif_ne, zif_self, zif_T, zif_F, Nat.zero_add, Nat.add_sub_cancel, zn21, zn31, zif_m1, zif_m1l, zif_m1n, zif_pm, zb1_k, zb2_k, zb3_k, zb4_k, zb5_k, zb6_k, zb7_k, zb8_k, zb9_k, zb10_k, zb11_k, zb12_k, zb14_k, zb21_k, zb22_k, zupd_eq, zupd_ne, zupl_eq, zupl_ne, zupf_eq, zupf_ne, zl64_0, zjf_ne, zgL, zft e3, Bool.false_eq_true, if_false, Bool.not_false, if_true] at hr ⊢
            exact hr
          · simp (disch := omega) only [zl_0, zl_1, zl_2, zl_3, zl_4, zl_5, zl_6, zl_8, zl_9, zl_11, zl_12, zl_13, zl_16, zl_20, zl_23, zl_24, zl_30, zl_32, zl_40, zl_41, zl_43, zl_45, zl_50, zl_52, zl_60, zl_97, zl_99, zl_100, zl_124, zl_126, zl_127, zl_169, zl_170, zl_171, zl_195, zl_200, zl_201, zl_256, zl_261, zl_999, zl_1100, zl_1884, zl_4095, zl_4096, zd1, zd2, zs1, nI_add, pk_mul, zsb, zad1, zad2, zcl, zgI, zif_le, zif_nle, zif_lt, zif_nlt, zif_eq, zif_ne, zif_self, zif_T, zif_F, Nat.zero_add, Nat.add_sub_cancel, zn21, zn31, zif_m1, zif_m1l, zif_m1n, zif_pm, zb1_k, zb2_k, zb3_k, zb4_k, zb5_k, zb6_k, zb7_k, zb8_k, zb9_k, zb10_k, zb11_k, zb12_k, zb14_k, zb21_k, zb22_k, zupd_eq, zupd_ne, zupl_eq, zupl_ne, zupf_eq, zupf_ne, zl64_0, zjf_ne, zgL, zft e3, Bool.false_eq_true, if_false, Bool.not_true, if_true] at hr ⊢
            exact hr
        · have e3 : ¬ zL a / zL b = zL c / zL d := fun e => by
            rw [zL_div ha (by omega) hb, zL_div hc (by omega) hd] at e
            exact z3 ((zL_eq (Nat.lt_of_le_of_lt (Nat.div_le_self _ _) ha) (Nat.lt_of_le_of_lt (Nat.div_le_self _ _) hc)).mp e)
          have hj := fm_lessJ t ha hb hc hd pa pc (Or.inr (Or.inr z3))
          simp (disch := omega) only [zl64_0, zjf_ne, zgL, zfn e3]
          exact hj
/-- a fraction's numbers as longs: each below 2 to the 63rd, not both 0 -/
def zFr (a b : Nat) : Prop := a < 9223372036854775808 ∧ b < 9223372036854775808 ∧ (0 < a ∨ 0 < b)
theorem fm_less {a b c d : Nat} (h1 : zFr a b) (h2 : zFr c d) : fX11_isLess (zL a) (zL b) (zL c) (zL d) = some (if a * d < c * b then nI 1 else nI 0) := by
  obtain ⟨ha, hb, pa⟩ := h1
  obtain ⟨hc, hd, pc⟩ := h2
  unfold fX11_isLess
  rw [zl_0]
  by_cases h : b ≤ a
  · exact fm_lessL 126 a b c d 5000 false ha hb hc hd pa pc h (zpw ha hb) (by omega)
  · rw [show (5000 : Nat) = 4999 + 1 from rfl, fX11_isLess_L17_s]
    have z1 : b ≠ 0 := by omega
    by_cases z2 : d = 0
    · have hj := fm_lessJ false ha hb hc hd pa pc (Or.inr (Or.inl z2))
      subst z2
      simp (disch := omega) only [zl64_0, zjf_ne, zjf_eq]
      exact hj
    · by_cases z3 : a / b = c / d
      · have r1 := Nat.mod_lt a (show 0 < b by omega)
        have r2 := Nat.mod_lt c (show 0 < d by omega)
        have hr := fm_lessL 126 b (a % b) d (c % d) 4999 true hb (by omega) hd (by omega) (by omega) (by omega) (by omega) (zpw hb (by omega)) (by omega)
        have q := zdr z3
        have e3 : zL a / zL b = zL c / zL d := by rw [zL_div ha (by omega) hb, zL_div hc (by omega) hd, z3]
        have f1 := zL_rem ha (show 0 < b by omega) hb
        have f2 := zL_rem hc (show 0 < d by omega) hd
        have hr2 : fX11_isLess_L17 fX11_isLess_J90 4999 (zL b) (zL (a % b)) (zL d) (zL (c % d)) (nI 1) = some (if d * (a % b) < b * (c % d) then nI 1 else nI 0) := hr
        rw [f1, f2]
        simp (disch := omega) only [zl_0, zl_1, zl_2, zl_3, zl_4, zl_5, zl_6, zl_8, zl_9, zl_11, zl_12, zl_13, zl_16, zl_20, zl_23, zl_24, zl_30, zl_32, zl_40, zl_41, zl_43, zl_45, zl_50, zl_52, zl_60, zl_97, zl_99, zl_100, zl_124, zl_126, zl_127, zl_169, zl_170, zl_171, zl_195, zl_200, zl_201, zl_256, zl_261, zl_999, zl_1100, zl_1884, zl_4095, zl_4096, zd1, zd2, zs1, nI_add, pk_mul, zsb, zad1, zad2, zcl, zgI, zif_le, zif_nle, zif_lt, zif_nlt, zif_eq, zif_ne, zif_self, zif_T, zif_F, Nat.zero_add, Nat.add_sub_cancel, zn21, zn31, zif_m1, zif_m1l, zif_m1n, zif_pm, zb1_k, zb2_k, zb3_k, zb4_k, zb5_k, zb6_k, zb7_k, zb8_k, zb9_k, zb10_k, zb11_k, zb12_k, zb14_k, zb21_k, zb22_k, zupd_eq, zupd_ne, zupl_eq, zupl_ne, zupf_eq, zupf_ne, zl64_0, zjf_ne, zgL, zft e3, hr2]
        by_cases w : a * d < c * b
        · rw [if_pos w, if_pos (q.1.mp w)]
        · rw [if_neg w, if_neg (fun e => w (q.1.mpr e))]
      · have e3 : ¬ zL a / zL b = zL c / zL d := fun e => by
          rw [zL_div ha (by omega) hb, zL_div hc (by omega) hd] at e
          exact z3 ((zL_eq (Nat.lt_of_le_of_lt (Nat.div_le_self _ _) ha) (Nat.lt_of_le_of_lt (Nat.div_le_self _ _) hc)).mp e)
        have hj := fm_lessJ false ha hb hc hd pa pc (Or.inr (Or.inr z3))
        simp (disch := omega) only [zl64_0, zjf_ne, zgL, zfn e3]
        exact hj
/-- the class's way: it always answers .. -/
theorem fx_againstL_tot (k1 : Int64 → Int64 → Int32 → Option Int32) (k2 : Int32 → Int64 → Int64 → Option Int32) (h1 : ∀ x y z, ∃ r, k1 x y z = some r) (h2 : ∀ x y z, ∃ r, k2 x y z = some r) : ∀ (e i fu : Nat) (a b c d : Int64) (s : Int32), i + e = 200 → e < fu → ∃ r, fX1_against_L77 k1 k2 fu a b c d s (nI i) = some r := by
  intro e
  induction e with
  | zero =>
    intro i fu a b c d s hi hfu
    obtain ⟨fu, rfl⟩ : ∃ f, fu = f + 1 := ⟨fu - 1, by omega⟩
    rw [fX1_against_L77_s, if_pos (show (200 : Int32) ≤ nI i from nI_le (a := 200) (by omega) (by omega))]
    exact h1 _ _ _
  | succ e ih =>
    intro i fu a b c d s hi hfu
    obtain ⟨fu, rfl⟩ : ∃ f, fu = f + 1 := ⟨fu - 1, by omega⟩
    rw [fX1_against_L77_s, if_neg (show ¬ (200 : Int32) ≤ nI i from nI_ge (b := 200) (by omega) (by omega))]
    by_cases z1 : b = 0
    · rw [if_pos z1]; exact h1 _ _ _
    · by_cases z2 : d = 0
      · rw [if_neg z1, if_pos z2]; exact h1 _ _ _
      · rw [if_neg z1, if_neg z2, zpT z1, zpT z2]
        by_cases z3 : a / b = c / d
        · rw [if_pos z3, zpT z1, zpT z2, show nI i + (1 : Int32) = nI (i + 1) from nI_1 i]
          exact ih (i + 1) fu _ _ _ _ _ (by omega) (by omega)
        · rw [if_neg z3]; exact h2 _ _ _
theorem fx_against_tot (a b c d : Int64) : ∃ r, fX1_against a b c d = some r := by
  unfold fX1_against fX1_against_J18 fX1_against_J32
  by_cases z1 : b = 0
  · rw [if_pos z1, if_pos z1]
    by_cases z2 : d = 0
    · rw [if_pos z2]; exact ⟨_, rfl⟩
    · rw [if_neg z2]; exact ⟨_, rfl⟩
  · rw [if_neg z1]
    by_cases z2 : d = 0
    · rw [if_pos z2, if_neg z1, if_pos z2]; exact ⟨_, rfl⟩
    · rw [if_neg z2]
      refine fx_againstL_tot _ _ ?_ ?_ 200 0 5000 a b c d 1 (by omega) (by omega)
      · intro x y z
        unfold fX1_against_J176
        split
        · exact ⟨_, rfl⟩
        · split <;> exact ⟨_, rfl⟩
      · intro x y z
        unfold fX1_against_J120
        split <;> exact ⟨_, rfl⟩
/-- .. and rightly -/
theorem zsg_sw (x y : Nat) : -zsg x y = zsg y x := by
  rcases Nat.lt_trichotomy x y with h | h | h
  · rw [zsg_lt h, zsg_gt h, Int32.neg_neg]
  · rw [zsg_eq h, zsg_eq h.symm]; decide
  · rw [zsg_gt h, zsg_lt h]
def zsn (t : Bool) : Int32 := if t then -nI 1 else nI 1
def zsr (t : Bool) (x y : Nat) : Int32 := if t then zsg y x else zsg x y
theorem zsn_n (t : Bool) : -zsn t = zsn (!t) := by cases t <;> decide
theorem zsr_sw (t : Bool) (x y : Nat) : zsr (!t) y x = zsr t x y := by cases t <;> rfl
theorem fx_againstE {a b c d : Nat} (t : Bool) (hb : b < 9223372036854775808) (hd : d < 9223372036854775808) (pa : 0 < a ∨ 0 < b) (pc : 0 < c ∨ 0 < d) (h : b = 0 ∨ d = 0) : fX1_against_J176 (zL b) (zL d) (zsn t) = some (zsr t (a * d) (c * b)) := by
  unfold fX1_against_J176
  by_cases z1 : b = 0
  · by_cases z2 : d = 0
    · subst z1 z2
      rw [if_pos rfl, Nat.mul_zero, Nat.mul_zero]
      unfold zsr
      cases t <;> simp only [if_true, if_false, Bool.false_eq_true, zsg_eq, zl_0]
    · subst z1
      have g : 0 < a * d := Nat.mul_pos (by omega) (by omega)
      rw [zl64_0, if_neg (fun e => z2 ((zL_eq (by omega) hd).mp e).symm), if_pos rfl, Nat.mul_zero]
      unfold zsr zsn
      cases t <;> simp only [if_true, if_false, Bool.false_eq_true, zsg_gt g, zsg_lt g]
  · have z2 : d = 0 := by omega
    subst z2
    have g : 0 < c * b := Nat.mul_pos (by omega) (by omega)
    rw [if_neg (fun e => z1 ((zL_eq hb (by omega)).mp e)), zl64_0, if_neg (fun e => z1 ((zL_eq hb (by omega)).mp e)), Nat.mul_zero, zsn_n]
    unfold zsr zsn
    cases t <;> simp only [if_true, if_false, Bool.false_eq_true, Bool.not_true, Bool.not_false, zsg_gt g, zsg_lt g]
theorem fx_againstL : ∀ (k a b c d i fu : Nat) (t : Bool), a < 9223372036854775808 → b < 9223372036854775808 → c < 9223372036854775808 → d < 9223372036854775808 → (0 < a ∨ 0 < b) → (0 < c ∨ 0 < d) → b ≤ a → a * b < 2 ^ k → i + k < 200 → k < fu → fX1_against_L77 fX1_against_J176 fX1_against_J120 fu (zL a) (zL b) (zL c) (zL d) (zsn t) (nI i) = some (zsr t (a * d) (c * b)) := by
  intro k
  induction k with
  | zero =>
    intro a b c d i fu t ha hb hc hd pa pc hab h hi hfu
    obtain ⟨fu, rfl⟩ : ∃ f, fu = f + 1 := ⟨fu - 1, by omega⟩
    have hb0 : b = 0 := by
      rcases Nat.eq_zero_or_pos b with e | e
      · exact e
      · have := Nat.mul_pos (Nat.lt_of_lt_of_le e hab) e
        omega
    have he := fx_againstE (a := a) (c := c) t hb hd pa pc (Or.inl hb0)
    subst hb0
    rw [fX1_against_L77_s, if_neg (show ¬ (200 : Int32) ≤ nI i from nI_ge (b := 200) (by omega) (by omega)), zl64_0, if_pos rfl]
    exact he
  | succ k ih =>
    intro a b c d i fu t ha hb hc hd pa pc hab h hi hfu
    obtain ⟨fu, rfl⟩ : ∃ f, fu = f + 1 := ⟨fu - 1, by omega⟩
    rw [fX1_against_L77_s, if_neg (show ¬ (200 : Int32) ≤ nI i from nI_ge (b := 200) (by omega) (by omega)), zl64_0]
    by_cases z1 : b = 0
    · have he := fx_againstE (a := a) (c := c) t hb hd pa pc (Or.inl z1)
      subst z1
      rw [if_pos rfl]
      exact he
    · have n1 : ¬ zL b = zL 0 := fun e => z1 ((zL_eq hb (by omega)).mp e)
      by_cases z2 : d = 0
      · have he := fx_againstE (a := a) (c := c) t hb hd pa pc (Or.inr z2)
        subst z2
        rw [if_neg n1, if_pos rfl]
        exact he
      · have n2 : ¬ zL d = zL 0 := fun e => z2 ((zL_eq hd (by omega)).mp e)
        rw [if_neg n1, if_neg n2, zpT n1, zpT n2, zL_div ha (by omega) hb, zL_div hc (by omega) hd]
        have d3 : a / b < 9223372036854775808 := Nat.lt_of_le_of_lt (Nat.div_le_self _ _) ha
        have d4 : c / d < 9223372036854775808 := Nat.lt_of_le_of_lt (Nat.div_le_self _ _) hc
        by_cases z3 : a / b = c / d
        · have r1 := Nat.mod_lt a (show 0 < b by omega)
          have r2 := Nat.mod_lt c (show 0 < d by omega)
          have hr := ih b (a % b) d (c % d) (i + 1) fu (!t) hb (by omega) hd (by omega) (by omega) (by omega) (by omega) (zeu (by omega) hab h) (by omega) (by omega)
          have f1 := zL_rem ha (show 0 < b by omega) hb
          have f2 := zL_rem hc (show 0 < d by omega) hd
          rw [zL_div ha (by omega) hb] at f1
          rw [zL_div hc (by omega) hd] at f2
          rw [if_pos (congrArg zL z3), zpT n1, zpT n2, f1, f2, zsn_n, show nI i + (1 : Int32) = nI (i + 1) from nI_1 i, hr]
          have q := zdr z3
          congr 1
          rw [zsr_sw]
          have key : zsg (d * (a % b)) (b * (c % d)) = zsg (a * d) (c * b) ∧ zsg (b * (c % d)) (d * (a % b)) = zsg (c * b) (a * d) := by
            rcases Nat.lt_trichotomy (a * d) (c * b) with w | w | w
            · have w2 := q.1.mp w
              rw [zsg_lt w, zsg_lt w2, zsg_gt w, zsg_gt w2]; exact ⟨rfl, rfl⟩
            · have w1 : ¬ d * (a % b) < b * (c % d) := fun e => by have := q.1.mpr e; omega
              have w2 : ¬ b * (c % d) < d * (a % b) := fun e => by have := q.2.mpr e; omega
              rw [zsg_eq w, zsg_eq w.symm, zsg_eq (show d * (a % b) = b * (c % d) by omega), zsg_eq (show b * (c % d) = d * (a % b) by omega)]; exact ⟨rfl, rfl⟩
            · have w2 := q.2.mp w
              rw [zsg_gt w, zsg_gt w2, zsg_lt w, zsg_lt w2]; exact ⟨rfl, rfl⟩
          unfold zsr
          cases t
          · exact key.1
          · exact key.2
        · rw [if_neg (fun e => z3 ((zL_eq d3 d4).mp e))]
          unfold fX1_against_J120
          rcases Nat.lt_or_gt_of_ne z3 with q | q
          · have g := zdl (by omega) (by omega) q
            rw [if_neg (fun e => by have := (zL_le d4 d3).mp e; omega), zsn_n]
            unfold zsr zsn
            cases t <;> simp only [if_true, if_false, Bool.false_eq_true, Bool.not_true, Bool.not_false, zsg_lt g, zsg_gt g]
          · have g := zdl (by omega) (by omega) q
            rw [if_pos ((zL_le d4 d3).mpr (by omega))]
            unfold zsr zsn
            cases t <;> simp only [if_true, if_false, Bool.false_eq_true, Bool.not_true, Bool.not_false, zsg_lt g, zsg_gt g]
theorem fx_against {a b c d : Nat} (h1 : zFr a b) (h2 : zFr c d) : fX1_against (zL a) (zL b) (zL c) (zL d) = some (zsg (a * d) (c * b)) := by
  obtain ⟨ha, hb, pa⟩ := h1
  obtain ⟨hc, hd, pc⟩ := h2
  unfold fX1_against fX1_against_J18 fX1_against_J32
  rw [zl64_0]
  by_cases z1 : b = 0
  · subst z1
    rw [if_pos rfl, if_pos rfl, Nat.mul_zero]
    by_cases z2 : d = 0
    · subst z2
      rw [if_pos rfl, Nat.mul_zero, zsg_eq rfl]
      decide
    · have g : 0 < a * d := Nat.mul_pos (by omega) (by omega)
      rw [if_neg (fun e => z2 ((zL_eq hd (by omega)).mp e)), zsg_gt g]
      decide
  · have n1 : ¬ zL b = zL 0 := fun e => z1 ((zL_eq hb (by omega)).mp e)
    rw [if_neg n1]
    by_cases z2 : d = 0
    · subst z2
      have g : 0 < c * b := Nat.mul_pos (by omega) (by omega)
      rw [if_pos rfl, if_neg n1, if_pos rfl, Nat.mul_zero, zsg_lt g]
      decide
    · have n2 : ¬ zL d = zL 0 := fun e => z2 ((zL_eq hd (by omega)).mp e)
      rw [if_neg n2, zl_0, show (1 : Int32) = zsn false from rfl]
      by_cases h : b ≤ a
      · exact fx_againstL 126 a b c d 0 5000 false ha hb hc hd pa pc h (zpw ha hb) (by omega) (by omega)
      · have := fx_againstL 127 a b c d 0 5000 false ha hb hc hd pa pc
        rw [show (5000 : Nat) = 4999 + 1 from rfl, fX1_against_L77_s, if_neg (show ¬ (200 : Int32) ≤ nI 0 by decide), zl64_0, if_neg n1, if_neg n2, zpT n1, zpT n2, zL_div ha (by omega) hb, zL_div hc (by omega) hd]
        have d3 : a / b < 9223372036854775808 := Nat.lt_of_le_of_lt (Nat.div_le_self _ _) ha
        have d4 : c / d < 9223372036854775808 := Nat.lt_of_le_of_lt (Nat.div_le_self _ _) hc
        by_cases z3 : a / b = c / d
        · have r1 := Nat.mod_lt a (show 0 < b by omega)
          have r2 := Nat.mod_lt c (show 0 < d by omega)
          have hr := fx_againstL 126 b (a % b) d (c % d) 1 4999 true hb (by omega) hd (by omega) (by omega) (by omega) (by omega) (zpw hb (by omega)) (by omega) (by omega)
          have f1 := zL_rem ha (show 0 < b by omega) hb
          have f2 := zL_rem hc (show 0 < d by omega) hd
          rw [zL_div ha (by omega) hb] at f1
          rw [zL_div hc (by omega) hd] at f2
          rw [if_pos (congrArg zL z3), zpT n1, zpT n2, f1, f2, zsn_n, show nI 0 + (1 : Int32) = nI 1 from by decide]
          rw [show (!false) = true from rfl, hr]
          have q := zdr z3
          congr 1
          show zsg (d * (a % b)) (b * (c % d)) = _
          rcases Nat.lt_trichotomy (a * d) (c * b) with w | w | w
          · rw [zsg_lt w, zsg_lt (q.1.mp w)]
          · have w1 : ¬ d * (a % b) < b * (c % d) := fun e => by have := q.1.mpr e; omega
            have w2 : ¬ b * (c % d) < d * (a % b) := fun e => by have := q.2.mpr e; omega
            rw [zsg_eq w, zsg_eq (show d * (a % b) = b * (c % d) by omega)]
          · rw [zsg_gt w, zsg_gt (q.2.mp w)]
        · rw [if_neg (fun e => z3 ((zL_eq d3 d4).mp e))]
          unfold fX1_against_J120
          rcases Nat.lt_or_gt_of_ne z3 with q | q
          · have g := zdl (by omega) (by omega) q
            rw [if_neg (fun e => by have := (zL_le d4 d3).mp e; omega), zsg_lt g]
            rfl
          · have g := zdl (by omega) (by omega) q
            rw [if_pos ((zL_le d4 d3).mpr (by omega)), zsg_gt g]
            rfl
