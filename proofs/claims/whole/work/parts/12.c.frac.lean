/-! longs as naturals; fractions -/
def zL (n : Nat) : Int64 := Int64.ofNat n
theorem zL_toInt {n : Nat} (h : n < 9223372036854775808) : (zL n).toInt = n := lg_ofNat_toInt h
theorem zL_eq {a b : Nat} (ha : a < 9223372036854775808) (hb : b < 9223372036854775808) : zL a = zL b ↔ a = b := by
  rw [← Int64.toInt_inj, zL_toInt ha, zL_toInt hb]; omega
theorem zL_lt {a b : Nat} (ha : a < 9223372036854775808) (hb : b < 9223372036854775808) : zL a < zL b ↔ a < b := by
  rw [Int64.lt_iff_toInt_lt, zL_toInt ha, zL_toInt hb]; omega
theorem zL_le {a b : Nat} (ha : a < 9223372036854775808) (hb : b < 9223372036854775808) : zL a ≤ zL b ↔ a ≤ b := by
  rw [Int64.le_iff_toInt_le, zL_toInt ha, zL_toInt hb]; omega
theorem zL_add (a b : Nat) : zL a + zL b = zL (a + b) := (Int64.ofNat_add a b).symm
theorem zL_mul (a b : Nat) : zL a * zL b = zL (a * b) := (Int64.ofNat_mul a b).symm
theorem zL_sub {a b : Nat} (h : b ≤ a) : zL a - zL b = zL (a - b) := by
  have e : zL a = zL (a - b) + zL b := by rw [zL_add, Nat.sub_add_cancel h]
  rw [e, Int64.add_sub_cancel]
theorem zL_div {a b : Nat} (ha : a < 9223372036854775808) (h0 : 0 < b) (hb : b < 9223372036854775808) : zL a / zL b = zL (a / b) := by
  apply Int64.toInt_inj.mp
  rw [lg_ldiv_nonneg (by rw [zL_toInt ha]; omega) (by rw [zL_toInt hb]; omega), zL_toInt ha, zL_toInt hb, zL_toInt (Nat.lt_of_le_of_lt (Nat.div_le_self a b) ha)]
  exact (Int.natCast_ediv _ _).symm
theorem zL_rem {a b : Nat} (ha : a < 9223372036854775808) (h0 : 0 < b) (hb : b < 9223372036854775808) : zL a - zL a / zL b * zL b = zL (a % b) := by
  rw [zL_div ha h0 hb, zL_mul, zL_sub (Nat.div_mul_le_self a b)]
  exact congrArg zL (by have := Nat.div_add_mod' a b; omega)
theorem zl64_0 : (0 : Int64) = zL 0 := by unfold zL; rfl
theorem zl64_1 : (1 : Int64) = zL 1 := by unfold zL; rfl
theorem zl64_7 : (7 : Int64) = zL 7 := by unfold zL; rfl
theorem zl64_m : (1000000000 : Int64) = zL 1000000000 := by unfold zL; rfl
theorem zi2l {n : Nat} (h : n < 2147483648) : (nI n).toInt64 = zL n := Int64.toInt_inj.mp (by rw [Int32.toInt_toInt64, nI_toInt h, zL_toInt (by omega)])
theorem zjf_eq {α : Sort _} {a b : Nat} {d : Decidable (zL a = zL b)} {x y : α} (h : a = b) : @ite α (zL a = zL b) d x y = x := if_pos (congrArg zL h)
theorem zjf_ne {α : Sort _} {a b : Nat} {d : Decidable (zL a = zL b)} {x y : α} (h : a ≠ b) (ha : a < 9223372036854775808) (hb : b < 9223372036854775808) : @ite α (zL a = zL b) d x y = y := if_neg (fun e => h ((zL_eq ha hb).mp e))
theorem zjf_lt {α : Sort _} {a b : Nat} {d : Decidable (zL a < zL b)} {x y : α} (h : a < b) (hb : b < 9223372036854775808) : @ite α (zL a < zL b) d x y = x := if_pos ((zL_lt (by omega) hb).mpr h)
theorem zjf_nlt {α : Sort _} {a b : Nat} {d : Decidable (zL a < zL b)} {x y : α} (h : b ≤ a) (ha : a < 9223372036854775808) : @ite α (zL a < zL b) d x y = y := if_neg (fun e => by have := (zL_lt ha (by omega)).mp e; omega)
theorem zjf_le {α : Sort _} {a b : Nat} {d : Decidable (zL a ≤ zL b)} {x y : α} (h : a ≤ b) (hb : b < 9223372036854775808) : @ite α (zL a ≤ zL b) d x y = x := if_pos ((zL_le (by omega) hb).mpr h)
theorem zjf_nle {α : Sort _} {a b : Nat} {d : Decidable (zL a ≤ zL b)} {x y : α} (h : b < a) (ha : a < 9223372036854775808) : @ite α (zL a ≤ zL b) d x y = y := if_neg (fun e => by have := (zL_le ha (by omega)).mp e; omega)
theorem zgL {R : Type} {a : Nat} {d : Decidable (¬ zL a = zL 0)} {k : Option R} (h : 0 < a) (ha : a < 9223372036854775808) : @zg R (¬ zL a = zL 0) d k = k := if_pos (fun e => by have := (zL_eq ha (by omega)).mp e; omega)
theorem zm7lt : -zL 7 < zL 0 := by decide
theorem zjf_7lt {α : Sort _} {d : Decidable (-zL 7 < zL 0)} {x y : α} : @ite α (-zL 7 < zL 0) d x y = x := if_pos zm7lt
theorem zm7nle : ¬ zL 0 ≤ -zL 7 := by decide
theorem zjf_7le {α : Sort _} {d : Decidable (zL 0 ≤ -zL 7)} {x y : α} : @ite α (zL 0 ≤ -zL 7) d x y = y := if_neg zm7nle
/-! Euclid -/
theorem zgcd_r (a b : Nat) : Nat.gcd a b = Nat.gcd b (a % b) := by
  rw [Nat.gcd_comm a b, Nat.gcd_rec b a, Nat.gcd_comm]
theorem zeu {a b k : Nat} (hb : 0 < b) (hab : b ≤ a) (h : a * b < 2 ^ (k + 1)) : b * (a % b) < 2 ^ k := by
  have h1 : a % b < b := Nat.mod_lt _ hb
  have h2 : a % b + b ≤ a := by
    have := Nat.div_add_mod' a b
    have h3 : 1 ≤ a / b := (Nat.one_le_div_iff hb).mpr hab
    have h4 : b ≤ a / b * b := Nat.le_mul_of_pos_left b h3
    omega
  have h5 : b * (a % b + b) ≤ b * a := Nat.mul_le_mul_left b h2
  have h6 : b * (a % b) ≤ b * b := Nat.mul_le_mul_left b (by omega)
  have h7 : 2 ^ (k + 1) = 2 * 2 ^ k := by rw [Nat.pow_succ]; omega
  rw [Nat.mul_add] at h5
  rw [Nat.mul_comm] at h
  omega
theorem fx_gcdL : ∀ (k a b i fu : Nat), a < 9223372036854775808 → b < 9223372036854775808 → b ≤ a → a * b < 2 ^ k → i + k ≤ 200 → k < fu → fX10_greatestDivisor_L9 fu (zL a) (zL b) (nI i) = some (zL (Nat.gcd a b)) := by
  intro k
  induction k with
  | zero =>
    intro a b i fu ha hb hab h hi hfu
    obtain ⟨fu, rfl⟩ : ∃ f, fu = f + 1 := ⟨fu - 1, by omega⟩
    have hb0 : b = 0 := by
      rcases Nat.eq_zero_or_pos b with e | e
      · exact e
      · have := Nat.mul_pos (Nat.lt_of_lt_of_le e hab) e
        omega
    subst hb0
    rw [fX10_greatestDivisor_L9_s, Nat.gcd_zero_right, zl64_0, if_pos rfl]
    exact ite_self _
  | succ k ih =>
    intro a b i fu ha hb hab h hi hfu
    obtain ⟨fu, rfl⟩ : ∃ f, fu = f + 1 := ⟨fu - 1, by omega⟩
    rcases Nat.eq_zero_or_pos b with e | e
    · subst e
      rw [fX10_greatestDivisor_L9_s, Nat.gcd_zero_right, zl64_0, if_pos rfl]
      exact ite_self _
    · have hr := ih b (a % b) (i + 1) fu hb (by have := Nat.mod_lt a e; omega) (Nat.le_of_lt (Nat.mod_lt a e)) (zeu e hab h) (by omega) (by omega)
      rw [fX10_greatestDivisor_L9_s]
      simp (disch := omega) only [zl_0, zl_1, zl_2, zl_3, zl_4, zl_5, zl_6, zl_8, zl_9, zl_11, zl_12, zl_13, zl_16, zl_20, zl_23, zl_24, zl_30, zl_32, zl_40, zl_41, zl_43, zl_45, zl_50, zl_52, zl_60, zl_97, zl_99, zl_100, zl_124, zl_126, zl_127, zl_169, zl_170, zl_171, zl_195, zl_200, zl_201, zl_256, zl_261, zl_999, zl_1100, zl_1884, zl_4095, zl_4096, zd1, zd2, zs1, nI_add, pk_mul, zsb, zad1, zad2, zcl, zgI, zif_le, zif_nle, zif_lt, zif_nlt, zif_eq, zif_ne, zif_self, zif_T, zif_F, Nat.zero_add, Nat.add_sub_cancel, zn21, zn31, zif_m1, zif_m1l, zif_m1n, zif_pm, zb1_k, zb2_k, zb3_k, zb4_k, zb5_k, zb6_k, zb7_k, zb8_k, zb9_k, zb10_k, zb11_k, zb12_k, zb14_k, zb21_k, zb22_k, zupd_eq, zupd_ne, zupl_eq, zupl_ne, zupf_eq, zupf_ne, zl64_0, zjf_ne, zgL, zL_rem, hr]
      rw [zgcd_r a b]
theorem zpw {a b : Nat} (ha : a < 9223372036854775808) (hb : b < 9223372036854775808) : a * b < 2 ^ 126 :=
  Nat.lt_of_lt_of_le (Nat.mul_lt_mul'' ha hb) (by decide)
theorem fx_gcd {a b : Nat} (ha : a < 9223372036854775808) (hb : b < 9223372036854775808) : fX10_greatestDivisor (zL a) (zL b) = some (zL (Nat.gcd a b)) := by
  unfold fX10_greatestDivisor
  rw [zl_0]
  by_cases h : b ≤ a
  · exact fx_gcdL 126 a b 0 5000 ha hb h (zpw ha hb) (by omega) (by omega)
  · rw [show (5000 : Nat) = 4999 + 1 from rfl, fX10_greatestDivisor_L9_s]
    have := fx_gcdL 126 b a 1 4999 hb ha (by omega) (zpw hb ha) (by omega) (by omega)
    have e : a % b = a := Nat.mod_eq_of_lt (by omega)
    simp (disch := omega) only [zl_0, zl_1, zl_2, zl_3, zl_4, zl_5, zl_6, zl_8, zl_9, zl_11, zl_12, zl_13, zl_16, zl_20, zl_23, zl_24, zl_30, zl_32, zl_40, zl_41, zl_43, zl_45, zl_50, zl_52, zl_60, zl_97, zl_99, zl_100, zl_124, zl_126, zl_127, zl_169, zl_170, zl_171, zl_195, zl_200, zl_201, zl_256, zl_261, zl_999, zl_1100, zl_1884, zl_4095, zl_4096, zd1, zd2, zs1, nI_add, pk_mul, zsb, zad1, zad2, zcl, zgI, zif_le, zif_nle, zif_lt, zif_nlt, zif_eq, zif_ne, zif_self, zif_T, zif_F, Nat.zero_add, Nat.add_sub_cancel, zn21, zn31, zif_m1, zif_m1l, zif_m1n, zif_pm, zb1_k, zb2_k, zb3_k, zb4_k, zb5_k, zb6_k, zb7_k, zb8_k, zb9_k, zb10_k, zb11_k, zb12_k, zb14_k, zb21_k, zb22_k, zupd_eq, zupd_ne, zupl_eq, zupl_ne, zupf_eq, zupf_ne, zl64_0, zjf_ne, zgL, zL_rem, e, this]
    rw [Nat.gcd_comm]
theorem fm_gcdL : ∀ (k a b fu : Nat), a < 9223372036854775808 → b < 9223372036854775808 → b ≤ a → a * b < 2 ^ k → k < fu → fX11_divisor_L6 fu (zL a) (zL b) = some (zL (Nat.gcd a b)) := by
  intro k
  induction k with
  | zero =>
    intro a b fu ha hb hab h hfu
    obtain ⟨fu, rfl⟩ : ∃ f, fu = f + 1 := ⟨fu - 1, by omega⟩
    have hb0 : b = 0 := by
      rcases Nat.eq_zero_or_pos b with e | e
      · exact e
      · have := Nat.mul_pos (Nat.lt_of_lt_of_le e hab) e
        omega
    subst hb0
    rw [fX11_divisor_L6_s, Nat.gcd_zero_right, zl64_0, if_pos rfl]
  | succ k ih =>
    intro a b fu ha hb hab h hfu
    obtain ⟨fu, rfl⟩ : ∃ f, fu = f + 1 := ⟨fu - 1, by omega⟩
    rcases Nat.eq_zero_or_pos b with e | e
    · subst e
      rw [fX11_divisor_L6_s, Nat.gcd_zero_right, zl64_0, if_pos rfl]
    · have hr := ih b (a % b) fu hb (by have := Nat.mod_lt a e; omega) (Nat.le_of_lt (Nat.mod_lt a e)) (zeu e hab h) (by omega)
      rw [fX11_divisor_L6_s]
      simp (disch := omega) only [zl64_0, zjf_ne, zgL, zL_rem, hr]
      rw [zgcd_r a b]
theorem fm_gcd {a b : Nat} (ha : a < 9223372036854775808) (hb : b < 9223372036854775808) : fX11_divisor (zL a) (zL b) = some (zL (Nat.gcd a b)) := by
  unfold fX11_divisor
  by_cases h : b ≤ a
  · exact fm_gcdL 126 a b 5000 ha hb h (zpw ha hb) (by omega)
  · rw [show (5000 : Nat) = 4999 + 1 from rfl, fX11_divisor_L6_s]
    have := fm_gcdL 126 b a 4999 hb ha (by omega) (zpw hb ha) (by omega)
    have e : a % b = a := Nat.mod_eq_of_lt (by omega)
    simp (disch := omega) only [zl64_0, zjf_ne, zgL, zL_rem, e, this]
    rw [Nat.gcd_comm]
/-! in lowest terms -/
def zRd (u v : Nat) : Nat × Nat := (u / Nat.gcd u v, v / Nat.gcd u v)
def zLg (p : Nat × Nat) : Prop := 1000000000 < p.1 ∨ 1000000000 < p.2
theorem zgpos {u v : Nat} (h : 0 < u ∨ 0 < v) : 0 < Nat.gcd u v := by
  rcases Nat.eq_zero_or_pos (Nat.gcd u v) with e | e
  · have h1 := Nat.eq_zero_of_gcd_eq_zero_left e
    have h2 := Nat.eq_zero_of_gcd_eq_zero_right e
    omega
  · exact e
theorem zgle {u v : Nat} (h : 0 < u ∨ 0 < v) : Nat.gcd u v ≤ u + v := by
  rcases h with h | h
  · have := Nat.gcd_le_left v h; omega
  · have := Nat.gcd_le_right u h; omega
theorem zRd_co {u v : Nat} (h : 0 < u ∨ 0 < v) : Nat.gcd (zRd u v).1 (zRd u v).2 = 1 := by
  have g := zgpos h
  have e := Nat.gcd_mul_right (u / Nat.gcd u v) (Nat.gcd u v) (v / Nat.gcd u v)
  rw [Nat.div_mul_cancel (Nat.gcd_dvd_left u v), Nat.div_mul_cancel (Nat.gcd_dvd_right u v)] at e
  exact Nat.eq_of_mul_eq_mul_right g (by rw [Nat.one_mul]; exact e.symm)
theorem zRd_id {u v : Nat} (h : Nat.gcd u v = 1) : zRd u v = (u, v) := by
  unfold zRd
  rw [h, Nat.div_one, Nat.div_one]
theorem fx_become {u v : Nat} {c d : Int64} (hu : u < 4611686018427387904) (hv : v < 4611686018427387904) (h : 0 < u ∨ 0 < v) : fX1_become (zL u) (zL v) c d = some (zL (zRd u v).1, zL (zRd u v).2) := by
  have g := zgpos h
  have g2 := zgle h
  have e := fx_gcd (a := u) (b := v) (by omega) (by omega)
  unfold fX1_become fX1_become_J17 zRd
  generalize Nat.gcd u v = G at *
  simp (disch := omega) only [zl_0, zl_1, zl_2, zl_3, zl_4, zl_5, zl_6, zl_8, zl_9, zl_11, zl_12, zl_13, zl_16, zl_20, zl_23, zl_24, zl_30, zl_32, zl_40, zl_41, zl_43, zl_45, zl_50, zl_52, zl_60, zl_97, zl_99, zl_100, zl_124, zl_126, zl_127, zl_169, zl_170, zl_171, zl_195, zl_200, zl_201, zl_256, zl_261, zl_999, zl_1100, zl_1884, zl_4095, zl_4096, zd1, zd2, zs1, nI_add, pk_mul, zsb, zad1, zad2, zcl, zgI, zif_le, zif_nle, zif_lt, zif_nlt, zif_eq, zif_ne, zif_self, zif_T, zif_F, Nat.zero_add, Nat.add_sub_cancel, zn21, zn31, zif_m1, zif_m1l, zif_m1n, zif_pm, zb1_k, zb2_k, zb3_k, zb4_k, zb5_k, zb6_k, zb7_k, zb8_k, zb9_k, zb10_k, zb11_k, zb12_k, zb14_k, zb21_k, zb22_k, zupd_eq, zupd_ne, zupl_eq, zupl_ne, zupf_eq, zupf_ne, zl64_0, zjf_ne, zgL, e, zL_div]
def zEn : Option (Nat × Nat) → Int64 × Int64
  | none => (-zL 7, -zL 7)
  | some p => (zL p.1, zL p.2)
theorem fm_becomes {u v : Nat} {c d : Int64} (hu : u < 4611686018427387904) (hv : v < 4611686018427387904) (h : 0 < u ∨ 0 < v) : (zLg (zRd u v) → fX11_becomes (zL u) (zL v) c d = some (zEn none)) ∧ (¬ zLg (zRd u v) → fX11_becomes (zL u) (zL v) c d = some (zEn (some (zRd u v)))) := by
  have g := zgpos h
  have g2 := zgle h
  have e := fm_gcd (a := u) (b := v) (by omega) (by omega)
  unfold fX11_becomes fX11_becomes_J45 zRd zLg zEn
  generalize Nat.gcd u v = G at *
  have d1 : u / G ≤ u := Nat.div_le_self _ _
  have d2 : v / G ≤ v := Nat.div_le_self _ _
  by_cases q1 : 1000000000 < u / G
  · refine ⟨fun _ => ?_, fun z => absurd (Or.inl q1) z⟩
    simp (disch := omega) only [zl_0, zl_1, zl_2, zl_3, zl_4, zl_5, zl_6, zl_8, zl_9, zl_11, zl_12, zl_13, zl_16, zl_20, zl_23, zl_24, zl_30, zl_32, zl_40, zl_41, zl_43, zl_45, zl_50, zl_52, zl_60, zl_97, zl_99, zl_100, zl_124, zl_126, zl_127, zl_169, zl_170, zl_171, zl_195, zl_200, zl_201, zl_256, zl_261, zl_999, zl_1100, zl_1884, zl_4095, zl_4096, zd1, zd2, zs1, nI_add, pk_mul, zsb, zad1, zad2, zcl, zgI, zif_le, zif_nle, zif_lt, zif_nlt, zif_eq, zif_ne, zif_self, zif_T, zif_F, Nat.zero_add, Nat.add_sub_cancel, zn21, zn31, zif_m1, zif_m1l, zif_m1n, zif_pm, zb1_k, zb2_k, zb3_k, zb4_k, zb5_k, zb6_k, zb7_k, zb8_k, zb9_k, zb10_k, zb11_k, zb12_k, zb14_k, zb21_k, zb22_k, zupd_eq, zupd_ne, zupl_eq, zupl_ne, zupf_eq, zupf_ne, zl64_0, zl64_m, zl64_7, zjf_lt, zgL, e, zL_div]
  · by_cases q2 : 1000000000 < v / G
    · refine ⟨fun _ => ?_, fun z => absurd (Or.inr q2) z⟩
      simp (disch := omega) only [zl_0, zl_1, zl_2, zl_3, zl_4, zl_5, zl_6, zl_8, zl_9, zl_11, zl_12, zl_13, zl_16, zl_20, zl_23, zl_24, zl_30, zl_32, zl_40, zl_41, zl_43, zl_45, zl_50, zl_52, zl_60, zl_97, zl_99, zl_100, zl_124, zl_126, zl_127, zl_169, zl_170, zl_171, zl_195, zl_200, zl_201, zl_256, zl_261, zl_999, zl_1100, zl_1884, zl_4095, zl_4096, zd1, zd2, zs1, nI_add, pk_mul, zsb, zad1, zad2, zcl, zgI, zif_le, zif_nle, zif_lt, zif_nlt, zif_eq, zif_ne, zif_self, zif_T, zif_F, Nat.zero_add, Nat.add_sub_cancel, zn21, zn31, zif_m1, zif_m1l, zif_m1n, zif_pm, zb1_k, zb2_k, zb3_k, zb4_k, zb5_k, zb6_k, zb7_k, zb8_k, zb9_k, zb10_k, zb11_k, zb12_k, zb14_k, zb21_k, zb22_k, zupd_eq, zupd_ne, zupl_eq, zupl_ne, zupf_eq, zupf_ne, zl64_0, zl64_m, zl64_7, zjf_nlt, zjf_nle, zgL, e, zL_div]
    · refine ⟨fun z => by rcases z with z | z; exact absurd z q1; exact absurd z q2, fun _ => ?_⟩
      simp (disch := omega) only [zl_0, zl_1, zl_2, zl_3, zl_4, zl_5, zl_6, zl_8, zl_9, zl_11, zl_12, zl_13, zl_16, zl_20, zl_23, zl_24, zl_30, zl_32, zl_40, zl_41, zl_43, zl_45, zl_50, zl_52, zl_60, zl_97, zl_99, zl_100, zl_124, zl_126, zl_127, zl_169, zl_170, zl_171, zl_195, zl_200, zl_201, zl_256, zl_261, zl_999, zl_1100, zl_1884, zl_4095, zl_4096, zd1, zd2, zs1, nI_add, pk_mul, zsb, zad1, zad2, zcl, zgI, zif_le, zif_nle, zif_lt, zif_nlt, zif_eq, zif_ne, zif_self, zif_T, zif_F, Nat.zero_add, Nat.add_sub_cancel, zn21, zn31, zif_m1, zif_m1l, zif_m1n, zif_pm, zb1_k, zb2_k, zb3_k, zb4_k, zb5_k, zb6_k, zb7_k, zb8_k, zb9_k, zb10_k, zb11_k, zb12_k, zb14_k, zb21_k, zb22_k, zupd_eq, zupd_ne, zupl_eq, zupl_ne, zupf_eq, zupf_ne, zl64_0, zl64_m, zl64_7, zjf_nlt, zjf_le, zgL, e, zL_div]
/-- a worth that isn't long, in lowest terms -/
def zOp (p : Nat × Nat) : Prop := p.1 ≤ 1000000000 ∧ p.2 ≤ 1000000000 ∧ Nat.gcd p.1 p.2 = 1
theorem zOp_p {p : Nat × Nat} (h : zOp p) : 0 < p.1 ∨ 0 < p.2 := by
  rcases Nat.eq_zero_or_pos p.1 with e | e
  · rcases Nat.eq_zero_or_pos p.2 with e2 | e2
    · have := h.2.2
      rw [e, e2] at this
      cases this
    · exact Or.inr e2
  · exact Or.inl e
def zJn (kk : Nat) (p q : Nat × Nat) : Nat × Nat :=
  if kk = 1 then (if p.2 = 0 ∨ q.2 = 0 then (1, 0) else (p.1 * q.2 + q.1 * p.2, p.2 * q.2))
  else if p.1 = 0 ∨ q.1 = 0 then (0, 1) else if p.2 = 0 then q else if q.2 = 0 then p else (p.1 * q.1, p.1 * q.2 + q.1 * p.2)
theorem zJn_b {kk : Nat} {p q : Nat × Nat} (hp : zOp p) (hq : zOp q) : (zJn kk p q).1 < 4611686018427387904 ∧ (zJn kk p q).2 < 4611686018427387904 ∧ (0 < (zJn kk p q).1 ∨ 0 < (zJn kk p q).2) := by
  obtain ⟨p1, p2, p3⟩ := id hp
  obtain ⟨q1, q2, q3⟩ := id hq
  have a1 := zOp_p hp
  have a2 := zOp_p hq
  have m1 : p.1 * q.2 ≤ 1000000000 * 1000000000 := Nat.mul_le_mul p1 q2
  have m2 : q.1 * p.2 ≤ 1000000000 * 1000000000 := Nat.mul_le_mul q1 p2
  have m3 : p.2 * q.2 ≤ 1000000000 * 1000000000 := Nat.mul_le_mul p2 q2
  have m4 : p.1 * q.1 ≤ 1000000000 * 1000000000 := Nat.mul_le_mul p1 q1
  unfold zJn
  split
  · split
    · exact ⟨by show 1 < _; omega, by show 0 < _; omega, Or.inl (by show 0 < 1; omega)⟩
    · next h =>
      refine ⟨by show p.1 * q.2 + q.1 * p.2 < _; omega, by show p.2 * q.2 < _; omega, Or.inr (Nat.mul_pos (by omega) (by omega))⟩
  · split
    · exact ⟨by show 0 < _; omega, by show 1 < _; omega, Or.inr (by show 0 < 1; omega)⟩
    · next h =>
      split
      · exact ⟨by omega, by omega, a2⟩
      · split
        · exact ⟨by omega, by omega, a1⟩
        · exact ⟨by show p.1 * q.1 < _; omega, by show p.1 * q.2 + q.1 * p.2 < _; omega, Or.inl (Nat.mul_pos (by omega) (by omega))⟩
def zCb (kk : Nat) (p q : Nat × Nat) : Nat × Nat := zRd (zJn kk p q).1 (zJn kk p q).2
theorem zCb_le {kk : Nat} {p q : Nat × Nat} (hp : zOp p) (hq : zOp q) : (zCb kk p q).1 < 4611686018427387904 ∧ (zCb kk p q).2 < 4611686018427387904 := by
  have b := zJn_b (kk := kk) hp hq
  exact ⟨Nat.lt_of_le_of_lt (Nat.div_le_self _ _) b.1, Nat.lt_of_le_of_lt (Nat.div_le_self _ _) b.2.1⟩
theorem zCb_ok {kk : Nat} {p q : Nat × Nat} (hp : zOp p) (hq : zOp q) (h : ¬ zLg (zCb kk p q)) : zOp (zCb kk p q) := by
  have b := zJn_b (kk := kk) hp hq
  unfold zLg at h
  exact ⟨by omega, by omega, zRd_co b.2.2⟩
theorem fx_series {p q : Nat × Nat} (hp : zOp p) (hq : zOp q) : fX1_addInSeries (zL p.1) (zL p.2) (zL q.1) (zL q.2) = some (zL (zCb 1 p q).1, zL (zCb 1 p q).2) := by
  have b := zJn_b (kk := 1) hp hq
  unfold zCb
  have e := fx_become (c := zL p.1) (d := zL p.2) b.1 b.2.1 b.2.2
  obtain ⟨p1, p2, p3⟩ := hp
  obtain ⟨q1, q2, q3⟩ := hq
  unfold fX1_addInSeries fX1_addInSeries_J18
  by_cases h1 : p.2 = 0
  · have ez : zJn 1 p q = (1, 0) := by unfold zJn; rw [if_pos rfl, if_pos (Or.inl h1)]
    rw [ez] at e ⊢
    simp (disch := omega) only [zl_0, zl_1, zl_2, zl_3, zl_4, zl_5, zl_6, zl_8, zl_9, zl_11, zl_12, zl_13, zl_16, zl_20, zl_23, zl_24, zl_30, zl_32, zl_40, zl_41, zl_43, zl_45, zl_50, zl_52, zl_60, zl_97, zl_99, zl_100, zl_124, zl_126, zl_127, zl_169, zl_170, zl_171, zl_195, zl_200, zl_201, zl_256, zl_261, zl_999, zl_1100, zl_1884, zl_4095, zl_4096, zd1, zd2, zs1, nI_add, pk_mul, zsb, zad1, zad2, zcl, zgI, zif_le, zif_nle, zif_lt, zif_nlt, zif_eq, zif_ne, zif_self, zif_T, zif_F, Nat.zero_add, Nat.add_sub_cancel, zn21, zn31, zif_m1, zif_m1l, zif_m1n, zif_pm, zb1_k, zb2_k, zb3_k, zb4_k, zb5_k, zb6_k, zb7_k, zb8_k, zb9_k, zb10_k, zb11_k, zb12_k, zb14_k, zb21_k, zb22_k, zupd_eq, zupd_ne, zupl_eq, zupl_ne, zupf_eq, zupf_ne, zl64_0, zl64_1, zjf_eq, e]
  · by_cases h2 : q.2 = 0
    · have ez : zJn 1 p q = (1, 0) := by unfold zJn; rw [if_pos rfl, if_pos (Or.inr h2)]
      rw [ez] at e ⊢
      simp (disch := omega) only [zl_0, zl_1, zl_2, zl_3, zl_4, zl_5, zl_6, zl_8, zl_9, zl_11, zl_12, zl_13, zl_16, zl_20, zl_23, zl_24, zl_30, zl_32, zl_40, zl_41, zl_43, zl_45, zl_50, zl_52, zl_60, zl_97, zl_99, zl_100, zl_124, zl_126, zl_127, zl_169, zl_170, zl_171, zl_195, zl_200, zl_201, zl_256, zl_261, zl_999, zl_1100, zl_1884, zl_4095, zl_4096, zd1, zd2, zs1, nI_add, pk_mul, zsb, zad1, zad2, zcl, zgI, zif_le, zif_nle, zif_lt, zif_nlt, zif_eq, zif_ne, zif_self, zif_T, zif_F, Nat.zero_add, Nat.add_sub_cancel, zn21, zn31, zif_m1, zif_m1l, zif_m1n, zif_pm, zb1_k, zb2_k, zb3_k, zb4_k, zb5_k, zb6_k, zb7_k, zb8_k, zb9_k, zb10_k, zb11_k, zb12_k, zb14_k, zb21_k, zb22_k, zupd_eq, zupd_ne, zupl_eq, zupl_ne, zupf_eq, zupf_ne, zl64_0, zl64_1, zjf_eq, zjf_ne, e]
    · have ez : zJn 1 p q = (p.1 * q.2 + q.1 * p.2, p.2 * q.2) := by unfold zJn; rw [if_pos rfl, if_neg (by omega)]
      rw [ez] at e ⊢
      simp (disch := omega) only [zl_0, zl_1, zl_2, zl_3, zl_4, zl_5, zl_6, zl_8, zl_9, zl_11, zl_12, zl_13, zl_16, zl_20, zl_23, zl_24, zl_30, zl_32, zl_40, zl_41, zl_43, zl_45, zl_50, zl_52, zl_60, zl_97, zl_99, zl_100, zl_124, zl_126, zl_127, zl_169, zl_170, zl_171, zl_195, zl_200, zl_201, zl_256, zl_261, zl_999, zl_1100, zl_1884, zl_4095, zl_4096, zd1, zd2, zs1, nI_add, pk_mul, zsb, zad1, zad2, zcl, zgI, zif_le, zif_nle, zif_lt, zif_nlt, zif_eq, zif_ne, zif_self, zif_T, zif_F, Nat.zero_add, Nat.add_sub_cancel, zn21, zn31, zif_m1, zif_m1l, zif_m1n, zif_pm, zb1_k, zb2_k, zb3_k, zb4_k, zb5_k, zb6_k, zb7_k, zb8_k, zb9_k, zb10_k, zb11_k, zb12_k, zb14_k, zb21_k, zb22_k, zupd_eq, zupd_ne, zupl_eq, zupl_ne, zupf_eq, zupf_ne, zl64_0, zl64_1, zjf_ne, zL_mul, zL_add, e]
theorem fx_beside {p q : Nat × Nat} (hp : zOp p) (hq : zOp q) : fX1_addBeside (zL p.1) (zL p.2) (zL q.1) (zL q.2) = some (zL (zCb 2 p q).1, zL (zCb 2 p q).2) := by
  have b := zJn_b (kk := 2) hp hq
  unfold zCb
  have e := fx_become (c := zL p.1) (d := zL p.2) b.1 b.2.1 b.2.2
  obtain ⟨p1, p2, p3⟩ := hp
  obtain ⟨q1, q2, q3⟩ := hq
  unfold fX1_addBeside fX1_addBeside_J18 fX1_copy
  by_cases h1 : p.1 = 0
  · have ez : zJn 2 p q = (0, 1) := by unfold zJn; rw [if_neg (by omega), if_pos (Or.inl h1)]
    rw [ez] at e ⊢
    simp (disch := omega) only [zl_0, zl_1, zl_2, zl_3, zl_4, zl_5, zl_6, zl_8, zl_9, zl_11, zl_12, zl_13, zl_16, zl_20, zl_23, zl_24, zl_30, zl_32, zl_40, zl_41, zl_43, zl_45, zl_50, zl_52, zl_60, zl_97, zl_99, zl_100, zl_124, zl_126, zl_127, zl_169, zl_170, zl_171, zl_195, zl_200, zl_201, zl_256, zl_261, zl_999, zl_1100, zl_1884, zl_4095, zl_4096, zd1, zd2, zs1, nI_add, pk_mul, zsb, zad1, zad2, zcl, zgI, zif_le, zif_nle, zif_lt, zif_nlt, zif_eq, zif_ne, zif_self, zif_T, zif_F, Nat.zero_add, Nat.add_sub_cancel, zn21, zn31, zif_m1, zif_m1l, zif_m1n, zif_pm, zb1_k, zb2_k, zb3_k, zb4_k, zb5_k, zb6_k, zb7_k, zb8_k, zb9_k, zb10_k, zb11_k, zb12_k, zb14_k, zb21_k, zb22_k, zupd_eq, zupd_ne, zupl_eq, zupl_ne, zupf_eq, zupf_ne, zl64_0, zl64_1, zjf_eq, e]
  · by_cases h2 : q.1 = 0
    · have ez : zJn 2 p q = (0, 1) := by unfold zJn; rw [if_neg (by omega), if_pos (Or.inr h2)]
      rw [ez] at e ⊢
      simp (disch := omega) only [zl_0, zl_1, zl_2, zl_3, zl_4, zl_5, zl_6, zl_8, zl_9, zl_11, zl_12, zl_13, zl_16, zl_20, zl_23, zl_24, zl_30, zl_32, zl_40, zl_41, zl_43, zl_45, zl_50, zl_52, zl_60, zl_97, zl_99, zl_100, zl_124, zl_126, zl_127, zl_169, zl_170, zl_171, zl_195, zl_200, zl_201, zl_256, zl_261, zl_999, zl_1100, zl_1884, zl_4095, zl_4096, zd1, zd2, zs1, nI_add, pk_mul, zsb, zad1, zad2, zcl, zgI, zif_le, zif_nle, zif_lt, zif_nlt, zif_eq, zif_ne, zif_self, zif_T, zif_F, Nat.zero_add, Nat.add_sub_cancel, zn21, zn31, zif_m1, zif_m1l, zif_m1n, zif_pm, zb1_k, zb2_k, zb3_k, zb4_k, zb5_k, zb6_k, zb7_k, zb8_k, zb9_k, zb10_k, zb11_k, zb12_k, zb14_k, zb21_k, zb22_k, zupd_eq, zupd_ne, zupl_eq, zupl_ne, zupf_eq, zupf_ne, zl64_0, zl64_1, zjf_eq, zjf_ne, e]
    · by_cases h3 : p.2 = 0
      · have ez : zJn 2 p q = q := by unfold zJn; rw [if_neg (by omega), if_neg (by omega), if_pos h3]
        rw [ez, zRd_id q3]
        simp (disch := omega) only [zl_0, zl_1, zl_2, zl_3, zl_4, zl_5, zl_6, zl_8, zl_9, zl_11, zl_12, zl_13, zl_16, zl_20, zl_23, zl_24, zl_30, zl_32, zl_40, zl_41, zl_43, zl_45, zl_50, zl_52, zl_60, zl_97, zl_99, zl_100, zl_124, zl_126, zl_127, zl_169, zl_170, zl_171, zl_195, zl_200, zl_201, zl_256, zl_261, zl_999, zl_1100, zl_1884, zl_4095, zl_4096, zd1, zd2, zs1, nI_add, pk_mul, zsb, zad1, zad2, zcl, zgI, zif_le, zif_nle, zif_lt, zif_nlt, zif_eq, zif_ne, zif_self, zif_T, zif_F, Nat.zero_add, Nat.add_sub_cancel, zn21, zn31, zif_m1, zif_m1l, zif_m1n, zif_pm, zb1_k, zb2_k, zb3_k, zb4_k, zb5_k, zb6_k, zb7_k, zb8_k, zb9_k, zb10_k, zb11_k, zb12_k, zb14_k, zb21_k, zb22_k, zupd_eq, zupd_ne, zupl_eq, zupl_ne, zupf_eq, zupf_ne, zl64_0, zl64_1, zjf_eq, zjf_ne]
      · by_cases h4 : q.2 = 0
        · have ez : zJn 2 p q = p := by unfold zJn; rw [if_neg (by omega), if_neg (by omega), if_neg h3, if_pos h4]
          rw [ez, zRd_id p3]
          simp (disch := omega) only [zl_0, zl_1, zl_2, zl_3, zl_4, zl_5, zl_6, zl_8, zl_9, zl_11, zl_12, zl_13, zl_16, zl_20, zl_23, zl_24, zl_30, zl_32, zl_40, zl_41, zl_43, zl_45, zl_50, zl_52, zl_60, zl_97, zl_99, zl_100, zl_124, zl_126, zl_127, zl_169, zl_170, zl_171, zl_195, zl_200, zl_201, zl_256, zl_261, zl_999, zl_1100, zl_1884, zl_4095, zl_4096, zd1, zd2, zs1, nI_add, pk_mul, zsb, zad1, zad2, zcl, zgI, zif_le, zif_nle, zif_lt, zif_nlt, zif_eq, zif_ne, zif_self, zif_T, zif_F, Nat.zero_add, Nat.add_sub_cancel, zn21, zn31, zif_m1, zif_m1l, zif_m1n, zif_pm, zb1_k, zb2_k, zb3_k, zb4_k, zb5_k, zb6_k, zb7_k, zb8_k, zb9_k, zb10_k, zb11_k, zb12_k, zb14_k, zb21_k, zb22_k, zupd_eq, zupd_ne, zupl_eq, zupl_ne, zupf_eq, zupf_ne, zl64_0, zl64_1, zjf_eq, zjf_ne]
        · have ez : zJn 2 p q = (p.1 * q.1, p.1 * q.2 + q.1 * p.2) := by unfold zJn; rw [if_neg (by omega), if_neg (by omega), if_neg h3, if_neg h4]
          rw [ez] at e ⊢
          simp (disch := omega) only [zl_0, zl_1, zl_2, zl_3, zl_4, zl_5, zl_6, zl_8, zl_9, zl_11, zl_12, zl_13, zl_16, zl_20, zl_23, zl_24, zl_30, zl_32, zl_40, zl_41, zl_43, zl_45, zl_50, zl_52, zl_60, zl_97, zl_99, zl_100, zl_124, zl_126, zl_127, zl_169, zl_170, zl_171, zl_195, zl_200, zl_201, zl_256, zl_261, zl_999, zl_1100, zl_1884, zl_4095, zl_4096, zd1, zd2, zs1, nI_add, pk_mul, zsb, zad1, zad2, zcl, zgI, zif_le, zif_nle, zif_lt, zif_nlt, zif_eq, zif_ne, zif_self, zif_T, zif_F, Nat.zero_add, Nat.add_sub_cancel, zn21, zn31, zif_m1, zif_m1l, zif_m1n, zif_pm, zb1_k, zb2_k, zb3_k, zb4_k, zb5_k, zb6_k, zb7_k, zb8_k, zb9_k, zb10_k, zb11_k, zb12_k, zb14_k, zb21_k, zb22_k, zupd_eq, zupd_ne, zupl_eq, zupl_ne, zupf_eq, zupf_ne, zl64_0, zl64_1, zjf_ne, zL_mul, zL_add, e]
def zCo (kk : Nat) : Option (Nat × Nat) → Option (Nat × Nat) → Option (Nat × Nat)
  | some p, some q => if 1000000000 < (zCb kk p q).1 ∨ 1000000000 < (zCb kk p q).2 then none else some (zCb kk p q)
  | _, _ => none
def zOo : Option (Nat × Nat) → Prop
  | none => True
  | some p => zOp p
theorem zCo_ss (kk : Nat) (p q : Nat × Nat) : zCo kk (some p) (some q) = if 1000000000 < (zCb kk p q).1 ∨ 1000000000 < (zCb kk p q).2 then none else some (zCb kk p q) := rfl
theorem zCo_ok {kk : Nat} {x y : Option (Nat × Nat)} (hx : zOo x) (hy : zOo y) : zOo (zCo kk x y) := by
  cases x with
  | none => exact trivial
  | some p =>
    cases y with
    | none => exact trivial
    | some q =>
      rw [zCo_ss]
      split
      · exact trivial
      · next h => exact zCb_ok hx hy h
theorem fm_joined {kk : Nat} {x y : Option (Nat × Nat)} {c d : Int64} (hk : kk = 1 ∨ kk = 2) (hx : zOo x) (hy : zOo y) : fX11_joined (nI kk) (zEn x).1 (zEn x).2 (zEn y).1 (zEn y).2 c d = some (zEn (zCo kk x y)) := by
  unfold fX11_joined fX11_joined_J13
  cases x with
  | none =>
    simp only [zEn, zl64_0, zl64_7, zjf_7lt, zCo]
  | some p =>
    have hp : zOp p := hx
    cases y with
    | none =>
      obtain ⟨p1, p2, p3⟩ := hp
      simp (disch := omega) only [zEn, zl64_0, zl64_7, zjf_nlt, zjf_7le, zCo]
    | some q =>
      have hq : zOp q := hy
      have b := zJn_b (kk := kk) hp hq
      have e := fm_becomes (c := c) (d := d) b.1 b.2.1 b.2.2
      have e2 : fX11_becomes (zL (zJn kk p q).1) (zL (zJn kk p q).2) c d = some (zEn (zCo kk (some p) (some q))) := by
        rw [zCo_ss]
        by_cases h : zLg (zCb kk p q)
        · rw [if_pos (show 1000000000 < (zCb kk p q).1 ∨ 1000000000 < (zCb kk p q).2 from h)]; exact e.1 h
        · rw [if_neg (show ¬ (1000000000 < (zCb kk p q).1 ∨ 1000000000 < (zCb kk p q).2) from h)]; exact e.2 h
      rw [← e2]
      obtain ⟨p1, p2, p3⟩ := hp
      obtain ⟨q1, q2, q3⟩ := hq
      have zbk : ∀ z : Option (Int64 × Int64), zb2 z (fun a b => some (a, b)) = z := fun z => by cases z <;> rfl
      rcases hk with rfl | rfl
      · by_cases h1 : p.2 = 0
        · have ez : zJn 1 p q = (1, 0) := by unfold zJn; rw [if_pos rfl, if_pos (Or.inl h1)]
          rw [ez]
          simp (disch := omega) only [zEn, zl_0, zl_1, zl_2, zl_3, zl_4, zl_5, zl_6, zl_8, zl_9, zl_11, zl_12, zl_13, zl_16, zl_20, zl_23, zl_24, zl_30, zl_32, zl_40, zl_41, zl_43, zl_45, zl_50, zl_52, zl_60, zl_97, zl_99, zl_100, zl_124, zl_126, zl_127, zl_169, zl_170, zl_171, zl_195, zl_200, zl_201, zl_256, zl_261, zl_999, zl_1100, zl_1884, zl_4095, zl_4096, zd1, zd2, zs1, nI_add, pk_mul, zsb, zad1, zad2, zcl, zgI, zif_le, zif_nle, zif_lt, zif_nlt, zif_eq, zif_ne, zif_self, zif_T, zif_F, Nat.zero_add, Nat.add_sub_cancel, zn21, zn31, zif_m1, zif_m1l, zif_m1n, zif_pm, zb1_k, zb2_k, zb3_k, zb4_k, zb5_k, zb6_k, zb7_k, zb8_k, zb9_k, zb10_k, zb11_k, zb12_k, zb14_k, zb21_k, zb22_k, zupd_eq, zupd_ne, zupl_eq, zupl_ne, zupf_eq, zupf_ne, fX11_joined_J49, zl64_0, zl64_1, zjf_nlt, zjf_le, zjf_eq, zbk]
        · by_cases h2 : q.2 = 0
          · have ez : zJn 1 p q = (1, 0) := by unfold zJn; rw [if_pos rfl, if_pos (Or.inr h2)]
            rw [ez]
            simp (disch := omega) only [zEn, zl_0, zl_1, zl_2, zl_3, zl_4, zl_5, zl_6, zl_8, zl_9, zl_11, zl_12, zl_13, zl_16, zl_20, zl_23, zl_24, zl_30, zl_32, zl_40, zl_41, zl_43, zl_45, zl_50, zl_52, zl_60, zl_97, zl_99, zl_100, zl_124, zl_126, zl_127, zl_169, zl_170, zl_171, zl_195, zl_200, zl_201, zl_256, zl_261, zl_999, zl_1100, zl_1884, zl_4095, zl_4096, zd1, zd2, zs1, nI_add, pk_mul, zsb, zad1, zad2, zcl, zgI, zif_le, zif_nle, zif_lt, zif_nlt, zif_eq, zif_ne, zif_self, zif_T, zif_F, Nat.zero_add, Nat.add_sub_cancel, zn21, zn31, zif_m1, zif_m1l, zif_m1n, zif_pm, zb1_k, zb2_k, zb3_k, zb4_k, zb5_k, zb6_k, zb7_k, zb8_k, zb9_k, zb10_k, zb11_k, zb12_k, zb14_k, zb21_k, zb22_k, zupd_eq, zupd_ne, zupl_eq, zupl_ne, zupf_eq, zupf_ne, fX11_joined_J49, zl64_0, zl64_1, zjf_nlt, zjf_le, zjf_eq, zjf_ne, zbk]
          · have ez : zJn 1 p q = (p.1 * q.2 + q.1 * p.2, p.2 * q.2) := by unfold zJn; rw [if_pos rfl, if_neg (by omega)]
            rw [ez]
            simp (disch := omega) only [zEn, zl_0, zl_1, zl_2, zl_3, zl_4, zl_5, zl_6, zl_8, zl_9, zl_11, zl_12, zl_13, zl_16, zl_20, zl_23, zl_24, zl_30, zl_32, zl_40, zl_41, zl_43, zl_45, zl_50, zl_52, zl_60, zl_97, zl_99, zl_100, zl_124, zl_126, zl_127, zl_169, zl_170, zl_171, zl_195, zl_200, zl_201, zl_256, zl_261, zl_999, zl_1100, zl_1884, zl_4095, zl_4096, zd1, zd2, zs1, nI_add, pk_mul, zsb, zad1, zad2, zcl, zgI, zif_le, zif_nle, zif_lt, zif_nlt, zif_eq, zif_ne, zif_self, zif_T, zif_F, Nat.zero_add, Nat.add_sub_cancel, zn21, zn31, zif_m1, zif_m1l, zif_m1n, zif_pm, zb1_k, zb2_k, zb3_k, zb4_k, zb5_k, zb6_k, zb7_k, zb8_k, zb9_k, zb10_k, zb11_k, zb12_k, zb14_k, zb21_k, zb22_k, zupd_eq, zupd_ne, zupl_eq, zupl_ne, zupf_eq, zupf_ne, fX11_joined_J58, zl64_0, zl64_1, zjf_nlt, zjf_le, zjf_ne, zL_mul, zL_add, zbk]
      · by_cases h1 : p.1 = 0
        · have ez : zJn 2 p q = (0, 1) := by unfold zJn; rw [if_neg (by omega), if_pos (Or.inl h1)]
          rw [ez]
          simp (disch := omega) only [zEn, zl_0, zl_1, zl_2, zl_3, zl_4, zl_5, zl_6, zl_8, zl_9, zl_11, zl_12, zl_13, zl_16, zl_20, zl_23, zl_24, zl_30, zl_32, zl_40, zl_41, zl_43, zl_45, zl_50, zl_52, zl_60, zl_97, zl_99, zl_100, zl_124, zl_126, zl_127, zl_169, zl_170, zl_171, zl_195, zl_200, zl_201, zl_256, zl_261, zl_999, zl_1100, zl_1884, zl_4095, zl_4096, zd1, zd2, zs1, nI_add, pk_mul, zsb, zad1, zad2, zcl, zgI, zif_le, zif_nle, zif_lt, zif_nlt, zif_eq, zif_ne, zif_self, zif_T, zif_F, Nat.zero_add, Nat.add_sub_cancel, zn21, zn31, zif_m1, zif_m1l, zif_m1n, zif_pm, zb1_k, zb2_k, zb3_k, zb4_k, zb5_k, zb6_k, zb7_k, zb8_k, zb9_k, zb10_k, zb11_k, zb12_k, zb14_k, zb21_k, zb22_k, zupd_eq, zupd_ne, zupl_eq, zupl_ne, zupf_eq, zupf_ne, fX11_joined_J58, fX11_joined_J98, zl64_0, zl64_1, zjf_nlt, zjf_le, zjf_eq, zbk]
        · by_cases h2 : q.1 = 0
          · have ez : zJn 2 p q = (0, 1) := by unfold zJn; rw [if_neg (by omega), if_pos (Or.inr h2)]
            rw [ez]
            simp (disch := omega) only [zEn, zl_0, zl_1, zl_2, zl_3, zl_4, zl_5, zl_6, zl_8, zl_9, zl_11, zl_12, zl_13, zl_16, zl_20, zl_23, zl_24, zl_30, zl_32, zl_40, zl_41, zl_43, zl_45, zl_50, zl_52, zl_60, zl_97, zl_99, zl_100, zl_124, zl_126, zl_127, zl_169, zl_170, zl_171, zl_195, zl_200, zl_201, zl_256, zl_261, zl_999, zl_1100, zl_1884, zl_4095, zl_4096, zd1, zd2, zs1, nI_add, pk_mul, zsb, zad1, zad2, zcl, zgI, zif_le, zif_nle, zif_lt, zif_nlt, zif_eq, zif_ne, zif_self, zif_T, zif_F, Nat.zero_add, Nat.add_sub_cancel, zn21, zn31, zif_m1, zif_m1l, zif_m1n, zif_pm, zb1_k, zb2_k, zb3_k, zb4_k, zb5_k, zb6_k, zb7_k, zb8_k, zb9_k, zb10_k, zb11_k, zb12_k, zb14_k, zb21_k, zb22_k, zupd_eq, zupd_ne, zupl_eq, zupl_ne, zupf_eq, zupf_ne, fX11_joined_J58, fX11_joined_J98, zl64_0, zl64_1, zjf_nlt, zjf_le, zjf_eq, zjf_ne, zbk]
          · by_cases h3 : p.2 = 0
            · have ez : zJn 2 p q = q := by unfold zJn; rw [if_neg (by omega), if_neg (by omega), if_pos h3]
              rw [ez]
              simp (disch := omega) only [zEn, zl_0, zl_1, zl_2, zl_3, zl_4, zl_5, zl_6, zl_8, zl_9, zl_11, zl_12, zl_13, zl_16, zl_20, zl_23, zl_24, zl_30, zl_32, zl_40, zl_41, zl_43, zl_45, zl_50, zl_52, zl_60, zl_97, zl_99, zl_100, zl_124, zl_126, zl_127, zl_169, zl_170, zl_171, zl_195, zl_200, zl_201, zl_256, zl_261, zl_999, zl_1100, zl_1884, zl_4095, zl_4096, zd1, zd2, zs1, nI_add, pk_mul, zsb, zad1, zad2, zcl, zgI, zif_le, zif_nle, zif_lt, zif_nlt, zif_eq, zif_ne, zif_self, zif_T, zif_F, Nat.zero_add, Nat.add_sub_cancel, zn21, zn31, zif_m1, zif_m1l, zif_m1n, zif_pm, zb1_k, zb2_k, zb3_k, zb4_k, zb5_k, zb6_k, zb7_k, zb8_k, zb9_k, zb10_k, zb11_k, zb12_k, zb14_k, zb21_k, zb22_k, zupd_eq, zupd_ne, zupl_eq, zupl_ne, zupf_eq, zupf_ne, fX11_joined_J58, fX11_joined_J121, fX11_joined_J135, fX11_joined_J149, zl64_0, zl64_1, zjf_nlt, zjf_le, zjf_eq, zjf_ne, zbk]
            · by_cases h4 : q.2 = 0
              · have ez : zJn 2 p q = p := by unfold zJn; rw [if_neg (by omega), if_neg (by omega), if_neg h3, if_pos h4]
                rw [ez]
                simp (disch := omega) only [zEn, zl_0, zl_1, zl_2, zl_3, zl_4, zl_5, zl_6, zl_8, zl_9, zl_11, zl_12, zl_13, zl_16, zl_20, zl_23, zl_24, zl_30, zl_32, zl_40, zl_41, zl_43, zl_45, zl_50, zl_52, zl_60, zl_97, zl_99, zl_100, zl_124, zl_126, zl_127, zl_169, zl_170, zl_171, zl_195, zl_200, zl_201, zl_256, zl_261, zl_999, zl_1100, zl_1884, zl_4095, zl_4096, zd1, zd2, zs1, nI_add, pk_mul, zsb, zad1, zad2, zcl, zgI, zif_le, zif_nle, zif_lt, zif_nlt, zif_eq, zif_ne, zif_self, zif_T, zif_F, Nat.zero_add, Nat.add_sub_cancel, zn21, zn31, zif_m1, zif_m1l, zif_m1n, zif_pm, zb1_k, zb2_k, zb3_k, zb4_k, zb5_k, zb6_k, zb7_k, zb8_k, zb9_k, zb10_k, zb11_k, zb12_k, zb14_k, zb21_k, zb22_k, zupd_eq, zupd_ne, zupl_eq, zupl_ne, zupf_eq, zupf_ne, fX11_joined_J58, fX11_joined_J121, fX11_joined_J135, fX11_joined_J149, zl64_0, zl64_1, zjf_nlt, zjf_le, zjf_eq, zjf_ne, zbk]
              · have ez : zJn 2 p q = (p.1 * q.1, p.1 * q.2 + q.1 * p.2) := by unfold zJn; rw [if_neg (by omega), if_neg (by omega), if_neg h3, if_neg h4]
                rw [ez]
                simp (disch := omega) only [zEn, zl_0, zl_1, zl_2, zl_3, zl_4, zl_5, zl_6, zl_8, zl_9, zl_11, zl_12, zl_13, zl_16, zl_20, zl_23, zl_24, zl_30, zl_32, zl_40, zl_41, zl_43, zl_45, zl_50, zl_52, zl_60, zl_97, zl_99, zl_100, zl_124, zl_126, zl_127, zl_169, zl_170, zl_171, zl_195, zl_200, zl_201, zl_256, zl_261, zl_999, zl_1100, zl_1884, zl_4095, zl_4096, zd1, zd2, zs1, nI_add, pk_mul, zsb, zad1, zad2, zcl, zgI, zif_le, zif_nle, zif_lt, zif_nlt, zif_eq, zif_ne, zif_self, zif_T, zif_F, Nat.zero_add, Nat.add_sub_cancel, zn21, zn31, zif_m1, zif_m1l, zif_m1n, zif_pm, zb1_k, zb2_k, zb3_k, zb4_k, zb5_k, zb6_k, zb7_k, zb8_k, zb9_k, zb10_k, zb11_k, zb12_k, zb14_k, zb21_k, zb22_k, zupd_eq, zupd_ne, zupl_eq, zupl_ne, zupf_eq, zupf_ne, fX11_joined_J58, zl64_0, zl64_1, zjf_nlt, zjf_le, zjf_ne, zL_mul, zL_add, zbk]
