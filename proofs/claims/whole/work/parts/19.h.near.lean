/-! the call nearest -/
theorem zwLn0 {k : Nat} (h : k < 9223372036854775808) : (-zL k).toInt = -(k : Int) := by
  rw [Int64.toInt_neg, zL_toInt h]
  exact Int.bmod_eq_of_le (by omega) (by omega)
theorem zwdf {x y : Nat} (hx : x < 4611686018427387904) (hy : y < 4611686018427387904) : (y ≤ x ∧ zL x - zL y = zL (x - y + (y - x))) ∨ (x < y ∧ zL x - zL y = -zL (x - y + (y - x)) ∧ 0 < x - y + (y - x)) := by
  rcases Nat.lt_or_ge x y with h | h
  · right
    refine ⟨h, ?_, by omega⟩
    rw [show x - y + (y - x) = y - x by omega, ← zL_sub (Nat.le_of_lt h), Int64.neg_sub]
  · left
    refine ⟨h, ?_⟩
    rw [zL_sub h, show y - x = 0 by omega, Nat.add_zero]
theorem zwn1 {k : Nat} (h0 : 0 < k) (h : k < 9223372036854775808) : ¬ (0 : Int64) < -zL k := by
  rw [Int64.lt_iff_toInt_lt, zwLn0 h, show (0 : Int64).toInt = 0 from by decide]
  omega
theorem zwn2 {k : Nat} (h0 : 0 < k) (h : k < 9223372036854775808) : ¬ (0 : Int64) ≤ -zL k := by
  rw [Int64.le_iff_toInt_le, zwLn0 h, show (0 : Int64).toInt = 0 from by decide]
  omega
theorem zwabs1 {x y : Nat} (hx : x < 4611686018427387904) (hy : y < 4611686018427387904) : (if (0 : Int64) < zL x - zL y then zL x - zL y else -(zL x - zL y)) = zL (x - y + (y - x)) := by
  rcases zwdf hx hy with ⟨h, e⟩ | ⟨h, e, p⟩
  · rw [e]
    by_cases z : x - y + (y - x) = 0
    · rw [z, if_neg (by decide)]
      decide
    · rw [zl64_0, if_pos ((zL_lt (by omega) (by omega)).mpr (by omega))]
  · rw [e, if_neg (zwn1 p (by omega)), Int64.neg_neg]
theorem zwabs2 {R : Type} {x y : Nat} (f : Int64 → R) (hx : x < 4611686018427387904) (hy : y < 4611686018427387904) : (if (0 : Int64) ≤ zL x - zL y then f (zL x - zL y) else f (-(zL x - zL y))) = f (zL (x - y + (y - x))) := by
  rcases zwdf hx hy with ⟨h, e⟩ | ⟨h, e, p⟩
  · rw [e, zl64_0, if_pos ((zL_le (by omega) (by omega)).mpr (Nat.zero_le _))]
  · rw [e, if_neg (zwn2 p (by omega)), Int64.neg_neg]
/-- how far off, times what is below -/
def zwof (o : Nat → Nat) (P Q i : Nat) : Nat := (zwv (zwF o) i).1 * Q - (zwv (zwF o) i).2 * P + ((zwv (zwF o) i).2 * P - (zwv (zwF o) i).1 * Q)
def zwnb (o : Nat → Nat) (P Q i j : Nat) : Bool := decide (zwof o P Q i * (zwv (zwF o) j).2 < zwof o P Q j * (zwv (zwF o) i).2) || (decide (zwof o P Q i * (zwv (zwF o) j).2 = zwof o P Q j * (zwv (zwF o) i).2) && decide (zwlv o i = zwlv o j) && zwls o i j)
def zwnr (o : Nat → Nat) (P Q : Nat) : Nat → Nat → Option Nat → Option Nat
  | 0, _, r => r
  | d + 1, i, none => zwnr o P Q d (i + 1) (some i)
  | d + 1, i, some j => zwnr o P Q d (i + 1) (if zwnb o P Q i j = true then some i else some j)
def zwer (o : Nat → Nat) (P Q : Nat) : Option Nat → Int64
  | none => zL 0
  | some j => zL (zwof o P Q j)
theorem zwnr_v (o : Nat → Nat) (P Q B : Nat) : ∀ (d i : Nat) (r : Option Nat), i + d = B → (∀ j, r = some j → j < i) → (∀ j, zwnr o P Q d i r = some j → j < B) ∧ (zwnr o P Q d i r = none → d = 0 ∧ r = none)
  | 0, i, r, h, hr => ⟨fun j hj => by have := hr j hj; omega, fun e => ⟨rfl, e⟩⟩
  | d + 1, i, none, h, hr => by
    have ih := zwnr_v o P Q B d (i + 1) (some i) (by omega) (fun j hj => by cases hj; omega)
    exact ⟨ih.1, fun e => by cases (ih.2 e).2⟩
  | d + 1, i, some j, h, hr => by
    have hj := hr j rfl
    by_cases c : zwnb o P Q i j = true
    · have ih := zwnr_v o P Q B d (i + 1) (some i) (by omega) (fun j hj => by cases hj; omega)
      have e : zwnr o P Q (d + 1) i (some j) = zwnr o P Q d (i + 1) (some i) := by
        show zwnr o P Q d (i + 1) (if zwnb o P Q i j = true then some i else some j) = _
        rw [if_pos c]
      rw [e]
      exact ⟨ih.1, fun e => by cases (ih.2 e).2⟩
    · have ih := zwnr_v o P Q B d (i + 1) (some j) (by omega) (fun k hk => by cases hk; omega)
      have e : zwnr o P Q (d + 1) i (some j) = zwnr o P Q d (i + 1) (some j) := by
        show zwnr o P Q d (i + 1) (if zwnb o P Q i j = true then some i else some j) = _
        rw [if_neg c]
      rw [e]
      exact ⟨ih.1, fun e => by cases (ih.2 e).2⟩
theorem zwof_b {o : Nat → Nat} (ho : ∀ s, s < 4 → o s ≤ 99) {P Q i : Nat} (p2 : P ≤ 999) (q2 : Q ≤ 999) (hi : i < zwb o 5) : zwof o P Q i ≤ 95963541399 ∧ (zwv (zwF o) i).2 ≤ 3881196 ∧ 0 < (zwv (zwF o) i).2 ∧ (zwv (zwF o) i).1 * Q ≤ 95963541399 ∧ (zwv (zwF o) i).2 * P ≤ 95963541399 := by
  obtain ⟨e1, f1, w1, b1⟩ := zwls_v ho hi
  have m1 := Nat.mul_le_mul b1.2.1 q2
  have m2 := Nat.mul_le_mul b1.2.2.2.1 p2
  unfold zwof
  rw [w1]
  exact ⟨by omega, b1.2.2.2.1, b1.2.2.1, by omega, by omega⟩
theorem fx_isNearer {o : Nat → Nat} {m i j P Q : Nat} {lv : Int32} {st ab be kd fi se : Nat → Int32} (ho : ∀ s, s < 4 → o s ≤ 99) (h1 : 1 ≤ m) (hm : m ≤ 4) (h : zwQx o m lv st ab be kd fi se) (p2 : P ≤ 999) (q2 : Q ≤ 999) (hi : i < zwb o (m + 1)) (hj : j < zwb o (m + 1)) : fX7_isNearer (nI i) (zL (zwof o P Q i)) (nI j) (zL (zwof o P Q j)) lv be st ab = some (if zwnb o P Q i j = true then nI 1 else nI 0) := by
  have b5 := zwb_le ho (k := m + 1) (by omega) (by omega)
  obtain ⟨e1, f1, w1, b1⟩ := zwls_v ho (i := i) (by omega)
  obtain ⟨e2, f2, w2, b2⟩ := zwls_v ho (i := j) (by omega)
  obtain ⟨r1, r2, _⟩ := h.2.2 i e1 hi f1
  obtain ⟨s1, s2, _⟩ := h.2.2 j e2 hj f2
  have o1 := zwof_b ho p2 q2 (i := i) (by omega)
  have o2 := zwof_b ho p2 q2 (i := j) (by omega)
  have x1 := fx_partsOfR ho h h1 hm hi
  have x2 := fx_partsOfR ho h h1 hm hj
  have x3 := fx_isLessR ho hm h hi hj
  have l1 := (zwlv_s ho (i := i) (by omega)).2.1
  have l2 := (zwlv_s ho (i := j) (by omega)).2.1
  rw [w1] at o1
  rw [w2] at o2
  unfold fX7_isNearer zwnb
  rw [w1, w2]
  generalize zwof o P Q i = A at *
  generalize zwof o P Q j = B at *
  have m1 := Nat.mul_le_mul o1.1 o2.2.1
  have m2 := Nat.mul_le_mul o2.1 o1.2.1
  rcases Nat.lt_trichotomy (A * e2.1.2) (B * e1.1.2) with c | c | c
  · rw [decide_eq_true c, Bool.true_or, if_pos rfl]
    simp (disch := omega) only [zl_0, zl_1, zl_2, zl_3, zl_4, zl_5, zl_6, zl_8, zl_9, zl_11, zl_12, zl_13, zl_16, zl_20, zl_23, zl_24, zl_30, zl_32, zl_40, zl_41, zl_43, zl_45, zl_50, zl_52, zl_60, zl_97, zl_99, zl_100, zl_124, zl_126, zl_127, zl_169, zl_170, zl_171, zl_195, zl_200, zl_201, zl_256, zl_261, zl_999, zl_1100, zl_1884, zl_4095, zl_4096, zd1, zd2, zs1, nI_add, pk_mul, zsb, zad1, zad2, zcl, zgI, zif_le, zif_nle, zif_lt, zif_nlt, zif_eq, zif_ne, zif_self, zif_T, zif_F, Nat.zero_add, Nat.add_sub_cancel, zn21, zn31, zif_m1, zif_m1l, zif_m1n, zif_pm, zb1_k, zb2_k, zb3_k, zb4_k, zb5_k, zb6_k, zb7_k, zb8_k, zb9_k, zb10_k, zb11_k, zb12_k, zb14_k, zb21_k, zb22_k, zupd_eq, zupd_ne, zupl_eq, zupl_ne, zupf_eq, zupf_ne, r2, s2, zi2l, zL_mul, zjf_ne, zjf_nle]
  · rw [decide_eq_false (by omega), Bool.false_or, decide_eq_true c, Bool.true_and]
    by_cases d : zwlv o i = zwlv o j
    · rw [decide_eq_true d, Bool.true_and]
      by_cases e : zwls o i j = true
      · rw [if_pos e] at x3 ⊢
        simp (disch := omega) only [zl_0, zl_1, zl_2, zl_3, zl_4, zl_5, zl_6, zl_8, zl_9, zl_11, zl_12, zl_13, zl_16, zl_20, zl_23, zl_24, zl_30, zl_32, zl_40, zl_41, zl_43, zl_45, zl_50, zl_52, zl_60, zl_97, zl_99, zl_100, zl_124, zl_126, zl_127, zl_169, zl_170, zl_171, zl_195, zl_200, zl_201, zl_256, zl_261, zl_999, zl_1100, zl_1884, zl_4095, zl_4096, zd1, zd2, zs1, nI_add, pk_mul, zsb, zad1, zad2, zcl, zgI, zif_le, zif_nle, zif_lt, zif_nlt, zif_eq, zif_ne, zif_self, zif_T, zif_F, Nat.zero_add, Nat.add_sub_cancel, zn21, zn31, zif_m1, zif_m1l, zif_m1n, zif_pm, zb1_k, zb2_k, zb3_k, zb4_k, zb5_k, zb6_k, zb7_k, zb8_k, zb9_k, zb10_k, zb11_k, zb12_k, zb14_k, zb21_k, zb22_k, zupd_eq, zupd_ne, zupl_eq, zupl_ne, zupf_eq, zupf_ne, r2, s2, zi2l, zL_mul, zjf_eq, x1, x2, x3]
      · rw [if_neg e] at x3 ⊢
        simp (disch := omega) only [zl_0, zl_1, zl_2, zl_3, zl_4, zl_5, zl_6, zl_8, zl_9, zl_11, zl_12, zl_13, zl_16, zl_20, zl_23, zl_24, zl_30, zl_32, zl_40, zl_41, zl_43, zl_45, zl_50, zl_52, zl_60, zl_97, zl_99, zl_100, zl_124, zl_126, zl_127, zl_169, zl_170, zl_171, zl_195, zl_200, zl_201, zl_256, zl_261, zl_999, zl_1100, zl_1884, zl_4095, zl_4096, zd1, zd2, zs1, nI_add, pk_mul, zsb, zad1, zad2, zcl, zgI, zif_le, zif_nle, zif_lt, zif_nlt, zif_eq, zif_ne, zif_self, zif_T, zif_F, Nat.zero_add, Nat.add_sub_cancel, zn21, zn31, zif_m1, zif_m1l, zif_m1n, zif_pm, zb1_k, zb2_k, zb3_k, zb4_k, zb5_k, zb6_k, zb7_k, zb8_k, zb9_k, zb10_k, zb11_k, zb12_k, zb14_k, zb21_k, zb22_k, zupd_eq, zupd_ne, zupl_eq, zupl_ne, zupf_eq, zupf_ne, r2, s2, zi2l, zL_mul, zjf_eq, x1, x2, x3]
    · rw [decide_eq_false d, Bool.false_and, if_neg Bool.false_ne_true]
      simp (disch := omega) only [zl_0, zl_1, zl_2, zl_3, zl_4, zl_5, zl_6, zl_8, zl_9, zl_11, zl_12, zl_13, zl_16, zl_20, zl_23, zl_24, zl_30, zl_32, zl_40, zl_41, zl_43, zl_45, zl_50, zl_52, zl_60, zl_97, zl_99, zl_100, zl_124, zl_126, zl_127, zl_169, zl_170, zl_171, zl_195, zl_200, zl_201, zl_256, zl_261, zl_999, zl_1100, zl_1884, zl_4095, zl_4096, zd1, zd2, zs1, nI_add, pk_mul, zsb, zad1, zad2, zcl, zgI, zif_le, zif_nle, zif_lt, zif_nlt, zif_eq, zif_ne, zif_self, zif_T, zif_F, Nat.zero_add, Nat.add_sub_cancel, zn21, zn31, zif_m1, zif_m1l, zif_m1n, zif_pm, zb1_k, zb2_k, zb3_k, zb4_k, zb5_k, zb6_k, zb7_k, zb8_k, zb9_k, zb10_k, zb11_k, zb12_k, zb14_k, zb21_k, zb22_k, zupd_eq, zupd_ne, zupl_eq, zupl_ne, zupf_eq, zupf_ne, r2, s2, zi2l, zL_mul, zjf_eq, x1, x2]
  · rw [decide_eq_false (by omega), Bool.false_or, decide_eq_false (by omega), Bool.false_and, Bool.false_and, if_neg Bool.false_ne_true]
    simp (disch := omega) only [zl_0, zl_1, zl_2, zl_3, zl_4, zl_5, zl_6, zl_8, zl_9, zl_11, zl_12, zl_13, zl_16, zl_20, zl_23, zl_24, zl_30, zl_32, zl_40, zl_41, zl_43, zl_45, zl_50, zl_52, zl_60, zl_97, zl_99, zl_100, zl_124, zl_126, zl_127, zl_169, zl_170, zl_171, zl_195, zl_200, zl_201, zl_256, zl_261, zl_999, zl_1100, zl_1884, zl_4095, zl_4096, zd1, zd2, zs1, nI_add, pk_mul, zsb, zad1, zad2, zcl, zgI, zif_le, zif_nle, zif_lt, zif_nlt, zif_eq, zif_ne, zif_self, zif_T, zif_F, Nat.zero_add, Nat.add_sub_cancel, zn21, zn31, zif_m1, zif_m1l, zif_m1n, zif_pm, zb1_k, zb2_k, zb3_k, zb4_k, zb5_k, zb6_k, zb7_k, zb8_k, zb9_k, zb10_k, zb11_k, zb12_k, zb14_k, zb21_k, zb22_k, zupd_eq, zupd_ne, zupl_eq, zupl_ne, zupf_eq, zupf_ne, r2, s2, zi2l, zL_mul, zjf_ne, zjf_le]
theorem fx_nearL {o : Nat → Nat} {m n P Q : Nat} {sz lv lio : Int32} {bf tb st ab be kd fi se : Nat → Int32} (ho : ∀ s, s < 4 → o s ≤ 99) (h1 : 1 ≤ n) (hn : n ≤ m) (hm : m ≤ 4) (h : zwQx o m lv st ab be kd fi se) (p2 : P ≤ 999) (q2 : Q ≤ 999) : ∀ (d i fu : Nat) (r : Option Nat), i + d = zwb o (n + 1) → d < fu → (∀ j, r = some j → j < i) → fX7_nearestTo_L14 (nI P) (nI Q) (nI n) sz lv lio bf tb st ab be kd fi se fu (zopt r) (zwer o P Q r) (nI i) = some (zopt (zwnr o P Q d i r), sz, lv, lio, bf, tb, st, ab, be, kd, fi, se) := by
  have b5 := zwb_le ho (k := n + 1) (by omega) (by omega)
  have mo := zwb_mono ho (j := n + 1) (k := m + 1) (by omega) (by omega) (by omega)
  have x2 := h.2.1 (n + 1) (by omega) (by omega)
  intro d
  induction d with
  | zero =>
    intro i fu r hd hfu hr
    obtain ⟨fu, rfl⟩ : ∃ f, fu = f + 1 := ⟨fu - 1, by omega⟩
    rw [fX7_nearestTo_L14_s]
    simp (disch := omega) only [zl_0, zl_1, zl_2, zl_3, zl_4, zl_5, zl_6, zl_8, zl_9, zl_11, zl_12, zl_13, zl_16, zl_20, zl_23, zl_24, zl_30, zl_32, zl_40, zl_41, zl_43, zl_45, zl_50, zl_52, zl_60, zl_97, zl_99, zl_100, zl_124, zl_126, zl_127, zl_169, zl_170, zl_171, zl_195, zl_200, zl_201, zl_256, zl_261, zl_999, zl_1100, zl_1884, zl_4095, zl_4096, zd1, zd2, zs1, nI_add, pk_mul, zsb, zad1, zad2, zcl, zgI, zif_le, zif_nle, zif_lt, zif_nlt, zif_eq, zif_ne, zif_self, zif_T, zif_F, Nat.zero_add, Nat.add_sub_cancel, zn21, zn31, zif_m1, zif_m1l, zif_m1n, zif_pm, zb1_k, zb2_k, zb3_k, zb4_k, zb5_k, zb6_k, zb7_k, zb8_k, zb9_k, zb10_k, zb11_k, zb12_k, zb14_k, zb21_k, zb22_k, zupd_eq, zupd_ne, zupl_eq, zupl_ne, zupf_eq, zupf_ne, x2]
    rfl
  | succ d ih =>
    intro i fu r hd hfu hr
    obtain ⟨fu, rfl⟩ : ∃ f, fu = f + 1 := ⟨fu - 1, by omega⟩
    obtain ⟨e1, f1, w1, b1⟩ := zwls_v ho (i := i) (by omega)
    obtain ⟨r1, r2, _⟩ := h.2.2 i e1 (by omega) f1
    have o1 := zwof_b ho p2 q2 (i := i) (by omega)
    have bb1 := b1.2.1
    have bb2 := b1.2.2.2.1
    have ez : zwof o P Q i = e1.1.1 * Q - e1.1.2 * P + (e1.1.2 * P - e1.1.1 * Q) := by
      unfold zwof
      rw [w1]
    rw [w1] at o1
    have ea := zwabs1 (x := e1.1.1 * Q) (y := e1.1.2 * P) (by omega) (by omega)
    rw [← ez, zl64_0] at ea
    cases r with
    | none =>
      have hi := ih (i + 1) fu (some i) (by omega) (by omega) (fun j hj => by cases hj; omega)
      have e : zwnr o P Q (d + 1) i none = zwnr o P Q d (i + 1) (some i) := rfl
      rw [e, ← hi, fX7_nearestTo_L14_s, zopt_n]
      have z0 : (0 : Int64) = zL 0 := zl64_0
      simp (disch := omega) only [zl_0, zl_1, zl_2, zl_3, zl_4, zl_5, zl_6, zl_8, zl_9, zl_11, zl_12, zl_13, zl_16, zl_20, zl_23, zl_24, zl_30, zl_32, zl_40, zl_41, zl_43, zl_45, zl_50, zl_52, zl_60, zl_97, zl_99, zl_100, zl_124, zl_126, zl_127, zl_169, zl_170, zl_171, zl_195, zl_200, zl_201, zl_256, zl_261, zl_999, zl_1100, zl_1884, zl_4095, zl_4096, zd1, zd2, zs1, nI_add, pk_mul, zsb, zad1, zad2, zcl, zgI, zif_le, zif_nle, zif_lt, zif_nlt, zif_eq, zif_ne, zif_self, zif_T, zif_F, Nat.zero_add, Nat.add_sub_cancel, zn21, zn31, zif_m1, zif_m1l, zif_m1n, zif_pm, zb1_k, zb2_k, zb3_k, zb4_k, zb5_k, zb6_k, zb7_k, zb8_k, zb9_k, zb10_k, zb11_k, zb12_k, zb14_k, zb21_k, zb22_k, zupd_eq, zupd_ne, zupl_eq, zupl_ne, zupf_eq, zupf_ne, x2, r1, r2, zi2l, zL_mul, z0, ea, zopt_j]
      rfl
    | some j =>
      have hj := hr j rfl
      have hne := fx_isNearer ho (by omega) hm h p2 q2 (i := i) (j := j) (by omega) (by omega)
      have z0 : (0 : Int64) = zL 0 := zl64_0
      by_cases c : zwnb o P Q i j = true
      · have hi := ih (i + 1) fu (some i) (by omega) (by omega) (fun j hj => by cases hj; omega)
        have e : zwnr o P Q (d + 1) i (some j) = zwnr o P Q d (i + 1) (some i) := by
          show zwnr o P Q d (i + 1) (if zwnb o P Q i j = true then some i else some j) = _
          rw [if_pos c]
        rw [if_pos c] at hne
        rw [e, ← hi, fX7_nearestTo_L14_s, zopt_j]
        have w : zwer o P Q (some j) = zL (zwof o P Q j) := rfl
        simp (disch := omega) only [zl_0, zl_1, zl_2, zl_3, zl_4, zl_5, zl_6, zl_8, zl_9, zl_11, zl_12, zl_13, zl_16, zl_20, zl_23, zl_24, zl_30, zl_32, zl_40, zl_41, zl_43, zl_45, zl_50, zl_52, zl_60, zl_97, zl_99, zl_100, zl_124, zl_126, zl_127, zl_169, zl_170, zl_171, zl_195, zl_200, zl_201, zl_256, zl_261, zl_999, zl_1100, zl_1884, zl_4095, zl_4096, zd1, zd2, zs1, nI_add, pk_mul, zsb, zad1, zad2, zcl, zgI, zif_le, zif_nle, zif_lt, zif_nlt, zif_eq, zif_ne, zif_self, zif_T, zif_F, Nat.zero_add, Nat.add_sub_cancel, zn21, zn31, zif_m1, zif_m1l, zif_m1n, zif_pm, zb1_k, zb2_k, zb3_k, zb4_k, zb5_k, zb6_k, zb7_k, zb8_k, zb9_k, zb10_k, zb11_k, zb12_k, zb14_k, zb21_k, zb22_k, zupd_eq, zupd_ne, zupl_eq, zupl_ne, zupf_eq, zupf_ne, x2, r1, r2, zi2l, zL_mul, z0, ea, zopt_j, w, hne]
        rfl
      · have hi := ih (i + 1) fu (some j) (by omega) (by omega) (fun k hk => by cases hk; omega)
        have e : zwnr o P Q (d + 1) i (some j) = zwnr o P Q d (i + 1) (some j) := by
          show zwnr o P Q d (i + 1) (if zwnb o P Q i j = true then some i else some j) = _
          rw [if_neg c]
        rw [if_neg c] at hne
        rw [e, ← hi, fX7_nearestTo_L14_s, zopt_j]
        have w : zwer o P Q (some j) = zL (zwof o P Q j) := rfl
        simp (disch := omega) only [zl_0, zl_1, zl_2, zl_3, zl_4, zl_5, zl_6, zl_8, zl_9, zl_11, zl_12, zl_13, zl_16, zl_20, zl_23, zl_24, zl_30, zl_32, zl_40, zl_41, zl_43, zl_45, zl_50, zl_52, zl_60, zl_97, zl_99, zl_100, zl_124, zl_126, zl_127, zl_169, zl_170, zl_171, zl_195, zl_200, zl_201, zl_256, zl_261, zl_999, zl_1100, zl_1884, zl_4095, zl_4096, zd1, zd2, zs1, nI_add, pk_mul, zsb, zad1, zad2, zcl, zgI, zif_le, zif_nle, zif_lt, zif_nlt, zif_eq, zif_ne, zif_self, zif_T, zif_F, Nat.zero_add, Nat.add_sub_cancel, zn21, zn31, zif_m1, zif_m1l, zif_m1n, zif_pm, zb1_k, zb2_k, zb3_k, zb4_k, zb5_k, zb6_k, zb7_k, zb8_k, zb9_k, zb10_k, zb11_k, zb12_k, zb14_k, zb21_k, zb22_k, zupd_eq, zupd_ne, zupl_eq, zupl_ne, zupf_eq, zupf_ne, x2, r1, r2, zi2l, zL_mul, z0, ea, zopt_j, w, hne]
theorem fm_nearL {o : Nat → Nat} {n P Q : Nat} {many : Int32} {bg : Nat → Int32} {up dn : Nat → Int64} {how fst snd : Nat → Int32} (K : Int32 → Option (Int64 × Int64 × Int64 × Int32 × (Nat → Int32) × (Nat → Int64) × (Nat → Int64) × (Nat → Int32) × (Nat → Int32) × (Nat → Int32))) (ho : ∀ s, s < 4 → o s ≤ 99) (h1 : 1 ≤ n) (hn : n ≤ 4) (h : zwQm o n many bg up dn how fst snd) (p2 : P ≤ 999) (q2 : Q ≤ 999) : ∀ (d i fu : Nat) (r : Option Nat), i + d = zwb o (n + 1) → d < fu → (∀ j, r = some j → j < i) → fX11_nearest_L51 K (nI P) (nI Q) many bg up dn fu (zopt r) (zwer o P Q r) (nI i) = K (zopt (zwnr o P Q d i r)) := by
  have b5 := zwb_le ho (k := n + 1) (by omega) (by omega)
  have y1 := h.1
  intro d
  induction d with
  | zero =>
    intro i fu r hd hfu hr
    obtain ⟨fu, rfl⟩ : ∃ f, fu = f + 1 := ⟨fu - 1, by omega⟩
    rw [fX11_nearest_L51_s, y1, if_pos (nI_le (by omega) (by omega))]
    rfl
  | succ d ih =>
    intro i fu r hd hfu hr
    obtain ⟨fu, rfl⟩ : ∃ f, fu = f + 1 := ⟨fu - 1, by omega⟩
    obtain ⟨e1, f1, w1, b1⟩ := zwls_v ho (i := i) (by omega)
    obtain ⟨r1, r2, _⟩ := h.2.2 i e1 (by omega) f1
    have o1 := zwof_b ho p2 q2 (i := i) (by omega)
    have bb1 := b1.2.1
    have bb2 := b1.2.2.2.1
    have ez : zwof o P Q i = e1.1.1 * Q - e1.1.2 * P + (e1.1.2 * P - e1.1.1 * Q) := by
      unfold zwof
      rw [w1]
    rw [w1] at o1
    have n0 : ¬ nI i < 0 := nI_pos (by omega)
    have w0 : ¬ nI 1 = (0 : Int32) := by decide
    have step : fX11_nearest_L51 K (nI P) (nI Q) many bg up dn (fu + 1) (zopt r) (zwer o P Q r) (nI i) = fX11_nearest_J98 bg up dn (zopt r) (zwer o P Q r) (nI i) (fX11_nearest_L51 K (nI P) (nI Q) many bg up dn fu) (zL (zwof o P Q i)) := by
      rw [fX11_nearest_L51_s, y1, if_neg (nI_ge (by omega) (by omega)), zgI (by omega) (by omega), zgI (by omega) (by omega), zcl (by omega), r1, r2, zi2l (by omega), zi2l (by omega), zL_mul, zL_mul, Nat.mul_comm P, ez]
      exact zwabs2 (fun t => fX11_nearest_J98 bg up dn (zopt r) (zwer o P Q r) (nI i) (fX11_nearest_L51 K (nI P) (nI Q) (nI (zwb o (n + 1))) bg up dn fu) t) (by omega) (by omega)
    rw [step]
    cases r with
    | none =>
      have hi := ih (i + 1) fu (some i) (by omega) (by omega) (fun j hj => by cases hj; omega)
      have e : zwnr o P Q (d + 1) i none = zwnr o P Q d (i + 1) (some i) := rfl
      have m0 : (-nI 1 : Int32) < 0 := by decide
      rw [e, ← hi, zopt_n]
      unfold fX11_nearest_J98 fX11_nearest_J134 fX11_nearest_J175 fX11_nearest_J241 fX11_nearest_J255
      rw [if_pos m0, if_pos m0, zl_1, if_neg w0, if_neg w0, if_neg w0, nI_add]
      rfl
    | some j =>
      have hj := hr j rfl
      obtain ⟨e2, f2, w2, b2⟩ := zwls_v ho (i := j) (by omega)
      obtain ⟨s1, s2, _⟩ := h.2.2 j e2 (by omega) f2
      have o2 := zwof_b ho p2 q2 (i := j) (by omega)
      rw [w2] at o2
      have bb3 := b2.2.2.2.1
      have w : zwer o P Q (some j) = zL (zwof o P Q j) := rfl
      have l1 := fm_less (a := zwof o P Q i) (b := e1.1.2) (c := zwof o P Q j) (d := e2.1.2) ⟨by omega, by omega, Or.inr b1.2.2.1⟩ ⟨by omega, by omega, Or.inr b2.2.2.1⟩
      have l2 := fm_less (a := zwof o P Q j) (b := e2.1.2) (c := zwof o P Q i) (d := e1.1.2) ⟨by omega, by omega, Or.inr b2.2.2.1⟩ ⟨by omega, by omega, Or.inr b1.2.2.1⟩
      have x1 := fm_partsOfR ho h h1 hn (i := i) (by omega)
      have x2 := fm_partsOfR ho h h1 hn (i := j) (by omega)
      have x3 := fm_isLessR ho hn h (x := i) (y := j) (by omega) (by omega)
      have lv1 := (zwlv_s ho (i := i) (by omega)).2.1
      have lv2 := (zwlv_s ho (i := j) (by omega)).2.1
      have nj : ¬ nI j < 0 := nI_pos (by omega)
      have eb : zwnb o P Q i j = (decide (zwof o P Q i * e2.1.2 < zwof o P Q j * e1.1.2) || (decide (zwof o P Q i * e2.1.2 = zwof o P Q j * e1.1.2) && decide (zwlv o i = zwlv o j) && zwls o i j)) := by
        unfold zwnb
        rw [w1, w2]
      have T : zwnb o P Q i j = true → fX11_nearest_J241 (nI j) (zL (zwof o P Q j)) (nI i) (fX11_nearest_L51 K (nI P) (nI Q) many bg up dn fu) (zL (zwof o P Q i)) (nI 1) = K (zopt (zwnr o P Q (d + 1) i (some j))) := by
        intro c
        have hi := ih (i + 1) fu (some i) (by omega) (by omega) (fun j hj => by cases hj; omega)
        have e : zwnr o P Q (d + 1) i (some j) = zwnr o P Q d (i + 1) (some i) := by
          show zwnr o P Q d (i + 1) (if zwnb o P Q i j = true then some i else some j) = _
          rw [if_pos c]
        rw [e, ← hi]
        unfold fX11_nearest_J241 fX11_nearest_J255
        rw [if_neg w0, if_neg w0, zl_1, nI_add]
        rfl
      have F : ¬ zwnb o P Q i j = true → fX11_nearest_J241 (nI j) (zL (zwof o P Q j)) (nI i) (fX11_nearest_L51 K (nI P) (nI Q) many bg up dn fu) (zL (zwof o P Q i)) (nI 0) = K (zopt (zwnr o P Q (d + 1) i (some j))) := by
        intro c
        have hi := ih (i + 1) fu (some j) (by omega) (by omega) (fun k hk => by cases hk; omega)
        have e : zwnr o P Q (d + 1) i (some j) = zwnr o P Q d (i + 1) (some j) := by
          show zwnr o P Q d (i + 1) (if zwnb o P Q i j = true then some i else some j) = _
          rw [if_neg c]
        rw [e, ← hi]
        unfold fX11_nearest_J241 fX11_nearest_J255
        have w00 : nI 0 = (0 : Int32) := by decide
        rw [if_pos w00, if_pos w00, zl_1, nI_add]
        rfl
      rw [w, zopt_j]
      have st98 : ∀ u : Nat, (if zwof o P Q i * e2.1.2 < zwof o P Q j * e1.1.2 then nI 1 else nI 0) = nI u → u ≤ 1 → fX11_nearest_J98 bg up dn (nI j) (zL (zwof o P Q j)) (nI i) (fX11_nearest_L51 K (nI P) (nI Q) many bg up dn fu) (zL (zwof o P Q i)) = fX11_nearest_J134 bg up dn (nI j) (zL (zwof o P Q j)) (nI i) (fX11_nearest_L51 K (nI P) (nI Q) many bg up dn fu) (zL (zwof o P Q i)) (nI u) := by
        intro u hu hu1
        rw [hu] at l1
        unfold fX11_nearest_J98
        have cu : u = 0 ∨ u = 1 := by omega
        rcases cu with rfl | rfl <;> simp (disch := omega) only [zl_0, zl_1, zl_2, zl_3, zl_4, zl_5, zl_6, zl_8, zl_9, zl_11, zl_12, zl_13, zl_16, zl_20, zl_23, zl_24, zl_30, zl_32, zl_40, zl_41, zl_43, zl_45, zl_50, zl_52, zl_60, zl_97, zl_99, zl_100, zl_124, zl_126, zl_127, zl_169, zl_170, zl_171, zl_195, zl_200, zl_201, zl_256, zl_261, zl_999, zl_1100, zl_1884, zl_4095, zl_4096, zd1, zd2, zs1, nI_add, pk_mul, zsb, zad1, zad2, zcl, zgI, zif_le, zif_nle, zif_lt, zif_nlt, zif_eq, zif_ne, zif_self, zif_T, zif_F, Nat.zero_add, Nat.add_sub_cancel, zn21, zn31, zif_m1, zif_m1l, zif_m1n, zif_pm, zb1_k, zb2_k, zb3_k, zb4_k, zb5_k, zb6_k, zb7_k, zb8_k, zb9_k, zb10_k, zb11_k, zb12_k, zb14_k, zb21_k, zb22_k, zupd_eq, zupd_ne, zupl_eq, zupl_ne, zupf_eq, zupf_ne, r2, s2, l1]
      rcases Nat.lt_trichotomy (zwof o P Q i * e2.1.2) (zwof o P Q j * e1.1.2) with c | c | c
      · have cb : zwnb o P Q i j = true := by rw [eb, decide_eq_true c, Bool.true_or]
        rw [st98 1 (if_pos c) (Nat.le_refl _), ← T cb]
        unfold fX11_nearest_J134
        simp (disch := omega) only [zl_0, zl_1, zl_2, zl_3, zl_4, zl_5, zl_6, zl_8, zl_9, zl_11, zl_12, zl_13, zl_16, zl_20, zl_23, zl_24, zl_30, zl_32, zl_40, zl_41, zl_43, zl_45, zl_50, zl_52, zl_60, zl_97, zl_99, zl_100, zl_124, zl_126, zl_127, zl_169, zl_170, zl_171, zl_195, zl_200, zl_201, zl_256, zl_261, zl_999, zl_1100, zl_1884, zl_4095, zl_4096, zd1, zd2, zs1, nI_add, pk_mul, zsb, zad1, zad2, zcl, zgI, zif_le, zif_nle, zif_lt, zif_nlt, zif_eq, zif_ne, zif_self, zif_T, zif_F, Nat.zero_add, Nat.add_sub_cancel, zn21, zn31, zif_m1, zif_m1l, zif_m1n, zif_pm, zb1_k, zb2_k, zb3_k, zb4_k, zb5_k, zb6_k, zb7_k, zb8_k, zb9_k, zb10_k, zb11_k, zb12_k, zb14_k, zb21_k, zb22_k, zupd_eq, zupd_ne, zupl_eq, zupl_ne, zupf_eq, zupf_ne]
        unfold fX11_nearest_J175
        simp (disch := omega) only [zl_0, zl_1, zl_2, zl_3, zl_4, zl_5, zl_6, zl_8, zl_9, zl_11, zl_12, zl_13, zl_16, zl_20, zl_23, zl_24, zl_30, zl_32, zl_40, zl_41, zl_43, zl_45, zl_50, zl_52, zl_60, zl_97, zl_99, zl_100, zl_124, zl_126, zl_127, zl_169, zl_170, zl_171, zl_195, zl_200, zl_201, zl_256, zl_261, zl_999, zl_1100, zl_1884, zl_4095, zl_4096, zd1, zd2, zs1, nI_add, pk_mul, zsb, zad1, zad2, zcl, zgI, zif_le, zif_nle, zif_lt, zif_nlt, zif_eq, zif_ne, zif_self, zif_T, zif_F, Nat.zero_add, Nat.add_sub_cancel, zn21, zn31, zif_m1, zif_m1l, zif_m1n, zif_pm, zb1_k, zb2_k, zb3_k, zb4_k, zb5_k, zb6_k, zb7_k, zb8_k, zb9_k, zb10_k, zb11_k, zb12_k, zb14_k, zb21_k, zb22_k, zupd_eq, zupd_ne, zupl_eq, zupl_ne, zupf_eq, zupf_ne]
      · have lt1 : ¬ zwof o P Q i * e2.1.2 < zwof o P Q j * e1.1.2 := by omega
        have lt2 : ¬ zwof o P Q j * e1.1.2 < zwof o P Q i * e2.1.2 := by omega
        rw [if_neg lt2] at l2
        rw [st98 0 (if_neg lt1) (by omega)]
        unfold fX11_nearest_J134
        simp (disch := omega) only [zl_0, zl_1, zl_2, zl_3, zl_4, zl_5, zl_6, zl_8, zl_9, zl_11, zl_12, zl_13, zl_16, zl_20, zl_23, zl_24, zl_30, zl_32, zl_40, zl_41, zl_43, zl_45, zl_50, zl_52, zl_60, zl_97, zl_99, zl_100, zl_124, zl_126, zl_127, zl_169, zl_170, zl_171, zl_195, zl_200, zl_201, zl_256, zl_261, zl_999, zl_1100, zl_1884, zl_4095, zl_4096, zd1, zd2, zs1, nI_add, pk_mul, zsb, zad1, zad2, zcl, zgI, zif_le, zif_nle, zif_lt, zif_nlt, zif_eq, zif_ne, zif_self, zif_T, zif_F, Nat.zero_add, Nat.add_sub_cancel, zn21, zn31, zif_m1, zif_m1l, zif_m1n, zif_pm, zb1_k, zb2_k, zb3_k, zb4_k, zb5_k, zb6_k, zb7_k, zb8_k, zb9_k, zb10_k, zb11_k, zb12_k, zb14_k, zb21_k, zb22_k, zupd_eq, zupd_ne, zupl_eq, zupl_ne, zupf_eq, zupf_ne, r2, s2, l2]
        unfold fX11_nearest_J175
        by_cases dl : zwlv o i = zwlv o j
        · by_cases e : zwls o i j = true
          · have cb : zwnb o P Q i j = true := by rw [eb, decide_eq_false lt1, decide_eq_true c, decide_eq_true dl, e]; rfl
            rw [if_pos e, r1, r2, s1, s2] at x3
            rw [← T cb]
            simp (disch := omega) only [zl_0, zl_1, zl_2, zl_3, zl_4, zl_5, zl_6, zl_8, zl_9, zl_11, zl_12, zl_13, zl_16, zl_20, zl_23, zl_24, zl_30, zl_32, zl_40, zl_41, zl_43, zl_45, zl_50, zl_52, zl_60, zl_97, zl_99, zl_100, zl_124, zl_126, zl_127, zl_169, zl_170, zl_171, zl_195, zl_200, zl_201, zl_256, zl_261, zl_999, zl_1100, zl_1884, zl_4095, zl_4096, zd1, zd2, zs1, nI_add, pk_mul, zsb, zad1, zad2, zcl, zgI, zif_le, zif_nle, zif_lt, zif_nlt, zif_eq, zif_ne, zif_self, zif_T, zif_F, Nat.zero_add, Nat.add_sub_cancel, zn21, zn31, zif_m1, zif_m1l, zif_m1n, zif_pm, zb1_k, zb2_k, zb3_k, zb4_k, zb5_k, zb6_k, zb7_k, zb8_k, zb9_k, zb10_k, zb11_k, zb12_k, zb14_k, zb21_k, zb22_k, zupd_eq, zupd_ne, zupl_eq, zupl_ne, zupf_eq, zupf_ne, x1, x2, r1, r2, s1, s2, x3]
          · have cb : ¬ zwnb o P Q i j = true := by rw [eb, decide_eq_false lt1, decide_eq_true c, decide_eq_true dl, eq_false_of_ne_true e]; decide
            rw [if_neg e, r1, r2, s1, s2] at x3
            rw [← F cb]
            simp (disch := omega) only [zl_0, zl_1, zl_2, zl_3, zl_4, zl_5, zl_6, zl_8, zl_9, zl_11, zl_12, zl_13, zl_16, zl_20, zl_23, zl_24, zl_30, zl_32, zl_40, zl_41, zl_43, zl_45, zl_50, zl_52, zl_60, zl_97, zl_99, zl_100, zl_124, zl_126, zl_127, zl_169, zl_170, zl_171, zl_195, zl_200, zl_201, zl_256, zl_261, zl_999, zl_1100, zl_1884, zl_4095, zl_4096, zd1, zd2, zs1, nI_add, pk_mul, zsb, zad1, zad2, zcl, zgI, zif_le, zif_nle, zif_lt, zif_nlt, zif_eq, zif_ne, zif_self, zif_T, zif_F, Nat.zero_add, Nat.add_sub_cancel, zn21, zn31, zif_m1, zif_m1l, zif_m1n, zif_pm, zb1_k, zb2_k, zb3_k, zb4_k, zb5_k, zb6_k, zb7_k, zb8_k, zb9_k, zb10_k, zb11_k, zb12_k, zb14_k, zb21_k, zb22_k, zupd_eq, zupd_ne, zupl_eq, zupl_ne, zupf_eq, zupf_ne, x1, x2, r1, r2, s1, s2, x3]
        · have cb : ¬ zwnb o P Q i j = true := by rw [eb, decide_eq_false lt1, decide_eq_true c, decide_eq_false dl]; exact Bool.false_ne_true
          rw [← F cb]
          simp (disch := omega) only [zl_0, zl_1, zl_2, zl_3, zl_4, zl_5, zl_6, zl_8, zl_9, zl_11, zl_12, zl_13, zl_16, zl_20, zl_23, zl_24, zl_30, zl_32, zl_40, zl_41, zl_43, zl_45, zl_50, zl_52, zl_60, zl_97, zl_99, zl_100, zl_124, zl_126, zl_127, zl_169, zl_170, zl_171, zl_195, zl_200, zl_201, zl_256, zl_261, zl_999, zl_1100, zl_1884, zl_4095, zl_4096, zd1, zd2, zs1, nI_add, pk_mul, zsb, zad1, zad2, zcl, zgI, zif_le, zif_nle, zif_lt, zif_nlt, zif_eq, zif_ne, zif_self, zif_T, zif_F, Nat.zero_add, Nat.add_sub_cancel, zn21, zn31, zif_m1, zif_m1l, zif_m1n, zif_pm, zb1_k, zb2_k, zb3_k, zb4_k, zb5_k, zb6_k, zb7_k, zb8_k, zb9_k, zb10_k, zb11_k, zb12_k, zb14_k, zb21_k, zb22_k, zupd_eq, zupd_ne, zupl_eq, zupl_ne, zupf_eq, zupf_ne, x1, x2]
      · have lt1 : ¬ zwof o P Q i * e2.1.2 < zwof o P Q j * e1.1.2 := by omega
        have ne1 : ¬ zwof o P Q i * e2.1.2 = zwof o P Q j * e1.1.2 := by omega
        have cb : ¬ zwnb o P Q i j = true := by rw [eb, decide_eq_false lt1, decide_eq_false ne1]; exact Bool.false_ne_true
        rw [if_pos c] at l2
        rw [st98 0 (if_neg lt1) (by omega), ← F cb]
        unfold fX11_nearest_J134
        simp (disch := omega) only [zl_0, zl_1, zl_2, zl_3, zl_4, zl_5, zl_6, zl_8, zl_9, zl_11, zl_12, zl_13, zl_16, zl_20, zl_23, zl_24, zl_30, zl_32, zl_40, zl_41, zl_43, zl_45, zl_50, zl_52, zl_60, zl_97, zl_99, zl_100, zl_124, zl_126, zl_127, zl_169, zl_170, zl_171, zl_195, zl_200, zl_201, zl_256, zl_261, zl_999, zl_1100, zl_1884, zl_4095, zl_4096, zd1, zd2, zs1, nI_add, pk_mul, zsb, zad1, zad2, zcl, zgI, zif_le, zif_nle, zif_lt, zif_nlt, zif_eq, zif_ne, zif_self, zif_T, zif_F, Nat.zero_add, Nat.add_sub_cancel, zn21, zn31, zif_m1, zif_m1l, zif_m1n, zif_pm, zb1_k, zb2_k, zb3_k, zb4_k, zb5_k, zb6_k, zb7_k, zb8_k, zb9_k, zb10_k, zb11_k, zb12_k, zb14_k, zb21_k, zb22_k, zupd_eq, zupd_ne, zupl_eq, zupl_ne, zupf_eq, zupf_ne, r2, s2, l2]
        unfold fX11_nearest_J175
        simp (disch := omega) only [zl_0, zl_1, zl_2, zl_3, zl_4, zl_5, zl_6, zl_8, zl_9, zl_11, zl_12, zl_13, zl_16, zl_20, zl_23, zl_24, zl_30, zl_32, zl_40, zl_41, zl_43, zl_45, zl_50, zl_52, zl_60, zl_97, zl_99, zl_100, zl_124, zl_126, zl_127, zl_169, zl_170, zl_171, zl_195, zl_200, zl_201, zl_256, zl_261, zl_999, zl_1100, zl_1884, zl_4095, zl_4096, zd1, zd2, zs1, nI_add, pk_mul, zsb, zad1, zad2, zcl, zgI, zif_le, zif_nle, zif_lt, zif_nlt, zif_eq, zif_ne, zif_self, zif_T, zif_F, Nat.zero_add, Nat.add_sub_cancel, zn21, zn31, zif_m1, zif_m1l, zif_m1n, zif_pm, zb1_k, zb2_k, zb3_k, zb4_k, zb5_k, zb6_k, zb7_k, zb8_k, zb9_k, zb10_k, zb11_k, zb12_k, zb14_k, zb21_k, zb22_k, zupd_eq, zupd_ne, zupl_eq, zupl_ne, zupf_eq, zupf_ne]
theorem q_nearest {k : Nat} : zQ_nearest (zR zwFd) k := by
  intro xs ms h p1 p2 p3 p4
  have h0 := h
  obtain ⟨a, hv, hx, hm, hI, hT, O, m, hO, hm4, hbf, hrp, hok⟩ := h
  have hB := hx.1
  have ho : ∀ s, s < 4 → a s ≤ 99 := fun s hs => (hv.1 s hs).1
  have i1 : ∀ r : Int32, fX11_in r.toInt64 (1 : Int64) (4 : Int64) = fX10_isIn r (nI 1) (nI 4) := fun r => zinM r (by decide) (by decide)
  have i2 : ∀ r : Int32, fX11_in r.toInt64 (0 : Int64) (2 : Int64) = fX10_isIn r (nI 0) (nI 2) := fun r => zinM r (by decide) (by decide)
  rcases zwish p1 p2 with ⟨g1, g2⟩ | ⟨P, Q, w1, w2, w3, w4, rfl, rfl, g1, g2⟩
  · refine zfin0 (-9223372036854775808 : Int64) h0 ?_ ?_
    · simp (disch := omega) only [stX10_nearest, fX10_nearest, zl_0, zl_1, zl_2, zl_3, zl_4, zl_5, zl_6, zl_8, zl_9, zl_11, zl_12, zl_13, zl_16, zl_20, zl_23, zl_24, zl_30, zl_32, zl_40, zl_41, zl_43, zl_45, zl_50, zl_52, zl_60, zl_97, zl_99, zl_100, zl_124, zl_126, zl_127, zl_169, zl_170, zl_171, zl_195, zl_200, zl_201, zl_256, zl_261, zl_999, zl_1100, zl_1884, zl_4095, zl_4096, zd1, zd2, zs1, nI_add, pk_mul, zsb, zad1, zad2, zcl, zgI, zif_le, zif_nle, zif_lt, zif_nlt, zif_eq, zif_ne, zif_self, zif_T, zif_F, Nat.zero_add, Nat.add_sub_cancel, zn21, zn31, zif_m1, zif_m1l, zif_m1n, zif_pm, zb1_k, zb2_k, zb3_k, zb4_k, zb5_k, zb6_k, zb7_k, zb8_k, zb9_k, zb10_k, zb11_k, zb12_k, zb14_k, zb21_k, zb22_k, zupd_eq, zupd_ne, zupl_eq, zupl_ne, zupf_eq, zupf_ne, g1]
      (try rfl)
    · simp (disch := omega) only [stX11_nearest, fX11_nearest, zl_0, zl_1, zl_2, zl_3, zl_4, zl_5, zl_6, zl_8, zl_9, zl_11, zl_12, zl_13, zl_16, zl_20, zl_23, zl_24, zl_30, zl_32, zl_40, zl_41, zl_43, zl_45, zl_50, zl_52, zl_60, zl_97, zl_99, zl_100, zl_124, zl_126, zl_127, zl_169, zl_170, zl_171, zl_195, zl_200, zl_201, zl_256, zl_261, zl_999, zl_1100, zl_1884, zl_4095, zl_4096, zd1, zd2, zs1, nI_add, pk_mul, zsb, zad1, zad2, zcl, zgI, zif_le, zif_nle, zif_lt, zif_nlt, zif_eq, zif_ne, zif_self, zif_T, zif_F, Nat.zero_add, Nat.add_sub_cancel, zn21, zn31, zif_m1, zif_m1l, zif_m1n, zif_pm, zb1_k, zb2_k, zb3_k, zb4_k, zb5_k, zb6_k, zb7_k, zb8_k, zb9_k, zb10_k, zb11_k, zb12_k, zb14_k, zb21_k, zb22_k, zupd_eq, zupd_ne, zupl_eq, zupl_ne, zupf_eq, zupf_ne, g2]
      (try rfl)
  rcases zrg p3 1 4 (by decide) (by decide) with f1 | ⟨n, n1, n2, rfl, f1⟩
  · refine zfin0 (-9223372036854775808 : Int64) h0 ?_ ?_
    · simp (disch := omega) only [stX10_nearest, fX10_nearest, zl_0, zl_1, zl_2, zl_3, zl_4, zl_5, zl_6, zl_8, zl_9, zl_11, zl_12, zl_13, zl_16, zl_20, zl_23, zl_24, zl_30, zl_32, zl_40, zl_41, zl_43, zl_45, zl_50, zl_52, zl_60, zl_97, zl_99, zl_100, zl_124, zl_126, zl_127, zl_169, zl_170, zl_171, zl_195, zl_200, zl_201, zl_256, zl_261, zl_999, zl_1100, zl_1884, zl_4095, zl_4096, zd1, zd2, zs1, nI_add, pk_mul, zsb, zad1, zad2, zcl, zgI, zif_le, zif_nle, zif_lt, zif_nlt, zif_eq, zif_ne, zif_self, zif_T, zif_F, Nat.zero_add, Nat.add_sub_cancel, zn21, zn31, zif_m1, zif_m1l, zif_m1n, zif_pm, zb1_k, zb2_k, zb3_k, zb4_k, zb5_k, zb6_k, zb7_k, zb8_k, zb9_k, zb10_k, zb11_k, zb12_k, zb14_k, zb21_k, zb22_k, zupd_eq, zupd_ne, zupl_eq, zupl_ne, zupf_eq, zupf_ne, g1, f1]
      (try rfl)
    · simp (disch := omega) only [stX11_nearest, fX11_nearest, zl_0, zl_1, zl_2, zl_3, zl_4, zl_5, zl_6, zl_8, zl_9, zl_11, zl_12, zl_13, zl_16, zl_20, zl_23, zl_24, zl_30, zl_32, zl_40, zl_41, zl_43, zl_45, zl_50, zl_52, zl_60, zl_97, zl_99, zl_100, zl_124, zl_126, zl_127, zl_169, zl_170, zl_171, zl_195, zl_200, zl_201, zl_256, zl_261, zl_999, zl_1100, zl_1884, zl_4095, zl_4096, zd1, zd2, zs1, nI_add, pk_mul, zsb, zad1, zad2, zcl, zgI, zif_le, zif_nle, zif_lt, zif_nlt, zif_eq, zif_ne, zif_self, zif_T, zif_F, Nat.zero_add, Nat.add_sub_cancel, zn21, zn31, zif_m1, zif_m1l, zif_m1n, zif_pm, zb1_k, zb2_k, zb3_k, zb4_k, zb5_k, zb6_k, zb7_k, zb8_k, zb9_k, zb10_k, zb11_k, zb12_k, zb14_k, zb21_k, zb22_k, zupd_eq, zupd_ne, zupl_eq, zupl_ne, zupf_eq, zupf_ne, g2, i1, f1]
      (try rfl)
  rcases zrg p4 0 2 (by decide) (by decide) with f3 | ⟨w, _, wl, rfl, f3⟩
  · refine zfin0 (-9223372036854775808 : Int64) h0 ?_ ?_
    · simp (disch := omega) only [stX10_nearest, fX10_nearest, zl_0, zl_1, zl_2, zl_3, zl_4, zl_5, zl_6, zl_8, zl_9, zl_11, zl_12, zl_13, zl_16, zl_20, zl_23, zl_24, zl_30, zl_32, zl_40, zl_41, zl_43, zl_45, zl_50, zl_52, zl_60, zl_97, zl_99, zl_100, zl_124, zl_126, zl_127, zl_169, zl_170, zl_171, zl_195, zl_200, zl_201, zl_256, zl_261, zl_999, zl_1100, zl_1884, zl_4095, zl_4096, zd1, zd2, zs1, nI_add, pk_mul, zsb, zad1, zad2, zcl, zgI, zif_le, zif_nle, zif_lt, zif_nlt, zif_eq, zif_ne, zif_self, zif_T, zif_F, Nat.zero_add, Nat.add_sub_cancel, zn21, zn31, zif_m1, zif_m1l, zif_m1n, zif_pm, zb1_k, zb2_k, zb3_k, zb4_k, zb5_k, zb6_k, zb7_k, zb8_k, zb9_k, zb10_k, zb11_k, zb12_k, zb14_k, zb21_k, zb22_k, zupd_eq, zupd_ne, zupl_eq, zupl_ne, zupf_eq, zupf_ne, g1, f1, f3]
      (try rfl)
    · simp (disch := omega) only [stX11_nearest, fX11_nearest, zl_0, zl_1, zl_2, zl_3, zl_4, zl_5, zl_6, zl_8, zl_9, zl_11, zl_12, zl_13, zl_16, zl_20, zl_23, zl_24, zl_30, zl_32, zl_40, zl_41, zl_43, zl_45, zl_50, zl_52, zl_60, zl_97, zl_99, zl_100, zl_124, zl_126, zl_127, zl_169, zl_170, zl_171, zl_195, zl_200, zl_201, zl_256, zl_261, zl_999, zl_1100, zl_1884, zl_4095, zl_4096, zd1, zd2, zs1, nI_add, pk_mul, zsb, zad1, zad2, zcl, zgI, zif_le, zif_nle, zif_lt, zif_nlt, zif_eq, zif_ne, zif_self, zif_T, zif_F, Nat.zero_add, Nat.add_sub_cancel, zn21, zn31, zif_m1, zif_m1l, zif_m1n, zif_pm, zb1_k, zb2_k, zb3_k, zb4_k, zb5_k, zb6_k, zb7_k, zb8_k, zb9_k, zb10_k, zb11_k, zb12_k, zb14_k, zb21_k, zb22_k, zupd_eq, zupd_ne, zupl_eq, zupl_ne, zupf_eq, zupf_ne, g2, i1, i2, f1, f3]
      (try rfl)
  obtain ⟨m', sz', lv', lio', bf', tb', st', ab', be', kd', fi', se', b1, b2, b3, b4, b5, b6⟩ := fx_build hO hbf hB hv.1 hm4 n2 hrp
  obtain ⟨c', e', many', bg', up', dn', how', fst', snd', q1, q2⟩ := fm_lay hm hv.1 n1 n2 (m_above ms) (m_below ms) (m_reachMany ms) (m_begins ms) (m_reachUp ms) (m_reachDown ms) (m_reachHow ms) (m_reachFirst ms) (m_reachSecond ms)
  have W1 := zwQx_o b4 b2
  have W2 := zwQm_o n2 q2
  have mo2 := zwb_mono ho (j := n + 1) (k := m' + 1) (by omega) (by omega) (by omega)
  have bl := zwb_le ho (k := n + 1) (by omega) (by omega)
  have hf : zwFd (sz', lv', lio', ab', be', kd', fi', se', x_found_order xs, x_found_merged xs, tb', st', bf') := ⟨a, m', ho, b4, b5, b2, zwOk_b hok b6⟩
  have L := fx_nearL (sz := sz') (lio := lio') (bf := bf') (tb := tb') ho n1 b3 b4 W1 w2 w4 (zwb a (n + 1)) 0 5000 none (by omega) (by omega) (fun j hj => by cases hj)
  have M := fm_nearL (fX11_nearest_J277 (nI w) c' e' many' bg' up' dn' how' fst' snd') ho n1 n2 W2 w2 w4 (zwb a (n + 1)) 0 5000 none (by omega) (by omega) (fun j hj => by cases hj)
  have w0 : ¬ nI 1 = (0 : Int32) := by decide
  have X : fX7_nearestTo (nI P) (nI Q) (nI n) (x_found_size xs) (x_found_levels xs) (x_found_levelsInOrder xs) (x_found_builtFor xs) (x_box_ohms xs) (x_found_table xs) (x_found_start xs) (x_found_above xs) (x_found_below xs) (x_found_kind xs) (x_found_first xs) (x_found_second xs) = some (zopt (zwnr a P Q (zwb a (n + 1)) 0 none), sz', lv', lio', bf', tb', st', ab', be', kd', fi', se') := by
    unfold fX7_nearestTo
    rw [b1, zb11_k, zl_1, zl64_0, zl_0]
    exact L
  have Y : fX11_nearest (nI P) (nI Q) (nI n) (nI w) (m_above ms) (m_below ms) (m_reachMany ms) (m_begins ms) (m_now ms) (m_reachUp ms) (m_reachDown ms) (m_reachHow ms) (m_reachFirst ms) (m_reachSecond ms) = fX11_nearest_J277 (nI w) c' e' many' bg' up' dn' how' fst' snd' (zopt (zwnr a P Q (zwb a (n + 1)) 0 none)) := by
    unfold fX11_nearest
    rw [g2, zb1_k, if_neg w0, i1, f1, zb1_k, if_neg w0, i2, f3, zb1_k, if_neg w0, q1, zb9_k, ← M, zl_1, zl64_0]
    rfl
  obtain ⟨v1, v2⟩ := zwnr_v a P Q (zwb a (n + 1)) (zwb a (n + 1)) 0 none (by omega) (fun j hj => by cases hj)
  clear L M
  cases hz : zwnr a P Q (zwb a (n + 1)) 0 none with
  | none =>
    rw [hz, zopt_n] at X Y
    have n0 : ¬ (nI 0 ≤ -nI 1) := by decide
    refine zfinF (-2 : Int64) _ h0 hf ?_ ?_
    · simp (disch := omega) only [stX10_nearest, fX10_nearest, zl_0, zl_1, zl_2, zl_3, zl_4, zl_5, zl_6, zl_8, zl_9, zl_11, zl_12, zl_13, zl_16, zl_20, zl_23, zl_24, zl_30, zl_32, zl_40, zl_41, zl_43, zl_45, zl_50, zl_52, zl_60, zl_97, zl_99, zl_100, zl_124, zl_126, zl_127, zl_169, zl_170, zl_171, zl_195, zl_200, zl_201, zl_256, zl_261, zl_999, zl_1100, zl_1884, zl_4095, zl_4096, zd1, zd2, zs1, nI_add, pk_mul, zsb, zad1, zad2, zcl, zgI, zif_le, zif_nle, zif_lt, zif_nlt, zif_eq, zif_ne, zif_self, zif_T, zif_F, Nat.zero_add, Nat.add_sub_cancel, zn21, zn31, zif_m1, zif_m1l, zif_m1n, zif_pm, zb1_k, zb2_k, zb3_k, zb4_k, zb5_k, zb6_k, zb7_k, zb8_k, zb9_k, zb10_k, zb11_k, zb12_k, zb14_k, zb21_k, zb22_k, zupd_eq, zupd_ne, zupl_eq, zupl_ne, zupf_eq, zupf_ne, g1, f1, f3, X]
    · simp (disch := omega) only [stX11_nearest, zl_0, zl_1, zl_2, zl_3, zl_4, zl_5, zl_6, zl_8, zl_9, zl_11, zl_12, zl_13, zl_16, zl_20, zl_23, zl_24, zl_30, zl_32, zl_40, zl_41, zl_43, zl_45, zl_50, zl_52, zl_60, zl_97, zl_99, zl_100, zl_124, zl_126, zl_127, zl_169, zl_170, zl_171, zl_195, zl_200, zl_201, zl_256, zl_261, zl_999, zl_1100, zl_1884, zl_4095, zl_4096, zd1, zd2, zs1, nI_add, pk_mul, zsb, zad1, zad2, zcl, zgI, zif_le, zif_nle, zif_lt, zif_nlt, zif_eq, zif_ne, zif_self, zif_T, zif_F, Nat.zero_add, Nat.add_sub_cancel, zn21, zn31, zif_m1, zif_m1l, zif_m1n, zif_pm, zb1_k, zb2_k, zb3_k, zb4_k, zb5_k, zb6_k, zb7_k, zb8_k, zb9_k, zb10_k, zb11_k, zb12_k, zb14_k, zb21_k, zb22_k, zupd_eq, zupd_ne, zupl_eq, zupl_ne, zupf_eq, zupf_ne, Y, fX11_nearest_J277, zfn n0]
      exact ⟨_, rfl, rfl, rfl, rfl, rfl, rfl⟩
  | some x =>
    rw [hz, zopt_j] at X Y
    have hxn := v1 x hz
    obtain ⟨e, he⟩ := zwF_g ho (i := x) (by omega)
    obtain ⟨r1, r2, _⟩ := W1.2.2 x e (by omega) he
    obtain ⟨t1, t2, _⟩ := W2.2.2 x e (by omega) he
    have bb := zwF_b ho he
    have bb1 := bb.2.1
    have bb2 := bb.2.2.2.1
    have n0 : ¬ nI x = -nI 1 := znm1 (by omega)
    have xp := fx_partsOfR ho W1 (by omega) b4 (i := x) (by omega)
    have yp := fm_partsOfR ho W2 n1 n2 (i := x) (by omega)
    have lvb := (zwlv_s ho (i := x) (by omega)).2.1
    have c : w = 0 ∨ w = 1 ∨ w = 2 := by omega
    rcases c with rfl | rfl | rfl
    · refine zfinF (zL e.1.1) _ h0 hf ?_ ?_
      · simp (disch := omega) only [stX10_nearest, fX10_nearest, zl_0, zl_1, zl_2, zl_3, zl_4, zl_5, zl_6, zl_8, zl_9, zl_11, zl_12, zl_13, zl_16, zl_20, zl_23, zl_24, zl_30, zl_32, zl_40, zl_41, zl_43, zl_45, zl_50, zl_52, zl_60, zl_97, zl_99, zl_100, zl_124, zl_126, zl_127, zl_169, zl_170, zl_171, zl_195, zl_200, zl_201, zl_256, zl_261, zl_999, zl_1100, zl_1884, zl_4095, zl_4096, zd1, zd2, zs1, nI_add, pk_mul, zsb, zad1, zad2, zcl, zgI, zif_le, zif_nle, zif_lt, zif_nlt, zif_eq, zif_ne, zif_self, zif_T, zif_F, Nat.zero_add, Nat.add_sub_cancel, zn21, zn31, zif_m1, zif_m1l, zif_m1n, zif_pm, zb1_k, zb2_k, zb3_k, zb4_k, zb5_k, zb6_k, zb7_k, zb8_k, zb9_k, zb10_k, zb11_k, zb12_k, zb14_k, zb21_k, zb22_k, zupd_eq, zupd_ne, zupl_eq, zupl_ne, zupf_eq, zupf_ne, g1, f1, f3, X, zfn n0, fX7_side, r1, zi2l]
      · simp (disch := omega) only [stX11_nearest, zl_0, zl_1, zl_2, zl_3, zl_4, zl_5, zl_6, zl_8, zl_9, zl_11, zl_12, zl_13, zl_16, zl_20, zl_23, zl_24, zl_30, zl_32, zl_40, zl_41, zl_43, zl_45, zl_50, zl_52, zl_60, zl_97, zl_99, zl_100, zl_124, zl_126, zl_127, zl_169, zl_170, zl_171, zl_195, zl_200, zl_201, zl_256, zl_261, zl_999, zl_1100, zl_1884, zl_4095, zl_4096, zd1, zd2, zs1, nI_add, pk_mul, zsb, zad1, zad2, zcl, zgI, zif_le, zif_nle, zif_lt, zif_nlt, zif_eq, zif_ne, zif_self, zif_T, zif_F, Nat.zero_add, Nat.add_sub_cancel, zn21, zn31, zif_m1, zif_m1l, zif_m1n, zif_pm, zb1_k, zb2_k, zb3_k, zb4_k, zb5_k, zb6_k, zb7_k, zb8_k, zb9_k, zb10_k, zb11_k, zb12_k, zb14_k, zb21_k, zb22_k, zupd_eq, zupd_ne, zupl_eq, zupl_ne, zupf_eq, zupf_ne, Y, fX11_nearest_J277, t1]
        exact ⟨_, rfl, rfl, rfl, rfl, rfl, rfl⟩
    · refine zfinF (zL e.1.2) _ h0 hf ?_ ?_
      · simp (disch := omega) only [stX10_nearest, fX10_nearest, zl_0, zl_1, zl_2, zl_3, zl_4, zl_5, zl_6, zl_8, zl_9, zl_11, zl_12, zl_13, zl_16, zl_20, zl_23, zl_24, zl_30, zl_32, zl_40, zl_41, zl_43, zl_45, zl_50, zl_52, zl_60, zl_97, zl_99, zl_100, zl_124, zl_126, zl_127, zl_169, zl_170, zl_171, zl_195, zl_200, zl_201, zl_256, zl_261, zl_999, zl_1100, zl_1884, zl_4095, zl_4096, zd1, zd2, zs1, nI_add, pk_mul, zsb, zad1, zad2, zcl, zgI, zif_le, zif_nle, zif_lt, zif_nlt, zif_eq, zif_ne, zif_self, zif_T, zif_F, Nat.zero_add, Nat.add_sub_cancel, zn21, zn31, zif_m1, zif_m1l, zif_m1n, zif_pm, zb1_k, zb2_k, zb3_k, zb4_k, zb5_k, zb6_k, zb7_k, zb8_k, zb9_k, zb10_k, zb11_k, zb12_k, zb14_k, zb21_k, zb22_k, zupd_eq, zupd_ne, zupl_eq, zupl_ne, zupf_eq, zupf_ne, g1, f1, f3, X, zfn n0, fX7_side, r2, zi2l]
      · simp (disch := omega) only [stX11_nearest, zl_0, zl_1, zl_2, zl_3, zl_4, zl_5, zl_6, zl_8, zl_9, zl_11, zl_12, zl_13, zl_16, zl_20, zl_23, zl_24, zl_30, zl_32, zl_40, zl_41, zl_43, zl_45, zl_50, zl_52, zl_60, zl_97, zl_99, zl_100, zl_124, zl_126, zl_127, zl_169, zl_170, zl_171, zl_195, zl_200, zl_201, zl_256, zl_261, zl_999, zl_1100, zl_1884, zl_4095, zl_4096, zd1, zd2, zs1, nI_add, pk_mul, zsb, zad1, zad2, zcl, zgI, zif_le, zif_nle, zif_lt, zif_nlt, zif_eq, zif_ne, zif_self, zif_T, zif_F, Nat.zero_add, Nat.add_sub_cancel, zn21, zn31, zif_m1, zif_m1l, zif_m1n, zif_pm, zb1_k, zb2_k, zb3_k, zb4_k, zb5_k, zb6_k, zb7_k, zb8_k, zb9_k, zb10_k, zb11_k, zb12_k, zb14_k, zb21_k, zb22_k, zupd_eq, zupd_ne, zupl_eq, zupl_ne, zupf_eq, zupf_ne, Y, fX11_nearest_J277, t2]
        exact ⟨_, rfl, rfl, rfl, rfl, rfl, rfl⟩
    · refine zfinF (zL (zwlv a x)) _ h0 hf ?_ ?_
      · simp (disch := omega) only [stX10_nearest, fX10_nearest, zl_0, zl_1, zl_2, zl_3, zl_4, zl_5, zl_6, zl_8, zl_9, zl_11, zl_12, zl_13, zl_16, zl_20, zl_23, zl_24, zl_30, zl_32, zl_40, zl_41, zl_43, zl_45, zl_50, zl_52, zl_60, zl_97, zl_99, zl_100, zl_124, zl_126, zl_127, zl_169, zl_170, zl_171, zl_195, zl_200, zl_201, zl_256, zl_261, zl_999, zl_1100, zl_1884, zl_4095, zl_4096, zd1, zd2, zs1, nI_add, pk_mul, zsb, zad1, zad2, zcl, zgI, zif_le, zif_nle, zif_lt, zif_nlt, zif_eq, zif_ne, zif_self, zif_T, zif_F, Nat.zero_add, Nat.add_sub_cancel, zn21, zn31, zif_m1, zif_m1l, zif_m1n, zif_pm, zb1_k, zb2_k, zb3_k, zb4_k, zb5_k, zb6_k, zb7_k, zb8_k, zb9_k, zb10_k, zb11_k, zb12_k, zb14_k, zb21_k, zb22_k, zupd_eq, zupd_ne, zupl_eq, zupl_ne, zupf_eq, zupf_ne, g1, f1, f3, X, zfn n0, xp, zi2l]
      · simp (disch := omega) only [stX11_nearest, zl_0, zl_1, zl_2, zl_3, zl_4, zl_5, zl_6, zl_8, zl_9, zl_11, zl_12, zl_13, zl_16, zl_20, zl_23, zl_24, zl_30, zl_32, zl_40, zl_41, zl_43, zl_45, zl_50, zl_52, zl_60, zl_97, zl_99, zl_100, zl_124, zl_126, zl_127, zl_169, zl_170, zl_171, zl_195, zl_200, zl_201, zl_256, zl_261, zl_999, zl_1100, zl_1884, zl_4095, zl_4096, zd1, zd2, zs1, nI_add, pk_mul, zsb, zad1, zad2, zcl, zgI, zif_le, zif_nle, zif_lt, zif_nlt, zif_eq, zif_ne, zif_self, zif_T, zif_F, Nat.zero_add, Nat.add_sub_cancel, zn21, zn31, zif_m1, zif_m1l, zif_m1n, zif_pm, zb1_k, zb2_k, zb3_k, zb4_k, zb5_k, zb6_k, zb7_k, zb8_k, zb9_k, zb10_k, zb11_k, zb12_k, zb14_k, zb21_k, zb22_k, zupd_eq, zupd_ne, zupl_eq, zupl_ne, zupf_eq, zupf_ne, Y, fX11_nearest_J277, yp, zi2l]
        exact ⟨_, rfl, rfl, rfl, rfl, rfl, rfl⟩
