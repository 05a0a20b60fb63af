/-! tools: small ints as naturals, branches, option steps, updates (written by wip/pure/pp.py) -/
theorem zl_0 : (0 : Int32) = nI 0 := by unfold nI; rfl
theorem zl_1 : (1 : Int32) = nI 1 := by unfold nI; rfl
theorem zl_2 : (2 : Int32) = nI 2 := by unfold nI; rfl
theorem zl_3 : (3 : Int32) = nI 3 := by unfold nI; rfl
theorem zl_4 : (4 : Int32) = nI 4 := by unfold nI; rfl
theorem zl_5 : (5 : Int32) = nI 5 := by unfold nI; rfl
theorem zl_6 : (6 : Int32) = nI 6 := by unfold nI; rfl
theorem zl_8 : (8 : Int32) = nI 8 := by unfold nI; rfl
theorem zl_9 : (9 : Int32) = nI 9 := by unfold nI; rfl
theorem zl_11 : (11 : Int32) = nI 11 := by unfold nI; rfl
theorem zl_12 : (12 : Int32) = nI 12 := by unfold nI; rfl
theorem zl_13 : (13 : Int32) = nI 13 := by unfold nI; rfl
theorem zl_16 : (16 : Int32) = nI 16 := by unfold nI; rfl
theorem zl_20 : (20 : Int32) = nI 20 := by unfold nI; rfl
theorem zl_23 : (23 : Int32) = nI 23 := by unfold nI; rfl
theorem zl_24 : (24 : Int32) = nI 24 := by unfold nI; rfl
theorem zl_30 : (30 : Int32) = nI 30 := by unfold nI; rfl
theorem zl_32 : (32 : Int32) = nI 32 := by unfold nI; rfl
theorem zl_40 : (40 : Int32) = nI 40 := by unfold nI; rfl
theorem zl_41 : (41 : Int32) = nI 41 := by unfold nI; rfl
theorem zl_43 : (43 : Int32) = nI 43 := by unfold nI; rfl
theorem zl_45 : (45 : Int32) = nI 45 := by unfold nI; rfl
theorem zl_50 : (50 : Int32) = nI 50 := by unfold nI; rfl
theorem zl_52 : (52 : Int32) = nI 52 := by unfold nI; rfl
theorem zl_60 : (60 : Int32) = nI 60 := by unfold nI; rfl
theorem zl_97 : (97 : Int32) = nI 97 := by unfold nI; rfl
theorem zl_99 : (99 : Int32) = nI 99 := by unfold nI; rfl
theorem zl_100 : (100 : Int32) = nI 100 := by unfold nI; rfl
theorem zl_124 : (124 : Int32) = nI 124 := by unfold nI; rfl
theorem zl_126 : (126 : Int32) = nI 126 := by unfold nI; rfl
theorem zl_127 : (127 : Int32) = nI 127 := by unfold nI; rfl
theorem zl_169 : (169 : Int32) = nI 169 := by unfold nI; rfl
theorem zl_170 : (170 : Int32) = nI 170 := by unfold nI; rfl
theorem zl_171 : (171 : Int32) = nI 171 := by unfold nI; rfl
theorem zl_195 : (195 : Int32) = nI 195 := by unfold nI; rfl
theorem zl_200 : (200 : Int32) = nI 200 := by unfold nI; rfl
theorem zl_201 : (201 : Int32) = nI 201 := by unfold nI; rfl
theorem zl_256 : (256 : Int32) = nI 256 := by unfold nI; rfl
theorem zl_261 : (261 : Int32) = nI 261 := by unfold nI; rfl
theorem zl_999 : (999 : Int32) = nI 999 := by unfold nI; rfl
theorem zl_1100 : (1100 : Int32) = nI 1100 := by unfold nI; rfl
theorem zl_1884 : (1884 : Int32) = nI 1884 := by unfold nI; rfl
theorem zl_4095 : (4095 : Int32) = nI 4095 := by unfold nI; rfl
theorem zl_4096 : (4096 : Int32) = nI 4096 := by unfold nI; rfl
theorem zb1_k {A0 R : Type} (a0 : A0) (k : A0 → Option R) : zb1 (some a0) k = k a0 := rfl
theorem zb2_k {A0 A1 R : Type} (a0 : A0) (a1 : A1) (k : A0 → A1 → Option R) : zb2 (some (a0, a1)) k = k a0 a1 := rfl
theorem zb3_k {A0 A1 A2 R : Type} (a0 : A0) (a1 : A1) (a2 : A2) (k : A0 → A1 → A2 → Option R) : zb3 (some (a0, a1, a2)) k = k a0 a1 a2 := rfl
theorem zb4_k {A0 A1 A2 A3 R : Type} (a0 : A0) (a1 : A1) (a2 : A2) (a3 : A3) (k : A0 → A1 → A2 → A3 → Option R) : zb4 (some (a0, a1, a2, a3)) k = k a0 a1 a2 a3 := rfl
theorem zb5_k {A0 A1 A2 A3 A4 R : Type} (a0 : A0) (a1 : A1) (a2 : A2) (a3 : A3) (a4 : A4) (k : A0 → A1 → A2 → A3 → A4 → Option R) : zb5 (some (a0, a1, a2, a3, a4)) k = k a0 a1 a2 a3 a4 := rfl
theorem zb6_k {A0 A1 A2 A3 A4 A5 R : Type} (a0 : A0) (a1 : A1) (a2 : A2) (a3 : A3) (a4 : A4) (a5 : A5) (k : A0 → A1 → A2 → A3 → A4 → A5 → Option R) : zb6 (some (a0, a1, a2, a3, a4, a5)) k = k a0 a1 a2 a3 a4 a5 := rfl
theorem zb7_k {A0 A1 A2 A3 A4 A5 A6 R : Type} (a0 : A0) (a1 : A1) (a2 : A2) (a3 : A3) (a4 : A4) (a5 : A5) (a6 : A6) (k : A0 → A1 → A2 → A3 → A4 → A5 → A6 → Option R) : zb7 (some (a0, a1, a2, a3, a4, a5, a6)) k = k a0 a1 a2 a3 a4 a5 a6 := rfl
theorem zb8_k {A0 A1 A2 A3 A4 A5 A6 A7 R : Type} (a0 : A0) (a1 : A1) (a2 : A2) (a3 : A3) (a4 : A4) (a5 : A5) (a6 : A6) (a7 : A7) (k : A0 → A1 → A2 → A3 → A4 → A5 → A6 → A7 → Option R) : zb8 (some (a0, a1, a2, a3, a4, a5, a6, a7)) k = k a0 a1 a2 a3 a4 a5 a6 a7 := rfl
theorem zb9_k {A0 A1 A2 A3 A4 A5 A6 A7 A8 R : Type} (a0 : A0) (a1 : A1) (a2 : A2) (a3 : A3) (a4 : A4) (a5 : A5) (a6 : A6) (a7 : A7) (a8 : A8) (k : A0 → A1 → A2 → A3 → A4 → A5 → A6 → A7 → A8 → Option R) : zb9 (some (a0, a1, a2, a3, a4, a5, a6, a7, a8)) k = k a0 a1 a2 a3 a4 a5 a6 a7 a8 := rfl
theorem zb10_k {A0 A1 A2 A3 A4 A5 A6 A7 A8 A9 R : Type} (a0 : A0) (a1 : A1) (a2 : A2) (a3 : A3) (a4 : A4) (a5 : A5) (a6 : A6) (a7 : A7) (a8 : A8) (a9 : A9) (k : A0 → A1 → A2 → A3 → A4 → A5 → A6 → A7 → A8 → A9 → Option R) : zb10 (some (a0, a1, a2, a3, a4, a5, a6, a7, a8, a9)) k = k a0 a1 a2 a3 a4 a5 a6 a7 a8 a9 := rfl
theorem zb11_k {A0 A1 A2 A3 A4 A5 A6 A7 A8 A9 A10 R : Type} (a0 : A0) (a1 : A1) (a2 : A2) (a3 : A3) (a4 : A4) (a5 : A5) (a6 : A6) (a7 : A7) (a8 : A8) (a9 : A9) (a10 : A10) (k : A0 → A1 → A2 → A3 → A4 → A5 → A6 → A7 → A8 → A9 → A10 → Option R) : zb11 (some (a0, a1, a2, a3, a4, a5, a6, a7, a8, a9, a10)) k = k a0 a1 a2 a3 a4 a5 a6 a7 a8 a9 a10 := rfl
theorem zb12_k {A0 A1 A2 A3 A4 A5 A6 A7 A8 A9 A10 A11 R : Type} (a0 : A0) (a1 : A1) (a2 : A2) (a3 : A3) (a4 : A4) (a5 : A5) (a6 : A6) (a7 : A7) (a8 : A8) (a9 : A9) (a10 : A10) (a11 : A11) (k : A0 → A1 → A2 → A3 → A4 → A5 → A6 → A7 → A8 → A9 → A10 → A11 → Option R) : zb12 (some (a0, a1, a2, a3, a4, a5, a6, a7, a8, a9, a10, a11)) k = k a0 a1 a2 a3 a4 a5 a6 a7 a8 a9 a10 a11 := rfl
theorem zb14_k {A0 A1 A2 A3 A4 A5 A6 A7 A8 A9 A10 A11 A12 A13 R : Type} (a0 : A0) (a1 : A1) (a2 : A2) (a3 : A3) (a4 : A4) (a5 : A5) (a6 : A6) (a7 : A7) (a8 : A8) (a9 : A9) (a10 : A10) (a11 : A11) (a12 : A12) (a13 : A13) (k : A0 → A1 → A2 → A3 → A4 → A5 → A6 → A7 → A8 → A9 → A10 → A11 → A12 → A13 → Option R) : zb14 (some (a0, a1, a2, a3, a4, a5, a6, a7, a8, a9, a10, a11, a12, a13)) k = k a0 a1 a2 a3 a4 a5 a6 a7 a8 a9 a10 a11 a12 a13 := rfl
theorem zb21_k {A0 A1 A2 A3 A4 A5 A6 A7 A8 A9 A10 A11 A12 A13 A14 A15 A16 A17 A18 A19 A20 R : Type} (a0 : A0) (a1 : A1) (a2 : A2) (a3 : A3) (a4 : A4) (a5 : A5) (a6 : A6) (a7 : A7) (a8 : A8) (a9 : A9) (a10 : A10) (a11 : A11) (a12 : A12) (a13 : A13) (a14 : A14) (a15 : A15) (a16 : A16) (a17 : A17) (a18 : A18) (a19 : A19) (a20 : A20) (k : A0 → A1 → A2 → A3 → A4 → A5 → A6 → A7 → A8 → A9 → A10 → A11 → A12 → A13 → A14 → A15 → A16 → A17 → A18 → A19 → A20 → Option R) : zb21 (some (a0, a1, a2, a3, a4, a5, a6, a7, a8, a9, a10, a11, a12, a13, a14, a15, a16, a17, a18, a19, a20)) k = k a0 a1 a2 a3 a4 a5 a6 a7 a8 a9 a10 a11 a12 a13 a14 a15 a16 a17 a18 a19 a20 := rfl
theorem zb22_k {A0 A1 A2 A3 A4 A5 A6 A7 A8 A9 A10 A11 A12 A13 A14 A15 A16 A17 A18 A19 A20 A21 R : Type} (a0 : A0) (a1 : A1) (a2 : A2) (a3 : A3) (a4 : A4) (a5 : A5) (a6 : A6) (a7 : A7) (a8 : A8) (a9 : A9) (a10 : A10) (a11 : A11) (a12 : A12) (a13 : A13) (a14 : A14) (a15 : A15) (a16 : A16) (a17 : A17) (a18 : A18) (a19 : A19) (a20 : A20) (a21 : A21) (k : A0 → A1 → A2 → A3 → A4 → A5 → A6 → A7 → A8 → A9 → A10 → A11 → A12 → A13 → A14 → A15 → A16 → A17 → A18 → A19 → A20 → A21 → Option R) : zb22 (some (a0, a1, a2, a3, a4, a5, a6, a7, a8, a9, a10, a11, a12, a13, a14, a15, a16, a17, a18, a19, a20, a21)) k = k a0 a1 a2 a3 a4 a5 a6 a7 a8 a9 a10 a11 a12 a13 a14 a15 a16 a17 a18 a19 a20 a21 := rfl
theorem zpT {R : Type} {c : Prop} {d : Decidable c} {k : Option R} (h : c) : @zg R c d k = k := if_pos h
theorem zgI {R : Type} {i n : Nat} {d : Decidable (zin (nI i) n)} {k : Option R} (h : i < n) (hn : n ≤ 2147483647) : @zg R (zin (nI i) n) d k = k := if_pos (nI_in h (by omega))
theorem zcl {n : Nat} (h : n < 2147483648) : (nI n).toNatClampNeg = n := nI_clamp h
theorem zsb {a b : Nat} (h : b ≤ a) : nI a - nI b = nI (a - b) := pk_sub h
theorem zad1 {a : Nat} (h : 1 ≤ a) : nI a + -nI 1 = nI (a - 1) := by
  obtain ⟨c, rfl⟩ : ∃ c, a = c + 1 := ⟨a - 1, by omega⟩
  exact pk_m1 c
theorem zd1 (k : Nat) : nI (k + 1) + -nI 1 = nI k := pk_m1 k
theorem zad2 {a : Nat} (h : 2 ≤ a) : nI a + -nI 2 = nI (a - 2) := by
  obtain ⟨c, rfl⟩ : ∃ c, a = c + 2 := ⟨a - 2, by omega⟩
  rw [show c + 2 - 2 = c by omega, ← nI_add, Int32.add_assoc, show nI 2 + -nI 2 = 0 from by decide, Int32.add_zero]
theorem zd2 (k : Nat) : nI (k + 2) + -nI 2 = nI k := zad2 (by omega)
theorem zs1 (k : Nat) : nI (k + 1) - nI 1 = nI k := pk_sub (by omega)
theorem zif_le {α : Sort _} {a b : Nat} {d : Decidable (nI a ≤ nI b)} {x y : α} (h : a ≤ b) (hb : b < 2147483648) : @ite α (nI a ≤ nI b) d x y = x := if_pos (nI_le h hb)
theorem zif_nle {α : Sort _} {a b : Nat} {d : Decidable (nI a ≤ nI b)} {x y : α} (h : b < a) (hb : a < 2147483648) : @ite α (nI a ≤ nI b) d x y = y := if_neg (nI_ge h hb)
theorem zif_lt {α : Sort _} {a b : Nat} {d : Decidable (nI a < nI b)} {x y : α} (h : a < b) (hb : b < 2147483648) : @ite α (nI a < nI b) d x y = x := if_pos (nI_lt h hb)
theorem zif_nlt {α : Sort _} {a b : Nat} {d : Decidable (nI a < nI b)} {x y : α} (h : b ≤ a) (hb : a < 2147483648) : @ite α (nI a < nI b) d x y = y := if_neg (nI_nlt h hb)
theorem zif_eq {α : Sort _} {a b : Nat} {d : Decidable (nI a = nI b)} {x y : α} (h : a = b) : @ite α (nI a = nI b) d x y = x := if_pos (congrArg nI h)
theorem zif_ne {α : Sort _} {a b : Nat} {d : Decidable (nI a = nI b)} {x y : α} (h : a ≠ b) (ha : a < 2147483648) (hb : b < 2147483648) : @ite α (nI a = nI b) d x y = y := if_neg (fun e => h ((nI_eq ha hb).mp e))
theorem zif_self {α : Sort _} {a : Int32} {d : Decidable (a = a)} {x y : α} : @ite α (a = a) d x y = x := if_pos rfl
theorem zft {α : Sort _} {c : Prop} {d : Decidable c} {x y : α} (h : c) : @ite α c d x y = x := if_pos h
theorem zfn {α : Sort _} {c : Prop} {d : Decidable c} {x y : α} (h : ¬ c) : @ite α c d x y = y := if_neg h
theorem zif_T {α : Sort _} {d : Decidable True} {x y : α} : @ite α True d x y = x := if_pos trivial
theorem zif_F {α : Sort _} {d : Decidable False} {x y : α} : @ite α False d x y = y := if_neg id
theorem zn21 (k : Nat) : k + 2 - 1 = k + 1 := by omega
theorem zn31 (k : Nat) : k + 3 - 1 = k + 2 := by omega
theorem znm1 {a : Nat} (h : a < 2147483648) : ¬ nI a = -nI 1 := fun e => by
  have := congrArg Int32.toInt e
  rw [nI_toInt h, show (-nI 1).toInt = -1 from by decide] at this
  omega
theorem zif_m1 {α : Sort _} {a : Nat} {d : Decidable (nI a = -nI 1)} {x y : α} (h : a < 2147483648) : @ite α (nI a = -nI 1) d x y = y := if_neg (znm1 h)
theorem zif_m1l {α : Sort _} {b : Nat} {d : Decidable (-nI 1 < nI b)} {x y : α} (h : b < 2147483648) : @ite α (-nI 1 < nI b) d x y = x := if_pos (by rw [Int32.lt_iff_toInt_lt, nI_toInt h, show (-nI 1).toInt = -1 from by decide]; omega)
theorem zif_m1n {α : Sort _} {b : Nat} {d : Decidable (nI b ≤ -nI 1)} {x y : α} (h : b < 2147483648) : @ite α (nI b ≤ -nI 1) d x y = y := if_neg (by rw [Int32.le_iff_toInt_le, nI_toInt h, show (-nI 1).toInt = -1 from by decide]; omega)
theorem zneg_toInt {a : Nat} (h : a < 2147483648) : (-nI a).toInt = -(a : Int) := by
  rw [Int32.toInt_neg, nI_toInt h]
  exact Int.bmod_eq_of_le (by omega) (by omega)
/-- a refusal is below 0 -/
theorem zif_pm {α : Sort _} {a b : Nat} {d : Decidable (-nI a < nI b)} {x y : α} (h : 0 < a) (ha : a < 2147483648) (hb : b < 2147483648) : @ite α (-nI a < nI b) d x y = x := if_pos (by rw [Int32.lt_iff_toInt_lt, nI_toInt hb, zneg_toInt ha]; omega)
theorem zupd_eq {f : Nat → Int32} {j k : Nat} {x : Int32} (h : j = k) : upd f k x j = x := if_pos h
theorem zupd_ne {f : Nat → Int32} {j k : Nat} {x : Int32} (h : j ≠ k) : upd f k x j = f j := if_neg h
theorem zupl_eq {f : Nat → Int64} {j k : Nat} {x : Int64} (h : j = k) : vp_updL f k x j = x := if_pos h
theorem zupl_ne {f : Nat → Int64} {j k : Nat} {x : Int64} (h : j ≠ k) : vp_updL f k x j = f j := if_neg h
theorem zupf_eq {α : Type} {f : Nat → α} {j k : Nat} {x : α} (h : j = k) : vf_upd f k x j = x := if_pos h
theorem zupf_ne {α : Type} {f : Nat → α} {j k : Nat} {x : α} (h : j ≠ k) : vf_upd f k x j = f j := if_neg h
theorem zcpyI {α : Type} {f g : Nat → α} {n j : Nat} (h : j < n) : va_cpy f g 0 0 n j = f j := by
  unfold va_cpy
  rw [if_pos ⟨Nat.zero_le _, by omega⟩, Nat.sub_zero, Nat.zero_add]
/-- an int between two small naturals is one of these -/
theorem zbetw {p : Int32} {l h : Nat} (hl : l < 2147483648) (hh : h < 2147483648) (h1 : nI l ≤ p) (h2 : p ≤ nI h) : ∃ j, l ≤ j ∧ j ≤ h ∧ p = nI j := by
  have a := Int32.le_iff_toInt_le.mp h1
  have b := Int32.le_iff_toInt_le.mp h2
  rw [nI_toInt hl] at a
  rw [nI_toInt hh] at b
  refine ⟨p.toInt.toNat, by omega, by omega, Int32.toInt_inj.mp ?_⟩
  rw [nI_toInt (by omega)]
  omega
theorem zrg (p : Int32) (l h : Nat) (hl : l < 2147483648) (hh : h < 2147483648) : fX10_isIn p (nI l) (nI h) = some (nI 0) ∨ ∃ j, l ≤ j ∧ j ≤ h ∧ p = nI j ∧ fX10_isIn (nI j) (nI l) (nI h) = some (nI 1) := by
  rcases zisIn p (nI l) (nI h) with ⟨e, _⟩ | ⟨e, h1, h2⟩
  · exact Or.inl e
  · obtain ⟨j, a, b, rfl⟩ := zbetw hl hh h1 h2
    exact Or.inr ⟨j, a, b, rfl, e⟩
theorem zrgT {j l h : Nat} (h1 : l ≤ j) (h2 : j ≤ h) (hh : h < 2147483648) : fX10_isIn (nI j) (nI l) (nI h) = some (nI 1) := by
  unfold fX10_isIn
  rw [if_neg (nI_nlt h1 (by omega)), if_neg (nI_nlt h2 hh)]
  rfl
theorem zrgF {j l h : Nat} (h1 : h < j ∨ j < l) (hj : j < 2147483648) (hl : l < 2147483648) : fX10_isIn (nI j) (nI l) (nI h) = some (nI 0) := by
  unfold fX10_isIn
  rcases h1 with h1 | h1
  · by_cases z : nI j < nI l
    · rw [if_pos z]; try rfl
    · rw [if_neg z, if_pos (nI_lt h1 hj)]; try rfl
  · rw [if_pos (nI_lt h1 hl)]; try rfl
/-- sorts, trays: on both sides -/
theorem zsort (p : Int32) : (fX10_isSort p = some (nI 0) ∧ fX11_isSort p = some (nI 0)) ∨ ∃ s, s < 4 ∧ p = nI s ∧ fX10_isSort (nI s) = some (nI 1) ∧ fX11_isSort (nI s) = some (nI 1) := by
  rcases zrg p 0 3 (by decide) (by decide) with e | ⟨j, _, h2, rfl, e⟩
  · exact Or.inl ⟨(zsortX p).trans e, (zsortM p).trans e⟩
  · exact Or.inr ⟨j, by omega, rfl, (zsortX _).trans e, (zsortM _).trans e⟩
theorem zsortT {s : Nat} (h : s < 4) : fX10_isSort (nI s) = some (nI 1) ∧ fX11_isSort (nI s) = some (nI 1) :=
  ⟨(zsortX _).trans (zrgT (l := 0) (h := 3) (by omega) (by omega) (by decide)), (zsortM _).trans (zrgT (l := 0) (h := 3) (by omega) (by omega) (by decide))⟩
theorem ztray (p : Int32) : (fX10_isTray p = some (nI 0) ∧ fX11_isTray p = some (nI 0)) ∨ ∃ t, t < 3 ∧ p = nI t ∧ fX10_isTray (nI t) = some (nI 1) ∧ fX11_isTray (nI t) = some (nI 1) := by
  rcases zrg p 0 2 (by decide) (by decide) with e | ⟨j, _, h2, rfl, e⟩
  · exact Or.inl ⟨(ztrayX p).trans e, (ztrayM p).trans e⟩
  · exact Or.inr ⟨j, by omega, rfl, (ztrayX _).trans e, (ztrayM _).trans e⟩
/-- 'below n' as each side asks it -/
theorem zprd (p : Int32) (n : Nat) (hn : n < 2147483648) : fX11_in p.toInt64 (0 : Int64) (nI n - nI 1).toInt64 = fX10_isIn p 0 (nI n - nI 1) := by
  rw [show (0 : Int64) = (0 : Int32).toInt64 from by decide]
  exact zin64 p _ _
theorem zprdI (p : Int32) (n : Nat) (hn : n < 2147483648) : (fX10_isIn p 0 (nI n - nI 1) = some (nI 0) ∧ (p < 0 ∨ nI n ≤ p)) ∨ ∃ j, j < n ∧ p = nI j ∧ fX10_isIn (nI j) 0 (nI n - nI 1) = some (nI 1) := by
  cases n with
  | zero =>
    left
    refine ⟨zin0 p, ?_⟩
    by_cases h : p < 0
    · exact Or.inl h
    · exact Or.inr (Int32.not_lt.mp h)
  | succ n =>
    rw [zs1]
    rcases zisIn p 0 (nI n) with ⟨e, h1⟩ | ⟨e, h1, h2⟩
    · left
      refine ⟨e, ?_⟩
      by_cases h : p < 0
      · exact Or.inl h
      · right
        obtain ⟨j, hj, rfl⟩ := nI_of h
        refine nI_le ?_ hj
        by_cases z : j ≤ n
        · exact absurd ⟨Int32.not_lt.mp h, nI_le z (by omega)⟩ h1
        · omega
    · obtain ⟨j, _, b, rfl⟩ := zbetw (l := 0) (by decide) (by omega) h1 h2
      exact Or.inr ⟨j, by omega, rfl, e⟩
theorem zhasF {p : Int32} {n : Nat} (h : p < 0 ∨ nI n ≤ p) : fX5_has p (nI n) = some (nI 0) := by
  unfold fX5_has
  rcases h with h | h
  · rw [if_pos h]; try rfl
  · by_cases z : p < 0
    · rw [if_pos z]; try rfl
    · rw [if_neg z, if_pos h]; try rfl
theorem zhasT {j n : Nat} (h : j < n) (hn : n ≤ 40) : fX5_has (nI j) (nI n) = some (nI 1) := by
  unfold fX5_has
  rw [if_neg (nI_pos (by omega)), if_neg (nI_ge h (by omega)), if_neg (show ¬ (40 : Int32) ≤ nI j from nI_ge (b := 40) (by omega) (by decide))]
  rfl
theorem znet (p : Int32) {n : Nat} (hn : n ≤ 40) {now : Nat → Int32} (hm : now 8 = nI n) : (fX5_has p (nI n) = some (nI 0) ∧ fX11_isNet p now = some (nI 0)) ∨ ∃ j, j < n ∧ p = nI j ∧ fX5_has (nI j) (nI n) = some (nI 1) ∧ fX11_isNet (nI j) now = some (nI 1) := by
  rw [zisNet, hm]
  rcases zprdI p n (by omega) with ⟨e, h⟩ | ⟨j, hj, rfl, e⟩
  · exact Or.inl ⟨zhasF h, e⟩
  · exact Or.inr ⟨j, hj, rfl, zhasT hj hn, by rw [zisNet, hm]; exact e⟩
theorem zpoint (p : Int32) {n : Nat} (hn : n ≤ 6) {now : Nat → Int32} (hm : now 169 = nI n) : (fX3_has p (nI n) = some (nI 0) ∧ fX11_isPoint p now = some (nI 0)) ∨ ∃ j, j < n ∧ p = nI j ∧ fX3_has (nI j) (nI n) = some (nI 1) ∧ fX11_isPoint (nI j) now = some (nI 1) := by
  have em : ∀ q : Int32, fX11_isPoint q now = fX10_isIn q 0 (nI n - nI 1) := fun q => by
    unfold fX11_isPoint
    rw [zb1_id, show ((169 : Int32)).toNatClampNeg = 169 from by decide, hm]
    exact zprd q n (by omega)
  rw [em]
  rcases zprdI p n (by omega) with ⟨e, h⟩ | ⟨j, hj, rfl, e⟩
  · refine Or.inl ⟨?_, e⟩
    unfold fX3_has
    rcases h with h | h
    · rw [if_pos h]; try rfl
    · by_cases z : p < 0
      · rw [if_pos z]; try rfl
      · rw [if_neg z, if_pos h]; try rfl
  · refine Or.inr ⟨j, hj, rfl, ?_, by rw [em]; exact e⟩
    unfold fX3_has
    rw [if_neg (nI_pos (by omega)), if_neg (nI_ge hj (by omega)), if_neg (show ¬ (6 : Int32) ≤ nI j from nI_ge (b := 6) (by omega) (by decide))]
    rfl
theorem zedge (p : Int32) {n : Nat} (hn : n ≤ 8) {now : Nat → Int32} (hm : now 170 = nI n) : (fX3_hasEdge p (nI n) = some (nI 0) ∧ fX11_isEdge p now = some (nI 0)) ∨ ∃ j, j < n ∧ p = nI j ∧ fX3_hasEdge (nI j) (nI n) = some (nI 1) ∧ fX11_isEdge (nI j) now = some (nI 1) := by
  have em : ∀ q : Int32, fX11_isEdge q now = fX10_isIn q 0 (nI n - nI 1) := fun q => by
    unfold fX11_isEdge
    rw [zb1_id, show ((170 : Int32)).toNatClampNeg = 170 from by decide, hm]
    exact zprd q n (by omega)
  rw [em]
  rcases zprdI p n (by omega) with ⟨e, h⟩ | ⟨j, hj, rfl, e⟩
  · refine Or.inl ⟨?_, e⟩
    unfold fX3_hasEdge
    rcases h with h | h
    · rw [if_pos h]; try rfl
    · by_cases z : p < 0
      · rw [if_pos z]; try rfl
      · rw [if_neg z, if_pos h]; try rfl
  · refine Or.inr ⟨j, hj, rfl, ?_, by rw [em]; exact e⟩
    unfold fX3_hasEdge
    rw [if_neg (nI_pos (by omega)), if_neg (nI_ge hj (by omega)), if_neg (show ¬ (8 : Int32) ≤ nI j from nI_ge (b := 8) (by omega) (by decide))]
    rfl
/-- the first j (from j on, d of them) of a kind -/
def zfnd (P : Nat → Bool) : Nat → Nat → Option Nat
  | 0, _ => none
  | d + 1, j => if P j = true then some j else zfnd P d (j + 1)
def zopt : Option Nat → Int32
  | none => -nI 1
  | some j => nI j
theorem zopt_n : zopt none = -nI 1 := by unfold zopt; rfl
theorem zopt_j (j : Nat) : zopt (some j) = nI j := by unfold zopt; rfl
theorem zfnd_s {P : Nat → Bool} : ∀ (d j i : Nat), zfnd P d j = some i → j ≤ i ∧ i < j + d ∧ P i = true
  | 0, j, i, h => by cases h
  | d + 1, j, i, h => by
    unfold zfnd at h
    by_cases p : P j = true
    · rw [if_pos p] at h
      cases h
      exact ⟨Nat.le_refl _, by omega, p⟩
    · rw [if_neg p] at h
      have := zfnd_s d (j + 1) i h
      exact ⟨by omega, by omega, this.2.2⟩
theorem zfnd_n {P : Nat → Bool} : ∀ (d j : Nat), zfnd P d j = none → ∀ i, j ≤ i → i < j + d → P i = false
  | 0, j, h, i, h1, h2 => by omega
  | d + 1, j, h, i, h1, h2 => by
    unfold zfnd at h
    by_cases p : P j = true
    · rw [if_pos p] at h
      cases h
    · rw [if_neg p] at h
      by_cases e : i = j
      · subst e
        exact eq_false_of_ne_true p
      · exact zfnd_n d (j + 1) h i (by omega) (by omega)
