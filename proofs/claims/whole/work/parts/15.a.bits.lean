/-! bits: sets of points, of edges, as small naturals -/
def zbt (n i : Nat) : Nat := n / 2 ^ i % 2
theorem zbt_c (n i : Nat) : zbt n i = 0 ∨ zbt n i = 1 := by
  unfold zbt
  omega
theorem zbt_tb (n i : Nat) : zbt n i = 1 ↔ n.testBit i = true := by
  rw [Nat.testBit_eq_decide_div_mod_eq, decide_eq_true_iff]
  exact Iff.rfl
theorem zbt_or (a b i : Nat) : zbt (a ||| b) i = 1 ↔ zbt a i = 1 ∨ zbt b i = 1 := by
  rw [zbt_tb, zbt_tb, zbt_tb, Nat.testBit_or, Bool.or_eq_true]
theorem zbt_and (a b i : Nat) : zbt (a &&& b) i = 1 ↔ zbt a i = 1 ∧ zbt b i = 1 := by
  rw [zbt_tb, zbt_tb, zbt_tb, Nat.testBit_and, Bool.and_eq_true]
theorem zbt_2 (j i : Nat) : zbt (2 ^ j) i = 1 ↔ i = j := by
  rw [zbt_tb, Nat.testBit_two_pow, decide_eq_true_iff]
  exact ⟨fun e => e.symm, fun e => e.symm⟩
theorem zbt_0 (i : Nat) : ¬ zbt 0 i = 1 := by
  rw [zbt_tb, Nat.zero_testBit]
  exact Bool.false_ne_true
theorem zbt_hi {n i k : Nat} (h : n < 2 ^ k) (hk : k ≤ i) : ¬ zbt n i = 1 := by
  rw [zbt_tb, Nat.testBit_lt_two_pow (Nat.lt_of_lt_of_le h (Nat.pow_le_pow_right (by decide) hk))]
  exact Bool.false_ne_true
theorem zext {a b k : Nat} (ha : a < 2 ^ k) (hb : b < 2 ^ k) (h : ∀ i, i < k → (zbt a i = 1 ↔ zbt b i = 1)) : a = b := by
  refine Nat.eq_of_testBit_eq (fun i => ?_)
  rw [Bool.eq_iff_iff, ← zbt_tb, ← zbt_tb]
  by_cases q : i < k
  · exact h i q
  · exact ⟨fun e => absurd e (zbt_hi ha (by omega)), fun e => absurd e (zbt_hi hb (by omega))⟩
def zdf (a b : Nat) : Nat := a &&& (b ^^^ 4294967295)
theorem zdf_le (a b : Nat) : zdf a b ≤ a := Nat.and_le_left
theorem zbt_df {a b i : Nat} (hi : i < 32) : zbt (zdf a b) i = 1 ↔ zbt a i = 1 ∧ ¬ zbt b i = 1 := by
  have e : (4294967295 : Nat) = 2 ^ 32 - 1 := by decide
  unfold zdf
  rw [zbt_and, zbt_tb (b ^^^ 4294967295), zbt_tb b, Nat.testBit_xor, e, Nat.testBit_two_pow_sub_one, decide_eq_true hi]
  cases b.testBit i <;> simp
theorem zbor {a b : Nat} (ha : a < 2147483648) (hb : b < 2147483648) : nI a ||| nI b = nI (a ||| b) := by
  apply Int32.toBitVec_inj.mp
  apply BitVec.eq_of_toNat_eq
  have h : a ||| b < 2 ^ 31 := Nat.or_lt_two_pow ha hb
  rw [Int32.toBitVec_or, BitVec.toNat_or, pk_tn (by omega), pk_tn (by omega), pk_tn (by omega)]
theorem zband {a b : Nat} (ha : a < 2147483648) (hb : b < 2147483648) : nI a &&& nI b = nI (a &&& b) := by
  apply Int32.toBitVec_inj.mp
  apply BitVec.eq_of_toNat_eq
  have h : a &&& b ≤ a := Nat.and_le_left
  rw [Int32.toBitVec_and, BitVec.toNat_and, pk_tn (by omega), pk_tn (by omega), pk_tn (by omega)]
theorem zbn {a b : Nat} (ha : a < 2147483648) (hb : b < 2147483648) : nI a &&& (nI b ^^^ -nI 1) = nI (zdf a b) := by
  apply Int32.toBitVec_inj.mp
  apply BitVec.eq_of_toNat_eq
  have h := zdf_le a b
  rw [Int32.toBitVec_and, Int32.toBitVec_xor, BitVec.toNat_and, BitVec.toNat_xor, pk_tn (n := a) (by omega), pk_tn (n := b) (by omega), pk_tn (n := zdf a b) (by omega), show (-nI 1).toBitVec.toNat = 4294967295 from by decide]
  rfl
theorem zbs0 : ∀ i, i < 8 → nI 1 <<< (nI i &&& 31) = nI (2 ^ i) := by decide +kernel
theorem zbs {i : Nat} (hi : i < 8) : nI 1 <<< (nI i &&& 31) = nI (2 ^ i) := zbs0 i hi
theorem zbr0 : ∀ i, i < 8 → ((nI i &&& 31).toBitVec.smod 32).toNat = i := by decide +kernel
theorem zbr {n i : Nat} (hn : n < 2147483648) (hi : i < 8) : (nI n >>> (nI i &&& 31)) &&& nI 1 = nI (zbt n i) := by
  have h : n / 2 ^ i ≤ n := Nat.div_le_self _ _
  rw [pk_shrN hn _ i (zbr0 i hi), pk_andN (by omega) 1 (by decide)]
  rfl
theorem zp2 {i : Nat} (hi : i < 8) : 2 ^ i < 256 := Nat.lt_of_le_of_lt (Nat.pow_le_pow_right (by decide) (show i ≤ 7 by omega)) (by decide)
theorem zp6 {i : Nat} (hi : i < 6) : 2 ^ i < 64 := Nat.lt_of_le_of_lt (Nat.pow_le_pow_right (by decide) (show i ≤ 5 by omega)) (by decide)
/-- the set of those below j that are so -/
def zmask (P : Nat → Bool) : Nat → Nat
  | 0 => 0
  | j + 1 => if P j = true then zmask P j ||| 2 ^ j else zmask P j
theorem zmask_lt (P : Nat → Bool) : ∀ j, zmask P j < 2 ^ j
  | 0 => Nat.zero_lt_one
  | j + 1 => by
    have := zmask_lt P j
    have h2 : 2 ^ (j + 1) = 2 * 2 ^ j := by rw [Nat.pow_succ]; omega
    unfold zmask
    split
    · exact Nat.or_lt_two_pow (by omega) (by omega)
    · omega
theorem zmask_b (P : Nat → Bool) : ∀ j i, zbt (zmask P j) i = 1 ↔ i < j ∧ P i = true
  | 0, i => ⟨fun e => absurd e (zbt_0 i), fun e => by omega⟩
  | j + 1, i => by
    have ih := zmask_b P j i
    unfold zmask
    by_cases h : P j = true
    · rw [if_pos h, zbt_or, zbt_2, ih]
      constructor
      · rintro (⟨h1, h2⟩ | rfl)
        · exact ⟨by omega, h2⟩
        · exact ⟨by omega, h⟩
      · rintro ⟨h1, h2⟩
        by_cases e : i = j
        · exact Or.inr e
        · exact Or.inl ⟨by omega, h2⟩
    · rw [if_neg h, ih]
      constructor
      · rintro ⟨h1, h2⟩; exact ⟨by omega, h2⟩
      · rintro ⟨h1, h2⟩
        by_cases e : i = j
        · subst e; exact absurd h2 h
        · exact ⟨by omega, h2⟩
theorem zmask_8 (P : Nat → Bool) {j : Nat} (h : j ≤ 8) : zmask P j < 256 := Nat.lt_of_lt_of_le (zmask_lt P j) (Nat.pow_le_pow_right (by decide) h)
theorem zor0 {n : Nat} (h : n < 2147483648) : nI n ||| nI 0 = nI n := by rw [zbor h (by decide), Nat.or_zero]
/-! the edges that are closed -/
abbrev eA (a : Nat → Nat) (e : Nat) : Nat := a (171 + 3 * e)
abbrev eB (a : Nat → Nat) (e : Nat) : Nat := a (171 + 3 * e + 1)
abbrev eW (a : Nat → Nat) (e : Nat) : Nat := a (171 + 3 * e + 2)
def zcx (a : Nat → Nat) (op : Option Nat) (e : Nat) : Bool := decide (eW a e ≠ 0 ∧ op ≠ some e)
def zclm (a : Nat → Nat) (op : Option Nat) : Nat := zmask (zcx a op) (a 170)
