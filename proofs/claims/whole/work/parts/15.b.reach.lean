/-! where one comes to from a point by edges -/
def zbo (a : Nat → Nat) (e : Nat) : Nat := 2 ^ eA a e ||| 2 ^ eB a e
/-- one way through the edges, from the j-th on, d of them -/
def zps (a : Nat → Nat) (c : Nat) : Nat → Nat → Nat → Nat
  | 0, _, f => f
  | d + 1, j, f => zps a c d (j + 1) (if zbt c j = 1 ∧ f &&& zbo a j ≠ 0 then f ||| zbo a j else f)
def zrnd (a : Nat → Nat) (c : Nat) : Nat → Nat → Nat
  | 0, f => f
  | n + 1, f => zrnd a c n (zps a c (a 170) 0 f)
theorem zbo_lt {a : Nat → Nat} (hM : zMsh a) {e : Nat} (he : e < a 170) : zbo a e < 64 := by
  have h := hM.2.2.2 e he
  have h6 := hM.2.1
  exact Nat.or_lt_two_pow (n := 6) (zp6 (by show a (171 + 3 * e) < 6; omega)) (zp6 (by show a (171 + 3 * e + 1) < 6; omega))
theorem zbo_b {a : Nat → Nat} {e i : Nat} : zbt (zbo a e) i = 1 ↔ i = eA a e ∨ i = eB a e := by
  unfold zbo
  rw [zbt_or, zbt_2, zbt_2]
theorem zhit {a : Nat → Nat} {f e : Nat} : f &&& zbo a e ≠ 0 ↔ zbt f (eA a e) = 1 ∨ zbt f (eB a e) = 1 := by
  constructor
  · intro h
    by_cases q : zbt f (eA a e) = 1 ∨ zbt f (eB a e) = 1
    · exact q
    · exfalso
      apply h
      refine Nat.eq_of_testBit_eq (fun i => ?_)
      rw [Nat.zero_testBit]
      cases z : (f &&& zbo a e).testBit i with
      | false => rfl
      | true =>
        exfalso
        have := (zbt_tb _ _).mpr z
        rw [zbt_and, zbo_b] at this
        rcases this with ⟨h1, rfl | rfl⟩
        · exact q (Or.inl h1)
        · exact q (Or.inr h1)
  · intro h e0
    rcases h with h | h
    · have : zbt (f &&& zbo a e) (eA a e) = 1 := (zbt_and _ _ _).mpr ⟨h, zbo_b.mpr (Or.inl rfl)⟩
      rw [e0] at this
      exact zbt_0 _ this
    · have : zbt (f &&& zbo a e) (eB a e) = 1 := (zbt_and _ _ _).mpr ⟨h, zbo_b.mpr (Or.inr rfl)⟩
      rw [e0] at this
      exact zbt_0 _ this
/-- closed under the edges from j on, d of them -/
def zclo (a : Nat → Nat) (c : Nat) (d j g : Nat) : Prop := ∀ e, j ≤ e → e < j + d → zbt c e = 1 → (zbt g (eA a e) = 1 ↔ zbt g (eB a e) = 1)
theorem zps_y {a : Nat → Nat} {c d j f : Nat} (q : zbt c j = 1) (w : f &&& zbo a j ≠ 0) : zps a c (d + 1) j f = zps a c d (j + 1) (f ||| zbo a j) := by
  show zps a c d (j + 1) (if zbt c j = 1 ∧ f &&& zbo a j ≠ 0 then f ||| zbo a j else f) = _
  rw [if_pos ⟨q, w⟩]
theorem zps_n {a : Nat → Nat} {c d j f : Nat} (h : ¬ (zbt c j = 1 ∧ f &&& zbo a j ≠ 0)) : zps a c (d + 1) j f = zps a c d (j + 1) f := by
  show zps a c d (j + 1) (if zbt c j = 1 ∧ f &&& zbo a j ≠ 0 then f ||| zbo a j else f) = _
  rw [if_neg h]
theorem zps_lt {a : Nat → Nat} {c : Nat} (hM : zMsh a) : ∀ d j f, j + d ≤ a 170 → f < 64 → zps a c d j f < 64
  | 0, j, f, _, h => h
  | d + 1, j, f, hj, h => by
    unfold zps
    refine zps_lt hM d (j + 1) _ (by omega) ?_
    split
    · exact Nat.or_lt_two_pow (n := 6) h (zbo_lt hM (by omega))
    · exact h
theorem zps_up {a : Nat → Nat} {c : Nat} : ∀ d j f i, zbt f i = 1 → zbt (zps a c d j f) i = 1
  | 0, j, f, i, h => h
  | d + 1, j, f, i, h => by
    unfold zps
    refine zps_up d (j + 1) _ i ?_
    split
    · exact (zbt_or _ _ _).mpr (Or.inl h)
    · exact h
/-- what doesn't change is closed -/
theorem zps_fix {a : Nat → Nat} {c : Nat} (hM : zMsh a) : ∀ d j f, j + d ≤ a 170 → f < 64 → zps a c d j f = f → zclo a c d j f
  | 0, j, f, _, _, _ => fun e h1 h2 => by omega
  | d + 1, j, f, hj, hf, h => by
    unfold zps at h
    intro e h1 h2 hc
    have up : ∀ i, zbt (if zbt c j = 1 ∧ f &&& zbo a j ≠ 0 then f ||| zbo a j else f) i = 1 → zbt f i = 1 := fun i hi => by
      have := zps_up (a := a) (c := c) d (j + 1) _ i hi
      rw [h] at this
      exact this
    have hg : (if zbt c j = 1 ∧ f &&& zbo a j ≠ 0 then f ||| zbo a j else f) = f := by
      refine zext (k := 6) ?_ hf (fun i hi => ⟨up i, fun hi => ?_⟩)
      · split
        · exact Nat.or_lt_two_pow (n := 6) hf (zbo_lt hM (by omega))
        · exact hf
      · split
        · exact (zbt_or _ _ _).mpr (Or.inl hi)
        · exact hi
    rw [hg] at h
    by_cases q : e = j
    · subst q
      by_cases hh : f &&& zbo a e ≠ 0
      · rw [if_pos ⟨hc, hh⟩] at hg
        have b : ∀ i, zbt (zbo a e) i = 1 → zbt f i = 1 := fun i hi => by
          rw [← hg]; exact (zbt_or _ _ _).mpr (Or.inr hi)
        exact ⟨fun _ => b _ (zbo_b.mpr (Or.inr rfl)), fun _ => b _ (zbo_b.mpr (Or.inl rfl))⟩
      · have n := fun z => hh (zhit.mpr z)
        exact ⟨fun z => absurd (Or.inl z) n, fun z => absurd (Or.inr z) n⟩
    · exact zps_fix hM d (j + 1) f (by omega) hf h e (by omega) (by omega) hc
theorem zps_in {a : Nat → Nat} {c g : Nat} (hg : zclo a c (a 170) 0 g) : ∀ d j f, j + d ≤ a 170 → (∀ i, zbt f i = 1 → zbt g i = 1) → ∀ i, zbt (zps a c d j f) i = 1 → zbt g i = 1
  | 0, j, f, _, h => h
  | d + 1, j, f, hj, h => by
    unfold zps
    refine zps_in hg d (j + 1) _ (by omega) ?_
    by_cases q : zbt c j = 1 ∧ f &&& zbo a j ≠ 0
    · rw [if_pos q]
      intro i hi
      rcases (zbt_or _ _ _).mp hi with hi | hi
      · exact h i hi
      · have hc := hg j (Nat.zero_le _) (by omega) q.1
        rcases zhit.mp q.2 with z | z
        · have gA := h _ z
          rcases zbo_b.mp hi with rfl | rfl
          · exact gA
          · exact hc.mp gA
        · have gB := h _ z
          rcases zbo_b.mp hi with rfl | rfl
          · exact hc.mpr gB
          · exact gB
    · rw [if_neg q]
      exact h
def zct (n : Nat) : Nat := zbt n 0 + zbt n 1 + zbt n 2 + zbt n 3 + zbt n 4 + zbt n 5
theorem zct_sub {f g : Nat} (hf : f < 64) (hg : g < 64) (h : ∀ i, zbt f i = 1 → zbt g i = 1) (hne : g ≠ f) : zct f < zct g := by
  have c := fun i => zbt_c f i
  have d := fun i => zbt_c g i
  have le : ∀ i, zbt f i ≤ zbt g i := fun i => by
    rcases c i with e | e
    · omega
    · rw [e, h i e]; exact Nat.le_refl _
  have ex : ¬ (zbt f 0 = zbt g 0 ∧ zbt f 1 = zbt g 1 ∧ zbt f 2 = zbt g 2 ∧ zbt f 3 = zbt g 3 ∧ zbt f 4 = zbt g 4 ∧ zbt f 5 = zbt g 5) := by
    rintro ⟨e0, e1, e2, e3, e4, e5⟩
    apply hne
    refine zext (k := 6) hg hf (fun i hi => ?_)
    rcases (show i = 0 ∨ i = 1 ∨ i = 2 ∨ i = 3 ∨ i = 4 ∨ i = 5 by omega) with rfl | rfl | rfl | rfl | rfl | rfl
    · rw [e0]
    · rw [e1]
    · rw [e2]
    · rw [e3]
    · rw [e4]
    · rw [e5]
  have l0 := le 0
  have l1 := le 1
  have l2 := le 2
  have l3 := le 3
  have l4 := le 4
  have l5 := le 5
  unfold zct
  omega
theorem zct_le {f n : Nat} (hn : n ≤ 6) (h : ∀ i, zbt f i = 1 → i < n) : zct f ≤ n := by
  have z : ∀ i, n ≤ i → zbt f i = 0 := fun i hi => by
    rcases zbt_c f i with e | e
    · exact e
    · have := h i e; omega
  have b : ∀ i, zbt f i ≤ 1 := fun i => by rcases zbt_c f i with e | e <;> omega
  have b0 := b 0
  have b1 := b 1
  have b2 := b 2
  have b3 := b 3
  have b4 := b 4
  have b5 := b 5
  unfold zct
  rcases (show n = 0 ∨ n = 1 ∨ n = 2 ∨ n = 3 ∨ n = 4 ∨ n = 5 ∨ n = 6 by omega) with rfl | rfl | rfl | rfl | rfl | rfl | rfl
  · have := z 0 (by omega); have := z 1 (by omega); have := z 2 (by omega); have := z 3 (by omega); have := z 4 (by omega); have := z 5 (by omega); omega
  · have := z 1 (by omega); have := z 2 (by omega); have := z 3 (by omega); have := z 4 (by omega); have := z 5 (by omega); omega
  · have := z 2 (by omega); have := z 3 (by omega); have := z 4 (by omega); have := z 5 (by omega); omega
  · have := z 3 (by omega); have := z 4 (by omega); have := z 5 (by omega); omega
  · have := z 4 (by omega); have := z 5 (by omega); omega
  · have := z 5 (by omega); omega
  · omega
theorem zrnd_fix {a : Nat → Nat} {c f : Nat} (h : zps a c (a 170) 0 f = f) : ∀ n, zrnd a c n f = f
  | 0 => rfl
  | n + 1 => by
    unfold zrnd
    rw [h]
    exact zrnd_fix h n
/-- all points are those that are there -/
theorem zpt_all {a : Nat → Nat} (hM : zMsh a) : zclo a 255 (a 170) 0 (2 ^ a 169 - 1) := fun e _ he _ => by
  have h := hM.2.2.2 e (by omega)
  have b : ∀ i, i < a 169 → zbt (2 ^ a 169 - 1) i = 1 := fun i hi => by
    rw [zbt_tb, Nat.testBit_two_pow_sub_one]
    exact decide_eq_true hi
  exact ⟨fun _ => b _ h.2.1, fun _ => b _ h.1⟩
theorem zrnd_end {a : Nat → Nat} {c : Nat} (hM : zMsh a) : ∀ n f k, f < 64 → (∀ i, zbt f i = 1 → i < a 169) → a 169 ≤ zct f + n → zrnd a c (n + k) f = zrnd a c n f ∧ zps a c (a 170) 0 (zrnd a c n f) = zrnd a c n f ∧ zrnd a c n f < 64
  | 0, f, k, hf, hp, hn => by
    have h6 := hM.2.1
    have l := zps_lt (c := c) hM (a 170) 0 f (by omega) hf
    have hs : zps a c (a 170) 0 f = f := by
      by_cases q : zps a c (a 170) 0 f = f
      · exact q
      · have h1 := zct_sub hf l (fun i hi => zps_up _ _ _ i hi) q
        have h2 := zct_le h6 (f := zps a c (a 170) 0 f) (fun i hi => by
          have := zps_in (a := a) (c := c) (g := 2 ^ a 169 - 1) (fun e h1 h2 _ => zpt_all hM e h1 h2 (by
            have h8 := hM.2.2.1
            have : e < 8 := by omega
            rcases (show e = 0 ∨ e = 1 ∨ e = 2 ∨ e = 3 ∨ e = 4 ∨ e = 5 ∨ e = 6 ∨ e = 7 by omega) with rfl | rfl | rfl | rfl | rfl | rfl | rfl | rfl <;> decide)) (a 170) 0 f (by omega) (fun i hi => by
              rw [zbt_tb, Nat.testBit_two_pow_sub_one]
              exact decide_eq_true (hp i hi)) i hi
          rw [zbt_tb, Nat.testBit_two_pow_sub_one] at this
          exact of_decide_eq_true this)
        omega
    rw [Nat.zero_add]
    exact ⟨zrnd_fix hs k, hs, hf⟩
  | n + 1, f, k, hf, hp, hn => by
    have h6 := hM.2.1
    have l := zps_lt (c := c) hM (a 170) 0 f (by omega) hf
    by_cases q : zps a c (a 170) 0 f = f
    · rw [zrnd_fix q, zrnd_fix q]
      exact ⟨rfl, q, hf⟩
    · have h1 := zct_sub hf l (fun i hi => zps_up _ _ _ i hi) q
      rw [show n + 1 + k = (n + k) + 1 by omega]
      unfold zrnd
      refine zrnd_end hM n _ k l (fun i hi => ?_) (by omega)
      have := zps_in (a := a) (c := c) (g := 2 ^ a 169 - 1) (fun e h1 h2 _ => zpt_all hM e h1 h2 (by
        have h8 := hM.2.2.1
        have : e < 8 := by omega
        rcases (show e = 0 ∨ e = 1 ∨ e = 2 ∨ e = 3 ∨ e = 4 ∨ e = 5 ∨ e = 6 ∨ e = 7 by omega) with rfl | rfl | rfl | rfl | rfl | rfl | rfl | rfl <;> decide)) (a 170) 0 f (by omega) (fun i hi => by
          rw [zbt_tb, Nat.testBit_two_pow_sub_one]
          exact decide_eq_true (hp i hi)) i hi
      rw [zbt_tb, Nat.testBit_two_pow_sub_one] at this
      exact of_decide_eq_true this
theorem zct_2 : ∀ i, i < 6 → zct (2 ^ i) = 1 := by decide
/-- where one comes to -/
def zre (a : Nat → Nat) (x c : Nat) : Nat := zrnd a c (a 169 - 1) (2 ^ x)
theorem zre_p {a : Nat → Nat} {x c : Nat} (hM : zMsh a) (hx : x < a 169) : zrnd a c 6 (2 ^ x) = zre a x c ∧ zps a c (a 170) 0 (zre a x c) = zre a x c ∧ zre a x c < 64 := by
  have h6 := hM.2.1
  have h2 := hM.1
  have := zrnd_end (c := c) hM (a 169 - 1) (2 ^ x) (7 - a 169) (zp6 (by omega)) (fun i hi => by rw [(zbt_2 x i).mp hi]; exact hx) (by rw [zct_2 x (by omega)]; omega)
  rw [show a 169 - 1 + (7 - a 169) = 6 by omega] at this
  exact this
theorem zre_lt {a : Nat → Nat} {x c : Nat} (hM : zMsh a) (hx : x < a 169) : zre a x c < 64 := (zre_p hM hx).2.2
theorem zrnd_up {a : Nat → Nat} {c : Nat} : ∀ n f i, zbt f i = 1 → zbt (zrnd a c n f) i = 1
  | 0, f, i, h => h
  | n + 1, f, i, h => zrnd_up n _ i (zps_up _ _ _ i h)
theorem zrnd_in {a : Nat → Nat} {c g : Nat} (hg : zclo a c (a 170) 0 g) : ∀ n f, (∀ i, zbt f i = 1 → zbt g i = 1) → ∀ i, zbt (zrnd a c n f) i = 1 → zbt g i = 1
  | 0, f, h => h
  | n + 1, f, h => zrnd_in hg n _ (zps_in hg (a 170) 0 f (by omega) h)
theorem zre_self {a : Nat → Nat} {x c : Nat} : zbt (zre a x c) x = 1 := zrnd_up _ _ _ ((zbt_2 x x).mpr rfl)
theorem zre_clo {a : Nat → Nat} {x c : Nat} (hM : zMsh a) (hx : x < a 169) : zclo a c (a 170) 0 (zre a x c) := zps_fix hM (a 170) 0 _ (by omega) (zre_lt hM hx) (zre_p hM hx).2.1
theorem zre_in {a : Nat → Nat} {x c g : Nat} (hg : zclo a c (a 170) 0 g) (hx : zbt g x = 1) : ∀ i, zbt (zre a x c) i = 1 → zbt g i = 1 :=
  zrnd_in hg _ _ (fun i hi => by rw [(zbt_2 x i).mp hi]; exact hx)
/-! the class's way, the reference's -/
theorem zif_b0 {α : Sort _} {n e : Nat} {d : Decidable (nI (zbt n e) = nI 0)} {x y : α} (h : ¬ zbt n e = 1) : @ite α (nI (zbt n e) = nI 0) d x y = x := if_pos (by rcases zbt_c n e with q | q; rw [q]; exact absurd q h)
theorem zif_b1 {α : Sort _} {n e : Nat} {d : Decidable (nI (zbt n e) = nI 0)} {x y : α} (h : zbt n e = 1) : @ite α (nI (zbt n e) = nI 0) d x y = y := if_neg (by rw [h]; decide)
theorem zif_c0 {α : Sort _} {n e : Nat} {d : Decidable (nI (zbt n e) = nI 1)} {x y : α} (h : ¬ zbt n e = 1) : @ite α (nI (zbt n e) = nI 1) d x y = y := if_neg (by rcases zbt_c n e with q | q; rw [q]; decide; exact absurd q h)
theorem zif_c1 {α : Sort _} {n e : Nat} {d : Decidable (nI (zbt n e) = nI 1)} {x y : α} (h : zbt n e = 1) : @ite α (nI (zbt n e) = nI 1) d x y = x := if_pos (by rw [h])
theorem zboI {a : Nat → Nat} (hM : zMsh a) {e : Nat} (he : e < a 170) : (nI 1 <<< (nI (a (171 + 3 * e)) &&& 31)) ||| (nI 1 <<< (nI (a (171 + 3 * e + 1)) &&& 31)) = nI (zbo a e) := by
  have h := hM.2.2.2 e he
  have h6 := hM.2.1
  have p1 := zp2 (i := a (171 + 3 * e)) (by omega)
  have p2 := zp2 (i := a (171 + 3 * e + 1)) (by omega)
  rw [zbs (by omega), zbs (by omega), zbor (by omega) (by omega)]
  rfl
theorem fx_pfL {a : Nat → Nat} {one oth mo : Nat → Int32} {pts edg : Int32} {c : Nat} {k7 : Int32 → Int32 → Option Int32} {v4 : Int32} (hM : zMsh a) (hx : zXm a pts edg one oth mo) (hc : c < 256) : ∀ d j fu f, j + d = a 170 → d < fu → f < 64 → fX3_pointsFrom_L19 k7 (nI (a 170)) one oth (nI c) v4 fu (nI f) (nI j) = k7 (nI (zps a c d j f)) (v4 + nI 1) := by
  have h8 := hM.2.2.1
  obtain ⟨_, _, e1, e2, _⟩ := hx
  intro d
  induction d with
  | zero =>
    intro j fu f hj hfu hf
    obtain ⟨fu, rfl⟩ : ∃ f, fu = f + 1 := ⟨fu - 1, by omega⟩
    rw [fX3_pointsFrom_L19_s]
    simp (disch := omega) only [zl_0, zl_1, zl_2, zl_3, zl_4, zl_5, zl_6, zl_8, zl_9, zl_11, zl_12, zl_13, zl_16, zl_20, zl_23, zl_24, zl_30, zl_32, zl_40, zl_41, zl_43, zl_45, zl_50, zl_52, zl_60, zl_97, zl_99, zl_100, zl_124, zl_126, zl_127, zl_169, zl_170, zl_171, zl_195, zl_200, zl_201, zl_256, zl_261, zl_999, zl_1100, zl_1884, zl_4095, zl_4096, zd1, zd2, zs1, nI_add, pk_mul, zsb, zad1, zad2, zcl, zgI, zif_le, zif_nle, zif_lt, zif_nlt, zif_eq, zif_ne, zif_self, zif_T, zif_F, Nat.zero_add, Nat.add_sub_cancel, zn21, zn31, zif_m1, zif_m1l, zif_m1n, zif_pm, zb1_k, zb2_k, zb3_k, zb4_k, zb5_k, zb6_k, zb7_k, zb8_k, zb9_k, zb10_k, zb11_k, zb12_k, zb14_k, zb21_k, zb22_k, zupd_eq, zupd_ne, zupl_eq, zupl_ne, zupf_eq, zupf_ne]
    rfl
  | succ d ih =>
    intro j fu f hj hfu hf
    obtain ⟨fu, rfl⟩ : ∃ f, fu = f + 1 := ⟨fu - 1, by omega⟩
    have hj2 : j < a 170 := by omega
    have bo := zboI hM hj2
    have bl := zbo_lt hM hj2
    have br := zbr (n := c) (i := j) (by omega) (by omega)
    rw [fX3_pointsFrom_L19_s]
    by_cases q : zbt c j = 1
    · by_cases w : f &&& zbo a j = 0
      · have w2 : nI (f &&& zbo a j) = nI 0 := by rw [w]
        rw [zps_n (fun z => z.2 w)]
        simp (disch := omega) only [zl_0, zl_1, zl_2, zl_3, zl_4, zl_5, zl_6, zl_8, zl_9, zl_11, zl_12, zl_13, zl_16, zl_20, zl_23, zl_24, zl_30, zl_32, zl_40, zl_41, zl_43, zl_45, zl_50, zl_52, zl_60, zl_97, zl_99, zl_100, zl_124, zl_126, zl_127, zl_169, zl_170, zl_171, zl_195, zl_200, zl_201, zl_256, zl_261, zl_999, zl_1100, zl_1884, zl_4095, zl_4096, zd1, zd2, zs1, nI_add, pk_mul, zsb, zad1, zad2, zcl, zgI, zif_le, zif_nle, zif_lt, zif_nlt, zif_eq, zif_ne, zif_self, zif_T, zif_F, Nat.zero_add, Nat.add_sub_cancel, zn21, zn31, zif_m1, zif_m1l, zif_m1n, zif_pm, zb1_k, zb2_k, zb3_k, zb4_k, zb5_k, zb6_k, zb7_k, zb8_k, zb9_k, zb10_k, zb11_k, zb12_k, zb14_k, zb21_k, zb22_k, zupd_eq, zupd_ne, zupl_eq, zupl_ne, zupf_eq, zupf_ne, e1, e2, bo, br, zif_b1 q, zband, zft w2, ih (j + 1) fu f]
      · have w1 : f &&& zbo a j ≤ f := Nat.and_le_left
        have w2 : ¬ nI (f &&& zbo a j) = nI 0 := fun z => w ((nI_eq (by omega) (by omega)).mp z)
        have hf2 : f ||| zbo a j < 64 := Nat.or_lt_two_pow (n := 6) hf bl
        rw [zps_y q w]
        simp (disch := omega) only [zl_0, zl_1, zl_2, zl_3, zl_4, zl_5, zl_6, zl_8, zl_9, zl_11, zl_12, zl_13, zl_16, zl_20, zl_23, zl_24, zl_30, zl_32, zl_40, zl_41, zl_43, zl_45, zl_50, zl_52, zl_60, zl_97, zl_99, zl_100, zl_124, zl_126, zl_127, zl_169, zl_170, zl_171, zl_195, zl_200, zl_201, zl_256, zl_261, zl_999, zl_1100, zl_1884, zl_4095, zl_4096, zd1, zd2, zs1, nI_add, pk_mul, zsb, zad1, zad2, zcl, zgI, zif_le, zif_nle, zif_lt, zif_nlt, zif_eq, zif_ne, zif_self, zif_T, zif_F, Nat.zero_add, Nat.add_sub_cancel, zn21, zn31, zif_m1, zif_m1l, zif_m1n, zif_pm, zb1_k, zb2_k, zb3_k, zb4_k, zb5_k, zb6_k, zb7_k, zb8_k, zb9_k, zb10_k, zb11_k, zb12_k, zb14_k, zb21_k, zb22_k, zupd_eq, zupd_ne, zupl_eq, zupl_ne, zupf_eq, zupf_ne, e1, e2, bo, br, zif_b1 q, zband, zfn w2, zbor, ih (j + 1) fu (f ||| zbo a j)]
    · rw [zps_n (fun z => q z.1)]
      simp (disch := omega) only [zl_0, zl_1, zl_2, zl_3, zl_4, zl_5, zl_6, zl_8, zl_9, zl_11, zl_12, zl_13, zl_16, zl_20, zl_23, zl_24, zl_30, zl_32, zl_40, zl_41, zl_43, zl_45, zl_50, zl_52, zl_60, zl_97, zl_99, zl_100, zl_124, zl_126, zl_127, zl_169, zl_170, zl_171, zl_195, zl_200, zl_201, zl_256, zl_261, zl_999, zl_1100, zl_1884, zl_4095, zl_4096, zd1, zd2, zs1, nI_add, pk_mul, zsb, zad1, zad2, zcl, zgI, zif_le, zif_nle, zif_lt, zif_nlt, zif_eq, zif_ne, zif_self, zif_T, zif_F, Nat.zero_add, Nat.add_sub_cancel, zn21, zn31, zif_m1, zif_m1l, zif_m1n, zif_pm, zb1_k, zb2_k, zb3_k, zb4_k, zb5_k, zb6_k, zb7_k, zb8_k, zb9_k, zb10_k, zb11_k, zb12_k, zb14_k, zb21_k, zb22_k, zupd_eq, zupd_ne, zupl_eq, zupl_ne, zupf_eq, zupf_ne, e1, e2, bo, br, zif_b0 q, ih (j + 1) fu f]
theorem fx_pf {a : Nat → Nat} {one oth mo : Nat → Int32} {pts edg : Int32} {c x : Nat} (hM : zMsh a) (hx : zXm a pts edg one oth mo) (hc : c < 256) (hp : x < a 169) : fX3_pointsFrom (nI x) (nI c) pts edg one oth = some (nI (zre a x c)) := by
  have h6 := hM.2.1
  have h2 := hM.1
  obtain ⟨ep, ee, _⟩ := id hx
  subst ep ee
  have key : ∀ d j fu f, j + d = a 169 → d < fu → f < 64 → fX3_pointsFrom_L7 (nI (a 169)) (nI (a 170)) one oth (nI c) fu (nI f) (nI j) = some (nI (zrnd a c d f)) := by
    intro d
    induction d with
    | zero =>
      intro j fu f hj hfu hf
      obtain ⟨fu, rfl⟩ : ∃ f, fu = f + 1 := ⟨fu - 1, by omega⟩
      rw [fX3_pointsFrom_L7_s]
      simp (disch := omega) only [zl_0, zl_1, zl_2, zl_3, zl_4, zl_5, zl_6, zl_8, zl_9, zl_11, zl_12, zl_13, zl_16, zl_20, zl_23, zl_24, zl_30, zl_32, zl_40, zl_41, zl_43, zl_45, zl_50, zl_52, zl_60, zl_97, zl_99, zl_100, zl_124, zl_126, zl_127, zl_169, zl_170, zl_171, zl_195, zl_200, zl_201, zl_256, zl_261, zl_999, zl_1100, zl_1884, zl_4095, zl_4096, zd1, zd2, zs1, nI_add, pk_mul, zsb, zad1, zad2, zcl, zgI, zif_le, zif_nle, zif_lt, zif_nlt, zif_eq, zif_ne, zif_self, zif_T, zif_F, Nat.zero_add, Nat.add_sub_cancel, zn21, zn31, zif_m1, zif_m1l, zif_m1n, zif_pm, zb1_k, zb2_k, zb3_k, zb4_k, zb5_k, zb6_k, zb7_k, zb8_k, zb9_k, zb10_k, zb11_k, zb12_k, zb14_k, zb21_k, zb22_k, zupd_eq, zupd_ne, zupl_eq, zupl_ne, zupf_eq, zupf_ne]
      rfl
    | succ d ih =>
      intro j fu f hj hfu hf
      obtain ⟨fu, rfl⟩ : ∃ f, fu = f + 1 := ⟨fu - 1, by omega⟩
      rw [fX3_pointsFrom_L7_s, if_neg (nI_ge (by omega) (by omega)), zl_0, fx_pfL hM hx hc (a 170) 0 5000 f (by omega) (by have := hM.2.2.1; omega) hf, nI_add]
      exact ih (j + 1) fu _ (by omega) (by omega) (zps_lt hM _ _ _ (by omega) hf)
  unfold fX3_pointsFrom
  rw [zl_1, zbs (by omega)]
  exact key (a 169 - 1) 1 5000 (2 ^ x) (by omega) (by omega) (zp6 (by omega))
theorem fm_ctL {a : Nat → Nat} {now : Nat → Int32} {c : Nat} {k7 : Int32 → Int32 → Option Int32} {v4 : Int32} (hM : zMsh a) (hm : zMn a now) (hc : c < 256) : ∀ d j fu f, j + d = a 170 → d < fu → f < 64 → fX11_comesTo_L17 k7 now (nI c) v4 fu (nI f) (nI j) = k7 (nI (zps a c d j f)) (v4 + nI 1) := by
  have h8 := hM.2.2.1
  intro d
  induction d with
  | zero =>
    intro j fu f hj hfu hf
    obtain ⟨fu, rfl⟩ : ∃ f, fu = f + 1 := ⟨fu - 1, by omega⟩
    rw [fX11_comesTo_L17_s]
    simp (disch := omega) only [zl_0, zl_1, zl_2, zl_3, zl_4, zl_5, zl_6, zl_8, zl_9, zl_11, zl_12, zl_13, zl_16, zl_20, zl_23, zl_24, zl_30, zl_32, zl_40, zl_41, zl_43, zl_45, zl_50, zl_52, zl_60, zl_97, zl_99, zl_100, zl_124, zl_126, zl_127, zl_169, zl_170, zl_171, zl_195, zl_200, zl_201, zl_256, zl_261, zl_999, zl_1100, zl_1884, zl_4095, zl_4096, zd1, zd2, zs1, nI_add, pk_mul, zsb, zad1, zad2, zcl, zgI, zif_le, zif_nle, zif_lt, zif_nlt, zif_eq, zif_ne, zif_self, zif_T, zif_F, Nat.zero_add, Nat.add_sub_cancel, zn21, zn31, zif_m1, zif_m1l, zif_m1n, zif_pm, zb1_k, zb2_k, zb3_k, zb4_k, zb5_k, zb6_k, zb7_k, zb8_k, zb9_k, zb10_k, zb11_k, zb12_k, zb14_k, zb21_k, zb22_k, zupd_eq, zupd_ne, zupl_eq, zupl_ne, zupf_eq, zupf_ne, hm.1]
    rfl
  | succ d ih =>
    intro j fu f hj hfu hf
    obtain ⟨fu, rfl⟩ : ∃ f, fu = f + 1 := ⟨fu - 1, by omega⟩
    have hj2 : j < a 170 := by omega
    have bo := zboI hM hj2
    have bl := zbo_lt hM hj2
    have br := zbr (n := c) (i := j) (by omega) (by omega)
    rw [fX11_comesTo_L17_s]
    by_cases q : zbt c j = 1
    · by_cases w : f &&& zbo a j = 0
      · have w2 : nI (f &&& zbo a j) = nI 0 := by rw [w]
        rw [zps_n (fun z => z.2 w)]
        simp (disch := omega) only [zl_0, zl_1, zl_2, zl_3, zl_4, zl_5, zl_6, zl_8, zl_9, zl_11, zl_12, zl_13, zl_16, zl_20, zl_23, zl_24, zl_30, zl_32, zl_40, zl_41, zl_43, zl_45, zl_50, zl_52, zl_60, zl_97, zl_99, zl_100, zl_124, zl_126, zl_127, zl_169, zl_170, zl_171, zl_195, zl_200, zl_201, zl_256, zl_261, zl_999, zl_1100, zl_1884, zl_4095, zl_4096, zd1, zd2, zs1, nI_add, pk_mul, zsb, zad1, zad2, zcl, zgI, zif_le, zif_nle, zif_lt, zif_nlt, zif_eq, zif_ne, zif_self, zif_T, zif_F, Nat.zero_add, Nat.add_sub_cancel, zn21, zn31, zif_m1, zif_m1l, zif_m1n, zif_pm, zb1_k, zb2_k, zb3_k, zb4_k, zb5_k, zb6_k, zb7_k, zb8_k, zb9_k, zb10_k, zb11_k, zb12_k, zb14_k, zb21_k, zb22_k, zupd_eq, zupd_ne, zupl_eq, zupl_ne, zupf_eq, zupf_ne, hm.1, bo, br, zif_c1 q, zband, zft w2, zor0, ih (j + 1) fu f]
      · have w1 : f &&& zbo a j ≤ f := Nat.and_le_left
        have w2 : ¬ nI (f &&& zbo a j) = nI 0 := fun z => w ((nI_eq (by omega) (by omega)).mp z)
        have hf2 : f ||| zbo a j < 64 := Nat.or_lt_two_pow (n := 6) hf bl
        rw [zps_y q w]
        simp (disch := omega) only [zl_0, zl_1, zl_2, zl_3, zl_4, zl_5, zl_6, zl_8, zl_9, zl_11, zl_12, zl_13, zl_16, zl_20, zl_23, zl_24, zl_30, zl_32, zl_40, zl_41, zl_43, zl_45, zl_50, zl_52, zl_60, zl_97, zl_99, zl_100, zl_124, zl_126, zl_127, zl_169, zl_170, zl_171, zl_195, zl_200, zl_201, zl_256, zl_261, zl_999, zl_1100, zl_1884, zl_4095, zl_4096, zd1, zd2, zs1, nI_add, pk_mul, zsb, zad1, zad2, zcl, zgI, zif_le, zif_nle, zif_lt, zif_nlt, zif_eq, zif_ne, zif_self, zif_T, zif_F, Nat.zero_add, Nat.add_sub_cancel, zn21, zn31, zif_m1, zif_m1l, zif_m1n, zif_pm, zb1_k, zb2_k, zb3_k, zb4_k, zb5_k, zb6_k, zb7_k, zb8_k, zb9_k, zb10_k, zb11_k, zb12_k, zb14_k, zb21_k, zb22_k, zupd_eq, zupd_ne, zupl_eq, zupl_ne, zupf_eq, zupf_ne, hm.1, bo, br, zif_c1 q, zband, zfn w2, zbor, ih (j + 1) fu (f ||| zbo a j)]
    · rw [zps_n (fun z => q z.1)]
      simp (disch := omega) only [zl_0, zl_1, zl_2, zl_3, zl_4, zl_5, zl_6, zl_8, zl_9, zl_11, zl_12, zl_13, zl_16, zl_20, zl_23, zl_24, zl_30, zl_32, zl_40, zl_41, zl_43, zl_45, zl_50, zl_52, zl_60, zl_97, zl_99, zl_100, zl_124, zl_126, zl_127, zl_169, zl_170, zl_171, zl_195, zl_200, zl_201, zl_256, zl_261, zl_999, zl_1100, zl_1884, zl_4095, zl_4096, zd1, zd2, zs1, nI_add, pk_mul, zsb, zad1, zad2, zcl, zgI, zif_le, zif_nle, zif_lt, zif_nlt, zif_eq, zif_ne, zif_self, zif_T, zif_F, Nat.zero_add, Nat.add_sub_cancel, zn21, zn31, zif_m1, zif_m1l, zif_m1n, zif_pm, zb1_k, zb2_k, zb3_k, zb4_k, zb5_k, zb6_k, zb7_k, zb8_k, zb9_k, zb10_k, zb11_k, zb12_k, zb14_k, zb21_k, zb22_k, zupd_eq, zupd_ne, zupl_eq, zupl_ne, zupf_eq, zupf_ne, hm.1, bo, br, zif_c0 q, zor0, ih (j + 1) fu f]
theorem fm_ct {a : Nat → Nat} {now : Nat → Int32} {c x : Nat} (hM : zMsh a) (hm : zMn a now) (hc : c < 256) (hp : x < a 169) : fX11_comesTo (nI x) (nI c) now = some (nI (zre a x c)) := by
  have h6 := hM.2.1
  have key : ∀ d j fu f, j + d = 6 → d < fu → f < 64 → fX11_comesTo_L7 now (nI c) fu (nI f) (nI j) = some (nI (zrnd a c d f)) := by
    intro d
    induction d with
    | zero =>
      intro j fu f hj hfu hf
      obtain ⟨fu, rfl⟩ : ∃ f, fu = f + 1 := ⟨fu - 1, by omega⟩
      rw [fX11_comesTo_L7_s]
      simp (disch := omega) only [zl_0, zl_1, zl_2, zl_3, zl_4, zl_5, zl_6, zl_8, zl_9, zl_11, zl_12, zl_13, zl_16, zl_20, zl_23, zl_24, zl_30, zl_32, zl_40, zl_41, zl_43, zl_45, zl_50, zl_52, zl_60, zl_97, zl_99, zl_100, zl_124, zl_126, zl_127, zl_169, zl_170, zl_171, zl_195, zl_200, zl_201, zl_256, zl_261, zl_999, zl_1100, zl_1884, zl_4095, zl_4096, zd1, zd2, zs1, nI_add, pk_mul, zsb, zad1, zad2, zcl, zgI, zif_le, zif_nle, zif_lt, zif_nlt, zif_eq, zif_ne, zif_self, zif_T, zif_F, Nat.zero_add, Nat.add_sub_cancel, zn21, zn31, zif_m1, zif_m1l, zif_m1n, zif_pm, zb1_k, zb2_k, zb3_k, zb4_k, zb5_k, zb6_k, zb7_k, zb8_k, zb9_k, zb10_k, zb11_k, zb12_k, zb14_k, zb21_k, zb22_k, zupd_eq, zupd_ne, zupl_eq, zupl_ne, zupf_eq, zupf_ne]
      rfl
    | succ d ih =>
      intro j fu f hj hfu hf
      obtain ⟨fu, rfl⟩ : ∃ f, fu = f + 1 := ⟨fu - 1, by omega⟩
      rw [fX11_comesTo_L7_s, zl_6, if_neg (nI_ge (by omega) (by omega)), zl_0, fm_ctL hM hm hc (a 170) 0 5000 f (by omega) (by have := hM.2.2.1; omega) hf, nI_add]
      exact ih (j + 1) fu _ (by omega) (by omega) (zps_lt hM _ _ _ (by omega) hf)
  unfold fX11_comesTo
  rw [zl_1, zbs (by omega), zl_0, key 6 0 5000 (2 ^ x) (by omega) (by omega) (zp6 (by omega)), (zre_p hM hp).1]
theorem fx_closed {a : Nat → Nat} {one oth mo : Nat → Int32} {pts edg : Int32} {op : Option Nat} (hM : zMsh a) (hx : zXm a pts edg one oth mo) (hop : ∀ q, op = some q → q < 8) : fX3_closedEdges (zopt op) edg mo = some (nI (zclm a op)) := by
  have h8 := hM.2.2.1
  obtain ⟨_, ee, _, _, e5⟩ := hx
  subst ee
  have key : ∀ d j fu, j + d = a 170 → d < fu → fX3_closedEdges_L4 (nI (a 170)) mo (zopt op) fu (nI (zmask (zcx a op) j)) (nI j) = some (nI (zclm a op)) := by
    intro d
    induction d with
    | zero =>
      intro j fu hj hfu
      obtain ⟨fu, rfl⟩ : ∃ f, fu = f + 1 := ⟨fu - 1, by omega⟩
      rw [fX3_closedEdges_L4_s]
      simp (disch := omega) only [zl_0, zl_1, zl_2, zl_3, zl_4, zl_5, zl_6, zl_8, zl_9, zl_11, zl_12, zl_13, zl_16, zl_20, zl_23, zl_24, zl_30, zl_32, zl_40, zl_41, zl_43, zl_45, zl_50, zl_52, zl_60, zl_97, zl_99, zl_100, zl_124, zl_126, zl_127, zl_169, zl_170, zl_171, zl_195, zl_200, zl_201, zl_256, zl_261, zl_999, zl_1100, zl_1884, zl_4095, zl_4096, zd1, zd2, zs1, nI_add, pk_mul, zsb, zad1, zad2, zcl, zgI, zif_le, zif_nle, zif_lt, zif_nlt, zif_eq, zif_ne, zif_self, zif_T, zif_F, Nat.zero_add, Nat.add_sub_cancel, zn21, zn31, zif_m1, zif_m1l, zif_m1n, zif_pm, zb1_k, zb2_k, zb3_k, zb4_k, zb5_k, zb6_k, zb7_k, zb8_k, zb9_k, zb10_k, zb11_k, zb12_k, zb14_k, zb21_k, zb22_k, zupd_eq, zupd_ne, zupl_eq, zupl_ne, zupf_eq, zupf_ne]
      rw [show j = a 170 by omega]
      rfl
    | succ d ih =>
      intro j fu hj hfu
      obtain ⟨fu, rfl⟩ : ∃ f, fu = f + 1 := ⟨fu - 1, by omega⟩
      have hj2 : j < a 170 := by omega
      have hW := (hM.2.2.2 j hj2).2.2.2
      have hih := ih (j + 1) fu (by omega) (by omega)
      have ml := zmask_8 (zcx a op) (show j ≤ 8 by omega)
      have p2 := zp2 (i := j) (by omega)
      rw [fX3_closedEdges_L4_s]
      by_cases q1 : a (171 + 3 * j + 2) = 0
      · have eq : zmask (zcx a op) (j + 1) = zmask (zcx a op) j := if_neg (fun z => (of_decide_eq_true z).1 q1)
        rw [eq] at hih
        simp (disch := omega) only [zl_0, zl_1, zl_2, zl_3, zl_4, zl_5, zl_6, zl_8, zl_9, zl_11, zl_12, zl_13, zl_16, zl_20, zl_23, zl_24, zl_30, zl_32, zl_40, zl_41, zl_43, zl_45, zl_50, zl_52, zl_60, zl_97, zl_99, zl_100, zl_124, zl_126, zl_127, zl_169, zl_170, zl_171, zl_195, zl_200, zl_201, zl_256, zl_261, zl_999, zl_1100, zl_1884, zl_4095, zl_4096, zd1, zd2, zs1, nI_add, pk_mul, zsb, zad1, zad2, zcl, zgI, zif_le, zif_nle, zif_lt, zif_nlt, zif_eq, zif_ne, zif_self, zif_T, zif_F, Nat.zero_add, Nat.add_sub_cancel, zn21, zn31, zif_m1, zif_m1l, zif_m1n, zif_pm, zb1_k, zb2_k, zb3_k, zb4_k, zb5_k, zb6_k, zb7_k, zb8_k, zb9_k, zb10_k, zb11_k, zb12_k, zb14_k, zb21_k, zb22_k, zupd_eq, zupd_ne, zupl_eq, zupl_ne, zupf_eq, zupf_ne, e5, hih]
      · by_cases q2 : op = some j
        · have eq : zmask (zcx a op) (j + 1) = zmask (zcx a op) j := if_neg (fun z => (of_decide_eq_true z).2 q2)
          rw [eq, q2] at hih
          rw [q2]
          simp (disch := omega) only [zl_0, zl_1, zl_2, zl_3, zl_4, zl_5, zl_6, zl_8, zl_9, zl_11, zl_12, zl_13, zl_16, zl_20, zl_23, zl_24, zl_30, zl_32, zl_40, zl_41, zl_43, zl_45, zl_50, zl_52, zl_60, zl_97, zl_99, zl_100, zl_124, zl_126, zl_127, zl_169, zl_170, zl_171, zl_195, zl_200, zl_201, zl_256, zl_261, zl_999, zl_1100, zl_1884, zl_4095, zl_4096, zd1, zd2, zs1, nI_add, pk_mul, zsb, zad1, zad2, zcl, zgI, zif_le, zif_nle, zif_lt, zif_nlt, zif_eq, zif_ne, zif_self, zif_T, zif_F, Nat.zero_add, Nat.add_sub_cancel, zn21, zn31, zif_m1, zif_m1l, zif_m1n, zif_pm, zb1_k, zb2_k, zb3_k, zb4_k, zb5_k, zb6_k, zb7_k, zb8_k, zb9_k, zb10_k, zb11_k, zb12_k, zb14_k, zb21_k, zb22_k, zupd_eq, zupd_ne, zupl_eq, zupl_ne, zupf_eq, zupf_ne, e5, zopt_j] at hih ⊢
          exact hih
        · have eq : zmask (zcx a op) (j + 1) = zmask (zcx a op) j ||| 2 ^ j := if_pos (decide_eq_true ⟨q1, q2⟩)
          rw [eq] at hih
          have q3 : ¬ nI j = zopt op := by
            cases op with
            | none => exact znm1 (by omega)
            | some q =>
              have := hop q rfl
              intro z
              exact q2 (congrArg some ((nI_eq (by omega) (by omega)).mp z).symm)
          simp (disch := omega) only [zl_0, zl_1, zl_2, zl_3, zl_4, zl_5, zl_6, zl_8, zl_9, zl_11, zl_12, zl_13, zl_16, zl_20, zl_23, zl_24, zl_30, zl_32, zl_40, zl_41, zl_43, zl_45, zl_50, zl_52, zl_60, zl_97, zl_99, zl_100, zl_124, zl_126, zl_127, zl_169, zl_170, zl_171, zl_195, zl_200, zl_201, zl_256, zl_261, zl_999, zl_1100, zl_1884, zl_4095, zl_4096, zd1, zd2, zs1, nI_add, pk_mul, zsb, zad1, zad2, zcl, zgI, zif_le, zif_nle, zif_lt, zif_nlt, zif_eq, zif_ne, zif_self, zif_T, zif_F, Nat.zero_add, Nat.add_sub_cancel, zn21, zn31, zif_m1, zif_m1l, zif_m1n, zif_pm, zb1_k, zb2_k, zb3_k, zb4_k, zb5_k, zb6_k, zb7_k, zb8_k, zb9_k, zb10_k, zb11_k, zb12_k, zb14_k, zb21_k, zb22_k, zupd_eq, zupd_ne, zupl_eq, zupl_ne, zupf_eq, zupf_ne, e5, zfn q3, zbs, zbor, hih]
  unfold fX3_closedEdges
  exact key (a 170) 0 5000 (by omega) (by omega)
theorem fm_live {a : Nat → Nat} {now : Nat → Int32} (hM : zMsh a) (hm : zMn a now) : fX11_live now = some (nI (zclm a none)) := by
  have h8 := hM.2.2.1
  have key : ∀ d j fu, j + d = a 170 → d < fu → fX11_live_L4 now fu (nI (zmask (zcx a none) j)) (nI j) = some (nI (zclm a none)) := by
    intro d
    induction d with
    | zero =>
      intro j fu hj hfu
      obtain ⟨fu, rfl⟩ : ∃ f, fu = f + 1 := ⟨fu - 1, by omega⟩
      rw [fX11_live_L4_s]
      simp (disch := omega) only [zl_0, zl_1, zl_2, zl_3, zl_4, zl_5, zl_6, zl_8, zl_9, zl_11, zl_12, zl_13, zl_16, zl_20, zl_23, zl_24, zl_30, zl_32, zl_40, zl_41, zl_43, zl_45, zl_50, zl_52, zl_60, zl_97, zl_99, zl_100, zl_124, zl_126, zl_127, zl_169, zl_170, zl_171, zl_195, zl_200, zl_201, zl_256, zl_261, zl_999, zl_1100, zl_1884, zl_4095, zl_4096, zd1, zd2, zs1, nI_add, pk_mul, zsb, zad1, zad2, zcl, zgI, zif_le, zif_nle, zif_lt, zif_nlt, zif_eq, zif_ne, zif_self, zif_T, zif_F, Nat.zero_add, Nat.add_sub_cancel, zn21, zn31, zif_m1, zif_m1l, zif_m1n, zif_pm, zb1_k, zb2_k, zb3_k, zb4_k, zb5_k, zb6_k, zb7_k, zb8_k, zb9_k, zb10_k, zb11_k, zb12_k, zb14_k, zb21_k, zb22_k, zupd_eq, zupd_ne, zupl_eq, zupl_ne, zupf_eq, zupf_ne, hm.1]
      rw [show j = a 170 by omega]
      rfl
    | succ d ih =>
      intro j fu hj hfu
      obtain ⟨fu, rfl⟩ : ∃ f, fu = f + 1 := ⟨fu - 1, by omega⟩
      have hj2 : j < a 170 := by omega
      have hW := (hM.2.2.2 j hj2).2.2.2
      have hih := ih (j + 1) fu (by omega) (by omega)
      have ml := zmask_8 (zcx a none) (show j ≤ 8 by omega)
      have p2 := zp2 (i := j) (by omega)
      rw [fX11_live_L4_s]
      by_cases q1 : a (171 + 3 * j + 2) = 0
      · have eq : zmask (zcx a none) (j + 1) = zmask (zcx a none) j := if_neg (fun z => (of_decide_eq_true z).1 q1)
        rw [eq] at hih
        simp (disch := omega) only [zl_0, zl_1, zl_2, zl_3, zl_4, zl_5, zl_6, zl_8, zl_9, zl_11, zl_12, zl_13, zl_16, zl_20, zl_23, zl_24, zl_30, zl_32, zl_40, zl_41, zl_43, zl_45, zl_50, zl_52, zl_60, zl_97, zl_99, zl_100, zl_124, zl_126, zl_127, zl_169, zl_170, zl_171, zl_195, zl_200, zl_201, zl_256, zl_261, zl_999, zl_1100, zl_1884, zl_4095, zl_4096, zd1, zd2, zs1, nI_add, pk_mul, zsb, zad1, zad2, zcl, zgI, zif_le, zif_nle, zif_lt, zif_nlt, zif_eq, zif_ne, zif_self, zif_T, zif_F, Nat.zero_add, Nat.add_sub_cancel, zn21, zn31, zif_m1, zif_m1l, zif_m1n, zif_pm, zb1_k, zb2_k, zb3_k, zb4_k, zb5_k, zb6_k, zb7_k, zb8_k, zb9_k, zb10_k, zb11_k, zb12_k, zb14_k, zb21_k, zb22_k, zupd_eq, zupd_ne, zupl_eq, zupl_ne, zupf_eq, zupf_ne, hm.1, zor0, hih]
      · have eq : zmask (zcx a none) (j + 1) = zmask (zcx a none) j ||| 2 ^ j := if_pos (decide_eq_true ⟨q1, fun z => by cases z⟩)
        rw [eq] at hih
        simp (disch := omega) only [zl_0, zl_1, zl_2, zl_3, zl_4, zl_5, zl_6, zl_8, zl_9, zl_11, zl_12, zl_13, zl_16, zl_20, zl_23, zl_24, zl_30, zl_32, zl_40, zl_41, zl_43, zl_45, zl_50, zl_52, zl_60, zl_97, zl_99, zl_100, zl_124, zl_126, zl_127, zl_169, zl_170, zl_171, zl_195, zl_200, zl_201, zl_256, zl_261, zl_999, zl_1100, zl_1884, zl_4095, zl_4096, zd1, zd2, zs1, nI_add, pk_mul, zsb, zad1, zad2, zcl, zgI, zif_le, zif_nle, zif_lt, zif_nlt, zif_eq, zif_ne, zif_self, zif_T, zif_F, Nat.zero_add, Nat.add_sub_cancel, zn21, zn31, zif_m1, zif_m1l, zif_m1n, zif_pm, zb1_k, zb2_k, zb3_k, zb4_k, zb5_k, zb6_k, zb7_k, zb8_k, zb9_k, zb10_k, zb11_k, zb12_k, zb14_k, zb21_k, zb22_k, zupd_eq, zupd_ne, zupl_eq, zupl_ne, zupf_eq, zupf_ne, hm.1, zbs, zbor, hih]
  unfold fX11_live
  exact key (a 170) 0 5000 (by omega) (by omega)
theorem zclm_lt {a : Nat → Nat} {op : Option Nat} (hM : zMsh a) : zclm a op < 256 := zmask_8 _ hM.2.2.1
/-- one edge open -/
theorem zclm_o {a : Nat → Nat} {e : Nat} (hM : zMsh a) (he : e < 8) : nI (zclm a none) &&& ((nI 1 <<< (nI e &&& 31)) ^^^ -nI 1) = nI (zclm a (some e)) := by
  have l := zclm_lt (op := none) hM
  have p2 := zp2 he
  rw [zbs he, zbn (by omega) (by omega)]
  congr 1
  have l2 := zdf_le (zclm a none) (2 ^ e)
  refine zext (k := 8) (by omega) (zclm_lt hM) (fun i hi => ?_)
  unfold zclm
  rw [zbt_df (by omega), zbt_2, zmask_b, zmask_b]
  unfold zcx
  constructor
  · rintro ⟨⟨h1, h2⟩, h3⟩
    exact ⟨h1, decide_eq_true ⟨(of_decide_eq_true h2).1, fun z => h3 (Option.some.inj z).symm⟩⟩
  · rintro ⟨h1, h2⟩
    exact ⟨⟨h1, decide_eq_true ⟨(of_decide_eq_true h2).1, fun z => by cases z⟩⟩, fun z => (of_decide_eq_true h2).2 (congrArg some z.symm)⟩
/-! ways, bridges -/
theorem q_ways {Fd : FD → Prop} {k : Nat} : zQ_ways (zR Fd) k := by
  intro xs ms h p1
  have h0 := h
  obtain ⟨a, hv, hx, hm, hr⟩ := h
  have hX := hx.2.2.1
  have hM := hv.2.2.2.1
  have ep : x_mesh_points xs = nI (a 169) := hX.1
  rcases zpoint p1 hM.2.1 (hm.1 169 (by omega)) with ⟨g1, g2⟩ | ⟨i, hi, rfl, g1, g2⟩
  · refine zfin0 (-nI 1) h0 ?_ ?_
    · simp (disch := omega) only [stX10_ways, fX10_ways, zl_0, zl_1, zl_2, zl_3, zl_4, zl_5, zl_6, zl_8, zl_9, zl_11, zl_12, zl_13, zl_16, zl_20, zl_23, zl_24, zl_30, zl_32, zl_40, zl_41, zl_43, zl_45, zl_50, zl_52, zl_60, zl_97, zl_99, zl_100, zl_124, zl_126, zl_127, zl_169, zl_170, zl_171, zl_195, zl_200, zl_201, zl_256, zl_261, zl_999, zl_1100, zl_1884, zl_4095, zl_4096, zd1, zd2, zs1, nI_add, pk_mul, zsb, zad1, zad2, zcl, zgI, zif_le, zif_nle, zif_lt, zif_nlt, zif_eq, zif_ne, zif_self, zif_T, zif_F, Nat.zero_add, Nat.add_sub_cancel, zn21, zn31, zif_m1, zif_m1l, zif_m1n, zif_pm, zb1_k, zb2_k, zb3_k, zb4_k, zb5_k, zb6_k, zb7_k, zb8_k, zb9_k, zb10_k, zb11_k, zb12_k, zb14_k, zb21_k, zb22_k, zupd_eq, zupd_ne, zupl_eq, zupl_ne, zupf_eq, zupf_ne, ep, g1]
    · simp (disch := omega) only [stX11_ways, fX11_ways, zl_0, zl_1, zl_2, zl_3, zl_4, zl_5, zl_6, zl_8, zl_9, zl_11, zl_12, zl_13, zl_16, zl_20, zl_23, zl_24, zl_30, zl_32, zl_40, zl_41, zl_43, zl_45, zl_50, zl_52, zl_60, zl_97, zl_99, zl_100, zl_124, zl_126, zl_127, zl_169, zl_170, zl_171, zl_195, zl_200, zl_201, zl_256, zl_261, zl_999, zl_1100, zl_1884, zl_4095, zl_4096, zd1, zd2, zs1, nI_add, pk_mul, zsb, zad1, zad2, zcl, zgI, zif_le, zif_nle, zif_lt, zif_nlt, zif_eq, zif_ne, zif_self, zif_T, zif_F, Nat.zero_add, Nat.add_sub_cancel, zn21, zn31, zif_m1, zif_m1l, zif_m1n, zif_pm, zb1_k, zb2_k, zb3_k, zb4_k, zb5_k, zb6_k, zb7_k, zb8_k, zb9_k, zb10_k, zb11_k, zb12_k, zb14_k, zb21_k, zb22_k, zupd_eq, zupd_ne, zupl_eq, zupl_ne, zupf_eq, zupf_ne, g2]
  have c1 := fx_closed (op := none) hM hX (fun q z => by cases z)
  rw [zopt_n] at c1
  have c2 := fx_pf hM hX (zclm_lt (op := none) hM) hi
  rw [ep] at c2
  have c3 := fm_live hM hm
  have c4 := fm_ct hM hm (zclm_lt (op := none) hM) hi
  refine zfin0 (nI (zre a i (zclm a none))) h0 ?_ ?_
  · simp (disch := omega) only [stX10_ways, fX10_ways, zl_0, zl_1, zl_2, zl_3, zl_4, zl_5, zl_6, zl_8, zl_9, zl_11, zl_12, zl_13, zl_16, zl_20, zl_23, zl_24, zl_30, zl_32, zl_40, zl_41, zl_43, zl_45, zl_50, zl_52, zl_60, zl_97, zl_99, zl_100, zl_124, zl_126, zl_127, zl_169, zl_170, zl_171, zl_195, zl_200, zl_201, zl_256, zl_261, zl_999, zl_1100, zl_1884, zl_4095, zl_4096, zd1, zd2, zs1, nI_add, pk_mul, zsb, zad1, zad2, zcl, zgI, zif_le, zif_nle, zif_lt, zif_nlt, zif_eq, zif_ne, zif_self, zif_T, zif_F, Nat.zero_add, Nat.add_sub_cancel, zn21, zn31, zif_m1, zif_m1l, zif_m1n, zif_pm, zb1_k, zb2_k, zb3_k, zb4_k, zb5_k, zb6_k, zb7_k, zb8_k, zb9_k, zb10_k, zb11_k, zb12_k, zb14_k, zb21_k, zb22_k, zupd_eq, zupd_ne, zupl_eq, zupl_ne, zupf_eq, zupf_ne, ep, g1, c1, c2]
  · simp (disch := omega) only [stX11_ways, fX11_ways, zl_0, zl_1, zl_2, zl_3, zl_4, zl_5, zl_6, zl_8, zl_9, zl_11, zl_12, zl_13, zl_16, zl_20, zl_23, zl_24, zl_30, zl_32, zl_40, zl_41, zl_43, zl_45, zl_50, zl_52, zl_60, zl_97, zl_99, zl_100, zl_124, zl_126, zl_127, zl_169, zl_170, zl_171, zl_195, zl_200, zl_201, zl_256, zl_261, zl_999, zl_1100, zl_1884, zl_4095, zl_4096, zd1, zd2, zs1, nI_add, pk_mul, zsb, zad1, zad2, zcl, zgI, zif_le, zif_nle, zif_lt, zif_nlt, zif_eq, zif_ne, zif_self, zif_T, zif_F, Nat.zero_add, Nat.add_sub_cancel, zn21, zn31, zif_m1, zif_m1l, zif_m1n, zif_pm, zb1_k, zb2_k, zb3_k, zb4_k, zb5_k, zb6_k, zb7_k, zb8_k, zb9_k, zb10_k, zb11_k, zb12_k, zb14_k, zb21_k, zb22_k, zupd_eq, zupd_ne, zupl_eq, zupl_ne, zupf_eq, zupf_ne, g2, c3, c4]
theorem fx_isWay {a : Nat → Nat} {one oth mo : Nat → Int32} {pts edg : Int32} {op : Option Nat} {x y : Nat} (hM : zMsh a) (hX : zXm a pts edg one oth mo) (hop : ∀ q, op = some q → q < 8) (hx : x < a 169) (hy : y < a 169) : fX3_isWay (nI x) (nI y) (zopt op) pts edg mo one oth = some (nI (zbt (zre a x (zclm a op)) y)) := by
  have h6 := hM.2.1
  have c1 := fx_closed hM hX hop
  have c2 := fx_pf hM hX (zclm_lt (op := op) hM) hx
  have l := zre_lt (c := zclm a op) hM hx
  have br := zbr (n := zre a x (zclm a op)) (i := y) (by omega) (by omega)
  unfold fX3_isWay
  rcases zbt_c (zre a x (zclm a op)) y with q | q
  · rw [q] at br ⊢
    simp (disch := omega) only [zl_0, zl_1, zl_2, zl_3, zl_4, zl_5, zl_6, zl_8, zl_9, zl_11, zl_12, zl_13, zl_16, zl_20, zl_23, zl_24, zl_30, zl_32, zl_40, zl_41, zl_43, zl_45, zl_50, zl_52, zl_60, zl_97, zl_99, zl_100, zl_124, zl_126, zl_127, zl_169, zl_170, zl_171, zl_195, zl_200, zl_201, zl_256, zl_261, zl_999, zl_1100, zl_1884, zl_4095, zl_4096, zd1, zd2, zs1, nI_add, pk_mul, zsb, zad1, zad2, zcl, zgI, zif_le, zif_nle, zif_lt, zif_nlt, zif_eq, zif_ne, zif_self, zif_T, zif_F, Nat.zero_add, Nat.add_sub_cancel, zn21, zn31, zif_m1, zif_m1l, zif_m1n, zif_pm, zb1_k, zb2_k, zb3_k, zb4_k, zb5_k, zb6_k, zb7_k, zb8_k, zb9_k, zb10_k, zb11_k, zb12_k, zb14_k, zb21_k, zb22_k, zupd_eq, zupd_ne, zupl_eq, zupl_ne, zupf_eq, zupf_ne, c1, c2, br]
  · rw [q] at br ⊢
    simp (disch := omega) only [zl_0, zl_1, zl_2, zl_3, zl_4, zl_5, zl_6, zl_8, zl_9, zl_11, zl_12, zl_13, zl_16, zl_20, zl_23, zl_24, zl_30, zl_32, zl_40, zl_41, zl_43, zl_45, zl_50, zl_52, zl_60, zl_97, zl_99, zl_100, zl_124, zl_126, zl_127, zl_169, zl_170, zl_171, zl_195, zl_200, zl_201, zl_256, zl_261, zl_999, zl_1100, zl_1884, zl_4095, zl_4096, zd1, zd2, zs1, nI_add, pk_mul, zsb, zad1, zad2, zcl, zgI, zif_le, zif_nle, zif_lt, zif_nlt, zif_eq, zif_ne, zif_self, zif_T, zif_F, Nat.zero_add, Nat.add_sub_cancel, zn21, zn31, zif_m1, zif_m1l, zif_m1n, zif_pm, zb1_k, zb2_k, zb3_k, zb4_k, zb5_k, zb6_k, zb7_k, zb8_k, zb9_k, zb10_k, zb11_k, zb12_k, zb14_k, zb21_k, zb22_k, zupd_eq, zupd_ne, zupl_eq, zupl_ne, zupf_eq, zupf_ne, c1, c2, br]
theorem q_bridges {Fd : FD → Prop} {k : Nat} : zQ_bridges (zR Fd) k := by
  intro xs ms h p1 p2
  have h0 := h
  obtain ⟨a, hv, hx, hm, hr⟩ := h
  have hX := hx.2.2.1
  have hM := hv.2.2.2.1
  have h8 := hM.2.2.1
  have h6 := hM.2.1
  have ep : x_mesh_points xs = nI (a 169) := hX.1
  have ee : x_mesh_edges xs = nI (a 170) := hX.2.1
  rcases zpoint p1 hM.2.1 (hm.1 169 (by omega)) with ⟨g1, g2⟩ | ⟨i, hi, rfl, g1, g2⟩
  · refine zfin0 (-nI 1) h0 ?_ ?_
    · simp (disch := omega) only [stX10_bridges, fX10_bridges, zl_0, zl_1, zl_2, zl_3, zl_4, zl_5, zl_6, zl_8, zl_9, zl_11, zl_12, zl_13, zl_16, zl_20, zl_23, zl_24, zl_30, zl_32, zl_40, zl_41, zl_43, zl_45, zl_50, zl_52, zl_60, zl_97, zl_99, zl_100, zl_124, zl_126, zl_127, zl_169, zl_170, zl_171, zl_195, zl_200, zl_201, zl_256, zl_261, zl_999, zl_1100, zl_1884, zl_4095, zl_4096, zd1, zd2, zs1, nI_add, pk_mul, zsb, zad1, zad2, zcl, zgI, zif_le, zif_nle, zif_lt, zif_nlt, zif_eq, zif_ne, zif_self, zif_T, zif_F, Nat.zero_add, Nat.add_sub_cancel, zn21, zn31, zif_m1, zif_m1l, zif_m1n, zif_pm, zb1_k, zb2_k, zb3_k, zb4_k, zb5_k, zb6_k, zb7_k, zb8_k, zb9_k, zb10_k, zb11_k, zb12_k, zb14_k, zb21_k, zb22_k, zupd_eq, zupd_ne, zupl_eq, zupl_ne, zupf_eq, zupf_ne, ep, g1]
    · simp (disch := omega) only [stX11_bridges, fX11_bridges, zl_0, zl_1, zl_2, zl_3, zl_4, zl_5, zl_6, zl_8, zl_9, zl_11, zl_12, zl_13, zl_16, zl_20, zl_23, zl_24, zl_30, zl_32, zl_40, zl_41, zl_43, zl_45, zl_50, zl_52, zl_60, zl_97, zl_99, zl_100, zl_124, zl_126, zl_127, zl_169, zl_170, zl_171, zl_195, zl_200, zl_201, zl_256, zl_261, zl_999, zl_1100, zl_1884, zl_4095, zl_4096, zd1, zd2, zs1, nI_add, pk_mul, zsb, zad1, zad2, zcl, zgI, zif_le, zif_nle, zif_lt, zif_nlt, zif_eq, zif_ne, zif_self, zif_T, zif_F, Nat.zero_add, Nat.add_sub_cancel, zn21, zn31, zif_m1, zif_m1l, zif_m1n, zif_pm, zb1_k, zb2_k, zb3_k, zb4_k, zb5_k, zb6_k, zb7_k, zb8_k, zb9_k, zb10_k, zb11_k, zb12_k, zb14_k, zb21_k, zb22_k, zupd_eq, zupd_ne, zupl_eq, zupl_ne, zupf_eq, zupf_ne, g2]
  rcases zpoint p2 hM.2.1 (hm.1 169 (by omega)) with ⟨g3, g4⟩ | ⟨j, hj, rfl, g3, g4⟩
  · refine zfin0 (-nI 1) h0 ?_ ?_
    · simp (disch := omega) only [stX10_bridges, fX10_bridges, zl_0, zl_1, zl_2, zl_3, zl_4, zl_5, zl_6, zl_8, zl_9, zl_11, zl_12, zl_13, zl_16, zl_20, zl_23, zl_24, zl_30, zl_32, zl_40, zl_41, zl_43, zl_45, zl_50, zl_52, zl_60, zl_97, zl_99, zl_100, zl_124, zl_126, zl_127, zl_169, zl_170, zl_171, zl_195, zl_200, zl_201, zl_256, zl_261, zl_999, zl_1100, zl_1884, zl_4095, zl_4096, zd1, zd2, zs1, nI_add, pk_mul, zsb, zad1, zad2, zcl, zgI, zif_le, zif_nle, zif_lt, zif_nlt, zif_eq, zif_ne, zif_self, zif_T, zif_F, Nat.zero_add, Nat.add_sub_cancel, zn21, zn31, zif_m1, zif_m1l, zif_m1n, zif_pm, zb1_k, zb2_k, zb3_k, zb4_k, zb5_k, zb6_k, zb7_k, zb8_k, zb9_k, zb10_k, zb11_k, zb12_k, zb14_k, zb21_k, zb22_k, zupd_eq, zupd_ne, zupl_eq, zupl_ne, zupf_eq, zupf_ne, ep, g1, g3]
    · simp (disch := omega) only [stX11_bridges, fX11_bridges, zl_0, zl_1, zl_2, zl_3, zl_4, zl_5, zl_6, zl_8, zl_9, zl_11, zl_12, zl_13, zl_16, zl_20, zl_23, zl_24, zl_30, zl_32, zl_40, zl_41, zl_43, zl_45, zl_50, zl_52, zl_60, zl_97, zl_99, zl_100, zl_124, zl_126, zl_127, zl_169, zl_170, zl_171, zl_195, zl_200, zl_201, zl_256, zl_261, zl_999, zl_1100, zl_1884, zl_4095, zl_4096, zd1, zd2, zs1, nI_add, pk_mul, zsb, zad1, zad2, zcl, zgI, zif_le, zif_nle, zif_lt, zif_nlt, zif_eq, zif_ne, zif_self, zif_T, zif_F, Nat.zero_add, Nat.add_sub_cancel, zn21, zn31, zif_m1, zif_m1l, zif_m1n, zif_pm, zb1_k, zb2_k, zb3_k, zb4_k, zb5_k, zb6_k, zb7_k, zb8_k, zb9_k, zb10_k, zb11_k, zb12_k, zb14_k, zb21_k, zb22_k, zupd_eq, zupd_ne, zupl_eq, zupl_ne, zupf_eq, zupf_ne, g2, g4]
  have c1 := fx_isWay (op := none) hM hX (fun q z => by cases z) hi hj
  rw [zopt_n, ep, ee] at c1
  have c3 := fm_live hM hm
  have c4 := fm_ct hM hm (zclm_lt (op := none) hM) hi
  have l := zre_lt (c := zclm a none) hM hi
  have br := zbr (n := zre a i (zclm a none)) (i := j) (by omega) (by omega)
  by_cases w : zbt (zre a i (zclm a none)) j = 1
  · have keyX : ∀ d e fu, e + d = a 170 → d < fu → fX3_bridgesOf_L5 (nI (a 169)) (nI (a 170)) (x_mesh_ohms xs) (x_mesh_one xs) (x_mesh_other xs) (nI i) (nI j) fu (nI (zmask (fun e => decide (¬ zbt (zre a i (zclm a (some e))) j = 1)) e)) (nI e) = some (nI (zmask (fun e => decide (¬ zbt (zre a i (zclm a (some e))) j = 1)) (a 170))) := by
      intro d
      induction d with
      | zero =>
        intro e fu he hfu
        obtain ⟨fu, rfl⟩ : ∃ f, fu = f + 1 := ⟨fu - 1, by omega⟩
        rw [fX3_bridgesOf_L5_s]
        simp (disch := omega) only [zl_0, zl_1, zl_2, zl_3, zl_4, zl_5, zl_6, zl_8, zl_9, zl_11, zl_12, zl_13, zl_16, zl_20, zl_23, zl_24, zl_30, zl_32, zl_40, zl_41, zl_43, zl_45, zl_50, zl_52, zl_60, zl_97, zl_99, zl_100, zl_124, zl_126, zl_127, zl_169, zl_170, zl_171, zl_195, zl_200, zl_201, zl_256, zl_261, zl_999, zl_1100, zl_1884, zl_4095, zl_4096, zd1, zd2, zs1, nI_add, pk_mul, zsb, zad1, zad2, zcl, zgI, zif_le, zif_nle, zif_lt, zif_nlt, zif_eq, zif_ne, zif_self, zif_T, zif_F, Nat.zero_add, Nat.add_sub_cancel, zn21, zn31, zif_m1, zif_m1l, zif_m1n, zif_pm, zb1_k, zb2_k, zb3_k, zb4_k, zb5_k, zb6_k, zb7_k, zb8_k, zb9_k, zb10_k, zb11_k, zb12_k, zb14_k, zb21_k, zb22_k, zupd_eq, zupd_ne, zupl_eq, zupl_ne, zupf_eq, zupf_ne]
        rw [show e = a 170 by omega]
      | succ d ih =>
        intro e fu he hfu
        obtain ⟨fu, rfl⟩ : ∃ f, fu = f + 1 := ⟨fu - 1, by omega⟩
        have hih := ih (e + 1) fu (by omega) (by omega)
        have cw := fx_isWay (op := some e) hM hX (fun q z => by cases z; omega) hi hj
        rw [zopt_j, ep, ee] at cw
        have ml := zmask_8 (fun e => decide (¬ zbt (zre a i (zclm a (some e))) j = 1)) (show e ≤ 8 by omega)
        have p2 := zp2 (i := e) (by omega)
        rw [fX3_bridgesOf_L5_s]
        by_cases q : zbt (zre a i (zclm a (some e))) j = 1
        · have eq : zmask (fun e => decide (¬ zbt (zre a i (zclm a (some e))) j = 1)) (e + 1) = zmask (fun e => decide (¬ zbt (zre a i (zclm a (some e))) j = 1)) e := if_neg (fun z => absurd q (of_decide_eq_true z))
          rw [eq] at hih
          simp (disch := omega) only [zl_0, zl_1, zl_2, zl_3, zl_4, zl_5, zl_6, zl_8, zl_9, zl_11, zl_12, zl_13, zl_16, zl_20, zl_23, zl_24, zl_30, zl_32, zl_40, zl_41, zl_43, zl_45, zl_50, zl_52, zl_60, zl_97, zl_99, zl_100, zl_124, zl_126, zl_127, zl_169, zl_170, zl_171, zl_195, zl_200, zl_201, zl_256, zl_261, zl_999, zl_1100, zl_1884, zl_4095, zl_4096, zd1, zd2, zs1, nI_add, pk_mul, zsb, zad1, zad2, zcl, zgI, zif_le, zif_nle, zif_lt, zif_nlt, zif_eq, zif_ne, zif_self, zif_T, zif_F, Nat.zero_add, Nat.add_sub_cancel, zn21, zn31, zif_m1, zif_m1l, zif_m1n, zif_pm, zb1_k, zb2_k, zb3_k, zb4_k, zb5_k, zb6_k, zb7_k, zb8_k, zb9_k, zb10_k, zb11_k, zb12_k, zb14_k, zb21_k, zb22_k, zupd_eq, zupd_ne, zupl_eq, zupl_ne, zupf_eq, zupf_ne, cw, zif_b1 q, hih]
        · have eq : zmask (fun e => decide (¬ zbt (zre a i (zclm a (some e))) j = 1)) (e + 1) = zmask (fun e => decide (¬ zbt (zre a i (zclm a (some e))) j = 1)) e ||| 2 ^ e := if_pos (decide_eq_true q)
          rw [eq] at hih
          simp (disch := omega) only [zl_0, zl_1, zl_2, zl_3, zl_4, zl_5, zl_6, zl_8, zl_9, zl_11, zl_12, zl_13, zl_16, zl_20, zl_23, zl_24, zl_30, zl_32, zl_40, zl_41, zl_43, zl_45, zl_50, zl_52, zl_60, zl_97, zl_99, zl_100, zl_124, zl_126, zl_127, zl_169, zl_170, zl_171, zl_195, zl_200, zl_201, zl_256, zl_261, zl_999, zl_1100, zl_1884, zl_4095, zl_4096, zd1, zd2, zs1, nI_add, pk_mul, zsb, zad1, zad2, zcl, zgI, zif_le, zif_nle, zif_lt, zif_nlt, zif_eq, zif_ne, zif_self, zif_T, zif_F, Nat.zero_add, Nat.add_sub_cancel, zn21, zn31, zif_m1, zif_m1l, zif_m1n, zif_pm, zb1_k, zb2_k, zb3_k, zb4_k, zb5_k, zb6_k, zb7_k, zb8_k, zb9_k, zb10_k, zb11_k, zb12_k, zb14_k, zb21_k, zb22_k, zupd_eq, zupd_ne, zupl_eq, zupl_ne, zupf_eq, zupf_ne, cw, zif_b0 q, zbs, zbor, hih]
    have keyM : ∀ d e fu, e + d = a 170 → d < fu → fX11_bridges_L42 (m_now ms) (nI i) (nI j) fu (nI (zmask (fun e => decide (¬ zbt (zre a i (zclm a (some e))) j = 1)) e)) (nI e) = some (nI (zmask (fun e => decide (¬ zbt (zre a i (zclm a (some e))) j = 1)) (a 170))) := by
      intro d
      induction d with
      | zero =>
        intro e fu he hfu
        obtain ⟨fu, rfl⟩ : ∃ f, fu = f + 1 := ⟨fu - 1, by omega⟩
        rw [fX11_bridges_L42_s]
        simp (disch := omega) only [zl_0, zl_1, zl_2, zl_3, zl_4, zl_5, zl_6, zl_8, zl_9, zl_11, zl_12, zl_13, zl_16, zl_20, zl_23, zl_24, zl_30, zl_32, zl_40, zl_41, zl_43, zl_45, zl_50, zl_52, zl_60, zl_97, zl_99, zl_100, zl_124, zl_126, zl_127, zl_169, zl_170, zl_171, zl_195, zl_200, zl_201, zl_256, zl_261, zl_999, zl_1100, zl_1884, zl_4095, zl_4096, zd1, zd2, zs1, nI_add, pk_mul, zsb, zad1, zad2, zcl, zgI, zif_le, zif_nle, zif_lt, zif_nlt, zif_eq, zif_ne, zif_self, zif_T, zif_F, Nat.zero_add, Nat.add_sub_cancel, zn21, zn31, zif_m1, zif_m1l, zif_m1n, zif_pm, zb1_k, zb2_k, zb3_k, zb4_k, zb5_k, zb6_k, zb7_k, zb8_k, zb9_k, zb10_k, zb11_k, zb12_k, zb14_k, zb21_k, zb22_k, zupd_eq, zupd_ne, zupl_eq, zupl_ne, zupf_eq, zupf_ne, hm.1]
        rw [show e = a 170 by omega]
      | succ d ih =>
        intro e fu he hfu
        obtain ⟨fu, rfl⟩ : ∃ f, fu = f + 1 := ⟨fu - 1, by omega⟩
        have hih := ih (e + 1) fu (by omega) (by omega)
        have co := zclm_o (e := e) hM (by omega)
        have co2 := co
        rw [zbs (by omega)] at co2
        have cw := fm_ct hM hm (zclm_lt (op := some e) hM) hi
        have lw := zre_lt (c := zclm a (some e)) hM hi
        have bw := zbr (n := zre a i (zclm a (some e))) (i := j) (by omega) (by omega)
        have ml := zmask_8 (fun e => decide (¬ zbt (zre a i (zclm a (some e))) j = 1)) (show e ≤ 8 by omega)
        have p2 := zp2 (i := e) (by omega)
        rw [fX11_bridges_L42_s]
        by_cases q : zbt (zre a i (zclm a (some e))) j = 1
        · have eq : zmask (fun e => decide (¬ zbt (zre a i (zclm a (some e))) j = 1)) (e + 1) = zmask (fun e => decide (¬ zbt (zre a i (zclm a (some e))) j = 1)) e := if_neg (fun z => absurd q (of_decide_eq_true z))
          rw [eq] at hih
          simp (disch := omega) only [zl_0, zl_1, zl_2, zl_3, zl_4, zl_5, zl_6, zl_8, zl_9, zl_11, zl_12, zl_13, zl_16, zl_20, zl_23, zl_24, zl_30, zl_32, zl_40, zl_41, zl_43, zl_45, zl_50, zl_52, zl_60, zl_97, zl_99, zl_100, zl_124, zl_126, zl_127, zl_169, zl_170, zl_171, zl_195, zl_200, zl_201, zl_256, zl_261, zl_999, zl_1100, zl_1884, zl_4095, zl_4096, zd1, zd2, zs1, nI_add, pk_mul, zsb, zad1, zad2, zcl, zgI, zif_le, zif_nle, zif_lt, zif_nlt, zif_eq, zif_ne, zif_self, zif_T, zif_F, Nat.zero_add, Nat.add_sub_cancel, zn21, zn31, zif_m1, zif_m1l, zif_m1n, zif_pm, zb1_k, zb2_k, zb3_k, zb4_k, zb5_k, zb6_k, zb7_k, zb8_k, zb9_k, zb10_k, zb11_k, zb12_k, zb14_k, zb21_k, zb22_k, zupd_eq, zupd_ne, zupl_eq, zupl_ne, zupf_eq, zupf_ne, hm.1, c3, co, cw, bw, zif_b1 q, zor0, hih]
        · have eq : zmask (fun e => decide (¬ zbt (zre a i (zclm a (some e))) j = 1)) (e + 1) = zmask (fun e => decide (¬ zbt (zre a i (zclm a (some e))) j = 1)) e ||| 2 ^ e := if_pos (decide_eq_true q)
          rw [eq] at hih
          simp (disch := omega) only [zl_0, zl_1, zl_2, zl_3, zl_4, zl_5, zl_6, zl_8, zl_9, zl_11, zl_12, zl_13, zl_16, zl_20, zl_23, zl_24, zl_30, zl_32, zl_40, zl_41, zl_43, zl_45, zl_50, zl_52, zl_60, zl_97, zl_99, zl_100, zl_124, zl_126, zl_127, zl_169, zl_170, zl_171, zl_195, zl_200, zl_201, zl_256, zl_261, zl_999, zl_1100, zl_1884, zl_4095, zl_4096, zd1, zd2, zs1, nI_add, pk_mul, zsb, zad1, zad2, zcl, zgI, zif_le, zif_nle, zif_lt, zif_nlt, zif_eq, zif_ne, zif_self, zif_T, zif_F, Nat.zero_add, Nat.add_sub_cancel, zn21, zn31, zif_m1, zif_m1l, zif_m1n, zif_pm, zb1_k, zb2_k, zb3_k, zb4_k, zb5_k, zb6_k, zb7_k, zb8_k, zb9_k, zb10_k, zb11_k, zb12_k, zb14_k, zb21_k, zb22_k, zupd_eq, zupd_ne, zupl_eq, zupl_ne, zupf_eq, zupf_ne, hm.1, c3, co, co2, cw, bw, zif_b0 q, zbs, zbor, hih]
    have kx := keyX (a 170) 0 5000 (by omega) (by omega)
    have km := keyM (a 170) 0 5000 (by omega) (by omega)
    have kx : fX3_bridgesOf (nI i) (nI j) (nI (a 169)) (nI (a 170)) (x_mesh_ohms xs) (x_mesh_one xs) (x_mesh_other xs) = _ := kx
    have km2 : fX11_bridges (nI i) (nI j) (m_now ms) = some (nI (zmask (fun e => decide (¬ zbt (zre a i (zclm a (some e))) j = 1)) (a 170))) := by
      unfold fX11_bridges
      rw [g2, zb1_k, zfn (show ¬ nI 1 = (0 : Int32) by decide), g4, zb1_k, zfn (show ¬ nI 1 = (0 : Int32) by decide), c3, zb1_k, c4, zb1_k, zl_1, br, zl_0, zif_b1 w]
      exact km
    refine zfin0 (nI (zmask (fun e => decide (¬ zbt (zre a i (zclm a (some e))) j = 1)) (a 170))) h0 ?_ ?_
    · simp (disch := omega) only [stX10_bridges, fX10_bridges, zl_0, zl_1, zl_2, zl_3, zl_4, zl_5, zl_6, zl_8, zl_9, zl_11, zl_12, zl_13, zl_16, zl_20, zl_23, zl_24, zl_30, zl_32, zl_40, zl_41, zl_43, zl_45, zl_50, zl_52, zl_60, zl_97, zl_99, zl_100, zl_124, zl_126, zl_127, zl_169, zl_170, zl_171, zl_195, zl_200, zl_201, zl_256, zl_261, zl_999, zl_1100, zl_1884, zl_4095, zl_4096, zd1, zd2, zs1, nI_add, pk_mul, zsb, zad1, zad2, zcl, zgI, zif_le, zif_nle, zif_lt, zif_nlt, zif_eq, zif_ne, zif_self, zif_T, zif_F, Nat.zero_add, Nat.add_sub_cancel, zn21, zn31, zif_m1, zif_m1l, zif_m1n, zif_pm, zb1_k, zb2_k, zb3_k, zb4_k, zb5_k, zb6_k, zb7_k, zb8_k, zb9_k, zb10_k, zb11_k, zb12_k, zb14_k, zb21_k, zb22_k, zupd_eq, zupd_ne, zupl_eq, zupl_ne, zupf_eq, zupf_ne, ep, ee, g1, g3, c1, zif_b1 w, kx]
    · unfold stX11_bridges
      rw [km2]
      rfl
  · refine zfin0 (-nI 5) h0 ?_ ?_
    · simp (disch := omega) only [stX10_bridges, fX10_bridges, zl_0, zl_1, zl_2, zl_3, zl_4, zl_5, zl_6, zl_8, zl_9, zl_11, zl_12, zl_13, zl_16, zl_20, zl_23, zl_24, zl_30, zl_32, zl_40, zl_41, zl_43, zl_45, zl_50, zl_52, zl_60, zl_97, zl_99, zl_100, zl_124, zl_126, zl_127, zl_169, zl_170, zl_171, zl_195, zl_200, zl_201, zl_256, zl_261, zl_999, zl_1100, zl_1884, zl_4095, zl_4096, zd1, zd2, zs1, nI_add, pk_mul, zsb, zad1, zad2, zcl, zgI, zif_le, zif_nle, zif_lt, zif_nlt, zif_eq, zif_ne, zif_self, zif_T, zif_F, Nat.zero_add, Nat.add_sub_cancel, zn21, zn31, zif_m1, zif_m1l, zif_m1n, zif_pm, zb1_k, zb2_k, zb3_k, zb4_k, zb5_k, zb6_k, zb7_k, zb8_k, zb9_k, zb10_k, zb11_k, zb12_k, zb14_k, zb21_k, zb22_k, zupd_eq, zupd_ne, zupl_eq, zupl_ne, zupf_eq, zupf_ne, ep, ee, g1, g3, c1, zif_b0 w]
    · simp (disch := omega) only [stX11_bridges, fX11_bridges, zl_0, zl_1, zl_2, zl_3, zl_4, zl_5, zl_6, zl_8, zl_9, zl_11, zl_12, zl_13, zl_16, zl_20, zl_23, zl_24, zl_30, zl_32, zl_40, zl_41, zl_43, zl_45, zl_50, zl_52, zl_60, zl_97, zl_99, zl_100, zl_124, zl_126, zl_127, zl_169, zl_170, zl_171, zl_195, zl_200, zl_201, zl_256, zl_261, zl_999, zl_1100, zl_1884, zl_4095, zl_4096, zd1, zd2, zs1, nI_add, pk_mul, zsb, zad1, zad2, zcl, zgI, zif_le, zif_nle, zif_lt, zif_nlt, zif_eq, zif_ne, zif_self, zif_T, zif_F, Nat.zero_add, Nat.add_sub_cancel, zn21, zn31, zif_m1, zif_m1l, zif_m1n, zif_pm, zb1_k, zb2_k, zb3_k, zb4_k, zb5_k, zb6_k, zb7_k, zb8_k, zb9_k, zb10_k, zb11_k, zb12_k, zb14_k, zb21_k, zb22_k, zupd_eq, zupd_ne, zupl_eq, zupl_ne, zupf_eq, zupf_ne, g2, g4, c3, c4, br, zif_b0 w]
