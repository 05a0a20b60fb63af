/-! reading the tape: the first way through, on both sides -/
def zac (a : Nat → Nat) (c : Nat) : Bool := decide (97 ≤ c ∧ c ≤ 100 ∧ a (c - 97) ≠ 0)
def zst (B : Nat → Bool) (st : List Nat) (parts : Nat) (w : Bool) (c : Nat) : Option (List Nat × Nat × Bool × Option (Nat × Nat)) :=
  if w = true then (if c = 40 ∧ st.length < 11 then some (0 :: st, parts, true, none) else if B c = true ∧ parts < 12 then some (st, parts + 1, false, some (0, c - 97)) else none)
  else match st with
    | [] => none
    | 0 :: r => if c = 43 then some (1 :: r, parts, true, none) else if c = 124 then some (2 :: r, parts, true, none) else none
    | (s + 1) :: r => if c = 41 then some (r, parts, false, some (s + 1, 0)) else none
abbrev zRs : Type := Nat ⊕ List (Nat × Nat)
def zTcn : Option (Nat × Nat) → zRs → zRs
  | _, .inl e => .inl e
  | none, .inr ts => .inr ts
  | some t, .inr ts => .inr (t :: ts)
def zsc (B : Nat → Bool) (T : Nat → Nat) : Nat → Nat → List Nat → Nat → Bool → zRs
  | 0, pos, st, _, w => if w = false ∧ st = [] then .inr [] else .inl pos
  | d + 1, pos, st, parts, w => match zst B st parts w (T pos) with
    | none => .inl pos
    | some q => zTcn q.2.2.2 (zsc B T d (pos + 1) q.1 q.2.1 q.2.2.1)
theorem zsc_n {B : Nat → Bool} {T : Nat → Nat} {d pos parts : Nat} {st : List Nat} {w : Bool} (h : zst B st parts w (T pos) = none) : zsc B T (d + 1) pos st parts w = .inl pos := by
  unfold zsc
  rw [h]
theorem zsc_s {B : Nat → Bool} {T : Nat → Nat} {d pos parts : Nat} {st : List Nat} {w : Bool} {q} (h : zst B st parts w (T pos) = some q) : zsc B T (d + 1) pos st parts w = zTcn q.2.2.2 (zsc B T d (pos + 1) q.1 q.2.1 q.2.2.1) := by
  rw [zsc, h]
def znz : List Nat → Nat
  | [] => 0
  | x :: r => (if x = 0 then 0 else 1) + znz r
theorem znz_le : ∀ st : List Nat, znz st ≤ st.length
  | [] => Nat.le_refl _
  | x :: r => by
    have := znz_le r
    show (if x = 0 then 0 else 1) + znz r ≤ r.length + 1
    split <;> omega
/-- the stack of what is open, laid in an array -/
def zSk (g : Nat → Int32) (arr : Nat → Int32) : List Nat → Prop
  | [] => True
  | x :: r => arr r.length = g x ∧ zSk g arr r
theorem zSk_up {g : Nat → Int32} {arr : Nat → Int32} {k : Nat} {v : Int32} : ∀ st : List Nat, st.length ≤ k → zSk g arr st → zSk g (upd arr k v) st
  | [], _, _ => trivial
  | x :: r, hk, h => by
    have hk : r.length + 1 ≤ k := hk
    exact ⟨by rw [zupd_ne (by omega)]; exact h.1, zSk_up r (by omega) h.2⟩
def zgX (x : Nat) : Int32 := if x = 0 then -nI 1 else nI x
theorem zleX : ∀ c, c < 127 → fX10_isSort (nI c - nI 97) = some (if 97 ≤ c ∧ c ≤ 100 then nI 1 else nI 0) := by decide +kernel
theorem zleM : ∀ c, c < 127 → fX11_in (nI c).toInt64 (97 : Int64) (100 : Int64) = some (if 97 ≤ c ∧ c ≤ 100 then nI 1 else nI 0) := by decide +kernel
theorem zleJ : ∀ c, c < 127 → fX8_joinOf (nI c) = some (if c = 43 then nI 1 else if c = 124 then nI 2 else -nI 1) := by decide +kernel
theorem fx_letter {a : Nat → Nat} {ohms spread : Nat → Int32} (hx : zXb a ohms spread) (hb : zBox a) {c : Nat} (hc : c < 127) : fX0_has (nI c - nI 97) ohms = some (if zac a c = true then nI 1 else nI 0) := by
  by_cases h : 97 ≤ c ∧ c ≤ 100
  · have e : nI c - nI 97 = nI (c - 97) := by rw [zsb (by omega)]
    rw [e, fx_hasSort hx hb (by omega)]
    by_cases z : a (c - 97) = 0
    · rw [if_pos z, if_neg (fun q => (of_decide_eq_true q).2.2 z)]
    · have zc : zac a c = true := decide_eq_true ⟨h.1, h.2, z⟩
      rw [if_neg z, if_pos zc]
  · have := zleX c hc
    rw [if_neg h] at this
    unfold fX0_has
    have zc : ¬ zac a c = true := fun q => h ⟨(of_decide_eq_true q).1, (of_decide_eq_true q).2.1⟩
    rw [this, zb1_k, if_neg zc]
    rfl
/-- the tokens laid in the plan -/
def zTk (kind sort : Nat → Int32) : Nat → List (Nat × Nat) → Prop
  | _, [] => True
  | n, t :: r => kind n = nI t.1 ∧ (t.1 = 0 → sort n = nI t.2) ∧ zTk kind sort (n + 1) r
def zXe (L n : Nat) (kind sort : Nat → Int32) : zRs → Option (Int32 × Int32 × (Nat → Int32) × (Nat → Int32) × (Nat → Int32)) → Prop
  | .inl e, x => e ≤ L ∧ ∃ l j k s, x = some (nI e, l, j, k, s)
  | .inr ts, x => ∃ j k s, x = some (-nI 1, nI (n + ts.length), j, k, s) ∧ (∀ i, i < n → k i = kind i ∧ s i = sort i) ∧ zTk k s n ts ∧ n + ts.length ≤ 23
theorem zXe_t {L n : Nat} {kind sort : Nat → Int32} {t : Nat × Nat} {u v : Int32} (h1 : u = nI t.1) (h2 : t.1 = 0 → v = nI t.2) : ∀ {R : zRs} {x : Option (Int32 × Int32 × (Nat → Int32) × (Nat → Int32) × (Nat → Int32))}, zXe L (n + 1) (upd kind n u) (upd sort n v) R x → zXe L n kind sort (zTcn (some t) R) x
  | .inl e, x, h => h
  | .inr ts, x, h => by
    obtain ⟨j, k, s, g1, g2, g3, g4⟩ := h
    have g5 := g2 n (by omega)
    rw [zupd_eq rfl, zupd_eq rfl] at g5
    refine ⟨j, k, s, ?_, fun i hi => ?_, ⟨g5.1.trans h1, fun z => g5.2.trans (h2 z), g3⟩, ?_⟩
    · rw [g1, show n + (t :: ts).length = n + 1 + ts.length by rw [List.length_cons]; omega]
    · have := g2 i (by omega)
      rw [zupd_ne (by omega), zupd_ne (by omega)] at this
      exact this
    · rw [List.length_cons]; omega
theorem zXe_0 {L n : Nat} {kind sort : Nat → Int32} : ∀ {R : zRs} {x : Option (Int32 × Int32 × (Nat → Int32) × (Nat → Int32) × (Nat → Int32))}, zXe L n kind sort R x → zXe L n kind sort (zTcn none R) x
  | .inl e, x, h => h
  | .inr ts, x, h => h
theorem fx_foL {a : Nat → Nat} {ohms spread letters : Nat → Int32} {L : Nat} {T : Nat → Nat} (hB : zXb a ohms spread) (hb : zBox a) (hL : L ≤ 60) (hT : ∀ i, i < L → 32 ≤ T i ∧ T i ≤ 126) (hl : ∀ i, i < L → letters i = nI (T i)) : ∀ (d pos fu : Nat) (st : List Nat) (parts : Nat) (w : Bool) (n : Nat) (joins kind sort : Nat → Int32), pos + d = L → d < fu → st.length ≤ 11 → (∀ x ∈ st, x ≤ 2) → parts ≤ 12 → n + znz st + (if w = true then 0 else 1) = 2 * parts → zSk zgX joins st → zXe L n kind sort (zsc (zac a) T d pos st parts w) (fX8_faultOrPlan_L16 (fX8_faultOrPlan_J205 (nI L)) (nI L) letters ohms fu (nI st.length) (nI parts) (nI (if w = true then 1 else 0)) (nI pos) (nI n) joins kind sort) := by
  intro d
  induction d with
  | zero =>
    intro pos fu st parts w n joins kind sort hd hfu hst h2 hp hn hk
    obtain ⟨fu, rfl⟩ : ∃ f, fu = f + 1 := ⟨fu - 1, by omega⟩
    rw [fX8_faultOrPlan_L16_s]
    cases w with
    | true =>
      show zXe L n kind sort (.inl pos) _
      refine ⟨by omega, nI n, joins, kind, sort, ?_⟩
      simp (disch := omega) only [zl_0, zl_1, zl_2, zl_3, zl_4, zl_5, zl_6, zl_8, zl_9, zl_11, zl_12, zl_13, zl_16, zl_20, zl_23, zl_24, zl_30, zl_32, zl_40, zl_41, zl_43, zl_45, zl_50, zl_52, zl_60, zl_97, zl_99, zl_100, zl_124, zl_126, zl_127, zl_169, zl_170, zl_171, zl_195, zl_200, zl_201, zl_256, zl_261, zl_999, zl_1100, zl_1884, zl_4095, zl_4096, zd1, zd2, zs1, nI_add, pk_mul, zsb, zad1, zad2, zcl, zgI, zif_le, zif_nle, zif_lt, zif_nlt, zif_eq, zif_ne, zif_self, zif_T, zif_F, Nat.zero_add, Nat.add_sub_cancel, zn21, zn31, zif_m1, zif_m1l, zif_m1n, zif_pm, zb1_k, zb2_k, zb3_k, zb4_k, zb5_k, zb6_k, zb7_k, zb8_k, zb9_k, zb10_k, zb11_k, zb12_k, zb14_k, zb21_k, zb22_k, zupd_eq, zupd_ne, zupl_eq, zupl_ne, zupf_eq, zupf_ne, if_true, fX8_faultOrPlan_J205]
      rw [show pos = L by omega]
    | false =>
      cases st with
      | nil =>
        show zXe L n kind sort (.inr []) _
        refine ⟨joins, kind, sort, ?_, fun _ _ => ⟨rfl, rfl⟩, trivial, ?_⟩
        · simp (disch := omega) only [zl_0, zl_1, zl_2, zl_3, zl_4, zl_5, zl_6, zl_8, zl_9, zl_11, zl_12, zl_13, zl_16, zl_20, zl_23, zl_24, zl_30, zl_32, zl_40, zl_41, zl_43, zl_45, zl_50, zl_52, zl_60, zl_97, zl_99, zl_100, zl_124, zl_126, zl_127, zl_169, zl_170, zl_171, zl_195, zl_200, zl_201, zl_256, zl_261, zl_999, zl_1100, zl_1884, zl_4095, zl_4096, zd1, zd2, zs1, nI_add, pk_mul, zsb, zad1, zad2, zcl, zgI, zif_le, zif_nle, zif_lt, zif_nlt, zif_eq, zif_ne, zif_self, zif_T, zif_F, Nat.zero_add, Nat.add_sub_cancel, zn21, zn31, zif_m1, zif_m1l, zif_m1n, zif_pm, zb1_k, zb2_k, zb3_k, zb4_k, zb5_k, zb6_k, zb7_k, zb8_k, zb9_k, zb10_k, zb11_k, zb12_k, zb14_k, zb21_k, zb22_k, zupd_eq, zupd_ne, zupl_eq, zupl_ne, zupf_eq, zupf_ne, if_false, Bool.false_eq_true, List.length_nil, fX8_faultOrPlan_J205, Nat.add_zero]
        · simp only [znz, if_false, Bool.false_eq_true, List.length_nil] at hn ⊢; omega
      | cons x r =>
        show zXe L n kind sort (.inl pos) _
        rw [List.length_cons] at hst ⊢
        refine ⟨by omega, nI n, joins, kind, sort, ?_⟩
        simp (disch := omega) only [zl_0, zl_1, zl_2, zl_3, zl_4, zl_5, zl_6, zl_8, zl_9, zl_11, zl_12, zl_13, zl_16, zl_20, zl_23, zl_24, zl_30, zl_32, zl_40, zl_41, zl_43, zl_45, zl_50, zl_52, zl_60, zl_97, zl_99, zl_100, zl_124, zl_126, zl_127, zl_169, zl_170, zl_171, zl_195, zl_200, zl_201, zl_256, zl_261, zl_999, zl_1100, zl_1884, zl_4095, zl_4096, zd1, zd2, zs1, nI_add, pk_mul, zsb, zad1, zad2, zcl, zgI, zif_le, zif_nle, zif_lt, zif_nlt, zif_eq, zif_ne, zif_self, zif_T, zif_F, Nat.zero_add, Nat.add_sub_cancel, zn21, zn31, zif_m1, zif_m1l, zif_m1n, zif_pm, zb1_k, zb2_k, zb3_k, zb4_k, zb5_k, zb6_k, zb7_k, zb8_k, zb9_k, zb10_k, zb11_k, zb12_k, zb14_k, zb21_k, zb22_k, zupd_eq, zupd_ne, zupl_eq, zupl_ne, zupf_eq, zupf_ne, if_false, Bool.false_eq_true, fX8_faultOrPlan_J205]
        rw [show pos = L by omega]
  | succ d ih =>
    intro pos fu st parts w n joins kind sort hd hfu hst h2 hp hn hk
    obtain ⟨fu, rfl⟩ : ∃ f, fu = f + 1 := ⟨fu - 1, by omega⟩
    have hT1 := hT pos (by omega)
    have el := hl pos (by omega)
    have fl := fx_letter hB hb (c := T pos) (by omega)
    have fj := zleJ (T pos) (by omega)
    rw [fX8_faultOrPlan_L16_s]
    have bad : zst (zac a) st parts w (T pos) = none → ∀ x, x = some (nI pos, nI n, joins, kind, sort) → zXe L n kind sort (zsc (zac a) T (d + 1) pos st parts w) x := fun h x hx => by
      rw [zsc_n h]
      exact ⟨by omega, nI n, joins, kind, sort, hx⟩
    cases w with
    | true =>
      simp only [if_true] at hn ⊢
      by_cases c1 : T pos = 40
      · by_cases c2 : st.length < 11
        · have hz : zst (zac a) st parts true (T pos) = some (0 :: st, parts, true, none) := by
            unfold zst; rw [if_pos rfl, if_pos ⟨c1, c2⟩]
          rw [zsc_s hz]
          apply zXe_0
          have := ih (pos + 1) fu (0 :: st) parts true n (upd joins st.length (-nI 1)) kind sort (by omega) (by omega) (by rw [List.length_cons]; omega) (fun x hx => by rcases List.mem_cons.mp hx with rfl | hx; omega; exact h2 x hx) hp (by show n + (0 + znz st) + 0 = _; omega) ⟨by rw [zupd_eq rfl]; rfl, zSk_up st (Nat.le_refl _) hk⟩
          rw [List.length_cons] at this
          simp only [if_true] at this
          rw [c1] at el
          simp (disch := omega) only [zl_0, zl_1, zl_2, zl_3, zl_4, zl_5, zl_6, zl_8, zl_9, zl_11, zl_12, zl_13, zl_16, zl_20, zl_23, zl_24, zl_30, zl_32, zl_40, zl_41, zl_43, zl_45, zl_50, zl_52, zl_60, zl_97, zl_99, zl_100, zl_124, zl_126, zl_127, zl_169, zl_170, zl_171, zl_195, zl_200, zl_201, zl_256, zl_261, zl_999, zl_1100, zl_1884, zl_4095, zl_4096, zd1, zd2, zs1, nI_add, pk_mul, zsb, zad1, zad2, zcl, zgI, zif_le, zif_nle, zif_lt, zif_nlt, zif_eq, zif_ne, zif_self, zif_T, zif_F, Nat.zero_add, Nat.add_sub_cancel, zn21, zn31, zif_m1, zif_m1l, zif_m1n, zif_pm, zb1_k, zb2_k, zb3_k, zb4_k, zb5_k, zb6_k, zb7_k, zb8_k, zb9_k, zb10_k, zb11_k, zb12_k, zb14_k, zb21_k, zb22_k, zupd_eq, zupd_ne, zupl_eq, zupl_ne, zupf_eq, zupf_ne, el]
          exact this
        · have hz : zst (zac a) st parts true (T pos) = none := by
            unfold zst; rw [if_pos rfl, if_neg (fun z => c2 z.2), if_neg (fun z => by have := (of_decide_eq_true z.1).1; omega)]
          refine bad hz _ ?_
          have nb : ¬ zac a (T pos) = true := fun z => by have := (of_decide_eq_true z).1; omega
          rw [if_neg nb] at fl
          rw [c1] at el fl
          simp (disch := omega) only [zl_0, zl_1, zl_2, zl_3, zl_4, zl_5, zl_6, zl_8, zl_9, zl_11, zl_12, zl_13, zl_16, zl_20, zl_23, zl_24, zl_30, zl_32, zl_40, zl_41, zl_43, zl_45, zl_50, zl_52, zl_60, zl_97, zl_99, zl_100, zl_124, zl_126, zl_127, zl_169, zl_170, zl_171, zl_195, zl_200, zl_201, zl_256, zl_261, zl_999, zl_1100, zl_1884, zl_4095, zl_4096, zd1, zd2, zs1, nI_add, pk_mul, zsb, zad1, zad2, zcl, zgI, zif_le, zif_nle, zif_lt, zif_nlt, zif_eq, zif_ne, zif_self, zif_T, zif_F, Nat.zero_add, Nat.add_sub_cancel, zn21, zn31, zif_m1, zif_m1l, zif_m1n, zif_pm, zb1_k, zb2_k, zb3_k, zb4_k, zb5_k, zb6_k, zb7_k, zb8_k, zb9_k, zb10_k, zb11_k, zb12_k, zb14_k, zb21_k, zb22_k, zupd_eq, zupd_ne, zupl_eq, zupl_ne, zupf_eq, zupf_ne, el, fX8_faultOrPlan_J65, fX8_faultOrPlan_J108, fl]
      · by_cases c3 : zac a (T pos) = true
        · rw [if_pos c3] at fl
          have r := of_decide_eq_true c3
          rw [zsb r.1] at fl
          by_cases c4 : parts < 12
          · have hz : zst (zac a) st parts true (T pos) = some (st, parts + 1, false, some (0, T pos - 97)) := by
              unfold zst; rw [if_pos rfl, if_neg (fun z => c1 z.1), if_pos ⟨c3, c4⟩]
            rw [zsc_s hz]
            apply zXe_t (u := nI 0) (v := nI (T pos - 97)) rfl (fun _ => rfl)
            have := ih (pos + 1) fu st (parts + 1) false (n + 1) joins (upd kind n (nI 0)) (upd sort n (nI (T pos - 97))) (by omega) (by omega) hst h2 (by omega) (by simp only [if_false, Bool.false_eq_true]; omega) hk
            simp only [if_false, Bool.false_eq_true] at this
            simp (disch := omega) only [zl_0, zl_1, zl_2, zl_3, zl_4, zl_5, zl_6, zl_8, zl_9, zl_11, zl_12, zl_13, zl_16, zl_20, zl_23, zl_24, zl_30, zl_32, zl_40, zl_41, zl_43, zl_45, zl_50, zl_52, zl_60, zl_97, zl_99, zl_100, zl_124, zl_126, zl_127, zl_169, zl_170, zl_171, zl_195, zl_200, zl_201, zl_256, zl_261, zl_999, zl_1100, zl_1884, zl_4095, zl_4096, zd1, zd2, zs1, nI_add, pk_mul, zsb, zad1, zad2, zcl, zgI, zif_le, zif_nle, zif_lt, zif_nlt, zif_eq, zif_ne, zif_self, zif_T, zif_F, Nat.zero_add, Nat.add_sub_cancel, zn21, zn31, zif_m1, zif_m1l, zif_m1n, zif_pm, zb1_k, zb2_k, zb3_k, zb4_k, zb5_k, zb6_k, zb7_k, zb8_k, zb9_k, zb10_k, zb11_k, zb12_k, zb14_k, zb21_k, zb22_k, zupd_eq, zupd_ne, zupl_eq, zupl_ne, zupf_eq, zupf_ne, el, fX8_faultOrPlan_J65, fl]
            simp (disch := omega) only [zl_0, zl_1, zl_2, zl_3, zl_4, zl_5, zl_6, zl_8, zl_9, zl_11, zl_12, zl_13, zl_16, zl_20, zl_23, zl_24, zl_30, zl_32, zl_40, zl_41, zl_43, zl_45, zl_50, zl_52, zl_60, zl_97, zl_99, zl_100, zl_124, zl_126, zl_127, zl_169, zl_170, zl_171, zl_195, zl_200, zl_201, zl_256, zl_261, zl_999, zl_1100, zl_1884, zl_4095, zl_4096, zd1, zd2, zs1, nI_add, pk_mul, zsb, zad1, zad2, zcl, zgI, zif_le, zif_nle, zif_lt, zif_nlt, zif_eq, zif_ne, zif_self, zif_T, zif_F, Nat.zero_add, Nat.add_sub_cancel, zn21, zn31, zif_m1, zif_m1l, zif_m1n, zif_pm, zb1_k, zb2_k, zb3_k, zb4_k, zb5_k, zb6_k, zb7_k, zb8_k, zb9_k, zb10_k, zb11_k, zb12_k, zb14_k, zb21_k, zb22_k, zupd_eq, zupd_ne, zupl_eq, zupl_ne, zupf_eq, zupf_ne, fX6_add]
            exact this
          · have hz : zst (zac a) st parts true (T pos) = none := by
              unfold zst; rw [if_pos rfl, if_neg (fun z => c1 z.1), if_neg (fun z => c4 z.2)]
            refine bad hz _ ?_
            simp (disch := omega) only [zl_0, zl_1, zl_2, zl_3, zl_4, zl_5, zl_6, zl_8, zl_9, zl_11, zl_12, zl_13, zl_16, zl_20, zl_23, zl_24, zl_30, zl_32, zl_40, zl_41, zl_43, zl_45, zl_50, zl_52, zl_60, zl_97, zl_99, zl_100, zl_124, zl_126, zl_127, zl_169, zl_170, zl_171, zl_195, zl_200, zl_201, zl_256, zl_261, zl_999, zl_1100, zl_1884, zl_4095, zl_4096, zd1, zd2, zs1, nI_add, pk_mul, zsb, zad1, zad2, zcl, zgI, zif_le, zif_nle, zif_lt, zif_nlt, zif_eq, zif_ne, zif_self, zif_T, zif_F, Nat.zero_add, Nat.add_sub_cancel, zn21, zn31, zif_m1, zif_m1l, zif_m1n, zif_pm, zb1_k, zb2_k, zb3_k, zb4_k, zb5_k, zb6_k, zb7_k, zb8_k, zb9_k, zb10_k, zb11_k, zb12_k, zb14_k, zb21_k, zb22_k, zupd_eq, zupd_ne, zupl_eq, zupl_ne, zupf_eq, zupf_ne, el, fX8_faultOrPlan_J65, fl]
            simp (disch := omega) only [zl_0, zl_1, zl_2, zl_3, zl_4, zl_5, zl_6, zl_8, zl_9, zl_11, zl_12, zl_13, zl_16, zl_20, zl_23, zl_24, zl_30, zl_32, zl_40, zl_41, zl_43, zl_45, zl_50, zl_52, zl_60, zl_97, zl_99, zl_100, zl_124, zl_126, zl_127, zl_169, zl_170, zl_171, zl_195, zl_200, zl_201, zl_256, zl_261, zl_999, zl_1100, zl_1884, zl_4095, zl_4096, zd1, zd2, zs1, nI_add, pk_mul, zsb, zad1, zad2, zcl, zgI, zif_le, zif_nle, zif_lt, zif_nlt, zif_eq, zif_ne, zif_self, zif_T, zif_F, Nat.zero_add, Nat.add_sub_cancel, zn21, zn31, zif_m1, zif_m1l, zif_m1n, zif_pm, zb1_k, zb2_k, zb3_k, zb4_k, zb5_k, zb6_k, zb7_k, zb8_k, zb9_k, zb10_k, zb11_k, zb12_k, zb14_k, zb21_k, zb22_k, zupd_eq, zupd_ne, zupl_eq, zupl_ne, zupf_eq, zupf_ne, fX8_faultOrPlan_J108]
        · have hz : zst (zac a) st parts true (T pos) = none := by
            unfold zst; rw [if_pos rfl, if_neg (fun z => c1 z.1), if_neg (fun z => c3 z.1)]
          refine bad hz _ ?_
          rw [if_neg c3] at fl
          simp (disch := omega) only [zl_0, zl_1, zl_2, zl_3, zl_4, zl_5, zl_6, zl_8, zl_9, zl_11, zl_12, zl_13, zl_16, zl_20, zl_23, zl_24, zl_30, zl_32, zl_40, zl_41, zl_43, zl_45, zl_50, zl_52, zl_60, zl_97, zl_99, zl_100, zl_124, zl_126, zl_127, zl_169, zl_170, zl_171, zl_195, zl_200, zl_201, zl_256, zl_261, zl_999, zl_1100, zl_1884, zl_4095, zl_4096, zd1, zd2, zs1, nI_add, pk_mul, zsb, zad1, zad2, zcl, zgI, zif_le, zif_nle, zif_lt, zif_nlt, zif_eq, zif_ne, zif_self, zif_T, zif_F, Nat.zero_add, Nat.add_sub_cancel, zn21, zn31, zif_m1, zif_m1l, zif_m1n, zif_pm, zb1_k, zb2_k, zb3_k, zb4_k, zb5_k, zb6_k, zb7_k, zb8_k, zb9_k, zb10_k, zb11_k, zb12_k, zb14_k, zb21_k, zb22_k, zupd_eq, zupd_ne, zupl_eq, zupl_ne, zupf_eq, zupf_ne, el, fX8_faultOrPlan_J65, fl]
          simp (disch := omega) only [zl_0, zl_1, zl_2, zl_3, zl_4, zl_5, zl_6, zl_8, zl_9, zl_11, zl_12, zl_13, zl_16, zl_20, zl_23, zl_24, zl_30, zl_32, zl_40, zl_41, zl_43, zl_45, zl_50, zl_52, zl_60, zl_97, zl_99, zl_100, zl_124, zl_126, zl_127, zl_169, zl_170, zl_171, zl_195, zl_200, zl_201, zl_256, zl_261, zl_999, zl_1100, zl_1884, zl_4095, zl_4096, zd1, zd2, zs1, nI_add, pk_mul, zsb, zad1, zad2, zcl, zgI, zif_le, zif_nle, zif_lt, zif_nlt, zif_eq, zif_ne, zif_self, zif_T, zif_F, Nat.zero_add, Nat.add_sub_cancel, zn21, zn31, zif_m1, zif_m1l, zif_m1n, zif_pm, zb1_k, zb2_k, zb3_k, zb4_k, zb5_k, zb6_k, zb7_k, zb8_k, zb9_k, zb10_k, zb11_k, zb12_k, zb14_k, zb21_k, zb22_k, zupd_eq, zupd_ne, zupl_eq, zupl_ne, zupf_eq, zupf_ne, fX8_faultOrPlan_J108]
    | false =>
      simp only [if_false, Bool.false_eq_true] at hn ⊢
      cases st with
      | nil =>
        refine bad (by unfold zst; rw [if_neg (by decide)]) _ ?_
        simp (disch := omega) only [zl_0, zl_1, zl_2, zl_3, zl_4, zl_5, zl_6, zl_8, zl_9, zl_11, zl_12, zl_13, zl_16, zl_20, zl_23, zl_24, zl_30, zl_32, zl_40, zl_41, zl_43, zl_45, zl_50, zl_52, zl_60, zl_97, zl_99, zl_100, zl_124, zl_126, zl_127, zl_169, zl_170, zl_171, zl_195, zl_200, zl_201, zl_256, zl_261, zl_999, zl_1100, zl_1884, zl_4095, zl_4096, zd1, zd2, zs1, nI_add, pk_mul, zsb, zad1, zad2, zcl, zgI, zif_le, zif_nle, zif_lt, zif_nlt, zif_eq, zif_ne, zif_self, zif_T, zif_F, Nat.zero_add, Nat.add_sub_cancel, zn21, zn31, zif_m1, zif_m1l, zif_m1n, zif_pm, zb1_k, zb2_k, zb3_k, zb4_k, zb5_k, zb6_k, zb7_k, zb8_k, zb9_k, zb10_k, zb11_k, zb12_k, zb14_k, zb21_k, zb22_k, zupd_eq, zupd_ne, zupl_eq, zupl_ne, zupf_eq, zupf_ne, List.length_nil, fX8_faultOrPlan_J65, fX8_faultOrPlan_J108]
      | cons x r =>
        rw [List.length_cons] at hst ⊢
        obtain ⟨k1, k2⟩ := hk
        cases x with
        | zero =>
          have k1 : joins r.length = -nI 1 := k1
          have hn : n + (0 + znz r) + 1 = 2 * parts := hn
          by_cases c1 : T pos = 43
          · have hz : zst (zac a) (0 :: r) parts false (T pos) = some (1 :: r, parts, true, none) := by
              unfold zst; rw [if_neg (by decide)]; simp only [c1, if_true]
            rw [zsc_s hz]
            apply zXe_0
            have := ih (pos + 1) fu (1 :: r) parts true n (upd joins r.length (nI 1)) kind sort (by omega) (by omega) hst (fun x hx => by rcases List.mem_cons.mp hx with rfl | hx; omega; exact h2 x (List.mem_cons_of_mem _ hx)) hp (by show n + (1 + znz r) + 0 = _; omega) ⟨by rw [zupd_eq rfl]; rfl, zSk_up r (Nat.le_refl _) k2⟩
            rw [List.length_cons] at this
            simp only [if_true] at this
            rw [if_pos c1] at fj
            simp (disch := omega) only [zl_0, zl_1, zl_2, zl_3, zl_4, zl_5, zl_6, zl_8, zl_9, zl_11, zl_12, zl_13, zl_16, zl_20, zl_23, zl_24, zl_30, zl_32, zl_40, zl_41, zl_43, zl_45, zl_50, zl_52, zl_60, zl_97, zl_99, zl_100, zl_124, zl_126, zl_127, zl_169, zl_170, zl_171, zl_195, zl_200, zl_201, zl_256, zl_261, zl_999, zl_1100, zl_1884, zl_4095, zl_4096, zd1, zd2, zs1, nI_add, pk_mul, zsb, zad1, zad2, zcl, zgI, zif_le, zif_nle, zif_lt, zif_nlt, zif_eq, zif_ne, zif_self, zif_T, zif_F, Nat.zero_add, Nat.add_sub_cancel, zn21, zn31, zif_m1, zif_m1l, zif_m1n, zif_pm, zb1_k, zb2_k, zb3_k, zb4_k, zb5_k, zb6_k, zb7_k, zb8_k, zb9_k, zb10_k, zb11_k, zb12_k, zb14_k, zb21_k, zb22_k, zupd_eq, zupd_ne, zupl_eq, zupl_ne, zupf_eq, zupf_ne, el, fX8_faultOrPlan_J65, fX8_faultOrPlan_J108, fj, k1]
            exact this
          · by_cases c2 : T pos = 124
            · have hz : zst (zac a) (0 :: r) parts false (T pos) = some (2 :: r, parts, true, none) := by
                unfold zst; rw [if_neg (by decide)]; simp only [c2, if_true, if_neg (show ¬ (124 : Nat) = 43 by decide)]
              rw [zsc_s hz]
              apply zXe_0
              have := ih (pos + 1) fu (2 :: r) parts true n (upd joins r.length (nI 2)) kind sort (by omega) (by omega) hst (fun x hx => by rcases List.mem_cons.mp hx with rfl | hx; omega; exact h2 x (List.mem_cons_of_mem _ hx)) hp (by show n + (1 + znz r) + 0 = _; omega) ⟨by rw [zupd_eq rfl]; rfl, zSk_up r (Nat.le_refl _) k2⟩
              rw [List.length_cons] at this
              simp only [if_true] at this
              rw [if_neg c1, if_pos c2] at fj
              simp (disch := omega) only [zl_0, zl_1, zl_2, zl_3, zl_4, zl_5, zl_6, zl_8, zl_9, zl_11, zl_12, zl_13, zl_16, zl_20, zl_23, zl_24, zl_30, zl_32, zl_40, zl_41, zl_43, zl_45, zl_50, zl_52, zl_60, zl_97, zl_99, zl_100, zl_124, zl_126, zl_127, zl_169, zl_170, zl_171, zl_195, zl_200, zl_201, zl_256, zl_261, zl_999, zl_1100, zl_1884, zl_4095, zl_4096, zd1, zd2, zs1, nI_add, pk_mul, zsb, zad1, zad2, zcl, zgI, zif_le, zif_nle, zif_lt, zif_nlt, zif_eq, zif_ne, zif_self, zif_T, zif_F, Nat.zero_add, Nat.add_sub_cancel, zn21, zn31, zif_m1, zif_m1l, zif_m1n, zif_pm, zb1_k, zb2_k, zb3_k, zb4_k, zb5_k, zb6_k, zb7_k, zb8_k, zb9_k, zb10_k, zb11_k, zb12_k, zb14_k, zb21_k, zb22_k, zupd_eq, zupd_ne, zupl_eq, zupl_ne, zupf_eq, zupf_ne, el, fX8_faultOrPlan_J65, fX8_faultOrPlan_J108, fj, k1]
              exact this
            · refine bad (by unfold zst; rw [if_neg (by decide)]; simp only [if_neg c1, if_neg c2]) _ ?_
              rw [if_neg c1, if_neg c2] at fj
              simp (disch := omega) only [zl_0, zl_1, zl_2, zl_3, zl_4, zl_5, zl_6, zl_8, zl_9, zl_11, zl_12, zl_13, zl_16, zl_20, zl_23, zl_24, zl_30, zl_32, zl_40, zl_41, zl_43, zl_45, zl_50, zl_52, zl_60, zl_97, zl_99, zl_100, zl_124, zl_126, zl_127, zl_169, zl_170, zl_171, zl_195, zl_200, zl_201, zl_256, zl_261, zl_999, zl_1100, zl_1884, zl_4095, zl_4096, zd1, zd2, zs1, nI_add, pk_mul, zsb, zad1, zad2, zcl, zgI, zif_le, zif_nle, zif_lt, zif_nlt, zif_eq, zif_ne, zif_self, zif_T, zif_F, Nat.zero_add, Nat.add_sub_cancel, zn21, zn31, zif_m1, zif_m1l, zif_m1n, zif_pm, zb1_k, zb2_k, zb3_k, zb4_k, zb5_k, zb6_k, zb7_k, zb8_k, zb9_k, zb10_k, zb11_k, zb12_k, zb14_k, zb21_k, zb22_k, zupd_eq, zupd_ne, zupl_eq, zupl_ne, zupf_eq, zupf_ne, el, fX8_faultOrPlan_J65, fX8_faultOrPlan_J108, fX8_faultOrPlan_J160, fj, k1]
        | succ s =>
          have k1 : joins r.length = nI (s + 1) := k1
          have hs := h2 (s + 1) (List.mem_cons_self ..)
          have hn : n + (1 + znz r) + 1 = 2 * parts := hn
          by_cases c1 : T pos = 41
          · have hz : zst (zac a) ((s + 1) :: r) parts false (T pos) = some (r, parts, false, some (s + 1, 0)) := by
              unfold zst; rw [if_neg (by decide)]; simp only [c1, if_true]
            rw [zsc_s hz]
            apply zXe_t (u := nI (s + 1)) (v := -nI 1) rfl (fun z => by omega)
            have := ih (pos + 1) fu r parts false (n + 1) joins (upd kind n (nI (s + 1))) (upd sort n (-nI 1)) (by omega) (by omega) (by omega) (fun x hx => h2 x (List.mem_cons_of_mem _ hx)) hp (by simp only [if_false, Bool.false_eq_true]; omega) k2
            simp only [if_false, Bool.false_eq_true] at this
            rw [c1] at el
            simp (disch := omega) only [zl_0, zl_1, zl_2, zl_3, zl_4, zl_5, zl_6, zl_8, zl_9, zl_11, zl_12, zl_13, zl_16, zl_20, zl_23, zl_24, zl_30, zl_32, zl_40, zl_41, zl_43, zl_45, zl_50, zl_52, zl_60, zl_97, zl_99, zl_100, zl_124, zl_126, zl_127, zl_169, zl_170, zl_171, zl_195, zl_200, zl_201, zl_256, zl_261, zl_999, zl_1100, zl_1884, zl_4095, zl_4096, zd1, zd2, zs1, nI_add, pk_mul, zsb, zad1, zad2, zcl, zgI, zif_le, zif_nle, zif_lt, zif_nlt, zif_eq, zif_ne, zif_self, zif_T, zif_F, Nat.zero_add, Nat.add_sub_cancel, zn21, zn31, zif_m1, zif_m1l, zif_m1n, zif_pm, zb1_k, zb2_k, zb3_k, zb4_k, zb5_k, zb6_k, zb7_k, zb8_k, zb9_k, zb10_k, zb11_k, zb12_k, zb14_k, zb21_k, zb22_k, zupd_eq, zupd_ne, zupl_eq, zupl_ne, zupf_eq, zupf_ne, el, fX8_faultOrPlan_J65, fX8_faultOrPlan_J108, fX8_faultOrPlan_J160, k1]
            simp (disch := omega) only [zl_0, zl_1, zl_2, zl_3, zl_4, zl_5, zl_6, zl_8, zl_9, zl_11, zl_12, zl_13, zl_16, zl_20, zl_23, zl_24, zl_30, zl_32, zl_40, zl_41, zl_43, zl_45, zl_50, zl_52, zl_60, zl_97, zl_99, zl_100, zl_124, zl_126, zl_127, zl_169, zl_170, zl_171, zl_195, zl_200, zl_201, zl_256, zl_261, zl_999, zl_1100, zl_1884, zl_4095, zl_4096, zd1, zd2, zs1, nI_add, pk_mul, zsb, zad1, zad2, zcl, zgI, zif_le, zif_nle, zif_lt, zif_nlt, zif_eq, zif_ne, zif_self, zif_T, zif_F, Nat.zero_add, Nat.add_sub_cancel, zn21, zn31, zif_m1, zif_m1l, zif_m1n, zif_pm, zb1_k, zb2_k, zb3_k, zb4_k, zb5_k, zb6_k, zb7_k, zb8_k, zb9_k, zb10_k, zb11_k, zb12_k, zb14_k, zb21_k, zb22_k, zupd_eq, zupd_ne, zupl_eq, zupl_ne, zupf_eq, zupf_ne, fX6_add]
            exact this
          · refine bad (by unfold zst; rw [if_neg (by decide)]; simp only [if_neg c1]) _ ?_
            simp (disch := omega) only [zl_0, zl_1, zl_2, zl_3, zl_4, zl_5, zl_6, zl_8, zl_9, zl_11, zl_12, zl_13, zl_16, zl_20, zl_23, zl_24, zl_30, zl_32, zl_40, zl_41, zl_43, zl_45, zl_50, zl_52, zl_60, zl_97, zl_99, zl_100, zl_124, zl_126, zl_127, zl_169, zl_170, zl_171, zl_195, zl_200, zl_201, zl_256, zl_261, zl_999, zl_1100, zl_1884, zl_4095, zl_4096, zd1, zd2, zs1, nI_add, pk_mul, zsb, zad1, zad2, zcl, zgI, zif_le, zif_nle, zif_lt, zif_nlt, zif_eq, zif_ne, zif_self, zif_T, zif_F, Nat.zero_add, Nat.add_sub_cancel, zn21, zn31, zif_m1, zif_m1l, zif_m1n, zif_pm, zb1_k, zb2_k, zb3_k, zb4_k, zb5_k, zb6_k, zb7_k, zb8_k, zb9_k, zb10_k, zb11_k, zb12_k, zb14_k, zb21_k, zb22_k, zupd_eq, zupd_ne, zupl_eq, zupl_ne, zupf_eq, zupf_ne, el, fX8_faultOrPlan_J65, fX8_faultOrPlan_J108, fX8_faultOrPlan_J160, k1]
