/-! all levels at once; the calls reached, count, fewest -/
abbrev zwF (o : Nat → Nat) : List zwE := (zwL o 4).1
abbrev zwb (o : Nat → Nat) (k : Nat) : Nat := (zwL o 4).2 k
theorem zwb_e (o : Nat → Nat) {m k : Nat} (hm : m ≤ 4) (hk : k ≤ m + 1) : (zwL o m).2 k = zwb o k := by
  have := zwL_bd o hk (4 - m)
  rw [show m + (4 - m) = 4 by omega] at this
  exact this.symm
theorem zwF_p (o : Nat → Nat) {m : Nat} (hm : m ≤ 4) : zwP (zwL o m).1 (zwF o) := by
  have := zwL_P o (m := m) (4 - m)
  rw [show m + (4 - m) = 4 by omega] at this
  exact this
theorem zwF_n (o : Nat → Nat) {m : Nat} (hm : m ≤ 4) : (zwL o m).1.length = zwb o (m + 1) := by
  rw [← zwL_bl, zwb_e o hm (Nat.le_refl _)]
theorem zwF_i (o : Nat → Nat) {m i : Nat} (hm : m ≤ 4) (hi : i < zwb o (m + 1)) : (zwF o)[i]? = (zwL o m).1[i]? := zwP_s (zwF_p o hm) (by rw [zwF_n o hm]; exact hi)
theorem zwB_m {o : Nat → Nat} (ho : ∀ s, s < 4 → o s ≤ 99) : zwb o 1 = 0 ∧ zwb o 1 ≤ zwb o 2 ∧ zwb o 2 ≤ zwb o 3 ∧ zwb o 3 ≤ zwb o 4 ∧ zwb o 4 ≤ zwb o 5 ∧ zwb o 5 ≤ 1884 ∧ zwb o 5 = (zwF o).length := by
  have h := zwX_s ho 4 (by omega)
  have n := zwN ho
  exact ⟨h.1, (h.2.1 1 (by omega) (by omega)).1, (h.2.1 2 (by omega) (by omega)).1, (h.2.1 3 (by omega) (by omega)).1, (h.2.1 4 (by omega) (by omega)).1, by rw [← zwF_n o (m := 4) (by omega)]; exact n.2.2.2.1, (zwF_n o (by omega)).symm⟩
theorem zwb_le {o : Nat → Nat} (ho : ∀ s, s < 4 → o s ≤ 99) {k : Nat} (h1 : 1 ≤ k) (h2 : k ≤ 5) : zwb o k ≤ 1884 ∧ zwb o k ≤ zwb o 5 := by
  have m := zwB_m ho
  have c : k = 1 ∨ k = 2 ∨ k = 3 ∨ k = 4 ∨ k = 5 := by omega
  rcases c with rfl | rfl | rfl | rfl | rfl <;> omega
theorem zwb_mono {o : Nat → Nat} (ho : ∀ s, s < 4 → o s ≤ 99) {j k : Nat} (h1 : 1 ≤ j) (h2 : j ≤ k) (h3 : k ≤ 5) : zwb o j ≤ zwb o k := by
  have m := zwB_m ho
  have c : k = 1 ∨ k = 2 ∨ k = 3 ∨ k = 4 ∨ k = 5 := by omega
  have d : j = 1 ∨ j = 2 ∨ j = 3 ∨ j = 4 ∨ j = 5 := by omega
  rcases c with rfl | rfl | rfl | rfl | rfl <;> rcases d with rfl | rfl | rfl | rfl | rfl <;> omega
theorem zwF_ne {o : Nat → Nat} (ho : ∀ s, s < 4 → o s ≤ 99) {i j : Nat} {e f : zwE} (hi : (zwF o)[i]? = some e) (hj : (zwF o)[j]? = some f) (h : e.1 = f.1) : i = j := (zwX_s ho 4 (by omega)).2.2.2.1 i j e f hi hj h
theorem zwF_g {o : Nat → Nat} (ho : ∀ s, s < 4 → o s ≤ 99) {i : Nat} (hi : i < zwb o 5) : ∃ e, (zwF o)[i]? = some e := zwget (by rw [← (zwB_m ho).2.2.2.2.2.2]; exact hi)
/-- by how many parts -/
def zwlv (o : Nat → Nat) (i : Nat) : Nat := if i < zwb o 2 then 1 else if i < zwb o 3 then 2 else if i < zwb o 4 then 3 else 4
theorem zwlv_s {o : Nat → Nat} (ho : ∀ s, s < 4 → o s ≤ 99) {i : Nat} (hi : i < zwb o 5) : 1 ≤ zwlv o i ∧ zwlv o i ≤ 4 ∧ zwb o (zwlv o i) ≤ i ∧ i < zwb o (zwlv o i + 1) := by
  have m := zwB_m ho
  unfold zwlv
  by_cases c1 : i < zwb o 2
  · rw [if_pos c1]; exact ⟨by omega, by omega, by omega, c1⟩
  · rw [if_neg c1]
    by_cases c2 : i < zwb o 3
    · rw [if_pos c2]; exact ⟨by omega, by omega, by omega, c2⟩
    · rw [if_neg c2]
      by_cases c3 : i < zwb o 4
      · rw [if_pos c3]; exact ⟨by omega, by omega, by omega, c3⟩
      · rw [if_neg c3]; exact ⟨by omega, by omega, by omega, hi⟩
theorem zwlv_u {o : Nat → Nat} (ho : ∀ s, s < 4 → o s ≤ 99) {i n : Nat} (hi : i < zwb o 5) (h1 : 1 ≤ n) (h2 : n ≤ 4) (h3 : zwb o n ≤ i) (h4 : i < zwb o (n + 1)) : zwlv o i = n := by
  obtain ⟨s1, s2, s3, s4⟩ := zwlv_s ho hi
  rcases Nat.lt_trichotomy (zwlv o i) n with z | z | z
  · have := zwb_mono ho (j := zwlv o i + 1) (k := n) (by omega) (by omega) (by omega)
    omega
  · exact z
  · have := zwb_mono ho (j := n + 1) (k := zwlv o i) (by omega) (by omega) (by omega)
    omega
theorem zwlv_m {o : Nat → Nat} (ho : ∀ s, s < 4 → o s ≤ 99) {i m : Nat} (h1 : 1 ≤ m) (h2 : m ≤ 4) (h4 : i < zwb o (m + 1)) : zwlv o i ≤ m := by
  have hi : i < zwb o 5 := by
    have := (zwb_le ho (k := m + 1) (by omega) (by omega)).2
    omega
  obtain ⟨s1, s2, s3, s4⟩ := zwlv_s ho hi
  by_cases z : zwlv o i ≤ m
  · exact z
  · have := zwb_mono ho (j := m + 1) (k := zwlv o i) (by omega) (by omega) (by omega)
    omega
theorem zwF_t {o : Nat → Nat} (ho : ∀ s, s < 4 → o s ≤ 99) {i : Nat} {e : zwE} (h : (zwF o)[i]? = some e) : zwT o (zwb o) (zwlv o i) e ∧ i < zwb o 5 := by
  have hi : i < zwb o 5 := by rw [(zwB_m ho).2.2.2.2.2.2]; exact zwgl h
  obtain ⟨s1, s2, s3, s4⟩ := zwlv_s ho hi
  exact ⟨(zwX_s ho 4 (by omega)).2.2.2.2 (zwlv o i) s1 (by omega) i e s3 s4 h, hi⟩
theorem zwF_b {o : Nat → Nat} (ho : ∀ s, s < 4 → o s ≤ 99) {i : Nat} {e : zwE} (h : (zwF o)[i]? = some e) : zwB 96059601 3881196 e.1 := by
  have t := zwF_t ho h
  exact zwB_op (zwlv_s ho t.2).2.1 t.1.1
/-- what is read of both forms -/
def zwQx (o : Nat → Nat) (m : Nat) (lv : Int32) (st ab be kd fi se : Nat → Int32) : Prop := lv = nI m ∧ (∀ k, 1 ≤ k → k ≤ m + 1 → st k = nI (zwb o k)) ∧ ∀ (i : Nat) (e : zwE), i < zwb o (m + 1) → (zwF o)[i]? = some e → ab i = nI e.1.1 ∧ be i = nI e.1.2 ∧ kd i = nI e.2.1 ∧ fi i = nI e.2.2.1 ∧ (e.2.1 ≠ 0 → se i = nI e.2.2.2)
def zwQm (o : Nat → Nat) (n : Nat) (many : Int32) (bg : Nat → Int32) (up dn : Nat → Int64) (how fst snd : Nat → Int32) : Prop := many = nI (zwb o (n + 1)) ∧ (∀ k, 1 ≤ k → k ≤ n + 1 → bg k = nI (zwb o k)) ∧ ∀ (i : Nat) (e : zwE), i < zwb o (n + 1) → (zwF o)[i]? = some e → up i = zL e.1.1 ∧ dn i = zL e.1.2 ∧ how i = nI e.2.1 ∧ fst i = nI e.2.2.1 ∧ snd i = nI e.2.2.2
theorem zwQx_o {o : Nat → Nat} {m : Nat} {sz lv : Int32} {tb st ab be kd fi se : Nat → Int32} (hm : m ≤ 4) (h : zwRp o m sz lv tb st ab be kd fi se) : zwQx o m lv st ab be kd fi se := by
  obtain ⟨h1, h2, h3⟩ := h
  refine ⟨h1, fun k k1 k2 => ?_, fun i e hi he => ?_⟩
  · rw [h3 k k1 k2, zwb_e o hm k2]
  · rw [zwF_i o hm hi] at he
    exact h2.2.2 i e he
theorem zwQm_o {o : Nat → Nat} {n : Nat} {many : Int32} {bg : Nat → Int32} {up dn : Nat → Int64} {how fst snd : Nat → Int32} (hn : n ≤ 4) (h : zwMp o n many bg up dn how fst snd) : zwQm o n many bg up dn how fst snd := by
  obtain ⟨h2, h3⟩ := h
  refine ⟨by rw [← zwF_n o hn]; exact h2.1, fun k k1 k2 => ?_, fun i e hi he => ?_⟩
  · rw [h3 k k1 k2, zwb_e o hn k2]
  · rw [zwF_i o hn hi] at he
    exact h2.2 i e he
theorem fx_partsOfR {o : Nat → Nat} {m i : Nat} {lv : Int32} {st ab be kd fi se : Nat → Int32} (ho : ∀ s, s < 4 → o s ≤ 99) (h : zwQx o m lv st ab be kd fi se) (h1 : 1 ≤ m) (h2 : m ≤ 4) (hi : i < zwb o (m + 1)) : fX7_partsOf (nI i) lv st = some (nI (zwlv o i)) := by
  obtain ⟨q1, q2, _⟩ := h
  subst q1
  have b5 := (zwb_le ho (k := m + 1) (by omega) (by omega))
  obtain ⟨s1, s2, s3, s4⟩ := zwlv_s ho (i := i) (by omega)
  have lm := zwlv_m ho h1 h2 hi
  have key : ∀ d n fu, n + d = zwlv o i → d < fu → 1 ≤ n → fX7_partsOf_L2 (nI m) st (nI i) fu (nI n) = some (nI (zwlv o i)) := by
    intro d
    induction d with
    | zero =>
      intro n fu hd hfu hn
      obtain ⟨fu, rfl⟩ : ∃ f, fu = f + 1 := ⟨fu - 1, by omega⟩
      have : n = zwlv o i := by omega
      subst this
      rw [fX7_partsOf_L2_s]
      by_cases z : m ≤ zwlv o i
      · have : m = zwlv o i := by omega
        rw [if_pos (nI_le z (by omega)), ← this]
      · have e1 := q2 (zwlv o i + 1) (by omega) (by omega)
        have b6 := (zwb_le ho (k := zwlv o i + 1) (by omega) (by omega))
        simp (disch := omega) only [zl_0, zl_1, zl_2, zl_3, zl_4, zl_5, zl_6, zl_8, zl_9, zl_11, zl_12, zl_13, zl_16, zl_20, zl_23, zl_24, zl_30, zl_32, zl_40, zl_41, zl_43, zl_45, zl_50, zl_52, zl_60, zl_97, zl_99, zl_100, zl_124, zl_126, zl_127, zl_169, zl_170, zl_171, zl_195, zl_200, zl_201, zl_256, zl_261, zl_999, zl_1100, zl_1884, zl_4095, zl_4096, zd1, zd2, zs1, nI_add, pk_mul, zsb, zad1, zad2, zcl, zgI, zif_le, zif_nle, zif_lt, zif_nlt, zif_eq, zif_ne, zif_self, zif_T, zif_F, Nat.zero_add, Nat.add_sub_cancel, zn21, zn31, zif_m1, zif_m1l, zif_m1n, zif_pm, zb1_k, zb2_k, zb3_k, zb4_k, zb5_k, zb6_k, zb7_k, zb8_k, zb9_k, zb10_k, zb11_k, zb12_k, zb14_k, zb21_k, zb22_k, zupd_eq, zupd_ne, zupl_eq, zupl_ne, zupf_eq, zupf_ne, e1]
    | succ d ih =>
      intro n fu hd hfu hn
      obtain ⟨fu, rfl⟩ : ∃ f, fu = f + 1 := ⟨fu - 1, by omega⟩
      have e1 := q2 (n + 1) (by omega) (by omega)
      have b6 := (zwb_le ho (k := n + 1) (by omega) (by omega))
      have b7 := zwb_mono ho (j := n + 1) (k := zwlv o i) (by omega) (by omega) (by omega)
      have := ih (n + 1) fu (by omega) (by omega) (by omega)
      rw [fX7_partsOf_L2_s]
      simp (disch := omega) only [zl_0, zl_1, zl_2, zl_3, zl_4, zl_5, zl_6, zl_8, zl_9, zl_11, zl_12, zl_13, zl_16, zl_20, zl_23, zl_24, zl_30, zl_32, zl_40, zl_41, zl_43, zl_45, zl_50, zl_52, zl_60, zl_97, zl_99, zl_100, zl_124, zl_126, zl_127, zl_169, zl_170, zl_171, zl_195, zl_200, zl_201, zl_256, zl_261, zl_999, zl_1100, zl_1884, zl_4095, zl_4096, zd1, zd2, zs1, nI_add, pk_mul, zsb, zad1, zad2, zcl, zgI, zif_le, zif_nle, zif_lt, zif_nlt, zif_eq, zif_ne, zif_self, zif_T, zif_F, Nat.zero_add, Nat.add_sub_cancel, zn21, zn31, zif_m1, zif_m1l, zif_m1n, zif_pm, zb1_k, zb2_k, zb3_k, zb4_k, zb5_k, zb6_k, zb7_k, zb8_k, zb9_k, zb10_k, zb11_k, zb12_k, zb14_k, zb21_k, zb22_k, zupd_eq, zupd_ne, zupl_eq, zupl_ne, zupf_eq, zupf_ne, e1, this]
  unfold fX7_partsOf
  rw [zl_1]
  exact key (zwlv o i - 1) 1 5000 (by omega) (by omega) (by omega)
theorem fm_partsOfR {o : Nat → Nat} {n i : Nat} {many : Int32} {bg : Nat → Int32} {up dn : Nat → Int64} {how fst snd : Nat → Int32} (ho : ∀ s, s < 4 → o s ≤ 99) (h : zwQm o n many bg up dn how fst snd) (h1 : 1 ≤ n) (h2 : n ≤ 4) (hi : i < zwb o (n + 1)) : fX11_partsOfReached (nI i) bg = some (nI (zwlv o i)) := by
  obtain ⟨_, q2, _⟩ := h
  have b5 := (zwb_le ho (k := n + 1) (by omega) (by omega))
  obtain ⟨s1, s2, s3, s4⟩ := zwlv_s ho (i := i) (by omega)
  have lm := zwlv_m ho h1 h2 hi
  have key : ∀ d k fu, k + d = zwlv o i → d < fu → 1 ≤ k → fX11_partsOfReached_L2 bg (nI i) fu (nI k) = some (nI (zwlv o i)) := by
    intro d
    induction d with
    | zero =>
      intro k fu hd hfu hn
      obtain ⟨fu, rfl⟩ : ∃ f, fu = f + 1 := ⟨fu - 1, by omega⟩
      have : k = zwlv o i := by omega
      subst this
      have e1 := q2 (zwlv o i + 1) (by omega) (by omega)
      have b6 := (zwb_le ho (k := zwlv o i + 1) (by omega) (by omega))
      rw [fX11_partsOfReached_L2_s]
      simp (disch := omega) only [zl_0, zl_1, zl_2, zl_3, zl_4, zl_5, zl_6, zl_8, zl_9, zl_11, zl_12, zl_13, zl_16, zl_20, zl_23, zl_24, zl_30, zl_32, zl_40, zl_41, zl_43, zl_45, zl_50, zl_52, zl_60, zl_97, zl_99, zl_100, zl_124, zl_126, zl_127, zl_169, zl_170, zl_171, zl_195, zl_200, zl_201, zl_256, zl_261, zl_999, zl_1100, zl_1884, zl_4095, zl_4096, zd1, zd2, zs1, nI_add, pk_mul, zsb, zad1, zad2, zcl, zgI, zif_le, zif_nle, zif_lt, zif_nlt, zif_eq, zif_ne, zif_self, zif_T, zif_F, Nat.zero_add, Nat.add_sub_cancel, zn21, zn31, zif_m1, zif_m1l, zif_m1n, zif_pm, zb1_k, zb2_k, zb3_k, zb4_k, zb5_k, zb6_k, zb7_k, zb8_k, zb9_k, zb10_k, zb11_k, zb12_k, zb14_k, zb21_k, zb22_k, zupd_eq, zupd_ne, zupl_eq, zupl_ne, zupf_eq, zupf_ne, e1]
    | succ d ih =>
      intro k fu hd hfu hn
      obtain ⟨fu, rfl⟩ : ∃ f, fu = f + 1 := ⟨fu - 1, by omega⟩
      have e1 := q2 (k + 1) (by omega) (by omega)
      have b6 := (zwb_le ho (k := k + 1) (by omega) (by omega))
      have b7 := zwb_mono ho (j := k + 1) (k := zwlv o i) (by omega) (by omega) (by omega)
      have := ih (k + 1) fu (by omega) (by omega) (by omega)
      rw [fX11_partsOfReached_L2_s]
      simp (disch := omega) only [zl_0, zl_1, zl_2, zl_3, zl_4, zl_5, zl_6, zl_8, zl_9, zl_11, zl_12, zl_13, zl_16, zl_20, zl_23, zl_24, zl_30, zl_32, zl_40, zl_41, zl_43, zl_45, zl_50, zl_52, zl_60, zl_97, zl_99, zl_100, zl_124, zl_126, zl_127, zl_169, zl_170, zl_171, zl_195, zl_200, zl_201, zl_256, zl_261, zl_999, zl_1100, zl_1884, zl_4095, zl_4096, zd1, zd2, zs1, nI_add, pk_mul, zsb, zad1, zad2, zcl, zgI, zif_le, zif_nle, zif_lt, zif_nlt, zif_eq, zif_ne, zif_self, zif_T, zif_F, Nat.zero_add, Nat.add_sub_cancel, zn21, zn31, zif_m1, zif_m1l, zif_m1n, zif_pm, zb1_k, zb2_k, zb3_k, zb4_k, zb5_k, zb6_k, zb7_k, zb8_k, zb9_k, zb10_k, zb11_k, zb12_k, zb14_k, zb21_k, zb22_k, zupd_eq, zupd_ne, zupl_eq, zupl_ne, zupf_eq, zupf_ne, e1, this]
  unfold fX11_partsOfReached
  rw [zl_1]
  exact key (zwlv o i - 1) 1 5000 (by omega) (by omega) (by omega)
/-! the class's own of this between calls -/
def zwls (o : Nat → Nat) (i j : Nat) : Bool := decide ((zwv (zwF o) i).1 * (zwv (zwF o) j).2 < (zwv (zwF o) j).1 * (zwv (zwF o) i).2)
/-- so many numbers in a row -/
def zwrg : Nat → Nat → List Nat
  | _, 0 => []
  | s, n + 1 => s :: zwrg (s + 1) n
def zwOrd (o : Nat → Nat) (n : Nat) (order : Nat → Int32) : Prop := ∃ S : List Nat, zAr order nI (zwb o n) S ∧ S.Perm (zwrg (zwb o n) (zwb o (n + 1) - zwb o n)) ∧ S.Pairwise (fun i j => zwls o i j = true)
def zwOk (o : Nat → Nat) (m : Nat) (lio : Int32) (order : Nat → Int32) : Prop := ∃ w, w < 32 ∧ lio = nI w ∧ ∀ n, n < 5 → zbt w n = 1 → 1 ≤ n ∧ n ≤ m ∧ zwOrd o n order
theorem zwOrd_c {o o' : Nat → Nat} (h : ∀ t, t < 4 → o t = o' t) {n : Nat} {order : Nat → Int32} (k : zwOrd o n order) : zwOrd o' n order := by
  have e := zwL_c h 4
  unfold zwOrd zwls zwb zwF at k ⊢
  rw [← e]
  exact k
theorem zwOk_b {O a : Nat → Nat} {m m' : Nat} {lio lio' : Int32} {order : Nat → Int32} (k : zwOk O m lio order) (h : (lio' = lio ∧ m ≤ m' ∧ ∀ s, s < 4 → O s = a s) ∨ lio' = nI 0) : zwOk a m' lio' order := by
  rcases h with ⟨rfl, h1, h2⟩ | rfl
  · obtain ⟨w, w1, w2, w3⟩ := k
    refine ⟨w, w1, w2, fun n hn hb => ?_⟩
    obtain ⟨c1, c2, c3⟩ := w3 n hn hb
    exact ⟨c1, by omega, zwOrd_c h2 c3⟩
  · exact ⟨0, by omega, rfl, fun n _ hb => absurd hb (zbt_0 n)⟩
def zwFd (f : FD) : Prop := ∃ (O : Nat → Nat) (m : Nat), (∀ s, s < 4 → O s ≤ 99) ∧ m ≤ 4 ∧ (∀ s, s < 4 → f.2.2.2.2.2.2.2.2.2.2.2.2 s = nI (O s)) ∧ zwRp O m f.1 f.2.1 f.2.2.2.2.2.2.2.2.2.2.1 f.2.2.2.2.2.2.2.2.2.2.2.1 f.2.2.2.1 f.2.2.2.2.1 f.2.2.2.2.2.1 f.2.2.2.2.2.2.1 f.2.2.2.2.2.2.2.1 ∧ zwOk O m f.2.2.1 f.2.2.2.2.2.2.2.2.1
theorem zfinF {A : Type} {k : Nat} {xs : XS} {ms : MS} {x : Option (A × XS)} {m : Option (A × MS)} (r : A) (f : FD) (h : zRl zwFd xs ms) (hf : zwFd f) (hx : x = some (r, (xs.1, xs.2.1, xs.2.2.1, xs.2.2.2.1, xs.2.2.2.2.1, f, xs.2.2.2.2.2.2))) (hm : ∃ ms', m = some (r, ms') ∧ zScr ms ms') : ∃ (r : A) (xs' : XS) (ms' : MS), x = some (r, xs') ∧ m = some (r, ms') ∧ zR zwFd k xs' ms' := by
  obtain ⟨ms', hm, hs⟩ := hm
  refine ⟨r, _, ms', hx, hm, zRl_scr (ms := ms) ?_ hs⟩
  obtain ⟨a, hv, hx, hm, hi, ht, _⟩ := h
  exact ⟨a, hv, hx, hm, hi, ht, hf⟩
theorem q_reached {k : Nat} : zQ_reached (zR zwFd) k := by
  intro xs ms h p1
  have h0 := h
  obtain ⟨a, hv, hx, hm, hI, hT, O, m, hO, hm4, hbf, hrp, hok⟩ := h
  have hB := hx.1
  have ho : ∀ s, s < 4 → a s ≤ 99 := fun s hs => (hv.1 s hs).1
  have i1 : ∀ r : Int32, fX11_in r.toInt64 (1 : Int64) (4 : Int64) = fX10_isIn r (nI 1) (nI 4) := fun r => zinM r (by decide) (by decide)
  rcases zrg p1 1 4 (by decide) (by decide) with f1 | ⟨n, n1, n2, rfl, f1⟩
  · refine zfin0 (-1 : Int32) h0 ?_ ?_
    · simp (disch := omega) only [stX10_reached, fX10_reached, zl_0, zl_1, zl_2, zl_3, zl_4, zl_5, zl_6, zl_8, zl_9, zl_11, zl_12, zl_13, zl_16, zl_20, zl_23, zl_24, zl_30, zl_32, zl_40, zl_41, zl_43, zl_45, zl_50, zl_52, zl_60, zl_97, zl_99, zl_100, zl_124, zl_126, zl_127, zl_169, zl_170, zl_171, zl_195, zl_200, zl_201, zl_256, zl_261, zl_999, zl_1100, zl_1884, zl_4095, zl_4096, zd1, zd2, zs1, nI_add, pk_mul, zsb, zad1, zad2, zcl, zgI, zif_le, zif_nle, zif_lt, zif_nlt, zif_eq, zif_ne, zif_self, zif_T, zif_F, Nat.zero_add, Nat.add_sub_cancel, zn21, zn31, zif_m1, zif_m1l, zif_m1n, zif_pm, zb1_k, zb2_k, zb3_k, zb4_k, zb5_k, zb6_k, zb7_k, zb8_k, zb9_k, zb10_k, zb11_k, zb12_k, zb14_k, zb21_k, zb22_k, zupd_eq, zupd_ne, zupl_eq, zupl_ne, zupf_eq, zupf_ne, f1]
      (try rfl)
    · simp (disch := omega) only [stX11_reached, fX11_reached, zl_0, zl_1, zl_2, zl_3, zl_4, zl_5, zl_6, zl_8, zl_9, zl_11, zl_12, zl_13, zl_16, zl_20, zl_23, zl_24, zl_30, zl_32, zl_40, zl_41, zl_43, zl_45, zl_50, zl_52, zl_60, zl_97, zl_99, zl_100, zl_124, zl_126, zl_127, zl_169, zl_170, zl_171, zl_195, zl_200, zl_201, zl_256, zl_261, zl_999, zl_1100, zl_1884, zl_4095, zl_4096, zd1, zd2, zs1, nI_add, pk_mul, zsb, zad1, zad2, zcl, zgI, zif_le, zif_nle, zif_lt, zif_nlt, zif_eq, zif_ne, zif_self, zif_T, zif_F, Nat.zero_add, Nat.add_sub_cancel, zn21, zn31, zif_m1, zif_m1l, zif_m1n, zif_pm, zb1_k, zb2_k, zb3_k, zb4_k, zb5_k, zb6_k, zb7_k, zb8_k, zb9_k, zb10_k, zb11_k, zb12_k, zb14_k, zb21_k, zb22_k, zupd_eq, zupd_ne, zupl_eq, zupl_ne, zupf_eq, zupf_ne, i1, f1]
      (try rfl)
  obtain ⟨m', sz', lv', lio', bf', tb', st', ab', be', kd', fi', se', g1, g2, g3, g4, g5, g6⟩ := fx_build hO hbf hB hv.1 hm4 n2 hrp
  obtain ⟨c', e', many', bg', up', dn', how', fst', snd', q1, q2⟩ := fm_lay hm hv.1 n1 n2 (m_above ms) (m_below ms) (m_reachMany ms) (m_begins ms) (m_reachUp ms) (m_reachDown ms) (m_reachHow ms) (m_reachFirst ms) (m_reachSecond ms)
  have w1 := zwQx_o g4 g2
  have w2 := zwQm_o n2 q2
  have x1 := w1.2.1 n (by omega) (by omega)
  have x2 := w1.2.1 (n + 1) (by omega) (by omega)
  have y1 := w2.2.1 n (by omega) (by omega)
  have y2 := w2.2.1 (n + 1) (by omega) (by omega)
  refine zfinF (nI (zwb a (n + 1)) - nI (zwb a n)) (sz', lv', lio', ab', be', kd', fi', se', x_found_order xs, xs.2.2.2.2.2.1.2.2.2.2.2.2.2.2.2.1, tb', st', bf') h0 ⟨a, m', ho, g4, g5, g2, zwOk_b hok g6⟩ ?_ ?_
  · simp (disch := omega) only [stX10_reached, fX10_reached, zl_0, zl_1, zl_2, zl_3, zl_4, zl_5, zl_6, zl_8, zl_9, zl_11, zl_12, zl_13, zl_16, zl_20, zl_23, zl_24, zl_30, zl_32, zl_40, zl_41, zl_43, zl_45, zl_50, zl_52, zl_60, zl_97, zl_99, zl_100, zl_124, zl_126, zl_127, zl_169, zl_170, zl_171, zl_195, zl_200, zl_201, zl_256, zl_261, zl_999, zl_1100, zl_1884, zl_4095, zl_4096, zd1, zd2, zs1, nI_add, pk_mul, zsb, zad1, zad2, zcl, zgI, zif_le, zif_nle, zif_lt, zif_nlt, zif_eq, zif_ne, zif_self, zif_T, zif_F, Nat.zero_add, Nat.add_sub_cancel, zn21, zn31, zif_m1, zif_m1l, zif_m1n, zif_pm, zb1_k, zb2_k, zb3_k, zb4_k, zb5_k, zb6_k, zb7_k, zb8_k, zb9_k, zb10_k, zb11_k, zb12_k, zb14_k, zb21_k, zb22_k, zupd_eq, zupd_ne, zupl_eq, zupl_ne, zupf_eq, zupf_ne, f1, g1, x1, x2]
  · simp (disch := omega) only [stX11_reached, fX11_reached, zl_0, zl_1, zl_2, zl_3, zl_4, zl_5, zl_6, zl_8, zl_9, zl_11, zl_12, zl_13, zl_16, zl_20, zl_23, zl_24, zl_30, zl_32, zl_40, zl_41, zl_43, zl_45, zl_50, zl_52, zl_60, zl_97, zl_99, zl_100, zl_124, zl_126, zl_127, zl_169, zl_170, zl_171, zl_195, zl_200, zl_201, zl_256, zl_261, zl_999, zl_1100, zl_1884, zl_4095, zl_4096, zd1, zd2, zs1, nI_add, pk_mul, zsb, zad1, zad2, zcl, zgI, zif_le, zif_nle, zif_lt, zif_nlt, zif_eq, zif_ne, zif_self, zif_T, zif_F, Nat.zero_add, Nat.add_sub_cancel, zn21, zn31, zif_m1, zif_m1l, zif_m1n, zif_pm, zb1_k, zb2_k, zb3_k, zb4_k, zb5_k, zb6_k, zb7_k, zb8_k, zb9_k, zb10_k, zb11_k, zb12_k, zb14_k, zb21_k, zb22_k, zupd_eq, zupd_ne, zupl_eq, zupl_ne, zupf_eq, zupf_ne, i1, f1, q1, y1, y2]
    exact ⟨_, rfl, rfl, rfl, rfl, rfl, rfl⟩
/-! count -/
def zwci (a : Nat → Nat) (s : Nat) : Nat := if a s = 0 then 0 else 1
theorem fx_sortsThere {a : Nat → Nat} {ohms spread : Nat → Int32} (hx : zXb a ohms spread) (hb : zBox a) : fX0_sortsThere ohms = some (nI (zwci a 0 + zwci a 1 + zwci a 2 + zwci a 3)) := by
  have step : ∀ (s v fu : Nat), s < 4 → fX0_sortsThere_L4 ohms (fu + 1) (nI v) (nI s) = fX0_sortsThere_L4 ohms fu (nI (v + zwci a s)) (nI (s + 1)) := by
    intro s v fu hs
    have os := hx.1 s hs
    have b99 := (hb s hs).1
    unfold zwci
    rw [fX0_sortsThere_L4_s]
    by_cases z : a s = 0
    · rw [z] at os
      rw [if_pos z, Nat.add_zero]
      simp (disch := omega) only [zl_0, zl_1, zl_2, zl_3, zl_4, zl_5, zl_6, zl_8, zl_9, zl_11, zl_12, zl_13, zl_16, zl_20, zl_23, zl_24, zl_30, zl_32, zl_40, zl_41, zl_43, zl_45, zl_50, zl_52, zl_60, zl_97, zl_99, zl_100, zl_124, zl_126, zl_127, zl_169, zl_170, zl_171, zl_195, zl_200, zl_201, zl_256, zl_261, zl_999, zl_1100, zl_1884, zl_4095, zl_4096, zd1, zd2, zs1, nI_add, pk_mul, zsb, zad1, zad2, zcl, zgI, zif_le, zif_nle, zif_lt, zif_nlt, zif_eq, zif_ne, zif_self, zif_T, zif_F, Nat.zero_add, Nat.add_sub_cancel, zn21, zn31, zif_m1, zif_m1l, zif_m1n, zif_pm, zb1_k, zb2_k, zb3_k, zb4_k, zb5_k, zb6_k, zb7_k, zb8_k, zb9_k, zb10_k, zb11_k, zb12_k, zb14_k, zb21_k, zb22_k, zupd_eq, zupd_ne, zupl_eq, zupl_ne, zupf_eq, zupf_ne, os]
    · rw [if_neg z]
      simp (disch := omega) only [zl_0, zl_1, zl_2, zl_3, zl_4, zl_5, zl_6, zl_8, zl_9, zl_11, zl_12, zl_13, zl_16, zl_20, zl_23, zl_24, zl_30, zl_32, zl_40, zl_41, zl_43, zl_45, zl_50, zl_52, zl_60, zl_97, zl_99, zl_100, zl_124, zl_126, zl_127, zl_169, zl_170, zl_171, zl_195, zl_200, zl_201, zl_256, zl_261, zl_999, zl_1100, zl_1884, zl_4095, zl_4096, zd1, zd2, zs1, nI_add, pk_mul, zsb, zad1, zad2, zcl, zgI, zif_le, zif_nle, zif_lt, zif_nlt, zif_eq, zif_ne, zif_self, zif_T, zif_F, Nat.zero_add, Nat.add_sub_cancel, zn21, zn31, zif_m1, zif_m1l, zif_m1n, zif_pm, zb1_k, zb2_k, zb3_k, zb4_k, zb5_k, zb6_k, zb7_k, zb8_k, zb9_k, zb10_k, zb11_k, zb12_k, zb14_k, zb21_k, zb22_k, zupd_eq, zupd_ne, zupl_eq, zupl_ne, zupf_eq, zupf_ne, os]
  unfold fX0_sortsThere
  rw [zl_0, show (5000 : Nat) = 4995 + 1 + 1 + 1 + 1 + 1 from rfl, step 0 0 _ (by omega), step 1 _ _ (by omega), step 2 _ _ (by omega), step 3 _ _ (by omega), fX0_sortsThere_L4_s, zl_4, if_pos (nI_le (by omega) (by omega)), Nat.zero_add]
theorem fm_thereC {a : Nat → Nat} {now : Nat → Int32} (hm : zMn a now) (hb : zBox a) {s : Nat} (hs : s < 4) : fX11_isThere (nI s) now = some (nI (zwci a s)) := by
  rw [fm_isThere hm hb hs]
  unfold zwci
  by_cases z : a s = 0
  · rw [if_pos z, if_pos z]
  · rw [if_neg z, if_neg z]
theorem zwci_c (a : Nat → Nat) (s : Nat) : zwci a s = 0 ∨ zwci a s = 1 := by
  unfold zwci
  by_cases z : a s = 0
  · rw [if_pos z]; exact Or.inl rfl
  · rw [if_neg z]; exact Or.inr rfl
theorem fm_J88 {a : Nat → Nat} {now : Nat → Int32} (hm : zMn a now) (hb : zBox a) (c e : Int64) (many : Int32) (bg : Nat → Int32) (up dn : Nat → Int64) (how fst snd : Nat → Int32) (u v w : Nat) : fX11_count_J88 c e many bg now up dn how fst snd (nI u) (nI v) (nI w) = some (nI (u + v + w + zwci a 3), c, e, many, bg, up, dn, how, fst, snd) := by
  unfold fX11_count_J88
  rw [zl_3, fm_thereC hm hb (by omega)]
  rcases zwci_c a 3 with z | z
  · rw [z]
    simp (disch := omega) only [zl_0, zl_1, zl_2, zl_3, zl_4, zl_5, zl_6, zl_8, zl_9, zl_11, zl_12, zl_13, zl_16, zl_20, zl_23, zl_24, zl_30, zl_32, zl_40, zl_41, zl_43, zl_45, zl_50, zl_52, zl_60, zl_97, zl_99, zl_100, zl_124, zl_126, zl_127, zl_169, zl_170, zl_171, zl_195, zl_200, zl_201, zl_256, zl_261, zl_999, zl_1100, zl_1884, zl_4095, zl_4096, zd1, zd2, zs1, nI_add, pk_mul, zsb, zad1, zad2, zcl, zgI, zif_le, zif_nle, zif_lt, zif_nlt, zif_eq, zif_ne, zif_self, zif_T, zif_F, Nat.zero_add, Nat.add_sub_cancel, zn21, zn31, zif_m1, zif_m1l, zif_m1n, zif_pm, zb1_k, zb2_k, zb3_k, zb4_k, zb5_k, zb6_k, zb7_k, zb8_k, zb9_k, zb10_k, zb11_k, zb12_k, zb14_k, zb21_k, zb22_k, zupd_eq, zupd_ne, zupl_eq, zupl_ne, zupf_eq, zupf_ne, Nat.add_zero]
  · rw [z]
    simp (disch := omega) only [zl_0, zl_1, zl_2, zl_3, zl_4, zl_5, zl_6, zl_8, zl_9, zl_11, zl_12, zl_13, zl_16, zl_20, zl_23, zl_24, zl_30, zl_32, zl_40, zl_41, zl_43, zl_45, zl_50, zl_52, zl_60, zl_97, zl_99, zl_100, zl_124, zl_126, zl_127, zl_169, zl_170, zl_171, zl_195, zl_200, zl_201, zl_256, zl_261, zl_999, zl_1100, zl_1884, zl_4095, zl_4096, zd1, zd2, zs1, nI_add, pk_mul, zsb, zad1, zad2, zcl, zgI, zif_le, zif_nle, zif_lt, zif_nlt, zif_eq, zif_ne, zif_self, zif_T, zif_F, Nat.zero_add, Nat.add_sub_cancel, zn21, zn31, zif_m1, zif_m1l, zif_m1n, zif_pm, zb1_k, zb2_k, zb3_k, zb4_k, zb5_k, zb6_k, zb7_k, zb8_k, zb9_k, zb10_k, zb11_k, zb12_k, zb14_k, zb21_k, zb22_k, zupd_eq, zupd_ne, zupl_eq, zupl_ne, zupf_eq, zupf_ne]
theorem fm_J74 {a : Nat → Nat} {now : Nat → Int32} (hm : zMn a now) (hb : zBox a) (c e : Int64) (many : Int32) (bg : Nat → Int32) (up dn : Nat → Int64) (how fst snd : Nat → Int32) (u v : Nat) : fX11_count_J74 c e many bg now up dn how fst snd (nI u) (nI v) = some (nI (u + v + zwci a 2 + zwci a 3), c, e, many, bg, up, dn, how, fst, snd) := by
  unfold fX11_count_J74
  rw [zl_2, fm_thereC hm hb (by omega)]
  rcases zwci_c a 2 with z | z
  · rw [z, zb1_k, zl_0, if_pos rfl, fm_J88 hm hb]
  · rw [z, zb1_k, zl_0, if_neg (by decide), zl_1, fm_J88 hm hb]
theorem fm_J61 {a : Nat → Nat} {now : Nat → Int32} (hm : zMn a now) (hb : zBox a) (c e : Int64) (many : Int32) (bg : Nat → Int32) (up dn : Nat → Int64) (how fst snd : Nat → Int32) (u : Nat) : fX11_count_J61 c e many bg now up dn how fst snd (nI u) = some (nI (u + zwci a 1 + zwci a 2 + zwci a 3), c, e, many, bg, up, dn, how, fst, snd) := by
  unfold fX11_count_J61
  rw [zl_1, fm_thereC hm hb (by omega)]
  rcases zwci_c a 1 with z | z
  · rw [z, zb1_k, zl_0, if_pos rfl, fm_J74 hm hb]
  · rw [z, zb1_k, zl_0, if_neg (by decide), fm_J74 hm hb]
theorem fm_sorts {a : Nat → Nat} {now : Nat → Int32} (hm : zMn a now) (hb : zBox a) (c e : Int64) (sz many : Int32) (bg : Nat → Int32) (up dn : Nat → Int64) (how fst snd : Nat → Int32) : fX11_count (nI 1) c e sz many bg now up dn how fst snd = some (nI (zwci a 0 + zwci a 1 + zwci a 2 + zwci a 3), c, e, many, bg, up, dn, how, fst, snd) := by
  unfold fX11_count
  rw [zl_0, if_neg (show ¬ nI 1 = nI 0 by decide), zl_1, if_pos rfl, fm_thereC hm hb (by omega)]
  rcases zwci_c a 0 with z | z
  · rw [z, zb1_k, if_pos rfl, fm_J61 hm hb]
  · rw [z, zb1_k, if_neg (by decide), fm_J61 hm hb]
theorem q_count {k : Nat} : zQ_count (zR zwFd) k := by
  intro xs ms h p1
  have h0 := h
  obtain ⟨a, hv, hx, hm, hI, hT, O, m, hO, hm4, hbf, hrp, hok⟩ := h
  have hB := hx.1
  have ho : ∀ s, s < 4 → a s ≤ 99 := fun s hs => (hv.1 s hs).1
  obtain ⟨L, T, hL, l1, l2, _⟩ := id hT
  have hc : x_nets_count xs = nI (a 8) := hx.2.1.1
  have hp : x_mesh_points xs = nI (a 169) := hx.2.2.1.1
  have he : x_mesh_edges xs = nI (a 170) := hx.2.2.1.2.1
  have m8 := hm.1 8 (by omega)
  have m169 := hm.1 169 (by omega)
  have m170 := hm.1 170 (by omega)
  by_cases c0 : p1 = nI 0
  · subst c0
    refine zfin0 (nI (a 8)) h0 ?_ ?_
    · simp (disch := omega) only [stX10_count, fX10_count, zl_0, zl_1, zl_2, zl_3, zl_4, zl_5, zl_6, zl_8, zl_9, zl_11, zl_12, zl_13, zl_16, zl_20, zl_23, zl_24, zl_30, zl_32, zl_40, zl_41, zl_43, zl_45, zl_50, zl_52, zl_60, zl_97, zl_99, zl_100, zl_124, zl_126, zl_127, zl_169, zl_170, zl_171, zl_195, zl_200, zl_201, zl_256, zl_261, zl_999, zl_1100, zl_1884, zl_4095, zl_4096, zd1, zd2, zs1, nI_add, pk_mul, zsb, zad1, zad2, zcl, zgI, zif_le, zif_nle, zif_lt, zif_nlt, zif_eq, zif_ne, zif_self, zif_T, zif_F, Nat.zero_add, Nat.add_sub_cancel, zn21, zn31, zif_m1, zif_m1l, zif_m1n, zif_pm, zb1_k, zb2_k, zb3_k, zb4_k, zb5_k, zb6_k, zb7_k, zb8_k, zb9_k, zb10_k, zb11_k, zb12_k, zb14_k, zb21_k, zb22_k, zupd_eq, zupd_ne, zupl_eq, zupl_ne, zupf_eq, zupf_ne, hc]
      (try rfl)
    · simp (disch := omega) only [stX11_count, fX11_count, zl_0, zl_1, zl_2, zl_3, zl_4, zl_5, zl_6, zl_8, zl_9, zl_11, zl_12, zl_13, zl_16, zl_20, zl_23, zl_24, zl_30, zl_32, zl_40, zl_41, zl_43, zl_45, zl_50, zl_52, zl_60, zl_97, zl_99, zl_100, zl_124, zl_126, zl_127, zl_169, zl_170, zl_171, zl_195, zl_200, zl_201, zl_256, zl_261, zl_999, zl_1100, zl_1884, zl_4095, zl_4096, zd1, zd2, zs1, nI_add, pk_mul, zsb, zad1, zad2, zcl, zgI, zif_le, zif_nle, zif_lt, zif_nlt, zif_eq, zif_ne, zif_self, zif_T, zif_F, Nat.zero_add, Nat.add_sub_cancel, zn21, zn31, zif_m1, zif_m1l, zif_m1n, zif_pm, zb1_k, zb2_k, zb3_k, zb4_k, zb5_k, zb6_k, zb7_k, zb8_k, zb9_k, zb10_k, zb11_k, zb12_k, zb14_k, zb21_k, zb22_k, zupd_eq, zupd_ne, zupl_eq, zupl_ne, zupf_eq, zupf_ne, m8]
      (try rfl)
  by_cases c1 : p1 = nI 1
  · subst c1
    refine zfin0 (nI (zwci a 0 + zwci a 1 + zwci a 2 + zwci a 3)) h0 ?_ ?_
    · simp (disch := omega) only [stX10_count, fX10_count, zl_0, zl_1, zl_2, zl_3, zl_4, zl_5, zl_6, zl_8, zl_9, zl_11, zl_12, zl_13, zl_16, zl_20, zl_23, zl_24, zl_30, zl_32, zl_40, zl_41, zl_43, zl_45, zl_50, zl_52, zl_60, zl_97, zl_99, zl_100, zl_124, zl_126, zl_127, zl_169, zl_170, zl_171, zl_195, zl_200, zl_201, zl_256, zl_261, zl_999, zl_1100, zl_1884, zl_4095, zl_4096, zd1, zd2, zs1, nI_add, pk_mul, zsb, zad1, zad2, zcl, zgI, zif_le, zif_nle, zif_lt, zif_nlt, zif_eq, zif_ne, zif_self, zif_T, zif_F, Nat.zero_add, Nat.add_sub_cancel, zn21, zn31, zif_m1, zif_m1l, zif_m1n, zif_pm, zb1_k, zb2_k, zb3_k, zb4_k, zb5_k, zb6_k, zb7_k, zb8_k, zb9_k, zb10_k, zb11_k, zb12_k, zb14_k, zb21_k, zb22_k, zupd_eq, zupd_ne, zupl_eq, zupl_ne, zupf_eq, zupf_ne, fx_sortsThere hB hv.1]
      (try rfl)
    · simp (disch := omega) only [stX11_count, zl_0, zl_1, zl_2, zl_3, zl_4, zl_5, zl_6, zl_8, zl_9, zl_11, zl_12, zl_13, zl_16, zl_20, zl_23, zl_24, zl_30, zl_32, zl_40, zl_41, zl_43, zl_45, zl_50, zl_52, zl_60, zl_97, zl_99, zl_100, zl_124, zl_126, zl_127, zl_169, zl_170, zl_171, zl_195, zl_200, zl_201, zl_256, zl_261, zl_999, zl_1100, zl_1884, zl_4095, zl_4096, zd1, zd2, zs1, nI_add, pk_mul, zsb, zad1, zad2, zcl, zgI, zif_le, zif_nle, zif_lt, zif_nlt, zif_eq, zif_ne, zif_self, zif_T, zif_F, Nat.zero_add, Nat.add_sub_cancel, zn21, zn31, zif_m1, zif_m1l, zif_m1n, zif_pm, zb1_k, zb2_k, zb3_k, zb4_k, zb5_k, zb6_k, zb7_k, zb8_k, zb9_k, zb10_k, zb11_k, zb12_k, zb14_k, zb21_k, zb22_k, zupd_eq, zupd_ne, zupl_eq, zupl_ne, zupf_eq, zupf_ne, fm_sorts hm hv.1]
      (try rfl)
  by_cases c2 : p1 = nI 2
  · subst c2
    refine zfin0 (nI (a 169)) h0 ?_ ?_
    · simp (disch := omega) only [stX10_count, fX10_count, zl_0, zl_1, zl_2, zl_3, zl_4, zl_5, zl_6, zl_8, zl_9, zl_11, zl_12, zl_13, zl_16, zl_20, zl_23, zl_24, zl_30, zl_32, zl_40, zl_41, zl_43, zl_45, zl_50, zl_52, zl_60, zl_97, zl_99, zl_100, zl_124, zl_126, zl_127, zl_169, zl_170, zl_171, zl_195, zl_200, zl_201, zl_256, zl_261, zl_999, zl_1100, zl_1884, zl_4095, zl_4096, zd1, zd2, zs1, nI_add, pk_mul, zsb, zad1, zad2, zcl, zgI, zif_le, zif_nle, zif_lt, zif_nlt, zif_eq, zif_ne, zif_self, zif_T, zif_F, Nat.zero_add, Nat.add_sub_cancel, zn21, zn31, zif_m1, zif_m1l, zif_m1n, zif_pm, zb1_k, zb2_k, zb3_k, zb4_k, zb5_k, zb6_k, zb7_k, zb8_k, zb9_k, zb10_k, zb11_k, zb12_k, zb14_k, zb21_k, zb22_k, zupd_eq, zupd_ne, zupl_eq, zupl_ne, zupf_eq, zupf_ne, hp]
      (try rfl)
    · simp (disch := omega) only [stX11_count, fX11_count, zl_0, zl_1, zl_2, zl_3, zl_4, zl_5, zl_6, zl_8, zl_9, zl_11, zl_12, zl_13, zl_16, zl_20, zl_23, zl_24, zl_30, zl_32, zl_40, zl_41, zl_43, zl_45, zl_50, zl_52, zl_60, zl_97, zl_99, zl_100, zl_124, zl_126, zl_127, zl_169, zl_170, zl_171, zl_195, zl_200, zl_201, zl_256, zl_261, zl_999, zl_1100, zl_1884, zl_4095, zl_4096, zd1, zd2, zs1, nI_add, pk_mul, zsb, zad1, zad2, zcl, zgI, zif_le, zif_nle, zif_lt, zif_nlt, zif_eq, zif_ne, zif_self, zif_T, zif_F, Nat.zero_add, Nat.add_sub_cancel, zn21, zn31, zif_m1, zif_m1l, zif_m1n, zif_pm, zb1_k, zb2_k, zb3_k, zb4_k, zb5_k, zb6_k, zb7_k, zb8_k, zb9_k, zb10_k, zb11_k, zb12_k, zb14_k, zb21_k, zb22_k, zupd_eq, zupd_ne, zupl_eq, zupl_ne, zupf_eq, zupf_ne, m169]
      (try rfl)
  by_cases c3 : p1 = nI 3
  · subst c3
    refine zfin0 (nI (a 170)) h0 ?_ ?_
    · simp (disch := omega) only [stX10_count, fX10_count, zl_0, zl_1, zl_2, zl_3, zl_4, zl_5, zl_6, zl_8, zl_9, zl_11, zl_12, zl_13, zl_16, zl_20, zl_23, zl_24, zl_30, zl_32, zl_40, zl_41, zl_43, zl_45, zl_50, zl_52, zl_60, zl_97, zl_99, zl_100, zl_124, zl_126, zl_127, zl_169, zl_170, zl_171, zl_195, zl_200, zl_201, zl_256, zl_261, zl_999, zl_1100, zl_1884, zl_4095, zl_4096, zd1, zd2, zs1, nI_add, pk_mul, zsb, zad1, zad2, zcl, zgI, zif_le, zif_nle, zif_lt, zif_nlt, zif_eq, zif_ne, zif_self, zif_T, zif_F, Nat.zero_add, Nat.add_sub_cancel, zn21, zn31, zif_m1, zif_m1l, zif_m1n, zif_pm, zb1_k, zb2_k, zb3_k, zb4_k, zb5_k, zb6_k, zb7_k, zb8_k, zb9_k, zb10_k, zb11_k, zb12_k, zb14_k, zb21_k, zb22_k, zupd_eq, zupd_ne, zupl_eq, zupl_ne, zupf_eq, zupf_ne, he]
      (try rfl)
    · simp (disch := omega) only [stX11_count, fX11_count, zl_0, zl_1, zl_2, zl_3, zl_4, zl_5, zl_6, zl_8, zl_9, zl_11, zl_12, zl_13, zl_16, zl_20, zl_23, zl_24, zl_30, zl_32, zl_40, zl_41, zl_43, zl_45, zl_50, zl_52, zl_60, zl_97, zl_99, zl_100, zl_124, zl_126, zl_127, zl_169, zl_170, zl_171, zl_195, zl_200, zl_201, zl_256, zl_261, zl_999, zl_1100, zl_1884, zl_4095, zl_4096, zd1, zd2, zs1, nI_add, pk_mul, zsb, zad1, zad2, zcl, zgI, zif_le, zif_nle, zif_lt, zif_nlt, zif_eq, zif_ne, zif_self, zif_T, zif_F, Nat.zero_add, Nat.add_sub_cancel, zn21, zn31, zif_m1, zif_m1l, zif_m1n, zif_pm, zb1_k, zb2_k, zb3_k, zb4_k, zb5_k, zb6_k, zb7_k, zb8_k, zb9_k, zb10_k, zb11_k, zb12_k, zb14_k, zb21_k, zb22_k, zupd_eq, zupd_ne, zupl_eq, zupl_ne, zupf_eq, zupf_ne, m170]
      (try rfl)
  by_cases c4 : p1 = nI 4
  · subst c4
    refine zfin0 (nI L) h0 ?_ ?_
    · simp (disch := omega) only [stX10_count, fX10_count, zl_0, zl_1, zl_2, zl_3, zl_4, zl_5, zl_6, zl_8, zl_9, zl_11, zl_12, zl_13, zl_16, zl_20, zl_23, zl_24, zl_30, zl_32, zl_40, zl_41, zl_43, zl_45, zl_50, zl_52, zl_60, zl_97, zl_99, zl_100, zl_124, zl_126, zl_127, zl_169, zl_170, zl_171, zl_195, zl_200, zl_201, zl_256, zl_261, zl_999, zl_1100, zl_1884, zl_4095, zl_4096, zd1, zd2, zs1, nI_add, pk_mul, zsb, zad1, zad2, zcl, zgI, zif_le, zif_nle, zif_lt, zif_nlt, zif_eq, zif_ne, zif_self, zif_T, zif_F, Nat.zero_add, Nat.add_sub_cancel, zn21, zn31, zif_m1, zif_m1l, zif_m1n, zif_pm, zb1_k, zb2_k, zb3_k, zb4_k, zb5_k, zb6_k, zb7_k, zb8_k, zb9_k, zb10_k, zb11_k, zb12_k, zb14_k, zb21_k, zb22_k, zupd_eq, zupd_ne, zupl_eq, zupl_ne, zupf_eq, zupf_ne, l1]
      (try rfl)
    · simp (disch := omega) only [stX11_count, fX11_count, zl_0, zl_1, zl_2, zl_3, zl_4, zl_5, zl_6, zl_8, zl_9, zl_11, zl_12, zl_13, zl_16, zl_20, zl_23, zl_24, zl_30, zl_32, zl_40, zl_41, zl_43, zl_45, zl_50, zl_52, zl_60, zl_97, zl_99, zl_100, zl_124, zl_126, zl_127, zl_169, zl_170, zl_171, zl_195, zl_200, zl_201, zl_256, zl_261, zl_999, zl_1100, zl_1884, zl_4095, zl_4096, zd1, zd2, zs1, nI_add, pk_mul, zsb, zad1, zad2, zcl, zgI, zif_le, zif_nle, zif_lt, zif_nlt, zif_eq, zif_ne, zif_self, zif_T, zif_F, Nat.zero_add, Nat.add_sub_cancel, zn21, zn31, zif_m1, zif_m1l, zif_m1n, zif_pm, zb1_k, zb2_k, zb3_k, zb4_k, zb5_k, zb6_k, zb7_k, zb8_k, zb9_k, zb10_k, zb11_k, zb12_k, zb14_k, zb21_k, zb22_k, zupd_eq, zupd_ne, zupl_eq, zupl_ne, zupf_eq, zupf_ne]
      rw [← l2]
      (try rfl)
  by_cases c5 : p1 = nI 5
  · subst c5
    obtain ⟨m', sz', lv', lio', bf', tb', st', ab', be', kd', fi', se', g1, g2, g3, g4, g5, g6⟩ := fx_build (N := 4) hO hbf hB hv.1 hm4 (by omega) hrp
    obtain ⟨c', e', many', bg', up', dn', how', fst', snd', q1, q2⟩ := fm_lay (N := 4) hm hv.1 (by omega) (by omega) (m_above ms) (m_below ms) (m_reachMany ms) (m_begins ms) (m_reachUp ms) (m_reachDown ms) (m_reachHow ms) (m_reachFirst ms) (m_reachSecond ms)
    have w1 := zwQx_o g4 g2
    have w2 := zwQm_o (by omega) q2
    have x1 := w1.2.1 5 (by omega) (by omega)
    have y1 : many' = nI (zwb a 5) := w2.1
    subst y1
    refine zfinF (nI (zwb a 5)) (sz', lv', lio', ab', be', kd', fi', se', x_found_order xs, xs.2.2.2.2.2.1.2.2.2.2.2.2.2.2.2.1, tb', st', bf') h0 ⟨a, m', ho, g4, g5, g2, zwOk_b hok g6⟩ ?_ ?_
    · simp (disch := omega) only [stX10_count, fX10_count, zl_0, zl_1, zl_2, zl_3, zl_4, zl_5, zl_6, zl_8, zl_9, zl_11, zl_12, zl_13, zl_16, zl_20, zl_23, zl_24, zl_30, zl_32, zl_40, zl_41, zl_43, zl_45, zl_50, zl_52, zl_60, zl_97, zl_99, zl_100, zl_124, zl_126, zl_127, zl_169, zl_170, zl_171, zl_195, zl_200, zl_201, zl_256, zl_261, zl_999, zl_1100, zl_1884, zl_4095, zl_4096, zd1, zd2, zs1, nI_add, pk_mul, zsb, zad1, zad2, zcl, zgI, zif_le, zif_nle, zif_lt, zif_nlt, zif_eq, zif_ne, zif_self, zif_T, zif_F, Nat.zero_add, Nat.add_sub_cancel, zn21, zn31, zif_m1, zif_m1l, zif_m1n, zif_pm, zb1_k, zb2_k, zb3_k, zb4_k, zb5_k, zb6_k, zb7_k, zb8_k, zb9_k, zb10_k, zb11_k, zb12_k, zb14_k, zb21_k, zb22_k, zupd_eq, zupd_ne, zupl_eq, zupl_ne, zupf_eq, zupf_ne, g1, x1]
    · simp (disch := omega) only [stX11_count, fX11_count, zl_0, zl_1, zl_2, zl_3, zl_4, zl_5, zl_6, zl_8, zl_9, zl_11, zl_12, zl_13, zl_16, zl_20, zl_23, zl_24, zl_30, zl_32, zl_40, zl_41, zl_43, zl_45, zl_50, zl_52, zl_60, zl_97, zl_99, zl_100, zl_124, zl_126, zl_127, zl_169, zl_170, zl_171, zl_195, zl_200, zl_201, zl_256, zl_261, zl_999, zl_1100, zl_1884, zl_4095, zl_4096, zd1, zd2, zs1, nI_add, pk_mul, zsb, zad1, zad2, zcl, zgI, zif_le, zif_nle, zif_lt, zif_nlt, zif_eq, zif_ne, zif_self, zif_T, zif_F, Nat.zero_add, Nat.add_sub_cancel, zn21, zn31, zif_m1, zif_m1l, zif_m1n, zif_pm, zb1_k, zb2_k, zb3_k, zb4_k, zb5_k, zb6_k, zb7_k, zb8_k, zb9_k, zb10_k, zb11_k, zb12_k, zb14_k, zb21_k, zb22_k, zupd_eq, zupd_ne, zupl_eq, zupl_ne, zupf_eq, zupf_ne, q1]
      exact ⟨_, rfl, rfl, rfl, rfl, rfl, rfl⟩
  · refine zfin0 (-1 : Int32) h0 ?_ ?_
    · simp (disch := omega) only [stX10_count, fX10_count, zl_0, zl_1, zl_2, zl_3, zl_4, zl_5, zl_6, zl_8, zl_9, zl_11, zl_12, zl_13, zl_16, zl_20, zl_23, zl_24, zl_30, zl_32, zl_40, zl_41, zl_43, zl_45, zl_50, zl_52, zl_60, zl_97, zl_99, zl_100, zl_124, zl_126, zl_127, zl_169, zl_170, zl_171, zl_195, zl_200, zl_201, zl_256, zl_261, zl_999, zl_1100, zl_1884, zl_4095, zl_4096, zd1, zd2, zs1, nI_add, pk_mul, zsb, zad1, zad2, zcl, zgI, zif_le, zif_nle, zif_lt, zif_nlt, zif_eq, zif_ne, zif_self, zif_T, zif_F, Nat.zero_add, Nat.add_sub_cancel, zn21, zn31, zif_m1, zif_m1l, zif_m1n, zif_pm, zb1_k, zb2_k, zb3_k, zb4_k, zb5_k, zb6_k, zb7_k, zb8_k, zb9_k, zb10_k, zb11_k, zb12_k, zb14_k, zb21_k, zb22_k, zupd_eq, zupd_ne, zupl_eq, zupl_ne, zupf_eq, zupf_ne, zfn c0, zfn c1, zfn c2, zfn c3, zfn c4, zfn c5]
      (try rfl)
    · simp (disch := omega) only [stX11_count, fX11_count, zl_0, zl_1, zl_2, zl_3, zl_4, zl_5, zl_6, zl_8, zl_9, zl_11, zl_12, zl_13, zl_16, zl_20, zl_23, zl_24, zl_30, zl_32, zl_40, zl_41, zl_43, zl_45, zl_50, zl_52, zl_60, zl_97, zl_99, zl_100, zl_124, zl_126, zl_127, zl_169, zl_170, zl_171, zl_195, zl_200, zl_201, zl_256, zl_261, zl_999, zl_1100, zl_1884, zl_4095, zl_4096, zd1, zd2, zs1, nI_add, pk_mul, zsb, zad1, zad2, zcl, zgI, zif_le, zif_nle, zif_lt, zif_nlt, zif_eq, zif_ne, zif_self, zif_T, zif_F, Nat.zero_add, Nat.add_sub_cancel, zn21, zn31, zif_m1, zif_m1l, zif_m1n, zif_pm, zb1_k, zb2_k, zb3_k, zb4_k, zb5_k, zb6_k, zb7_k, zb8_k, zb9_k, zb10_k, zb11_k, zb12_k, zb14_k, zb21_k, zb22_k, zupd_eq, zupd_ne, zupl_eq, zupl_ne, zupf_eq, zupf_ne, zfn c0, zfn c1, zfn c2, zfn c3, zfn c4, zfn c5]
      (try rfl)
/-! fewest -/
theorem zwG_L {o : Nat → Nat} (ho : ∀ s, s < 4 → o s ≤ 99) {m : Nat} (hm : m ≤ 4) : zwG (zwL o m).1 := fun _ _ he => zwF_b ho (zwP_g (zwF_p o hm) he)
theorem zwLn {o : Nat → Nat} (ho : ∀ s, s < 4 → o s ≤ 99) {m : Nat} (hm : m ≤ 4) : (zwL o m).1.length ≤ 1884 := by
  rw [zwF_n o hm]
  exact (zwb_le ho (by omega) (by omega)).1
theorem fx_indexL {a : Nat → Nat} {ohms spread order : Nat → Int32} {P Q : Nat} (hx : zXb a ohms spread) (hb : zBox a) (p1 : 1 ≤ P) (p2 : P ≤ 999) (q1 : 1 ≤ Q) (q2 : Q ≤ 999) : ∀ d n fu (O : Nat → Nat) (m : Nat) sz lv lio bf tb st ab be kd fi se, n + d = 5 → d < fu → 1 ≤ n → (n = 5 → m = 4 ∧ (∀ s, s < 4 → O s = a s) ∧ ¬ zwh (zwF a) (zRd P Q) = true) → (∀ s, s < 4 → O s ≤ 99) → m ≤ 4 → (∀ s, s < 4 → bf s = nI (O s)) → zwRp O m sz lv tb st ab be kd fi se → zwOk O m lio order → ∃ r m' sz' lv' lio' bf' tb' st' ab' be' kd' fi' se', fX7_indexOf_L18 ohms (nI P) (nI Q) (zL (Nat.gcd P Q)) fu (nI n) sz lv lio bf tb st ab be kd fi se = some (r, sz', lv', lio', bf', tb', st', ab', be', kd', fi', se') ∧ zwRp a m' sz' lv' tb' st' ab' be' kd' fi' se' ∧ 1 ≤ m' ∧ m' ≤ 4 ∧ (∀ s, s < 4 → bf' s = nI (a s)) ∧ zwOk a m' lio' order ∧ ((r = -nI 1 ∧ ¬ zwh (zwF a) (zRd P Q) = true) ∨ ∃ (j : Nat) (e : zwE), r = nI j ∧ j < zwb a (m' + 1) ∧ (zwF a)[j]? = some e ∧ e.1 = zRd P Q) := by
  have ho : ∀ s, s < 4 → a s ≤ 99 := fun s hs => (hb s hs).1
  have g := zgpos (u := P) (v := Q) (by omega)
  have gl := Nat.gcd_le_left Q (show 0 < P by omega)
  have dp : nI P / nI (Nat.gcd P Q) = nI (P / Nat.gcd P Q) := pk_div (by omega) g (by omega)
  have dq : nI Q / nI (Nat.gcd P Q) = nI (Q / Nat.gcd P Q) := pk_div (by omega) g (by omega)
  have l1 : P / Nat.gcd P Q ≤ P := Nat.div_le_self _ _
  have l2 : Q / Nat.gcd P Q ≤ Q := Nat.div_le_self _ _
  have eR : zRd P Q = (P / Nat.gcd P Q, Q / Nat.gcd P Q) := rfl
  have lt := zwl2i (n := Nat.gcd P Q) (by omega)
  have nz : ¬ nI (Nat.gcd P Q) = nI 0 := fun e => by have := (nI_eq (by omega) (by omega)).mp e; omega
  rw [eR]
  generalize P / Nat.gcd P Q = U at *
  generalize Q / Nat.gcd P Q = V at *
  intro d
  induction d with
  | zero =>
    intro n fu O m sz lv lio bf tb st ab be kd fi se hd hfu hn h5 hO hm hbf hr hok
    obtain ⟨fu, rfl⟩ : ∃ f, fu = f + 1 := ⟨fu - 1, by omega⟩
    obtain ⟨e1, e2, e3⟩ := h5 (by omega)
    subst e1
    have hr : zwRp a 4 sz lv tb st ab be kd fi se := by
      unfold zwRp at hr ⊢
      rw [zwL_c e2 4] at hr
      exact hr
    refine ⟨-nI 1, 4, sz, lv, lio, bf, tb, st, ab, be, kd, fi, se, ?_, hr, by omega, by omega, fun s hs => by rw [hbf s hs, e2 s hs], zwOk_b hok (Or.inl ⟨rfl, Nat.le_refl _, e2⟩), Or.inl ⟨rfl, e3⟩⟩
    rw [fX7_indexOf_L18_s, zl_4, if_pos (nI_lt (by omega) (by omega)), zl_1]
  | succ d ih =>
    intro n fu O m sz lv lio bf tb st ab be kd fi se hd hfu hn h5 hO hm hbf hr hok
    obtain ⟨fu, rfl⟩ : ∃ f, fu = f + 1 := ⟨fu - 1, by omega⟩
    obtain ⟨m', sz', lv', lio', bf', tb', st', ab', be', kd', fi', se', g1, g2, g3, g4, g5, g6⟩ := fx_build (N := n) hO hbf hx hb hm (by omega) hr
    have ok' := zwOk_b hok g6
    obtain ⟨T, t1, t2⟩ := g2.2.1.2.1
    obtain ⟨s, s1, s2, s3⟩ := fx_slot (u := U) (d := V) (zwLn ho g4) t1 t2 g2.2.1.2.2 (zwG_L ho g4) (by omega) (by omega)
    have ts := t1 s s1
    have lm := zwLn ho g4
    rcases s3 with ⟨c1, c2, _⟩ | ⟨j, e, c1, c2, c3⟩
    · rw [c1] at ts
      obtain ⟨r, m2, sz2, lv2, lio2, bf2, tb2, st2, ab2, be2, kd2, fi2, se2, f1, f2⟩ := ih (n + 1) fu a m' sz' lv' lio' bf' tb' st' ab' be' kd' fi' se' (by omega) (by omega) (by omega) (fun h => by
        have : m' = 4 := by omega
        subst this
        exact ⟨rfl, fun _ _ => rfl, c2⟩) ho g4 g5 g2 ok'
      refine ⟨r, m2, sz2, lv2, lio2, bf2, tb2, st2, ab2, be2, kd2, fi2, se2, ?_, f2⟩
      rw [← f1, fX7_indexOf_L18_s]
      simp (disch := omega) only [zl_0, zl_1, zl_2, zl_3, zl_4, zl_5, zl_6, zl_8, zl_9, zl_11, zl_12, zl_13, zl_16, zl_20, zl_23, zl_24, zl_30, zl_32, zl_40, zl_41, zl_43, zl_45, zl_50, zl_52, zl_60, zl_97, zl_99, zl_100, zl_124, zl_126, zl_127, zl_169, zl_170, zl_171, zl_195, zl_200, zl_201, zl_256, zl_261, zl_999, zl_1100, zl_1884, zl_4095, zl_4096, zd1, zd2, zs1, nI_add, pk_mul, zsb, zad1, zad2, zcl, zgI, zif_le, zif_nle, zif_lt, zif_nlt, zif_eq, zif_ne, zif_self, zif_T, zif_F, Nat.zero_add, Nat.add_sub_cancel, zn21, zn31, zif_m1, zif_m1l, zif_m1n, zif_pm, zb1_k, zb2_k, zb3_k, zb4_k, zb5_k, zb6_k, zb7_k, zb8_k, zb9_k, zb10_k, zb11_k, zb12_k, zb14_k, zb21_k, zb22_k, zupd_eq, zupd_ne, zupl_eq, zupl_ne, zupf_eq, zupf_ne, g1, lt, zpT nz, dp, dq, s2, ts]
    · rw [c1] at ts
      have hj := zwgl c2
      refine ⟨nI j, m', sz', lv', lio', bf', tb', st', ab', be', kd', fi', se', ?_, g2, by omega, g4, g5, ok', Or.inr ⟨j, e, rfl, by rw [← zwF_n a g4]; exact hj, zwP_g (zwF_p a g4) c2, c3⟩⟩
      rw [fX7_indexOf_L18_s]
      simp (disch := omega) only [zl_0, zl_1, zl_2, zl_3, zl_4, zl_5, zl_6, zl_8, zl_9, zl_11, zl_12, zl_13, zl_16, zl_20, zl_23, zl_24, zl_30, zl_32, zl_40, zl_41, zl_43, zl_45, zl_50, zl_52, zl_60, zl_97, zl_99, zl_100, zl_124, zl_126, zl_127, zl_169, zl_170, zl_171, zl_195, zl_200, zl_201, zl_256, zl_261, zl_999, zl_1100, zl_1884, zl_4095, zl_4096, zd1, zd2, zs1, nI_add, pk_mul, zsb, zad1, zad2, zcl, zgI, zif_le, zif_nle, zif_lt, zif_nlt, zif_eq, zif_ne, zif_self, zif_T, zif_F, Nat.zero_add, Nat.add_sub_cancel, zn21, zn31, zif_m1, zif_m1l, zif_m1n, zif_pm, zb1_k, zb2_k, zb3_k, zb4_k, zb5_k, zb6_k, zb7_k, zb8_k, zb9_k, zb10_k, zb11_k, zb12_k, zb14_k, zb21_k, zb22_k, zupd_eq, zupd_ne, zupl_eq, zupl_ne, zupf_eq, zupf_ne, g1, lt, zpT nz, dp, dq, s2, ts]
theorem fx_indexOf {O a : Nat → Nat} {m : Nat} {ohms spread order bf tb st ab be kd fi se : Nat → Int32} {sz lv lio : Int32} {P Q : Nat} (hx : zXb a ohms spread) (hb : zBox a) (p1 : 1 ≤ P) (p2 : P ≤ 999) (q1 : 1 ≤ Q) (q2 : Q ≤ 999) (hO : ∀ s, s < 4 → O s ≤ 99) (hm : m ≤ 4) (hbf : ∀ s, s < 4 → bf s = nI (O s)) (hr : zwRp O m sz lv tb st ab be kd fi se) (hok : zwOk O m lio order) : ∃ r m' sz' lv' lio' bf' tb' st' ab' be' kd' fi' se', fX7_indexOf (nI P) (nI Q) sz lv lio bf ohms tb st ab be kd fi se = some (r, sz', lv', lio', bf', tb', st', ab', be', kd', fi', se') ∧ zwRp a m' sz' lv' tb' st' ab' be' kd' fi' se' ∧ 1 ≤ m' ∧ m' ≤ 4 ∧ (∀ s, s < 4 → bf' s = nI (a s)) ∧ zwOk a m' lio' order ∧ ((r = -nI 1 ∧ ¬ zwh (zwF a) (zRd P Q) = true) ∨ ∃ (j : Nat) (e : zwE), r = nI j ∧ j < zwb a (m' + 1) ∧ (zwF a)[j]? = some e ∧ e.1 = zRd P Q) := by
  have g := zgpos (u := P) (v := Q) (by omega)
  have gl := Nat.gcd_le_left Q (show 0 < P by omega)
  have lt := zwl2i (n := Nat.gcd P Q) (by omega)
  have e := fx_gcd (a := P) (b := Q) (by omega) (by omega)
  obtain ⟨r, m', sz', lv', lio', bf', tb', st', ab', be', kd', fi', se', f1, f2⟩ := fx_indexL (order := order) hx hb p1 p2 q1 q2 4 1 5000 O m sz lv lio bf tb st ab be kd fi se (by omega) (by omega) (by omega) (fun h => by omega) hO hm hbf hr hok
  refine ⟨r, m', sz', lv', lio', bf', tb', st', ab', be', kd', fi', se', ?_, f2⟩
  rw [← f1]
  unfold fX7_indexOf
  simp (disch := omega) only [zl_0, zl_1, zl_2, zl_3, zl_4, zl_5, zl_6, zl_8, zl_9, zl_11, zl_12, zl_13, zl_16, zl_20, zl_23, zl_24, zl_30, zl_32, zl_40, zl_41, zl_43, zl_45, zl_50, zl_52, zl_60, zl_97, zl_99, zl_100, zl_124, zl_126, zl_127, zl_169, zl_170, zl_171, zl_195, zl_200, zl_201, zl_256, zl_261, zl_999, zl_1100, zl_1884, zl_4095, zl_4096, zd1, zd2, zs1, nI_add, pk_mul, zsb, zad1, zad2, zcl, zgI, zif_le, zif_nle, zif_lt, zif_nlt, zif_eq, zif_ne, zif_self, zif_T, zif_F, Nat.zero_add, Nat.add_sub_cancel, zn21, zn31, zif_m1, zif_m1l, zif_m1n, zif_pm, zb1_k, zb2_k, zb3_k, zb4_k, zb5_k, zb6_k, zb7_k, zb8_k, zb9_k, zb10_k, zb11_k, zb12_k, zb14_k, zb21_k, zb22_k, zupd_eq, zupd_ne, zupl_eq, zupl_ne, zupf_eq, zupf_ne, zi2l, e, lt]
theorem fm_wished {a : Nat → Nat} {now : Nat → Int32} {P Q : Nat} (hm : zMn a now) (hb : zBox a) (p1 : 1 ≤ P) (p2 : P ≤ 999) (q1 : 1 ≤ Q) (q2 : Q ≤ 999) (c e : Int64) (many : Int32) (bg : Nat → Int32) (up dn : Nat → Int64) (how fst snd : Nat → Int32) : ∃ r c' e' many' bg' up' dn' how' fst' snd', fX11_wished (nI P) (nI Q) c e many bg now up dn how fst snd = some (r, c', e', many', bg', up', dn', how', fst', snd') ∧ zwMp a 4 many' bg' up' dn' how' fst' snd' ∧ ((¬ zwh (zwF a) (zRd P Q) = true ∧ r = -nI 1) ∨ ∃ (j : Nat) (e : zwE), (zwF a)[j]? = some e ∧ e.1 = zRd P Q ∧ r = nI j) := by
  have ho : ∀ s, s < 4 → a s ≤ 99 := fun s hs => (hb s hs).1
  obtain ⟨c', e', many', bg', up', dn', how', fst', snd', g1, g2⟩ := fm_lay (N := 4) hm hb (by omega) (by omega) c e many bg up dn how fst snd
  have l1 : (zRd P Q).1 ≤ P := Nat.div_le_self _ _
  have l2 : (zRd P Q).2 ≤ Q := Nat.div_le_self _ _
  have bec := (fm_becomes (u := P) (v := Q) (c := c') (d := e') (by omega) (by omega) (by omega)).2 (by
    rintro (w | w) <;> omega)
  have bec : fX11_becomes (zL P) (zL Q) c' e' = some (zL (zRd P Q).1, zL (zRd P Q).2) := bec
  obtain ⟨r, f1, f2⟩ := fm_at (P := (zRd P Q).1) (Q := (zRd P Q).2) (by have := zwLn ho (m := 4) (by omega); omega) (zwG_L ho (m := 4) (by omega)) (fun i e he => ⟨(g2.1.2 i e he).1, (g2.1.2 i e he).2.1⟩) (by omega) (by omega)
  have y1 := g2.1.1
  refine ⟨r, zL (zRd P Q).1, zL (zRd P Q).2, many', bg', up', dn', how', fst', snd', ?_, g2, f2⟩
  unfold fX11_wished
  rw [← y1] at f1
  simp (disch := omega) only [zl_0, zl_1, zl_2, zl_3, zl_4, zl_5, zl_6, zl_8, zl_9, zl_11, zl_12, zl_13, zl_16, zl_20, zl_23, zl_24, zl_30, zl_32, zl_40, zl_41, zl_43, zl_45, zl_50, zl_52, zl_60, zl_97, zl_99, zl_100, zl_124, zl_126, zl_127, zl_169, zl_170, zl_171, zl_195, zl_200, zl_201, zl_256, zl_261, zl_999, zl_1100, zl_1884, zl_4095, zl_4096, zd1, zd2, zs1, nI_add, pk_mul, zsb, zad1, zad2, zcl, zgI, zif_le, zif_nle, zif_lt, zif_nlt, zif_eq, zif_ne, zif_self, zif_T, zif_F, Nat.zero_add, Nat.add_sub_cancel, zn21, zn31, zif_m1, zif_m1l, zif_m1n, zif_pm, zb1_k, zb2_k, zb3_k, zb4_k, zb5_k, zb6_k, zb7_k, zb8_k, zb9_k, zb10_k, zb11_k, zb12_k, zb14_k, zb21_k, zb22_k, zupd_eq, zupd_ne, zupl_eq, zupl_ne, zupf_eq, zupf_ne, g1, zi2l, bec, f1]
theorem q_fewest {k : Nat} : zQ_fewest (zR zwFd) k := by
  intro xs ms h p1 p2
  have h0 := h
  obtain ⟨a, hv, hx, hm, hI, hT, O, m, hO, hm4, hbf, hrp, hok⟩ := h
  have hB := hx.1
  have ho : ∀ s, s < 4 → a s ≤ 99 := fun s hs => (hv.1 s hs).1
  rcases zwish p1 p2 with ⟨g1, g2⟩ | ⟨P, Q, w1, w2, w3, w4, rfl, rfl, g1, g2⟩
  · refine zfin0 (-1 : Int32) h0 ?_ ?_
    · simp (disch := omega) only [stX10_fewest, fX10_fewest, zl_0, zl_1, zl_2, zl_3, zl_4, zl_5, zl_6, zl_8, zl_9, zl_11, zl_12, zl_13, zl_16, zl_20, zl_23, zl_24, zl_30, zl_32, zl_40, zl_41, zl_43, zl_45, zl_50, zl_52, zl_60, zl_97, zl_99, zl_100, zl_124, zl_126, zl_127, zl_169, zl_170, zl_171, zl_195, zl_200, zl_201, zl_256, zl_261, zl_999, zl_1100, zl_1884, zl_4095, zl_4096, zd1, zd2, zs1, nI_add, pk_mul, zsb, zad1, zad2, zcl, zgI, zif_le, zif_nle, zif_lt, zif_nlt, zif_eq, zif_ne, zif_self, zif_T, zif_F, Nat.zero_add, Nat.add_sub_cancel, zn21, zn31, zif_m1, zif_m1l, zif_m1n, zif_pm, zb1_k, zb2_k, zb3_k, zb4_k, zb5_k, zb6_k, zb7_k, zb8_k, zb9_k, zb10_k, zb11_k, zb12_k, zb14_k, zb21_k, zb22_k, zupd_eq, zupd_ne, zupl_eq, zupl_ne, zupf_eq, zupf_ne, g1]
      (try rfl)
    · simp (disch := omega) only [stX11_fewest, fX11_fewest, zl_0, zl_1, zl_2, zl_3, zl_4, zl_5, zl_6, zl_8, zl_9, zl_11, zl_12, zl_13, zl_16, zl_20, zl_23, zl_24, zl_30, zl_32, zl_40, zl_41, zl_43, zl_45, zl_50, zl_52, zl_60, zl_97, zl_99, zl_100, zl_124, zl_126, zl_127, zl_169, zl_170, zl_171, zl_195, zl_200, zl_201, zl_256, zl_261, zl_999, zl_1100, zl_1884, zl_4095, zl_4096, zd1, zd2, zs1, nI_add, pk_mul, zsb, zad1, zad2, zcl, zgI, zif_le, zif_nle, zif_lt, zif_nlt, zif_eq, zif_ne, zif_self, zif_T, zif_F, Nat.zero_add, Nat.add_sub_cancel, zn21, zn31, zif_m1, zif_m1l, zif_m1n, zif_pm, zb1_k, zb2_k, zb3_k, zb4_k, zb5_k, zb6_k, zb7_k, zb8_k, zb9_k, zb10_k, zb11_k, zb12_k, zb14_k, zb21_k, zb22_k, zupd_eq, zupd_ne, zupl_eq, zupl_ne, zupf_eq, zupf_ne, g2]
      (try rfl)
  obtain ⟨r, m', sz', lv', lio', bf', tb', st', ab', be', kd', fi', se', f1, f2, f3, f4, f5, f6, f7⟩ := fx_indexOf hB hv.1 w1 w2 w3 w4 hO hm4 hbf hrp hok
  obtain ⟨r', c', e', many', bg', up', dn', how', fst', snd', j1, j2, j3⟩ := fm_wished hm hv.1 w1 w2 w3 w4 (m_above ms) (m_below ms) (m_reachMany ms) (m_begins ms) (m_reachUp ms) (m_reachDown ms) (m_reachHow ms) (m_reachFirst ms) (m_reachSecond ms)
  have hf : zwFd (sz', lv', lio', ab', be', kd', fi', se', x_found_order xs, xs.2.2.2.2.2.1.2.2.2.2.2.2.2.2.2.1, tb', st', bf') := ⟨a, m', ho, f4, f5, f2, f6⟩
  rcases f7 with ⟨rfl, c1⟩ | ⟨j, e, rfl, c1, c2, c3⟩
  · rcases j3 with ⟨_, rfl⟩ | ⟨j', e', d1, d2, rfl⟩
    · have n0 : ¬ (nI 0 ≤ -nI 1) := by decide
      refine zfinF (-2 : Int32) _ h0 hf ?_ ?_
      · simp (disch := omega) only [stX10_fewest, fX10_fewest, zl_0, zl_1, zl_2, zl_3, zl_4, zl_5, zl_6, zl_8, zl_9, zl_11, zl_12, zl_13, zl_16, zl_20, zl_23, zl_24, zl_30, zl_32, zl_40, zl_41, zl_43, zl_45, zl_50, zl_52, zl_60, zl_97, zl_99, zl_100, zl_124, zl_126, zl_127, zl_169, zl_170, zl_171, zl_195, zl_200, zl_201, zl_256, zl_261, zl_999, zl_1100, zl_1884, zl_4095, zl_4096, zd1, zd2, zs1, nI_add, pk_mul, zsb, zad1, zad2, zcl, zgI, zif_le, zif_nle, zif_lt, zif_nlt, zif_eq, zif_ne, zif_self, zif_T, zif_F, Nat.zero_add, Nat.add_sub_cancel, zn21, zn31, zif_m1, zif_m1l, zif_m1n, zif_pm, zb1_k, zb2_k, zb3_k, zb4_k, zb5_k, zb6_k, zb7_k, zb8_k, zb9_k, zb10_k, zb11_k, zb12_k, zb14_k, zb21_k, zb22_k, zupd_eq, zupd_ne, zupl_eq, zupl_ne, zupf_eq, zupf_ne, g1, f1]
      · simp (disch := omega) only [stX11_fewest, fX11_fewest, zl_0, zl_1, zl_2, zl_3, zl_4, zl_5, zl_6, zl_8, zl_9, zl_11, zl_12, zl_13, zl_16, zl_20, zl_23, zl_24, zl_30, zl_32, zl_40, zl_41, zl_43, zl_45, zl_50, zl_52, zl_60, zl_97, zl_99, zl_100, zl_124, zl_126, zl_127, zl_169, zl_170, zl_171, zl_195, zl_200, zl_201, zl_256, zl_261, zl_999, zl_1100, zl_1884, zl_4095, zl_4096, zd1, zd2, zs1, nI_add, pk_mul, zsb, zad1, zad2, zcl, zgI, zif_le, zif_nle, zif_lt, zif_nlt, zif_eq, zif_ne, zif_self, zif_T, zif_F, Nat.zero_add, Nat.add_sub_cancel, zn21, zn31, zif_m1, zif_m1l, zif_m1n, zif_pm, zb1_k, zb2_k, zb3_k, zb4_k, zb5_k, zb6_k, zb7_k, zb8_k, zb9_k, zb10_k, zb11_k, zb12_k, zb14_k, zb21_k, zb22_k, zupd_eq, zupd_ne, zupl_eq, zupl_ne, zupf_eq, zupf_ne, g2, j1, zfn n0]
        exact ⟨_, rfl, rfl, rfl, rfl, rfl, rfl⟩
    · exact absurd (by rw [← d2]; exact zwh_i d1) c1
  · rcases j3 with ⟨d1, _⟩ | ⟨j', e', d1, d2, rfl⟩
    · exact absurd (by rw [← c3]; exact zwh_i c2) d1
    · have ej : j' = j := zwF_ne ho d1 c2 (d2.trans c3.symm)
      subst ej
      have t := zwF_t ho c2
      have b1 := zwb_le ho (k := 5) (by omega) (by omega)
      have x1 := fx_partsOfR ho (zwQx_o f4 f2) f3 f4 c1
      have y1 := fm_partsOfR ho (zwQm_o (by omega) j2) (by omega) (by omega) t.2
      have n0 : ¬ nI j' = -nI 1 := znm1 (by omega)
      refine zfinF (nI (zwlv a j')) _ h0 hf ?_ ?_
      · simp (disch := omega) only [stX10_fewest, fX10_fewest, zl_0, zl_1, zl_2, zl_3, zl_4, zl_5, zl_6, zl_8, zl_9, zl_11, zl_12, zl_13, zl_16, zl_20, zl_23, zl_24, zl_30, zl_32, zl_40, zl_41, zl_43, zl_45, zl_50, zl_52, zl_60, zl_97, zl_99, zl_100, zl_124, zl_126, zl_127, zl_169, zl_170, zl_171, zl_195, zl_200, zl_201, zl_256, zl_261, zl_999, zl_1100, zl_1884, zl_4095, zl_4096, zd1, zd2, zs1, nI_add, pk_mul, zsb, zad1, zad2, zcl, zgI, zif_le, zif_nle, zif_lt, zif_nlt, zif_eq, zif_ne, zif_self, zif_T, zif_F, Nat.zero_add, Nat.add_sub_cancel, zn21, zn31, zif_m1, zif_m1l, zif_m1n, zif_pm, zb1_k, zb2_k, zb3_k, zb4_k, zb5_k, zb6_k, zb7_k, zb8_k, zb9_k, zb10_k, zb11_k, zb12_k, zb14_k, zb21_k, zb22_k, zupd_eq, zupd_ne, zupl_eq, zupl_ne, zupf_eq, zupf_ne, g1, f1, zfn n0, x1]
      · simp (disch := omega) only [stX11_fewest, fX11_fewest, zl_0, zl_1, zl_2, zl_3, zl_4, zl_5, zl_6, zl_8, zl_9, zl_11, zl_12, zl_13, zl_16, zl_20, zl_23, zl_24, zl_30, zl_32, zl_40, zl_41, zl_43, zl_45, zl_50, zl_52, zl_60, zl_97, zl_99, zl_100, zl_124, zl_126, zl_127, zl_169, zl_170, zl_171, zl_195, zl_200, zl_201, zl_256, zl_261, zl_999, zl_1100, zl_1884, zl_4095, zl_4096, zd1, zd2, zs1, nI_add, pk_mul, zsb, zad1, zad2, zcl, zgI, zif_le, zif_nle, zif_lt, zif_nlt, zif_eq, zif_ne, zif_self, zif_T, zif_F, Nat.zero_add, Nat.add_sub_cancel, zn21, zn31, zif_m1, zif_m1l, zif_m1n, zif_pm, zb1_k, zb2_k, zb3_k, zb4_k, zb5_k, zb6_k, zb7_k, zb8_k, zb9_k, zb10_k, zb11_k, zb12_k, zb14_k, zb21_k, zb22_k, zupd_eq, zupd_ne, zupl_eq, zupl_ne, zupf_eq, zupf_ne, g2, j1, y1]
        exact ⟨_, rfl, rfl, rfl, rfl, rfl, rfl⟩
