/-! the world behind both sides: a row of naturals, laid as the reference lays its ints -/
abbrev aK (a : Nat → Nat) (i : Nat) : Nat := a (9 + 4 * i)
abbrev aF (a : Nat → Nat) (i : Nat) : Nat := a (9 + 4 * i + 1)
abbrev aS (a : Nat → Nat) (i : Nat) : Nat := a (9 + 4 * i + 2)
abbrev aP (a : Nat → Nat) (i : Nat) : Nat := a (9 + 4 * i + 3)
def zNet1 (a : Nat → Nat) (i : Nat) : Prop := (aK a i = 0 ∧ aF a i < 4 ∧ aS a i = 0 ∧ aP a i = 1 ∧ 0 < a (aF a i)) ∨ ((aK a i = 1 ∨ aK a i = 2) ∧ aF a i < i ∧ aS a i < i ∧ aP a i = aP a (aF a i) + aP a (aS a i) ∧ aP a i ≤ 12)
def zNet (a : Nat → Nat) : Prop := ∀ i, i < a 8 → zNet1 a i
def zBox (a : Nat → Nat) : Prop := ∀ s, s < 4 → a s ≤ 99 ∧ a (4 + s) ≤ 50
def zMsh (a : Nat → Nat) : Prop := 2 ≤ a 169 ∧ a 169 ≤ 6 ∧ a 170 ≤ 8 ∧ ∀ e, e < a 170 → a (171 + 3 * e) < a 169 ∧ a (171 + 3 * e + 1) < a 169 ∧ a (171 + 3 * e) ≠ a (171 + 3 * e + 1) ∧ a (171 + 3 * e + 2) ≤ 99
def zTry (a : Nat → Nat) (t : Nat) : Prop := a (195 + 2 * t) ≤ 21 ∧ a (195 + 2 * t + 1) ≤ 3 ∧ (a (195 + 2 * t) = 0 ↔ a (195 + 2 * t + 1) = 0) ∧ ∀ i, i < 20 → a (201 + 20 * t + i) ≤ a 8
def zV (a : Nat → Nat) : Prop := zBox a ∧ a 8 ≤ 40 ∧ zNet a ∧ zMsh a ∧ ∀ t, t < 3 → zTry a t
def zMn (a : Nat → Nat) (now : Nat → Int32) : Prop := (∀ j, j < 195 → now j = nI (a j)) ∧ (∀ t, t < 6 → (t % 2 = 0 ∨ 0 < a (195 + t)) → now (195 + t) = nI (a (195 + t)) - nI 1) ∧ (∀ j, 201 ≤ j → j < 261 → now j = nI (a j))
def zsec (k s : Nat) : Int32 := if k = 0 then -nI 1 else nI s
def zXb (a : Nat → Nat) (ohms spread : Nat → Int32) : Prop := (∀ s, s < 4 → ohms s = nI (a s)) ∧ (∀ s, s < 4 → spread s = nI (a (4 + s)))
def zXn (a : Nat → Nat) (cnt : Int32) (kind first second parts : Nat → Int32) : Prop := cnt = nI (a 8) ∧ (∀ i, i < a 8 → kind i = nI (aK a i)) ∧ (∀ i, i < a 8 → first i = nI (aF a i)) ∧ (∀ i, i < a 8 → second i = zsec (aK a i) (aS a i)) ∧ (∀ i, i < a 8 → parts i = nI (aP a i))
def zXm (a : Nat → Nat) (pts edg : Int32) (one oth mo : Nat → Int32) : Prop := pts = nI (a 169) ∧ edg = nI (a 170) ∧ (∀ e, e < a 170 → one e = nI (a (171 + 3 * e))) ∧ (∀ e, e < a 170 → oth e = nI (a (171 + 3 * e + 1))) ∧ (∀ e, e < a 170 → mo e = nI (a (171 + 3 * e + 2)))
def zXt (a : Nat → Nat) (t : Nat) (k s : Int32) (p : Nat → Int32) : Prop := k = nI (a (195 + 2 * t + 1)) - nI 1 ∧ (0 < a (195 + 2 * t + 1) → s = nI (a (195 + 2 * t)) - nI 1 ∧ ∀ i, i < 20 → p i = nI (a (201 + 20 * t + i)) - nI 1)
def zXw (a : Nat → Nat) (ohms spread : Nat → Int32) (cnt : Int32) (kind first second parts : Nat → Int32) (pts edg : Int32) (one oth mo : Nat → Int32) (k0 s0 : Int32) (p0 : Nat → Int32) (k1 s1 : Int32) (p1 : Nat → Int32) (k2 s2 : Int32) (p2 : Nat → Int32) : Prop := zXb a ohms spread ∧ zXn a cnt kind first second parts ∧ zXm a pts edg one oth mo ∧ zXt a 0 k0 s0 p0 ∧ zXt a 1 k1 s1 p1 ∧ zXt a 2 k2 s2 p2
def zX (a : Nat → Nat) (s : XS) : Prop := zXw a (x_box_ohms s) (x_box_spread s) (x_nets_count s) (x_nets_kind s) (x_nets_first s) (x_nets_second s) (x_nets_parts s) (x_mesh_points s) (x_mesh_edges s) (x_mesh_one s) (x_mesh_other s) (x_mesh_ohms s) (x_trays_e0_kind s) (x_trays_e0_size s) (x_trays_e0_places s) (x_trays_e1_kind s) (x_trays_e1_size s) (x_trays_e1_places s) (x_trays_e2_kind s) (x_trays_e2_size s) (x_trays_e2_places s)
def zXk (a : Nat → Nat) (s : XS) : Prop := zXw a (x_kept_box_ohms s) (x_kept_box_spread s) (x_kept_nets_count s) (x_kept_nets_kind s) (x_kept_nets_first s) (x_kept_nets_second s) (x_kept_nets_parts s) (x_kept_mesh_points s) (x_kept_mesh_edges s) (x_kept_mesh_one s) (x_kept_mesh_other s) (x_kept_mesh_ohms s) (x_kept_trays_e0_kind s) (x_kept_trays_e0_size s) (x_kept_trays_e0_places s) (x_kept_trays_e1_kind s) (x_kept_trays_e1_size s) (x_kept_trays_e1_places s) (x_kept_trays_e2_kind s) (x_kept_trays_e2_size s) (x_kept_trays_e2_places s)
/-- the image, the tape -/
def zIm (xs : XS) (ms : MS) : Prop := (x_kept_isTaken xs = 0 ∧ m_hasImage ms = 0) ∨ (x_kept_isTaken xs = 1 ∧ m_hasImage ms = 1 ∧ ∃ b, zV b ∧ zXk b xs ∧ zMn b (m_imaged ms))
def zTp (xs : XS) (ms : MS) : Prop := ∃ (L : Nat) (T : Nat → Nat), L ≤ 60 ∧ x_tape_length xs = nI L ∧ m_size ms = nI L ∧ (∀ i, i < L → 32 ≤ T i ∧ T i ≤ 126) ∧ (∀ i, i < L → x_tape_letters xs i = nI (T i)) ∧ (∀ i, i < L → m_tape ms i = nI (T i))
abbrev FD : Type := Int32 × Int32 × Int32 × (Nat → Int32) × (Nat → Int32) × (Nat → Int32) × (Nat → Int32) × (Nat → Int32) × (Nat → Int32) × (Nat → Int32) × (Nat → Int32) × (Nat → Int32) × (Nat → Int32)
abbrev x_found (s : XS) : FD := s.2.2.2.2.2.1
def zRl (Fd : FD → Prop) (xs : XS) (ms : MS) : Prop := ∃ a, zV a ∧ zX a xs ∧ zMn a (m_now ms) ∧ zIm xs ms ∧ zTp xs ms ∧ Fd (x_found xs)
def zR (Fd : FD → Prop) (_ : Nat) (xs : XS) (ms : MS) : Prop := zRl Fd xs ms
/-! frames: what a row of naturals says of a stretch alone -/
theorem zXb_fr {a b : Nat → Nat} {o g : Nat → Int32} (h : zXb a o g) (e : ∀ j, j < 8 → b j = a j) : zXb b o g := by
  refine ⟨fun s hs => ?_, fun s hs => ?_⟩
  · rw [e s (by omega)]; exact h.1 s hs
  · rw [e (4 + s) (by omega)]; exact h.2 s hs
theorem zXm_fr {a b : Nat → Nat} {p q : Int32} {x y z : Nat → Int32} (hv : zMsh a) (h : zXm a p q x y z) (e : ∀ j, 169 ≤ j → j < 195 → b j = a j) : zXm b p q x y z := by
  have e0 := e 170 (by omega) (by omega)
  have h8 := hv.2.2.1
  refine ⟨(e 169 (by omega) (by omega)).symm ▸ h.1, e0.symm ▸ h.2.1, ?_, ?_, ?_⟩ <;> (intro i hi; rw [e0] at hi; rw [e _ (by omega) (by omega)])
  · exact h.2.2.1 i hi
  · exact h.2.2.2.1 i hi
  · exact h.2.2.2.2 i hi
theorem zXt_fr {a b : Nat → Nat} {t : Nat} {k s : Int32} {p : Nat → Int32} (ht : t < 3) (h : zXt a t k s p) (e1 : b (195 + 2 * t) = a (195 + 2 * t)) (e2 : b (195 + 2 * t + 1) = a (195 + 2 * t + 1)) (e : ∀ i, i < 20 → b (201 + 20 * t + i) = a (201 + 20 * t + i)) : zXt b t k s p := by
  refine ⟨e2.symm ▸ h.1, fun h0 => ?_⟩
  rw [e2] at h0
  refine ⟨e1.symm ▸ (h.2 h0).1, fun i hi => ?_⟩
  rw [e i hi]
  exact (h.2 h0).2 i hi
theorem zMsh_fr {a b : Nat → Nat} (h : zMsh a) (e : ∀ j, 169 ≤ j → j < 195 → b j = a j) : zMsh b := by
  have e0 := e 170 (by omega) (by omega)
  have e1 := e 169 (by omega) (by omega)
  have h8 := h.2.2.1
  refine ⟨e1.symm ▸ h.1, e1.symm ▸ h.2.1, e0.symm ▸ h8, fun i hi => ?_⟩
  rw [e0] at hi
  rw [e1, e _ (by omega) (by omega), e (171 + 3 * i + 1) (by omega) (by omega), e (171 + 3 * i + 2) (by omega) (by omega)]
  exact h.2.2.2 i hi
theorem zNet_fr {a b : Nat → Nat} (h8 : a 8 ≤ 40) (h : zNet a) (e : ∀ j, 8 ≤ j → j < 169 → b j = a j) (o : ∀ s, s < 4 → 0 < a s → (∃ i, i < a 8 ∧ aK a i = 0 ∧ aF a i = s) → 0 < b s) : zNet b := by
  have e0 := e 8 (by omega) (by omega)
  intro i hi
  rw [e0] at hi
  have ek : aK b i = aK a i := e _ (by omega) (by omega)
  have ef : aF b i = aF a i := e _ (by omega) (by omega)
  have es : aS b i = aS a i := e _ (by omega) (by omega)
  have ep : aP b i = aP a i := e _ (by omega) (by omega)
  rcases h i hi with ⟨h1, h2, h3, h4, h5⟩ | ⟨h1, h2, h3, h4, h5⟩
  · exact Or.inl ⟨ek.trans h1, ef ▸ h2, es.trans h3, ep.trans h4, by rw [ef]; exact o _ h2 h5 ⟨i, hi, h1, rfl⟩⟩
  · refine Or.inr ⟨by rw [ek]; exact h1, by rw [ef]; exact h2, by rw [es]; exact h3, ?_, by rw [ep]; exact h5⟩
    rw [ep, ef, es, h4]
    have q1 : aP b (aF a i) = aP a (aF a i) := e _ (by omega) (by omega)
    have q2 : aP b (aS a i) = aP a (aS a i) := e _ (by omega) (by omega)
    rw [q1, q2]
theorem zNet_b {a : Nat → Nat} (h : zNet a) {i : Nat} (hi : i < a 8) (h8 : a 8 ≤ 40) : aK a i ≤ 2 ∧ aF a i < 40 ∧ aS a i < 40 ∧ aP a i ≤ 12 ∧ 1 ≤ aP a i := by
  induction i using Nat.strongRecOn with
  | ind i ih =>
    rcases h i hi with ⟨h1, h2, h3, h4, h5⟩ | ⟨h1, h2, h3, h4, h5⟩
    · omega
    · have := (ih _ h2 (by omega)).2.2.2.2
      omega
theorem zMn_lo {a : Nat → Nat} {now : Nat → Int32} (h : zMn a now) {j : Nat} (hj : j < 195) : now j = nI (a j) := h.1 j hj
/-! finding a net -/
def zP (a : Nat → Nat) (kk ff ss : Nat) (j : Nat) : Bool := decide (aK a j = kk ∧ aF a j = ff ∧ aS a j = ss)
theorem zsec_eq {k s t : Nat} (h : k = 0 → s = 0 ∧ t = 0) (hs : s < 2147483648) (ht : t < 2147483648) : zsec k s = zsec k t ↔ s = t := by
  unfold zsec
  by_cases e : k = 0
  · rw [if_pos e, if_pos e]
    have := h e
    exact ⟨fun _ => by omega, fun _ => rfl⟩
  · rw [if_neg e, if_neg e]
    exact nI_eq hs ht
theorem fx_findL {a : Nat → Nat} {kind first second : Nat → Int32} {n kk ff ss : Nat} (hn : n ≤ 40) (hk : ∀ i, i < n → kind i = nI (aK a i)) (hf : ∀ i, i < n → first i = nI (aF a i)) (hs : ∀ i, i < n → second i = zsec (aK a i) (aS a i)) (hb : ∀ i, i < n → aK a i ≤ 2 ∧ aF a i < 40 ∧ aS a i < 40) (hz : ∀ i, i < n → aK a i = 0 → aS a i = 0) (h1 : kk ≤ 2) (h2 : ff < 40) (h3 : ss < 40) (h4 : kk = 0 → ss = 0) : ∀ d j fu, j + d = n → d < fu → fX5_find_L3 (nI n) kind first second (nI kk) (nI ff) (zsec kk ss) fu (nI j) = some (zopt (zfnd (zP a kk ff ss) d j)) := by
  intro d
  induction d with
  | zero =>
    intro j fu hj hfu
    obtain ⟨fu, rfl⟩ : ∃ f, fu = f + 1 := ⟨fu - 1, by omega⟩
    rw [fX5_find_L3_s]
    simp (disch := omega) only [zl_0, zl_1, zl_2, zl_3, zl_4, zl_5, zl_6, zl_8, zl_9, zl_11, zl_12, zl_13, zl_16, zl_20, zl_23, zl_24, zl_30, zl_32, zl_40, zl_41, zl_43, zl_45, zl_50, zl_52, zl_60, zl_97, zl_99, zl_100, zl_124, zl_126, zl_127, zl_169, zl_170, zl_171, zl_195, zl_200, zl_201, zl_256, zl_261, zl_999, zl_1100, zl_1884, zl_4095, zl_4096, zd1, zd2, zs1, nI_add, pk_mul, zsb, zad1, zad2, zcl, zgI, zif_le, zif_nle, zif_lt, zif_nlt, zif_eq, zif_ne, zif_self, zif_T, zif_F, Nat.zero_add, Nat.add_sub_cancel, zn21, zn31, zif_m1, zif_m1l, zif_m1n, zif_pm, zb1_k, zb2_k, zb3_k, zb4_k, zb5_k, zb6_k, zb7_k, zb8_k, zb9_k, zb10_k, zb11_k, zb12_k, zb14_k, zb21_k, zb22_k, zupd_eq, zupd_ne, zupl_eq, zupl_ne, zupf_eq, zupf_ne]
    rfl
  | succ d ih =>
    intro j fu hj hfu
    obtain ⟨fu, rfl⟩ : ∃ f, fu = f + 1 := ⟨fu - 1, by omega⟩
    have hj2 : j < n := by omega
    have b := hb j hj2
    have hih := ih (j + 1) fu (by omega) (by omega)
    rw [fX5_find_L3_s]
    unfold zfnd
    by_cases q1 : aK a j = kk
    · by_cases q2 : aF a j = ff
      · have q3 : (second j = zsec kk ss) ↔ aS a j = ss := by
          rw [hs j hj2, q1]
          exact zsec_eq (fun e => ⟨hz j hj2 (q1.trans e), h4 e⟩) (by omega) (by omega)
        by_cases q4 : aS a j = ss
        · rw [if_pos (show zP a kk ff ss j = true from decide_eq_true ⟨q1, q2, q4⟩)]
          simp (disch := omega) only [zl_0, zl_1, zl_2, zl_3, zl_4, zl_5, zl_6, zl_8, zl_9, zl_11, zl_12, zl_13, zl_16, zl_20, zl_23, zl_24, zl_30, zl_32, zl_40, zl_41, zl_43, zl_45, zl_50, zl_52, zl_60, zl_97, zl_99, zl_100, zl_124, zl_126, zl_127, zl_169, zl_170, zl_171, zl_195, zl_200, zl_201, zl_256, zl_261, zl_999, zl_1100, zl_1884, zl_4095, zl_4096, zd1, zd2, zs1, nI_add, pk_mul, zsb, zad1, zad2, zcl, zgI, zif_le, zif_nle, zif_lt, zif_nlt, zif_eq, zif_ne, zif_self, zif_T, zif_F, Nat.zero_add, Nat.add_sub_cancel, zn21, zn31, zif_m1, zif_m1l, zif_m1n, zif_pm, zb1_k, zb2_k, zb3_k, zb4_k, zb5_k, zb6_k, zb7_k, zb8_k, zb9_k, zb10_k, zb11_k, zb12_k, zb14_k, zb21_k, zb22_k, zupd_eq, zupd_ne, zupl_eq, zupl_ne, zupf_eq, zupf_ne, hk, hf, if_pos (q3.mpr q4)]
          rfl
        · rw [if_neg (show ¬ zP a kk ff ss j = true from fun e => q4 (of_decide_eq_true e).2.2)]
          simp (disch := omega) only [zl_0, zl_1, zl_2, zl_3, zl_4, zl_5, zl_6, zl_8, zl_9, zl_11, zl_12, zl_13, zl_16, zl_20, zl_23, zl_24, zl_30, zl_32, zl_40, zl_41, zl_43, zl_45, zl_50, zl_52, zl_60, zl_97, zl_99, zl_100, zl_124, zl_126, zl_127, zl_169, zl_170, zl_171, zl_195, zl_200, zl_201, zl_256, zl_261, zl_999, zl_1100, zl_1884, zl_4095, zl_4096, zd1, zd2, zs1, nI_add, pk_mul, zsb, zad1, zad2, zcl, zgI, zif_le, zif_nle, zif_lt, zif_nlt, zif_eq, zif_ne, zif_self, zif_T, zif_F, Nat.zero_add, Nat.add_sub_cancel, zn21, zn31, zif_m1, zif_m1l, zif_m1n, zif_pm, zb1_k, zb2_k, zb3_k, zb4_k, zb5_k, zb6_k, zb7_k, zb8_k, zb9_k, zb10_k, zb11_k, zb12_k, zb14_k, zb21_k, zb22_k, zupd_eq, zupd_ne, zupl_eq, zupl_ne, zupf_eq, zupf_ne, hk, hf, if_neg (fun e => q4 (q3.mp e)), hih]
      · rw [if_neg (show ¬ zP a kk ff ss j = true from fun e => q2 (of_decide_eq_true e).2.1)]
        simp (disch := omega) only [zl_0, zl_1, zl_2, zl_3, zl_4, zl_5, zl_6, zl_8, zl_9, zl_11, zl_12, zl_13, zl_16, zl_20, zl_23, zl_24, zl_30, zl_32, zl_40, zl_41, zl_43, zl_45, zl_50, zl_52, zl_60, zl_97, zl_99, zl_100, zl_124, zl_126, zl_127, zl_169, zl_170, zl_171, zl_195, zl_200, zl_201, zl_256, zl_261, zl_999, zl_1100, zl_1884, zl_4095, zl_4096, zd1, zd2, zs1, nI_add, pk_mul, zsb, zad1, zad2, zcl, zgI, zif_le, zif_nle, zif_lt, zif_nlt, zif_eq, zif_ne, zif_self, zif_T, zif_F, Nat.zero_add, Nat.add_sub_cancel, zn21, zn31, zif_m1, zif_m1l, zif_m1n, zif_pm, zb1_k, zb2_k, zb3_k, zb4_k, zb5_k, zb6_k, zb7_k, zb8_k, zb9_k, zb10_k, zb11_k, zb12_k, zb14_k, zb21_k, zb22_k, zupd_eq, zupd_ne, zupl_eq, zupl_ne, zupf_eq, zupf_ne, hk, hf, hih]
    · rw [if_neg (show ¬ zP a kk ff ss j = true from fun e => q1 (of_decide_eq_true e).1)]
      simp (disch := omega) only [zl_0, zl_1, zl_2, zl_3, zl_4, zl_5, zl_6, zl_8, zl_9, zl_11, zl_12, zl_13, zl_16, zl_20, zl_23, zl_24, zl_30, zl_32, zl_40, zl_41, zl_43, zl_45, zl_50, zl_52, zl_60, zl_97, zl_99, zl_100, zl_124, zl_126, zl_127, zl_169, zl_170, zl_171, zl_195, zl_200, zl_201, zl_256, zl_261, zl_999, zl_1100, zl_1884, zl_4095, zl_4096, zd1, zd2, zs1, nI_add, pk_mul, zsb, zad1, zad2, zcl, zgI, zif_le, zif_nle, zif_lt, zif_nlt, zif_eq, zif_ne, zif_self, zif_T, zif_F, Nat.zero_add, Nat.add_sub_cancel, zn21, zn31, zif_m1, zif_m1l, zif_m1n, zif_pm, zb1_k, zb2_k, zb3_k, zb4_k, zb5_k, zb6_k, zb7_k, zb8_k, zb9_k, zb10_k, zb11_k, zb12_k, zb14_k, zb21_k, zb22_k, zupd_eq, zupd_ne, zupl_eq, zupl_ne, zupf_eq, zupf_ne, hk, hf, hih]
theorem fx_find {a : Nat → Nat} {cnt : Int32} {kind first second parts : Nat → Int32} {kk ff ss : Nat} (h8 : a 8 ≤ 40) (hv : zNet a) (hx : zXn a cnt kind first second parts) (h1 : kk ≤ 2) (h2 : ff < 40) (h3 : ss < 40) (h4 : kk = 0 → ss = 0) : fX5_find (nI kk) (nI ff) (zsec kk ss) cnt kind first second = some (zopt (zfnd (zP a kk ff ss) (a 8) 0)) := by
  obtain ⟨e, hk, hf, hs, hp⟩ := hx
  subst e
  unfold fX5_find
  exact fx_findL h8 hk hf hs (fun i hi => by have := zNet_b hv hi h8; omega) (fun i hi e => by rcases hv i hi with h | h <;> omega) h1 h2 h3 h4 (a 8) 0 5000 (by omega) (by omega)
theorem fm_kindOf {a : Nat → Nat} {now : Nat → Int32} (hm : zMn a now) {i : Nat} (hi : i < 40) : fX11_kindOf (nI i) now = some (nI (aK a i)) := by
  unfold fX11_kindOf
  simp (disch := omega) only [zl_0, zl_1, zl_2, zl_3, zl_4, zl_5, zl_6, zl_8, zl_9, zl_11, zl_12, zl_13, zl_16, zl_20, zl_23, zl_24, zl_30, zl_32, zl_40, zl_41, zl_43, zl_45, zl_50, zl_52, zl_60, zl_97, zl_99, zl_100, zl_124, zl_126, zl_127, zl_169, zl_170, zl_171, zl_195, zl_200, zl_201, zl_256, zl_261, zl_999, zl_1100, zl_1884, zl_4095, zl_4096, zd1, zd2, zs1, nI_add, pk_mul, zsb, zad1, zad2, zcl, zgI, zif_le, zif_nle, zif_lt, zif_nlt, zif_eq, zif_ne, zif_self, zif_T, zif_F, Nat.zero_add, Nat.add_sub_cancel, zn21, zn31, zif_m1, zif_m1l, zif_m1n, zif_pm, zb1_k, zb2_k, zb3_k, zb4_k, zb5_k, zb6_k, zb7_k, zb8_k, zb9_k, zb10_k, zb11_k, zb12_k, zb14_k, zb21_k, zb22_k, zupd_eq, zupd_ne, zupl_eq, zupl_ne, zupf_eq, zupf_ne, hm.1]
theorem fm_firstOf {a : Nat → Nat} {now : Nat → Int32} (hm : zMn a now) {i : Nat} (hi : i < 40) : fX11_firstOf (nI i) now = some (nI (aF a i)) := by
  unfold fX11_firstOf
  simp (disch := omega) only [zl_0, zl_1, zl_2, zl_3, zl_4, zl_5, zl_6, zl_8, zl_9, zl_11, zl_12, zl_13, zl_16, zl_20, zl_23, zl_24, zl_30, zl_32, zl_40, zl_41, zl_43, zl_45, zl_50, zl_52, zl_60, zl_97, zl_99, zl_100, zl_124, zl_126, zl_127, zl_169, zl_170, zl_171, zl_195, zl_200, zl_201, zl_256, zl_261, zl_999, zl_1100, zl_1884, zl_4095, zl_4096, zd1, zd2, zs1, nI_add, pk_mul, zsb, zad1, zad2, zcl, zgI, zif_le, zif_nle, zif_lt, zif_nlt, zif_eq, zif_ne, zif_self, zif_T, zif_F, Nat.zero_add, Nat.add_sub_cancel, zn21, zn31, zif_m1, zif_m1l, zif_m1n, zif_pm, zb1_k, zb2_k, zb3_k, zb4_k, zb5_k, zb6_k, zb7_k, zb8_k, zb9_k, zb10_k, zb11_k, zb12_k, zb14_k, zb21_k, zb22_k, zupd_eq, zupd_ne, zupl_eq, zupl_ne, zupf_eq, zupf_ne, hm.1]
theorem fm_secondOf {a : Nat → Nat} {now : Nat → Int32} (hm : zMn a now) {i : Nat} (hi : i < 40) : fX11_secondOf (nI i) now = some (nI (aS a i)) := by
  unfold fX11_secondOf
  simp (disch := omega) only [zl_0, zl_1, zl_2, zl_3, zl_4, zl_5, zl_6, zl_8, zl_9, zl_11, zl_12, zl_13, zl_16, zl_20, zl_23, zl_24, zl_30, zl_32, zl_40, zl_41, zl_43, zl_45, zl_50, zl_52, zl_60, zl_97, zl_99, zl_100, zl_124, zl_126, zl_127, zl_169, zl_170, zl_171, zl_195, zl_200, zl_201, zl_256, zl_261, zl_999, zl_1100, zl_1884, zl_4095, zl_4096, zd1, zd2, zs1, nI_add, pk_mul, zsb, zad1, zad2, zcl, zgI, zif_le, zif_nle, zif_lt, zif_nlt, zif_eq, zif_ne, zif_self, zif_T, zif_F, Nat.zero_add, Nat.add_sub_cancel, zn21, zn31, zif_m1, zif_m1l, zif_m1n, zif_pm, zb1_k, zb2_k, zb3_k, zb4_k, zb5_k, zb6_k, zb7_k, zb8_k, zb9_k, zb10_k, zb11_k, zb12_k, zb14_k, zb21_k, zb22_k, zupd_eq, zupd_ne, zupl_eq, zupl_ne, zupf_eq, zupf_ne, hm.1]
theorem fm_partsOf {a : Nat → Nat} {now : Nat → Int32} (hm : zMn a now) {i : Nat} (hi : i < 40) : fX11_partsOf (nI i) now = some (nI (aP a i)) := by
  unfold fX11_partsOf
  simp (disch := omega) only [zl_0, zl_1, zl_2, zl_3, zl_4, zl_5, zl_6, zl_8, zl_9, zl_11, zl_12, zl_13, zl_16, zl_20, zl_23, zl_24, zl_30, zl_32, zl_40, zl_41, zl_43, zl_45, zl_50, zl_52, zl_60, zl_97, zl_99, zl_100, zl_124, zl_126, zl_127, zl_169, zl_170, zl_171, zl_195, zl_200, zl_201, zl_256, zl_261, zl_999, zl_1100, zl_1884, zl_4095, zl_4096, zd1, zd2, zs1, nI_add, pk_mul, zsb, zad1, zad2, zcl, zgI, zif_le, zif_nle, zif_lt, zif_nlt, zif_eq, zif_ne, zif_self, zif_T, zif_F, Nat.zero_add, Nat.add_sub_cancel, zn21, zn31, zif_m1, zif_m1l, zif_m1n, zif_pm, zb1_k, zb2_k, zb3_k, zb4_k, zb5_k, zb6_k, zb7_k, zb8_k, zb9_k, zb10_k, zb11_k, zb12_k, zb14_k, zb21_k, zb22_k, zupd_eq, zupd_ne, zupl_eq, zupl_ne, zupf_eq, zupf_ne, hm.1]
theorem fm_find {a : Nat → Nat} {now : Nat → Int32} {kk ff ss : Nat} (h8 : a 8 ≤ 40) (hv : zNet a) (hm : zMn a now) (h1 : kk ≤ 2) (h2 : ff < 40) (h3 : ss < 40) : fX11_found (nI kk) (nI ff) (nI ss) now = some (zopt (zfnd (zP a kk ff ss) (a 8) 0)) := by
  have key : ∀ d j fu, j + d = a 8 → d < fu → fX11_found_L3 now (nI kk) (nI ff) (nI ss) fu (nI j) = some (zopt (zfnd (zP a kk ff ss) d j)) := by
    intro d
    induction d with
    | zero =>
      intro j fu hj hfu
      obtain ⟨fu, rfl⟩ : ∃ f, fu = f + 1 := ⟨fu - 1, by omega⟩
      rw [fX11_found_L3_s]
      simp (disch := omega) only [zl_0, zl_1, zl_2, zl_3, zl_4, zl_5, zl_6, zl_8, zl_9, zl_11, zl_12, zl_13, zl_16, zl_20, zl_23, zl_24, zl_30, zl_32, zl_40, zl_41, zl_43, zl_45, zl_50, zl_52, zl_60, zl_97, zl_99, zl_100, zl_124, zl_126, zl_127, zl_169, zl_170, zl_171, zl_195, zl_200, zl_201, zl_256, zl_261, zl_999, zl_1100, zl_1884, zl_4095, zl_4096, zd1, zd2, zs1, nI_add, pk_mul, zsb, zad1, zad2, zcl, zgI, zif_le, zif_nle, zif_lt, zif_nlt, zif_eq, zif_ne, zif_self, zif_T, zif_F, Nat.zero_add, Nat.add_sub_cancel, zn21, zn31, zif_m1, zif_m1l, zif_m1n, zif_pm, zb1_k, zb2_k, zb3_k, zb4_k, zb5_k, zb6_k, zb7_k, zb8_k, zb9_k, zb10_k, zb11_k, zb12_k, zb14_k, zb21_k, zb22_k, zupd_eq, zupd_ne, zupl_eq, zupl_ne, zupf_eq, zupf_ne, hm.1]
      rfl
    | succ d ih =>
      intro j fu hj hfu
      obtain ⟨fu, rfl⟩ : ∃ f, fu = f + 1 := ⟨fu - 1, by omega⟩
      have hj2 : j < a 8 := by omega
      have b := zNet_b hv hj2 h8
      have hih := ih (j + 1) fu (by omega) (by omega)
      rw [fX11_found_L3_s]
      unfold zfnd
      by_cases q : aK a j = kk ∧ aF a j = ff ∧ aS a j = ss
      · rw [if_pos (show zP a kk ff ss j = true from decide_eq_true q)]
        obtain ⟨q1, q2, q3⟩ := q
        simp (disch := omega) only [zl_0, zl_1, zl_2, zl_3, zl_4, zl_5, zl_6, zl_8, zl_9, zl_11, zl_12, zl_13, zl_16, zl_20, zl_23, zl_24, zl_30, zl_32, zl_40, zl_41, zl_43, zl_45, zl_50, zl_52, zl_60, zl_97, zl_99, zl_100, zl_124, zl_126, zl_127, zl_169, zl_170, zl_171, zl_195, zl_200, zl_201, zl_256, zl_261, zl_999, zl_1100, zl_1884, zl_4095, zl_4096, zd1, zd2, zs1, nI_add, pk_mul, zsb, zad1, zad2, zcl, zgI, zif_le, zif_nle, zif_lt, zif_nlt, zif_eq, zif_ne, zif_self, zif_T, zif_F, Nat.zero_add, Nat.add_sub_cancel, zn21, zn31, zif_m1, zif_m1l, zif_m1n, zif_pm, zb1_k, zb2_k, zb3_k, zb4_k, zb5_k, zb6_k, zb7_k, zb8_k, zb9_k, zb10_k, zb11_k, zb12_k, zb14_k, zb21_k, zb22_k, zupd_eq, zupd_ne, zupl_eq, zupl_ne, zupf_eq, zupf_ne, hm.1, fm_kindOf hm, fm_firstOf hm, fm_secondOf hm]
        rfl
      · rw [if_neg (show ¬ zP a kk ff ss j = true from fun e => q (of_decide_eq_true e))]
        by_cases q1 : aK a j = kk
        · by_cases q2 : aF a j = ff
          · have q3 : aS a j ≠ ss := fun e => q ⟨q1, q2, e⟩
            simp (disch := omega) only [zl_0, zl_1, zl_2, zl_3, zl_4, zl_5, zl_6, zl_8, zl_9, zl_11, zl_12, zl_13, zl_16, zl_20, zl_23, zl_24, zl_30, zl_32, zl_40, zl_41, zl_43, zl_45, zl_50, zl_52, zl_60, zl_97, zl_99, zl_100, zl_124, zl_126, zl_127, zl_169, zl_170, zl_171, zl_195, zl_200, zl_201, zl_256, zl_261, zl_999, zl_1100, zl_1884, zl_4095, zl_4096, zd1, zd2, zs1, nI_add, pk_mul, zsb, zad1, zad2, zcl, zgI, zif_le, zif_nle, zif_lt, zif_nlt, zif_eq, zif_ne, zif_self, zif_T, zif_F, Nat.zero_add, Nat.add_sub_cancel, zn21, zn31, zif_m1, zif_m1l, zif_m1n, zif_pm, zb1_k, zb2_k, zb3_k, zb4_k, zb5_k, zb6_k, zb7_k, zb8_k, zb9_k, zb10_k, zb11_k, zb12_k, zb14_k, zb21_k, zb22_k, zupd_eq, zupd_ne, zupl_eq, zupl_ne, zupf_eq, zupf_ne, hm.1, fm_kindOf hm, fm_firstOf hm, fm_secondOf hm, hih]
          · simp (disch := omega) only [zl_0, zl_1, zl_2, zl_3, zl_4, zl_5, zl_6, zl_8, zl_9, zl_11, zl_12, zl_13, zl_16, zl_20, zl_23, zl_24, zl_30, zl_32, zl_40, zl_41, zl_43, zl_45, zl_50, zl_52, zl_60, zl_97, zl_99, zl_100, zl_124, zl_126, zl_127, zl_169, zl_170, zl_171, zl_195, zl_200, zl_201, zl_256, zl_261, zl_999, zl_1100, zl_1884, zl_4095, zl_4096, zd1, zd2, zs1, nI_add, pk_mul, zsb, zad1, zad2, zcl, zgI, zif_le, zif_nle, zif_lt, zif_nlt, zif_eq, zif_ne, zif_self, zif_T, zif_F, Nat.zero_add, Nat.add_sub_cancel, zn21, zn31, zif_m1, zif_m1l, zif_m1n, zif_pm, zb1_k, zb2_k, zb3_k, zb4_k, zb5_k, zb6_k, zb7_k, zb8_k, zb9_k, zb10_k, zb11_k, zb12_k, zb14_k, zb21_k, zb22_k, zupd_eq, zupd_ne, zupl_eq, zupl_ne, zupf_eq, zupf_ne, hm.1, fm_kindOf hm, fm_firstOf hm, fm_secondOf hm, hih]
        · simp (disch := omega) only [zl_0, zl_1, zl_2, zl_3, zl_4, zl_5, zl_6, zl_8, zl_9, zl_11, zl_12, zl_13, zl_16, zl_20, zl_23, zl_24, zl_30, zl_32, zl_40, zl_41, zl_43, zl_45, zl_50, zl_52, zl_60, zl_97, zl_99, zl_100, zl_124, zl_126, zl_127, zl_169, zl_170, zl_171, zl_195, zl_200, zl_201, zl_256, zl_261, zl_999, zl_1100, zl_1884, zl_4095, zl_4096, zd1, zd2, zs1, nI_add, pk_mul, zsb, zad1, zad2, zcl, zgI, zif_le, zif_nle, zif_lt, zif_nlt, zif_eq, zif_ne, zif_self, zif_T, zif_F, Nat.zero_add, Nat.add_sub_cancel, zn21, zn31, zif_m1, zif_m1l, zif_m1n, zif_pm, zb1_k, zb2_k, zb3_k, zb4_k, zb5_k, zb6_k, zb7_k, zb8_k, zb9_k, zb10_k, zb11_k, zb12_k, zb14_k, zb21_k, zb22_k, zupd_eq, zupd_ne, zupl_eq, zupl_ne, zupf_eq, zupf_ne, hm.1, fm_kindOf hm, fm_firstOf hm, fm_secondOf hm, hih]
  unfold fX11_found
  exact key (a 8) 0 5000 (by omega) (by omega)
/-! keeping a net -/
def zAdd (a : Nat → Nat) (kk ff ss pp : Nat) : Nat → Nat := vf_upd (vf_upd (vf_upd (vf_upd (vf_upd a (9 + 4 * a 8) kk) (9 + 4 * a 8 + 1) ff) (9 + 4 * a 8 + 2) ss) (9 + 4 * a 8 + 3) pp) 8 (a 8 + 1)
def zKp (a : Nat → Nat) (kk ff ss pp : Nat) : Int32 × (Nat → Nat) := match zfnd (zP a kk ff ss) (a 8) 0 with
  | some i => (nI i, a)
  | none => if a 8 = 40 then (-nI 3, a) else (nI (a 8), zAdd a kk ff ss pp)
theorem zAdd_8 (a : Nat → Nat) (kk ff ss pp : Nat) : zAdd a kk ff ss pp 8 = a 8 + 1 := by
  unfold zAdd
  rw [zupf_eq rfl]
theorem zAdd_fr (a : Nat → Nat) (kk ff ss pp j : Nat) (h : j < 8 ∨ (9 ≤ j ∧ j < 9 + 4 * a 8) ∨ 13 + 4 * a 8 ≤ j) : zAdd a kk ff ss pp j = a j := by
  unfold zAdd
  rw [zupf_ne (by omega), zupf_ne (by omega), zupf_ne (by omega), zupf_ne (by omega), zupf_ne (by omega)]
theorem zAdd_0 (a : Nat → Nat) (kk ff ss pp : Nat) : zAdd a kk ff ss pp (9 + 4 * a 8) = kk := by
  unfold zAdd
  rw [zupf_ne (by omega), zupf_ne (by omega), zupf_ne (by omega), zupf_ne (by omega), zupf_eq rfl]
theorem zAdd_1 (a : Nat → Nat) (kk ff ss pp : Nat) : zAdd a kk ff ss pp (9 + 4 * a 8 + 1) = ff := by
  unfold zAdd
  rw [zupf_ne (by omega), zupf_ne (by omega), zupf_ne (by omega), zupf_eq rfl]
theorem zAdd_2 (a : Nat → Nat) (kk ff ss pp : Nat) : zAdd a kk ff ss pp (9 + 4 * a 8 + 2) = ss := by
  unfold zAdd
  rw [zupf_ne (by omega), zupf_ne (by omega), zupf_eq rfl]
theorem zAdd_3 (a : Nat → Nat) (kk ff ss pp : Nat) : zAdd a kk ff ss pp (9 + 4 * a 8 + 3) = pp := by
  unfold zAdd
  rw [zupf_ne (by omega), zupf_eq rfl]
/-- what is asked of a net that is to be kept -/
def zNew (a : Nat → Nat) (kk ff ss pp : Nat) : Prop := (kk = 0 ∧ ff < 4 ∧ ss = 0 ∧ pp = 1 ∧ 0 < a ff) ∨ ((kk = 1 ∨ kk = 2) ∧ ff < a 8 ∧ ss < a 8 ∧ pp = aP a ff + aP a ss ∧ pp ≤ 12)
theorem zNew_b {a : Nat → Nat} {kk ff ss pp : Nat} (h8 : a 8 ≤ 40) (h : zNew a kk ff ss pp) : kk ≤ 2 ∧ ff < 40 ∧ ss < 40 ∧ pp ≤ 12 ∧ (kk = 0 → ss = 0) := by
  rcases h with h | h <;> omega
theorem zV_add {a : Nat → Nat} {kk ff ss pp : Nat} (hv : zV a) (hn : a 8 < 40) (h : zNew a kk ff ss pp) : zV (zAdd a kk ff ss pp) := by
  obtain ⟨hb, h8, hN, hM, hT⟩ := hv
  refine ⟨fun s hs => ?_, by rw [zAdd_8]; omega, fun i hi => ?_, zMsh_fr hM (fun j h1 h2 => zAdd_fr _ _ _ _ _ _ (by omega)), fun t ht => ?_⟩
  · rw [zAdd_fr _ _ _ _ _ _ (by omega), zAdd_fr _ _ _ _ _ _ (by omega)]
    exact hb s hs
  · rw [zAdd_8] at hi
    by_cases e : i = a 8
    · subst e
      have e0 : aK (zAdd a kk ff ss pp) (a 8) = kk := zAdd_0 ..
      have e1 : aF (zAdd a kk ff ss pp) (a 8) = ff := zAdd_1 ..
      have e2 : aS (zAdd a kk ff ss pp) (a 8) = ss := zAdd_2 ..
      have e3 : aP (zAdd a kk ff ss pp) (a 8) = pp := zAdd_3 ..
      unfold zNet1
      rw [e0, e1, e2, e3]
      rcases h with ⟨h1, h2, h3, h4, h5⟩ | ⟨h1, h2, h3, h4, h5⟩
      · exact Or.inl ⟨h1, h2, h3, h4, by rw [zAdd_fr _ _ _ _ _ _ (by omega)]; exact h5⟩
      · refine Or.inr ⟨h1, h2, h3, ?_, h5⟩
        have q1 : aP (zAdd a kk ff ss pp) ff = aP a ff := zAdd_fr _ _ _ _ _ _ (by omega)
        have q2 : aP (zAdd a kk ff ss pp) ss = aP a ss := zAdd_fr _ _ _ _ _ _ (by omega)
        rw [q1, q2]
        exact h4
    · have hi2 : i < a 8 := by omega
      have e0 : aK (zAdd a kk ff ss pp) i = aK a i := zAdd_fr _ _ _ _ _ _ (by omega)
      have e1 : aF (zAdd a kk ff ss pp) i = aF a i := zAdd_fr _ _ _ _ _ _ (by omega)
      have e2 : aS (zAdd a kk ff ss pp) i = aS a i := zAdd_fr _ _ _ _ _ _ (by omega)
      have e3 : aP (zAdd a kk ff ss pp) i = aP a i := zAdd_fr _ _ _ _ _ _ (by omega)
      have hh := hN i hi2
      unfold zNet1 at hh ⊢
      rw [e0, e1, e2, e3]
      rcases hh with ⟨h1, h2, h3, h4, h5⟩ | ⟨h1, h2, h3, h4, h5⟩
      · exact Or.inl ⟨h1, h2, h3, h4, by rw [zAdd_fr _ _ _ _ _ _ (by omega)]; exact h5⟩
      · refine Or.inr ⟨h1, h2, h3, ?_, h5⟩
        have q1 : aP (zAdd a kk ff ss pp) (aF a i) = aP a (aF a i) := zAdd_fr _ _ _ _ _ _ (by omega)
        have q2 : aP (zAdd a kk ff ss pp) (aS a i) = aP a (aS a i) := zAdd_fr _ _ _ _ _ _ (by omega)
        rw [q1, q2]
        exact h4
  · obtain ⟨t1, t2, t3, t4⟩ := hT t ht
    unfold zTry
    rw [zAdd_fr _ _ _ _ _ _ (by omega), zAdd_fr _ _ _ _ _ (195 + 2 * t + 1) (by omega), zAdd_8]
    refine ⟨t1, t2, t3, fun i hi => ?_⟩
    rw [zAdd_fr _ _ _ _ _ _ (by omega)]
    have := t4 i hi
    omega
theorem zXn_add {a : Nat → Nat} {kk ff ss pp : Nat} {kind first second parts : Nat → Int32} (hx : zXn a (nI (a 8)) kind first second parts) : zXn (zAdd a kk ff ss pp) (nI (a 8 + 1)) (upd kind (a 8) (nI kk)) (upd first (a 8) (nI ff)) (upd second (a 8) (zsec kk ss)) (upd parts (a 8) (nI pp)) := by
  obtain ⟨_, hk, hf, hs, hp⟩ := hx
  refine ⟨by rw [zAdd_8], ?_, ?_, ?_, ?_⟩ <;> (intro i hi; rw [zAdd_8] at hi; by_cases e : i = a 8)
  · subst e; rw [zupd_eq rfl]; exact congrArg nI (zAdd_0 ..).symm
  · rw [zupd_ne e, hk i (by omega), show aK (zAdd a kk ff ss pp) i = aK a i from zAdd_fr _ _ _ _ _ _ (by omega)]
  · subst e; rw [zupd_eq rfl]; exact congrArg nI (zAdd_1 ..).symm
  · rw [zupd_ne e, hf i (by omega), show aF (zAdd a kk ff ss pp) i = aF a i from zAdd_fr _ _ _ _ _ _ (by omega)]
  · subst e
    rw [zupd_eq rfl]
    have e0 : aK (zAdd a kk ff ss pp) (a 8) = kk := zAdd_0 ..
    have e2 : aS (zAdd a kk ff ss pp) (a 8) = ss := zAdd_2 ..
    rw [e0, e2]
  · rw [zupd_ne e, hs i (by omega)]
    have e0 : aK (zAdd a kk ff ss pp) i = aK a i := zAdd_fr _ _ _ _ _ _ (by omega)
    have e2 : aS (zAdd a kk ff ss pp) i = aS a i := zAdd_fr _ _ _ _ _ _ (by omega)
    rw [e0, e2]
  · subst e; rw [zupd_eq rfl]; exact congrArg nI (zAdd_3 ..).symm
  · rw [zupd_ne e, hp i (by omega), show aP (zAdd a kk ff ss pp) i = aP a i from zAdd_fr _ _ _ _ _ _ (by omega)]
/-- what a kept net leaves as it was -/
def zFf (a b : Nat → Nat) : Prop := ∀ j, j < 8 ∨ 169 ≤ j → b j = a j
theorem zFf_rf (a : Nat → Nat) : zFf a a := fun _ _ => rfl
theorem zFf_tr {a b c : Nat → Nat} (h : zFf a b) (k : zFf b c) : zFf a c := fun j hj => (k j hj).trans (h j hj)
theorem zFf_add {a : Nat → Nat} {kk ff ss pp : Nat} (h : a 8 < 40) : zFf a (zAdd a kk ff ss pp) := fun j hj => zAdd_fr _ _ _ _ _ _ (by omega)
theorem zX_off {a b : Nat → Nat} {o g : Nat → Int32} {cnt cnt' : Int32} {k f s p k' f' s' p' : Nat → Int32} {q1 q2 : Int32} {r1 r2 r3 : Nat → Int32} {t1 t2 : Int32} {t3 : Nat → Int32} {t4 t5 : Int32} {t6 : Nat → Int32} {t7 t8 : Int32} {t9 : Nat → Int32} (hM : zMsh a) (h : zXw a o g cnt k f s p q1 q2 r1 r2 r3 t1 t2 t3 t4 t5 t6 t7 t8 t9) (e : zFf a b) (hn : zXn b cnt' k' f' s' p') : zXw b o g cnt' k' f' s' p' q1 q2 r1 r2 r3 t1 t2 t3 t4 t5 t6 t7 t8 t9 := by
  obtain ⟨h1, h2, h3, h4, h5, h6⟩ := h
  exact ⟨zXb_fr h1 (fun j hj => e j (by omega)), hn, zXm_fr hM h3 (fun j h1 h2 => e j (by omega)), zXt_fr (by omega) h4 (e _ (by omega)) (e _ (by omega)) (fun i hi => e _ (by omega)), zXt_fr (by omega) h5 (e _ (by omega)) (e _ (by omega)) (fun i hi => e _ (by omega)), zXt_fr (by omega) h6 (e _ (by omega)) (e _ (by omega)) (fun i hi => e _ (by omega))⟩
theorem zKp_V {a : Nat → Nat} {kk ff ss pp : Nat} (hv : zV a) (h : zNew a kk ff ss pp) : zV (zKp a kk ff ss pp).2 ∧ zFf a (zKp a kk ff ss pp).2 := by
  have h8 := hv.2.1
  unfold zKp
  split
  · exact ⟨hv, zFf_rf a⟩
  · by_cases e : a 8 = 40
    · rw [if_pos e]; exact ⟨hv, zFf_rf a⟩
    · rw [if_neg e]; exact ⟨zV_add hv (by omega) h, zFf_add (by omega)⟩
