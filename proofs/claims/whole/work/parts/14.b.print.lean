/-! print -/
def zop (k : Nat) : Nat := if k = 1 then 43 else 124
def zTX (K F S : Nat → Nat) : Nat → Nat → List Nat
  | 0, _ => []
  | f + 1, i => if K i = 0 then [97 + F i] else 40 :: (zTX K F S f (F i) ++ (zop (K i) :: (zTX K F S f (S i) ++ [41])))
def ztx (K F S : Nat → Nat) (i : Nat) : List Nat := zTX K F S (i + 1) i
theorem zTX_st {K F S : Nat → Nat} {n : Nat} (ac : zAc K F S n) : ∀ i, i < n → ∀ f g, i < f → i < g → zTX K F S f i = zTX K F S g i := by
  intro i
  induction i using Nat.strongRecOn with
  | ind i ih =>
    intro hi f g hf hg
    obtain ⟨f, rfl⟩ : ∃ x, f = x + 1 := ⟨f - 1, by omega⟩
    obtain ⟨g, rfl⟩ : ∃ x, g = x + 1 := ⟨g - 1, by omega⟩
    unfold zTX
    by_cases k : K i = 0
    · rw [if_pos k, if_pos k]
    · have h := ac i hi k
      rw [if_neg k, if_neg k, ih (F i) h.1 (by omega) f g (by omega) (by omega), ih (S i) h.2 (by omega) f g (by omega) (by omega)]
theorem ztx_0 {K F S : Nat → Nat} {i : Nat} (k : K i = 0) : ztx K F S i = [97 + F i] := if_pos k
theorem ztx_1 {K F S : Nat → Nat} {n i : Nat} (ac : zAc K F S n) (hi : i < n) (k : K i ≠ 0) : ztx K F S i = 40 :: (ztx K F S (F i) ++ (zop (K i) :: (ztx K F S (S i) ++ [41]))) := by
  have h := ac i hi k
  unfold ztx
  rw [show zTX K F S (i + 1) i = 40 :: (zTX K F S i (F i) ++ (zop (K i) :: (zTX K F S i (S i) ++ [41]))) from if_neg k, zTX_st ac (F i) (by omega) i (F i + 1) (by omega) (by omega), zTX_st ac (S i) (by omega) i (S i + 1) (by omega) (by omega)]
theorem ztx_len {K F S P : Nat → Nat} {n : Nat} (ac : zAc K F S n) (h0 : ∀ i, i < n → K i = 0 → P i = 1) (h1 : ∀ i, i < n → K i ≠ 0 → P i = P (F i) + P (S i)) : ∀ i, i < n → 1 ≤ P i ∧ (ztx K F S i).length = 4 * P i - 3 := by
  intro i
  induction i using Nat.strongRecOn with
  | ind i ih =>
    intro hi
    by_cases k : K i = 0
    · rw [ztx_0 k, h0 i hi k]; exact ⟨Nat.le_refl _, rfl⟩
    · have h := ac i hi k
      have a := ih _ h.1 (by omega)
      have b := ih _ h.2 (by omega)
      rw [ztx_1 ac hi k, h1 i hi k]
      simp only [List.length_append, List.length_cons, List.length_nil]
      omega
/-- what waits: a net (left) or a sign (right) -/
def zIs : Nat ⊕ Nat → Int32
  | .inl i => nI i
  | .inr c => -nI c
def zFt (K F S : Nat → Nat) : List (Nat ⊕ Nat) → List Nat
  | [] => []
  | .inl i :: r => ztx K F S i ++ zFt K F S r
  | .inr c :: r => c :: zFt K F S r
def zSs (w : Nat → Int32) : List (Nat ⊕ Nat) → Prop
  | [] => True
  | x :: r => w r.length = zIs x ∧ zSs w r
def zOks (n : Nat) : List (Nat ⊕ Nat) → Prop
  | [] => True
  | .inl i :: r => i < n ∧ zOks n r
  | .inr c :: r => (0 < c ∧ c < 128) ∧ zOks n r
theorem zSs_fr {w w' : Nat → Int32} : ∀ {st : List (Nat ⊕ Nat)}, zSs w st → (∀ t, t < st.length → w' t = w t) → zSs w' st
  | [], _, _ => trivial
  | x :: r, h, e => ⟨(e _ (Nat.lt_succ_self _)).trans h.1, zSs_fr h.2 (fun t ht => e t (Nat.lt_succ_of_lt ht))⟩
/-- turns left on the class's side: a part or a sign one, a join one more than its signs (it lays five) -/
def zTa (P : Nat → Nat) : List (Nat ⊕ Nat) → Nat
  | [] => 0
  | .inl i :: r => 5 * P i - 4 + zTa P r
  | .inr _ :: r => 1 + zTa P r
/-- .. on the reference's, and a bound for how many wait there -/
def zTb (P : Nat → Nat) : List (Nat ⊕ Nat) → Nat
  | [] => 0
  | .inl i :: r => 4 * P i - 3 + zTb P r
  | .inr _ :: r => 1 + zTb P r
def zTc (P : Nat → Nat) : List (Nat ⊕ Nat) → Nat
  | [] => 0
  | .inl i :: r => 3 * P i - 2 + zTc P r
  | .inr _ :: r => 1 + zTc P r
theorem zTc_len {P : Nat → Nat} {n : Nat} (hP : ∀ i, i < n → 1 ≤ P i) : ∀ st : List (Nat ⊕ Nat), zOks n st → st.length ≤ zTc P st
  | [], _ => Nat.le_refl _
  | .inl i :: r, h => by
    have := zTc_len hP r h.2
    have := hP i h.1
    unfold zTc
    simp only [List.length_cons]
    omega
  | .inr i :: r, h => by
    have := zTc_len hP r h.2
    unfold zTc
    simp only [List.length_cons]
    omega
theorem zFt_len {K F S P : Nat → Nat} {n : Nat} (ac : zAc K F S n) (h0 : ∀ i, i < n → K i = 0 → P i = 1) (h1 : ∀ i, i < n → K i ≠ 0 → P i = P (F i) + P (S i)) : ∀ st : List (Nat ⊕ Nat), zOks n st → st.length ≤ (zFt K F S st).length
  | [], _ => Nat.le_refl _
  | .inl i :: r, h => by
    have := zFt_len ac h0 h1 r h.2
    have := ztx_len ac h0 h1 i h.1
    unfold zFt
    simp only [List.length_cons, List.length_append]
    omega
  | .inr i :: r, h => by
    have := zFt_len ac h0 h1 r h.2
    unfold zFt
    simp only [List.length_cons]
    omega
theorem zng_lt {c : Nat} (h0 : 0 < c) (h : c < 128) : -nI c < nI 0 := by
  rw [Int32.lt_iff_toInt_lt, zneg_toInt (by omega), show (nI 0).toInt = 0 from by decide]
  omega
theorem zng_nle {c : Nat} (h0 : 0 < c) (h : c < 128) : ¬ nI 0 ≤ -nI c := Int32.not_le.mpr (zng_lt h0 h)
set_option maxHeartbeats 2000000 in
theorem fx_spellL {a : Nat → Nat} {cnt : Int32} {kind first second parts : Nat → Int32} (hv : zV a) (hx : zXn a cnt kind first second parts) : ∀ (T : Nat) (st : List (Nat ⊕ Nat)) (fu turn : Nat) (w o : Nat → Int32) (dn : List Nat), zTa (aP a) st ≤ T → T + turn < 90 → T < fu → zOks (a 8) st → zSs w st → dn.length + (zFt (aK a) (aF a) (aS a) st).length ≤ 45 → zAr o nI 0 dn → ∃ w' o', fX5_spell_L14 kind second first fu (nI dn.length) (nI st.length) (nI turn) w o = some (nI (dn.length + (zFt (aK a) (aF a) (aS a) st).length), w', o') ∧ zAr o' nI 0 (dn ++ zFt (aK a) (aF a) (aS a) st) := by
  have h8 := hv.2.1
  have ac := zAc_net hv
  obtain ⟨_, ek, ef, es, _⟩ := hx
  intro T
  induction T with
  | zero =>
    intro st fu turn w o dn hT htn hfu hok hw hl ho
    obtain ⟨fu, rfl⟩ : ∃ f, fu = f + 1 := ⟨fu - 1, by omega⟩
    cases st with
    | nil =>
      refine ⟨w, o, ?_, ?_⟩
      · rw [fX5_spell_L14_s]
        simp (disch := omega) only [zl_0, zl_1, zl_2, zl_3, zl_4, zl_5, zl_6, zl_8, zl_9, zl_11, zl_12, zl_13, zl_16, zl_20, zl_23, zl_24, zl_30, zl_32, zl_40, zl_41, zl_43, zl_45, zl_50, zl_52, zl_60, zl_97, zl_99, zl_100, zl_124, zl_126, zl_127, zl_169, zl_170, zl_171, zl_195, zl_200, zl_201, zl_256, zl_261, zl_999, zl_1100, zl_1884, zl_4095, zl_4096, zd1, zd2, zs1, nI_add, pk_mul, zsb, zad1, zad2, zcl, zgI, zif_le, zif_nle, zif_lt, zif_nlt, zif_eq, zif_ne, zif_self, zif_T, zif_F, Nat.zero_add, Nat.add_sub_cancel, zn21, zn31, zif_m1, zif_m1l, zif_m1n, zif_pm, zb1_k, zb2_k, zb3_k, zb4_k, zb5_k, zb6_k, zb7_k, zb8_k, zb9_k, zb10_k, zb11_k, zb12_k, zb14_k, zb21_k, zb22_k, zupd_eq, zupd_ne, zupl_eq, zupl_ne, zupf_eq, zupf_ne, List.length_nil, zFt, Nat.add_zero]
      · unfold zFt
        rw [List.append_nil]
        exact ho
    | cons x r =>
      exfalso
      cases x with
      | inl i =>
        have := (apo_len hv hok.1).1
        unfold zTa at hT
        omega
      | inr i =>
        unfold zTa at hT
        omega
  | succ T ih =>
    intro st fu turn w o dn hT htn hfu hok hw hl ho
    obtain ⟨fu, rfl⟩ : ∃ f, fu = f + 1 := ⟨fu - 1, by omega⟩
    cases st with
    | nil =>
      refine ⟨w, o, ?_, ?_⟩
      · rw [fX5_spell_L14_s]
        simp (disch := omega) only [zl_0, zl_1, zl_2, zl_3, zl_4, zl_5, zl_6, zl_8, zl_9, zl_11, zl_12, zl_13, zl_16, zl_20, zl_23, zl_24, zl_30, zl_32, zl_40, zl_41, zl_43, zl_45, zl_50, zl_52, zl_60, zl_97, zl_99, zl_100, zl_124, zl_126, zl_127, zl_169, zl_170, zl_171, zl_195, zl_200, zl_201, zl_256, zl_261, zl_999, zl_1100, zl_1884, zl_4095, zl_4096, zd1, zd2, zs1, nI_add, pk_mul, zsb, zad1, zad2, zcl, zgI, zif_le, zif_nle, zif_lt, zif_nlt, zif_eq, zif_ne, zif_self, zif_T, zif_F, Nat.zero_add, Nat.add_sub_cancel, zn21, zn31, zif_m1, zif_m1l, zif_m1n, zif_pm, zb1_k, zb2_k, zb3_k, zb4_k, zb5_k, zb6_k, zb7_k, zb8_k, zb9_k, zb10_k, zb11_k, zb12_k, zb14_k, zb21_k, zb22_k, zupd_eq, zupd_ne, zupl_eq, zupl_ne, zupf_eq, zupf_ne, List.length_nil, zFt, Nat.add_zero]
      · unfold zFt
        rw [List.append_nil]
        exact ho
    | cons x r =>
      have hlen := zFt_len ac (zP0_net hv) (zP1_net hv) (x :: r) hok
      simp only [List.length_cons] at hlen
      cases x with
      | inr c =>
        obtain ⟨⟨c0, c1⟩, hok2⟩ := hok
        obtain ⟨hw1, hw2⟩ := hw
        have hw1 : w r.length = -nI c := hw1
        unfold zFt at hl hlen
        simp only [List.length_cons] at hl hlen
        unfold zTa at hT
        have l1 : (dn ++ [c]).length = dn.length + 1 := by simp only [List.length_append, List.length_singleton]
        obtain ⟨w', o', g1, g2⟩ := ih r fu (turn + 1) w (upd o dn.length (nI c)) (dn ++ [c]) (by omega) (by omega) (by omega) hok2 hw2 (by rw [l1]; omega) (zAr_app (zAr_fr ho (fun t h1 h2 => zupd_ne (by omega))) ⟨by rw [Nat.zero_add]; exact zupd_eq rfl, trivial⟩)
        refine ⟨w', o', ?_, ?_⟩
        · rw [l1] at g1
          rw [fX5_spell_L14_s]
          simp (disch := omega) only [zl_0, zl_1, zl_2, zl_3, zl_4, zl_5, zl_6, zl_8, zl_9, zl_11, zl_12, zl_13, zl_16, zl_20, zl_23, zl_24, zl_30, zl_32, zl_40, zl_41, zl_43, zl_45, zl_50, zl_52, zl_60, zl_97, zl_99, zl_100, zl_124, zl_126, zl_127, zl_169, zl_170, zl_171, zl_195, zl_200, zl_201, zl_256, zl_261, zl_999, zl_1100, zl_1884, zl_4095, zl_4096, zd1, zd2, zs1, nI_add, pk_mul, zsb, zad1, zad2, zcl, zgI, zif_le, zif_nle, zif_lt, zif_nlt, zif_eq, zif_ne, zif_self, zif_T, zif_F, Nat.zero_add, Nat.add_sub_cancel, zn21, zn31, zif_m1, zif_m1l, zif_m1n, zif_pm, zb1_k, zb2_k, zb3_k, zb4_k, zb5_k, zb6_k, zb7_k, zb8_k, zb9_k, zb10_k, zb11_k, zb12_k, zb14_k, zb21_k, zb22_k, zupd_eq, zupd_ne, zupl_eq, zupl_ne, zupf_eq, zupf_ne, List.length_cons, fX5_spell_J67, fX5_spell_J102, hw1, zft (zng_lt c0 c1), zfn (zng_nle c0 c1), Int32.neg_neg, g1, zFt]
          rw [show dn.length + 1 + (zFt (aK a) (aF a) (aS a) r).length = dn.length + ((zFt (aK a) (aF a) (aS a) r).length + 1) by omega]
        · unfold zFt
          rw [List.append_assoc] at g2
          exact g2
      | inl i =>
        obtain ⟨hi, hok2⟩ := hok
        obtain ⟨hw1, hw2⟩ := hw
        have hw1 : w r.length = nI i := hw1
        have p1 := (apo_len hv hi).1
        have k1 := ek i hi
        have f1 := ef i hi
        have kb := zNet_b hv.2.2.1 hi h8
        by_cases k : aK a i = 0
        · have e : zFt (aK a) (aF a) (aS a) (.inl i :: r) = (97 + aF a i) :: zFt (aK a) (aF a) (aS a) r := by
            show ztx (aK a) (aF a) (aS a) i ++ zFt (aK a) (aF a) (aS a) r = (97 + aF a i) :: zFt (aK a) (aF a) (aS a) r
            rw [ztx_0 k]
            rfl
          rw [e] at hl hlen ⊢
          simp only [List.length_cons] at hl hlen
          unfold zTa at hT
          have l1 : (dn ++ [97 + aF a i]).length = dn.length + 1 := by simp only [List.length_append, List.length_singleton]
          obtain ⟨w', o', g1, g2⟩ := ih r fu (turn + 1) w (upd o dn.length (nI (97 + aF a i))) (dn ++ [97 + aF a i]) (by omega) (by omega) (by omega) hok2 hw2 (by rw [l1]; omega) (zAr_app (zAr_fr ho (fun t h1 h2 => zupd_ne (by omega))) ⟨by rw [Nat.zero_add]; exact zupd_eq rfl, trivial⟩)
          refine ⟨w', o', ?_, ?_⟩
          · rw [l1] at g1
            rw [fX5_spell_L14_s]
            simp (disch := omega) only [zl_0, zl_1, zl_2, zl_3, zl_4, zl_5, zl_6, zl_8, zl_9, zl_11, zl_12, zl_13, zl_16, zl_20, zl_23, zl_24, zl_30, zl_32, zl_40, zl_41, zl_43, zl_45, zl_50, zl_52, zl_60, zl_97, zl_99, zl_100, zl_124, zl_126, zl_127, zl_169, zl_170, zl_171, zl_195, zl_200, zl_201, zl_256, zl_261, zl_999, zl_1100, zl_1884, zl_4095, zl_4096, zd1, zd2, zs1, nI_add, pk_mul, zsb, zad1, zad2, zcl, zgI, zif_le, zif_nle, zif_lt, zif_nlt, zif_eq, zif_ne, zif_self, zif_T, zif_F, Nat.zero_add, Nat.add_sub_cancel, zn21, zn31, zif_m1, zif_m1l, zif_m1n, zif_pm, zb1_k, zb2_k, zb3_k, zb4_k, zb5_k, zb6_k, zb7_k, zb8_k, zb9_k, zb10_k, zb11_k, zb12_k, zb14_k, zb21_k, zb22_k, zupd_eq, zupd_ne, zupl_eq, zupl_ne, zupf_eq, zupf_ne, List.length_cons, fX5_spell_J67, fX5_spell_J102, hw1, k1, f1, g1]
            rw [show dn.length + 1 + (zFt (aK a) (aF a) (aS a) r).length = dn.length + ((zFt (aK a) (aF a) (aS a) r).length + 1) by omega]
          · rw [List.append_assoc] at g2
            exact g2
        · have hF := ac i hi k
          have s1 : second i = nI (aS a i) := (es i hi).trans (if_neg k)
          have opb : 0 < zop (aK a i) ∧ zop (aK a i) < 128 := by unfold zop; split <;> omega
          have e : zFt (aK a) (aF a) (aS a) (.inl i :: r) = zFt (aK a) (aF a) (aS a) (.inr 40 :: .inl (aF a i) :: .inr (zop (aK a i)) :: .inl (aS a i) :: .inr 41 :: r) := by
            show ztx (aK a) (aF a) (aS a) i ++ zFt (aK a) (aF a) (aS a) r = 40 :: (ztx (aK a) (aF a) (aS a) (aF a i) ++ (zop (aK a i) :: (ztx (aK a) (aF a) (aS a) (aS a i) ++ (41 :: zFt (aK a) (aF a) (aS a) r))))
            rw [ztx_1 ac hi k]
            simp only [List.append_assoc, List.cons_append, List.nil_append]
          rw [e] at hl hlen ⊢
          have pe := zP1_net hv i hi k
          have q1 := (apo_len hv (show aF a i < a 8 by omega)).1
          have q2 := (apo_len hv (show aS a i < a 8 by omega)).1
          have hok3 : zOks (a 8) (.inr 40 :: .inl (aF a i) :: .inr (zop (aK a i)) :: .inl (aS a i) :: .inr 41 :: r) := ⟨by omega, by omega, opb, by omega, by omega, hok2⟩
          have hT2 : zTa (aP a) (.inr 40 :: .inl (aF a i) :: .inr (zop (aK a i)) :: .inl (aS a i) :: .inr 41 :: r) ≤ T := by
            have hT : 5 * aP a i - 4 + zTa (aP a) r ≤ T + 1 := hT
            show 1 + (5 * aP a (aF a i) - 4 + (1 + (5 * aP a (aS a i) - 4 + (1 + zTa (aP a) r)))) ≤ T
            omega
          have hl3 := zFt_len ac (zP0_net hv) (zP1_net hv) _ hok3
          simp only [List.length_cons] at hl3
          obtain ⟨w', o', g1, g2⟩ := ih (.inr 40 :: .inl (aF a i) :: .inr (zop (aK a i)) :: .inl (aS a i) :: .inr 41 :: r) fu (turn + 1) (upd (upd (upd (upd (upd w r.length (-nI 41)) (r.length + 1) (nI (aS a i))) (r.length + 2) (-nI (zop (aK a i)))) (r.length + 3) (nI (aF a i))) (r.length + 4) (-nI 40)) o dn hT2 (by omega) (by omega) hok3 ⟨by simp only [List.length_cons]; rw [zupd_eq rfl]; rfl, by simp only [List.length_cons]; rw [zupd_ne (by omega), zupd_eq rfl]; rfl, by simp only [List.length_cons]; rw [zupd_ne (by omega), zupd_ne (by omega), zupd_eq rfl]; rfl, by simp only [List.length_cons]; rw [zupd_ne (by omega), zupd_ne (by omega), zupd_ne (by omega), zupd_eq rfl]; rfl, by rw [zupd_ne (by omega), zupd_ne (by omega), zupd_ne (by omega), zupd_ne (by omega), zupd_eq rfl]; rfl, zSs_fr hw2 (fun t ht => by rw [zupd_ne (by omega), zupd_ne (by omega), zupd_ne (by omega), zupd_ne (by omega), zupd_ne (by omega)])⟩ hl ho
          refine ⟨w', o', ?_, g2⟩
          simp only [List.length_cons] at g1
          rw [← g1, fX5_spell_L14_s]
          unfold zop
          rcases (show aK a i = 1 ∨ aK a i = 2 by omega) with z | z
          · rw [if_pos z]
            simp (disch := omega) only [zl_0, zl_1, zl_2, zl_3, zl_4, zl_5, zl_6, zl_8, zl_9, zl_11, zl_12, zl_13, zl_16, zl_20, zl_23, zl_24, zl_30, zl_32, zl_40, zl_41, zl_43, zl_45, zl_50, zl_52, zl_60, zl_97, zl_99, zl_100, zl_124, zl_126, zl_127, zl_169, zl_170, zl_171, zl_195, zl_200, zl_201, zl_256, zl_261, zl_999, zl_1100, zl_1884, zl_4095, zl_4096, zd1, zd2, zs1, nI_add, pk_mul, zsb, zad1, zad2, zcl, zgI, zif_le, zif_nle, zif_lt, zif_nlt, zif_eq, zif_ne, zif_self, zif_T, zif_F, Nat.zero_add, Nat.add_sub_cancel, zn21, zn31, zif_m1, zif_m1l, zif_m1n, zif_pm, zb1_k, zb2_k, zb3_k, zb4_k, zb5_k, zb6_k, zb7_k, zb8_k, zb9_k, zb10_k, zb11_k, zb12_k, zb14_k, zb21_k, zb22_k, zupd_eq, zupd_ne, zupl_eq, zupl_ne, zupf_eq, zupf_ne, List.length_cons, fX5_openBrackets, fX5_openBrackets_J59, hw1, k1, f1, s1]
          · rw [if_neg (show ¬ aK a i = 1 by omega)]
            simp (disch := omega) only [zl_0, zl_1, zl_2, zl_3, zl_4, zl_5, zl_6, zl_8, zl_9, zl_11, zl_12, zl_13, zl_16, zl_20, zl_23, zl_24, zl_30, zl_32, zl_40, zl_41, zl_43, zl_45, zl_50, zl_52, zl_60, zl_97, zl_99, zl_100, zl_124, zl_126, zl_127, zl_169, zl_170, zl_171, zl_195, zl_200, zl_201, zl_256, zl_261, zl_999, zl_1100, zl_1884, zl_4095, zl_4096, zd1, zd2, zs1, nI_add, pk_mul, zsb, zad1, zad2, zcl, zgI, zif_le, zif_nle, zif_lt, zif_nlt, zif_eq, zif_ne, zif_self, zif_T, zif_F, Nat.zero_add, Nat.add_sub_cancel, zn21, zn31, zif_m1, zif_m1l, zif_m1n, zif_pm, zb1_k, zb2_k, zb3_k, zb4_k, zb5_k, zb6_k, zb7_k, zb8_k, zb9_k, zb10_k, zb11_k, zb12_k, zb14_k, zb21_k, zb22_k, zupd_eq, zupd_ne, zupl_eq, zupl_ne, zupf_eq, zupf_ne, List.length_cons, fX5_openBrackets, fX5_openBrackets_J59, hw1, k1, f1, s1]
set_option maxHeartbeats 2000000 in
theorem fm_printL {a : Nat → Nat} {now : Nat → Int32} (hv : zV a) (hm : zMn a now) : ∀ (T : Nat) (st : List (Nat ⊕ Nat)) (fu : Nat) (w o : Nat → Int32) (dn : List Nat), zTb (aP a) st ≤ T → T < fu → zTc (aP a) st ≤ 34 → zOks (a 8) st → zSs w st → dn.length + (zFt (aK a) (aF a) (aS a) st).length ≤ 45 → zAr o nI 0 dn → ∃ w' o', fX11_printsAll_L17 now fu (nI st.length) (nI dn.length) w o = some (nI 0, nI (dn.length + (zFt (aK a) (aF a) (aS a) st).length), w', o') ∧ zAr o' nI 0 (dn ++ zFt (aK a) (aF a) (aS a) st) := by
  have h8 := hv.2.1
  have ac := zAc_net hv
  have hP : ∀ i, i < a 8 → 1 ≤ aP a i := fun i hi => (apo_len hv hi).1
  intro T
  induction T with
  | zero =>
    intro st fu w o dn hT hfu hc hok hw hl ho
    obtain ⟨fu, rfl⟩ : ∃ f, fu = f + 1 := ⟨fu - 1, by omega⟩
    cases st with
    | nil =>
      refine ⟨w, o, ?_, ?_⟩
      · rw [fX11_printsAll_L17_s]
        simp (disch := omega) only [zl_0, zl_1, zl_2, zl_3, zl_4, zl_5, zl_6, zl_8, zl_9, zl_11, zl_12, zl_13, zl_16, zl_20, zl_23, zl_24, zl_30, zl_32, zl_40, zl_41, zl_43, zl_45, zl_50, zl_52, zl_60, zl_97, zl_99, zl_100, zl_124, zl_126, zl_127, zl_169, zl_170, zl_171, zl_195, zl_200, zl_201, zl_256, zl_261, zl_999, zl_1100, zl_1884, zl_4095, zl_4096, zd1, zd2, zs1, nI_add, pk_mul, zsb, zad1, zad2, zcl, zgI, zif_le, zif_nle, zif_lt, zif_nlt, zif_eq, zif_ne, zif_self, zif_T, zif_F, Nat.zero_add, Nat.add_sub_cancel, zn21, zn31, zif_m1, zif_m1l, zif_m1n, zif_pm, zb1_k, zb2_k, zb3_k, zb4_k, zb5_k, zb6_k, zb7_k, zb8_k, zb9_k, zb10_k, zb11_k, zb12_k, zb14_k, zb21_k, zb22_k, zupd_eq, zupd_ne, zupl_eq, zupl_ne, zupf_eq, zupf_ne, List.length_nil, zFt, Nat.add_zero]
      · unfold zFt
        rw [List.append_nil]
        exact ho
    | cons x r =>
      exfalso
      cases x with
      | inl i =>
        have := hP i hok.1
        unfold zTb at hT
        omega
      | inr i =>
        unfold zTb at hT
        omega
  | succ T ih =>
    intro st fu w o dn hT hfu hc hok hw hl ho
    obtain ⟨fu, rfl⟩ : ∃ f, fu = f + 1 := ⟨fu - 1, by omega⟩
    cases st with
    | nil =>
      refine ⟨w, o, ?_, ?_⟩
      · rw [fX11_printsAll_L17_s]
        simp (disch := omega) only [zl_0, zl_1, zl_2, zl_3, zl_4, zl_5, zl_6, zl_8, zl_9, zl_11, zl_12, zl_13, zl_16, zl_20, zl_23, zl_24, zl_30, zl_32, zl_40, zl_41, zl_43, zl_45, zl_50, zl_52, zl_60, zl_97, zl_99, zl_100, zl_124, zl_126, zl_127, zl_169, zl_170, zl_171, zl_195, zl_200, zl_201, zl_256, zl_261, zl_999, zl_1100, zl_1884, zl_4095, zl_4096, zd1, zd2, zs1, nI_add, pk_mul, zsb, zad1, zad2, zcl, zgI, zif_le, zif_nle, zif_lt, zif_nlt, zif_eq, zif_ne, zif_self, zif_T, zif_F, Nat.zero_add, Nat.add_sub_cancel, zn21, zn31, zif_m1, zif_m1l, zif_m1n, zif_pm, zb1_k, zb2_k, zb3_k, zb4_k, zb5_k, zb6_k, zb7_k, zb8_k, zb9_k, zb10_k, zb11_k, zb12_k, zb14_k, zb21_k, zb22_k, zupd_eq, zupd_ne, zupl_eq, zupl_ne, zupf_eq, zupf_ne, List.length_nil, zFt, Nat.add_zero]
      · unfold zFt
        rw [List.append_nil]
        exact ho
    | cons x r =>
      have hlen := zTc_len hP (x :: r) hok
      simp only [List.length_cons] at hlen
      cases x with
      | inr c =>
        obtain ⟨⟨c0, c1⟩, hok2⟩ := hok
        obtain ⟨hw1, hw2⟩ := hw
        have hw1 : w r.length = -nI c := hw1
        unfold zFt at hl
        simp only [List.length_cons] at hl
        unfold zTb at hT
        unfold zTc at hc hlen
        have l1 : (dn ++ [c]).length = dn.length + 1 := by simp only [List.length_append, List.length_singleton]
        obtain ⟨w', o', g1, g2⟩ := ih r fu w (upd o dn.length (nI c)) (dn ++ [c]) (by omega) (by omega) (by omega) hok2 hw2 (by rw [l1]; omega) (zAr_app (zAr_fr ho (fun t h1 h2 => zupd_ne (by omega))) ⟨by rw [Nat.zero_add]; exact zupd_eq rfl, trivial⟩)
        refine ⟨w', o', ?_, ?_⟩
        · rw [l1] at g1
          rw [fX11_printsAll_L17_s]
          simp (disch := omega) only [zl_0, zl_1, zl_2, zl_3, zl_4, zl_5, zl_6, zl_8, zl_9, zl_11, zl_12, zl_13, zl_16, zl_20, zl_23, zl_24, zl_30, zl_32, zl_40, zl_41, zl_43, zl_45, zl_50, zl_52, zl_60, zl_97, zl_99, zl_100, zl_124, zl_126, zl_127, zl_169, zl_170, zl_171, zl_195, zl_200, zl_201, zl_256, zl_261, zl_999, zl_1100, zl_1884, zl_4095, zl_4096, zd1, zd2, zs1, nI_add, pk_mul, zsb, zad1, zad2, zcl, zgI, zif_le, zif_nle, zif_lt, zif_nlt, zif_eq, zif_ne, zif_self, zif_T, zif_F, Nat.zero_add, Nat.add_sub_cancel, zn21, zn31, zif_m1, zif_m1l, zif_m1n, zif_pm, zb1_k, zb2_k, zb3_k, zb4_k, zb5_k, zb6_k, zb7_k, zb8_k, zb9_k, zb10_k, zb11_k, zb12_k, zb14_k, zb21_k, zb22_k, zupd_eq, zupd_ne, zupl_eq, zupl_ne, zupf_eq, zupf_ne, List.length_cons, fX11_prints, hw1, zfn (zng_nle c0 c1), Int32.neg_neg, g1, zFt]
          rw [show dn.length + 1 + (zFt (aK a) (aF a) (aS a) r).length = dn.length + ((zFt (aK a) (aF a) (aS a) r).length + 1) by omega]
        · unfold zFt
          rw [List.append_assoc] at g2
          exact g2
      | inl i =>
        obtain ⟨hi, hok2⟩ := hok
        obtain ⟨hw1, hw2⟩ := hw
        have hw1 : w r.length = nI i := hw1
        have p1 := hP i hi
        have kO := fm_kindOf hm (i := i) (by omega)
        have fO := fm_firstOf hm (i := i) (by omega)
        have sO := fm_secondOf hm (i := i) (by omega)
        have kb := zNet_b hv.2.2.1 hi h8
        by_cases k : aK a i = 0
        · have e : zFt (aK a) (aF a) (aS a) (.inl i :: r) = (97 + aF a i) :: zFt (aK a) (aF a) (aS a) r := by
            show ztx (aK a) (aF a) (aS a) i ++ zFt (aK a) (aF a) (aS a) r = (97 + aF a i) :: zFt (aK a) (aF a) (aS a) r
            rw [ztx_0 k]
            rfl
          rw [e] at hl ⊢
          simp only [List.length_cons] at hl
          unfold zTb at hT
          unfold zTc at hc hlen
          have l1 : (dn ++ [97 + aF a i]).length = dn.length + 1 := by simp only [List.length_append, List.length_singleton]
          obtain ⟨w', o', g1, g2⟩ := ih r fu w (upd o dn.length (nI (97 + aF a i))) (dn ++ [97 + aF a i]) (by omega) (by omega) (by omega) hok2 hw2 (by rw [l1]; omega) (zAr_app (zAr_fr ho (fun t h1 h2 => zupd_ne (by omega))) ⟨by rw [Nat.zero_add]; exact zupd_eq rfl, trivial⟩)
          refine ⟨w', o', ?_, ?_⟩
          · rw [l1] at g1
            rw [fX11_printsAll_L17_s]
            simp (disch := omega) only [zl_0, zl_1, zl_2, zl_3, zl_4, zl_5, zl_6, zl_8, zl_9, zl_11, zl_12, zl_13, zl_16, zl_20, zl_23, zl_24, zl_30, zl_32, zl_40, zl_41, zl_43, zl_45, zl_50, zl_52, zl_60, zl_97, zl_99, zl_100, zl_124, zl_126, zl_127, zl_169, zl_170, zl_171, zl_195, zl_200, zl_201, zl_256, zl_261, zl_999, zl_1100, zl_1884, zl_4095, zl_4096, zd1, zd2, zs1, nI_add, pk_mul, zsb, zad1, zad2, zcl, zgI, zif_le, zif_nle, zif_lt, zif_nlt, zif_eq, zif_ne, zif_self, zif_T, zif_F, Nat.zero_add, Nat.add_sub_cancel, zn21, zn31, zif_m1, zif_m1l, zif_m1n, zif_pm, zb1_k, zb2_k, zb3_k, zb4_k, zb5_k, zb6_k, zb7_k, zb8_k, zb9_k, zb10_k, zb11_k, zb12_k, zb14_k, zb21_k, zb22_k, zupd_eq, zupd_ne, zupl_eq, zupl_ne, zupf_eq, zupf_ne, List.length_cons, fX11_prints, hw1, kO, fO, g1]
            rw [show dn.length + 1 + (zFt (aK a) (aF a) (aS a) r).length = dn.length + ((zFt (aK a) (aF a) (aS a) r).length + 1) by omega]
          · rw [List.append_assoc] at g2
            exact g2
        · have hF := ac i hi k
          have opb : 0 < zop (aK a i) ∧ zop (aK a i) < 128 := by unfold zop; split <;> omega
          have e : zFt (aK a) (aF a) (aS a) (.inl i :: r) = 40 :: zFt (aK a) (aF a) (aS a) (.inl (aF a i) :: .inr (zop (aK a i)) :: .inl (aS a i) :: .inr 41 :: r) := by
            show ztx (aK a) (aF a) (aS a) i ++ zFt (aK a) (aF a) (aS a) r = 40 :: (ztx (aK a) (aF a) (aS a) (aF a i) ++ (zop (aK a i) :: (ztx (aK a) (aF a) (aS a) (aS a i) ++ (41 :: zFt (aK a) (aF a) (aS a) r))))
            rw [ztx_1 ac hi k]
            simp only [List.append_assoc, List.cons_append, List.nil_append]
          rw [e] at hl ⊢
          simp only [List.length_cons] at hl
          have pe := zP1_net hv i hi k
          have q1 := hP (aF a i) (by omega)
          have q2 := hP (aS a i) (by omega)
          have hok3 : zOks (a 8) (.inl (aF a i) :: .inr (zop (aK a i)) :: .inl (aS a i) :: .inr 41 :: r) := ⟨by omega, opb, by omega, by omega, hok2⟩
          have hT2 : zTb (aP a) (.inl (aF a i) :: .inr (zop (aK a i)) :: .inl (aS a i) :: .inr 41 :: r) ≤ T := by
            have hT : 4 * aP a i - 3 + zTb (aP a) r ≤ T + 1 := hT
            show 4 * aP a (aF a i) - 3 + (1 + (4 * aP a (aS a i) - 3 + (1 + zTb (aP a) r))) ≤ T
            omega
          have hc2 : zTc (aP a) (.inl (aF a i) :: .inr (zop (aK a i)) :: .inl (aS a i) :: .inr 41 :: r) ≤ 34 := by
            have hc : 3 * aP a i - 2 + zTc (aP a) r ≤ 34 := hc
            show 3 * aP a (aF a i) - 2 + (1 + (3 * aP a (aS a i) - 2 + (1 + zTc (aP a) r))) ≤ 34
            omega
          have hl3 := zTc_len hP _ hok3
          simp only [List.length_cons] at hl3
          have l1 : (dn ++ [40]).length = dn.length + 1 := by simp only [List.length_append, List.length_singleton]
          obtain ⟨w', o', g1, g2⟩ := ih (.inl (aF a i) :: .inr (zop (aK a i)) :: .inl (aS a i) :: .inr 41 :: r) fu (upd (upd (upd (upd w r.length (-nI 41)) (r.length + 1) (nI (aS a i))) (r.length + 2) (-nI (zop (aK a i)))) (r.length + 3) (nI (aF a i))) (upd o dn.length (nI 40)) (dn ++ [40]) hT2 (by omega) hc2 hok3 ⟨by simp only [List.length_cons]; rw [zupd_eq rfl]; rfl, by simp only [List.length_cons]; rw [zupd_ne (by omega), zupd_eq rfl]; rfl, by simp only [List.length_cons]; rw [zupd_ne (by omega), zupd_ne (by omega), zupd_eq rfl]; rfl, by rw [zupd_ne (by omega), zupd_ne (by omega), zupd_ne (by omega), zupd_eq rfl]; rfl, zSs_fr hw2 (fun t ht => by rw [zupd_ne (by omega), zupd_ne (by omega), zupd_ne (by omega), zupd_ne (by omega)])⟩ (by rw [l1]; omega) (zAr_app (zAr_fr ho (fun t h1 h2 => zupd_ne (by omega))) ⟨by rw [Nat.zero_add]; exact zupd_eq rfl, trivial⟩)
          refine ⟨w', o', ?_, ?_⟩
          · simp only [List.length_cons] at g1
            rw [l1] at g1
            rw [show dn.length + (zFt (aK a) (aF a) (aS a) (.inl (aF a i) :: .inr (zop (aK a i)) :: .inl (aS a i) :: .inr 41 :: r)).length.succ = dn.length + 1 + (zFt (aK a) (aF a) (aS a) (.inl (aF a i) :: .inr (zop (aK a i)) :: .inl (aS a i) :: .inr 41 :: r)).length by omega] at *
            rw [List.length_cons, List.length_cons, show dn.length + ((zFt (aK a) (aF a) (aS a) (.inl (aF a i) :: .inr (zop (aK a i)) :: .inl (aS a i) :: .inr 41 :: r)).length + 1) = dn.length + 1 + (zFt (aK a) (aF a) (aS a) (.inl (aF a i) :: .inr (zop (aK a i)) :: .inl (aS a i) :: .inr 41 :: r)).length by omega, ← g1, fX11_printsAll_L17_s]
            unfold zop
            rcases (show aK a i = 1 ∨ aK a i = 2 by omega) with z | z
            · rw [if_pos z]
              simp (disch := omega) only [zl_0, zl_1, zl_2, zl_3, zl_4, zl_5, zl_6, zl_8, zl_9, zl_11, zl_12, zl_13, zl_16, zl_20, zl_23, zl_24, zl_30, zl_32, zl_40, zl_41, zl_43, zl_45, zl_50, zl_52, zl_60, zl_97, zl_99, zl_100, zl_124, zl_126, zl_127, zl_169, zl_170, zl_171, zl_195, zl_200, zl_201, zl_256, zl_261, zl_999, zl_1100, zl_1884, zl_4095, zl_4096, zd1, zd2, zs1, nI_add, pk_mul, zsb, zad1, zad2, zcl, zgI, zif_le, zif_nle, zif_lt, zif_nlt, zif_eq, zif_ne, zif_self, zif_T, zif_F, Nat.zero_add, Nat.add_sub_cancel, zn21, zn31, zif_m1, zif_m1l, zif_m1n, zif_pm, zb1_k, zb2_k, zb3_k, zb4_k, zb5_k, zb6_k, zb7_k, zb8_k, zb9_k, zb10_k, zb11_k, zb12_k, zb14_k, zb21_k, zb22_k, zupd_eq, zupd_ne, zupl_eq, zupl_ne, zupf_eq, zupf_ne, List.length_cons, fX11_prints, fX11_printsAll_J139, hw1, kO, fO, sO]
            · rw [if_neg (show ¬ aK a i = 1 by omega)]
              simp (disch := omega) only [zl_0, zl_1, zl_2, zl_3, zl_4, zl_5, zl_6, zl_8, zl_9, zl_11, zl_12, zl_13, zl_16, zl_20, zl_23, zl_24, zl_30, zl_32, zl_40, zl_41, zl_43, zl_45, zl_50, zl_52, zl_60, zl_97, zl_99, zl_100, zl_124, zl_126, zl_127, zl_169, zl_170, zl_171, zl_195, zl_200, zl_201, zl_256, zl_261, zl_999, zl_1100, zl_1884, zl_4095, zl_4096, zd1, zd2, zs1, nI_add, pk_mul, zsb, zad1, zad2, zcl, zgI, zif_le, zif_nle, zif_lt, zif_nlt, zif_eq, zif_ne, zif_self, zif_T, zif_F, Nat.zero_add, Nat.add_sub_cancel, zn21, zn31, zif_m1, zif_m1l, zif_m1n, zif_pm, zb1_k, zb2_k, zb3_k, zb4_k, zb5_k, zb6_k, zb7_k, zb8_k, zb9_k, zb10_k, zb11_k, zb12_k, zb14_k, zb21_k, zb22_k, zupd_eq, zupd_ne, zupl_eq, zupl_ne, zupf_eq, zupf_ne, List.length_cons, fX11_prints, fX11_printsAll_J139, hw1, kO, fO, sO]
          · rw [List.append_assoc] at g2
            exact g2
theorem zAr_get {w w' : Nat → Int32} : ∀ (L : List Nat) (o i : Nat), zAr w nI o L → zAr w' nI o L → o ≤ i → i < o + L.length → w i = w' i ∧ True
  | [], o, i, _, _, h1, h2 => by simp only [List.length_nil] at h2; omega
  | x :: r, o, i, h, h', h1, h2 => by
    by_cases e : i = o
    · subst e
      exact ⟨h.1.trans h'.1.symm, trivial⟩
    · exact zAr_get r (o + 1) i h.2 h'.2 (by omega) (by simp only [List.length_cons] at h2; omega)
theorem q_print {Fd : FD → Prop} {k : Nat} : zQ_print (zR Fd) k := by
  intro xs ms h p1 p2
  have h0 := h
  obtain ⟨a, hv, hx, hm, hr⟩ := h
  obtain ⟨hB, hN, hM, hT0, hT1, hT2⟩ := id hx
  have h8 := hv.2.1
  have hc : x_nets_count xs = nI (a 8) := hN.1
  have hm8 : m_now ms 8 = nI (a 8) := hm.1 8 (by omega)
  rcases znet p1 h8 hm8 with ⟨e1, e2⟩ | ⟨i, hi, rfl, e1, e2⟩
  · refine zfin0 (-nI 1) h0 ?_ ?_
    · simp (disch := omega) only [stX10_print, fX10_print, zl_0, zl_1, zl_2, zl_3, zl_4, zl_5, zl_6, zl_8, zl_9, zl_11, zl_12, zl_13, zl_16, zl_20, zl_23, zl_24, zl_30, zl_32, zl_40, zl_41, zl_43, zl_45, zl_50, zl_52, zl_60, zl_97, zl_99, zl_100, zl_124, zl_126, zl_127, zl_169, zl_170, zl_171, zl_195, zl_200, zl_201, zl_256, zl_261, zl_999, zl_1100, zl_1884, zl_4095, zl_4096, zd1, zd2, zs1, nI_add, pk_mul, zsb, zad1, zad2, zcl, zgI, zif_le, zif_nle, zif_lt, zif_nlt, zif_eq, zif_ne, zif_self, zif_T, zif_F, Nat.zero_add, Nat.add_sub_cancel, zn21, zn31, zif_m1, zif_m1l, zif_m1n, zif_pm, zb1_k, zb2_k, zb3_k, zb4_k, zb5_k, zb6_k, zb7_k, zb8_k, zb9_k, zb10_k, zb11_k, zb12_k, zb14_k, zb21_k, zb22_k, zupd_eq, zupd_ne, zupl_eq, zupl_ne, zupf_eq, zupf_ne, hc, e1]; (try rw [← hc]); try rfl
    · simp (disch := omega) only [stX11_print, fX11_print, zl_0, zl_1, zl_2, zl_3, zl_4, zl_5, zl_6, zl_8, zl_9, zl_11, zl_12, zl_13, zl_16, zl_20, zl_23, zl_24, zl_30, zl_32, zl_40, zl_41, zl_43, zl_45, zl_50, zl_52, zl_60, zl_97, zl_99, zl_100, zl_124, zl_126, zl_127, zl_169, zl_170, zl_171, zl_195, zl_200, zl_201, zl_256, zl_261, zl_999, zl_1100, zl_1884, zl_4095, zl_4096, zd1, zd2, zs1, nI_add, pk_mul, zsb, zad1, zad2, zcl, zgI, zif_le, zif_nle, zif_lt, zif_nlt, zif_eq, zif_ne, zif_self, zif_T, zif_F, Nat.zero_add, Nat.add_sub_cancel, zn21, zn31, zif_m1, zif_m1l, zif_m1n, zif_pm, zb1_k, zb2_k, zb3_k, zb4_k, zb5_k, zb6_k, zb7_k, zb8_k, zb9_k, zb10_k, zb11_k, zb12_k, zb14_k, zb21_k, zb22_k, zupd_eq, zupd_ne, zupl_eq, zupl_ne, zupf_eq, zupf_ne, e2]; try rfl
  by_cases z : -nI 1 ≤ p2
  rotate_left
  · refine zfin0 (-nI 1) h0 ?_ ?_
    · simp (disch := omega) only [stX10_print, fX10_print, zl_0, zl_1, zl_2, zl_3, zl_4, zl_5, zl_6, zl_8, zl_9, zl_11, zl_12, zl_13, zl_16, zl_20, zl_23, zl_24, zl_30, zl_32, zl_40, zl_41, zl_43, zl_45, zl_50, zl_52, zl_60, zl_97, zl_99, zl_100, zl_124, zl_126, zl_127, zl_169, zl_170, zl_171, zl_195, zl_200, zl_201, zl_256, zl_261, zl_999, zl_1100, zl_1884, zl_4095, zl_4096, zd1, zd2, zs1, nI_add, pk_mul, zsb, zad1, zad2, zcl, zgI, zif_le, zif_nle, zif_lt, zif_nlt, zif_eq, zif_ne, zif_self, zif_T, zif_F, Nat.zero_add, Nat.add_sub_cancel, zn21, zn31, zif_m1, zif_m1l, zif_m1n, zif_pm, zb1_k, zb2_k, zb3_k, zb4_k, zb5_k, zb6_k, zb7_k, zb8_k, zb9_k, zb10_k, zb11_k, zb12_k, zb14_k, zb21_k, zb22_k, zupd_eq, zupd_ne, zupl_eq, zupl_ne, zupf_eq, zupf_ne, hc, e1, zfn z]; (try rw [← hc]); try rfl
    · simp (disch := omega) only [stX11_print, fX11_print, zl_0, zl_1, zl_2, zl_3, zl_4, zl_5, zl_6, zl_8, zl_9, zl_11, zl_12, zl_13, zl_16, zl_20, zl_23, zl_24, zl_30, zl_32, zl_40, zl_41, zl_43, zl_45, zl_50, zl_52, zl_60, zl_97, zl_99, zl_100, zl_124, zl_126, zl_127, zl_169, zl_170, zl_171, zl_195, zl_200, zl_201, zl_256, zl_261, zl_999, zl_1100, zl_1884, zl_4095, zl_4096, zd1, zd2, zs1, nI_add, pk_mul, zsb, zad1, zad2, zcl, zgI, zif_le, zif_nle, zif_lt, zif_nlt, zif_eq, zif_ne, zif_self, zif_T, zif_F, Nat.zero_add, Nat.add_sub_cancel, zn21, zn31, zif_m1, zif_m1l, zif_m1n, zif_pm, zb1_k, zb2_k, zb3_k, zb4_k, zb5_k, zb6_k, zb7_k, zb8_k, zb9_k, zb10_k, zb11_k, zb12_k, zb14_k, zb21_k, zb22_k, zupd_eq, zupd_ne, zupl_eq, zupl_ne, zupf_eq, zupf_ne, e2, zfn z]; try rfl
  have l := ztx_len (zAc_net hv) (zP0_net hv) (zP1_net hv) i hi
  have b := zNet_b hv.2.2.1 hi h8
  have et : zFt (aK a) (aF a) (aS a) [.inl i] = ztx (aK a) (aF a) (aS a) i := List.append_nil _
  obtain ⟨w', o', g1, g2⟩ := fx_spellL hv hN (5 * aP a i - 4) [.inl i] 5000 0 (upd (x_nets_waiting xs) 0 (nI i)) (x_nets_letters xs) [] (Nat.le_refl _) (by omega) (by omega) ⟨hi, trivial⟩ ⟨zupd_eq rfl, trivial⟩ (by rw [et]; simp only [List.length_nil]; omega) trivial
  obtain ⟨u', v', g3, g4⟩ := fm_printL hv hm (4 * aP a i - 3) [.inl i] 5000 (upd (m_waits ms) 0 (nI i)) (m_paper ms) [] (Nat.le_refl _) (by omega) (by show 3 * aP a i - 2 + 0 ≤ 34; omega) ⟨hi, trivial⟩ ⟨zupd_eq rfl, trivial⟩ (by rw [et]; simp only [List.length_nil]; omega) trivial
  rw [et] at g1 g2 g3 g4
  rw [List.length_nil, Nat.zero_add, l.2] at g1 g3
  generalize hn : 4 * aP a i - 3 = n at *
  have hX : fX5_spell (nI i) (x_nets_waiting xs) (x_nets_letters xs) (x_nets_kind xs) (x_nets_second xs) (x_nets_first xs) = some (nI n, w', o') := by
    unfold fX5_spell
    rw [show (0 : Int32).toNatClampNeg = 0 from by decide, zl_0, zl_1]
    exact g1
  have hM : fX11_printsAll (nI i) (m_waitMany ms) (m_paperMany ms) (m_waits ms) (m_paper ms) (m_now ms) = some (nI 0, nI n, u', v') := by
    unfold fX11_printsAll
    rw [show (0 : Int32).toNatClampNeg = 0 from by decide, zl_0, zl_1]
    exact g3
  have nb : n ≤ 45 := by omega
  have fin : ∀ r : Int32, stX10_print (nI i) p2 xs = some (r, (xs.1, (xs.2.1.1, xs.2.1.2.1, xs.2.1.2.2.1, xs.2.1.2.2.2.1, xs.2.1.2.2.2.2.1, xs.2.1.2.2.2.2.2.1, o', w', xs.2.1.2.2.2.2.2.2.2.2), xs.2.2)) → (∃ ms', stX11_print (nI i) p2 ms = some (r, ms') ∧ zScr ms ms') → ∃ (r : Int32) (xs' : XS) (ms' : MS), stX10_print (nI i) p2 xs = some (r, xs') ∧ stX11_print (nI i) p2 ms = some (r, ms') ∧ zR Fd (k + 1) xs' ms' := fun r hx1 hm1 => by
    obtain ⟨ms', hm1, hs⟩ := hm1
    exact ⟨r, _, ms', hx1, hm1, zRl_scr (ms := ms) h0 hs⟩
  by_cases z1 : p2 = -nI 1
  · refine fin (nI n) ?_ ?_
    · simp (disch := omega) only [stX10_print, fX10_print, zl_0, zl_1, zl_2, zl_3, zl_4, zl_5, zl_6, zl_8, zl_9, zl_11, zl_12, zl_13, zl_16, zl_20, zl_23, zl_24, zl_30, zl_32, zl_40, zl_41, zl_43, zl_45, zl_50, zl_52, zl_60, zl_97, zl_99, zl_100, zl_124, zl_126, zl_127, zl_169, zl_170, zl_171, zl_195, zl_200, zl_201, zl_256, zl_261, zl_999, zl_1100, zl_1884, zl_4095, zl_4096, zd1, zd2, zs1, nI_add, pk_mul, zsb, zad1, zad2, zcl, zgI, zif_le, zif_nle, zif_lt, zif_nlt, zif_eq, zif_ne, zif_self, zif_T, zif_F, Nat.zero_add, Nat.add_sub_cancel, zn21, zn31, zif_m1, zif_m1l, zif_m1n, zif_pm, zb1_k, zb2_k, zb3_k, zb4_k, zb5_k, zb6_k, zb7_k, zb8_k, zb9_k, zb10_k, zb11_k, zb12_k, zb14_k, zb21_k, zb22_k, zupd_eq, zupd_ne, zupl_eq, zupl_ne, zupf_eq, zupf_ne, hc, e1, zft z, hX, zft z1]; (try rw [← hc]); try rfl
    · simp (disch := omega) only [stX11_print, fX11_print, zl_0, zl_1, zl_2, zl_3, zl_4, zl_5, zl_6, zl_8, zl_9, zl_11, zl_12, zl_13, zl_16, zl_20, zl_23, zl_24, zl_30, zl_32, zl_40, zl_41, zl_43, zl_45, zl_50, zl_52, zl_60, zl_97, zl_99, zl_100, zl_124, zl_126, zl_127, zl_169, zl_170, zl_171, zl_195, zl_200, zl_201, zl_256, zl_261, zl_999, zl_1100, zl_1884, zl_4095, zl_4096, zd1, zd2, zs1, nI_add, pk_mul, zsb, zad1, zad2, zcl, zgI, zif_le, zif_nle, zif_lt, zif_nlt, zif_eq, zif_ne, zif_self, zif_T, zif_F, Nat.zero_add, Nat.add_sub_cancel, zn21, zn31, zif_m1, zif_m1l, zif_m1n, zif_pm, zb1_k, zb2_k, zb3_k, zb4_k, zb5_k, zb6_k, zb7_k, zb8_k, zb9_k, zb10_k, zb11_k, zb12_k, zb14_k, zb21_k, zb22_k, zupd_eq, zupd_ne, zupl_eq, zupl_ne, zupf_eq, zupf_ne, e2, zft z, hM, zft z1]
      exact ⟨_, rfl, rfl, rfl, rfl, rfl, rfl⟩
  · have z2 : ¬ p2 < 0 := fun e => z1 (by
      have h1 := Int32.le_iff_toInt_le.mp z
      have h2 := Int32.lt_iff_toInt_lt.mp e
      rw [show (-nI 1).toInt = -1 from by decide] at h1
      rw [show (0 : Int32).toInt = 0 from by decide] at h2
      exact Int32.toInt_inj.mp (by rw [show (-nI 1).toInt = -1 from by decide]; omega))
    obtain ⟨j, hj, rfl⟩ := nI_of z2
    by_cases z3 : n ≤ j
    · refine fin (-nI 2) ?_ ?_
      · simp (disch := omega) only [stX10_print, fX10_print, zl_0, zl_1, zl_2, zl_3, zl_4, zl_5, zl_6, zl_8, zl_9, zl_11, zl_12, zl_13, zl_16, zl_20, zl_23, zl_24, zl_30, zl_32, zl_40, zl_41, zl_43, zl_45, zl_50, zl_52, zl_60, zl_97, zl_99, zl_100, zl_124, zl_126, zl_127, zl_169, zl_170, zl_171, zl_195, zl_200, zl_201, zl_256, zl_261, zl_999, zl_1100, zl_1884, zl_4095, zl_4096, zd1, zd2, zs1, nI_add, pk_mul, zsb, zad1, zad2, zcl, zgI, zif_le, zif_nle, zif_lt, zif_nlt, zif_eq, zif_ne, zif_self, zif_T, zif_F, Nat.zero_add, Nat.add_sub_cancel, zn21, zn31, zif_m1, zif_m1l, zif_m1n, zif_pm, zb1_k, zb2_k, zb3_k, zb4_k, zb5_k, zb6_k, zb7_k, zb8_k, zb9_k, zb10_k, zb11_k, zb12_k, zb14_k, zb21_k, zb22_k, zupd_eq, zupd_ne, zupl_eq, zupl_ne, zupf_eq, zupf_ne, hc, e1, zft z, hX, zfn z1]; (try rw [← hc]); try rfl
      · simp (disch := omega) only [stX11_print, fX11_print, zl_0, zl_1, zl_2, zl_3, zl_4, zl_5, zl_6, zl_8, zl_9, zl_11, zl_12, zl_13, zl_16, zl_20, zl_23, zl_24, zl_30, zl_32, zl_40, zl_41, zl_43, zl_45, zl_50, zl_52, zl_60, zl_97, zl_99, zl_100, zl_124, zl_126, zl_127, zl_169, zl_170, zl_171, zl_195, zl_200, zl_201, zl_256, zl_261, zl_999, zl_1100, zl_1884, zl_4095, zl_4096, zd1, zd2, zs1, nI_add, pk_mul, zsb, zad1, zad2, zcl, zgI, zif_le, zif_nle, zif_lt, zif_nlt, zif_eq, zif_ne, zif_self, zif_T, zif_F, Nat.zero_add, Nat.add_sub_cancel, zn21, zn31, zif_m1, zif_m1l, zif_m1n, zif_pm, zb1_k, zb2_k, zb3_k, zb4_k, zb5_k, zb6_k, zb7_k, zb8_k, zb9_k, zb10_k, zb11_k, zb12_k, zb14_k, zb21_k, zb22_k, zupd_eq, zupd_ne, zupl_eq, zupl_ne, zupf_eq, zupf_ne, e2, zft z, hM, zfn z1]
        exact ⟨_, rfl, rfl, rfl, rfl, rfl, rfl⟩
    · have eg := (zAr_get _ 0 j g2 g4 (Nat.zero_le _) (by rw [List.nil_append, l.2]; omega)).1
      refine fin (o' j) ?_ ?_
      · simp (disch := omega) only [stX10_print, fX10_print, zl_0, zl_1, zl_2, zl_3, zl_4, zl_5, zl_6, zl_8, zl_9, zl_11, zl_12, zl_13, zl_16, zl_20, zl_23, zl_24, zl_30, zl_32, zl_40, zl_41, zl_43, zl_45, zl_50, zl_52, zl_60, zl_97, zl_99, zl_100, zl_124, zl_126, zl_127, zl_169, zl_170, zl_171, zl_195, zl_200, zl_201, zl_256, zl_261, zl_999, zl_1100, zl_1884, zl_4095, zl_4096, zd1, zd2, zs1, nI_add, pk_mul, zsb, zad1, zad2, zcl, zgI, zif_le, zif_nle, zif_lt, zif_nlt, zif_eq, zif_ne, zif_self, zif_T, zif_F, Nat.zero_add, Nat.add_sub_cancel, zn21, zn31, zif_m1, zif_m1l, zif_m1n, zif_pm, zb1_k, zb2_k, zb3_k, zb4_k, zb5_k, zb6_k, zb7_k, zb8_k, zb9_k, zb10_k, zb11_k, zb12_k, zb14_k, zb21_k, zb22_k, zupd_eq, zupd_ne, zupl_eq, zupl_ne, zupf_eq, zupf_ne, hc, e1, zft z, hX, zfn z1]; (try rw [← hc]); try rfl
      · simp (disch := omega) only [stX11_print, fX11_print, zl_0, zl_1, zl_2, zl_3, zl_4, zl_5, zl_6, zl_8, zl_9, zl_11, zl_12, zl_13, zl_16, zl_20, zl_23, zl_24, zl_30, zl_32, zl_40, zl_41, zl_43, zl_45, zl_50, zl_52, zl_60, zl_97, zl_99, zl_100, zl_124, zl_126, zl_127, zl_169, zl_170, zl_171, zl_195, zl_200, zl_201, zl_256, zl_261, zl_999, zl_1100, zl_1884, zl_4095, zl_4096, zd1, zd2, zs1, nI_add, pk_mul, zsb, zad1, zad2, zcl, zgI, zif_le, zif_nle, zif_lt, zif_nlt, zif_eq, zif_ne, zif_self, zif_T, zif_F, Nat.zero_add, Nat.add_sub_cancel, zn21, zn31, zif_m1, zif_m1l, zif_m1n, zif_pm, zb1_k, zb2_k, zb3_k, zb4_k, zb5_k, zb6_k, zb7_k, zb8_k, zb9_k, zb10_k, zb11_k, zb12_k, zb14_k, zb21_k, zb22_k, zupd_eq, zupd_ne, zupl_eq, zupl_ne, zupf_eq, zupf_ne, e2, zft z, hM, zfn z1, eg]
        exact ⟨_, rfl, rfl, rfl, rfl, rfl, rfl⟩
