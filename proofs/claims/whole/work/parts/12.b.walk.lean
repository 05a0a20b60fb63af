/-! the two ways through a net's parts: the plan, the order -/
theorem zAc_net {a : Nat → Nat} (hv : zV a) : zAc (aK a) (aF a) (aS a) (a 8) := fun i hi k => by
  rcases hv.2.2.1 i hi with h | h
  · exact absurd h.1 k
  · exact ⟨h.2.1, h.2.2.1⟩
theorem zP0_net {a : Nat → Nat} (hv : zV a) : ∀ i, i < a 8 → aK a i = 0 → aP a i = 1 := fun i hi k => by
  rcases hv.2.2.1 i hi with h | h
  · exact h.2.2.2.1
  · omega
theorem zP1_net {a : Nat → Nat} (hv : zV a) : ∀ i, i < a 8 → aK a i ≠ 0 → aP a i = aP a (aF a i) + aP a (aS a i) := fun i hi k => by
  rcases hv.2.2.1 i hi with h | h
  · exact absurd h.1 k
  · exact h.2.2.2.1
abbrev apo (a : Nat → Nat) (i : Nat) : List Nat := zpo (aK a) (aF a) (aS a) i
theorem apo_len {a : Nat → Nat} (hv : zV a) {i : Nat} (hi : i < a 8) : 1 ≤ aP a i ∧ (apo a i).length = 2 * aP a i - 1 := zpo_len (zAc_net hv) (zP0_net hv) (zP1_net hv) i hi
set_option maxHeartbeats 1000000 in
theorem fm_goesL {a : Nat → Nat} {now : Nat → Int32} (hv : zV a) (hm : zMn a now) : ∀ (T : Nat) (st : List (Nat ⊕ Nat)) (fu : Nat) (w o : Nat → Int32) (dn : List Nat), zTu (aP a) st ≤ T → T < fu → zOk2 (aK a) (a 8) st → zSi w st → dn.length + (zFl (aK a) (aF a) (aS a) st).length ≤ 23 → zAr o nI 0 dn → ∃ w' o', fX11_goes_L17 now fu (nI dn.length) (nI st.length) w o = some (nI (dn.length + (zFl (aK a) (aF a) (aS a) st).length), nI 0, w', o') ∧ zAr o' nI 0 (dn ++ zFl (aK a) (aF a) (aS a) st) := by
  have h8 := hv.2.1
  have ac := zAc_net hv
  intro T
  induction T with
  | zero =>
    intro st fu w o dn hT hfu hok hw hl ho
    obtain ⟨fu, rfl⟩ : ∃ f, fu = f + 1 := ⟨fu - 1, by omega⟩
    cases st with
    | nil =>
      refine ⟨w, o, ?_, ?_⟩
      · rw [fX11_goes_L17_s]
        simp (disch := omega) only [zl_0, zl_1, zl_2, zl_3, zl_4, zl_5, zl_6, zl_8, zl_9, zl_11, zl_12, zl_13, zl_16, zl_20, zl_23, zl_24, zl_30, zl_32, zl_40, zl_41, zl_43, zl_45, zl_50, zl_52, zl_60, zl_97, zl_99, zl_100, zl_124, zl_126, zl_127, zl_169, zl_170, zl_171, zl_195, zl_200, zl_201, zl_256, zl_261, zl_999, zl_1100, zl_1884, zl_4095, zl_4096, zd1, zd2, zs1, nI_add, pk_mul, zsb, zad1, zad2, zcl, zgI, zif_le, zif_nle, zif_lt, zif_nlt, zif_eq, zif_ne, zif_self, zif_T, zif_F, Nat.zero_add, Nat.add_sub_cancel, zn21, zn31, zif_m1, zif_m1l, zif_m1n, zif_pm, zb1_k, zb2_k, zb3_k, zb4_k, zb5_k, zb6_k, zb7_k, zb8_k, zb9_k, zb10_k, zb11_k, zb12_k, zb14_k, zb21_k, zb22_k, zupd_eq, zupd_ne, zupl_eq, zupl_ne, zupf_eq, zupf_ne, List.length_nil, zFl, Nat.add_zero]
      · unfold zFl
        rw [List.append_nil]
        exact ho
    | cons x r =>
      exfalso
      cases x with
      | inl i =>
        have := (apo_len hv hok.1).1
        unfold zTu at hT
        omega
      | inr i =>
        unfold zTu at hT
        omega
  | succ T ih =>
    intro st fu w o dn hT hfu hok hw hl ho
    obtain ⟨fu, rfl⟩ : ∃ f, fu = f + 1 := ⟨fu - 1, by omega⟩
    cases st with
    | nil =>
      refine ⟨w, o, ?_, ?_⟩
      · rw [fX11_goes_L17_s]
        simp (disch := omega) only [zl_0, zl_1, zl_2, zl_3, zl_4, zl_5, zl_6, zl_8, zl_9, zl_11, zl_12, zl_13, zl_16, zl_20, zl_23, zl_24, zl_30, zl_32, zl_40, zl_41, zl_43, zl_45, zl_50, zl_52, zl_60, zl_97, zl_99, zl_100, zl_124, zl_126, zl_127, zl_169, zl_170, zl_171, zl_195, zl_200, zl_201, zl_256, zl_261, zl_999, zl_1100, zl_1884, zl_4095, zl_4096, zd1, zd2, zs1, nI_add, pk_mul, zsb, zad1, zad2, zcl, zgI, zif_le, zif_nle, zif_lt, zif_nlt, zif_eq, zif_ne, zif_self, zif_T, zif_F, Nat.zero_add, Nat.add_sub_cancel, zn21, zn31, zif_m1, zif_m1l, zif_m1n, zif_pm, zb1_k, zb2_k, zb3_k, zb4_k, zb5_k, zb6_k, zb7_k, zb8_k, zb9_k, zb10_k, zb11_k, zb12_k, zb14_k, zb21_k, zb22_k, zupd_eq, zupd_ne, zupl_eq, zupl_ne, zupf_eq, zupf_ne, List.length_nil, zFl, Nat.add_zero]
      · unfold zFl
        rw [List.append_nil]
        exact ho
    | cons x r =>
      have hlen := zFl_len ac (x :: r) hok
      simp only [List.length_cons] at hlen
      cases x with
      | inr i =>
        obtain ⟨⟨hi, hk⟩, hok2⟩ := hok
        obtain ⟨hw1, hw2⟩ := hw
        have hw1 : w r.length = -nI 1 - nI i := hw1
        unfold zFl at hl hlen
        simp only [List.length_cons] at hl hlen
        unfold zTu at hT
        have l1 : (dn ++ [i]).length = dn.length + 1 := by simp only [List.length_append, List.length_singleton]
        obtain ⟨w', o', g1, g2⟩ := ih r fu w (upd o dn.length (nI i)) (dn ++ [i]) (by omega) (by omega) hok2 hw2 (by rw [l1]; omega) (zAr_app (zAr_fr ho (fun t h1 h2 => zupd_ne (by omega))) ⟨by rw [Nat.zero_add]; exact zupd_eq rfl, trivial⟩)
        refine ⟨w', o', ?_, ?_⟩
        · rw [l1] at g1
          rw [fX11_goes_L17_s]
          have n1 : (-nI 1 - nI i) < nI 0 := zmk_lt (by omega)
          have n2 : ¬ nI 0 ≤ (-nI 1 - nI i) := Int32.not_le.mpr n1
          simp (disch := omega) only [zl_0, zl_1, zl_2, zl_3, zl_4, zl_5, zl_6, zl_8, zl_9, zl_11, zl_12, zl_13, zl_16, zl_20, zl_23, zl_24, zl_30, zl_32, zl_40, zl_41, zl_43, zl_45, zl_50, zl_52, zl_60, zl_97, zl_99, zl_100, zl_124, zl_126, zl_127, zl_169, zl_170, zl_171, zl_195, zl_200, zl_201, zl_256, zl_261, zl_999, zl_1100, zl_1884, zl_4095, zl_4096, zd1, zd2, zs1, nI_add, pk_mul, zsb, zad1, zad2, zcl, zgI, zif_le, zif_nle, zif_lt, zif_nlt, zif_eq, zif_ne, zif_self, zif_T, zif_F, Nat.zero_add, Nat.add_sub_cancel, zn21, zn31, zif_m1, zif_m1l, zif_m1n, zif_pm, zb1_k, zb2_k, zb3_k, zb4_k, zb5_k, zb6_k, zb7_k, zb8_k, zb9_k, zb10_k, zb11_k, zb12_k, zb14_k, zb21_k, zb22_k, zupd_eq, zupd_ne, zupl_eq, zupl_ne, zupf_eq, zupf_ne, List.length_cons, fX11_goes_J56, fX11_goes_J75, hw1, if_pos n1, if_neg n2, zmk_bk, g1, zFl]
          rw [show dn.length + 1 + (zFl (aK a) (aF a) (aS a) r).length = dn.length + ((zFl (aK a) (aF a) (aS a) r).length + 1) by omega]
        · unfold zFl
          rw [List.append_assoc] at g2
          exact g2
      | inl i =>
        obtain ⟨hi, hok2⟩ := hok
        obtain ⟨hw1, hw2⟩ := hw
        have hw1 : w r.length = nI i := hw1
        have p1 := (apo_len hv hi).1
        have kO := fm_kindOf hm (i := i) (by omega)
        have fO := fm_firstOf hm (i := i) (by omega)
        have sO := fm_secondOf hm (i := i) (by omega)
        have kb := zNet_b hv.2.2.1 hi h8
        by_cases k : aK a i = 0
        · have e : zFl (aK a) (aF a) (aS a) (.inl i :: r) = i :: zFl (aK a) (aF a) (aS a) r := by
            show zpo (aK a) (aF a) (aS a) i ++ zFl (aK a) (aF a) (aS a) r = i :: zFl (aK a) (aF a) (aS a) r
            rw [zpo_0 k]
            rfl
          rw [e] at hl hlen ⊢
          simp only [List.length_cons] at hl hlen
          unfold zTu at hT
          have l1 : (dn ++ [i]).length = dn.length + 1 := by simp only [List.length_append, List.length_singleton]
          obtain ⟨w', o', g1, g2⟩ := ih r fu w (upd o dn.length (nI i)) (dn ++ [i]) (by omega) (by omega) hok2 hw2 (by rw [l1]; omega) (zAr_app (zAr_fr ho (fun t h1 h2 => zupd_ne (by omega))) ⟨by rw [Nat.zero_add]; exact zupd_eq rfl, trivial⟩)
          refine ⟨w', o', ?_, ?_⟩
          · rw [l1] at g1
            rw [fX11_goes_L17_s]
            simp (disch := omega) only [zl_0, zl_1, zl_2, zl_3, zl_4, zl_5, zl_6, zl_8, zl_9, zl_11, zl_12, zl_13, zl_16, zl_20, zl_23, zl_24, zl_30, zl_32, zl_40, zl_41, zl_43, zl_45, zl_50, zl_52, zl_60, zl_97, zl_99, zl_100, zl_124, zl_126, zl_127, zl_169, zl_170, zl_171, zl_195, zl_200, zl_201, zl_256, zl_261, zl_999, zl_1100, zl_1884, zl_4095, zl_4096, zd1, zd2, zs1, nI_add, pk_mul, zsb, zad1, zad2, zcl, zgI, zif_le, zif_nle, zif_lt, zif_nlt, zif_eq, zif_ne, zif_self, zif_T, zif_F, Nat.zero_add, Nat.add_sub_cancel, zn21, zn31, zif_m1, zif_m1l, zif_m1n, zif_pm, zb1_k, zb2_k, zb3_k, zb4_k, zb5_k, zb6_k, zb7_k, zb8_k, zb9_k, zb10_k, zb11_k, zb12_k, zb14_k, zb21_k, zb22_k, zupd_eq, zupd_ne, zupl_eq, zupl_ne, zupf_eq, zupf_ne, List.length_cons, fX11_goes_J56, fX11_goes_J75, hw1, kO, g1]
            rw [show dn.length + 1 + (zFl (aK a) (aF a) (aS a) r).length = dn.length + ((zFl (aK a) (aF a) (aS a) r).length + 1) by omega]
          · rw [List.append_assoc] at g2
            exact g2
        · have hF := ac i hi k
          have e : zFl (aK a) (aF a) (aS a) (.inl i :: r) = zFl (aK a) (aF a) (aS a) (.inl (aF a i) :: .inl (aS a i) :: .inr i :: r) := by
            show zpo (aK a) (aF a) (aS a) i ++ zFl (aK a) (aF a) (aS a) r = zpo (aK a) (aF a) (aS a) (aF a i) ++ (zpo (aK a) (aF a) (aS a) (aS a i) ++ (i :: zFl (aK a) (aF a) (aS a) r))
            rw [zpo_1 ac hi k]
            simp only [List.append_assoc, List.cons_append, List.nil_append]
          rw [e] at hl hlen ⊢
          have pe := zP1_net hv i hi k
          have q1 := (apo_len hv (show aF a i < a 8 by omega)).1
          have q2 := (apo_len hv (show aS a i < a 8 by omega)).1
          have hT2 : zTu (aP a) (.inl (aF a i) :: .inl (aS a i) :: .inr i :: r) ≤ T := by
            unfold zTu at hT ⊢
            unfold zTu
            unfold zTu
            omega
          have hl3 := zFl_len ac (.inl (aF a i) :: .inl (aS a i) :: .inr i :: r) ⟨by omega, by omega, ⟨hi, k⟩, hok2⟩
          simp only [List.length_cons] at hl3
          obtain ⟨w', o', g1, g2⟩ := ih (.inl (aF a i) :: .inl (aS a i) :: .inr i :: r) fu (upd (upd (upd w r.length (-nI 1 - nI i)) (r.length + 1) (nI (aS a i))) (r.length + 2) (nI (aF a i))) o dn hT2 (by omega) ⟨by omega, by omega, ⟨hi, k⟩, hok2⟩ ⟨zupd_eq rfl, (zupd_ne (by simp only [List.length_cons]; omega)).trans (zupd_eq rfl), (zupd_ne (by omega)).trans ((zupd_ne (by omega)).trans (zupd_eq rfl)), zSi_fr hw2 (fun t ht => by rw [zupd_ne (by omega), zupd_ne (by omega), zupd_ne (by omega)])⟩ hl ho
          refine ⟨w', o', ?_, g2⟩
          rw [← g1, fX11_goes_L17_s]
          simp (disch := omega) only [zl_0, zl_1, zl_2, zl_3, zl_4, zl_5, zl_6, zl_8, zl_9, zl_11, zl_12, zl_13, zl_16, zl_20, zl_23, zl_24, zl_30, zl_32, zl_40, zl_41, zl_43, zl_45, zl_50, zl_52, zl_60, zl_97, zl_99, zl_100, zl_124, zl_126, zl_127, zl_169, zl_170, zl_171, zl_195, zl_200, zl_201, zl_256, zl_261, zl_999, zl_1100, zl_1884, zl_4095, zl_4096, zd1, zd2, zs1, nI_add, pk_mul, zsb, zad1, zad2, zcl, zgI, zif_le, zif_nle, zif_lt, zif_nlt, zif_eq, zif_ne, zif_self, zif_T, zif_F, Nat.zero_add, Nat.add_sub_cancel, zn21, zn31, zif_m1, zif_m1l, zif_m1n, zif_pm, zb1_k, zb2_k, zb3_k, zb4_k, zb5_k, zb6_k, zb7_k, zb8_k, zb9_k, zb10_k, zb11_k, zb12_k, zb14_k, zb21_k, zb22_k, zupd_eq, zupd_ne, zupl_eq, zupl_ne, zupf_eq, zupf_ne, List.length_cons, hw1, kO, fO, sO]
theorem fm_goes {a : Nat → Nat} {now : Nat → Int32} (hv : zV a) (hm : zMn a now) {i : Nat} (hi : i < a 8) (om wm : Int32) (w o : Nat → Int32) : ∃ w' o', fX11_goes (nI i) om wm w now o = some (nI (2 * aP a i - 1), nI 0, w', o') ∧ zAr o' nI 0 (apo a i) := by
  have l := apo_len hv hi
  have p12 := (zNet_b hv.2.2.1 hi hv.2.1).2.2.2.1
  have e : zFl (aK a) (aF a) (aS a) [.inl i] = apo a i := List.append_nil _
  obtain ⟨w', o', g1, g2⟩ := fm_goesL hv hm (3 * aP a i - 2) [.inl i] 5000 (upd w 0 (nI i)) o [] (Nat.le_refl _) (by omega) ⟨hi, trivial⟩ ⟨zupd_eq rfl, trivial⟩ (by rw [e]; simp only [List.length_nil]; omega) trivial
  rw [e] at g1 g2
  refine ⟨w', o', ?_, g2⟩
  unfold fX11_goes
  rw [show (0 : Int32).toNatClampNeg = 0 from by decide, show (0 : Int32) = nI 0 from rfl, show (1 : Int32) = nI 1 from rfl]
  rw [show ([] : List Nat).length + (apo a i).length = 2 * aP a i - 1 by rw [List.length_nil, l.2]; omega] at g1
  exact g1
theorem fx_walk {a : Nat → Nat} {cnt : Int32} {kind first second parts : Nat → Int32} (hv : zV a) (hx : zXn a cnt kind first second parts) {i : Nat} (hi : i < a 8) (pl : Int32) (w kd so : Nat → Int32) : ∃ w' kd' so', fX4_walk (nI i) parts pl w kind kd first so second = some (nI (2 * aP a i - 1), w', kd', so') ∧ zAr kd' (fun x => nI (aK a x)) 0 (apo a i) ∧ zAr so' (fun x => nI (aF a x)) 0 (apo a i) := by
  obtain ⟨hc, hk, hf, hs, hp⟩ := hx
  have h8 := hv.2.1
  have l := apo_len hv hi
  have b := zNet_b hv.2.2.1 hi h8
  have e : zCr (aK a) (aF a) (aS a) [i] = apo a i := List.nil_append _
  obtain ⟨w', kd', so', g1, g2, g3, g4⟩ := fx_fillL (n := a 8) (np3 := 40) (np4 := 40) (np5 := 40) h8 h8 h8 (by omega) (by omega) (by omega) hk hf (fun x hx k => (hs x hx).trans (if_neg k)) (fun x hx => (zNet_b hv.2.2.1 hx h8).1) (zAc_net hv) (nI (2 * aP a i - 1)) (2 * aP a i - 1) [i] 5000 (nI 1) (nI (2 * aP a i - 1 - 1)) (upd w 0 (nI i)) kd so (by rw [e]; exact l.2) (by omega) (by omega) (fun x hx => by rw [List.mem_singleton.mp hx]; exact hi) rfl (zM1_p (by omega)) ⟨zupd_eq rfl, trivial⟩
  rw [e] at g2 g3
  refine ⟨w', kd', so', ?_, g2, g3⟩
  unfold fX4_walk fX6_fill fX6_fill_J16
  simp (disch := omega) only [zl_0, zl_1, zl_2, zl_3, zl_4, zl_5, zl_6, zl_8, zl_9, zl_11, zl_12, zl_13, zl_16, zl_20, zl_23, zl_24, zl_30, zl_32, zl_40, zl_41, zl_43, zl_45, zl_50, zl_52, zl_60, zl_97, zl_99, zl_100, zl_124, zl_126, zl_127, zl_169, zl_170, zl_171, zl_195, zl_200, zl_201, zl_256, zl_261, zl_999, zl_1100, zl_1884, zl_4095, zl_4096, zd1, zd2, zs1, nI_add, pk_mul, zsb, zad1, zad2, zcl, zgI, zif_le, zif_nle, zif_lt, zif_nlt, zif_eq, zif_ne, zif_self, zif_T, zif_F, Nat.zero_add, Nat.add_sub_cancel, zn21, zn31, zif_m1, zif_m1l, zif_m1n, zif_pm, zb1_k, zb2_k, zb3_k, zb4_k, zb5_k, zb6_k, zb7_k, zb8_k, zb9_k, zb10_k, zb11_k, zb12_k, zb14_k, zb21_k, zb22_k, zupd_eq, zupd_ne, zupl_eq, zupl_ne, zupf_eq, zupf_ne, hp, g1]
/-- going through a row of joins with a stack of what stands for -/
def zEv (K F S : Nat → Nat) (root : Nat) : List Nat → List Nat → Prop
  | st, [] => st = [root]
  | st, i :: r => (K i = 0 ∧ zEv K F S root (i :: st) r) ∨ (K i ≠ 0 ∧ ∃ t, st = S i :: F i :: t ∧ zEv K F S root (i :: t) r)
theorem zEv_po {K F S : Nat → Nat} {n root : Nat} (ac : zAc K F S n) : ∀ i, i < n → ∀ st r, zEv K F S root (i :: st) r → zEv K F S root st (zpo K F S i ++ r) := by
  intro i
  induction i using Nat.strongRecOn with
  | ind i ih =>
    intro hi st r h
    by_cases k : K i = 0
    · rw [zpo_0 k]
      exact Or.inl ⟨k, h⟩
    · have q := ac i hi k
      rw [zpo_1 ac hi k, List.append_assoc, List.append_assoc]
      exact ih _ q.1 (by omega) _ _ (ih _ q.2 (by omega) _ _ (Or.inr ⟨k, st, rfl, h⟩))
theorem zEv_root {K F S : Nat → Nat} {n i : Nat} (ac : zAc K F S n) (hi : i < n) : zEv K F S i [] (zpo K F S i) := by
  have := zEv_po (root := i) ac i hi [] [] rfl
  rw [List.append_nil] at this
  exact this
def zSm (P : Nat → Nat) : List Nat → Nat
  | [] => 0
  | x :: r => P x + zSm P r
def zLv (K : Nat → Nat) : List Nat → Nat
  | [] => 0
  | x :: r => (if K x = 0 then 1 else 0) + zLv K r
theorem zLv_app (K : Nat → Nat) : ∀ (L M : List Nat), zLv K (L ++ M) = zLv K L + zLv K M
  | [], M => (Nat.zero_add _).symm
  | x :: r, M => by
    show (if K x = 0 then 1 else 0) + zLv K (r ++ M) = (if K x = 0 then 1 else 0) + zLv K r + zLv K M
    rw [zLv_app K r M, Nat.add_assoc]
theorem zLv_po {K F S P : Nat → Nat} {n : Nat} (ac : zAc K F S n) (h0 : ∀ i, i < n → K i = 0 → P i = 1) (h1 : ∀ i, i < n → K i ≠ 0 → P i = P (F i) + P (S i)) : ∀ i, i < n → zLv K (zpo K F S i) = P i := by
  intro i
  induction i using Nat.strongRecOn with
  | ind i ih =>
    intro hi
    by_cases k : K i = 0
    · rw [zpo_0 k, h0 i hi k]
      show (if K i = 0 then 1 else 0) + 0 = 1
      rw [if_pos k]
    · have q := ac i hi k
      rw [zpo_1 ac hi k, zLv_app, zLv_app, ih _ q.1 (by omega), ih _ q.2 (by omega), h1 i hi k]
      show _ + ((if K i = 0 then 1 else 0) + 0) = _
      rw [if_neg k]
      rfl
theorem zSm_len {P : Nat → Nat} : ∀ st : List Nat, (∀ x, x ∈ st → 1 ≤ P x) → st.length ≤ zSm P st
  | [], _ => Nat.le_refl _
  | x :: r, h => by
    have := zSm_len r (fun y hy => h y (List.mem_cons_of_mem _ hy))
    have := h x List.mem_cons_self
    unfold zSm
    simp only [List.length_cons]
    omega
