/-! the call make: a value's net, all of it from the left -/
def zwK (o : Nat → Nat) (i : Nat) : Nat := match (zwF o)[i]? with
  | some e => e.2.1
  | none => 0
def zwFi (o : Nat → Nat) (i : Nat) : Nat := match (zwF o)[i]? with
  | some e => e.2.2.1
  | none => 0
def zwSe (o : Nat → Nat) (i : Nat) : Nat := match (zwF o)[i]? with
  | some e => e.2.2.2
  | none => 0
theorem zwK_e {o : Nat → Nat} {i : Nat} {e : zwE} (h : (zwF o)[i]? = some e) : zwK o i = e.2.1 ∧ zwFi o i = e.2.2.1 ∧ zwSe o i = e.2.2.2 := by
  unfold zwK zwFi zwSe
  rw [h]
  exact ⟨rfl, rfl, rfl⟩
/-- of each row: a part, or of two of fewer parts -/
theorem zwK_c {o : Nat → Nat} (ho : ∀ s, s < 4 → o s ≤ 99) {i : Nat} (hi : i < zwb o 5) : (zwK o i = 0 ∧ zwFi o i < 4 ∧ 0 < o (zwFi o i) ∧ zwlv o i = 1) ∨ ((zwK o i = 1 ∨ zwK o i = 2) ∧ zwFi o i < i ∧ zwSe o i < i ∧ zwlv o i = zwlv o (zwFi o i) + zwlv o (zwSe o i)) := by
  obtain ⟨e, he⟩ := zwF_g ho hi
  obtain ⟨t, _⟩ := zwF_t ho he
  obtain ⟨k1, k2, k3⟩ := zwK_e he
  obtain ⟨s1, s2, s3, s4⟩ := zwlv_s ho hi
  rw [k1, k2, k3]
  rcases t.2 with ⟨h1, h2, h3, h4, h5⟩ | ⟨h1, h2, k, h3, h4, h5, h6, h7, h8⟩
  · exact Or.inl ⟨h2, h3, h4, h1⟩
  · right
    have m1 := zwb_mono ho (j := k + 1) (k := zwlv o i) (by omega) (by omega) (by omega)
    have m2 := zwb_mono ho (j := zwlv o i - k + 1) (k := zwlv o i) (by omega) (by omega) (by omega)
    have u1 := zwlv_u ho (i := e.2.2.1) (n := k) (by omega) h3 (by omega) h5 h6
    have u2 := zwlv_u ho (i := e.2.2.2) (n := zwlv o i - k) (by omega) (by omega) (by omega) h7 h8
    exact ⟨h2, by omega, by omega, by omega⟩
theorem zwAc {o : Nat → Nat} (ho : ∀ s, s < 4 → o s ≤ 99) {n : Nat} (hn : n ≤ zwb o 5) : zAc (zwK o) (zwFi o) (zwSe o) n := fun i hi k => by
  rcases zwK_c ho (i := i) (by omega) with h | h
  · exact absurd h.1 k
  · exact ⟨h.2.1, h.2.2.1⟩
theorem zwEv_len {K F S : Nat → Nat} {root : Nat} : ∀ (ts st : List Nat), zEv K F S root st ts → st.length ≤ 1 + ts.length
  | [], st, h => by
    have h : st = [root] := h
    rw [h]
    exact Nat.le_refl _
  | i :: r, st, h => by
    rcases h with ⟨_, h⟩ | ⟨_, t, e, h⟩
    · have := zwEv_len r (i :: st) h
      simp only [List.length_cons] at this ⊢
      omega
    · have := zwEv_len r (i :: t) h
      rw [e]
      simp only [List.length_cons] at this ⊢
      omega
/-- what was made: of each the net, the row -/
def zwMk (a P : Nat → Nat) : List Nat → List Nat → Prop
  | [], [] => True
  | x :: m, y :: n => (x < a 8 ∧ aP a x = P y) ∧ zwMk a P m n
  | _, _ => False
theorem zwMk_l {a P : Nat → Nat} : ∀ (m n : List Nat), zwMk a P m n → m.length = n.length
  | [], [], _ => rfl
  | x :: m, y :: n, h => by
    have := zwMk_l m n h.2
    simp only [List.length_cons]
    omega
  | [], _ :: _, h => h.elim
  | _ :: _, [], h => h.elim
theorem zwMk_u {a b P : Nat → Nat} (h8 : a 8 ≤ b 8) (hp : ∀ i, i < a 8 → aP b i = aP a i) : ∀ (m n : List Nat), zwMk a P m n → zwMk b P m n
  | [], [], _ => trivial
  | x :: m, y :: n, h => ⟨⟨by have := h.1.1; omega, (hp x h.1.1).trans h.1.2⟩, zwMk_u h8 hp m n h.2⟩
  | [], _ :: _, h => h.elim
  | _ :: _, [], h => h.elim
theorem xm_makesL {o : Nat → Nat} {n root N : Nat} {kind sort how snd fst : Nat → Int32} (ho : ∀ s, s < 4 → o s ≤ 99) (hn : n ≤ zwb o 5) (hN : N ≤ 7) (hh : ∀ i, i < n → how i = nI (zwK o i)) (hf : ∀ i, i < n → fst i = nI (zwFi o i)) (hs : ∀ i, i < n → snd i = nI (zwSe o i)) : ∀ (T : Nat) (st : List (Nat ⊕ Nat)) (t fu fu' : Nat) (a : Nat → Nat) (cnt : Int32) (k f s p now mx mm w : Nat → Int32) (mk nd : List Nat), zTu (zwlv o) st ≤ T → T < fu' → (zFl (zwK o) (zwFi o) (zwSe o) st).length < fu → zOk2 (zwK o) n st → zSi w st → t + (zFl (zwK o) (zwFi o) (zwSe o) st).length = N → zAr kind (fun x => nI (zwK o x)) t (zFl (zwK o) (zwFi o) (zwSe o) st) → zAr sort (fun x => nI (zwFi o x)) t (zFl (zwK o) (zwFi o) (zwSe o) st) → zEv (zwK o) (zwFi o) (zwSe o) root nd (zFl (zwK o) (zwFi o) (zwSe o) st) → zV a → (∀ s, s < 4 → a s = o s) → zXn a cnt k f s p → zMn a now → zwMk a (zwlv o) mk nd → zSk nI mx mk → zSk nI mm mk → ∃ r b cnt' k' f' s' p' mx' wm' w' mm' now', fX5_keepPlan_L4 fX5_keepPlan_J104 (nI N) kind sort fu (nI mk.length) (nI t) cnt k f s p mx = some (r, cnt', k', f', s', p', mx') ∧ fX11_makes_L14 fX11_makes_J224 how snd fst fu' (nI mk.length) (nI st.length) w now mm = some (r, wm', w', now', mm') ∧ zV b ∧ zFf a b ∧ zXn b cnt' k' f' s' p' ∧ zMn b now' := by
  have ac := zwAc ho hn
  have b5 := zwb_le ho (k := 5) (by omega) (by omega)
  intro T
  induction T with
  | zero =>
    intro st t fu fu' a cnt k f s p now mx mm w mk nd hT hfu' hfu hok hw ht ak as ev hv hB hx hm hmk kx km
    cases st with
    | nil =>
      obtain ⟨fu, rfl⟩ : ∃ f, fu = f + 1 := ⟨fu - 1, by omega⟩
      obtain ⟨fu', rfl⟩ : ∃ f, fu' = f + 1 := ⟨fu' - 1, by omega⟩
      have e1 : nd = [root] := ev
      subst e1
      have ht : t = N := ht
      subst ht
      cases mk with
      | nil => exact hmk.elim
      | cons x m =>
        have hl := zwMk_l _ _ hmk
        have hm0 : m.length = 0 := by simp only [List.length_cons, List.length_nil] at hl; omega
        obtain ⟨kx1, _⟩ := kx
        obtain ⟨km1, _⟩ := km
        rw [hm0] at kx1 km1
        rw [hl]
        refine ⟨nI x, a, cnt, k, f, s, p, mx, nI 0, w, mm, now, ?_, ?_, hv, zFf_rf a, hx, hm⟩
        · rw [fX5_keepPlan_L4_s]
          simp (disch := omega) only [zl_0, zl_1, zl_2, zl_3, zl_4, zl_5, zl_6, zl_8, zl_9, zl_11, zl_12, zl_13, zl_16, zl_20, zl_23, zl_24, zl_30, zl_32, zl_40, zl_41, zl_43, zl_45, zl_50, zl_52, zl_60, zl_97, zl_99, zl_100, zl_124, zl_126, zl_127, zl_169, zl_170, zl_171, zl_195, zl_200, zl_201, zl_256, zl_261, zl_999, zl_1100, zl_1884, zl_4095, zl_4096, zd1, zd2, zs1, nI_add, pk_mul, zsb, zad1, zad2, zcl, zgI, zif_le, zif_nle, zif_lt, zif_nlt, zif_eq, zif_ne, zif_self, zif_T, zif_F, Nat.zero_add, Nat.add_sub_cancel, zn21, zn31, zif_m1, zif_m1l, zif_m1n, zif_pm, zb1_k, zb2_k, zb3_k, zb4_k, zb5_k, zb6_k, zb7_k, zb8_k, zb9_k, zb10_k, zb11_k, zb12_k, zb14_k, zb21_k, zb22_k, zupd_eq, zupd_ne, zupl_eq, zupl_ne, zupf_eq, zupf_ne, fX5_keepPlan_J104, kx1]
        · rw [fX11_makes_L14_s]
          simp (disch := omega) only [zl_0, zl_1, zl_2, zl_3, zl_4, zl_5, zl_6, zl_8, zl_9, zl_11, zl_12, zl_13, zl_16, zl_20, zl_23, zl_24, zl_30, zl_32, zl_40, zl_41, zl_43, zl_45, zl_50, zl_52, zl_60, zl_97, zl_99, zl_100, zl_124, zl_126, zl_127, zl_169, zl_170, zl_171, zl_195, zl_200, zl_201, zl_256, zl_261, zl_999, zl_1100, zl_1884, zl_4095, zl_4096, zd1, zd2, zs1, nI_add, pk_mul, zsb, zad1, zad2, zcl, zgI, zif_le, zif_nle, zif_lt, zif_nlt, zif_eq, zif_ne, zif_self, zif_T, zif_F, Nat.zero_add, Nat.add_sub_cancel, zn21, zn31, zif_m1, zif_m1l, zif_m1n, zif_pm, zb1_k, zb2_k, zb3_k, zb4_k, zb5_k, zb6_k, zb7_k, zb8_k, zb9_k, zb10_k, zb11_k, zb12_k, zb14_k, zb21_k, zb22_k, zupd_eq, zupd_ne, zupl_eq, zupl_ne, zupf_eq, zupf_ne, List.length_nil, fX11_makes_J224, km1]
    | cons x r =>
      exfalso
      cases x with
      | inl i =>
        have := (zwlv_s ho (i := i) (by have := hok.1; omega)).1
        unfold zTu at hT
        omega
      | inr i =>
        unfold zTu at hT
        omega
  | succ T ih =>
    intro st t fu fu' a cnt k f s p now mx mm w mk nd hT hfu' hfu hok hw ht ak as ev hv hB hx hm hmk kx km
    cases st with
    | nil =>
      obtain ⟨fu, rfl⟩ : ∃ f, fu = f + 1 := ⟨fu - 1, by omega⟩
      obtain ⟨fu', rfl⟩ : ∃ f, fu' = f + 1 := ⟨fu' - 1, by omega⟩
      have e1 : nd = [root] := ev
      subst e1
      have ht : t = N := ht
      subst ht
      cases mk with
      | nil => exact hmk.elim
      | cons x m =>
        have hl := zwMk_l _ _ hmk
        have hm0 : m.length = 0 := by simp only [List.length_cons, List.length_nil] at hl; omega
        obtain ⟨kx1, _⟩ := kx
        obtain ⟨km1, _⟩ := km
        rw [hm0] at kx1 km1
        rw [hl]
        refine ⟨nI x, a, cnt, k, f, s, p, mx, nI 0, w, mm, now, ?_, ?_, hv, zFf_rf a, hx, hm⟩
        · rw [fX5_keepPlan_L4_s]
          simp (disch := omega) only [zl_0, zl_1, zl_2, zl_3, zl_4, zl_5, zl_6, zl_8, zl_9, zl_11, zl_12, zl_13, zl_16, zl_20, zl_23, zl_24, zl_30, zl_32, zl_40, zl_41, zl_43, zl_45, zl_50, zl_52, zl_60, zl_97, zl_99, zl_100, zl_124, zl_126, zl_127, zl_169, zl_170, zl_171, zl_195, zl_200, zl_201, zl_256, zl_261, zl_999, zl_1100, zl_1884, zl_4095, zl_4096, zd1, zd2, zs1, nI_add, pk_mul, zsb, zad1, zad2, zcl, zgI, zif_le, zif_nle, zif_lt, zif_nlt, zif_eq, zif_ne, zif_self, zif_T, zif_F, Nat.zero_add, Nat.add_sub_cancel, zn21, zn31, zif_m1, zif_m1l, zif_m1n, zif_pm, zb1_k, zb2_k, zb3_k, zb4_k, zb5_k, zb6_k, zb7_k, zb8_k, zb9_k, zb10_k, zb11_k, zb12_k, zb14_k, zb21_k, zb22_k, zupd_eq, zupd_ne, zupl_eq, zupl_ne, zupf_eq, zupf_ne, fX5_keepPlan_J104, kx1]
        · rw [fX11_makes_L14_s]
          simp (disch := omega) only [zl_0, zl_1, zl_2, zl_3, zl_4, zl_5, zl_6, zl_8, zl_9, zl_11, zl_12, zl_13, zl_16, zl_20, zl_23, zl_24, zl_30, zl_32, zl_40, zl_41, zl_43, zl_45, zl_50, zl_52, zl_60, zl_97, zl_99, zl_100, zl_124, zl_126, zl_127, zl_169, zl_170, zl_171, zl_195, zl_200, zl_201, zl_256, zl_261, zl_999, zl_1100, zl_1884, zl_4095, zl_4096, zd1, zd2, zs1, nI_add, pk_mul, zsb, zad1, zad2, zcl, zgI, zif_le, zif_nle, zif_lt, zif_nlt, zif_eq, zif_ne, zif_self, zif_T, zif_F, Nat.zero_add, Nat.add_sub_cancel, zn21, zn31, zif_m1, zif_m1l, zif_m1n, zif_pm, zb1_k, zb2_k, zb3_k, zb4_k, zb5_k, zb6_k, zb7_k, zb8_k, zb9_k, zb10_k, zb11_k, zb12_k, zb14_k, zb21_k, zb22_k, zupd_eq, zupd_ne, zupl_eq, zupl_ne, zupf_eq, zupf_ne, List.length_nil, fX11_makes_J224, km1]
    | cons x r =>
      have h8 := hv.2.1
      have hlen := zFl_len ac (x :: r) hok
      simp only [List.length_cons] at hlen
      have hev := zwEv_len _ _ ev
      have hml := zwMk_l _ _ hmk
      cases x with
      | inl i =>
        obtain ⟨hi, hok2⟩ := hok
        obtain ⟨hw1, hw2⟩ := hw
        have hw1 : w r.length = nI i := hw1
        have e1 := hh i hi
        have e2 := hf i hi
        have e3 := hs i hi
        rcases zwK_c ho (i := i) (by omega) with ⟨c1, c2, c3, c4⟩ | ⟨c1, c2, c3, c4⟩
        · have e : zFl (zwK o) (zwFi o) (zwSe o) (.inl i :: r) = i :: zFl (zwK o) (zwFi o) (zwSe o) r := by
            show zpo (zwK o) (zwFi o) (zwSe o) i ++ zFl (zwK o) (zwFi o) (zwSe o) r = i :: zFl (zwK o) (zwFi o) (zwSe o) r
            rw [zpo_0 c1]
            rfl
          rw [e] at hfu ht ak as ev hlen hev
          simp only [List.length_cons] at hfu ht hlen hev
          obtain ⟨fu, rfl⟩ : ∃ f, fu = f + 1 := ⟨fu - 1, by omega⟩
          obtain ⟨fu', rfl⟩ : ∃ f, fu' = f + 1 := ⟨fu' - 1, by omega⟩
          rcases ev with ⟨_, ev⟩ | ⟨q, _⟩
          · obtain ⟨t1, t3⟩ := ak
            obtain ⟨t2, t4⟩ := as
            have t1 : kind t = nI (zwK o i) := t1
            have t2 : sort t = nI (zwFi o i) := t2
            rw [c1] at t1 e1
            have hev2 := zwEv_len _ _ ev
            simp only [List.length_cons] at hev2
            unfold zTu at hT
            have ob := ho (zwFi o i) c2
            have hnew : zNew a 0 (zwFi o i) 0 1 := Or.inl ⟨rfl, c2, rfl, rfl, by rw [hB _ c2]; exact c3⟩
            obtain ⟨cnt1, k1, f1, s1, p1, x1, x2⟩ := fx_keepPart hv hx (s := zwFi o i) c2
            obtain ⟨now1, m1, m2⟩ := fm_kept hv hm hnew
            obtain ⟨v1, v2⟩ := zKp_V hv hnew
            obtain ⟨o1, o2, o3⟩ := zKp_old hv hnew
            generalize hK : zKp a 0 (zwFi o i) 0 1 = Z at *
            have v8 := v1.2.1
            rcases o3 with ⟨j, q1, q2, q3⟩ | q1
            · rw [q1] at x1 m1
              obtain ⟨rr, b, cnt', k', f', s', p', mx', wm', w', mm', now', g1, g2, g3, g4, g5⟩ := ih r (t + 1) fu fu' Z.2 cnt1 k1 f1 s1 p1 now1 (upd mx mk.length (nI j)) (upd mm mk.length (nI j)) w (j :: mk) (i :: nd) (by omega) (by omega) (by omega) hok2 hw2 (by omega) t3 t4 ev v1 (fun s hs => (v2 s (by omega)).trans (hB s hs)) x2 m2 ⟨⟨q2, by rw [q3, c4]⟩, zwMk_u o2 o1 mk nd hmk⟩ ⟨by rw [zupd_eq rfl], zSk_up mk (Nat.le_refl _) kx⟩ ⟨by rw [zupd_eq rfl], zSk_up mk (Nat.le_refl _) km⟩
              rw [List.length_cons] at g1 g2
              refine ⟨rr, b, cnt', k', f', s', p', mx', wm', w', mm', now', ?_, ?_, g3, zFf_tr v2 g4, g5⟩
              · rw [fX5_keepPlan_L4_s]
                simp (disch := omega) only [zl_0, zl_1, zl_2, zl_3, zl_4, zl_5, zl_6, zl_8, zl_9, zl_11, zl_12, zl_13, zl_16, zl_20, zl_23, zl_24, zl_30, zl_32, zl_40, zl_41, zl_43, zl_45, zl_50, zl_52, zl_60, zl_97, zl_99, zl_100, zl_124, zl_126, zl_127, zl_169, zl_170, zl_171, zl_195, zl_200, zl_201, zl_256, zl_261, zl_999, zl_1100, zl_1884, zl_4095, zl_4096, zd1, zd2, zs1, nI_add, pk_mul, zsb, zad1, zad2, zcl, zgI, zif_le, zif_nle, zif_lt, zif_nlt, zif_eq, zif_ne, zif_self, zif_T, zif_F, Nat.zero_add, Nat.add_sub_cancel, zn21, zn31, zif_m1, zif_m1l, zif_m1n, zif_pm, zb1_k, zb2_k, zb3_k, zb4_k, zb5_k, zb6_k, zb7_k, zb8_k, zb9_k, zb10_k, zb11_k, zb12_k, zb14_k, zb21_k, zb22_k, zupd_eq, zupd_ne, zupl_eq, zupl_ne, zupf_eq, zupf_ne, t1, t2, x1]
                simp (disch := omega) only [zl_0, zl_1, zl_2, zl_3, zl_4, zl_5, zl_6, zl_8, zl_9, zl_11, zl_12, zl_13, zl_16, zl_20, zl_23, zl_24, zl_30, zl_32, zl_40, zl_41, zl_43, zl_45, zl_50, zl_52, zl_60, zl_97, zl_99, zl_100, zl_124, zl_126, zl_127, zl_169, zl_170, zl_171, zl_195, zl_200, zl_201, zl_256, zl_261, zl_999, zl_1100, zl_1884, zl_4095, zl_4096, zd1, zd2, zs1, nI_add, pk_mul, zsb, zad1, zad2, zcl, zgI, zif_le, zif_nle, zif_lt, zif_nlt, zif_eq, zif_ne, zif_self, zif_T, zif_F, Nat.zero_add, Nat.add_sub_cancel, zn21, zn31, zif_m1, zif_m1l, zif_m1n, zif_pm, zb1_k, zb2_k, zb3_k, zb4_k, zb5_k, zb6_k, zb7_k, zb8_k, zb9_k, zb10_k, zb11_k, zb12_k, zb14_k, zb21_k, zb22_k, zupd_eq, zupd_ne, zupl_eq, zupl_ne, zupf_eq, zupf_ne, fX5_keepPlan_J73]
                exact g1
              · rw [fX11_makes_L14_s]
                simp (disch := omega) only [zl_0, zl_1, zl_2, zl_3, zl_4, zl_5, zl_6, zl_8, zl_9, zl_11, zl_12, zl_13, zl_16, zl_20, zl_23, zl_24, zl_30, zl_32, zl_40, zl_41, zl_43, zl_45, zl_50, zl_52, zl_60, zl_97, zl_99, zl_100, zl_124, zl_126, zl_127, zl_169, zl_170, zl_171, zl_195, zl_200, zl_201, zl_256, zl_261, zl_999, zl_1100, zl_1884, zl_4095, zl_4096, zd1, zd2, zs1, nI_add, pk_mul, zsb, zad1, zad2, zcl, zgI, zif_le, zif_nle, zif_lt, zif_nlt, zif_eq, zif_ne, zif_self, zif_T, zif_F, Nat.zero_add, Nat.add_sub_cancel, zn21, zn31, zif_m1, zif_m1l, zif_m1n, zif_pm, zb1_k, zb2_k, zb3_k, zb4_k, zb5_k, zb6_k, zb7_k, zb8_k, zb9_k, zb10_k, zb11_k, zb12_k, zb14_k, zb21_k, zb22_k, zupd_eq, zupd_ne, zupl_eq, zupl_ne, zupf_eq, zupf_ne, List.length_cons, hw1, e1]
                unfold fX11_makes_J116
                simp (disch := omega) only [zl_0, zl_1, zl_2, zl_3, zl_4, zl_5, zl_6, zl_8, zl_9, zl_11, zl_12, zl_13, zl_16, zl_20, zl_23, zl_24, zl_30, zl_32, zl_40, zl_41, zl_43, zl_45, zl_50, zl_52, zl_60, zl_97, zl_99, zl_100, zl_124, zl_126, zl_127, zl_169, zl_170, zl_171, zl_195, zl_200, zl_201, zl_256, zl_261, zl_999, zl_1100, zl_1884, zl_4095, zl_4096, zd1, zd2, zs1, nI_add, pk_mul, zsb, zad1, zad2, zcl, zgI, zif_le, zif_nle, zif_lt, zif_nlt, zif_eq, zif_ne, zif_self, zif_T, zif_F, Nat.zero_add, Nat.add_sub_cancel, zn21, zn31, zif_m1, zif_m1l, zif_m1n, zif_pm, zb1_k, zb2_k, zb3_k, zb4_k, zb5_k, zb6_k, zb7_k, zb8_k, zb9_k, zb10_k, zb11_k, zb12_k, zb14_k, zb21_k, zb22_k, zupd_eq, zupd_ne, zupl_eq, zupl_ne, zupf_eq, zupf_ne, hw1, e2, m1]
                unfold fX11_makes_J213
                simp (disch := omega) only [zl_0, zl_1, zl_2, zl_3, zl_4, zl_5, zl_6, zl_8, zl_9, zl_11, zl_12, zl_13, zl_16, zl_20, zl_23, zl_24, zl_30, zl_32, zl_40, zl_41, zl_43, zl_45, zl_50, zl_52, zl_60, zl_97, zl_99, zl_100, zl_124, zl_126, zl_127, zl_169, zl_170, zl_171, zl_195, zl_200, zl_201, zl_256, zl_261, zl_999, zl_1100, zl_1884, zl_4095, zl_4096, zd1, zd2, zs1, nI_add, pk_mul, zsb, zad1, zad2, zcl, zgI, zif_le, zif_nle, zif_lt, zif_nlt, zif_eq, zif_ne, zif_self, zif_T, zif_F, Nat.zero_add, Nat.add_sub_cancel, zn21, zn31, zif_m1, zif_m1l, zif_m1n, zif_pm, zb1_k, zb2_k, zb3_k, zb4_k, zb5_k, zb6_k, zb7_k, zb8_k, zb9_k, zb10_k, zb11_k, zb12_k, zb14_k, zb21_k, zb22_k, zupd_eq, zupd_ne, zupl_eq, zupl_ne, zupf_eq, zupf_ne]
                exact g2
            · rw [q1] at x1 m1
              refine ⟨-nI 3, Z.2, cnt1, k1, f1, s1, p1, mx, nI r.length, w, upd mm mk.length (-nI 3), now1, ?_, ?_, v1, v2, x2, m2⟩
              · rw [fX5_keepPlan_L4_s]
                simp (disch := omega) only [zl_0, zl_1, zl_2, zl_3, zl_4, zl_5, zl_6, zl_8, zl_9, zl_11, zl_12, zl_13, zl_16, zl_20, zl_23, zl_24, zl_30, zl_32, zl_40, zl_41, zl_43, zl_45, zl_50, zl_52, zl_60, zl_97, zl_99, zl_100, zl_124, zl_126, zl_127, zl_169, zl_170, zl_171, zl_195, zl_200, zl_201, zl_256, zl_261, zl_999, zl_1100, zl_1884, zl_4095, zl_4096, zd1, zd2, zs1, nI_add, pk_mul, zsb, zad1, zad2, zcl, zgI, zif_le, zif_nle, zif_lt, zif_nlt, zif_eq, zif_ne, zif_self, zif_T, zif_F, Nat.zero_add, Nat.add_sub_cancel, zn21, zn31, zif_m1, zif_m1l, zif_m1n, zif_pm, zb1_k, zb2_k, zb3_k, zb4_k, zb5_k, zb6_k, zb7_k, zb8_k, zb9_k, zb10_k, zb11_k, zb12_k, zb14_k, zb21_k, zb22_k, zupd_eq, zupd_ne, zupl_eq, zupl_ne, zupf_eq, zupf_ne, t1, t2, x1]
                simp (disch := omega) only [zl_0, zl_1, zl_2, zl_3, zl_4, zl_5, zl_6, zl_8, zl_9, zl_11, zl_12, zl_13, zl_16, zl_20, zl_23, zl_24, zl_30, zl_32, zl_40, zl_41, zl_43, zl_45, zl_50, zl_52, zl_60, zl_97, zl_99, zl_100, zl_124, zl_126, zl_127, zl_169, zl_170, zl_171, zl_195, zl_200, zl_201, zl_256, zl_261, zl_999, zl_1100, zl_1884, zl_4095, zl_4096, zd1, zd2, zs1, nI_add, pk_mul, zsb, zad1, zad2, zcl, zgI, zif_le, zif_nle, zif_lt, zif_nlt, zif_eq, zif_ne, zif_self, zif_T, zif_F, Nat.zero_add, Nat.add_sub_cancel, zn21, zn31, zif_m1, zif_m1l, zif_m1n, zif_pm, zb1_k, zb2_k, zb3_k, zb4_k, zb5_k, zb6_k, zb7_k, zb8_k, zb9_k, zb10_k, zb11_k, zb12_k, zb14_k, zb21_k, zb22_k, zupd_eq, zupd_ne, zupl_eq, zupl_ne, zupf_eq, zupf_ne, fX5_keepPlan_J73, zft zn3t]
              · rw [fX11_makes_L14_s]
                simp (disch := omega) only [zl_0, zl_1, zl_2, zl_3, zl_4, zl_5, zl_6, zl_8, zl_9, zl_11, zl_12, zl_13, zl_16, zl_20, zl_23, zl_24, zl_30, zl_32, zl_40, zl_41, zl_43, zl_45, zl_50, zl_52, zl_60, zl_97, zl_99, zl_100, zl_124, zl_126, zl_127, zl_169, zl_170, zl_171, zl_195, zl_200, zl_201, zl_256, zl_261, zl_999, zl_1100, zl_1884, zl_4095, zl_4096, zd1, zd2, zs1, nI_add, pk_mul, zsb, zad1, zad2, zcl, zgI, zif_le, zif_nle, zif_lt, zif_nlt, zif_eq, zif_ne, zif_self, zif_T, zif_F, Nat.zero_add, Nat.add_sub_cancel, zn21, zn31, zif_m1, zif_m1l, zif_m1n, zif_pm, zb1_k, zb2_k, zb3_k, zb4_k, zb5_k, zb6_k, zb7_k, zb8_k, zb9_k, zb10_k, zb11_k, zb12_k, zb14_k, zb21_k, zb22_k, zupd_eq, zupd_ne, zupl_eq, zupl_ne, zupf_eq, zupf_ne, List.length_cons, hw1, e1]
                unfold fX11_makes_J116
                simp (disch := omega) only [zl_0, zl_1, zl_2, zl_3, zl_4, zl_5, zl_6, zl_8, zl_9, zl_11, zl_12, zl_13, zl_16, zl_20, zl_23, zl_24, zl_30, zl_32, zl_40, zl_41, zl_43, zl_45, zl_50, zl_52, zl_60, zl_97, zl_99, zl_100, zl_124, zl_126, zl_127, zl_169, zl_170, zl_171, zl_195, zl_200, zl_201, zl_256, zl_261, zl_999, zl_1100, zl_1884, zl_4095, zl_4096, zd1, zd2, zs1, nI_add, pk_mul, zsb, zad1, zad2, zcl, zgI, zif_le, zif_nle, zif_lt, zif_nlt, zif_eq, zif_ne, zif_self, zif_T, zif_F, Nat.zero_add, Nat.add_sub_cancel, zn21, zn31, zif_m1, zif_m1l, zif_m1n, zif_pm, zb1_k, zb2_k, zb3_k, zb4_k, zb5_k, zb6_k, zb7_k, zb8_k, zb9_k, zb10_k, zb11_k, zb12_k, zb14_k, zb21_k, zb22_k, zupd_eq, zupd_ne, zupl_eq, zupl_ne, zupf_eq, zupf_ne, hw1, e2, m1]
                unfold fX11_makes_J213
                simp (disch := omega) only [zl_0, zl_1, zl_2, zl_3, zl_4, zl_5, zl_6, zl_8, zl_9, zl_11, zl_12, zl_13, zl_16, zl_20, zl_23, zl_24, zl_30, zl_32, zl_40, zl_41, zl_43, zl_45, zl_50, zl_52, zl_60, zl_97, zl_99, zl_100, zl_124, zl_126, zl_127, zl_169, zl_170, zl_171, zl_195, zl_200, zl_201, zl_256, zl_261, zl_999, zl_1100, zl_1884, zl_4095, zl_4096, zd1, zd2, zs1, nI_add, pk_mul, zsb, zad1, zad2, zcl, zgI, zif_le, zif_nle, zif_lt, zif_nlt, zif_eq, zif_ne, zif_self, zif_T, zif_F, Nat.zero_add, Nat.add_sub_cancel, zn21, zn31, zif_m1, zif_m1l, zif_m1n, zif_pm, zb1_k, zb2_k, zb3_k, zb4_k, zb5_k, zb6_k, zb7_k, zb8_k, zb9_k, zb10_k, zb11_k, zb12_k, zb14_k, zb21_k, zb22_k, zupd_eq, zupd_ne, zupl_eq, zupl_ne, zupf_eq, zupf_ne, zfn zn3l]
          · exact absurd c1 q
        · have hk0 : zwK o i ≠ 0 := by omega
          have e : zFl (zwK o) (zwFi o) (zwSe o) (.inl i :: r) = zFl (zwK o) (zwFi o) (zwSe o) (.inl (zwFi o i) :: .inl (zwSe o i) :: .inr i :: r) := by
            show zpo (zwK o) (zwFi o) (zwSe o) i ++ zFl (zwK o) (zwFi o) (zwSe o) r = zpo (zwK o) (zwFi o) (zwSe o) (zwFi o i) ++ (zpo (zwK o) (zwFi o) (zwSe o) (zwSe o i) ++ (i :: zFl (zwK o) (zwFi o) (zwSe o) r))
            rw [zpo_1 ac hi hk0]
            simp only [List.append_assoc, List.cons_append, List.nil_append]
          rw [e] at hfu ht ak as ev hlen hev
          obtain ⟨fu', rfl⟩ : ∃ f, fu' = f + 1 := ⟨fu' - 1, by omega⟩
          have p1 := (zwlv_s ho (i := zwFi o i) (by omega)).1
          have p2 := (zwlv_s ho (i := zwSe o i) (by omega)).1
          have hT2 : zTu (zwlv o) (.inl (zwFi o i) :: .inl (zwSe o i) :: .inr i :: r) ≤ T := by
            unfold zTu at hT ⊢
            unfold zTu
            unfold zTu
            omega
          have hl3 := zFl_len ac (.inl (zwFi o i) :: .inl (zwSe o i) :: .inr i :: r) ⟨by omega, by omega, ⟨hi, hk0⟩, hok2⟩
          simp only [List.length_cons] at hl3
          obtain ⟨rr, b, cnt', k', f', s', p', mx', wm', w', mm', now', g1, g2, g3⟩ := ih (.inl (zwFi o i) :: .inl (zwSe o i) :: .inr i :: r) t fu fu' a cnt k f s p now mx mm (upd (upd (upd w r.length (-nI 1 - nI i)) (r.length + 1) (nI (zwSe o i))) (r.length + 2) (nI (zwFi o i))) mk nd hT2 (by omega) hfu ⟨by omega, by omega, ⟨hi, hk0⟩, hok2⟩ ⟨zupd_eq rfl, (zupd_ne (by simp only [List.length_cons]; omega)).trans (zupd_eq rfl), (zupd_ne (by omega)).trans ((zupd_ne (by omega)).trans (zupd_eq rfl)), zSi_fr hw2 (fun t ht => by rw [zupd_ne (by omega), zupd_ne (by omega), zupd_ne (by omega)])⟩ ht ak as ev hv hB hx hm hmk kx km
          refine ⟨rr, b, cnt', k', f', s', p', mx', wm', w', mm', now', g1, ?_, g3⟩
          simp only [List.length_cons] at g2
          rw [fX11_makes_L14_s]
          simp (disch := omega) only [zl_0, zl_1, zl_2, zl_3, zl_4, zl_5, zl_6, zl_8, zl_9, zl_11, zl_12, zl_13, zl_16, zl_20, zl_23, zl_24, zl_30, zl_32, zl_40, zl_41, zl_43, zl_45, zl_50, zl_52, zl_60, zl_97, zl_99, zl_100, zl_124, zl_126, zl_127, zl_169, zl_170, zl_171, zl_195, zl_200, zl_201, zl_256, zl_261, zl_999, zl_1100, zl_1884, zl_4095, zl_4096, zd1, zd2, zs1, nI_add, pk_mul, zsb, zad1, zad2, zcl, zgI, zif_le, zif_nle, zif_lt, zif_nlt, zif_eq, zif_ne, zif_self, zif_T, zif_F, Nat.zero_add, Nat.add_sub_cancel, zn21, zn31, zif_m1, zif_m1l, zif_m1n, zif_pm, zb1_k, zb2_k, zb3_k, zb4_k, zb5_k, zb6_k, zb7_k, zb8_k, zb9_k, zb10_k, zb11_k, zb12_k, zb14_k, zb21_k, zb22_k, zupd_eq, zupd_ne, zupl_eq, zupl_ne, zupf_eq, zupf_ne, List.length_cons, hw1, e1, e2, e3]
          unfold fX11_makes_J213
          simp (disch := omega) only [zl_0, zl_1, zl_2, zl_3, zl_4, zl_5, zl_6, zl_8, zl_9, zl_11, zl_12, zl_13, zl_16, zl_20, zl_23, zl_24, zl_30, zl_32, zl_40, zl_41, zl_43, zl_45, zl_50, zl_52, zl_60, zl_97, zl_99, zl_100, zl_124, zl_126, zl_127, zl_169, zl_170, zl_171, zl_195, zl_200, zl_201, zl_256, zl_261, zl_999, zl_1100, zl_1884, zl_4095, zl_4096, zd1, zd2, zs1, nI_add, pk_mul, zsb, zad1, zad2, zcl, zgI, zif_le, zif_nle, zif_lt, zif_nlt, zif_eq, zif_ne, zif_self, zif_T, zif_F, Nat.zero_add, Nat.add_sub_cancel, zn21, zn31, zif_m1, zif_m1l, zif_m1n, zif_pm, zb1_k, zb2_k, zb3_k, zb4_k, zb5_k, zb6_k, zb7_k, zb8_k, zb9_k, zb10_k, zb11_k, zb12_k, zb14_k, zb21_k, zb22_k, zupd_eq, zupd_ne, zupl_eq, zupl_ne, zupf_eq, zupf_ne]
          exact g2
      | inr i =>
        obtain ⟨⟨hi, hk0⟩, hok2⟩ := hok
        obtain ⟨hw1, hw2⟩ := hw
        have hw1 : w r.length = -nI 1 - nI i := hw1
        have e1 := hh i hi
        have e : zFl (zwK o) (zwFi o) (zwSe o) (.inr i :: r) = i :: zFl (zwK o) (zwFi o) (zwSe o) r := rfl
        rw [e] at hfu ht ak as ev hlen hev
        simp only [List.length_cons] at hfu ht hlen hev
        obtain ⟨fu, rfl⟩ : ∃ f, fu = f + 1 := ⟨fu - 1, by omega⟩
        obtain ⟨fu', rfl⟩ : ∃ f, fu' = f + 1 := ⟨fu' - 1, by omega⟩
        rcases ev with ⟨q, _⟩ | ⟨_, nt, en, ev⟩
        · exact absurd q hk0
        · subst en
          obtain ⟨t1, t3⟩ := ak
          obtain ⟨t2, t4⟩ := as
          have t1 : kind t = nI (zwK o i) := t1
          rcases zwK_c ho (i := i) (by omega) with ⟨c1, _⟩ | ⟨c1, c2, c3, c4⟩
          · exact absurd c1 hk0
          have lv4 := (zwlv_s ho (i := i) (by omega)).2.1
          cases mk with
          | nil => exact hmk.elim
          | cons x mk =>
          cases mk with
          | nil => exact hmk.2.elim
          | cons y m =>
          obtain ⟨⟨hix, px⟩, ⟨hiy, py⟩, hmk⟩ := hmk
          simp only [List.length_cons] at hml hev ⊢
          obtain ⟨kx1, kx2, kx3⟩ := kx
          obtain ⟨km1, km2, km3⟩ := km
          rw [List.length_cons] at kx1 km1
          unfold zTu at hT
          have hnew : zNew a (zwK o i) y x (aP a y + aP a x) := Or.inr ⟨c1, hiy, hix, rfl, by omega⟩
          obtain ⟨cnt1, k1', f1, s1, p1, x1, x2⟩ := fx_keepJoin (kk := zwK o i) hv hx c1 hiy hix (by omega)
          obtain ⟨now1, m1, m2⟩ := fm_kept hv hm hnew
          obtain ⟨v1, v2⟩ := zKp_V hv hnew
          obtain ⟨o1, o2, o3⟩ := zKp_old hv hnew
          have py' := fm_partsOf hm (i := y) (by omega)
          have px' := fm_partsOf hm (i := x) (by omega)
          generalize hK : zKp a (zwK o i) y x (aP a y + aP a x) = Z at *
          have v8 := v1.2.1
          have n1 : (-nI 1 - nI i) < nI 0 := zmk_lt (by omega)
          have kz : ¬ nI (zwK o i) = nI 0 := fun e => hk0 ((nI_eq (by omega) (by omega)).mp e)
          rcases o3 with ⟨j, q1, q2, q3⟩ | q1
          · rw [q1] at x1 m1
            obtain ⟨rr, b, cnt', k', f', s', p', mx', wm', w', mm', now', g1, g2, g3, g4, g5⟩ := ih r (t + 1) fu fu' Z.2 cnt1 k1' f1 s1 p1 now1 (upd mx m.length (nI j)) (upd mm m.length (nI j)) w (j :: m) (i :: nt) (by omega) (by omega) (by omega) hok2 hw2 (by omega) t3 t4 ev v1 (fun s hs => (v2 s (by omega)).trans (hB s hs)) x2 m2 ⟨⟨q2, by omega⟩, zwMk_u o2 o1 m nt hmk⟩ ⟨by rw [zupd_eq rfl], zSk_up m (Nat.le_refl _) kx3⟩ ⟨by rw [zupd_eq rfl], zSk_up m (Nat.le_refl _) km3⟩
            rw [List.length_cons] at g1 g2
            refine ⟨rr, b, cnt', k', f', s', p', mx', wm', w', mm', now', ?_, ?_, g3, zFf_tr v2 g4, g5⟩
            · rw [fX5_keepPlan_L4_s]
              simp (disch := omega) only [zl_0, zl_1, zl_2, zl_3, zl_4, zl_5, zl_6, zl_8, zl_9, zl_11, zl_12, zl_13, zl_16, zl_20, zl_23, zl_24, zl_30, zl_32, zl_40, zl_41, zl_43, zl_45, zl_50, zl_52, zl_60, zl_97, zl_99, zl_100, zl_124, zl_126, zl_127, zl_169, zl_170, zl_171, zl_195, zl_200, zl_201, zl_256, zl_261, zl_999, zl_1100, zl_1884, zl_4095, zl_4096, zd1, zd2, zs1, nI_add, pk_mul, zsb, zad1, zad2, zcl, zgI, zif_le, zif_nle, zif_lt, zif_nlt, zif_eq, zif_ne, zif_self, zif_T, zif_F, Nat.zero_add, Nat.add_sub_cancel, zn21, zn31, zif_m1, zif_m1l, zif_m1n, zif_pm, zb1_k, zb2_k, zb3_k, zb4_k, zb5_k, zb6_k, zb7_k, zb8_k, zb9_k, zb10_k, zb11_k, zb12_k, zb14_k, zb21_k, zb22_k, zupd_eq, zupd_ne, zupl_eq, zupl_ne, zupf_eq, zupf_ne, t1, zfn kz, kx1, kx2, x1]
              simp (disch := omega) only [zl_0, zl_1, zl_2, zl_3, zl_4, zl_5, zl_6, zl_8, zl_9, zl_11, zl_12, zl_13, zl_16, zl_20, zl_23, zl_24, zl_30, zl_32, zl_40, zl_41, zl_43, zl_45, zl_50, zl_52, zl_60, zl_97, zl_99, zl_100, zl_124, zl_126, zl_127, zl_169, zl_170, zl_171, zl_195, zl_200, zl_201, zl_256, zl_261, zl_999, zl_1100, zl_1884, zl_4095, zl_4096, zd1, zd2, zs1, nI_add, pk_mul, zsb, zad1, zad2, zcl, zgI, zif_le, zif_nle, zif_lt, zif_nlt, zif_eq, zif_ne, zif_self, zif_T, zif_F, Nat.zero_add, Nat.add_sub_cancel, zn21, zn31, zif_m1, zif_m1l, zif_m1n, zif_pm, zb1_k, zb2_k, zb3_k, zb4_k, zb5_k, zb6_k, zb7_k, zb8_k, zb9_k, zb10_k, zb11_k, zb12_k, zb14_k, zb21_k, zb22_k, zupd_eq, zupd_ne, zupl_eq, zupl_ne, zupf_eq, zupf_ne, fX5_keepPlan_J73]
              exact g1
            · rw [fX11_makes_L14_s]
              simp (disch := omega) only [zl_0, zl_1, zl_2, zl_3, zl_4, zl_5, zl_6, zl_8, zl_9, zl_11, zl_12, zl_13, zl_16, zl_20, zl_23, zl_24, zl_30, zl_32, zl_40, zl_41, zl_43, zl_45, zl_50, zl_52, zl_60, zl_97, zl_99, zl_100, zl_124, zl_126, zl_127, zl_169, zl_170, zl_171, zl_195, zl_200, zl_201, zl_256, zl_261, zl_999, zl_1100, zl_1884, zl_4095, zl_4096, zd1, zd2, zs1, nI_add, pk_mul, zsb, zad1, zad2, zcl, zgI, zif_le, zif_nle, zif_lt, zif_nlt, zif_eq, zif_ne, zif_self, zif_T, zif_F, Nat.zero_add, Nat.add_sub_cancel, zn21, zn31, zif_m1, zif_m1l, zif_m1n, zif_pm, zb1_k, zb2_k, zb3_k, zb4_k, zb5_k, zb6_k, zb7_k, zb8_k, zb9_k, zb10_k, zb11_k, zb12_k, zb14_k, zb21_k, zb22_k, zupd_eq, zupd_ne, zupl_eq, zupl_ne, zupf_eq, zupf_ne, hw1, zft n1]
              unfold fX11_makes_J116
              simp (disch := omega) only [zl_0, zl_1, zl_2, zl_3, zl_4, zl_5, zl_6, zl_8, zl_9, zl_11, zl_12, zl_13, zl_16, zl_20, zl_23, zl_24, zl_30, zl_32, zl_40, zl_41, zl_43, zl_45, zl_50, zl_52, zl_60, zl_97, zl_99, zl_100, zl_124, zl_126, zl_127, zl_169, zl_170, zl_171, zl_195, zl_200, zl_201, zl_256, zl_261, zl_999, zl_1100, zl_1884, zl_4095, zl_4096, zd1, zd2, zs1, nI_add, pk_mul, zsb, zad1, zad2, zcl, zgI, zif_le, zif_nle, zif_lt, zif_nlt, zif_eq, zif_ne, zif_self, zif_T, zif_F, Nat.zero_add, Nat.add_sub_cancel, zn21, zn31, zif_m1, zif_m1l, zif_m1n, zif_pm, zb1_k, zb2_k, zb3_k, zb4_k, zb5_k, zb6_k, zb7_k, zb8_k, zb9_k, zb10_k, zb11_k, zb12_k, zb14_k, zb21_k, zb22_k, zupd_eq, zupd_ne, zupl_eq, zupl_ne, zupf_eq, zupf_ne, hw1, zft n1, zmk_bk, e1, km1, km2, py', px', m1]
              unfold fX11_makes_J213
              simp (disch := omega) only [zl_0, zl_1, zl_2, zl_3, zl_4, zl_5, zl_6, zl_8, zl_9, zl_11, zl_12, zl_13, zl_16, zl_20, zl_23, zl_24, zl_30, zl_32, zl_40, zl_41, zl_43, zl_45, zl_50, zl_52, zl_60, zl_97, zl_99, zl_100, zl_124, zl_126, zl_127, zl_169, zl_170, zl_171, zl_195, zl_200, zl_201, zl_256, zl_261, zl_999, zl_1100, zl_1884, zl_4095, zl_4096, zd1, zd2, zs1, nI_add, pk_mul, zsb, zad1, zad2, zcl, zgI, zif_le, zif_nle, zif_lt, zif_nlt, zif_eq, zif_ne, zif_self, zif_T, zif_F, Nat.zero_add, Nat.add_sub_cancel, zn21, zn31, zif_m1, zif_m1l, zif_m1n, zif_pm, zb1_k, zb2_k, zb3_k, zb4_k, zb5_k, zb6_k, zb7_k, zb8_k, zb9_k, zb10_k, zb11_k, zb12_k, zb14_k, zb21_k, zb22_k, zupd_eq, zupd_ne, zupl_eq, zupl_ne, zupf_eq, zupf_ne]
              exact g2
          · rw [q1] at x1 m1
            refine ⟨-nI 3, Z.2, cnt1, k1', f1, s1, p1, mx, nI r.length, w, upd mm m.length (-nI 3), now1, ?_, ?_, v1, v2, x2, m2⟩
            · rw [fX5_keepPlan_L4_s]
              simp (disch := omega) only [zl_0, zl_1, zl_2, zl_3, zl_4, zl_5, zl_6, zl_8, zl_9, zl_11, zl_12, zl_13, zl_16, zl_20, zl_23, zl_24, zl_30, zl_32, zl_40, zl_41, zl_43, zl_45, zl_50, zl_52, zl_60, zl_97, zl_99, zl_100, zl_124, zl_126, zl_127, zl_169, zl_170, zl_171, zl_195, zl_200, zl_201, zl_256, zl_261, zl_999, zl_1100, zl_1884, zl_4095, zl_4096, zd1, zd2, zs1, nI_add, pk_mul, zsb, zad1, zad2, zcl, zgI, zif_le, zif_nle, zif_lt, zif_nlt, zif_eq, zif_ne, zif_self, zif_T, zif_F, Nat.zero_add, Nat.add_sub_cancel, zn21, zn31, zif_m1, zif_m1l, zif_m1n, zif_pm, zb1_k, zb2_k, zb3_k, zb4_k, zb5_k, zb6_k, zb7_k, zb8_k, zb9_k, zb10_k, zb11_k, zb12_k, zb14_k, zb21_k, zb22_k, zupd_eq, zupd_ne, zupl_eq, zupl_ne, zupf_eq, zupf_ne, t1, zfn kz, kx1, kx2, x1]
              simp (disch := omega) only [zl_0, zl_1, zl_2, zl_3, zl_4, zl_5, zl_6, zl_8, zl_9, zl_11, zl_12, zl_13, zl_16, zl_20, zl_23, zl_24, zl_30, zl_32, zl_40, zl_41, zl_43, zl_45, zl_50, zl_52, zl_60, zl_97, zl_99, zl_100, zl_124, zl_126, zl_127, zl_169, zl_170, zl_171, zl_195, zl_200, zl_201, zl_256, zl_261, zl_999, zl_1100, zl_1884, zl_4095, zl_4096, zd1, zd2, zs1, nI_add, pk_mul, zsb, zad1, zad2, zcl, zgI, zif_le, zif_nle, zif_lt, zif_nlt, zif_eq, zif_ne, zif_self, zif_T, zif_F, Nat.zero_add, Nat.add_sub_cancel, zn21, zn31, zif_m1, zif_m1l, zif_m1n, zif_pm, zb1_k, zb2_k, zb3_k, zb4_k, zb5_k, zb6_k, zb7_k, zb8_k, zb9_k, zb10_k, zb11_k, zb12_k, zb14_k, zb21_k, zb22_k, zupd_eq, zupd_ne, zupl_eq, zupl_ne, zupf_eq, zupf_ne, fX5_keepPlan_J73, zft zn3t]
            · rw [fX11_makes_L14_s]
              simp (disch := omega) only [zl_0, zl_1, zl_2, zl_3, zl_4, zl_5, zl_6, zl_8, zl_9, zl_11, zl_12, zl_13, zl_16, zl_20, zl_23, zl_24, zl_30, zl_32, zl_40, zl_41, zl_43, zl_45, zl_50, zl_52, zl_60, zl_97, zl_99, zl_100, zl_124, zl_126, zl_127, zl_169, zl_170, zl_171, zl_195, zl_200, zl_201, zl_256, zl_261, zl_999, zl_1100, zl_1884, zl_4095, zl_4096, zd1, zd2, zs1, nI_add, pk_mul, zsb, zad1, zad2, zcl, zgI, zif_le, zif_nle, zif_lt, zif_nlt, zif_eq, zif_ne, zif_self, zif_T, zif_F, Nat.zero_add, Nat.add_sub_cancel, zn21, zn31, zif_m1, zif_m1l, zif_m1n, zif_pm, zb1_k, zb2_k, zb3_k, zb4_k, zb5_k, zb6_k, zb7_k, zb8_k, zb9_k, zb10_k, zb11_k, zb12_k, zb14_k, zb21_k, zb22_k, zupd_eq, zupd_ne, zupl_eq, zupl_ne, zupf_eq, zupf_ne, hw1, zft n1]
              unfold fX11_makes_J116
              simp (disch := omega) only [zl_0, zl_1, zl_2, zl_3, zl_4, zl_5, zl_6, zl_8, zl_9, zl_11, zl_12, zl_13, zl_16, zl_20, zl_23, zl_24, zl_30, zl_32, zl_40, zl_41, zl_43, zl_45, zl_50, zl_52, zl_60, zl_97, zl_99, zl_100, zl_124, zl_126, zl_127, zl_169, zl_170, zl_171, zl_195, zl_200, zl_201, zl_256, zl_261, zl_999, zl_1100, zl_1884, zl_4095, zl_4096, zd1, zd2, zs1, nI_add, pk_mul, zsb, zad1, zad2, zcl, zgI, zif_le, zif_nle, zif_lt, zif_nlt, zif_eq, zif_ne, zif_self, zif_T, zif_F, Nat.zero_add, Nat.add_sub_cancel, zn21, zn31, zif_m1, zif_m1l, zif_m1n, zif_pm, zb1_k, zb2_k, zb3_k, zb4_k, zb5_k, zb6_k, zb7_k, zb8_k, zb9_k, zb10_k, zb11_k, zb12_k, zb14_k, zb21_k, zb22_k, zupd_eq, zupd_ne, zupl_eq, zupl_ne, zupf_eq, zupf_ne, hw1, zft n1, zmk_bk, e1, km1, km2, py', px', m1]
              unfold fX11_makes_J213
              simp (disch := omega) only [zl_0, zl_1, zl_2, zl_3, zl_4, zl_5, zl_6, zl_8, zl_9, zl_11, zl_12, zl_13, zl_16, zl_20, zl_23, zl_24, zl_30, zl_32, zl_40, zl_41, zl_43, zl_45, zl_50, zl_52, zl_60, zl_97, zl_99, zl_100, zl_124, zl_126, zl_127, zl_169, zl_170, zl_171, zl_195, zl_200, zl_201, zl_256, zl_261, zl_999, zl_1100, zl_1884, zl_4095, zl_4096, zd1, zd2, zs1, nI_add, pk_mul, zsb, zad1, zad2, zcl, zgI, zif_le, zif_nle, zif_lt, zif_nlt, zif_eq, zif_ne, zif_self, zif_T, zif_F, Nat.zero_add, Nat.add_sub_cancel, zn21, zn31, zif_m1, zif_m1l, zif_m1n, zif_pm, zb1_k, zb2_k, zb3_k, zb4_k, zb5_k, zb6_k, zb7_k, zb8_k, zb9_k, zb10_k, zb11_k, zb12_k, zb14_k, zb21_k, zb22_k, zupd_eq, zupd_ne, zupl_eq, zupl_ne, zupf_eq, zupf_ne, zfn zn3l]
