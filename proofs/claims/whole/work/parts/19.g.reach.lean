/-! the call reach -/
theorem zwAr_i {w : Nat → Int32} : ∀ (L : List Nat) (o i x : Nat), zAr w nI o L → L[i]? = some x → w (o + i) = nI x
  | [], _, _, _, _, h => by cases h
  | a :: L, o, 0, x, k, h => by
    have e : a = x := Option.some.inj h
    subst e
    exact k.1
  | a :: L, o, i + 1, x, k, h => by
    have h : L[i]? = some x := h
    have := zwAr_i L (o + 1) i x k.2 h
    rw [show o + (i + 1) = o + 1 + i by omega]
    exact this
theorem fx_isLessR {o : Nat → Nat} {m x y : Nat} {lv : Int32} {st ab be kd fi se : Nat → Int32} (ho : ∀ s, s < 4 → o s ≤ 99) (hm : m ≤ 4) (h : zwQx o m lv st ab be kd fi se) (hx : x < zwb o (m + 1)) (hy : y < zwb o (m + 1)) : fX7_isLess (nI x) (nI y) ab be = some (if zwls o x y = true then nI 1 else nI 0) := by
  have b5 := zwb_le ho (k := m + 1) (by omega) (by omega)
  obtain ⟨e1, f1, w1, b1⟩ := zwls_v ho (i := x) (by omega)
  obtain ⟨e2, f2, w2, b2⟩ := zwls_v ho (i := y) (by omega)
  obtain ⟨r1, r2, _⟩ := h.2.2 x e1 hx f1
  obtain ⟨s1, s2, _⟩ := h.2.2 y e2 hy f2
  obtain ⟨p1, p2, p3, p4, _⟩ := b1
  obtain ⟨q1, q2, q3, q4, _⟩ := b2
  have m1 := Nat.mul_le_mul p2 q4
  have m2 := Nat.mul_le_mul q2 p4
  unfold fX7_isLess zwls
  rw [w1, w2]
  by_cases c : e1.1.1 * e2.1.2 < e2.1.1 * e1.1.2
  · rw [decide_eq_true c, if_pos rfl]
    simp (disch := omega) only [zl_0, zl_1, zl_2, zl_3, zl_4, zl_5, zl_6, zl_8, zl_9, zl_11, zl_12, zl_13, zl_16, zl_20, zl_23, zl_24, zl_30, zl_32, zl_40, zl_41, zl_43, zl_45, zl_50, zl_52, zl_60, zl_97, zl_99, zl_100, zl_124, zl_126, zl_127, zl_169, zl_170, zl_171, zl_195, zl_200, zl_201, zl_256, zl_261, zl_999, zl_1100, zl_1884, zl_4095, zl_4096, zd1, zd2, zs1, nI_add, pk_mul, zsb, zad1, zad2, zcl, zgI, zif_le, zif_nle, zif_lt, zif_nlt, zif_eq, zif_ne, zif_self, zif_T, zif_F, Nat.zero_add, Nat.add_sub_cancel, zn21, zn31, zif_m1, zif_m1l, zif_m1n, zif_pm, zb1_k, zb2_k, zb3_k, zb4_k, zb5_k, zb6_k, zb7_k, zb8_k, zb9_k, zb10_k, zb11_k, zb12_k, zb14_k, zb21_k, zb22_k, zupd_eq, zupd_ne, zupl_eq, zupl_ne, zupf_eq, zupf_ne, r1, r2, s1, s2, zi2l, zL_mul, zjf_nle]
  · rw [decide_eq_false c, if_neg Bool.false_ne_true]
    simp (disch := omega) only [zl_0, zl_1, zl_2, zl_3, zl_4, zl_5, zl_6, zl_8, zl_9, zl_11, zl_12, zl_13, zl_16, zl_20, zl_23, zl_24, zl_30, zl_32, zl_40, zl_41, zl_43, zl_45, zl_50, zl_52, zl_60, zl_97, zl_99, zl_100, zl_124, zl_126, zl_127, zl_169, zl_170, zl_171, zl_195, zl_200, zl_201, zl_256, zl_261, zl_999, zl_1100, zl_1884, zl_4095, zl_4096, zd1, zd2, zs1, nI_add, pk_mul, zsb, zad1, zad2, zcl, zgI, zif_le, zif_nle, zif_lt, zif_nlt, zif_eq, zif_ne, zif_self, zif_T, zif_F, Nat.zero_add, Nat.add_sub_cancel, zn21, zn31, zif_m1, zif_m1l, zif_m1n, zif_pm, zb1_k, zb2_k, zb3_k, zb4_k, zb5_k, zb6_k, zb7_k, zb8_k, zb9_k, zb10_k, zb11_k, zb12_k, zb14_k, zb21_k, zb22_k, zupd_eq, zupd_ne, zupl_eq, zupl_ne, zupf_eq, zupf_ne, r1, r2, s1, s2, zi2l, zL_mul, zjf_le]
theorem fm_isLessR {o : Nat → Nat} {n x y : Nat} {many : Int32} {bg : Nat → Int32} {up dn : Nat → Int64} {how fst snd : Nat → Int32} (ho : ∀ s, s < 4 → o s ≤ 99) (hn : n ≤ 4) (h : zwQm o n many bg up dn how fst snd) (hx : x < zwb o (n + 1)) (hy : y < zwb o (n + 1)) : fX11_isLess (up x) (dn x) (up y) (dn y) = some (if zwls o x y = true then nI 1 else nI 0) := by
  have b5 := zwb_le ho (k := n + 1) (by omega) (by omega)
  obtain ⟨e1, f1, w1, b1⟩ := zwls_v ho (i := x) (by omega)
  obtain ⟨e2, f2, w2, b2⟩ := zwls_v ho (i := y) (by omega)
  obtain ⟨r1, r2, _⟩ := h.2.2 x e1 hx f1
  obtain ⟨s1, s2, _⟩ := h.2.2 y e2 hy f2
  obtain ⟨p1, p2, p3, p4, _⟩ := b1
  obtain ⟨q1, q2, q3, q4, _⟩ := b2
  rw [r1, r2, s1, s2, fm_less ⟨by omega, by omega, Or.inl p1⟩ ⟨by omega, by omega, Or.inl q1⟩]
  unfold zwls
  rw [w1, w2]
  by_cases c : e1.1.1 * e2.1.2 < e2.1.1 * e1.1.2
  · rw [if_pos c, decide_eq_true c, if_pos rfl]
  · rw [if_neg c, decide_eq_false c, if_neg Bool.false_ne_true]
theorem fx_mergeL {lt : Nat → Nat → Bool} {order ab be : Nat → Int32} {mid high : Nat} (hh : high ≤ 1884) : ∀ (f fu : Nat) (A B : List Nat) (left right i : Nat) (mg : Nat → Int32), A.length + B.length = f → f < fu → left + A.length = mid → right + B.length = high → mid ≤ high → i + f = high → zAr order nI left A → zAr order nI right B → (∀ x y, x ∈ A → y ∈ B → fX7_isLess (nI x) (nI y) ab be = some (if lt x y = true then nI 1 else nI 0)) → ∃ mg', fX7_merge_L9 order ab be (nI mid) (nI high) fu (nI left) (nI right) (nI i) mg = some mg' ∧ zAr mg' nI i (zwm lt f A B) ∧ ∀ t, t < i ∨ high ≤ t → mg' t = mg t := by
  intro f
  induction f with
  | zero =>
    intro fu A B left right i mg hf hfu hA hB hmh hi zA zB hl
    obtain ⟨fu, rfl⟩ : ∃ f, fu = f + 1 := ⟨fu - 1, by omega⟩
    refine ⟨mg, ?_, trivial, fun t _ => rfl⟩
    rw [fX7_merge_L9_s, if_pos (nI_le (by omega) (by omega))]
  | succ f ih =>
    intro fu A B left right i mg hf hfu hA hB hmh hi zA zB hl
    obtain ⟨fu, rfl⟩ : ∃ f, fu = f + 1 := ⟨fu - 1, by omega⟩
    have takeL : ∀ (a : Nat) (A' : List Nat), A = a :: A' → ∃ mg', fX7_merge_J48 order (nI left) (nI right) (nI i) mg (fX7_merge_L9 order ab be (nI mid) (nI high) fu) = some mg' ∧ zAr mg' nI i (a :: zwm lt f A' B) ∧ ∀ t, t < i ∨ high ≤ t → mg' t = mg t := by
      intro a A' eA
      subst eA
      rw [List.length_cons] at hf hA
      have ha : order left = nI a := zA.1
      obtain ⟨mg', g1, g2, g3⟩ := ih fu A' B (left + 1) right (i + 1) (upd mg i (nI a)) (by omega) (by omega) (by omega) hB hmh (by omega) zA.2 zB (fun x y hx hy => hl x y (List.mem_cons_of_mem _ hx) hy)
      refine ⟨mg', ?_, ⟨by rw [g3 i (Or.inl (by omega)), zupd_eq rfl], g2⟩, fun t ht => by rw [g3 t (by omega), zupd_ne (by omega)]⟩
      unfold fX7_merge_J48
      simp (disch := omega) only [zl_0, zl_1, zl_2, zl_3, zl_4, zl_5, zl_6, zl_8, zl_9, zl_11, zl_12, zl_13, zl_16, zl_20, zl_23, zl_24, zl_30, zl_32, zl_40, zl_41, zl_43, zl_45, zl_50, zl_52, zl_60, zl_97, zl_99, zl_100, zl_124, zl_126, zl_127, zl_169, zl_170, zl_171, zl_195, zl_200, zl_201, zl_256, zl_261, zl_999, zl_1100, zl_1884, zl_4095, zl_4096, zd1, zd2, zs1, nI_add, pk_mul, zsb, zad1, zad2, zcl, zgI, zif_le, zif_nle, zif_lt, zif_nlt, zif_eq, zif_ne, zif_self, zif_T, zif_F, Nat.zero_add, Nat.add_sub_cancel, zn21, zn31, zif_m1, zif_m1l, zif_m1n, zif_pm, zb1_k, zb2_k, zb3_k, zb4_k, zb5_k, zb6_k, zb7_k, zb8_k, zb9_k, zb10_k, zb11_k, zb12_k, zb14_k, zb21_k, zb22_k, zupd_eq, zupd_ne, zupl_eq, zupl_ne, zupf_eq, zupf_ne, ha, g1]
    have takeR : ∀ (b : Nat) (B' : List Nat), B = b :: B' → ∃ mg', fX7_merge_J68 order (nI left) (nI right) (nI i) mg (fX7_merge_L9 order ab be (nI mid) (nI high) fu) = some mg' ∧ zAr mg' nI i (b :: zwm lt f A B') ∧ ∀ t, t < i ∨ high ≤ t → mg' t = mg t := by
      intro b B' eB
      subst eB
      rw [List.length_cons] at hf hB
      have hb : order right = nI b := zB.1
      obtain ⟨mg', g1, g2, g3⟩ := ih fu A B' left (right + 1) (i + 1) (upd mg i (nI b)) (by omega) (by omega) hA (by omega) hmh (by omega) zA zB.2 (fun x y hx hy => hl x y hx (List.mem_cons_of_mem _ hy))
      refine ⟨mg', ?_, ⟨by rw [g3 i (Or.inl (by omega)), zupd_eq rfl], g2⟩, fun t ht => by rw [g3 t (by omega), zupd_ne (by omega)]⟩
      unfold fX7_merge_J68
      simp (disch := omega) only [zl_0, zl_1, zl_2, zl_3, zl_4, zl_5, zl_6, zl_8, zl_9, zl_11, zl_12, zl_13, zl_16, zl_20, zl_23, zl_24, zl_30, zl_32, zl_40, zl_41, zl_43, zl_45, zl_50, zl_52, zl_60, zl_97, zl_99, zl_100, zl_124, zl_126, zl_127, zl_169, zl_170, zl_171, zl_195, zl_200, zl_201, zl_256, zl_261, zl_999, zl_1100, zl_1884, zl_4095, zl_4096, zd1, zd2, zs1, nI_add, pk_mul, zsb, zad1, zad2, zcl, zgI, zif_le, zif_nle, zif_lt, zif_nlt, zif_eq, zif_ne, zif_self, zif_T, zif_F, Nat.zero_add, Nat.add_sub_cancel, zn21, zn31, zif_m1, zif_m1l, zif_m1n, zif_pm, zb1_k, zb2_k, zb3_k, zb4_k, zb5_k, zb6_k, zb7_k, zb8_k, zb9_k, zb10_k, zb11_k, zb12_k, zb14_k, zb21_k, zb22_k, zupd_eq, zupd_ne, zupl_eq, zupl_ne, zupf_eq, zupf_ne, hb, g1]
    rw [fX7_merge_L9_s, if_neg (nI_ge (by omega) (by omega))]
    cases B with
    | nil =>
      rw [List.length_nil] at hf hB
      cases A with
      | nil => rw [List.length_nil] at hf; omega
      | cons a A' =>
        obtain ⟨mg', g1, g2, g3⟩ := takeL a A' rfl
        exact ⟨mg', by rw [if_pos (nI_le (by omega) (by omega))]; exact g1, g2, g3⟩
    | cons b B' =>
      cases A with
      | nil =>
        rw [List.length_nil] at hf hA
        obtain ⟨mg', g1, g2, g3⟩ := takeR b B' rfl
        rw [List.length_cons] at hB
        exact ⟨mg', by rw [if_neg (nI_ge (by omega) (by omega)), if_pos (nI_le (by omega) (by omega))]; exact g1, g2, g3⟩
      | cons a A' =>
        have hls := hl a b List.mem_cons_self List.mem_cons_self
        have ha : order left = nI a := zA.1
        have hb : order right = nI b := zB.1
        have hlA : (a :: A').length = A'.length + 1 := List.length_cons
        have hlB : (b :: B').length = B'.length + 1 := List.length_cons
        rw [if_neg (nI_ge (by omega) (by omega)), if_neg (nI_ge (by omega) (by omega)), zgI (by omega) (by omega), zgI (by omega) (by omega), zcl (by omega), zcl (by omega), ha, hb, hls, zb1_k]
        by_cases c : lt a b = true
        · obtain ⟨mg', g1, g2, g3⟩ := takeL a A' rfl
          refine ⟨mg', ?_, ?_, g3⟩
          · rw [if_pos c, zl_0, if_neg (show ¬ nI 1 = nI 0 by decide)]
            exact g1
          · show zAr mg' nI i (if lt a b = true then a :: zwm lt f A' (b :: B') else b :: zwm lt f (a :: A') B')
            rw [if_pos c]
            exact g2
        · obtain ⟨mg', g1, g2, g3⟩ := takeR b B' rfl
          refine ⟨mg', ?_, ?_, g3⟩
          · rw [if_neg c, zl_0, if_pos rfl]
            exact g1
          · show zAr mg' nI i (if lt a b = true then a :: zwm lt f A' (b :: B') else b :: zwm lt f (a :: A') B')
            rw [if_neg c]
            exact g2
theorem zwmin {hi x y : Nat} (h1 : hi ≤ 1884) (h2 : x ≤ 1000000) (hy : y = min hi x) : (if nI hi < nI x then nI hi else nI x) = nI y := by
  by_cases c : hi < x
  · rw [if_pos (nI_lt c (by omega)), hy, Nat.min_eq_left (by omega)]
  · rw [if_neg (nI_nlt (by omega) (by omega)), hy, Nat.min_eq_right (by omega)]
theorem fx_passL {lt : Nat → Nat → Bool} {V : Nat → Prop} {order ab be : Nat → Int32} {w hi : Nat} (K : (Nat → Int32) → Option ((Nat → Int32) × (Nat → Int32))) (h1 : hi ≤ 1884) (hw : 1 ≤ w) (hw2 : w ≤ 4096) (hl : ∀ x y, V x → V y → fX7_isLess (nI x) (nI y) ab be = some (if lt x y = true then nI 1 else nI 0)) : ∀ (f fu low : Nat) (L : List Nat) (mg : Nat → Int32), L.length ≤ f → f < fu → (L ≠ [] → low + L.length = hi) → (L = [] → hi ≤ low ∧ low ≤ 20000) → zAr order nI low L → (∀ x, x ∈ L → V x) → ∃ mg', fX7_putInOrder_L32 K ab be (nI hi) (nI w) order fu (nI low) mg = K mg' ∧ zAr mg' nI low (zwps lt w f L) ∧ ∀ t, t < low ∨ hi ≤ t → mg' t = mg t := by
  intro f
  induction f with
  | zero =>
    intro fu low L mg hf hfu ha hb hz hV
    obtain ⟨fu, rfl⟩ : ∃ f, fu = f + 1 := ⟨fu - 1, by omega⟩
    have e : L = [] := List.eq_nil_of_length_eq_zero (by omega)
    have := hb e
    refine ⟨mg, ?_, trivial, fun t _ => rfl⟩
    rw [fX7_putInOrder_L32_s, if_pos (nI_le (by omega) (by omega))]
  | succ f ih =>
    intro fu low L mg hf hfu ha hb hz hV
    obtain ⟨fu, rfl⟩ : ∃ f, fu = f + 1 := ⟨fu - 1, by omega⟩
    by_cases c : L = []
    · have := hb c
      subst c
      refine ⟨mg, ?_, by rw [zwps_n]; exact trivial, fun t _ => rfl⟩
      rw [fX7_putInOrder_L32_s, if_pos (nI_le (by omega) (by omega))]
    · have ha := ha c
      have hp : 0 < L.length := List.length_pos_iff.mpr c
      have e : L = L.take w ++ ((L.drop w).take w ++ (L.drop w).drop w) := by rw [List.take_append_drop, List.take_append_drop]
      have z1 : zAr order nI low (L.take w ++ ((L.drop w).take w ++ (L.drop w).drop w)) := by rw [← e]; exact hz
      have zA := zAr_l z1
      have z2 := zAr_r z1
      have zB := zAr_l z2
      have zC := zAr_r z2
      have lA : (L.take w).length = min w L.length := List.length_take
      have lB : ((L.drop w).take w).length = min w (L.length - w) := by rw [List.length_take, List.length_drop]
      have lC : ((L.drop w).drop w).length = L.length - w - w := by rw [List.length_drop, List.length_drop]
      have V1 : ∀ x, x ∈ L.take w → V x := fun x hx => hV x (by rw [e]; exact List.mem_append_left _ hx)
      have V2 : ∀ x, x ∈ (L.drop w).take w → V x := fun x hx => hV x (by rw [e]; exact List.mem_append_right _ (List.mem_append_left _ hx))
      have V3 : ∀ x, x ∈ (L.drop w).drop w → V x := fun x hx => hV x (by rw [e]; exact List.mem_append_right _ (List.mem_append_right _ hx))
      obtain ⟨mg1, g1, g2, g3⟩ := fx_mergeL (lt := lt) (order := order) (ab := ab) (be := be) (mid := low + (L.take w).length) (high := low + (L.take w).length + ((L.drop w).take w).length) (by omega) ((L.take w).length + ((L.drop w).take w).length) 5000 (L.take w) ((L.drop w).take w) low (low + (L.take w).length) low mg rfl (by omega) rfl rfl (by omega) (by omega) zA zB (fun x y hx hy => hl x y (V1 x hx) (V2 y hy))
      have q1 := zwmin (hi := hi) (x := low + w) (y := low + (L.take w).length) h1 (by omega) (by omega)
      have q2 := zwmin (hi := hi) (x := low + 2 * w) (y := low + (L.take w).length + ((L.drop w).take w).length) h1 (by omega) (by omega)
      have zC2 : zAr order nI (low + 2 * w) ((L.drop w).drop w) := by
        by_cases z : 2 * w < L.length
        · rw [show low + 2 * w = low + (L.take w).length + ((L.drop w).take w).length by omega]
          exact zC
        · rw [List.eq_nil_of_length_eq_zero (l := (L.drop w).drop w) (by omega)]
          exact trivial
      obtain ⟨mg', f1, f2, f3⟩ := ih fu (low + 2 * w) ((L.drop w).drop w) mg1 (by omega) (by omega) (fun z => by
        have := List.length_pos_iff.mpr z
        omega) (fun z => by
        have : ((L.drop w).drop w).length = 0 := by rw [z]; rfl
        omega) zC2 V3
      refine ⟨mg', ?_, ?_, fun t ht => by rw [f3 t (by omega), g3 t (by omega)]⟩
      · rw [← f1, fX7_putInOrder_L32_s, if_neg (nI_ge (by omega) (by omega)), zl_2, pk_mul, nI_add, nI_add, q1, q2]
        unfold fX7_merge
        rw [g1, zb1_k]
      · have e0 : zwps lt w (f + 1) L = zwblk lt w L ++ zwps lt w f ((L.drop w).drop w) := if_neg c
        have lb : (zwblk lt w L).length = (L.take w).length + ((L.drop w).take w).length := by
          rw [(zwblk_p lt w L).length_eq, List.length_append]
        rw [e0]
        refine zAr_app ?_ ?_
        · refine zAr_fr (w := mg1) g2 (fun t t1 t2 => f3 t (Or.inl ?_))
          have t2 : t < low + (zwblk lt w L).length := t2
          omega
        · by_cases z : 2 * w < L.length
          · rw [show low + (zwblk lt w L).length = low + 2 * w by omega]
            exact f2
          · rw [List.eq_nil_of_length_eq_zero (l := (L.drop w).drop w) (by omega), zwps_n]
            exact trivial
theorem fx_widthL {lt : Nat → Nat → Bool} {V : Nat → Prop} {ab be : Nat → Int32} {lo n : Nat} {R : List Nat} (h1 : lo + n ≤ 1884) (ht : zwTr lt V) (hR : ∀ x, x ∈ R → V x) (hRn : R.length = n) (hl : ∀ x y, V x → V y → fX7_isLess (nI x) (nI y) ab be = some (if lt x y = true then nI 1 else nI 0)) : ∀ (d fu w : Nat) (L : List Nat) (order mg : Nat → Int32), n - w ≤ d → d < fu → 1 ≤ w → w ≤ 4096 → L.Perm R → zAr order nI lo L → (∀ k, zwSbF lt w k L) → ∃ order' mg', fX7_putInOrder_L22 ab be (nI lo) (nI (lo + n)) fu (nI w) order mg = some (order', mg') ∧ (∃ S : List Nat, zAr order' nI lo S ∧ S.Perm R ∧ zwSo lt S) ∧ ∀ t, t < lo ∨ lo + n ≤ t → order' t = order t := by
  intro d
  induction d with
  | zero =>
    intro fu w L order mg hd hfu hw hw2 hp hz hs
    obtain ⟨fu, rfl⟩ : ∃ f, fu = f + 1 := ⟨fu - 1, by omega⟩
    refine ⟨order, mg, ?_, ⟨L, hz, hp, ?_⟩, fun t _ => rfl⟩
    · rw [fX7_putInOrder_L22_s, pk_sub (by omega), if_pos (nI_le (by omega) (by omega))]
    · have := (hs 1).1
      rw [(zwtl L w (by rw [hp.length_eq]; omega)).1] at this
      exact this
  | succ d ih =>
    intro fu w L order mg hd hfu hw hw2 hp hz hs
    obtain ⟨fu, rfl⟩ : ∃ f, fu = f + 1 := ⟨fu - 1, by omega⟩
    have hLn : L.length = n := by rw [hp.length_eq]; exact hRn
    by_cases c : n ≤ w
    · refine ⟨order, mg, ?_, ⟨L, hz, hp, ?_⟩, fun t _ => rfl⟩
      · rw [fX7_putInOrder_L22_s, pk_sub (by omega), if_pos (nI_le (by omega) (by omega))]
      · have := (hs 1).1
        rw [(zwtl L w (by omega)).1] at this
        exact this
    · have hVL : ∀ x, x ∈ L → V x := fun x hx => hR x (hp.mem_iff.mp hx)
      obtain ⟨mg1, g1, g2, g3⟩ := fx_passL (order := order) (hi := lo + n) (fX7_putInOrder_J73 (nI lo) (nI (lo + n)) (nI w) order (fX7_putInOrder_L22 ab be (nI lo) (nI (lo + n)) fu)) h1 hw hw2 hl n 5000 lo L mg (by omega) (by omega) (fun _ => by omega) (fun z => by subst z; simp only [List.length_nil] at hLn; omega) hz hVL
      have p1 := zwps_p lt hw n L (by omega)
      have pl := p1.length_eq
      obtain ⟨order', mg', f1, f2, f3⟩ := ih fu (2 * w) (zwps lt w n L) (va_cpy mg1 order lo lo n) mg1 (by omega) (by omega) (by omega) (by omega) (p1.trans hp) (zAr_fr (w := mg1) g2 (fun t t1 t2 => by
        have t2 : t < lo + (zwps lt w n L).length := t2
        unfold va_cpy
        rw [if_pos ⟨t1, by omega⟩, show lo + (t - lo) = t by omega])) (fun k => zwps_s ht hw k n L (by omega) hVL hs)
      refine ⟨order', mg', ?_, f2, fun t htt => ?_⟩
      · rw [← f1, fX7_putInOrder_L22_s, pk_sub (by omega), show lo + n - lo = n by omega, if_neg (nI_ge (by omega) (by omega)), g1]
        unfold fX7_putInOrder_J73
        have cond : ¬ nI lo < 0 ∧ ¬ nI lo < 0 ∧ ¬ (nI (lo + n) - nI lo) < 0 ∧ (nI lo).toNatClampNeg + (nI (lo + n) - nI lo).toNatClampNeg ≤ 1884 ∧ (nI lo).toNatClampNeg + (nI (lo + n) - nI lo).toNatClampNeg ≤ 1884 := by
          rw [pk_sub (by omega), show lo + n - lo = n by omega, zcl (by omega), zcl (by omega)]
          exact ⟨nI_pos (by omega), nI_pos (by omega), nI_pos (by omega), by omega, by omega⟩
        rw [zpT cond, pk_sub (by omega), show lo + n - lo = n by omega, zcl (by omega), zcl (by omega), zl_2, pk_mul, Nat.mul_comm w 2]
      · rw [f3 t htt]
        unfold va_cpy
        rw [if_neg (by omega)]
theorem fx_putL {ab be : Nat → Int32} {hi : Nat} (K : (Nat → Int32) → Option ((Nat → Int32) × (Nat → Int32))) (h1 : hi ≤ 1884) : ∀ (d i fu : Nat) (order : Nat → Int32), i + d = hi → d < fu → ∃ order', fX7_putInOrder_L2 K (nI hi) fu (nI i) order = K order' ∧ zAr order' nI i (zwrg i d) ∧ ∀ t, t < i ∨ hi ≤ t → order' t = order t := by
  intro d
  induction d with
  | zero =>
    intro i fu order hd hfu
    obtain ⟨fu, rfl⟩ : ∃ f, fu = f + 1 := ⟨fu - 1, by omega⟩
    refine ⟨order, ?_, trivial, fun t _ => rfl⟩
    rw [fX7_putInOrder_L2_s, if_pos (nI_le (by omega) (by omega))]
  | succ d ih =>
    intro i fu order hd hfu
    obtain ⟨fu, rfl⟩ : ∃ f, fu = f + 1 := ⟨fu - 1, by omega⟩
    obtain ⟨order', g1, g2, g3⟩ := ih (i + 1) fu (upd order i (nI i)) (by omega) (by omega)
    refine ⟨order', ?_, ⟨by rw [g3 i (Or.inl (by omega)), zupd_eq rfl], g2⟩, fun t ht => by rw [g3 t (by omega), zupd_ne (by omega)]⟩
    rw [← g1, fX7_putInOrder_L2_s]
    simp (disch := omega) only [zl_0, zl_1, zl_2, zl_3, zl_4, zl_5, zl_6, zl_8, zl_9, zl_11, zl_12, zl_13, zl_16, zl_20, zl_23, zl_24, zl_30, zl_32, zl_40, zl_41, zl_43, zl_45, zl_50, zl_52, zl_60, zl_97, zl_99, zl_100, zl_124, zl_126, zl_127, zl_169, zl_170, zl_171, zl_195, zl_200, zl_201, zl_256, zl_261, zl_999, zl_1100, zl_1884, zl_4095, zl_4096, zd1, zd2, zs1, nI_add, pk_mul, zsb, zad1, zad2, zcl, zgI, zif_le, zif_nle, zif_lt, zif_nlt, zif_eq, zif_ne, zif_self, zif_T, zif_F, Nat.zero_add, Nat.add_sub_cancel, zn21, zn31, zif_m1, zif_m1l, zif_m1n, zif_pm, zb1_k, zb2_k, zb3_k, zb4_k, zb5_k, zb6_k, zb7_k, zb8_k, zb9_k, zb10_k, zb11_k, zb12_k, zb14_k, zb21_k, zb22_k, zupd_eq, zupd_ne, zupl_eq, zupl_ne, zupf_eq, zupf_ne]
theorem fx_putInOrder {o : Nat → Nat} {m n : Nat} {lv : Int32} {st ab be kd fi se order mg : Nat → Int32} (ho : ∀ s, s < 4 → o s ≤ 99) (hm : m ≤ 4) (h : zwQx o m lv st ab be kd fi se) (h1 : 1 ≤ n) (h2 : n ≤ m) : ∃ order' mg', fX7_putInOrder (nI (zwb o n)) (nI (zwb o (n + 1))) order ab be mg = some (order', mg') ∧ zwOrd o n order' ∧ ∀ t, t < zwb o n ∨ zwb o (n + 1) ≤ t → order' t = order t := by
  have mo := zwb_mono ho (j := n) (k := n + 1) h1 (by omega) (by omega)
  have b5 := zwb_le ho (k := n + 1) (by omega) (by omega)
  have mo2 := zwb_mono ho (j := n + 1) (k := m + 1) (by omega) (by omega) (by omega)
  have b6 := zwb_le ho (k := m + 1) (by omega) (by omega)
  obtain ⟨o1, g1, g2, g3⟩ := fx_putL (ab := ab) (be := be) (hi := zwb o (n + 1)) (fX7_putInOrder_J20 ab be mg (nI (zwb o n)) (nI (zwb o (n + 1)))) (by omega) (zwb o (n + 1) - zwb o n) (zwb o n) 5000 order (by omega) (by omega)
  have ht := zwls_tr ho
  have ht2 : zwTr (zwls o) (fun x => x < zwb o (m + 1)) := ⟨fun a b c va vb vc => ht.1 a b c (by omega) (by omega) (by omega), ht.2⟩
  obtain ⟨o2, m2, f1, ⟨S, s1, s2, s3⟩, f3⟩ := fx_widthL (lo := zwb o n) (n := zwb o (n + 1) - zwb o n) (R := zwrg (zwb o n) (zwb o (n + 1) - zwb o n)) (ab := ab) (be := be) (by omega) ht2 (fun x hx => by
    have := (zwrg_m _ _ x).mp hx
    show x < zwb o (m + 1)
    omega) (zwrg_l _ _) (fun x y hx hy => fx_isLessR ho hm h hx hy) (zwb o (n + 1) - zwb o n) 5000 1 _ o1 mg (by omega) (by omega) (by omega) (by omega) (List.Perm.refl _) g2 (fun k => zwSb_1 _ k _)
  refine ⟨o2, m2, ?_, ⟨S, s1, s2, ?_⟩, fun t htt => ?_⟩
  · unfold fX7_putInOrder
    rw [g1]
    unfold fX7_putInOrder_J20
    rw [zl_1]
    rw [show zwb o n + (zwb o (n + 1) - zwb o n) = zwb o (n + 1) by omega] at f1
    exact f1
  · refine zwpl (V := fun x => x < zwb o 5) (fun a b va vb hn hh => zwls_ne ho va vb hn hh) S (fun x hx => ?_) (zwne_p s2.symm (zwrg_n _ _)) s3
    have := (zwrg_m _ _ x).mp (s2.mem_iff.mp hx)
    show x < zwb o 5
    omega
  · rw [f3 t (by omega), g3 t htt]
theorem zwOrd_f {o : Nat → Nat} {n : Nat} {order order' : Nat → Int32} (h : ∀ t, zwb o n ≤ t → t < zwb o (n + 1) → order' t = order t) (k : zwOrd o n order) : zwOrd o n order' := by
  obtain ⟨S, s1, s2, s3⟩ := k
  refine ⟨S, zAr_fr s1 (fun t t1 t2 => h t t1 ?_), s2, s3⟩
  have e := s2.length_eq
  rw [zwrg_l] at e
  omega
theorem fx_bySize {O a : Nat → Nat} {m n k : Nat} {ohms spread order mg bf tb st ab be kd fi se : Nat → Int32} {sz lv lio : Int32} (hx : zXb a ohms spread) (hb : zBox a) (h1 : 1 ≤ n) (h2 : n ≤ 4) (hk : k < 2147483648) (hO : ∀ s, s < 4 → O s ≤ 99) (hm : m ≤ 4) (hbf : ∀ s, s < 4 → bf s = nI (O s)) (hr : zwRp O m sz lv tb st ab be kd fi se) (hok : zwOk O m lio order) : ∃ r m' sz' lv' lio' bf' tb' st' ab' be' kd' fi' se' order' mg', fX7_bySize (nI n) (nI k) sz lv lio bf ohms tb st ab be kd fi se order mg = some (r, sz', lv', lio', bf', tb', st', ab', be', kd', fi', se', order', mg') ∧ zwRp a m' sz' lv' tb' st' ab' be' kd' fi' se' ∧ n ≤ m' ∧ m' ≤ 4 ∧ (∀ s, s < 4 → bf' s = nI (a s)) ∧ zwOk a m' lio' order' ∧ ((zwb a (n + 1) - zwb a n ≤ k ∧ r = -nI 1) ∨ ∃ (S : List Nat) (x : Nat), S.Perm (zwrg (zwb a n) (zwb a (n + 1) - zwb a n)) ∧ S.Pairwise (fun i j => zwls a i j = true) ∧ S[k]? = some x ∧ r = nI x) := by
  have ho : ∀ s, s < 4 → a s ≤ 99 := fun s hs => (hb s hs).1
  obtain ⟨m', sz', lv', lio', bf', tb', st', ab', be', kd', fi', se', g1, g2, g3, g4, g5, g6⟩ := fx_build (N := n) hO hbf hx hb hm h2 hr
  have ok' := zwOk_b hok g6
  have w1 := zwQx_o g4 g2
  have x1 := w1.2.1 n h1 (by omega)
  have x2 := w1.2.1 (n + 1) (by omega) (by omega)
  have mo := zwb_mono ho (j := n) (k := n + 1) h1 (by omega) (by omega)
  have b5 := zwb_le ho (k := n + 1) (by omega) (by omega)
  have np : ¬ nI k < nI 0 := nI_nlt (by omega) hk
  by_cases c : zwb a (n + 1) - zwb a n ≤ k
  · refine ⟨-nI 1, m', sz', lv', lio', bf', tb', st', ab', be', kd', fi', se', order, mg, ?_, g2, g3, g4, g5, ok', Or.inl ⟨c, rfl⟩⟩
    unfold fX7_bySize
    simp (disch := omega) only [zl_0, zl_1, zl_2, zl_3, zl_4, zl_5, zl_6, zl_8, zl_9, zl_11, zl_12, zl_13, zl_16, zl_20, zl_23, zl_24, zl_30, zl_32, zl_40, zl_41, zl_43, zl_45, zl_50, zl_52, zl_60, zl_97, zl_99, zl_100, zl_124, zl_126, zl_127, zl_169, zl_170, zl_171, zl_195, zl_200, zl_201, zl_256, zl_261, zl_999, zl_1100, zl_1884, zl_4095, zl_4096, zd1, zd2, zs1, nI_add, pk_mul, zsb, zad1, zad2, zcl, zgI, zif_le, zif_nle, zif_lt, zif_nlt, zif_eq, zif_ne, zif_self, zif_T, zif_F, Nat.zero_add, Nat.add_sub_cancel, zn21, zn31, zif_m1, zif_m1l, zif_m1n, zif_pm, zb1_k, zb2_k, zb3_k, zb4_k, zb5_k, zb6_k, zb7_k, zb8_k, zb9_k, zb10_k, zb11_k, zb12_k, zb14_k, zb21_k, zb22_k, zupd_eq, zupd_ne, zupl_eq, zupl_ne, zupf_eq, zupf_ne, g1, x1, x2]
  · have fin : ∀ order2 mg2 lio2, zwOrd a n order2 → zwOk a m' lio2 order2 → ∃ r, fX7_bySize_J71 (nI n) (nI k) sz' lv' bf' tb' st' ab' be' kd' fi' se' lio2 order2 mg2 = some (r, sz', lv', lio2, bf', tb', st', ab', be', kd', fi', se', order2, mg2) ∧ ∃ (S : List Nat) (x : Nat), S.Perm (zwrg (zwb a n) (zwb a (n + 1) - zwb a n)) ∧ S.Pairwise (fun i j => zwls a i j = true) ∧ S[k]? = some x ∧ r = nI x := by
      intro order2 mg2 lio2 q1 q2
      obtain ⟨S, s1, s2, s3⟩ := q1
      have e := s2.length_eq
      rw [zwrg_l] at e
      have hS : S[k]? = some S[k] := List.getElem?_eq_getElem (by omega)
      have y := zwAr_i S (zwb a n) k _ s1 hS
      refine ⟨nI S[k], ?_, S, S[k], s2, s3, hS, rfl⟩
      unfold fX7_bySize_J71
      simp (disch := omega) only [zl_0, zl_1, zl_2, zl_3, zl_4, zl_5, zl_6, zl_8, zl_9, zl_11, zl_12, zl_13, zl_16, zl_20, zl_23, zl_24, zl_30, zl_32, zl_40, zl_41, zl_43, zl_45, zl_50, zl_52, zl_60, zl_97, zl_99, zl_100, zl_124, zl_126, zl_127, zl_169, zl_170, zl_171, zl_195, zl_200, zl_201, zl_256, zl_261, zl_999, zl_1100, zl_1884, zl_4095, zl_4096, zd1, zd2, zs1, nI_add, pk_mul, zsb, zad1, zad2, zcl, zgI, zif_le, zif_nle, zif_lt, zif_nlt, zif_eq, zif_ne, zif_self, zif_T, zif_F, Nat.zero_add, Nat.add_sub_cancel, zn21, zn31, zif_m1, zif_m1l, zif_m1n, zif_pm, zb1_k, zb2_k, zb3_k, zb4_k, zb5_k, zb6_k, zb7_k, zb8_k, zb9_k, zb10_k, zb11_k, zb12_k, zb14_k, zb21_k, zb22_k, zupd_eq, zupd_ne, zupl_eq, zupl_ne, zupf_eq, zupf_ne, x1, y]
    obtain ⟨w, w1', w2', w3'⟩ := id ok'
    subst w2'
    have bt := zbr (n := w) (i := n) (by omega) (by omega)
    rcases zbt_c w n with z | z
    · obtain ⟨o2, m2, f1, f2, f3⟩ := fx_putInOrder (order := order) (mg := mg) ho g4 w1 h1 g3
      have orl : w ||| 2 ^ n < 32 := Nat.or_lt_two_pow (n := 5) (by omega) (Nat.pow_lt_pow_right (by decide) (by omega))
      have ok2 : zwOk a m' (nI (w ||| 2 ^ n)) o2 := by
        refine ⟨w ||| 2 ^ n, orl, rfl, fun j hj hbj => ?_⟩
        rw [zbt_or, zbt_2] at hbj
        by_cases ej : j = n
        · subst ej
          exact ⟨h1, g3, f2⟩
        · rcases hbj with hbj | hbj
          · obtain ⟨c1, c2, c3⟩ := w3' j hj hbj
            refine ⟨c1, c2, zwOrd_f (fun t t1 t2 => f3 t ?_) c3⟩
            rcases Nat.lt_or_ge j n with q | q
            · have := zwb_mono ho (j := j + 1) (k := n) (by omega) (by omega) (by omega)
              omega
            · have := zwb_mono ho (j := n + 1) (k := j) (by omega) (by omega) (by omega)
              omega
          · exact absurd hbj ej
      obtain ⟨r, e1, e2⟩ := fin o2 m2 (nI (w ||| 2 ^ n)) f2 ok2
      refine ⟨r, m', sz', lv', nI (w ||| 2 ^ n), bf', tb', st', ab', be', kd', fi', se', o2, m2, ?_, g2, g3, g4, g5, ok2, Or.inr e2⟩
      have sh := zbs (i := n) (by omega)
      have p2 : 2 ^ n < 2147483648 := Nat.lt_trans (zp2 (by omega)) (by omega)
      have orr := zbor (a := w) (b := 2 ^ n) (by omega) p2
      rw [z] at bt
      unfold fX7_bySize
      simp (disch := omega) only [zl_0, zl_1, zl_2, zl_3, zl_4, zl_5, zl_6, zl_8, zl_9, zl_11, zl_12, zl_13, zl_16, zl_20, zl_23, zl_24, zl_30, zl_32, zl_40, zl_41, zl_43, zl_45, zl_50, zl_52, zl_60, zl_97, zl_99, zl_100, zl_124, zl_126, zl_127, zl_169, zl_170, zl_171, zl_195, zl_200, zl_201, zl_256, zl_261, zl_999, zl_1100, zl_1884, zl_4095, zl_4096, zd1, zd2, zs1, nI_add, pk_mul, zsb, zad1, zad2, zcl, zgI, zif_le, zif_nle, zif_lt, zif_nlt, zif_eq, zif_ne, zif_self, zif_T, zif_F, Nat.zero_add, Nat.add_sub_cancel, zn21, zn31, zif_m1, zif_m1l, zif_m1n, zif_pm, zb1_k, zb2_k, zb3_k, zb4_k, zb5_k, zb6_k, zb7_k, zb8_k, zb9_k, zb10_k, zb11_k, zb12_k, zb14_k, zb21_k, zb22_k, zupd_eq, zupd_ne, zupl_eq, zupl_ne, zupf_eq, zupf_ne, g1, x1, x2, bt, f1, sh, orr, e1]
    · obtain ⟨c1, c2, c3⟩ := w3' n (by omega) z
      obtain ⟨r, e1, e2⟩ := fin order mg (nI w) c3 ok'
      refine ⟨r, m', sz', lv', nI w, bf', tb', st', ab', be', kd', fi', se', order, mg, ?_, g2, g3, g4, g5, ok', Or.inr e2⟩
      rw [z] at bt
      unfold fX7_bySize
      simp (disch := omega) only [zl_0, zl_1, zl_2, zl_3, zl_4, zl_5, zl_6, zl_8, zl_9, zl_11, zl_12, zl_13, zl_16, zl_20, zl_23, zl_24, zl_30, zl_32, zl_40, zl_41, zl_43, zl_45, zl_50, zl_52, zl_60, zl_97, zl_99, zl_100, zl_124, zl_126, zl_127, zl_169, zl_170, zl_171, zl_195, zl_200, zl_201, zl_256, zl_261, zl_999, zl_1100, zl_1884, zl_4095, zl_4096, zd1, zd2, zs1, nI_add, pk_mul, zsb, zad1, zad2, zcl, zgI, zif_le, zif_nle, zif_lt, zif_nlt, zif_eq, zif_ne, zif_self, zif_T, zif_F, Nat.zero_add, Nat.add_sub_cancel, zn21, zn31, zif_m1, zif_m1l, zif_m1n, zif_pm, zb1_k, zb2_k, zb3_k, zb4_k, zb5_k, zb6_k, zb7_k, zb8_k, zb9_k, zb10_k, zb11_k, zb12_k, zb14_k, zb21_k, zb22_k, zupd_eq, zupd_ne, zupl_eq, zupl_ne, zupf_eq, zupf_ne, g1, x1, x2, bt, e1]
/-! the plain form: how many are less -/
theorem fm_lessThan {o : Nat → Nat} {n x : Nat} {many : Int32} {bg : Nat → Int32} {up dn : Nat → Int64} {how fst snd : Nat → Int32} (ho : ∀ s, s < 4 → o s ≤ 99) (hn : n ≤ 4) (h : zwQm o n many bg up dn how fst snd) (hx : x < zwb o (n + 1)) : ∀ (d j c fu : Nat), j + d = zwb o (n + 1) → d < fu → c ≤ j → fX11_lessThan_L6 up dn (nI x) (nI (zwb o (n + 1))) fu (nI c) (nI j) = some (nI (c + zwct (zwls o) x (zwrg j d))) := by
  have b5 := zwb_le ho (k := n + 1) (by omega) (by omega)
  intro d
  induction d with
  | zero =>
    intro j c fu hd hfu hc
    obtain ⟨fu, rfl⟩ : ∃ f, fu = f + 1 := ⟨fu - 1, by omega⟩
    rw [fX11_lessThan_L6_s, if_pos (nI_le (by omega) (by omega))]
    rfl
  | succ d ih =>
    intro j c fu hd hfu hc
    obtain ⟨fu, rfl⟩ : ∃ f, fu = f + 1 := ⟨fu - 1, by omega⟩
    have ls := fm_isLessR ho hn h (x := j) (y := x) (by omega) hx
    have e : zwct (zwls o) x (zwrg j (d + 1)) = (if zwls o j x = true then 1 else 0) + zwct (zwls o) x (zwrg (j + 1) d) := rfl
    rw [e, fX11_lessThan_L6_s, if_neg (nI_ge (by omega) (by omega)), zgI (by omega) (by omega), zgI (by omega) (by omega), zgI (by omega) (by omega), zgI (by omega) (by omega), zcl (by omega), zcl (by omega), ls, zb1_k]
    by_cases z : zwls o j x = true
    · rw [if_pos z, if_pos z, zl_0, if_neg (show ¬ nI 1 = nI 0 by decide), zl_1, nI_add, nI_add, ih (j + 1) (c + 1) fu (by omega) (by omega) (by omega), Nat.add_assoc]
    · rw [if_neg z, if_neg z, zl_0, if_pos rfl, zl_1, nI_add, nI_add, Nat.add_zero c, ih (j + 1) c fu (by omega) (by omega) (by omega), Nat.zero_add]
theorem fm_lessR {o : Nat → Nat} {n x : Nat} {many : Int32} {bg : Nat → Int32} {up dn : Nat → Int64} {how fst snd : Nat → Int32} (ho : ∀ s, s < 4 → o s ≤ 99) (h1 : 1 ≤ n) (hn : n ≤ 4) (h : zwQm o n many bg up dn how fst snd) (hx : x < zwb o (n + 1)) : fX11_lessThan (nI x) (nI (zwb o n)) (nI (zwb o (n + 1))) up dn = some (nI (zwct (zwls o) x (zwrg (zwb o n) (zwb o (n + 1) - zwb o n)))) := by
  have mo := zwb_mono ho (j := n) (k := n + 1) h1 (by omega) (by omega)
  have b5 := zwb_le ho (k := n + 1) (by omega) (by omega)
  have := fm_lessThan ho hn h hx (zwb o (n + 1) - zwb o n) (zwb o n) 0 5000 (by omega) (by omega) (by omega)
  rw [Nat.zero_add] at this
  unfold fX11_lessThan
  rw [zl_0]
  exact this
theorem zwct_le (lt : Nat → Nat → Bool) (x : Nat) : ∀ L : List Nat, zwct lt x L ≤ L.length
  | [] => Nat.le_refl _
  | y :: L => by
    have ih := zwct_le lt x L
    show (if lt y x = true then 1 else 0) + zwct lt x L ≤ L.length + 1
    by_cases c : lt y x = true
    · rw [if_pos c]; omega
    · rw [if_neg c]; omega
theorem fm_reachL {o : Nat → Nat} {n k : Nat} {c e : Int64} {many : Int32} {bg : Nat → Int32} {up dn : Nat → Int64} {how fst snd : Nat → Int32} (K : Int32 → Option (Int64 × Int64 × Int64 × Int32 × (Nat → Int32) × (Nat → Int64) × (Nat → Int64) × (Nat → Int32) × (Nat → Int32) × (Nat → Int32))) (ho : ∀ s, s < 4 → o s ≤ 99) (h1 : 1 ≤ n) (hn : n ≤ 4) (h : zwQm o n many bg up dn how fst snd) (hk : k < 2147483648) : ∀ (d j fu : Nat), j + d = zwb o (n + 1) → d < fu → zwb o n ≤ j → ((∀ y, j ≤ y → y < zwb o (n + 1) → zwct (zwls o) y (zwrg (zwb o n) (zwb o (n + 1) - zwb o n)) ≠ k) → fX11_reach_L45 K (nI n) (nI k) c e many bg up dn how fst snd fu (nI j) = some (-2, c, e, many, bg, up, dn, how, fst, snd)) ∧ ∀ x, j ≤ x → x < zwb o (n + 1) → zwct (zwls o) x (zwrg (zwb o n) (zwb o (n + 1) - zwb o n)) = k → (∀ y, j ≤ y → y < x → zwct (zwls o) y (zwrg (zwb o n) (zwb o (n + 1) - zwb o n)) ≠ k) → fX11_reach_L45 K (nI n) (nI k) c e many bg up dn how fst snd fu (nI j) = K (nI x) := by
  have b5 := zwb_le ho (k := n + 1) (by omega) (by omega)
  have mo := zwb_mono ho (j := n) (k := n + 1) h1 (by omega) (by omega)
  have x1 := h.2.1 n h1 (by omega)
  have x2 := h.2.1 (n + 1) (by omega) (by omega)
  intro d
  induction d with
  | zero =>
    intro j fu hd hfu hj
    obtain ⟨fu, rfl⟩ : ∃ f, fu = f + 1 := ⟨fu - 1, by omega⟩
    refine ⟨fun _ => ?_, fun x q1 q2 => by omega⟩
    rw [fX11_reach_L45_s]
    simp (disch := omega) only [zl_0, zl_1, zl_2, zl_3, zl_4, zl_5, zl_6, zl_8, zl_9, zl_11, zl_12, zl_13, zl_16, zl_20, zl_23, zl_24, zl_30, zl_32, zl_40, zl_41, zl_43, zl_45, zl_50, zl_52, zl_60, zl_97, zl_99, zl_100, zl_124, zl_126, zl_127, zl_169, zl_170, zl_171, zl_195, zl_200, zl_201, zl_256, zl_261, zl_999, zl_1100, zl_1884, zl_4095, zl_4096, zd1, zd2, zs1, nI_add, pk_mul, zsb, zad1, zad2, zcl, zgI, zif_le, zif_nle, zif_lt, zif_nlt, zif_eq, zif_ne, zif_self, zif_T, zif_F, Nat.zero_add, Nat.add_sub_cancel, zn21, zn31, zif_m1, zif_m1l, zif_m1n, zif_pm, zb1_k, zb2_k, zb3_k, zb4_k, zb5_k, zb6_k, zb7_k, zb8_k, zb9_k, zb10_k, zb11_k, zb12_k, zb14_k, zb21_k, zb22_k, zupd_eq, zupd_ne, zupl_eq, zupl_ne, zupf_eq, zupf_ne, x2]
  | succ d ih =>
    intro j fu hd hfu hj
    obtain ⟨fu, rfl⟩ : ∃ f, fu = f + 1 := ⟨fu - 1, by omega⟩
    have lr := fm_lessR ho h1 hn h (x := j) (by omega)
    have le := zwct_le (zwls o) j (zwrg (zwb o n) (zwb o (n + 1) - zwb o n))
    rw [zwrg_l] at le
    obtain ⟨i1, i2⟩ := ih (j + 1) fu (by omega) (by omega) (by omega)
    have step : fX11_reach_L45 K (nI n) (nI k) c e many bg up dn how fst snd (fu + 1) (nI j) = if nI (zwct (zwls o) j (zwrg (zwb o n) (zwb o (n + 1) - zwb o n))) = nI k then K (nI j) else fX11_reach_L45 K (nI n) (nI k) c e many bg up dn how fst snd fu (nI (j + 1)) := by
      rw [fX11_reach_L45_s]
      simp (disch := omega) only [zl_0, zl_1, zl_2, zl_3, zl_4, zl_5, zl_6, zl_8, zl_9, zl_11, zl_12, zl_13, zl_16, zl_20, zl_23, zl_24, zl_30, zl_32, zl_40, zl_41, zl_43, zl_45, zl_50, zl_52, zl_60, zl_97, zl_99, zl_100, zl_124, zl_126, zl_127, zl_169, zl_170, zl_171, zl_195, zl_200, zl_201, zl_256, zl_261, zl_999, zl_1100, zl_1884, zl_4095, zl_4096, zd1, zd2, zs1, nI_add, pk_mul, zsb, zad1, zad2, zcl, zgI, zif_le, zif_nle, zif_lt, zif_nlt, zif_eq, zif_ne, zif_self, zif_T, zif_F, Nat.zero_add, Nat.add_sub_cancel, zn21, zn31, zif_m1, zif_m1l, zif_m1n, zif_pm, zb1_k, zb2_k, zb3_k, zb4_k, zb5_k, zb6_k, zb7_k, zb8_k, zb9_k, zb10_k, zb11_k, zb12_k, zb14_k, zb21_k, zb22_k, zupd_eq, zupd_ne, zupl_eq, zupl_ne, zupf_eq, zupf_ne, x1, x2, lr]
    rw [step]
    by_cases z : zwct (zwls o) j (zwrg (zwb o n) (zwb o (n + 1) - zwb o n)) = k
    · refine ⟨fun q => absurd z (q j (Nat.le_refl _) (by omega)), fun x q1 q2 q3 q4 => ?_⟩
      have : x = j := by
        rcases Nat.lt_or_ge j x with w | w
        · exact absurd z (q4 j (Nat.le_refl _) w)
        · omega
      subst this
      rw [if_pos (by rw [z])]
    · have nz : ¬ nI (zwct (zwls o) j (zwrg (zwb o n) (zwb o (n + 1) - zwb o n))) = nI k := fun w => z ((nI_eq (by omega) hk).mp w)
      rw [if_neg nz]
      refine ⟨fun q => i1 (fun y h3 h4 => q y (by omega) h4), fun x q1 q2 q3 q4 => i2 x ?_ q2 q3 (fun y h3 h4 => q4 y (by omega) h4)⟩
      by_cases w : x = j
      · subst w
        exact absurd q3 z
      · omega
theorem zwrank {o : Nat → Nat} {lo len : Nat} {S : List Nat} (hp : S.Perm (zwrg lo len)) (hs : S.Pairwise (fun i j => zwls o i j = true)) {i x : Nat} (h : S[i]? = some x) : zwct (zwls o) x (zwrg lo len) = i := by
  rw [← zwct_p (zwls o) x hp]
  refine zwct_k (zwls_x o) (fun a b hab => ?_) S hs i x h
  unfold zwls at hab ⊢
  have hab := of_decide_eq_true hab
  exact decide_eq_false (by omega)
theorem q_reach {k : Nat} : zQ_reach (zR zwFd) k := by
  intro xs ms h p1 p2 p3
  have h0 := h
  obtain ⟨a, hv, hx, hm, hI, hT, O, m, hO, hm4, hbf, hrp, hok⟩ := h
  have hB := hx.1
  have ho : ∀ s, s < 4 → a s ≤ 99 := fun s hs => (hv.1 s hs).1
  have i1 : ∀ r : Int32, fX11_in r.toInt64 (1 : Int64) (4 : Int64) = fX10_isIn r (nI 1) (nI 4) := fun r => zinM r (by decide) (by decide)
  have i2 : ∀ r : Int32, fX11_in r.toInt64 (0 : Int64) (2 : Int64) = fX10_isIn r (nI 0) (nI 2) := fun r => zinM r (by decide) (by decide)
  rcases zrg p1 1 4 (by decide) (by decide) with f1 | ⟨n, n1, n2, rfl, f1⟩
  · refine zfin0 (-9223372036854775808 : Int64) h0 ?_ ?_
    · simp (disch := omega) only [stX10_reach, fX10_reach, zl_0, zl_1, zl_2, zl_3, zl_4, zl_5, zl_6, zl_8, zl_9, zl_11, zl_12, zl_13, zl_16, zl_20, zl_23, zl_24, zl_30, zl_32, zl_40, zl_41, zl_43, zl_45, zl_50, zl_52, zl_60, zl_97, zl_99, zl_100, zl_124, zl_126, zl_127, zl_169, zl_170, zl_171, zl_195, zl_200, zl_201, zl_256, zl_261, zl_999, zl_1100, zl_1884, zl_4095, zl_4096, zd1, zd2, zs1, nI_add, pk_mul, zsb, zad1, zad2, zcl, zgI, zif_le, zif_nle, zif_lt, zif_nlt, zif_eq, zif_ne, zif_self, zif_T, zif_F, Nat.zero_add, Nat.add_sub_cancel, zn21, zn31, zif_m1, zif_m1l, zif_m1n, zif_pm, zb1_k, zb2_k, zb3_k, zb4_k, zb5_k, zb6_k, zb7_k, zb8_k, zb9_k, zb10_k, zb11_k, zb12_k, zb14_k, zb21_k, zb22_k, zupd_eq, zupd_ne, zupl_eq, zupl_ne, zupf_eq, zupf_ne, f1]
      (try rfl)
    · simp (disch := omega) only [stX11_reach, fX11_reach, zl_0, zl_1, zl_2, zl_3, zl_4, zl_5, zl_6, zl_8, zl_9, zl_11, zl_12, zl_13, zl_16, zl_20, zl_23, zl_24, zl_30, zl_32, zl_40, zl_41, zl_43, zl_45, zl_50, zl_52, zl_60, zl_97, zl_99, zl_100, zl_124, zl_126, zl_127, zl_169, zl_170, zl_171, zl_195, zl_200, zl_201, zl_256, zl_261, zl_999, zl_1100, zl_1884, zl_4095, zl_4096, zd1, zd2, zs1, nI_add, pk_mul, zsb, zad1, zad2, zcl, zgI, zif_le, zif_nle, zif_lt, zif_nlt, zif_eq, zif_ne, zif_self, zif_T, zif_F, Nat.zero_add, Nat.add_sub_cancel, zn21, zn31, zif_m1, zif_m1l, zif_m1n, zif_pm, zb1_k, zb2_k, zb3_k, zb4_k, zb5_k, zb6_k, zb7_k, zb8_k, zb9_k, zb10_k, zb11_k, zb12_k, zb14_k, zb21_k, zb22_k, zupd_eq, zupd_ne, zupl_eq, zupl_ne, zupf_eq, zupf_ne, i1, f1]
      (try rfl)
  by_cases pn : p2 < 0
  · have pn : p2 < nI 0 := pn
    refine zfin0 (-9223372036854775808 : Int64) h0 ?_ ?_
    · simp (disch := omega) only [stX10_reach, fX10_reach, zl_0, zl_1, zl_2, zl_3, zl_4, zl_5, zl_6, zl_8, zl_9, zl_11, zl_12, zl_13, zl_16, zl_20, zl_23, zl_24, zl_30, zl_32, zl_40, zl_41, zl_43, zl_45, zl_50, zl_52, zl_60, zl_97, zl_99, zl_100, zl_124, zl_126, zl_127, zl_169, zl_170, zl_171, zl_195, zl_200, zl_201, zl_256, zl_261, zl_999, zl_1100, zl_1884, zl_4095, zl_4096, zd1, zd2, zs1, nI_add, pk_mul, zsb, zad1, zad2, zcl, zgI, zif_le, zif_nle, zif_lt, zif_nlt, zif_eq, zif_ne, zif_self, zif_T, zif_F, Nat.zero_add, Nat.add_sub_cancel, zn21, zn31, zif_m1, zif_m1l, zif_m1n, zif_pm, zb1_k, zb2_k, zb3_k, zb4_k, zb5_k, zb6_k, zb7_k, zb8_k, zb9_k, zb10_k, zb11_k, zb12_k, zb14_k, zb21_k, zb22_k, zupd_eq, zupd_ne, zupl_eq, zupl_ne, zupf_eq, zupf_ne, f1, zft pn]
      (try rfl)
    · simp (disch := omega) only [stX11_reach, fX11_reach, zl_0, zl_1, zl_2, zl_3, zl_4, zl_5, zl_6, zl_8, zl_9, zl_11, zl_12, zl_13, zl_16, zl_20, zl_23, zl_24, zl_30, zl_32, zl_40, zl_41, zl_43, zl_45, zl_50, zl_52, zl_60, zl_97, zl_99, zl_100, zl_124, zl_126, zl_127, zl_169, zl_170, zl_171, zl_195, zl_200, zl_201, zl_256, zl_261, zl_999, zl_1100, zl_1884, zl_4095, zl_4096, zd1, zd2, zs1, nI_add, pk_mul, zsb, zad1, zad2, zcl, zgI, zif_le, zif_nle, zif_lt, zif_nlt, zif_eq, zif_ne, zif_self, zif_T, zif_F, Nat.zero_add, Nat.add_sub_cancel, zn21, zn31, zif_m1, zif_m1l, zif_m1n, zif_pm, zb1_k, zb2_k, zb3_k, zb4_k, zb5_k, zb6_k, zb7_k, zb8_k, zb9_k, zb10_k, zb11_k, zb12_k, zb14_k, zb21_k, zb22_k, zupd_eq, zupd_ne, zupl_eq, zupl_ne, zupf_eq, zupf_ne, i1, f1, zft pn]
      (try rfl)
  obtain ⟨kk, hkk, rfl⟩ := nI_of pn
  have hkk : kk < 2147483648 := hkk
  rcases zrg p3 0 2 (by decide) (by decide) with f3 | ⟨w, _, w2, rfl, f3⟩
  · refine zfin0 (-9223372036854775808 : Int64) h0 ?_ ?_
    · simp (disch := omega) only [stX10_reach, fX10_reach, zl_0, zl_1, zl_2, zl_3, zl_4, zl_5, zl_6, zl_8, zl_9, zl_11, zl_12, zl_13, zl_16, zl_20, zl_23, zl_24, zl_30, zl_32, zl_40, zl_41, zl_43, zl_45, zl_50, zl_52, zl_60, zl_97, zl_99, zl_100, zl_124, zl_126, zl_127, zl_169, zl_170, zl_171, zl_195, zl_200, zl_201, zl_256, zl_261, zl_999, zl_1100, zl_1884, zl_4095, zl_4096, zd1, zd2, zs1, nI_add, pk_mul, zsb, zad1, zad2, zcl, zgI, zif_le, zif_nle, zif_lt, zif_nlt, zif_eq, zif_ne, zif_self, zif_T, zif_F, Nat.zero_add, Nat.add_sub_cancel, zn21, zn31, zif_m1, zif_m1l, zif_m1n, zif_pm, zb1_k, zb2_k, zb3_k, zb4_k, zb5_k, zb6_k, zb7_k, zb8_k, zb9_k, zb10_k, zb11_k, zb12_k, zb14_k, zb21_k, zb22_k, zupd_eq, zupd_ne, zupl_eq, zupl_ne, zupf_eq, zupf_ne, f1, f3]
      (try rfl)
    · simp (disch := omega) only [stX11_reach, fX11_reach, zl_0, zl_1, zl_2, zl_3, zl_4, zl_5, zl_6, zl_8, zl_9, zl_11, zl_12, zl_13, zl_16, zl_20, zl_23, zl_24, zl_30, zl_32, zl_40, zl_41, zl_43, zl_45, zl_50, zl_52, zl_60, zl_97, zl_99, zl_100, zl_124, zl_126, zl_127, zl_169, zl_170, zl_171, zl_195, zl_200, zl_201, zl_256, zl_261, zl_999, zl_1100, zl_1884, zl_4095, zl_4096, zd1, zd2, zs1, nI_add, pk_mul, zsb, zad1, zad2, zcl, zgI, zif_le, zif_nle, zif_lt, zif_nlt, zif_eq, zif_ne, zif_self, zif_T, zif_F, Nat.zero_add, Nat.add_sub_cancel, zn21, zn31, zif_m1, zif_m1l, zif_m1n, zif_pm, zb1_k, zb2_k, zb3_k, zb4_k, zb5_k, zb6_k, zb7_k, zb8_k, zb9_k, zb10_k, zb11_k, zb12_k, zb14_k, zb21_k, zb22_k, zupd_eq, zupd_ne, zupl_eq, zupl_ne, zupf_eq, zupf_ne, i1, i2, f1, f3]
      (try rfl)
  obtain ⟨r, m', sz', lv', lio', bf', tb', st', ab', be', kd', fi', se', or', mg', g1, g2, g3, g4, g5, g6, g7⟩ := fx_bySize (mg := x_found_merged xs) hB hv.1 n1 n2 hkk hO hm4 hbf hrp hok
  obtain ⟨c', e', many', bg', up', dn', how', fst', snd', q1, q2⟩ := fm_lay hm hv.1 n1 n2 (m_above ms) (m_below ms) (m_reachMany ms) (m_begins ms) (m_reachUp ms) (m_reachDown ms) (m_reachHow ms) (m_reachFirst ms) (m_reachSecond ms)
  have W1 := zwQx_o g4 g2
  have W2 := zwQm_o n2 q2
  have x1 := W1.2.1 n (by omega) (by omega)
  have y1 := W2.2.1 n (by omega) (by omega)
  have mo := zwb_mono ho (j := n) (k := n + 1) n1 (by omega) (by omega)
  have mo2 := zwb_mono ho (j := n + 1) (k := m' + 1) (by omega) (by omega) (by omega)
  have b5 := zwb_le ho (k := n + 1) (by omega) (by omega)
  have hf : zwFd (sz', lv', lio', ab', be', kd', fi', se', or', mg', tb', st', bf') := ⟨a, m', ho, g4, g5, g2, g6⟩
  obtain ⟨L1, L2⟩ := fm_reachL (c := c') (e := e') (fX11_reach_J82 (nI n) (nI w) c' e' many' bg' up' dn' how' fst' snd') ho n1 n2 W2 hkk (zwb a (n + 1) - zwb a n) (zwb a n) 5000 (by omega) (by omega) (Nat.le_refl _)
  have Y : fX11_reach (nI n) (nI kk) (nI w) (m_above ms) (m_below ms) (m_reachMany ms) (m_begins ms) (m_now ms) (m_reachUp ms) (m_reachDown ms) (m_reachHow ms) (m_reachFirst ms) (m_reachSecond ms) = fX11_reach_L45 (fX11_reach_J82 (nI n) (nI w) c' e' many' bg' up' dn' how' fst' snd') (nI n) (nI kk) c' e' many' bg' up' dn' how' fst' snd' 5000 (nI (zwb a n)) := by
    unfold fX11_reach
    have w0 : ¬ nI 1 = (0 : Int32) := by decide
    rw [i1, f1, zb1_k, if_neg w0, if_neg pn, i2, f3, zb1_k, if_neg w0, q1, zb9_k, zgI (by omega) (by omega), zcl (by omega), y1]
  rcases g7 with ⟨c1, rfl⟩ | ⟨S, x, s1, s2, s3, rfl⟩
  · have L := L1 (fun y h3 h4 => by
      intro hh
      obtain ⟨S, s1, s2, s3⟩ : ∃ S : List Nat, S.Perm (zwrg (zwb a n) (zwb a (n + 1) - zwb a n)) ∧ True ∧ True := ⟨_, List.Perm.refl _, trivial, trivial⟩
      have le := zwct_le (zwls a) y (zwrg (zwb a n) (zwb a (n + 1) - zwb a n))
      rw [zwrg_l] at le
      have lt : zwct (zwls a) y (zwrg (zwb a n) (zwb a (n + 1) - zwb a n)) < zwb a (n + 1) - zwb a n := by
        have key : ∀ L : List Nat, y ∈ L → zwct (zwls a) y L < L.length := by
          intro L
          induction L with
          | nil => intro hy; cases hy
          | cons z L ih =>
            intro hy
            show (if zwls a z y = true then 1 else 0) + zwct (zwls a) y L < L.length + 1
            rcases List.mem_cons.mp hy with rfl | hy
            · have := zwct_le (zwls a) y L
              rw [zwls_x, if_neg Bool.false_ne_true]
              omega
            · have := ih hy
              by_cases z : zwls a z y = true
              · rw [if_pos z]; omega
              · rw [if_neg z]; omega
        have := key (zwrg (zwb a n) (zwb a (n + 1) - zwb a n)) ((zwrg_m _ _ y).mpr ⟨h3, by omega⟩)
        rw [zwrg_l] at this
        exact this
      omega)
    refine zfinF (-2 : Int64) _ h0 hf ?_ ?_
    · simp (disch := omega) only [stX10_reach, fX10_reach, zl_0, zl_1, zl_2, zl_3, zl_4, zl_5, zl_6, zl_8, zl_9, zl_11, zl_12, zl_13, zl_16, zl_20, zl_23, zl_24, zl_30, zl_32, zl_40, zl_41, zl_43, zl_45, zl_50, zl_52, zl_60, zl_97, zl_99, zl_100, zl_124, zl_126, zl_127, zl_169, zl_170, zl_171, zl_195, zl_200, zl_201, zl_256, zl_261, zl_999, zl_1100, zl_1884, zl_4095, zl_4096, zd1, zd2, zs1, nI_add, pk_mul, zsb, zad1, zad2, zcl, zgI, zif_le, zif_nle, zif_lt, zif_nlt, zif_eq, zif_ne, zif_self, zif_T, zif_F, Nat.zero_add, Nat.add_sub_cancel, zn21, zn31, zif_m1, zif_m1l, zif_m1n, zif_pm, zb1_k, zb2_k, zb3_k, zb4_k, zb5_k, zb6_k, zb7_k, zb8_k, zb9_k, zb10_k, zb11_k, zb12_k, zb14_k, zb21_k, zb22_k, zupd_eq, zupd_ne, zupl_eq, zupl_ne, zupf_eq, zupf_ne, f1, f3, g1]
    · simp (disch := omega) only [stX11_reach, zl_0, zl_1, zl_2, zl_3, zl_4, zl_5, zl_6, zl_8, zl_9, zl_11, zl_12, zl_13, zl_16, zl_20, zl_23, zl_24, zl_30, zl_32, zl_40, zl_41, zl_43, zl_45, zl_50, zl_52, zl_60, zl_97, zl_99, zl_100, zl_124, zl_126, zl_127, zl_169, zl_170, zl_171, zl_195, zl_200, zl_201, zl_256, zl_261, zl_999, zl_1100, zl_1884, zl_4095, zl_4096, zd1, zd2, zs1, nI_add, pk_mul, zsb, zad1, zad2, zcl, zgI, zif_le, zif_nle, zif_lt, zif_nlt, zif_eq, zif_ne, zif_self, zif_T, zif_F, Nat.zero_add, Nat.add_sub_cancel, zn21, zn31, zif_m1, zif_m1l, zif_m1n, zif_pm, zb1_k, zb2_k, zb3_k, zb4_k, zb5_k, zb6_k, zb7_k, zb8_k, zb9_k, zb10_k, zb11_k, zb12_k, zb14_k, zb21_k, zb22_k, zupd_eq, zupd_ne, zupl_eq, zupl_ne, zupf_eq, zupf_ne, Y.trans L]
      exact ⟨_, rfl, rfl, rfl, rfl, rfl, rfl⟩
  · have xr := (zwrg_m _ _ x).mp (s1.mem_iff.mp (List.mem_iff_getElem?.mpr ⟨kk, s3⟩))
    have L := L2 x xr.1 (by omega) (zwrank s1 s2 s3) (fun y h3 h4 hh => by
      have hy : y ∈ S := s1.mem_iff.mpr ((zwrg_m _ _ y).mpr ⟨h3, by omega⟩)
      obtain ⟨i, hi⟩ := List.mem_iff_getElem?.mp hy
      have := zwrank s1 s2 hi
      have ei : i = kk := by omega
      subst ei
      rw [s3] at hi
      have := Option.some.inj hi
      omega)
    obtain ⟨e, he⟩ := zwF_g ho (i := x) (by omega)
    obtain ⟨r1, r2, _⟩ := W1.2.2 x e (by omega) he
    obtain ⟨t1, t2, _⟩ := W2.2.2 x e (by omega) he
    have bb := zwF_b ho he
    have bb1 := bb.2.1
    have bb2 := bb.2.2.2.1
    have n0 : ¬ nI x = -nI 1 := znm1 (by omega)
    have YL := Y.trans L
    clear Y L L1 L2
    have c : w = 0 ∨ w = 1 ∨ w = 2 := by omega
    rcases c with rfl | rfl | rfl
    · refine zfinF (zL e.1.1) _ h0 hf ?_ ?_
      · simp (disch := omega) only [stX10_reach, fX10_reach, zl_0, zl_1, zl_2, zl_3, zl_4, zl_5, zl_6, zl_8, zl_9, zl_11, zl_12, zl_13, zl_16, zl_20, zl_23, zl_24, zl_30, zl_32, zl_40, zl_41, zl_43, zl_45, zl_50, zl_52, zl_60, zl_97, zl_99, zl_100, zl_124, zl_126, zl_127, zl_169, zl_170, zl_171, zl_195, zl_200, zl_201, zl_256, zl_261, zl_999, zl_1100, zl_1884, zl_4095, zl_4096, zd1, zd2, zs1, nI_add, pk_mul, zsb, zad1, zad2, zcl, zgI, zif_le, zif_nle, zif_lt, zif_nlt, zif_eq, zif_ne, zif_self, zif_T, zif_F, Nat.zero_add, Nat.add_sub_cancel, zn21, zn31, zif_m1, zif_m1l, zif_m1n, zif_pm, zb1_k, zb2_k, zb3_k, zb4_k, zb5_k, zb6_k, zb7_k, zb8_k, zb9_k, zb10_k, zb11_k, zb12_k, zb14_k, zb21_k, zb22_k, zupd_eq, zupd_ne, zupl_eq, zupl_ne, zupf_eq, zupf_ne, f1, f3, g1, zfn n0, fX7_side, r1, zi2l]
      · simp (disch := omega) only [stX11_reach, zl_0, zl_1, zl_2, zl_3, zl_4, zl_5, zl_6, zl_8, zl_9, zl_11, zl_12, zl_13, zl_16, zl_20, zl_23, zl_24, zl_30, zl_32, zl_40, zl_41, zl_43, zl_45, zl_50, zl_52, zl_60, zl_97, zl_99, zl_100, zl_124, zl_126, zl_127, zl_169, zl_170, zl_171, zl_195, zl_200, zl_201, zl_256, zl_261, zl_999, zl_1100, zl_1884, zl_4095, zl_4096, zd1, zd2, zs1, nI_add, pk_mul, zsb, zad1, zad2, zcl, zgI, zif_le, zif_nle, zif_lt, zif_nlt, zif_eq, zif_ne, zif_self, zif_T, zif_F, Nat.zero_add, Nat.add_sub_cancel, zn21, zn31, zif_m1, zif_m1l, zif_m1n, zif_pm, zb1_k, zb2_k, zb3_k, zb4_k, zb5_k, zb6_k, zb7_k, zb8_k, zb9_k, zb10_k, zb11_k, zb12_k, zb14_k, zb21_k, zb22_k, zupd_eq, zupd_ne, zupl_eq, zupl_ne, zupf_eq, zupf_ne, YL, fX11_reach_J82, t1]
        exact ⟨_, rfl, rfl, rfl, rfl, rfl, rfl⟩
    · refine zfinF (zL e.1.2) _ h0 hf ?_ ?_
      · simp (disch := omega) only [stX10_reach, fX10_reach, zl_0, zl_1, zl_2, zl_3, zl_4, zl_5, zl_6, zl_8, zl_9, zl_11, zl_12, zl_13, zl_16, zl_20, zl_23, zl_24, zl_30, zl_32, zl_40, zl_41, zl_43, zl_45, zl_50, zl_52, zl_60, zl_97, zl_99, zl_100, zl_124, zl_126, zl_127, zl_169, zl_170, zl_171, zl_195, zl_200, zl_201, zl_256, zl_261, zl_999, zl_1100, zl_1884, zl_4095, zl_4096, zd1, zd2, zs1, nI_add, pk_mul, zsb, zad1, zad2, zcl, zgI, zif_le, zif_nle, zif_lt, zif_nlt, zif_eq, zif_ne, zif_self, zif_T, zif_F, Nat.zero_add, Nat.add_sub_cancel, zn21, zn31, zif_m1, zif_m1l, zif_m1n, zif_pm, zb1_k, zb2_k, zb3_k, zb4_k, zb5_k, zb6_k, zb7_k, zb8_k, zb9_k, zb10_k, zb11_k, zb12_k, zb14_k, zb21_k, zb22_k, zupd_eq, zupd_ne, zupl_eq, zupl_ne, zupf_eq, zupf_ne, f1, f3, g1, zfn n0, fX7_side, r2, zi2l]
      · simp (disch := omega) only [stX11_reach, zl_0, zl_1, zl_2, zl_3, zl_4, zl_5, zl_6, zl_8, zl_9, zl_11, zl_12, zl_13, zl_16, zl_20, zl_23, zl_24, zl_30, zl_32, zl_40, zl_41, zl_43, zl_45, zl_50, zl_52, zl_60, zl_97, zl_99, zl_100, zl_124, zl_126, zl_127, zl_169, zl_170, zl_171, zl_195, zl_200, zl_201, zl_256, zl_261, zl_999, zl_1100, zl_1884, zl_4095, zl_4096, zd1, zd2, zs1, nI_add, pk_mul, zsb, zad1, zad2, zcl, zgI, zif_le, zif_nle, zif_lt, zif_nlt, zif_eq, zif_ne, zif_self, zif_T, zif_F, Nat.zero_add, Nat.add_sub_cancel, zn21, zn31, zif_m1, zif_m1l, zif_m1n, zif_pm, zb1_k, zb2_k, zb3_k, zb4_k, zb5_k, zb6_k, zb7_k, zb8_k, zb9_k, zb10_k, zb11_k, zb12_k, zb14_k, zb21_k, zb22_k, zupd_eq, zupd_ne, zupl_eq, zupl_ne, zupf_eq, zupf_ne, YL, fX11_reach_J82, t2]
        exact ⟨_, rfl, rfl, rfl, rfl, rfl, rfl⟩
    · refine zfinF (zL (x - zwb a n)) _ h0 hf ?_ ?_
      · simp (disch := omega) only [stX10_reach, fX10_reach, zl_0, zl_1, zl_2, zl_3, zl_4, zl_5, zl_6, zl_8, zl_9, zl_11, zl_12, zl_13, zl_16, zl_20, zl_23, zl_24, zl_30, zl_32, zl_40, zl_41, zl_43, zl_45, zl_50, zl_52, zl_60, zl_97, zl_99, zl_100, zl_124, zl_126, zl_127, zl_169, zl_170, zl_171, zl_195, zl_200, zl_201, zl_256, zl_261, zl_999, zl_1100, zl_1884, zl_4095, zl_4096, zd1, zd2, zs1, nI_add, pk_mul, zsb, zad1, zad2, zcl, zgI, zif_le, zif_nle, zif_lt, zif_nlt, zif_eq, zif_ne, zif_self, zif_T, zif_F, Nat.zero_add, Nat.add_sub_cancel, zn21, zn31, zif_m1, zif_m1l, zif_m1n, zif_pm, zb1_k, zb2_k, zb3_k, zb4_k, zb5_k, zb6_k, zb7_k, zb8_k, zb9_k, zb10_k, zb11_k, zb12_k, zb14_k, zb21_k, zb22_k, zupd_eq, zupd_ne, zupl_eq, zupl_ne, zupf_eq, zupf_ne, f1, f3, g1, zfn n0, x1, zi2l]
      · simp (disch := omega) only [stX11_reach, zl_0, zl_1, zl_2, zl_3, zl_4, zl_5, zl_6, zl_8, zl_9, zl_11, zl_12, zl_13, zl_16, zl_20, zl_23, zl_24, zl_30, zl_32, zl_40, zl_41, zl_43, zl_45, zl_50, zl_52, zl_60, zl_97, zl_99, zl_100, zl_124, zl_126, zl_127, zl_169, zl_170, zl_171, zl_195, zl_200, zl_201, zl_256, zl_261, zl_999, zl_1100, zl_1884, zl_4095, zl_4096, zd1, zd2, zs1, nI_add, pk_mul, zsb, zad1, zad2, zcl, zgI, zif_le, zif_nle, zif_lt, zif_nlt, zif_eq, zif_ne, zif_self, zif_T, zif_F, Nat.zero_add, Nat.add_sub_cancel, zn21, zn31, zif_m1, zif_m1l, zif_m1n, zif_pm, zb1_k, zb2_k, zb3_k, zb4_k, zb5_k, zb6_k, zb7_k, zb8_k, zb9_k, zb10_k, zb11_k, zb12_k, zb14_k, zb21_k, zb22_k, zupd_eq, zupd_ne, zupl_eq, zupl_ne, zupf_eq, zupf_ne, YL, fX11_reach_J82, y1, zi2l]
        exact ⟨_, rfl, rfl, rfl, rfl, rfl, rfl⟩
