/-! rows out of joins: all of a net from the left, what is joined behind both -/
def zPo (K F S : Nat → Nat) : Nat → Nat → List Nat
  | 0, _ => []
  | f + 1, i => if K i = 0 then [i] else zPo K F S f (F i) ++ zPo K F S f (S i) ++ [i]
def zpo (K F S : Nat → Nat) (i : Nat) : List Nat := zPo K F S (i + 1) i
def zAc (K F S : Nat → Nat) (n : Nat) : Prop := ∀ i, i < n → K i ≠ 0 → F i < i ∧ S i < i
theorem zPo_st {K F S : Nat → Nat} {n : Nat} (ac : zAc K F S n) : ∀ i, i < n → ∀ f g, i < f → i < g → zPo K F S f i = zPo K F S g i := by
  intro i
  induction i using Nat.strongRecOn with
  | ind i ih =>
    intro hi f g hf hg
    obtain ⟨f, rfl⟩ : ∃ x, f = x + 1 := ⟨f - 1, by omega⟩
    obtain ⟨g, rfl⟩ : ∃ x, g = x + 1 := ⟨g - 1, by omega⟩
    unfold zPo
    by_cases k : K i = 0
    · rw [if_pos k, if_pos k]
    · have h := ac i hi k
      rw [if_neg k, if_neg k, ih (F i) h.1 (by omega) f g (by omega) (by omega), ih (S i) h.2 (by omega) f g (by omega) (by omega)]
theorem zpo_0 {K F S : Nat → Nat} {i : Nat} (k : K i = 0) : zpo K F S i = [i] := if_pos k
theorem zpo_1 {K F S : Nat → Nat} {n i : Nat} (ac : zAc K F S n) (hi : i < n) (k : K i ≠ 0) : zpo K F S i = zpo K F S (F i) ++ zpo K F S (S i) ++ [i] := by
  have h := ac i hi k
  unfold zpo
  rw [show zPo K F S (i + 1) i = zPo K F S i (F i) ++ zPo K F S i (S i) ++ [i] from if_neg k, zPo_st ac (F i) (by omega) i (F i + 1) (by omega) (by omega), zPo_st ac (S i) (by omega) i (S i + 1) (by omega) (by omega)]
theorem zpo_pos {K F S : Nat → Nat} {n i : Nat} (ac : zAc K F S n) (hi : i < n) : 1 ≤ (zpo K F S i).length := by
  by_cases k : K i = 0
  · rw [zpo_0 k]; exact Nat.le_refl _
  · rw [zpo_1 ac hi k]; simp only [List.length_append, List.length_singleton]; omega
theorem zpo_lt {K F S : Nat → Nat} {n : Nat} (ac : zAc K F S n) : ∀ i, i < n → ∀ x, x ∈ zpo K F S i → x < n ∧ x ≤ i := by
  intro i
  induction i using Nat.strongRecOn with
  | ind i ih =>
    intro hi x hx
    by_cases k : K i = 0
    · rw [zpo_0 k] at hx
      have := List.mem_singleton.mp hx
      omega
    · have h := ac i hi k
      rw [zpo_1 ac hi k] at hx
      rcases List.mem_append.mp hx with hx | hx
      · rcases List.mem_append.mp hx with hx | hx
        · have := ih _ h.1 (by omega) x hx; omega
        · have := ih _ h.2 (by omega) x hx; omega
      · have := List.mem_singleton.mp hx
        omega
/-- its length, where P counts parts -/
theorem zpo_len {K F S P : Nat → Nat} {n : Nat} (ac : zAc K F S n) (h0 : ∀ i, i < n → K i = 0 → P i = 1) (h1 : ∀ i, i < n → K i ≠ 0 → P i = P (F i) + P (S i)) : ∀ i, i < n → 1 ≤ P i ∧ (zpo K F S i).length = 2 * P i - 1 := by
  intro i
  induction i using Nat.strongRecOn with
  | ind i ih =>
    intro hi
    by_cases k : K i = 0
    · rw [zpo_0 k, h0 i hi k]; exact ⟨Nat.le_refl _, rfl⟩
    · have h := ac i hi k
      have a := ih _ h.1 (by omega)
      have b := ih _ h.2 (by omega)
      rw [zpo_1 ac hi k, h1 i hi k]
      simp only [List.length_append, List.length_singleton]
      omega
/-- a stack in a row: the top is its head -/
def zSt {α β : Type} (w : Nat → α) (g : β → α) : List β → Prop
  | [] => True
  | x :: r => w r.length = g x ∧ zSt w g r
theorem zSt_fr {α β : Type} {w w' : Nat → α} {g : β → α} : ∀ {st : List β}, zSt w g st → (∀ t, t < st.length → w' t = w t) → zSt w' g st
  | [], _, _ => trivial
  | x :: r, h, e => ⟨(e _ (Nat.lt_succ_self _)).trans h.1, zSt_fr h.2 (fun t ht => e t (Nat.lt_succ_of_lt ht))⟩
/-- a row holds a list, from a place on -/
def zAr {α β : Type} (w : Nat → α) (g : β → α) : Nat → List β → Prop
  | _, [] => True
  | o, x :: r => w o = g x ∧ zAr w g (o + 1) r
theorem zAr_app {α β : Type} {w : Nat → α} {g : β → α} : ∀ {L : List β} {o : Nat} {M : List β}, zAr w g o L → zAr w g (o + L.length) M → zAr w g o (L ++ M)
  | [], o, M, _, h => h
  | x :: r, o, M, h, k => ⟨h.1, zAr_app h.2 (by rw [show o + 1 + r.length = o + (x :: r).length by simp only [List.length_cons]; omega]; exact k)⟩
theorem zAr_fr {α β : Type} {w w' : Nat → α} {g : β → α} : ∀ {L : List β} {o : Nat}, zAr w g o L → (∀ t, o ≤ t → t < o + L.length → w' t = w t) → zAr w' g o L
  | [], _, _, _ => trivial
  | x :: r, o, h, e => ⟨(e o (Nat.le_refl _) (by simp only [List.length_cons]; omega)).trans h.1, zAr_fr h.2 (fun t h1 h2 => e t (by omega) (by simp only [List.length_cons]; omega))⟩
def zM1 : Nat → Int32
  | 0 => -nI 1
  | m + 1 => nI m
theorem zM1_i (m : Nat) : nI m + -nI 1 = zM1 m := by
  cases m with
  | zero => decide
  | succ m => exact zd1 m
theorem zM1_j (m : Nat) : nI m - nI 1 = zM1 m := by
  cases m with
  | zero => decide
  | succ m => exact zs1 m
theorem zM1_p {m : Nat} (h : 1 ≤ m) : nI (m - 1) = zM1 m := by
  obtain ⟨c, rfl⟩ : ∃ c, m = c + 1 := ⟨m - 1, by omega⟩
  rfl
/-- what still waits, the bottom first -/
def zCr (K F S : Nat → Nat) : List Nat → List Nat
  | [] => []
  | x :: r => zCr K F S r ++ zpo K F S x
theorem zCr_len {K F S : Nat → Nat} {n : Nat} (ac : zAc K F S n) : ∀ st : List Nat, (∀ x, x ∈ st → x < n) → st.length ≤ (zCr K F S st).length
  | [], _ => Nat.le_refl _
  | x :: r, h => by
    have := zCr_len ac r (fun y hy => h y (List.mem_cons_of_mem _ hy))
    have := zpo_pos ac (h x List.mem_cons_self)
    unfold zCr
    simp only [List.length_append, List.length_cons]
    omega
set_option maxHeartbeats 1000000 in
theorem fx_fillL {K F S : Nat → Nat} {n np3 np4 np5 : Nat} {kinds first second : Nat → Int32} (b3 : n ≤ np3) (b4 : n ≤ np4) (b5 : n ≤ np5) (c3 : np3 ≤ 2147483647) (c4 : np4 ≤ 2147483647) (c5 : np5 ≤ 2147483647) (hk : ∀ i, i < n → kinds i = nI (K i)) (hf : ∀ i, i < n → first i = nI (F i)) (hs : ∀ i, i < n → K i ≠ 0 → second i = nI (S i)) (hK : ∀ i, i < n → K i ≤ 2) (ac : zAc K F S n) (len : Int32) : ∀ (m : Nat) (st : List Nat) (fu : Nat) (v6 v7 : Int32) (w kd so : Nat → Int32), (zCr K F S st).length = m → m ≤ 23 → m < fu → (∀ x, x ∈ st → x < n) → v6 = nI st.length → v7 = zM1 m → zSt w nI st → ∃ w' kd' so', fX6_fill_L37 np3 kinds np4 first np5 second len fu v6 v7 w kd so = some (len, w', kd', so') ∧ zAr kd' (fun i => nI (K i)) 0 (zCr K F S st) ∧ zAr so' (fun i => nI (F i)) 0 (zCr K F S st) ∧ (∀ t, m ≤ t → kd' t = kd t ∧ so' t = so t) := by
  intro m
  induction m with
  | zero =>
    intro st fu v6 v7 w kd so hl hm hfu hst e6 e7 hw
    obtain ⟨fu, rfl⟩ : ∃ f, fu = f + 1 := ⟨fu - 1, by omega⟩
    have h0 : zCr K F S st = [] := List.eq_nil_of_length_eq_zero hl
    refine ⟨w, kd, so, ?_, by rw [h0]; exact trivial, by rw [h0]; exact trivial, fun t _ => ⟨rfl, rfl⟩⟩
    rw [fX6_fill_L37_s, e7]
    simp (disch := omega) only [zl_0, zl_1, zl_2, zl_3, zl_4, zl_5, zl_6, zl_8, zl_9, zl_11, zl_12, zl_13, zl_16, zl_20, zl_23, zl_24, zl_30, zl_32, zl_40, zl_41, zl_43, zl_45, zl_50, zl_52, zl_60, zl_97, zl_99, zl_100, zl_124, zl_126, zl_127, zl_169, zl_170, zl_171, zl_195, zl_200, zl_201, zl_256, zl_261, zl_999, zl_1100, zl_1884, zl_4095, zl_4096, zd1, zd2, zs1, nI_add, pk_mul, zsb, zad1, zad2, zcl, zgI, zif_le, zif_nle, zif_lt, zif_nlt, zif_eq, zif_ne, zif_self, zif_T, zif_F, Nat.zero_add, Nat.add_sub_cancel, zn21, zn31, zif_m1, zif_m1l, zif_m1n, zif_pm, zb1_k, zb2_k, zb3_k, zb4_k, zb5_k, zb6_k, zb7_k, zb8_k, zb9_k, zb10_k, zb11_k, zb12_k, zb14_k, zb21_k, zb22_k, zupd_eq, zupd_ne, zupl_eq, zupl_ne, zupf_eq, zupf_ne, zM1]
  | succ m ih =>
    intro st fu v6 v7 w kd so hl hm hfu hst e6 e7 hw
    obtain ⟨fu, rfl⟩ : ∃ f, fu = f + 1 := ⟨fu - 1, by omega⟩
    cases st with
    | nil => cases hl
    | cons x r =>
      have hx := hst x List.mem_cons_self
      have hr : ∀ y, y ∈ r → y < n := fun y hy => hst y (List.mem_cons_of_mem _ hy)
      have hxr := zCr_len ac (x :: r) hst
      rw [hl] at hxr
      simp only [List.length_cons] at hxr e6
      obtain ⟨hw1, hw2⟩ := hw
      have k1 := hk x hx
      have f1 := hf x hx
      have kb := hK x hx
      rw [fX6_fill_L37_s, e6, e7]
      by_cases k : K x = 0
      · have hl2 : (zCr K F S r).length = m := by
          unfold zCr at hl
          rw [zpo_0 k] at hl
          simp only [List.length_append, List.length_singleton] at hl
          omega
        obtain ⟨w', kd', so', g1, g2, g3, g4⟩ := ih r fu (nI r.length) (zM1 m) w (upd kd m (nI (K x))) (upd so m (nI (F x))) hl2 (by omega) (by omega) hr rfl rfl hw2
        refine ⟨w', kd', so', ?_, ?_, ?_, ?_⟩
        · rw [← g1, ← zM1_i m]
          simp (disch := omega) only [zl_0, zl_1, zl_2, zl_3, zl_4, zl_5, zl_6, zl_8, zl_9, zl_11, zl_12, zl_13, zl_16, zl_20, zl_23, zl_24, zl_30, zl_32, zl_40, zl_41, zl_43, zl_45, zl_50, zl_52, zl_60, zl_97, zl_99, zl_100, zl_124, zl_126, zl_127, zl_169, zl_170, zl_171, zl_195, zl_200, zl_201, zl_256, zl_261, zl_999, zl_1100, zl_1884, zl_4095, zl_4096, zd1, zd2, zs1, nI_add, pk_mul, zsb, zad1, zad2, zcl, zgI, zif_le, zif_nle, zif_lt, zif_nlt, zif_eq, zif_ne, zif_self, zif_T, zif_F, Nat.zero_add, Nat.add_sub_cancel, zn21, zn31, zif_m1, zif_m1l, zif_m1n, zif_pm, zb1_k, zb2_k, zb3_k, zb4_k, zb5_k, zb6_k, zb7_k, zb8_k, zb9_k, zb10_k, zb11_k, zb12_k, zb14_k, zb21_k, zb22_k, zupd_eq, zupd_ne, zupl_eq, zupl_ne, zupf_eq, zupf_ne, zM1, hw1, k1, f1]
        · unfold zCr
          rw [zpo_0 k]
          refine zAr_app g2 ⟨?_, trivial⟩
          rw [Nat.zero_add, hl2, (g4 m (Nat.le_refl _)).1, zupd_eq rfl]
        · unfold zCr
          rw [zpo_0 k]
          refine zAr_app g3 ⟨?_, trivial⟩
          rw [Nat.zero_add, hl2, (g4 m (Nat.le_refl _)).2, zupd_eq rfl]
        · intro t ht
          rw [(g4 t (by omega)).1, (g4 t (by omega)).2, zupd_ne (by omega), zupd_ne (by omega)]
          exact ⟨rfl, rfl⟩
      · have hF := ac x hx k
        have s1 := hs x hx k
        have hcat : zCr K F S (x :: r) = zCr K F S (S x :: F x :: r) ++ [x] := by
          show zCr K F S r ++ zpo K F S x = ((zCr K F S r ++ zpo K F S (F x)) ++ zpo K F S (S x)) ++ [x]
          rw [zpo_1 ac hx k]
          simp only [List.append_assoc]
        have hl2 : (zCr K F S (S x :: F x :: r)).length = m := by
          rw [hcat] at hl
          simp only [List.length_append, List.length_singleton] at hl
          omega
        obtain ⟨w', kd', so', g1, g2, g3, g4⟩ := ih (S x :: F x :: r) fu (nI (r.length + 2)) (zM1 m) (upd (upd w r.length (nI (F x))) (r.length + 1) (nI (S x))) (upd kd m (nI (K x))) (upd so m (nI (F x))) hl2 (by omega) (by omega) (by
            intro y hy
            rcases List.mem_cons.mp hy with rfl | hy
            · omega
            · rcases List.mem_cons.mp hy with rfl | hy
              · omega
              · exact hr y hy) rfl rfl ⟨zupd_eq rfl, (zupd_ne (by omega)).trans (zupd_eq rfl), zSt_fr hw2 (fun t ht => by rw [zupd_ne (by omega), zupd_ne (by omega)])⟩
        refine ⟨w', kd', so', ?_, ?_, ?_, ?_⟩
        · rw [← g1, ← zM1_i m]
          simp (disch := omega) only [zl_0, zl_1, zl_2, zl_3, zl_4, zl_5, zl_6, zl_8, zl_9, zl_11, zl_12, zl_13, zl_16, zl_20, zl_23, zl_24, zl_30, zl_32, zl_40, zl_41, zl_43, zl_45, zl_50, zl_52, zl_60, zl_97, zl_99, zl_100, zl_124, zl_126, zl_127, zl_169, zl_170, zl_171, zl_195, zl_200, zl_201, zl_256, zl_261, zl_999, zl_1100, zl_1884, zl_4095, zl_4096, zd1, zd2, zs1, nI_add, pk_mul, zsb, zad1, zad2, zcl, zgI, zif_le, zif_nle, zif_lt, zif_nlt, zif_eq, zif_ne, zif_self, zif_T, zif_F, Nat.zero_add, Nat.add_sub_cancel, zn21, zn31, zif_m1, zif_m1l, zif_m1n, zif_pm, zb1_k, zb2_k, zb3_k, zb4_k, zb5_k, zb6_k, zb7_k, zb8_k, zb9_k, zb10_k, zb11_k, zb12_k, zb14_k, zb21_k, zb22_k, zupd_eq, zupd_ne, zupl_eq, zupl_ne, zupf_eq, zupf_ne, zM1, hw1, k1, f1, s1]
        · rw [hcat]
          refine zAr_app g2 ⟨?_, trivial⟩
          rw [Nat.zero_add, hl2, (g4 m (Nat.le_refl _)).1, zupd_eq rfl]
        · rw [hcat]
          refine zAr_app g3 ⟨?_, trivial⟩
          rw [Nat.zero_add, hl2, (g4 m (Nat.le_refl _)).2, zupd_eq rfl]
        · intro t ht
          rw [(g4 t (by omega)).1, (g4 t (by omega)).2, zupd_ne (by omega), zupd_ne (by omega)]
          exact ⟨rfl, rfl⟩
/-! the nets' own: what waits in the plain form is a net (left) or a mark (right) -/
def zIt : Nat ⊕ Nat → Int32
  | .inl i => nI i
  | .inr i => -nI 1 - nI i
def zFl (K F S : Nat → Nat) : List (Nat ⊕ Nat) → List Nat
  | [] => []
  | .inl i :: r => zpo K F S i ++ zFl K F S r
  | .inr i :: r => i :: zFl K F S r
def zSi (w : Nat → Int32) : List (Nat ⊕ Nat) → Prop
  | [] => True
  | x :: r => w r.length = zIt x ∧ zSi w r
def zOk2 (K : Nat → Nat) (n : Nat) : List (Nat ⊕ Nat) → Prop
  | [] => True
  | .inl i :: r => i < n ∧ zOk2 K n r
  | .inr i :: r => (i < n ∧ K i ≠ 0) ∧ zOk2 K n r
theorem zSi_fr {w w' : Nat → Int32} : ∀ {st : List (Nat ⊕ Nat)}, zSi w st → (∀ t, t < st.length → w' t = w t) → zSi w' st
  | [], _, _ => trivial
  | x :: r, h, e => ⟨(e _ (Nat.lt_succ_self _)).trans h.1, zSi_fr h.2 (fun t ht => e t (Nat.lt_succ_of_lt ht))⟩
theorem zFl_len {K F S : Nat → Nat} {n : Nat} (ac : zAc K F S n) : ∀ st : List (Nat ⊕ Nat), zOk2 K n st → st.length ≤ (zFl K F S st).length
  | [], _ => Nat.le_refl _
  | .inl i :: r, h => by
    have := zFl_len ac r h.2
    have := zpo_pos ac h.1
    unfold zFl
    simp only [List.length_append, List.length_cons]
    omega
  | .inr i :: r, h => by
    have := zFl_len ac r h.2
    unfold zFl
    simp only [List.length_cons]
    omega
theorem zmk_lt {i : Nat} (h : i < 1073741824) : (-nI 1 - nI i) < nI 0 := by
  rw [Int32.lt_iff_toInt_lt, Int32.toInt_sub, nI_toInt (n := i) (by omega), show (-nI 1).toInt = -1 from by decide, show (nI 0).toInt = 0 from by decide, Int.bmod_eq_of_le (by omega) (by omega)]
  omega
theorem zmk_bk (i : Nat) : -nI 1 - (-nI 1 - nI i) = nI i := by
  rw [Int32.sub_eq_add_neg (-nI 1) (-nI 1 - nI i), Int32.sub_eq_add_neg (-nI 1) (nI i), Int32.neg_add, Int32.neg_neg, Int32.sub_eq_add_neg, Int32.neg_neg, ← Int32.add_assoc, Int32.add_left_neg, Int32.zero_add]
/-- how many turns are left: two a join, one a part, one a mark -/
def zTu (P : Nat → Nat) : List (Nat ⊕ Nat) → Nat
  | [] => 0
  | .inl i :: r => 3 * P i - 2 + zTu P r
  | .inr _ :: r => 1 + zTu P r
