/-! value, alike, fails -/
def zScr (ms ms' : MS) : Prop := m_now ms' = m_now ms ∧ m_imaged ms' = m_imaged ms ∧ m_hasImage ms' = m_hasImage ms ∧ m_size ms' = m_size ms ∧ m_tape ms' = m_tape ms
theorem zRl_scr {Fd : FD → Prop} {xs : XS} {ms ms' : MS} (h : zRl Fd xs ms) (e : zScr ms ms') : zRl Fd xs ms' := by
  obtain ⟨a, hv, hx, hm, hi, ht, hf⟩ := h
  obtain ⟨e1, e2, e3, e4, e5⟩ := e
  refine ⟨a, hv, hx, e1 ▸ hm, ?_, ?_, hf⟩
  · unfold zIm
    rw [e2, e3]
    exact hi
  · unfold zTp
    rw [e4, e5]
    exact ht
theorem zfinM {A : Type} {Fd : FD → Prop} {k : Nat} {xs : XS} {ms : MS} {x : Option (A × XS)} {m : Option (A × MS)} (r : A) (h : zRl Fd xs ms) (hx : ∃ q, x = some (r, (xs.1, xs.2.1, q, xs.2.2.2))) (hm : ∃ ms', m = some (r, ms') ∧ zScr ms ms') : ∃ (r : A) (xs' : XS) (ms' : MS), x = some (r, xs') ∧ m = some (r, ms') ∧ zR Fd k xs' ms' := by
  obtain ⟨q, hx⟩ := hx
  obtain ⟨ms', hm, hs⟩ := hm
  exact ⟨r, _, ms', hx, hm, zRl_scr (ms := ms) h hs⟩
theorem zfin0 {A : Type} {Fd : FD → Prop} {k : Nat} {xs : XS} {ms : MS} {x : Option (A × XS)} {m : Option (A × MS)} (r : A) (h : zRl Fd xs ms) (hx : x = some (r, xs)) (hm : m = some (r, ms)) : ∃ (r : A) (xs' : XS) (ms' : MS), x = some (r, xs') ∧ m = some (r, ms') ∧ zR Fd k xs' ms' := ⟨r, xs, ms, hx, hm, h⟩
def zSpc (a : Nat → Nat) (i : Nat) (fp : Option Nat) (how : Nat) (res : Int32) (wa wb : Int64) : Prop := (zRo (aK a) (zLf a fp how) [] 0 (apo a i) = [none] ∧ res = nI 0) ∨ ∃ q, zRo (aK a) (zLf a fp how) [] 0 (apo a i) = [some q] ∧ zOp q ∧ res = nI 1 ∧ wa = zL q.1 ∧ wb = zL q.2
theorem fx_mw {a : Nat → Nat} {i how : Nat} {kd so ohms : Nat → Int32} {fp : Option Nat} (c1 c2 : Int64) (fa fb : Nat → Int64) (hv : zV a) (hi : i < a 8) (ho : ∀ s, s < 4 → ohms s = nI (a s)) (hh : how ≤ 1) (hfp : ∀ q, fp = some q → q < 12) (ak : zAr kd (fun i => nI (aK a i)) 0 (apo a i)) (as : zAr so (fun i => nI (aF a i)) 0 (apo a i)) : ∃ fa' fb' wa wb res, fX4_measureWalk (zopt fp) (nI how) (nI (2 * aP a i - 1)) kd so ohms c1 c2 fa fb = some (res, wa, wb, fa', fb') ∧ zSpc a i fp how res wa wb := by
  have l := apo_len hv hi
  have b := zNet_b hv.2.2.1 hi hv.2.1
  have e := zLv_po (zAc_net hv) (zP0_net hv) (zP1_net hv) i hi
  obtain ⟨fa', fb', wa, wb, res, g1, g2⟩ := fx_mwL (root := i) (len := 2 * aP a i - 1) c1 c2 hv ho hh hfp (by omega) (apo a i) [] [] 0 0 5000 fa fb (zEv_root (zAc_net hv) hi) rfl (fun x hx => by cases hx) (by rw [e]; show 0 + _ ≤ _; omega) (fun x hx => by cases hx) (fun x hx => (zpo_lt (zAc_net hv) i hi x hx).1) (by rw [l.2]; omega) (by rw [l.2]; omega) (by rw [e]; omega) ak as trivial trivial
  exact ⟨fa', fb', wa, wb, res, g1, g2⟩
theorem fx_measure {a : Nat → Nat} {i how : Nat} {cnt : Int32} {kind first second parts ohms spread : Nat → Int32} {fp : Option Nat} (hv : zV a) (hx : zXn a cnt kind first second parts) (ho : zXb a ohms spread) (hi : i < a 8) (hh : how ≤ 1) (hfp : ∀ q, fp = some q → q < 12) (pl : Int32) (pw pk ps : Nat → Int32) (c1 c2 : Int64) (fa fb : Nat → Int64) : ∃ pl' pw' pk' ps' fa' fb' wa wb res, fX4_measure (nI i) (zopt fp) (nI how) parts pl pw kind pk first ps second ohms c1 c2 fa fb = some (res, pl', pw', pk', ps', wa, wb, fa', fb') ∧ zSpc a i fp how res wa wb := by
  obtain ⟨pw', pk', ps', g1, g2, g3⟩ := fx_walk hv hx hi pl pw pk ps
  obtain ⟨fa', fb', wa, wb, res, g4, g5⟩ := fx_mw c1 c2 fa fb hv hi ho.1 hh hfp g2 g3
  refine ⟨nI (2 * aP a i - 1), pw', pk', ps', fa', fb', wa, wb, res, ?_, g5⟩
  unfold fX4_measure
  simp only [g1, zb4_k, g4, zb5_k]
theorem fm_vf {a : Nat → Nat} {i how fp : Nat} {ord now : Nat → Int32} (c d : Int64) (fa fb : Nat → Int64) (hv : zV a) (hm : zMn a now) (hi : i < a 8) (hh : how ≤ 1) (hfp : fp < 12) (ao : zAr ord nI 0 (apo a i)) : ∃ fa' fb' q, fX11_valueFailing (nI fp) (nI how) c d (nI (2 * aP a i - 1)) ord now fa fb = some ((zEn q).1, (zEn q).2, fa', fb') ∧ zRo (aK a) (zLf a (some fp) how) [] 0 (apo a i) = [q] ∧ zOo q := by
  have l := apo_len hv hi
  have b := zNet_b hv.2.2.1 hi hv.2.1
  have e := zLv_po (zAc_net hv) (zP0_net hv) (zP1_net hv) i hi
  obtain ⟨fa', fb', q, g1, g2, g3⟩ := fm_vfL (root := i) (len := 2 * aP a i - 1) hv hm hh hfp (by omega) (apo a i) [] [] 0 0 5000 c d fa fb (zEv_root (zAc_net hv) hi) rfl (fun x hx => by cases hx) (by rw [e]; show 0 + _ ≤ _; omega) (fun x hx => by cases hx) (fun x hx => (zpo_lt (zAc_net hv) i hi x hx).1) (by rw [l.2]; omega) (by rw [l.2]; omega) (by rw [e]; omega) ao trivial trivial
  exact ⟨fa', fb', q, g1, g2, g3⟩
/-! what each net is worth, none failing -/
def zDn (a : Nat → Nat) : Nat → Nat → Option (Nat × Nat)
  | 0, _ => none
  | f + 1, i => if aK a i = 0 then some (a (aF a i), 1) else zCo (aK a i) (zDn a f (aF a i)) (zDn a f (aS a i))
def zdn (a : Nat → Nat) (i : Nat) : Option (Nat × Nat) := zDn a (i + 1) i
theorem zDn_st {a : Nat → Nat} (ac : zAc (aK a) (aF a) (aS a) (a 8)) : ∀ i, i < a 8 → ∀ f g, i < f → i < g → zDn a f i = zDn a g i := by
  intro i
  induction i using Nat.strongRecOn with
  | ind i ih =>
    intro hi f g hf hg
    obtain ⟨f, rfl⟩ : ∃ x, f = x + 1 := ⟨f - 1, by omega⟩
    obtain ⟨g, rfl⟩ : ∃ x, g = x + 1 := ⟨g - 1, by omega⟩
    unfold zDn
    by_cases k : aK a i = 0
    · rw [if_pos k, if_pos k]
    · have h := ac i hi k
      rw [if_neg k, if_neg k, ih _ h.1 (by omega) f g (by omega) (by omega), ih _ h.2 (by omega) f g (by omega) (by omega)]
theorem zdn_0 {a : Nat → Nat} {i : Nat} (k : aK a i = 0) : zdn a i = some (a (aF a i), 1) := if_pos k
theorem zdn_1 {a : Nat → Nat} {i : Nat} (ac : zAc (aK a) (aF a) (aS a) (a 8)) (hi : i < a 8) (k : aK a i ≠ 0) : zdn a i = zCo (aK a i) (zdn a (aF a i)) (zdn a (aS a i)) := by
  have h := ac i hi k
  unfold zdn
  rw [show zDn a (i + 1) i = zCo (aK a i) (zDn a i (aF a i)) (zDn a i (aS a i)) from if_neg k, zDn_st ac (aF a i) (by omega) i (aF a i + 1) (by omega) (by omega), zDn_st ac (aS a i) (by omega) i (aS a i + 1) (by omega) (by omega)]
theorem zdn_ok {a : Nat → Nat} (hv : zV a) : ∀ i, i < a 8 → zOo (zdn a i) := by
  intro i
  induction i using Nat.strongRecOn with
  | ind i ih =>
    intro hi
    by_cases k : aK a i = 0
    · rw [zdn_0 k]
      have hF : aF a i < 4 := by rcases hv.2.2.1 i hi with h | h <;> omega
      have b := (hv.1 _ hF).1
      exact ⟨by show a (aF a i) ≤ _; omega, by show 1 ≤ _; omega, Nat.gcd_one_right _⟩
    · have h := zAc_net hv i hi k
      rw [zdn_1 (zAc_net hv) hi k]
      exact zCo_ok (ih _ h.1 (by omega)) (ih _ h.2 (by omega))
theorem zRo_p {K : Nat → Nat} {lf : Nat → Nat → Option (Nat × Nat)} (hl : ∀ p q i, lf p i = lf q i) : ∀ (r : List Nat) (vs : List (Option (Nat × Nat))) (p q : Nat), zRo K lf vs p r = zRo K lf vs q r
  | [], _, _, _ => rfl
  | i :: r, vs, p, q => by
    by_cases k : K i = 0
    · rw [zRo_0 k, zRo_0 k, hl p q i]
      exact zRo_p hl r _ _ _
    · match vs with
      | y :: x :: t => rw [zRo_1 k, zRo_1 k]; exact zRo_p hl r _ _ _
      | [] => show (if K i = 0 then _ else _) = (if K i = 0 then _ else _); rw [if_neg k, if_neg k]
      | [x] => show (if K i = 0 then _ else _) = (if K i = 0 then _ else _); rw [if_neg k, if_neg k]
theorem zRo_dn {a : Nat → Nat} {how : Nat} (ac : zAc (aK a) (aF a) (aS a) (a 8)) : ∀ i, i < a 8 → ∀ (vs : List (Option (Nat × Nat))) (p : Nat) (r : List Nat), zRo (aK a) (zLf a none how) vs p (apo a i ++ r) = zRo (aK a) (zLf a none how) (zdn a i :: vs) p r := by
  have hl : ∀ p q i, zLf a none how p i = zLf a none how q i := fun p q i => by
    unfold zLf
    rw [if_neg (fun e => by cases e), if_neg (fun e => by cases e)]
  intro i
  induction i using Nat.strongRecOn with
  | ind i ih =>
    intro hi vs p r
    by_cases k : aK a i = 0
    · rw [show apo a i = [i] from zpo_0 k, zdn_0 k]
      show zRo (aK a) (zLf a none how) vs p (i :: r) = _
      rw [zRo_0 k, zRo_p hl r _ (p + 1) p]
      have el : zLf a none how p i = some (a (aF a i), 1) := by unfold zLf; rw [if_neg (fun e => by cases e)]
      rw [el]
    · have h := ac i hi k
      rw [show apo a i = apo a (aF a i) ++ apo a (aS a i) ++ [i] from zpo_1 ac hi k, List.append_assoc, List.append_assoc, ih _ h.1 (by omega), ih _ h.2 (by omega), zdn_1 ac hi k]
      show zRo (aK a) (zLf a none how) _ p (i :: r) = _
      rw [zRo_1 k]
theorem zRo_dn0 {a : Nat → Nat} {how : Nat} (ac : zAc (aK a) (aF a) (aS a) (a 8)) {i : Nat} (hi : i < a 8) : zRo (aK a) (zLf a none how) [] 0 (apo a i) = [zdn a i] := by
  have := zRo_dn (how := how) ac i hi [] 0 []
  rw [List.append_nil] at this
  exact this
set_option maxHeartbeats 1000000 in
theorem fm_values {a : Nat → Nat} {now : Nat → Int32} (hv : zV a) (hm : zMn a now) (c d : Int64) (u w : Nat → Int64) : ∃ c' d' u' w', fX11_values c d now u w = some (c', d', u', w') ∧ ∀ i, i < a 8 → u' i = (zEn (zdn a i)).1 ∧ w' i = (zEn (zdn a i)).2 := by
  have h8 := hv.2.1
  have key : ∀ e j fu (c d : Int64) (u w : Nat → Int64), j + e = a 8 → e < fu → (∀ i, i < j → u i = (zEn (zdn a i)).1 ∧ w i = (zEn (zdn a i)).2) → ∃ c' d' u' w', fX11_values_L2 now fu (nI j) c d u w = some (c', d', u', w') ∧ ∀ i, i < a 8 → u' i = (zEn (zdn a i)).1 ∧ w' i = (zEn (zdn a i)).2 := by
    intro e
    induction e with
    | zero =>
      intro j fu c d u w hj hfu h
      obtain ⟨fu, rfl⟩ : ∃ f, fu = f + 1 := ⟨fu - 1, by omega⟩
      refine ⟨c, d, u, w, ?_, fun i hi => h i (by omega)⟩
      rw [fX11_values_L2_s]
      simp (disch := omega) only [zl_0, zl_1, zl_2, zl_3, zl_4, zl_5, zl_6, zl_8, zl_9, zl_11, zl_12, zl_13, zl_16, zl_20, zl_23, zl_24, zl_30, zl_32, zl_40, zl_41, zl_43, zl_45, zl_50, zl_52, zl_60, zl_97, zl_99, zl_100, zl_124, zl_126, zl_127, zl_169, zl_170, zl_171, zl_195, zl_200, zl_201, zl_256, zl_261, zl_999, zl_1100, zl_1884, zl_4095, zl_4096, zd1, zd2, zs1, nI_add, pk_mul, zsb, zad1, zad2, zcl, zgI, zif_le, zif_nle, zif_lt, zif_nlt, zif_eq, zif_ne, zif_self, zif_T, zif_F, Nat.zero_add, Nat.add_sub_cancel, zn21, zn31, zif_m1, zif_m1l, zif_m1n, zif_pm, zb1_k, zb2_k, zb3_k, zb4_k, zb5_k, zb6_k, zb7_k, zb8_k, zb9_k, zb10_k, zb11_k, zb12_k, zb14_k, zb21_k, zb22_k, zupd_eq, zupd_ne, zupl_eq, zupl_ne, zupf_eq, zupf_ne, hm.1]
    | succ e ih =>
      intro j fu c d u w hj hfu h
      obtain ⟨fu, rfl⟩ : ∃ f, fu = f + 1 := ⟨fu - 1, by omega⟩
      have hj2 : j < a 8 := by omega
      have kO := fm_kindOf hm (i := j) (by omega)
      have fO := fm_firstOf hm (i := j) (by omega)
      have sO := fm_secondOf hm (i := j) (by omega)
      have b := zNet_b hv.2.2.1 hj2 h8
      have hn : ∀ i, i < j + 1 → vp_updL u j (zEn (zdn a j)).1 i = (zEn (zdn a i)).1 ∧ vp_updL w j (zEn (zdn a j)).2 i = (zEn (zdn a i)).2 := fun i hi => by
        by_cases q : i = j
        · rw [zupl_eq q, zupl_eq q, q]; exact ⟨rfl, rfl⟩
        · rw [zupl_ne q, zupl_ne q]; exact h i (by omega)
      obtain ⟨c', d', u', w', g1, g2⟩ := ih (j + 1) fu (zEn (zdn a j)).1 (zEn (zdn a j)).2 (vp_updL u j (zEn (zdn a j)).1) (vp_updL w j (zEn (zdn a j)).2) (by omega) (by omega) hn
      refine ⟨c', d', u', w', ?_, g2⟩
      rw [fX11_values_L2_s]
      by_cases k : aK a j = 0
      · have hF : aF a j < 4 := by rcases hv.2.2.1 j hj2 with h | h <;> omega
        have bo := (hv.1 _ hF).1
        have hbc := fm_becomes (u := a (aF a j)) (v := 1) (c := c) (d := d) (by omega) (by omega) (by omega)
        rw [zRd_id (Nat.gcd_one_right _)] at hbc
        have hb2 := hbc.2 (fun z => by rcases z with z | z; exact absurd z (by show ¬ 1000000000 < a (aF a j); omega); exact absurd z (by show ¬ 1000000000 < 1; omega))
        rw [← zdn_0 k] at hb2
        obtain ⟨Z, hZ⟩ : ∃ Z, zEn (zdn a j) = Z := ⟨_, rfl⟩
        rw [hZ] at hb2 g1
        obtain ⟨Z1, Z2⟩ := Z
        simp (disch := omega) only [zl_0, zl_1, zl_2, zl_3, zl_4, zl_5, zl_6, zl_8, zl_9, zl_11, zl_12, zl_13, zl_16, zl_20, zl_23, zl_24, zl_30, zl_32, zl_40, zl_41, zl_43, zl_45, zl_50, zl_52, zl_60, zl_97, zl_99, zl_100, zl_124, zl_126, zl_127, zl_169, zl_170, zl_171, zl_195, zl_200, zl_201, zl_256, zl_261, zl_999, zl_1100, zl_1884, zl_4095, zl_4096, zd1, zd2, zs1, nI_add, pk_mul, zsb, zad1, zad2, zcl, zgI, zif_le, zif_nle, zif_lt, zif_nlt, zif_eq, zif_ne, zif_self, zif_T, zif_F, Nat.zero_add, Nat.add_sub_cancel, zn21, zn31, zif_m1, zif_m1l, zif_m1n, zif_pm, zb1_k, zb2_k, zb3_k, zb4_k, zb5_k, zb6_k, zb7_k, zb8_k, zb9_k, zb10_k, zb11_k, zb12_k, zb14_k, zb21_k, zb22_k, zupd_eq, zupd_ne, zupl_eq, zupl_ne, zupf_eq, zupf_ne, hm.1, kO, fO, k, zi2l, zl64_1, hb2, fX11_values_J91, g1]
      · have hF := zAc_net hv j hj2 k
        have jn := fm_joined (kk := aK a j) (c := c) (d := d) (by omega) (zdn_ok hv (aF a j) (by omega)) (zdn_ok hv (aS a j) (by omega))
        rw [← zdn_1 (zAc_net hv) hj2 k] at jn
        obtain ⟨u1, u2⟩ := h _ hF.1
        obtain ⟨u3, u4⟩ := h _ hF.2
        obtain ⟨Z, hZ⟩ : ∃ Z, zEn (zdn a j) = Z := ⟨_, rfl⟩
        rw [hZ] at jn g1
        obtain ⟨Z1, Z2⟩ := Z
        simp (disch := omega) only [zl_0, zl_1, zl_2, zl_3, zl_4, zl_5, zl_6, zl_8, zl_9, zl_11, zl_12, zl_13, zl_16, zl_20, zl_23, zl_24, zl_30, zl_32, zl_40, zl_41, zl_43, zl_45, zl_50, zl_52, zl_60, zl_97, zl_99, zl_100, zl_124, zl_126, zl_127, zl_169, zl_170, zl_171, zl_195, zl_200, zl_201, zl_256, zl_261, zl_999, zl_1100, zl_1884, zl_4095, zl_4096, zd1, zd2, zs1, nI_add, pk_mul, zsb, zad1, zad2, zcl, zgI, zif_le, zif_nle, zif_lt, zif_nlt, zif_eq, zif_ne, zif_self, zif_T, zif_F, Nat.zero_add, Nat.add_sub_cancel, zn21, zn31, zif_m1, zif_m1l, zif_m1n, zif_pm, zb1_k, zb2_k, zb3_k, zb4_k, zb5_k, zb6_k, zb7_k, zb8_k, zb9_k, zb10_k, zb11_k, zb12_k, zb14_k, zb21_k, zb22_k, zupd_eq, zupd_ne, zupl_eq, zupl_ne, zupf_eq, zupf_ne, hm.1, kO, fO, sO, u1, u2, u3, u4, jn, fX11_values_J91, g1]
  unfold fX11_values
  exact key (a 8) 0 5000 c d u w (by omega) (by omega) (fun i hi => by omega)
theorem q_value {Fd : FD → Prop} {k : Nat} : zQ_value (zR Fd) k := by
  intro xs ms h p1 p2
  have h0 := h
  obtain ⟨a, hv, hx, hm, hr⟩ := h
  obtain ⟨hB, hN, hM, hT0, hT1, hT2⟩ := id hx
  have h8 := hv.2.1
  have hc : x_nets_count xs = nI (a 8) := hN.1
  have hm8 : m_now ms 8 = nI (a 8) := hm.1 8 (by omega)
  rcases znet p1 h8 hm8 with ⟨e1, e2⟩ | ⟨i, hi, rfl, e1, e2⟩
  · refine zfin0 (-9223372036854775808 : Int64) h0 ?_ ?_
    · simp (disch := omega) only [stX10_value, fX10_value, zl_0, zl_1, zl_2, zl_3, zl_4, zl_5, zl_6, zl_8, zl_9, zl_11, zl_12, zl_13, zl_16, zl_20, zl_23, zl_24, zl_30, zl_32, zl_40, zl_41, zl_43, zl_45, zl_50, zl_52, zl_60, zl_97, zl_99, zl_100, zl_124, zl_126, zl_127, zl_169, zl_170, zl_171, zl_195, zl_200, zl_201, zl_256, zl_261, zl_999, zl_1100, zl_1884, zl_4095, zl_4096, zd1, zd2, zs1, nI_add, pk_mul, zsb, zad1, zad2, zcl, zgI, zif_le, zif_nle, zif_lt, zif_nlt, zif_eq, zif_ne, zif_self, zif_T, zif_F, Nat.zero_add, Nat.add_sub_cancel, zn21, zn31, zif_m1, zif_m1l, zif_m1n, zif_pm, zb1_k, zb2_k, zb3_k, zb4_k, zb5_k, zb6_k, zb7_k, zb8_k, zb9_k, zb10_k, zb11_k, zb12_k, zb14_k, zb21_k, zb22_k, zupd_eq, zupd_ne, zupl_eq, zupl_ne, zupf_eq, zupf_ne, hc, e1]
    · simp (disch := omega) only [stX11_value, fX11_value, zl_0, zl_1, zl_2, zl_3, zl_4, zl_5, zl_6, zl_8, zl_9, zl_11, zl_12, zl_13, zl_16, zl_20, zl_23, zl_24, zl_30, zl_32, zl_40, zl_41, zl_43, zl_45, zl_50, zl_52, zl_60, zl_97, zl_99, zl_100, zl_124, zl_126, zl_127, zl_169, zl_170, zl_171, zl_195, zl_200, zl_201, zl_256, zl_261, zl_999, zl_1100, zl_1884, zl_4095, zl_4096, zd1, zd2, zs1, nI_add, pk_mul, zsb, zad1, zad2, zcl, zgI, zif_le, zif_nle, zif_lt, zif_nlt, zif_eq, zif_ne, zif_self, zif_T, zif_F, Nat.zero_add, Nat.add_sub_cancel, zn21, zn31, zif_m1, zif_m1l, zif_m1n, zif_pm, zb1_k, zb2_k, zb3_k, zb4_k, zb5_k, zb6_k, zb7_k, zb8_k, zb9_k, zb10_k, zb11_k, zb12_k, zb14_k, zb21_k, zb22_k, zupd_eq, zupd_ne, zupl_eq, zupl_ne, zupf_eq, zupf_ne, e2]
  rcases zrg p2 0 1 (by decide) (by decide) with e3 | ⟨w, _, hw, rfl, e3⟩
  · refine zfin0 (-9223372036854775808 : Int64) h0 ?_ ?_
    · simp (disch := omega) only [stX10_value, fX10_value, zl_0, zl_1, zl_2, zl_3, zl_4, zl_5, zl_6, zl_8, zl_9, zl_11, zl_12, zl_13, zl_16, zl_20, zl_23, zl_24, zl_30, zl_32, zl_40, zl_41, zl_43, zl_45, zl_50, zl_52, zl_60, zl_97, zl_99, zl_100, zl_124, zl_126, zl_127, zl_169, zl_170, zl_171, zl_195, zl_200, zl_201, zl_256, zl_261, zl_999, zl_1100, zl_1884, zl_4095, zl_4096, zd1, zd2, zs1, nI_add, pk_mul, zsb, zad1, zad2, zcl, zgI, zif_le, zif_nle, zif_lt, zif_nlt, zif_eq, zif_ne, zif_self, zif_T, zif_F, Nat.zero_add, Nat.add_sub_cancel, zn21, zn31, zif_m1, zif_m1l, zif_m1n, zif_pm, zb1_k, zb2_k, zb3_k, zb4_k, zb5_k, zb6_k, zb7_k, zb8_k, zb9_k, zb10_k, zb11_k, zb12_k, zb14_k, zb21_k, zb22_k, zupd_eq, zupd_ne, zupl_eq, zupl_ne, zupf_eq, zupf_ne, hc, e1, e3]
    · simp (disch := omega) only [stX11_value, fX11_value, zi_0_1, zl_0, zl_1, zl_2, zl_3, zl_4, zl_5, zl_6, zl_8, zl_9, zl_11, zl_12, zl_13, zl_16, zl_20, zl_23, zl_24, zl_30, zl_32, zl_40, zl_41, zl_43, zl_45, zl_50, zl_52, zl_60, zl_97, zl_99, zl_100, zl_124, zl_126, zl_127, zl_169, zl_170, zl_171, zl_195, zl_200, zl_201, zl_256, zl_261, zl_999, zl_1100, zl_1884, zl_4095, zl_4096, zd1, zd2, zs1, nI_add, pk_mul, zsb, zad1, zad2, zcl, zgI, zif_le, zif_nle, zif_lt, zif_nlt, zif_eq, zif_ne, zif_self, zif_T, zif_F, Nat.zero_add, Nat.add_sub_cancel, zn21, zn31, zif_m1, zif_m1l, zif_m1n, zif_pm, zb1_k, zb2_k, zb3_k, zb4_k, zb5_k, zb6_k, zb7_k, zb8_k, zb9_k, zb10_k, zb11_k, zb12_k, zb14_k, zb21_k, zb22_k, zupd_eq, zupd_ne, zupl_eq, zupl_ne, zupf_eq, zupf_ne, e2, e3]
  obtain ⟨pl', pw', pk', ps', fa', fb', wa, wb, res, g1, g2⟩ := fx_measure (fp := none) (how := 0) hv hN hB hi (by omega) (fun q e => by cases e) (x_meter_plan_length xs) (x_meter_plan_waiting xs) (x_meter_plan_kind xs) (x_meter_plan_sort xs) (x_meter_worth_above xs) (x_meter_worth_below xs) (x_meter_fractions_s_above xs) (x_meter_fractions_s_below xs)
  rw [zopt_n] at g1
  obtain ⟨c', d', u', w', g3, g4⟩ := fm_values hv hm (m_above ms) (m_below ms) (m_valueUp ms) (m_valueDown ms)
  have g5 := g4 i hi
  unfold zSpc at g2
  rw [zRo_dn0 (zAc_net hv) hi] at g2
  rcases g2 with ⟨q1, rfl⟩ | ⟨q, q1, q2, rfl, rfl, rfl⟩
  · rw [(List.cons.inj q1).1] at g5
    obtain ⟨u1, u2⟩ := g5
    have u1 : u' i = -zL 7 := u1
    have u2 : w' i = -zL 7 := u2
    refine zfinM (-zL 7) h0 ?_ ?_
    · simp (disch := omega) only [stX10_value, fX10_value, zl_0, zl_1, zl_2, zl_3, zl_4, zl_5, zl_6, zl_8, zl_9, zl_11, zl_12, zl_13, zl_16, zl_20, zl_23, zl_24, zl_30, zl_32, zl_40, zl_41, zl_43, zl_45, zl_50, zl_52, zl_60, zl_97, zl_99, zl_100, zl_124, zl_126, zl_127, zl_169, zl_170, zl_171, zl_195, zl_200, zl_201, zl_256, zl_261, zl_999, zl_1100, zl_1884, zl_4095, zl_4096, zd1, zd2, zs1, nI_add, pk_mul, zsb, zad1, zad2, zcl, zgI, zif_le, zif_nle, zif_lt, zif_nlt, zif_eq, zif_ne, zif_self, zif_T, zif_F, Nat.zero_add, Nat.add_sub_cancel, zn21, zn31, zif_m1, zif_m1l, zif_m1n, zif_pm, zb1_k, zb2_k, zb3_k, zb4_k, zb5_k, zb6_k, zb7_k, zb8_k, zb9_k, zb10_k, zb11_k, zb12_k, zb14_k, zb21_k, zb22_k, zupd_eq, zupd_ne, zupl_eq, zupl_ne, zupf_eq, zupf_ne, hc, e1, e3, g1, zl64_7]
      exact ⟨_, rfl⟩
    · rcases (show w = 0 ∨ w = 1 by omega) with rfl | rfl
      · simp (disch := omega) only [stX11_value, fX11_value, zi_0_1, zl_0, zl_1, zl_2, zl_3, zl_4, zl_5, zl_6, zl_8, zl_9, zl_11, zl_12, zl_13, zl_16, zl_20, zl_23, zl_24, zl_30, zl_32, zl_40, zl_41, zl_43, zl_45, zl_50, zl_52, zl_60, zl_97, zl_99, zl_100, zl_124, zl_126, zl_127, zl_169, zl_170, zl_171, zl_195, zl_200, zl_201, zl_256, zl_261, zl_999, zl_1100, zl_1884, zl_4095, zl_4096, zd1, zd2, zs1, nI_add, pk_mul, zsb, zad1, zad2, zcl, zgI, zif_le, zif_nle, zif_lt, zif_nlt, zif_eq, zif_ne, zif_self, zif_T, zif_F, Nat.zero_add, Nat.add_sub_cancel, zn21, zn31, zif_m1, zif_m1l, zif_m1n, zif_pm, zb1_k, zb2_k, zb3_k, zb4_k, zb5_k, zb6_k, zb7_k, zb8_k, zb9_k, zb10_k, zb11_k, zb12_k, zb14_k, zb21_k, zb22_k, zupd_eq, zupd_ne, zupl_eq, zupl_ne, zupf_eq, zupf_ne, e2, e3, g3, u1]
        exact ⟨_, rfl, rfl, rfl, rfl, rfl, rfl⟩
      · simp (disch := omega) only [stX11_value, fX11_value, zi_0_1, zl_0, zl_1, zl_2, zl_3, zl_4, zl_5, zl_6, zl_8, zl_9, zl_11, zl_12, zl_13, zl_16, zl_20, zl_23, zl_24, zl_30, zl_32, zl_40, zl_41, zl_43, zl_45, zl_50, zl_52, zl_60, zl_97, zl_99, zl_100, zl_124, zl_126, zl_127, zl_169, zl_170, zl_171, zl_195, zl_200, zl_201, zl_256, zl_261, zl_999, zl_1100, zl_1884, zl_4095, zl_4096, zd1, zd2, zs1, nI_add, pk_mul, zsb, zad1, zad2, zcl, zgI, zif_le, zif_nle, zif_lt, zif_nlt, zif_eq, zif_ne, zif_self, zif_T, zif_F, Nat.zero_add, Nat.add_sub_cancel, zn21, zn31, zif_m1, zif_m1l, zif_m1n, zif_pm, zb1_k, zb2_k, zb3_k, zb4_k, zb5_k, zb6_k, zb7_k, zb8_k, zb9_k, zb10_k, zb11_k, zb12_k, zb14_k, zb21_k, zb22_k, zupd_eq, zupd_ne, zupl_eq, zupl_ne, zupf_eq, zupf_ne, e2, e3, g3, u2]
        exact ⟨_, rfl, rfl, rfl, rfl, rfl, rfl⟩
  · rw [(List.cons.inj q1).1] at g5
    obtain ⟨u1, u2⟩ := g5
    have u1 : u' i = zL q.1 := u1
    have u2 : w' i = zL q.2 := u2
    rcases (show w = 0 ∨ w = 1 by omega) with rfl | rfl
    · refine zfinM (zL q.1) h0 ?_ ?_
      · simp (disch := omega) only [stX10_value, fX10_value, fX1_side, zl_0, zl_1, zl_2, zl_3, zl_4, zl_5, zl_6, zl_8, zl_9, zl_11, zl_12, zl_13, zl_16, zl_20, zl_23, zl_24, zl_30, zl_32, zl_40, zl_41, zl_43, zl_45, zl_50, zl_52, zl_60, zl_97, zl_99, zl_100, zl_124, zl_126, zl_127, zl_169, zl_170, zl_171, zl_195, zl_200, zl_201, zl_256, zl_261, zl_999, zl_1100, zl_1884, zl_4095, zl_4096, zd1, zd2, zs1, nI_add, pk_mul, zsb, zad1, zad2, zcl, zgI, zif_le, zif_nle, zif_lt, zif_nlt, zif_eq, zif_ne, zif_self, zif_T, zif_F, Nat.zero_add, Nat.add_sub_cancel, zn21, zn31, zif_m1, zif_m1l, zif_m1n, zif_pm, zb1_k, zb2_k, zb3_k, zb4_k, zb5_k, zb6_k, zb7_k, zb8_k, zb9_k, zb10_k, zb11_k, zb12_k, zb14_k, zb21_k, zb22_k, zupd_eq, zupd_ne, zupl_eq, zupl_ne, zupf_eq, zupf_ne, hc, e1, e3, g1]
        exact ⟨_, rfl⟩
      · simp (disch := omega) only [stX11_value, fX11_value, zi_0_1, zl_0, zl_1, zl_2, zl_3, zl_4, zl_5, zl_6, zl_8, zl_9, zl_11, zl_12, zl_13, zl_16, zl_20, zl_23, zl_24, zl_30, zl_32, zl_40, zl_41, zl_43, zl_45, zl_50, zl_52, zl_60, zl_97, zl_99, zl_100, zl_124, zl_126, zl_127, zl_169, zl_170, zl_171, zl_195, zl_200, zl_201, zl_256, zl_261, zl_999, zl_1100, zl_1884, zl_4095, zl_4096, zd1, zd2, zs1, nI_add, pk_mul, zsb, zad1, zad2, zcl, zgI, zif_le, zif_nle, zif_lt, zif_nlt, zif_eq, zif_ne, zif_self, zif_T, zif_F, Nat.zero_add, Nat.add_sub_cancel, zn21, zn31, zif_m1, zif_m1l, zif_m1n, zif_pm, zb1_k, zb2_k, zb3_k, zb4_k, zb5_k, zb6_k, zb7_k, zb8_k, zb9_k, zb10_k, zb11_k, zb12_k, zb14_k, zb21_k, zb22_k, zupd_eq, zupd_ne, zupl_eq, zupl_ne, zupf_eq, zupf_ne, e2, e3, g3, u1]
        exact ⟨_, rfl, rfl, rfl, rfl, rfl, rfl⟩
    · refine zfinM (zL q.2) h0 ?_ ?_
      · simp (disch := omega) only [stX10_value, fX10_value, fX1_side, zl_0, zl_1, zl_2, zl_3, zl_4, zl_5, zl_6, zl_8, zl_9, zl_11, zl_12, zl_13, zl_16, zl_20, zl_23, zl_24, zl_30, zl_32, zl_40, zl_41, zl_43, zl_45, zl_50, zl_52, zl_60, zl_97, zl_99, zl_100, zl_124, zl_126, zl_127, zl_169, zl_170, zl_171, zl_195, zl_200, zl_201, zl_256, zl_261, zl_999, zl_1100, zl_1884, zl_4095, zl_4096, zd1, zd2, zs1, nI_add, pk_mul, zsb, zad1, zad2, zcl, zgI, zif_le, zif_nle, zif_lt, zif_nlt, zif_eq, zif_ne, zif_self, zif_T, zif_F, Nat.zero_add, Nat.add_sub_cancel, zn21, zn31, zif_m1, zif_m1l, zif_m1n, zif_pm, zb1_k, zb2_k, zb3_k, zb4_k, zb5_k, zb6_k, zb7_k, zb8_k, zb9_k, zb10_k, zb11_k, zb12_k, zb14_k, zb21_k, zb22_k, zupd_eq, zupd_ne, zupl_eq, zupl_ne, zupf_eq, zupf_ne, hc, e1, e3, g1]
        exact ⟨_, rfl⟩
      · simp (disch := omega) only [stX11_value, fX11_value, zi_0_1, zl_0, zl_1, zl_2, zl_3, zl_4, zl_5, zl_6, zl_8, zl_9, zl_11, zl_12, zl_13, zl_16, zl_20, zl_23, zl_24, zl_30, zl_32, zl_40, zl_41, zl_43, zl_45, zl_50, zl_52, zl_60, zl_97, zl_99, zl_100, zl_124, zl_126, zl_127, zl_169, zl_170, zl_171, zl_195, zl_200, zl_201, zl_256, zl_261, zl_999, zl_1100, zl_1884, zl_4095, zl_4096, zd1, zd2, zs1, nI_add, pk_mul, zsb, zad1, zad2, zcl, zgI, zif_le, zif_nle, zif_lt, zif_nlt, zif_eq, zif_ne, zif_self, zif_T, zif_F, Nat.zero_add, Nat.add_sub_cancel, zn21, zn31, zif_m1, zif_m1l, zif_m1n, zif_pm, zb1_k, zb2_k, zb3_k, zb4_k, zb5_k, zb6_k, zb7_k, zb8_k, zb9_k, zb10_k, zb11_k, zb12_k, zb14_k, zb21_k, zb22_k, zupd_eq, zupd_ne, zupl_eq, zupl_ne, zupf_eq, zupf_ne, e2, e3, g3, u2]
        exact ⟨_, rfl, rfl, rfl, rfl, rfl, rfl⟩
theorem q_alike {Fd : FD → Prop} {k : Nat} : zQ_alike (zR Fd) k := by
  intro xs ms h p1 p2
  have h0 := h
  obtain ⟨a, hv, hx, hm, hr⟩ := h
  obtain ⟨hB, hN, hM, hT0, hT1, hT2⟩ := id hx
  have h8 := hv.2.1
  have hc : x_nets_count xs = nI (a 8) := hN.1
  have hm8 : m_now ms 8 = nI (a 8) := hm.1 8 (by omega)
  rcases znet p1 h8 hm8 with ⟨e1, e2⟩ | ⟨i, hi, rfl, e1, e2⟩
  · refine zfin0 (-nI 1) h0 ?_ ?_
    · simp (disch := omega) only [stX10_alike, fX10_alike, zl_0, zl_1, zl_2, zl_3, zl_4, zl_5, zl_6, zl_8, zl_9, zl_11, zl_12, zl_13, zl_16, zl_20, zl_23, zl_24, zl_30, zl_32, zl_40, zl_41, zl_43, zl_45, zl_50, zl_52, zl_60, zl_97, zl_99, zl_100, zl_124, zl_126, zl_127, zl_169, zl_170, zl_171, zl_195, zl_200, zl_201, zl_256, zl_261, zl_999, zl_1100, zl_1884, zl_4095, zl_4096, zd1, zd2, zs1, nI_add, pk_mul, zsb, zad1, zad2, zcl, zgI, zif_le, zif_nle, zif_lt, zif_nlt, zif_eq, zif_ne, zif_self, zif_T, zif_F, Nat.zero_add, Nat.add_sub_cancel, zn21, zn31, zif_m1, zif_m1l, zif_m1n, zif_pm, zb1_k, zb2_k, zb3_k, zb4_k, zb5_k, zb6_k, zb7_k, zb8_k, zb9_k, zb10_k, zb11_k, zb12_k, zb14_k, zb21_k, zb22_k, zupd_eq, zupd_ne, zupl_eq, zupl_ne, zupf_eq, zupf_ne, hc, e1]
    · simp (disch := omega) only [stX11_alike, fX11_alike, zl_0, zl_1, zl_2, zl_3, zl_4, zl_5, zl_6, zl_8, zl_9, zl_11, zl_12, zl_13, zl_16, zl_20, zl_23, zl_24, zl_30, zl_32, zl_40, zl_41, zl_43, zl_45, zl_50, zl_52, zl_60, zl_97, zl_99, zl_100, zl_124, zl_126, zl_127, zl_169, zl_170, zl_171, zl_195, zl_200, zl_201, zl_256, zl_261, zl_999, zl_1100, zl_1884, zl_4095, zl_4096, zd1, zd2, zs1, nI_add, pk_mul, zsb, zad1, zad2, zcl, zgI, zif_le, zif_nle, zif_lt, zif_nlt, zif_eq, zif_ne, zif_self, zif_T, zif_F, Nat.zero_add, Nat.add_sub_cancel, zn21, zn31, zif_m1, zif_m1l, zif_m1n, zif_pm, zb1_k, zb2_k, zb3_k, zb4_k, zb5_k, zb6_k, zb7_k, zb8_k, zb9_k, zb10_k, zb11_k, zb12_k, zb14_k, zb21_k, zb22_k, zupd_eq, zupd_ne, zupl_eq, zupl_ne, zupf_eq, zupf_ne, e2]
  rcases znet p2 h8 hm8 with ⟨e3, e4⟩ | ⟨j, hj, rfl, e3, e4⟩
  · refine zfin0 (-nI 1) h0 ?_ ?_
    · simp (disch := omega) only [stX10_alike, fX10_alike, zl_0, zl_1, zl_2, zl_3, zl_4, zl_5, zl_6, zl_8, zl_9, zl_11, zl_12, zl_13, zl_16, zl_20, zl_23, zl_24, zl_30, zl_32, zl_40, zl_41, zl_43, zl_45, zl_50, zl_52, zl_60, zl_97, zl_99, zl_100, zl_124, zl_126, zl_127, zl_169, zl_170, zl_171, zl_195, zl_200, zl_201, zl_256, zl_261, zl_999, zl_1100, zl_1884, zl_4095, zl_4096, zd1, zd2, zs1, nI_add, pk_mul, zsb, zad1, zad2, zcl, zgI, zif_le, zif_nle, zif_lt, zif_nlt, zif_eq, zif_ne, zif_self, zif_T, zif_F, Nat.zero_add, Nat.add_sub_cancel, zn21, zn31, zif_m1, zif_m1l, zif_m1n, zif_pm, zb1_k, zb2_k, zb3_k, zb4_k, zb5_k, zb6_k, zb7_k, zb8_k, zb9_k, zb10_k, zb11_k, zb12_k, zb14_k, zb21_k, zb22_k, zupd_eq, zupd_ne, zupl_eq, zupl_ne, zupf_eq, zupf_ne, hc, e1, e3]
    · simp (disch := omega) only [stX11_alike, fX11_alike, zl_0, zl_1, zl_2, zl_3, zl_4, zl_5, zl_6, zl_8, zl_9, zl_11, zl_12, zl_13, zl_16, zl_20, zl_23, zl_24, zl_30, zl_32, zl_40, zl_41, zl_43, zl_45, zl_50, zl_52, zl_60, zl_97, zl_99, zl_100, zl_124, zl_126, zl_127, zl_169, zl_170, zl_171, zl_195, zl_200, zl_201, zl_256, zl_261, zl_999, zl_1100, zl_1884, zl_4095, zl_4096, zd1, zd2, zs1, nI_add, pk_mul, zsb, zad1, zad2, zcl, zgI, zif_le, zif_nle, zif_lt, zif_nlt, zif_eq, zif_ne, zif_self, zif_T, zif_F, Nat.zero_add, Nat.add_sub_cancel, zn21, zn31, zif_m1, zif_m1l, zif_m1n, zif_pm, zb1_k, zb2_k, zb3_k, zb4_k, zb5_k, zb6_k, zb7_k, zb8_k, zb9_k, zb10_k, zb11_k, zb12_k, zb14_k, zb21_k, zb22_k, zupd_eq, zupd_ne, zupl_eq, zupl_ne, zupf_eq, zupf_ne, e2, e4]
  obtain ⟨pl', pw', pk', ps', fa', fb', wa, wb, res, g1, g2⟩ := fx_measure (fp := none) (how := 0) hv hN hB hi (by omega) (fun q e => by cases e) (x_meter_plan_length xs) (x_meter_plan_waiting xs) (x_meter_plan_kind xs) (x_meter_plan_sort xs) (x_meter_worth_above xs) (x_meter_worth_below xs) (x_meter_fractions_s_above xs) (x_meter_fractions_s_below xs)
  obtain ⟨pl2, pw2, pk2, ps2, fa2, fb2, wa2, wb2, res2, g6, g7⟩ := fx_measure (fp := none) (how := 0) hv hN hB hj (by omega) (fun q e => by cases e) pl' pw' pk' ps' wa wb fa' fb'
  rw [zopt_n] at g1 g6
  obtain ⟨c', d', u', w', g3, g4⟩ := fm_values hv hm (m_above ms) (m_below ms) (m_valueUp ms) (m_valueDown ms)
  have g5 := g4 i hi
  have g8 := g4 j hj
  unfold zSpc at g2 g7
  rw [zRo_dn0 (zAc_net hv) hi] at g2
  rw [zRo_dn0 (zAc_net hv) hj] at g7
  rcases g2 with ⟨q1, rfl⟩ | ⟨q, q1, q2, rfl, rfl, rfl⟩
  · rw [(List.cons.inj q1).1] at g5
    obtain ⟨u1, u2⟩ := g5
    have u1 : u' i = -zL 7 := u1
    refine zfinM (-nI 7) h0 ?_ ?_
    · simp (disch := omega) only [stX10_alike, fX10_alike, zl_0, zl_1, zl_2, zl_3, zl_4, zl_5, zl_6, zl_8, zl_9, zl_11, zl_12, zl_13, zl_16, zl_20, zl_23, zl_24, zl_30, zl_32, zl_40, zl_41, zl_43, zl_45, zl_50, zl_52, zl_60, zl_97, zl_99, zl_100, zl_124, zl_126, zl_127, zl_169, zl_170, zl_171, zl_195, zl_200, zl_201, zl_256, zl_261, zl_999, zl_1100, zl_1884, zl_4095, zl_4096, zd1, zd2, zs1, nI_add, pk_mul, zsb, zad1, zad2, zcl, zgI, zif_le, zif_nle, zif_lt, zif_nlt, zif_eq, zif_ne, zif_self, zif_T, zif_F, Nat.zero_add, Nat.add_sub_cancel, zn21, zn31, zif_m1, zif_m1l, zif_m1n, zif_pm, zb1_k, zb2_k, zb3_k, zb4_k, zb5_k, zb6_k, zb7_k, zb8_k, zb9_k, zb10_k, zb11_k, zb12_k, zb14_k, zb21_k, zb22_k, zupd_eq, zupd_ne, zupl_eq, zupl_ne, zupf_eq, zupf_ne, hc, e1, e3, g1]
      exact ⟨_, rfl⟩
    · simp (disch := omega) only [stX11_alike, fX11_alike, zl_0, zl_1, zl_2, zl_3, zl_4, zl_5, zl_6, zl_8, zl_9, zl_11, zl_12, zl_13, zl_16, zl_20, zl_23, zl_24, zl_30, zl_32, zl_40, zl_41, zl_43, zl_45, zl_50, zl_52, zl_60, zl_97, zl_99, zl_100, zl_124, zl_126, zl_127, zl_169, zl_170, zl_171, zl_195, zl_200, zl_201, zl_256, zl_261, zl_999, zl_1100, zl_1884, zl_4095, zl_4096, zd1, zd2, zs1, nI_add, pk_mul, zsb, zad1, zad2, zcl, zgI, zif_le, zif_nle, zif_lt, zif_nlt, zif_eq, zif_ne, zif_self, zif_T, zif_F, Nat.zero_add, Nat.add_sub_cancel, zn21, zn31, zif_m1, zif_m1l, zif_m1n, zif_pm, zb1_k, zb2_k, zb3_k, zb4_k, zb5_k, zb6_k, zb7_k, zb8_k, zb9_k, zb10_k, zb11_k, zb12_k, zb14_k, zb21_k, zb22_k, zupd_eq, zupd_ne, zupl_eq, zupl_ne, zupf_eq, zupf_ne, e2, e4, g3, u1, zl64_0, zjf_7lt]
      exact ⟨_, rfl, rfl, rfl, rfl, rfl, rfl⟩
  · rw [(List.cons.inj q1).1] at g5
    obtain ⟨u1, u2⟩ := g5
    have u1 : u' i = zL q.1 := u1
    have u2 : w' i = zL q.2 := u2
    obtain ⟨b1, b2, b3⟩ := q2
    rcases g7 with ⟨q3, rfl⟩ | ⟨t, q3, q4, rfl, rfl, rfl⟩
    · rw [(List.cons.inj q3).1] at g8
      obtain ⟨u3, u4⟩ := g8
      have u3 : u' j = -zL 7 := u3
      refine zfinM (-nI 7) h0 ?_ ?_
      · simp (disch := omega) only [stX10_alike, fX10_alike, zl_0, zl_1, zl_2, zl_3, zl_4, zl_5, zl_6, zl_8, zl_9, zl_11, zl_12, zl_13, zl_16, zl_20, zl_23, zl_24, zl_30, zl_32, zl_40, zl_41, zl_43, zl_45, zl_50, zl_52, zl_60, zl_97, zl_99, zl_100, zl_124, zl_126, zl_127, zl_169, zl_170, zl_171, zl_195, zl_200, zl_201, zl_256, zl_261, zl_999, zl_1100, zl_1884, zl_4095, zl_4096, zd1, zd2, zs1, nI_add, pk_mul, zsb, zad1, zad2, zcl, zgI, zif_le, zif_nle, zif_lt, zif_nlt, zif_eq, zif_ne, zif_self, zif_T, zif_F, Nat.zero_add, Nat.add_sub_cancel, zn21, zn31, zif_m1, zif_m1l, zif_m1n, zif_pm, zb1_k, zb2_k, zb3_k, zb4_k, zb5_k, zb6_k, zb7_k, zb8_k, zb9_k, zb10_k, zb11_k, zb12_k, zb14_k, zb21_k, zb22_k, zupd_eq, zupd_ne, zupl_eq, zupl_ne, zupf_eq, zupf_ne, hc, e1, e3, g1, g6]
        exact ⟨_, rfl⟩
      · simp (disch := omega) only [stX11_alike, fX11_alike, zl_0, zl_1, zl_2, zl_3, zl_4, zl_5, zl_6, zl_8, zl_9, zl_11, zl_12, zl_13, zl_16, zl_20, zl_23, zl_24, zl_30, zl_32, zl_40, zl_41, zl_43, zl_45, zl_50, zl_52, zl_60, zl_97, zl_99, zl_100, zl_124, zl_126, zl_127, zl_169, zl_170, zl_171, zl_195, zl_200, zl_201, zl_256, zl_261, zl_999, zl_1100, zl_1884, zl_4095, zl_4096, zd1, zd2, zs1, nI_add, pk_mul, zsb, zad1, zad2, zcl, zgI, zif_le, zif_nle, zif_lt, zif_nlt, zif_eq, zif_ne, zif_self, zif_T, zif_F, Nat.zero_add, Nat.add_sub_cancel, zn21, zn31, zif_m1, zif_m1l, zif_m1n, zif_pm, zb1_k, zb2_k, zb3_k, zb4_k, zb5_k, zb6_k, zb7_k, zb8_k, zb9_k, zb10_k, zb11_k, zb12_k, zb14_k, zb21_k, zb22_k, zupd_eq, zupd_ne, zupl_eq, zupl_ne, zupf_eq, zupf_ne, e2, e4, g3, u1, u3, zl64_0, zjf_7le, zjf_nlt]
        exact ⟨_, rfl, rfl, rfl, rfl, rfl, rfl⟩
    · rw [(List.cons.inj q3).1] at g8
      obtain ⟨u3, u4⟩ := g8
      have u3 : u' j = zL t.1 := u3
      have u4 : w' j = zL t.2 := u4
      obtain ⟨b4, b5, b6⟩ := q4
      by_cases z1 : q.1 = t.1
      · by_cases z2 : q.2 = t.2
        · refine zfinM (nI 1) h0 ?_ ?_
          · simp (disch := omega) only [stX10_alike, fX10_alike, zl_0, zl_1, zl_2, zl_3, zl_4, zl_5, zl_6, zl_8, zl_9, zl_11, zl_12, zl_13, zl_16, zl_20, zl_23, zl_24, zl_30, zl_32, zl_40, zl_41, zl_43, zl_45, zl_50, zl_52, zl_60, zl_97, zl_99, zl_100, zl_124, zl_126, zl_127, zl_169, zl_170, zl_171, zl_195, zl_200, zl_201, zl_256, zl_261, zl_999, zl_1100, zl_1884, zl_4095, zl_4096, zd1, zd2, zs1, nI_add, pk_mul, zsb, zad1, zad2, zcl, zgI, zif_le, zif_nle, zif_lt, zif_nlt, zif_eq, zif_ne, zif_self, zif_T, zif_F, Nat.zero_add, Nat.add_sub_cancel, zn21, zn31, zif_m1, zif_m1l, zif_m1n, zif_pm, zb1_k, zb2_k, zb3_k, zb4_k, zb5_k, zb6_k, zb7_k, zb8_k, zb9_k, zb10_k, zb11_k, zb12_k, zb14_k, zb21_k, zb22_k, zupd_eq, zupd_ne, zupl_eq, zupl_ne, zupf_eq, zupf_ne, hc, e1, e3, g1, g6, zjf_eq]
            exact ⟨_, rfl⟩
          · simp (disch := omega) only [stX11_alike, fX11_alike, zl_0, zl_1, zl_2, zl_3, zl_4, zl_5, zl_6, zl_8, zl_9, zl_11, zl_12, zl_13, zl_16, zl_20, zl_23, zl_24, zl_30, zl_32, zl_40, zl_41, zl_43, zl_45, zl_50, zl_52, zl_60, zl_97, zl_99, zl_100, zl_124, zl_126, zl_127, zl_169, zl_170, zl_171, zl_195, zl_200, zl_201, zl_256, zl_261, zl_999, zl_1100, zl_1884, zl_4095, zl_4096, zd1, zd2, zs1, nI_add, pk_mul, zsb, zad1, zad2, zcl, zgI, zif_le, zif_nle, zif_lt, zif_nlt, zif_eq, zif_ne, zif_self, zif_T, zif_F, Nat.zero_add, Nat.add_sub_cancel, zn21, zn31, zif_m1, zif_m1l, zif_m1n, zif_pm, zb1_k, zb2_k, zb3_k, zb4_k, zb5_k, zb6_k, zb7_k, zb8_k, zb9_k, zb10_k, zb11_k, zb12_k, zb14_k, zb21_k, zb22_k, zupd_eq, zupd_ne, zupl_eq, zupl_ne, zupf_eq, zupf_ne, e2, e4, g3, u1, u2, u3, u4, zl64_0, zjf_le, zjf_nlt, zjf_eq]
            exact ⟨_, rfl, rfl, rfl, rfl, rfl, rfl⟩
        · refine zfinM (nI 0) h0 ?_ ?_
          · simp (disch := omega) only [stX10_alike, fX10_alike, zl_0, zl_1, zl_2, zl_3, zl_4, zl_5, zl_6, zl_8, zl_9, zl_11, zl_12, zl_13, zl_16, zl_20, zl_23, zl_24, zl_30, zl_32, zl_40, zl_41, zl_43, zl_45, zl_50, zl_52, zl_60, zl_97, zl_99, zl_100, zl_124, zl_126, zl_127, zl_169, zl_170, zl_171, zl_195, zl_200, zl_201, zl_256, zl_261, zl_999, zl_1100, zl_1884, zl_4095, zl_4096, zd1, zd2, zs1, nI_add, pk_mul, zsb, zad1, zad2, zcl, zgI, zif_le, zif_nle, zif_lt, zif_nlt, zif_eq, zif_ne, zif_self, zif_T, zif_F, Nat.zero_add, Nat.add_sub_cancel, zn21, zn31, zif_m1, zif_m1l, zif_m1n, zif_pm, zb1_k, zb2_k, zb3_k, zb4_k, zb5_k, zb6_k, zb7_k, zb8_k, zb9_k, zb10_k, zb11_k, zb12_k, zb14_k, zb21_k, zb22_k, zupd_eq, zupd_ne, zupl_eq, zupl_ne, zupf_eq, zupf_ne, hc, e1, e3, g1, g6, zjf_eq, zjf_ne]
            exact ⟨_, rfl⟩
          · simp (disch := omega) only [stX11_alike, fX11_alike, zl_0, zl_1, zl_2, zl_3, zl_4, zl_5, zl_6, zl_8, zl_9, zl_11, zl_12, zl_13, zl_16, zl_20, zl_23, zl_24, zl_30, zl_32, zl_40, zl_41, zl_43, zl_45, zl_50, zl_52, zl_60, zl_97, zl_99, zl_100, zl_124, zl_126, zl_127, zl_169, zl_170, zl_171, zl_195, zl_200, zl_201, zl_256, zl_261, zl_999, zl_1100, zl_1884, zl_4095, zl_4096, zd1, zd2, zs1, nI_add, pk_mul, zsb, zad1, zad2, zcl, zgI, zif_le, zif_nle, zif_lt, zif_nlt, zif_eq, zif_ne, zif_self, zif_T, zif_F, Nat.zero_add, Nat.add_sub_cancel, zn21, zn31, zif_m1, zif_m1l, zif_m1n, zif_pm, zb1_k, zb2_k, zb3_k, zb4_k, zb5_k, zb6_k, zb7_k, zb8_k, zb9_k, zb10_k, zb11_k, zb12_k, zb14_k, zb21_k, zb22_k, zupd_eq, zupd_ne, zupl_eq, zupl_ne, zupf_eq, zupf_ne, e2, e4, g3, u1, u2, u3, u4, zl64_0, zjf_le, zjf_nlt, zjf_eq, zjf_ne]
            exact ⟨_, rfl, rfl, rfl, rfl, rfl, rfl⟩
      · refine zfinM (nI 0) h0 ?_ ?_
        · simp (disch := omega) only [stX10_alike, fX10_alike, zl_0, zl_1, zl_2, zl_3, zl_4, zl_5, zl_6, zl_8, zl_9, zl_11, zl_12, zl_13, zl_16, zl_20, zl_23, zl_24, zl_30, zl_32, zl_40, zl_41, zl_43, zl_45, zl_50, zl_52, zl_60, zl_97, zl_99, zl_100, zl_124, zl_126, zl_127, zl_169, zl_170, zl_171, zl_195, zl_200, zl_201, zl_256, zl_261, zl_999, zl_1100, zl_1884, zl_4095, zl_4096, zd1, zd2, zs1, nI_add, pk_mul, zsb, zad1, zad2, zcl, zgI, zif_le, zif_nle, zif_lt, zif_nlt, zif_eq, zif_ne, zif_self, zif_T, zif_F, Nat.zero_add, Nat.add_sub_cancel, zn21, zn31, zif_m1, zif_m1l, zif_m1n, zif_pm, zb1_k, zb2_k, zb3_k, zb4_k, zb5_k, zb6_k, zb7_k, zb8_k, zb9_k, zb10_k, zb11_k, zb12_k, zb14_k, zb21_k, zb22_k, zupd_eq, zupd_ne, zupl_eq, zupl_ne, zupf_eq, zupf_ne, hc, e1, e3, g1, g6, zjf_ne]
          exact ⟨_, rfl⟩
        · simp (disch := omega) only [stX11_alike, fX11_alike, zl_0, zl_1, zl_2, zl_3, zl_4, zl_5, zl_6, zl_8, zl_9, zl_11, zl_12, zl_13, zl_16, zl_20, zl_23, zl_24, zl_30, zl_32, zl_40, zl_41, zl_43, zl_45, zl_50, zl_52, zl_60, zl_97, zl_99, zl_100, zl_124, zl_126, zl_127, zl_169, zl_170, zl_171, zl_195, zl_200, zl_201, zl_256, zl_261, zl_999, zl_1100, zl_1884, zl_4095, zl_4096, zd1, zd2, zs1, nI_add, pk_mul, zsb, zad1, zad2, zcl, zgI, zif_le, zif_nle, zif_lt, zif_nlt, zif_eq, zif_ne, zif_self, zif_T, zif_F, Nat.zero_add, Nat.add_sub_cancel, zn21, zn31, zif_m1, zif_m1l, zif_m1n, zif_pm, zb1_k, zb2_k, zb3_k, zb4_k, zb5_k, zb6_k, zb7_k, zb8_k, zb9_k, zb10_k, zb11_k, zb12_k, zb14_k, zb21_k, zb22_k, zupd_eq, zupd_ne, zupl_eq, zupl_ne, zupf_eq, zupf_ne, e2, e4, g3, u1, u2, u3, u4, zl64_0, zjf_le, zjf_nlt, zjf_ne]
          exact ⟨_, rfl, rfl, rfl, rfl, rfl, rfl⟩
