/-! the second way through, both sides at once -/
theorem zKp_old {a : Nat → Nat} {kk ff ss pp : Nat} (hv : zV a) (h : zNew a kk ff ss pp) : (∀ i, i < a 8 → aP (zKp a kk ff ss pp).2 i = aP a i) ∧ a 8 ≤ (zKp a kk ff ss pp).2 8 ∧ ((∃ i, (zKp a kk ff ss pp).1 = nI i ∧ i < (zKp a kk ff ss pp).2 8 ∧ aP (zKp a kk ff ss pp).2 i = pp) ∨ (zKp a kk ff ss pp).1 = -nI 3) := by
  have h8 := hv.2.1
  unfold zKp
  cases e : zfnd (zP a kk ff ss) (a 8) 0 with
  | some i =>
    have z := zfnd_s _ _ _ e
    refine ⟨fun _ _ => rfl, Nat.le_refl _, Or.inl ⟨i, rfl, by show i < a 8; omega, ?_⟩⟩
    show aP a i = pp
    obtain ⟨e1, e2, e3⟩ := of_decide_eq_true z.2.2
    rcases hv.2.2.1 i (by omega) with ⟨n1, n2, n3, n4, n5⟩ | ⟨n1, n2, n3, n4, n5⟩
    · rcases h with ⟨h1, h2, h3, h4, h5⟩ | ⟨h1, h2, h3, h4, h5⟩
      · omega
      · omega
    · rcases h with ⟨h1, h2, h3, h4, h5⟩ | ⟨h1, h2, h3, h4, h5⟩
      · omega
      · rw [n4, e2, e3, h4]
  | none =>
    by_cases e8 : a 8 = 40
    · simp only [if_pos e8]
      exact ⟨fun _ _ => trivial, Nat.le_refl _, Or.inr trivial⟩
    · simp only [if_neg e8]
      refine ⟨fun i hi => zAdd_fr _ _ _ _ _ _ (by omega), by rw [zAdd_8]; omega, Or.inl ⟨a 8, rfl, by rw [zAdd_8]; omega, zAdd_3 ..⟩⟩
def zsp (a : Nat → Nat) : List Nat → Nat
  | [] => 0
  | i :: r => aP a i + zsp a r
theorem zsp_e {a b : Nat → Nat} (h : ∀ i, i < a 8 → aP b i = aP a i) : ∀ mk : List Nat, (∀ i ∈ mk, i < a 8) → zsp b mk = zsp a mk
  | [], _ => rfl
  | i :: r, hm => by
    show aP b i + zsp b r = aP a i + zsp a r
    rw [h i (hm i (List.mem_cons_self ..)), zsp_e h r (fun x hx => hm x (List.mem_cons_of_mem _ hx))]
/-- the signs of what is open -/
def zSo (arr : Nat → Int32) : List Nat → Prop
  | [] => True
  | x :: r => (x ≠ 0 → arr r.length = nI x) ∧ zSo arr r
theorem zSo_up {arr : Nat → Int32} {k : Nat} {v : Int32} : ∀ st : List Nat, st.length ≤ k → zSo arr st → zSo (upd arr k v) st
  | [], _, _ => trivial
  | x :: r, hk, h => by
    have hk : r.length + 1 ≤ k := hk
    exact ⟨fun z => by rw [zupd_ne (by omega)]; exact h.1 z, zSo_up r (by omega) h.2⟩
theorem zTc_n {R : zRs} {ts : List (Nat × Nat)} (h : zTcn none R = .inr ts) : R = .inr ts := by
  cases R with
  | inl e => exact h
  | inr t => exact h
theorem zTc_s {R : zRs} {t : Nat × Nat} {ts : List (Nat × Nat)} (h : zTcn (some t) R = .inr ts) : ∃ ts', R = .inr ts' ∧ ts = t :: ts' := by
  cases R with
  | inl e => cases h
  | inr u => exact ⟨u, rfl, (Sum.inr.inj h).symm⟩
theorem zn3l : ¬ nI 0 ≤ -nI 3 := by decide
theorem zn3t : -nI 3 < nI 0 := by decide
theorem zac_f {a b : Nat → Nat} (h : zFf a b) (c : Nat) : zac b c = zac a c := by
  unfold zac
  by_cases q : 97 ≤ c ∧ c ≤ 100
  · rw [h (c - 97) (by omega)]
  · have n1 : ¬ (97 ≤ c ∧ c ≤ 100 ∧ b (c - 97) ≠ 0) := fun z => q ⟨z.1, z.2.1⟩
    have n2 : ¬ (97 ≤ c ∧ c ≤ 100 ∧ a (c - 97) ≠ 0) := fun z => q ⟨z.1, z.2.1⟩
    rw [decide_eq_false n1, decide_eq_false n2]
theorem xm_keepsL {kind sort tape : Nat → Int32} {L N : Nat} {T : Nat → Nat} {B : Nat → Bool} (hL : L ≤ 60) (hN : N ≤ 23) (hT : ∀ i, i < L → 32 ≤ T i ∧ T i ≤ 126) (hl : ∀ i, i < L → tape i = nI (T i)) : ∀ (d pos fu fu' : Nat) (st : List Nat) (parts : Nat) (w : Bool) (ts : List (Nat × Nat)) (t : Nat) (a : Nat → Nat) (cnt : Int32) (k f s p now mx mm opn : Nat → Int32) (mk : List Nat), pos + d = L → d < fu → d < fu' → zsc B T d pos st parts w = .inr ts → t + ts.length = N → zTk kind sort t ts → st.length ≤ 11 → (∀ x ∈ st, x ≤ 2) → zV a → (∀ c, B c = zac a c) → zXn a cnt k f s p → zMn a now → (∀ i ∈ mk, i < a 8) → zsp a mk = parts → parts ≤ 12 → mk.length = znz st + (if w = true then 0 else 1) → zSk nI mx mk → zSk nI mm mk → zSo opn st → ∃ r b cnt' k' f' s' p' mx' om' op' mm' now', fX5_keepPlan_L4 fX5_keepPlan_J104 (nI N) kind sort fu (nI mk.length) (nI t) cnt k f s p mx = some (r, cnt', k', f', s', p', mx') ∧ fX11_keeps_L9 fX11_keeps_J205 (nI L) tape fu' (nI mk.length) (nI pos) (nI st.length) opn mm now = some (r, om', op', mm', now') ∧ zV b ∧ zFf a b ∧ zXn b cnt' k' f' s' p' ∧ zMn b now' := by
  intro d
  induction d with
  | zero =>
    intro pos fu fu' st parts w ts t a cnt k f s p now mx mm opn mk hd hfu hfu' hsc hts htk hst h2 hv hB hx hm hmk hsp hp hln kx km ko
    obtain ⟨fu, rfl⟩ : ∃ f, fu = f + 1 := ⟨fu - 1, by omega⟩
    obtain ⟨fu', rfl⟩ : ∃ f, fu' = f + 1 := ⟨fu' - 1, by omega⟩
    unfold zsc at hsc
    by_cases q : w = false ∧ st = []
    · rw [if_pos q] at hsc
      obtain ⟨rfl, rfl⟩ := q
      have hsc := (Sum.inr.inj hsc)
      subst hsc
      have ht : t = N := hts
      have hln : mk.length = 1 := hln
      cases mk with
      | nil => cases hln
      | cons x m =>
        have h0 : m.length = 0 := by rw [List.length_cons] at hln; omega
        obtain ⟨kx, _⟩ := kx
        obtain ⟨km, _⟩ := km
        rw [h0] at kx km
        rw [hln]
        refine ⟨nI x, a, cnt, k, f, s, p, mx, nI 0, opn, mm, now, ?_, ?_, hv, zFf_rf a, hx, hm⟩
        · rw [fX5_keepPlan_L4_s]
          simp (disch := omega) only [zl_0, zl_1, zl_2, zl_3, zl_4, zl_5, zl_6, zl_8, zl_9, zl_11, zl_12, zl_13, zl_16, zl_20, zl_23, zl_24, zl_30, zl_32, zl_40, zl_41, zl_43, zl_45, zl_50, zl_52, zl_60, zl_97, zl_99, zl_100, zl_124, zl_126, zl_127, zl_169, zl_170, zl_171, zl_195, zl_200, zl_201, zl_256, zl_261, zl_999, zl_1100, zl_1884, zl_4095, zl_4096, zd1, zd2, zs1, nI_add, pk_mul, zsb, zad1, zad2, zcl, zgI, zif_le, zif_nle, zif_lt, zif_nlt, zif_eq, zif_ne, zif_self, zif_T, zif_F, Nat.zero_add, Nat.add_sub_cancel, zn21, zn31, zif_m1, zif_m1l, zif_m1n, zif_pm, zb1_k, zb2_k, zb3_k, zb4_k, zb5_k, zb6_k, zb7_k, zb8_k, zb9_k, zb10_k, zb11_k, zb12_k, zb14_k, zb21_k, zb22_k, zupd_eq, zupd_ne, zupl_eq, zupl_ne, zupf_eq, zupf_ne, fX5_keepPlan_J104, kx]
        · rw [fX11_keeps_L9_s]
          simp (disch := omega) only [zl_0, zl_1, zl_2, zl_3, zl_4, zl_5, zl_6, zl_8, zl_9, zl_11, zl_12, zl_13, zl_16, zl_20, zl_23, zl_24, zl_30, zl_32, zl_40, zl_41, zl_43, zl_45, zl_50, zl_52, zl_60, zl_97, zl_99, zl_100, zl_124, zl_126, zl_127, zl_169, zl_170, zl_171, zl_195, zl_200, zl_201, zl_256, zl_261, zl_999, zl_1100, zl_1884, zl_4095, zl_4096, zd1, zd2, zs1, nI_add, pk_mul, zsb, zad1, zad2, zcl, zgI, zif_le, zif_nle, zif_lt, zif_nlt, zif_eq, zif_ne, zif_self, zif_T, zif_F, Nat.zero_add, Nat.add_sub_cancel, zn21, zn31, zif_m1, zif_m1l, zif_m1n, zif_pm, zb1_k, zb2_k, zb3_k, zb4_k, zb5_k, zb6_k, zb7_k, zb8_k, zb9_k, zb10_k, zb11_k, zb12_k, zb14_k, zb21_k, zb22_k, zupd_eq, zupd_ne, zupl_eq, zupl_ne, zupf_eq, zupf_ne, fX11_keeps_J205, km, List.length_nil]
    · rw [if_neg q] at hsc
      cases hsc
  | succ d ih =>
    intro pos fu fu' st parts w ts t a cnt k f s p now mx mm opn mk hd hfu hfu' hsc hts htk hst h2 hv hB hx hm hmk hsp hp hln kx km ko
    obtain ⟨fu, rfl⟩ : ∃ f, fu = f + 1 := ⟨fu - 1, by omega⟩
    obtain ⟨fu', rfl⟩ : ∃ f, fu' = f + 1 := ⟨fu' - 1, by omega⟩
    have hT1 := hT pos (by omega)
    have el := hl pos (by omega)
    have zl := znz_le st
    have h8 := hv.2.1
    have bad : zst B st parts w (T pos) = none → False := fun h => by
      rw [zsc_n h] at hsc
      cases hsc
    cases w with
    | true =>
      simp only [if_true] at hln
      by_cases c1 : T pos = 40
      · by_cases c2 : st.length < 11
        · have hz : zst B st parts true (T pos) = some (0 :: st, parts, true, none) := by
            unfold zst; rw [if_pos rfl, if_pos ⟨c1, c2⟩]
          rw [zsc_s hz] at hsc
          have hsc := zTc_n hsc
          obtain ⟨r, b, cnt', k', f', s', p', mx', om', op', mm', now', g1, g2, g3⟩ := ih (pos + 1) (fu + 1) fu' (0 :: st) parts true ts t a cnt k f s p now mx mm opn mk (by omega) (by omega) (by omega) hsc hts htk (by rw [List.length_cons]; omega) (fun x hx => by rcases List.mem_cons.mp hx with rfl | hx; omega; exact h2 x hx) hv hB hx hm hmk hsp hp (by show _ = (0 + znz st) + 0; omega) kx km ⟨fun z => absurd rfl z, ko⟩
          refine ⟨r, b, cnt', k', f', s', p', mx', om', op', mm', now', g1, ?_, g3⟩
          rw [List.length_cons] at g2
          rw [c1] at el
          rw [fX11_keeps_L9_s]
          simp (disch := omega) only [zl_0, zl_1, zl_2, zl_3, zl_4, zl_5, zl_6, zl_8, zl_9, zl_11, zl_12, zl_13, zl_16, zl_20, zl_23, zl_24, zl_30, zl_32, zl_40, zl_41, zl_43, zl_45, zl_50, zl_52, zl_60, zl_97, zl_99, zl_100, zl_124, zl_126, zl_127, zl_169, zl_170, zl_171, zl_195, zl_200, zl_201, zl_256, zl_261, zl_999, zl_1100, zl_1884, zl_4095, zl_4096, zd1, zd2, zs1, nI_add, pk_mul, zsb, zad1, zad2, zcl, zgI, zif_le, zif_nle, zif_lt, zif_nlt, zif_eq, zif_ne, zif_self, zif_T, zif_F, Nat.zero_add, Nat.add_sub_cancel, zn21, zn31, zif_m1, zif_m1l, zif_m1n, zif_pm, zb1_k, zb2_k, zb3_k, zb4_k, zb5_k, zb6_k, zb7_k, zb8_k, zb9_k, zb10_k, zb11_k, zb12_k, zb14_k, zb21_k, zb22_k, zupd_eq, zupd_ne, zupl_eq, zupl_ne, zupf_eq, zupf_ne, el]
          simp (disch := omega) only [zl_0, zl_1, zl_2, zl_3, zl_4, zl_5, zl_6, zl_8, zl_9, zl_11, zl_12, zl_13, zl_16, zl_20, zl_23, zl_24, zl_30, zl_32, zl_40, zl_41, zl_43, zl_45, zl_50, zl_52, zl_60, zl_97, zl_99, zl_100, zl_124, zl_126, zl_127, zl_169, zl_170, zl_171, zl_195, zl_200, zl_201, zl_256, zl_261, zl_999, zl_1100, zl_1884, zl_4095, zl_4096, zd1, zd2, zs1, nI_add, pk_mul, zsb, zad1, zad2, zcl, zgI, zif_le, zif_nle, zif_lt, zif_nlt, zif_eq, zif_ne, zif_self, zif_T, zif_F, Nat.zero_add, Nat.add_sub_cancel, zn21, zn31, zif_m1, zif_m1l, zif_m1n, zif_pm, zb1_k, zb2_k, zb3_k, zb4_k, zb5_k, zb6_k, zb7_k, zb8_k, zb9_k, zb10_k, zb11_k, zb12_k, zb14_k, zb21_k, zb22_k, zupd_eq, zupd_ne, zupl_eq, zupl_ne, zupf_eq, zupf_ne, fX11_keeps_J191]
          exact g2
        · exact (bad (by unfold zst; rw [if_pos rfl, if_neg (fun z => c2 z.2), if_neg (fun z => by have := z.1; rw [hB] at this; have := (of_decide_eq_true this).1; omega)])).elim
      · by_cases c3 : B (T pos) = true ∧ parts < 12
        · have hz : zst B st parts true (T pos) = some (st, parts + 1, false, some (0, T pos - 97)) := by
            unfold zst; rw [if_pos rfl, if_neg (fun z => c1 z.1), if_pos c3]
          rw [zsc_s hz] at hsc
          obtain ⟨ts', hsr, rfl⟩ := zTc_s hsc
          have c5 := c3.1
          rw [hB] at c5
          have c5 := of_decide_eq_true c5
          rw [List.length_cons] at hts
          obtain ⟨t1, t2, t3⟩ := htk
          have t1 : kind t = nI 0 := t1
          have t2 : sort t = nI (T pos - 97) := t2 rfl
          have hnew : zNew a 0 (T pos - 97) 0 1 := Or.inl ⟨rfl, by omega, rfl, rfl, by omega⟩
          obtain ⟨cnt1, k1, f1, s1, p1, x1, x2⟩ := fx_keepPart hv hx (s := T pos - 97) (by omega)
          obtain ⟨now1, m1, m2⟩ := fm_kept hv hm hnew
          obtain ⟨v1, v2⟩ := zKp_V hv hnew
          obtain ⟨o1, o2, o3⟩ := zKp_old hv hnew
          generalize hK : zKp a 0 (T pos - 97) 0 1 = K at *
          have v8 := v1.2.1
          rcases o3 with ⟨i, e1, e2, e3⟩ | e1
          · rw [e1] at x1 m1
            obtain ⟨r, b, cnt', k', f', s', p', mx', om', op', mm', now', g1, g2, g3, g4, g5⟩ := ih (pos + 1) fu fu' st (parts + 1) false ts' (t + 1) K.2 cnt1 k1 f1 s1 p1 now1 (upd mx mk.length (nI i)) (upd mm mk.length (nI i)) opn (i :: mk) (by omega) (by omega) (by omega) hsr (by omega) t3 hst h2 v1 (fun c => (hB c).trans (zac_f v2 c).symm) x2 m2 (fun y hy => by rcases List.mem_cons.mp hy with rfl | hy; exact e2; have := hmk y hy; omega) (by show aP K.2 i + zsp K.2 mk = _; rw [e3, zsp_e o1 mk hmk]; omega) (by omega) (by rw [List.length_cons]; simp only [if_false, Bool.false_eq_true]; omega) ⟨by rw [zupd_eq rfl], zSk_up mk (Nat.le_refl _) kx⟩ ⟨by rw [zupd_eq rfl], zSk_up mk (Nat.le_refl _) km⟩ ko
            rw [List.length_cons] at g1 g2
            refine ⟨r, b, cnt', k', f', s', p', mx', om', op', mm', now', ?_, ?_, g3, zFf_tr v2 g4, g5⟩
            · rw [fX5_keepPlan_L4_s]
              simp (disch := omega) only [zl_0, zl_1, zl_2, zl_3, zl_4, zl_5, zl_6, zl_8, zl_9, zl_11, zl_12, zl_13, zl_16, zl_20, zl_23, zl_24, zl_30, zl_32, zl_40, zl_41, zl_43, zl_45, zl_50, zl_52, zl_60, zl_97, zl_99, zl_100, zl_124, zl_126, zl_127, zl_169, zl_170, zl_171, zl_195, zl_200, zl_201, zl_256, zl_261, zl_999, zl_1100, zl_1884, zl_4095, zl_4096, zd1, zd2, zs1, nI_add, pk_mul, zsb, zad1, zad2, zcl, zgI, zif_le, zif_nle, zif_lt, zif_nlt, zif_eq, zif_ne, zif_self, zif_T, zif_F, Nat.zero_add, Nat.add_sub_cancel, zn21, zn31, zif_m1, zif_m1l, zif_m1n, zif_pm, zb1_k, zb2_k, zb3_k, zb4_k, zb5_k, zb6_k, zb7_k, zb8_k, zb9_k, zb10_k, zb11_k, zb12_k, zb14_k, zb21_k, zb22_k, zupd_eq, zupd_ne, zupl_eq, zupl_ne, zupf_eq, zupf_ne, t1, t2, x1]
              simp (disch := omega) only [zl_0, zl_1, zl_2, zl_3, zl_4, zl_5, zl_6, zl_8, zl_9, zl_11, zl_12, zl_13, zl_16, zl_20, zl_23, zl_24, zl_30, zl_32, zl_40, zl_41, zl_43, zl_45, zl_50, zl_52, zl_60, zl_97, zl_99, zl_100, zl_124, zl_126, zl_127, zl_169, zl_170, zl_171, zl_195, zl_200, zl_201, zl_256, zl_261, zl_999, zl_1100, zl_1884, zl_4095, zl_4096, zd1, zd2, zs1, nI_add, pk_mul, zsb, zad1, zad2, zcl, zgI, zif_le, zif_nle, zif_lt, zif_nlt, zif_eq, zif_ne, zif_self, zif_T, zif_F, Nat.zero_add, Nat.add_sub_cancel, zn21, zn31, zif_m1, zif_m1l, zif_m1n, zif_pm, zb1_k, zb2_k, zb3_k, zb4_k, zb5_k, zb6_k, zb7_k, zb8_k, zb9_k, zb10_k, zb11_k, zb12_k, zb14_k, zb21_k, zb22_k, zupd_eq, zupd_ne, zupl_eq, zupl_ne, zupf_eq, zupf_ne, fX5_keepPlan_J73]
              exact g1
            · rw [fX11_keeps_L9_s]
              simp (disch := omega) only [zl_0, zl_1, zl_2, zl_3, zl_4, zl_5, zl_6, zl_8, zl_9, zl_11, zl_12, zl_13, zl_16, zl_20, zl_23, zl_24, zl_30, zl_32, zl_40, zl_41, zl_43, zl_45, zl_50, zl_52, zl_60, zl_97, zl_99, zl_100, zl_124, zl_126, zl_127, zl_169, zl_170, zl_171, zl_195, zl_200, zl_201, zl_256, zl_261, zl_999, zl_1100, zl_1884, zl_4095, zl_4096, zd1, zd2, zs1, nI_add, pk_mul, zsb, zad1, zad2, zcl, zgI, zif_le, zif_nle, zif_lt, zif_nlt, zif_eq, zif_ne, zif_self, zif_T, zif_F, Nat.zero_add, Nat.add_sub_cancel, zn21, zn31, zif_m1, zif_m1l, zif_m1n, zif_pm, zb1_k, zb2_k, zb3_k, zb4_k, zb5_k, zb6_k, zb7_k, zb8_k, zb9_k, zb10_k, zb11_k, zb12_k, zb14_k, zb21_k, zb22_k, zupd_eq, zupd_ne, zupl_eq, zupl_ne, zupf_eq, zupf_ne, el, m1]
              simp (disch := omega) only [zl_0, zl_1, zl_2, zl_3, zl_4, zl_5, zl_6, zl_8, zl_9, zl_11, zl_12, zl_13, zl_16, zl_20, zl_23, zl_24, zl_30, zl_32, zl_40, zl_41, zl_43, zl_45, zl_50, zl_52, zl_60, zl_97, zl_99, zl_100, zl_124, zl_126, zl_127, zl_169, zl_170, zl_171, zl_195, zl_200, zl_201, zl_256, zl_261, zl_999, zl_1100, zl_1884, zl_4095, zl_4096, zd1, zd2, zs1, nI_add, pk_mul, zsb, zad1, zad2, zcl, zgI, zif_le, zif_nle, zif_lt, zif_nlt, zif_eq, zif_ne, zif_self, zif_T, zif_F, Nat.zero_add, Nat.add_sub_cancel, zn21, zn31, zif_m1, zif_m1l, zif_m1n, zif_pm, zb1_k, zb2_k, zb3_k, zb4_k, zb5_k, zb6_k, zb7_k, zb8_k, zb9_k, zb10_k, zb11_k, zb12_k, zb14_k, zb21_k, zb22_k, zupd_eq, zupd_ne, zupl_eq, zupl_ne, zupf_eq, zupf_ne, fX11_keeps_J191]
              exact g2
          · rw [e1] at x1 m1
            refine ⟨-nI 3, K.2, cnt1, k1, f1, s1, p1, mx, nI st.length, opn, upd mm mk.length (-nI 3), now1, ?_, ?_, v1, v2, x2, m2⟩
            · rw [fX5_keepPlan_L4_s]
              simp (disch := omega) only [zl_0, zl_1, zl_2, zl_3, zl_4, zl_5, zl_6, zl_8, zl_9, zl_11, zl_12, zl_13, zl_16, zl_20, zl_23, zl_24, zl_30, zl_32, zl_40, zl_41, zl_43, zl_45, zl_50, zl_52, zl_60, zl_97, zl_99, zl_100, zl_124, zl_126, zl_127, zl_169, zl_170, zl_171, zl_195, zl_200, zl_201, zl_256, zl_261, zl_999, zl_1100, zl_1884, zl_4095, zl_4096, zd1, zd2, zs1, nI_add, pk_mul, zsb, zad1, zad2, zcl, zgI, zif_le, zif_nle, zif_lt, zif_nlt, zif_eq, zif_ne, zif_self, zif_T, zif_F, Nat.zero_add, Nat.add_sub_cancel, zn21, zn31, zif_m1, zif_m1l, zif_m1n, zif_pm, zb1_k, zb2_k, zb3_k, zb4_k, zb5_k, zb6_k, zb7_k, zb8_k, zb9_k, zb10_k, zb11_k, zb12_k, zb14_k, zb21_k, zb22_k, zupd_eq, zupd_ne, zupl_eq, zupl_ne, zupf_eq, zupf_ne, t1, t2, x1]
              simp (disch := omega) only [zl_0, zl_1, zl_2, zl_3, zl_4, zl_5, zl_6, zl_8, zl_9, zl_11, zl_12, zl_13, zl_16, zl_20, zl_23, zl_24, zl_30, zl_32, zl_40, zl_41, zl_43, zl_45, zl_50, zl_52, zl_60, zl_97, zl_99, zl_100, zl_124, zl_126, zl_127, zl_169, zl_170, zl_171, zl_195, zl_200, zl_201, zl_256, zl_261, zl_999, zl_1100, zl_1884, zl_4095, zl_4096, zd1, zd2, zs1, nI_add, pk_mul, zsb, zad1, zad2, zcl, zgI, zif_le, zif_nle, zif_lt, zif_nlt, zif_eq, zif_ne, zif_self, zif_T, zif_F, Nat.zero_add, Nat.add_sub_cancel, zn21, zn31, zif_m1, zif_m1l, zif_m1n, zif_pm, zb1_k, zb2_k, zb3_k, zb4_k, zb5_k, zb6_k, zb7_k, zb8_k, zb9_k, zb10_k, zb11_k, zb12_k, zb14_k, zb21_k, zb22_k, zupd_eq, zupd_ne, zupl_eq, zupl_ne, zupf_eq, zupf_ne, fX5_keepPlan_J73, zft zn3t]
            · rw [fX11_keeps_L9_s]
              simp (disch := omega) only [zl_0, zl_1, zl_2, zl_3, zl_4, zl_5, zl_6, zl_8, zl_9, zl_11, zl_12, zl_13, zl_16, zl_20, zl_23, zl_24, zl_30, zl_32, zl_40, zl_41, zl_43, zl_45, zl_50, zl_52, zl_60, zl_97, zl_99, zl_100, zl_124, zl_126, zl_127, zl_169, zl_170, zl_171, zl_195, zl_200, zl_201, zl_256, zl_261, zl_999, zl_1100, zl_1884, zl_4095, zl_4096, zd1, zd2, zs1, nI_add, pk_mul, zsb, zad1, zad2, zcl, zgI, zif_le, zif_nle, zif_lt, zif_nlt, zif_eq, zif_ne, zif_self, zif_T, zif_F, Nat.zero_add, Nat.add_sub_cancel, zn21, zn31, zif_m1, zif_m1l, zif_m1n, zif_pm, zb1_k, zb2_k, zb3_k, zb4_k, zb5_k, zb6_k, zb7_k, zb8_k, zb9_k, zb10_k, zb11_k, zb12_k, zb14_k, zb21_k, zb22_k, zupd_eq, zupd_ne, zupl_eq, zupl_ne, zupf_eq, zupf_ne, el, m1]
              simp (disch := omega) only [zl_0, zl_1, zl_2, zl_3, zl_4, zl_5, zl_6, zl_8, zl_9, zl_11, zl_12, zl_13, zl_16, zl_20, zl_23, zl_24, zl_30, zl_32, zl_40, zl_41, zl_43, zl_45, zl_50, zl_52, zl_60, zl_97, zl_99, zl_100, zl_124, zl_126, zl_127, zl_169, zl_170, zl_171, zl_195, zl_200, zl_201, zl_256, zl_261, zl_999, zl_1100, zl_1884, zl_4095, zl_4096, zd1, zd2, zs1, nI_add, pk_mul, zsb, zad1, zad2, zcl, zgI, zif_le, zif_nle, zif_lt, zif_nlt, zif_eq, zif_ne, zif_self, zif_T, zif_F, Nat.zero_add, Nat.add_sub_cancel, zn21, zn31, zif_m1, zif_m1l, zif_m1n, zif_pm, zb1_k, zb2_k, zb3_k, zb4_k, zb5_k, zb6_k, zb7_k, zb8_k, zb9_k, zb10_k, zb11_k, zb12_k, zb14_k, zb21_k, zb22_k, zupd_eq, zupd_ne, zupl_eq, zupl_ne, zupf_eq, zupf_ne, fX11_keeps_J191, zfn zn3l]
        · exact (bad (by unfold zst; rw [if_pos rfl, if_neg (fun z => c1 z.1), if_neg c3])).elim
    | false =>
      simp only [if_false, Bool.false_eq_true] at hln
      cases st with
      | nil => exact (bad (by unfold zst; rw [if_neg (by decide)])).elim
      | cons x r =>
        rw [List.length_cons] at hst ⊢
        obtain ⟨k1, k2⟩ := ko
        cases x with
        | zero =>
          by_cases c1 : T pos = 43
          · have hz : zst B (0 :: r) parts false (T pos) = some (1 :: r, parts, true, none) := by
              unfold zst; rw [if_neg (by decide)]; simp only [c1, if_true]
            rw [zsc_s hz] at hsc
            have hsc := zTc_n hsc
            obtain ⟨r1, b, cnt', k', f', s', p', mx', om', op', mm', now', g1, g2, g3⟩ := ih (pos + 1) (fu + 1) fu' (1 :: r) parts true ts t a cnt k f s p now mx mm (upd opn r.length (nI 1)) mk (by omega) (by omega) (by omega) hsc hts htk hst (fun x hx => by rcases List.mem_cons.mp hx with rfl | hx; omega; exact h2 x (List.mem_cons_of_mem _ hx)) hv hB hx hm hmk hsp hp (by show _ = (1 + znz r) + 0; have : mk.length = (0 + znz r) + 1 := hln; omega) kx km ⟨fun _ => by rw [zupd_eq rfl], zSo_up r (Nat.le_refl _) k2⟩
            refine ⟨r1, b, cnt', k', f', s', p', mx', om', op', mm', now', g1, ?_, g3⟩
            rw [List.length_cons] at g2
            rw [c1] at el
            rw [fX11_keeps_L9_s]
            simp (disch := omega) only [zl_0, zl_1, zl_2, zl_3, zl_4, zl_5, zl_6, zl_8, zl_9, zl_11, zl_12, zl_13, zl_16, zl_20, zl_23, zl_24, zl_30, zl_32, zl_40, zl_41, zl_43, zl_45, zl_50, zl_52, zl_60, zl_97, zl_99, zl_100, zl_124, zl_126, zl_127, zl_169, zl_170, zl_171, zl_195, zl_200, zl_201, zl_256, zl_261, zl_999, zl_1100, zl_1884, zl_4095, zl_4096, zd1, zd2, zs1, nI_add, pk_mul, zsb, zad1, zad2, zcl, zgI, zif_le, zif_nle, zif_lt, zif_nlt, zif_eq, zif_ne, zif_self, zif_T, zif_F, Nat.zero_add, Nat.add_sub_cancel, zn21, zn31, zif_m1, zif_m1l, zif_m1n, zif_pm, zb1_k, zb2_k, zb3_k, zb4_k, zb5_k, zb6_k, zb7_k, zb8_k, zb9_k, zb10_k, zb11_k, zb12_k, zb14_k, zb21_k, zb22_k, zupd_eq, zupd_ne, zupl_eq, zupl_ne, zupf_eq, zupf_ne, el]
            simp (disch := omega) only [zl_0, zl_1, zl_2, zl_3, zl_4, zl_5, zl_6, zl_8, zl_9, zl_11, zl_12, zl_13, zl_16, zl_20, zl_23, zl_24, zl_30, zl_32, zl_40, zl_41, zl_43, zl_45, zl_50, zl_52, zl_60, zl_97, zl_99, zl_100, zl_124, zl_126, zl_127, zl_169, zl_170, zl_171, zl_195, zl_200, zl_201, zl_256, zl_261, zl_999, zl_1100, zl_1884, zl_4095, zl_4096, zd1, zd2, zs1, nI_add, pk_mul, zsb, zad1, zad2, zcl, zgI, zif_le, zif_nle, zif_lt, zif_nlt, zif_eq, zif_ne, zif_self, zif_T, zif_F, Nat.zero_add, Nat.add_sub_cancel, zn21, zn31, zif_m1, zif_m1l, zif_m1n, zif_pm, zb1_k, zb2_k, zb3_k, zb4_k, zb5_k, zb6_k, zb7_k, zb8_k, zb9_k, zb10_k, zb11_k, zb12_k, zb14_k, zb21_k, zb22_k, zupd_eq, zupd_ne, zupl_eq, zupl_ne, zupf_eq, zupf_ne, el, fX11_keeps_J58]
            simp (disch := omega) only [zl_0, zl_1, zl_2, zl_3, zl_4, zl_5, zl_6, zl_8, zl_9, zl_11, zl_12, zl_13, zl_16, zl_20, zl_23, zl_24, zl_30, zl_32, zl_40, zl_41, zl_43, zl_45, zl_50, zl_52, zl_60, zl_97, zl_99, zl_100, zl_124, zl_126, zl_127, zl_169, zl_170, zl_171, zl_195, zl_200, zl_201, zl_256, zl_261, zl_999, zl_1100, zl_1884, zl_4095, zl_4096, zd1, zd2, zs1, nI_add, pk_mul, zsb, zad1, zad2, zcl, zgI, zif_le, zif_nle, zif_lt, zif_nlt, zif_eq, zif_ne, zif_self, zif_T, zif_F, Nat.zero_add, Nat.add_sub_cancel, zn21, zn31, zif_m1, zif_m1l, zif_m1n, zif_pm, zb1_k, zb2_k, zb3_k, zb4_k, zb5_k, zb6_k, zb7_k, zb8_k, zb9_k, zb10_k, zb11_k, zb12_k, zb14_k, zb21_k, zb22_k, zupd_eq, zupd_ne, zupl_eq, zupl_ne, zupf_eq, zupf_ne, fX11_keeps_J79]
            simp (disch := omega) only [zl_0, zl_1, zl_2, zl_3, zl_4, zl_5, zl_6, zl_8, zl_9, zl_11, zl_12, zl_13, zl_16, zl_20, zl_23, zl_24, zl_30, zl_32, zl_40, zl_41, zl_43, zl_45, zl_50, zl_52, zl_60, zl_97, zl_99, zl_100, zl_124, zl_126, zl_127, zl_169, zl_170, zl_171, zl_195, zl_200, zl_201, zl_256, zl_261, zl_999, zl_1100, zl_1884, zl_4095, zl_4096, zd1, zd2, zs1, nI_add, pk_mul, zsb, zad1, zad2, zcl, zgI, zif_le, zif_nle, zif_lt, zif_nlt, zif_eq, zif_ne, zif_self, zif_T, zif_F, Nat.zero_add, Nat.add_sub_cancel, zn21, zn31, zif_m1, zif_m1l, zif_m1n, zif_pm, zb1_k, zb2_k, zb3_k, zb4_k, zb5_k, zb6_k, zb7_k, zb8_k, zb9_k, zb10_k, zb11_k, zb12_k, zb14_k, zb21_k, zb22_k, zupd_eq, zupd_ne, zupl_eq, zupl_ne, zupf_eq, zupf_ne, fX11_keeps_J191]
            exact g2
          · by_cases c2 : T pos = 124
            · have hz : zst B (0 :: r) parts false (T pos) = some (2 :: r, parts, true, none) := by
                unfold zst; rw [if_neg (by decide)]; simp only [c2, if_true, if_neg (show ¬ (124 : Nat) = 43 by decide)]
              rw [zsc_s hz] at hsc
              have hsc := zTc_n hsc
              obtain ⟨r1, b, cnt', k', f', s', p', mx', om', op', mm', now', g1, g2, g3⟩ := ih (pos + 1) (fu + 1) fu' (2 :: r) parts true ts t a cnt k f s p now mx mm (upd opn r.length (nI 2)) mk (by omega) (by omega) (by omega) hsc hts htk hst (fun x hx => by rcases List.mem_cons.mp hx with rfl | hx; omega; exact h2 x (List.mem_cons_of_mem _ hx)) hv hB hx hm hmk hsp hp (by show _ = (1 + znz r) + 0; have : mk.length = (0 + znz r) + 1 := hln; omega) kx km ⟨fun _ => by rw [zupd_eq rfl], zSo_up r (Nat.le_refl _) k2⟩
              refine ⟨r1, b, cnt', k', f', s', p', mx', om', op', mm', now', g1, ?_, g3⟩
              rw [List.length_cons] at g2
              rw [c2] at el
              rw [fX11_keeps_L9_s]
              simp (disch := omega) only [zl_0, zl_1, zl_2, zl_3, zl_4, zl_5, zl_6, zl_8, zl_9, zl_11, zl_12, zl_13, zl_16, zl_20, zl_23, zl_24, zl_30, zl_32, zl_40, zl_41, zl_43, zl_45, zl_50, zl_52, zl_60, zl_97, zl_99, zl_100, zl_124, zl_126, zl_127, zl_169, zl_170, zl_171, zl_195, zl_200, zl_201, zl_256, zl_261, zl_999, zl_1100, zl_1884, zl_4095, zl_4096, zd1, zd2, zs1, nI_add, pk_mul, zsb, zad1, zad2, zcl, zgI, zif_le, zif_nle, zif_lt, zif_nlt, zif_eq, zif_ne, zif_self, zif_T, zif_F, Nat.zero_add, Nat.add_sub_cancel, zn21, zn31, zif_m1, zif_m1l, zif_m1n, zif_pm, zb1_k, zb2_k, zb3_k, zb4_k, zb5_k, zb6_k, zb7_k, zb8_k, zb9_k, zb10_k, zb11_k, zb12_k, zb14_k, zb21_k, zb22_k, zupd_eq, zupd_ne, zupl_eq, zupl_ne, zupf_eq, zupf_ne, el]
              simp (disch := omega) only [zl_0, zl_1, zl_2, zl_3, zl_4, zl_5, zl_6, zl_8, zl_9, zl_11, zl_12, zl_13, zl_16, zl_20, zl_23, zl_24, zl_30, zl_32, zl_40, zl_41, zl_43, zl_45, zl_50, zl_52, zl_60, zl_97, zl_99, zl_100, zl_124, zl_126, zl_127, zl_169, zl_170, zl_171, zl_195, zl_200, zl_201, zl_256, zl_261, zl_999, zl_1100, zl_1884, zl_4095, zl_4096, zd1, zd2, zs1, nI_add, pk_mul, zsb, zad1, zad2, zcl, zgI, zif_le, zif_nle, zif_lt, zif_nlt, zif_eq, zif_ne, zif_self, zif_T, zif_F, Nat.zero_add, Nat.add_sub_cancel, zn21, zn31, zif_m1, zif_m1l, zif_m1n, zif_pm, zb1_k, zb2_k, zb3_k, zb4_k, zb5_k, zb6_k, zb7_k, zb8_k, zb9_k, zb10_k, zb11_k, zb12_k, zb14_k, zb21_k, zb22_k, zupd_eq, zupd_ne, zupl_eq, zupl_ne, zupf_eq, zupf_ne, el, fX11_keeps_J58]
              simp (disch := omega) only [zl_0, zl_1, zl_2, zl_3, zl_4, zl_5, zl_6, zl_8, zl_9, zl_11, zl_12, zl_13, zl_16, zl_20, zl_23, zl_24, zl_30, zl_32, zl_40, zl_41, zl_43, zl_45, zl_50, zl_52, zl_60, zl_97, zl_99, zl_100, zl_124, zl_126, zl_127, zl_169, zl_170, zl_171, zl_195, zl_200, zl_201, zl_256, zl_261, zl_999, zl_1100, zl_1884, zl_4095, zl_4096, zd1, zd2, zs1, nI_add, pk_mul, zsb, zad1, zad2, zcl, zgI, zif_le, zif_nle, zif_lt, zif_nlt, zif_eq, zif_ne, zif_self, zif_T, zif_F, Nat.zero_add, Nat.add_sub_cancel, zn21, zn31, zif_m1, zif_m1l, zif_m1n, zif_pm, zb1_k, zb2_k, zb3_k, zb4_k, zb5_k, zb6_k, zb7_k, zb8_k, zb9_k, zb10_k, zb11_k, zb12_k, zb14_k, zb21_k, zb22_k, zupd_eq, zupd_ne, zupl_eq, zupl_ne, zupf_eq, zupf_ne, fX11_keeps_J79]
              simp (disch := omega) only [zl_0, zl_1, zl_2, zl_3, zl_4, zl_5, zl_6, zl_8, zl_9, zl_11, zl_12, zl_13, zl_16, zl_20, zl_23, zl_24, zl_30, zl_32, zl_40, zl_41, zl_43, zl_45, zl_50, zl_52, zl_60, zl_97, zl_99, zl_100, zl_124, zl_126, zl_127, zl_169, zl_170, zl_171, zl_195, zl_200, zl_201, zl_256, zl_261, zl_999, zl_1100, zl_1884, zl_4095, zl_4096, zd1, zd2, zs1, nI_add, pk_mul, zsb, zad1, zad2, zcl, zgI, zif_le, zif_nle, zif_lt, zif_nlt, zif_eq, zif_ne, zif_self, zif_T, zif_F, Nat.zero_add, Nat.add_sub_cancel, zn21, zn31, zif_m1, zif_m1l, zif_m1n, zif_pm, zb1_k, zb2_k, zb3_k, zb4_k, zb5_k, zb6_k, zb7_k, zb8_k, zb9_k, zb10_k, zb11_k, zb12_k, zb14_k, zb21_k, zb22_k, zupd_eq, zupd_ne, zupl_eq, zupl_ne, zupf_eq, zupf_ne, fX11_keeps_J191]
              exact g2
            · exact (bad (by unfold zst; rw [if_neg (by decide)]; simp only [if_neg c1, if_neg c2])).elim
        | succ s0 =>
          have hs := h2 (s0 + 1) (List.mem_cons_self ..)
          have hln : mk.length = (1 + znz r) + 1 := hln
          by_cases c1 : T pos = 41
          · have hz : zst B ((s0 + 1) :: r) parts false (T pos) = some (r, parts, false, some (s0 + 1, 0)) := by
              unfold zst; rw [if_neg (by decide)]; simp only [c1, if_true]
            rw [zsc_s hz] at hsc
            obtain ⟨ts', hsr, rfl⟩ := zTc_s hsc
            rw [List.length_cons] at hts
            obtain ⟨t1, t2, t3⟩ := htk
            have t1 : kind t = nI (s0 + 1) := t1
            have k1 : opn r.length = nI (s0 + 1) := k1 (by omega)
            cases mk with
            | nil => simp only [List.length_nil] at hln; omega
            | cons x mk =>
            cases mk with
            | nil => simp only [List.length_cons, List.length_nil] at hln; omega
            | cons y m =>
            rw [List.length_cons, List.length_cons] at hln ⊢
            have zr := znz_le r
            obtain ⟨kx1, kx2, kx3⟩ := kx
            obtain ⟨km1, km2, km3⟩ := km
            rw [List.length_cons] at kx1 km1
            have hix := hmk x (List.mem_cons_self ..)
            have hiy := hmk y (List.mem_cons_of_mem _ (List.mem_cons_self ..))
            have hmm : ∀ i ∈ m, i < a 8 := fun i hi => hmk i (List.mem_cons_of_mem _ (List.mem_cons_of_mem _ hi))
            have hsp : aP a x + (aP a y + zsp a m) = parts := hsp
            have hnew : zNew a (s0 + 1) y x (aP a y + aP a x) := Or.inr ⟨by omega, hiy, hix, rfl, by omega⟩
            obtain ⟨cnt1, k1', f1, s1, p1, x1, x2⟩ := fx_keepJoin (kk := s0 + 1) hv hx (by omega) hiy hix (by omega)
            obtain ⟨now1, m1, m2⟩ := fm_kept hv hm hnew
            obtain ⟨v1, v2⟩ := zKp_V hv hnew
            obtain ⟨o1, o2, o3⟩ := zKp_old hv hnew
            have py := fm_partsOf hm (i := y) (by omega)
            have px := fm_partsOf hm (i := x) (by omega)
            generalize hK : zKp a (s0 + 1) y x (aP a y + aP a x) = K at *
            rw [c1] at el
            have v8 := v1.2.1
            rcases o3 with ⟨i, e1, e2, e3⟩ | e1
            · rw [e1] at x1 m1
              obtain ⟨r1, b, cnt', k', f', s', p', mx', om', op', mm', now', g1, g2, g3, g4, g5⟩ := ih (pos + 1) fu fu' r parts false ts' (t + 1) K.2 cnt1 k1' f1 s1 p1 now1 (upd mx m.length (nI i)) (upd mm m.length (nI i)) opn (i :: m) (by omega) (by omega) (by omega) hsr (by omega) t3 (by omega) (fun x hx => h2 x (List.mem_cons_of_mem _ hx)) v1 (fun c => (hB c).trans (zac_f v2 c).symm) x2 m2 (fun z hz => by rcases List.mem_cons.mp hz with rfl | hz; exact e2; have := hmm z hz; omega) (by show aP K.2 i + zsp K.2 m = _; rw [e3, zsp_e o1 m hmm]; omega) hp (by rw [List.length_cons]; simp only [if_false, Bool.false_eq_true]; omega) ⟨by rw [zupd_eq rfl], zSk_up m (Nat.le_refl _) kx3⟩ ⟨by rw [zupd_eq rfl], zSk_up m (Nat.le_refl _) km3⟩ k2
              rw [List.length_cons] at g1 g2
              refine ⟨r1, b, cnt', k', f', s', p', mx', om', op', mm', now', ?_, ?_, g3, zFf_tr v2 g4, g5⟩
              · rw [fX5_keepPlan_L4_s]
                simp (disch := omega) only [zl_0, zl_1, zl_2, zl_3, zl_4, zl_5, zl_6, zl_8, zl_9, zl_11, zl_12, zl_13, zl_16, zl_20, zl_23, zl_24, zl_30, zl_32, zl_40, zl_41, zl_43, zl_45, zl_50, zl_52, zl_60, zl_97, zl_99, zl_100, zl_124, zl_126, zl_127, zl_169, zl_170, zl_171, zl_195, zl_200, zl_201, zl_256, zl_261, zl_999, zl_1100, zl_1884, zl_4095, zl_4096, zd1, zd2, zs1, nI_add, pk_mul, zsb, zad1, zad2, zcl, zgI, zif_le, zif_nle, zif_lt, zif_nlt, zif_eq, zif_ne, zif_self, zif_T, zif_F, Nat.zero_add, Nat.add_sub_cancel, zn21, zn31, zif_m1, zif_m1l, zif_m1n, zif_pm, zb1_k, zb2_k, zb3_k, zb4_k, zb5_k, zb6_k, zb7_k, zb8_k, zb9_k, zb10_k, zb11_k, zb12_k, zb14_k, zb21_k, zb22_k, zupd_eq, zupd_ne, zupl_eq, zupl_ne, zupf_eq, zupf_ne, t1, kx1, kx2, x1]
                simp (disch := omega) only [zl_0, zl_1, zl_2, zl_3, zl_4, zl_5, zl_6, zl_8, zl_9, zl_11, zl_12, zl_13, zl_16, zl_20, zl_23, zl_24, zl_30, zl_32, zl_40, zl_41, zl_43, zl_45, zl_50, zl_52, zl_60, zl_97, zl_99, zl_100, zl_124, zl_126, zl_127, zl_169, zl_170, zl_171, zl_195, zl_200, zl_201, zl_256, zl_261, zl_999, zl_1100, zl_1884, zl_4095, zl_4096, zd1, zd2, zs1, nI_add, pk_mul, zsb, zad1, zad2, zcl, zgI, zif_le, zif_nle, zif_lt, zif_nlt, zif_eq, zif_ne, zif_self, zif_T, zif_F, Nat.zero_add, Nat.add_sub_cancel, zn21, zn31, zif_m1, zif_m1l, zif_m1n, zif_pm, zb1_k, zb2_k, zb3_k, zb4_k, zb5_k, zb6_k, zb7_k, zb8_k, zb9_k, zb10_k, zb11_k, zb12_k, zb14_k, zb21_k, zb22_k, zupd_eq, zupd_ne, zupl_eq, zupl_ne, zupf_eq, zupf_ne, fX5_keepPlan_J73]
                exact g1
              · rw [fX11_keeps_L9_s]
                simp (disch := omega) only [zl_0, zl_1, zl_2, zl_3, zl_4, zl_5, zl_6, zl_8, zl_9, zl_11, zl_12, zl_13, zl_16, zl_20, zl_23, zl_24, zl_30, zl_32, zl_40, zl_41, zl_43, zl_45, zl_50, zl_52, zl_60, zl_97, zl_99, zl_100, zl_124, zl_126, zl_127, zl_169, zl_170, zl_171, zl_195, zl_200, zl_201, zl_256, zl_261, zl_999, zl_1100, zl_1884, zl_4095, zl_4096, zd1, zd2, zs1, nI_add, pk_mul, zsb, zad1, zad2, zcl, zgI, zif_le, zif_nle, zif_lt, zif_nlt, zif_eq, zif_ne, zif_self, zif_T, zif_F, Nat.zero_add, Nat.add_sub_cancel, zn21, zn31, zif_m1, zif_m1l, zif_m1n, zif_pm, zb1_k, zb2_k, zb3_k, zb4_k, zb5_k, zb6_k, zb7_k, zb8_k, zb9_k, zb10_k, zb11_k, zb12_k, zb14_k, zb21_k, zb22_k, zupd_eq, zupd_ne, zupl_eq, zupl_ne, zupf_eq, zupf_ne, el, k1, km1, km2, py, px, m1]
                simp (disch := omega) only [zl_0, zl_1, zl_2, zl_3, zl_4, zl_5, zl_6, zl_8, zl_9, zl_11, zl_12, zl_13, zl_16, zl_20, zl_23, zl_24, zl_30, zl_32, zl_40, zl_41, zl_43, zl_45, zl_50, zl_52, zl_60, zl_97, zl_99, zl_100, zl_124, zl_126, zl_127, zl_169, zl_170, zl_171, zl_195, zl_200, zl_201, zl_256, zl_261, zl_999, zl_1100, zl_1884, zl_4095, zl_4096, zd1, zd2, zs1, nI_add, pk_mul, zsb, zad1, zad2, zcl, zgI, zif_le, zif_nle, zif_lt, zif_nlt, zif_eq, zif_ne, zif_self, zif_T, zif_F, Nat.zero_add, Nat.add_sub_cancel, zn21, zn31, zif_m1, zif_m1l, zif_m1n, zif_pm, zb1_k, zb2_k, zb3_k, zb4_k, zb5_k, zb6_k, zb7_k, zb8_k, zb9_k, zb10_k, zb11_k, zb12_k, zb14_k, zb21_k, zb22_k, zupd_eq, zupd_ne, zupl_eq, zupl_ne, zupf_eq, zupf_ne, fX11_keeps_J191]
                exact g2
            · rw [e1] at x1 m1
              refine ⟨-nI 3, K.2, cnt1, k1', f1, s1, p1, mx, nI r.length, opn, upd mm m.length (-nI 3), now1, ?_, ?_, v1, v2, x2, m2⟩
              · rw [fX5_keepPlan_L4_s]
                simp (disch := omega) only [zl_0, zl_1, zl_2, zl_3, zl_4, zl_5, zl_6, zl_8, zl_9, zl_11, zl_12, zl_13, zl_16, zl_20, zl_23, zl_24, zl_30, zl_32, zl_40, zl_41, zl_43, zl_45, zl_50, zl_52, zl_60, zl_97, zl_99, zl_100, zl_124, zl_126, zl_127, zl_169, zl_170, zl_171, zl_195, zl_200, zl_201, zl_256, zl_261, zl_999, zl_1100, zl_1884, zl_4095, zl_4096, zd1, zd2, zs1, nI_add, pk_mul, zsb, zad1, zad2, zcl, zgI, zif_le, zif_nle, zif_lt, zif_nlt, zif_eq, zif_ne, zif_self, zif_T, zif_F, Nat.zero_add, Nat.add_sub_cancel, zn21, zn31, zif_m1, zif_m1l, zif_m1n, zif_pm, zb1_k, zb2_k, zb3_k, zb4_k, zb5_k, zb6_k, zb7_k, zb8_k, zb9_k, zb10_k, zb11_k, zb12_k, zb14_k, zb21_k, zb22_k, zupd_eq, zupd_ne, zupl_eq, zupl_ne, zupf_eq, zupf_ne, t1, kx1, kx2, x1]
                simp (disch := omega) only [zl_0, zl_1, zl_2, zl_3, zl_4, zl_5, zl_6, zl_8, zl_9, zl_11, zl_12, zl_13, zl_16, zl_20, zl_23, zl_24, zl_30, zl_32, zl_40, zl_41, zl_43, zl_45, zl_50, zl_52, zl_60, zl_97, zl_99, zl_100, zl_124, zl_126, zl_127, zl_169, zl_170, zl_171, zl_195, zl_200, zl_201, zl_256, zl_261, zl_999, zl_1100, zl_1884, zl_4095, zl_4096, zd1, zd2, zs1, nI_add, pk_mul, zsb, zad1, zad2, zcl, zgI, zif_le, zif_nle, zif_lt, zif_nlt, zif_eq, zif_ne, zif_self, zif_T, zif_F, Nat.zero_add, Nat.add_sub_cancel, zn21, zn31, zif_m1, zif_m1l, zif_m1n, zif_pm, zb1_k, zb2_k, zb3_k, zb4_k, zb5_k, zb6_k, zb7_k, zb8_k, zb9_k, zb10_k, zb11_k, zb12_k, zb14_k, zb21_k, zb22_k, zupd_eq, zupd_ne, zupl_eq, zupl_ne, zupf_eq, zupf_ne, fX5_keepPlan_J73, zft zn3t]
              · rw [fX11_keeps_L9_s]
                simp (disch := omega) only [zl_0, zl_1, zl_2, zl_3, zl_4, zl_5, zl_6, zl_8, zl_9, zl_11, zl_12, zl_13, zl_16, zl_20, zl_23, zl_24, zl_30, zl_32, zl_40, zl_41, zl_43, zl_45, zl_50, zl_52, zl_60, zl_97, zl_99, zl_100, zl_124, zl_126, zl_127, zl_169, zl_170, zl_171, zl_195, zl_200, zl_201, zl_256, zl_261, zl_999, zl_1100, zl_1884, zl_4095, zl_4096, zd1, zd2, zs1, nI_add, pk_mul, zsb, zad1, zad2, zcl, zgI, zif_le, zif_nle, zif_lt, zif_nlt, zif_eq, zif_ne, zif_self, zif_T, zif_F, Nat.zero_add, Nat.add_sub_cancel, zn21, zn31, zif_m1, zif_m1l, zif_m1n, zif_pm, zb1_k, zb2_k, zb3_k, zb4_k, zb5_k, zb6_k, zb7_k, zb8_k, zb9_k, zb10_k, zb11_k, zb12_k, zb14_k, zb21_k, zb22_k, zupd_eq, zupd_ne, zupl_eq, zupl_ne, zupf_eq, zupf_ne, el, k1, km1, km2, py, px, m1]
                simp (disch := omega) only [zl_0, zl_1, zl_2, zl_3, zl_4, zl_5, zl_6, zl_8, zl_9, zl_11, zl_12, zl_13, zl_16, zl_20, zl_23, zl_24, zl_30, zl_32, zl_40, zl_41, zl_43, zl_45, zl_50, zl_52, zl_60, zl_97, zl_99, zl_100, zl_124, zl_126, zl_127, zl_169, zl_170, zl_171, zl_195, zl_200, zl_201, zl_256, zl_261, zl_999, zl_1100, zl_1884, zl_4095, zl_4096, zd1, zd2, zs1, nI_add, pk_mul, zsb, zad1, zad2, zcl, zgI, zif_le, zif_nle, zif_lt, zif_nlt, zif_eq, zif_ne, zif_self, zif_T, zif_F, Nat.zero_add, Nat.add_sub_cancel, zn21, zn31, zif_m1, zif_m1l, zif_m1n, zif_pm, zb1_k, zb2_k, zb3_k, zb4_k, zb5_k, zb6_k, zb7_k, zb8_k, zb9_k, zb10_k, zb11_k, zb12_k, zb14_k, zb21_k, zb22_k, zupd_eq, zupd_ne, zupl_eq, zupl_ne, zupf_eq, zupf_ne, fX11_keeps_J191, zfn zn3l]
          · exact (bad (by unfold zst; rw [if_neg (by decide)]; simp only [if_neg c1])).elim
