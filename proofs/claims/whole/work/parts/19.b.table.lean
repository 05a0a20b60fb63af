/-! the class's rows: the table by open addressing, a value that comes -/
def zwst (u d : Nat) : Nat := (((nI u * (40503 : Int32)) + (nI d * (30011 : Int32))) ^^^ (((((nI u * (40503 : Int32)) + (nI d * (30011 : Int32)))).toUInt32 >>> (((13 : Int32)).toUInt32 &&& Int32.toUInt32 31)).toInt32)).toBitVec.toNat % 4096
theorem zwst_l (u d : Nat) : zwst u d < 4096 := Nat.mod_lt _ (by decide)
theorem zwa95 (x : Int32) : x &&& (4095 : Int32) = nI (x.toBitVec.toNat % 4096) := by
  apply Int32.toBitVec_inj.mp
  apply BitVec.eq_of_toNat_eq
  have h : x.toBitVec.toNat % 4096 < 4096 := Nat.mod_lt _ (by decide)
  rw [Int32.toBitVec_and, BitVec.toNat_and, pk_tn (n := x.toBitVec.toNat % 4096) (by omega), show (4095 : Int32).toBitVec.toNat = 4095 from by decide]
  exact Nat.and_two_pow_sub_one_eq_mod x.toBitVec.toNat 12
theorem zwnx {s : Nat} (h : s < 4096) : nI (s + 1) &&& nI 4095 = nI ((s + 1) % 4096) := by
  rw [← zl_4095, zwa95, pk_tn (by omega)]
def zwcn (T : Nat → Nat) : Nat → Nat
  | 0 => 0
  | n + 1 => zwcn T n + (if T n = 0 then 0 else 1)
theorem zwcn_z {T : Nat → Nat} : ∀ n, zwcn T n < n → ∃ i, i < n ∧ T i = 0
  | 0, h => by omega
  | n + 1, h => by
    by_cases z : T n = 0
    · exact ⟨n, Nat.lt_succ_self n, z⟩
    · have e : zwcn T (n + 1) = zwcn T n + (if T n = 0 then 0 else 1) := rfl
      rw [e, if_neg z] at h
      obtain ⟨i, h1, h2⟩ := zwcn_z (T := T) n (by omega)
      exact ⟨i, by omega, h2⟩
theorem zwcn_c {T T' : Nat → Nat} : ∀ n, (∀ i, i < n → T' i = T i) → zwcn T' n = zwcn T n
  | 0, _ => rfl
  | n + 1, h => by
    show zwcn T' n + (if T' n = 0 then 0 else 1) = zwcn T n + (if T n = 0 then 0 else 1)
    rw [zwcn_c n (fun i hi => h i (by omega)), h n (Nat.lt_succ_self n)]
theorem zwcn_u {T : Nat → Nat} {s v : Nat} (hs : T s = 0) (hv : v ≠ 0) : ∀ n, s < n → zwcn (vf_upd T s v) n = zwcn T n + 1
  | 0, h => by omega
  | n + 1, h => by
    show zwcn (vf_upd T s v) n + (if vf_upd T s v n = 0 then 0 else 1) = zwcn T n + (if T n = 0 then 0 else 1) + 1
    by_cases e : n = s
    · subst e
      rw [zwcn_c (T := T) n (fun i hi => zupf_ne (by omega)), zupf_eq rfl, if_neg hv, if_pos hs]
    · rw [zwcn_u hs hv n (by omega), zupf_ne e]
      omega
def zwG (l : List zwE) : Prop := ∀ (i : Nat) (e : zwE), l[i]? = some e → zwB 96059601 3881196 e.1
def zwHt (l : List zwE) (T : Nat → Nat) : Prop := (∀ i, i < 4096 → T i ≤ l.length) ∧ zwcn T 4096 = l.length ∧ ∀ (i : Nat) (e : zwE), l[i]? = some e → ∃ c, c < 4096 ∧ T ((zwst e.1.1 e.1.2 + c) % 4096) = i + 1 ∧ ∀ t, t < c → T ((zwst e.1.1 e.1.2 + t) % 4096) ≠ 0
def zwXa (l : List zwE) (ab be kd fi se : Nat → Int32) : Prop := ∀ (i : Nat) (e : zwE), l[i]? = some e → ab i = nI e.1.1 ∧ be i = nI e.1.2 ∧ kd i = nI e.2.1 ∧ fi i = nI e.2.2.1 ∧ (e.2.1 ≠ 0 → se i = nI e.2.2.2)
def zwTb (l : List zwE) (tb : Nat → Int32) : Prop := ∃ T, (∀ i, i < 4096 → tb i = nI (T i)) ∧ zwHt l T
def zwXr (l : List zwE) (sz : Int32) (tb ab be kd fi se : Nat → Int32) : Prop := sz = nI l.length ∧ zwTb l tb ∧ zwXa l ab be kd fi se
theorem zwneg : (nI 0 - nI 1 : Int32) < nI 0 := by decide
theorem fx_slotL {l : List zwE} {T : Nat → Nat} {tb ab be : Nat → Int32} {u d s0 z : Nat} (hl : l.length ≤ 1884) (ht : ∀ i, i < 4096 → tb i = nI (T i)) (hT : ∀ i, i < 4096 → T i ≤ l.length) (hr : ∀ (i : Nat) (e : zwE), l[i]? = some e → ab i = nI e.1.1 ∧ be i = nI e.1.2) (hB : zwG l) (hu : u < 2147483648) (hd : d < 2147483648) (hz : z < 4096) (h0 : T ((s0 + z) % 4096) = 0) : ∀ c q fu, q + c = z → c < fu → (∀ t, t < q → T ((s0 + t) % 4096) ≠ 0 ∧ ∀ (j : Nat) (e : zwE), T ((s0 + t) % 4096) = j + 1 → l[j]? = some e → e.1 ≠ (u, d)) → ∃ q', q' ≤ z ∧ fX7_slotOf_L26 tb ab be (nI u) (nI d) fu (nI ((s0 + q) % 4096)) (nI q) = some (nI ((s0 + q') % 4096)) ∧ (∀ t, t < q' → T ((s0 + t) % 4096) ≠ 0 ∧ ∀ (j : Nat) (e : zwE), T ((s0 + t) % 4096) = j + 1 → l[j]? = some e → e.1 ≠ (u, d)) ∧ (T ((s0 + q') % 4096) = 0 ∨ ∃ (j : Nat) (e : zwE), T ((s0 + q') % 4096) = j + 1 ∧ l[j]? = some e ∧ e.1 = (u, d)) := by
  intro c
  induction c with
  | zero =>
    intro q fu hq hfu hb
    obtain ⟨fu, rfl⟩ : ∃ f, fu = f + 1 := ⟨fu - 1, by omega⟩
    have e : q = z := by omega
    subst e
    refine ⟨q, Nat.le_refl _, ?_, hb, Or.inl h0⟩
    have hs : (s0 + q) % 4096 < 4096 := Nat.mod_lt _ (by decide)
    have ht1 := ht _ hs
    rw [h0] at ht1
    generalize (s0 + q) % 4096 = s at *
    rw [fX7_slotOf_L26_s]
    simp (disch := omega) only [zl_0, zl_1, zl_2, zl_3, zl_4, zl_5, zl_6, zl_8, zl_9, zl_11, zl_12, zl_13, zl_16, zl_20, zl_23, zl_24, zl_30, zl_32, zl_40, zl_41, zl_43, zl_45, zl_50, zl_52, zl_60, zl_97, zl_99, zl_100, zl_124, zl_126, zl_127, zl_169, zl_170, zl_171, zl_195, zl_200, zl_201, zl_256, zl_261, zl_999, zl_1100, zl_1884, zl_4095, zl_4096, zd1, zd2, zs1, nI_add, pk_mul, zsb, zad1, zad2, zcl, zgI, zif_le, zif_nle, zif_lt, zif_nlt, zif_eq, zif_ne, zif_self, zif_T, zif_F, Nat.zero_add, Nat.add_sub_cancel, zn21, zn31, zif_m1, zif_m1l, zif_m1n, zif_pm, zb1_k, zb2_k, zb3_k, zb4_k, zb5_k, zb6_k, zb7_k, zb8_k, zb9_k, zb10_k, zb11_k, zb12_k, zb14_k, zb21_k, zb22_k, zupd_eq, zupd_ne, zupl_eq, zupl_ne, zupf_eq, zupf_ne, ht1, zft zwneg]
  | succ c ih =>
    intro q fu hq hfu hb
    obtain ⟨fu, rfl⟩ : ∃ f, fu = f + 1 := ⟨fu - 1, by omega⟩
    have hs : (s0 + q) % 4096 < 4096 := Nat.mod_lt _ (by decide)
    have ht1 := ht _ hs
    have hT1 := hT _ hs
    have hn : (s0 + (q + 1)) % 4096 = ((s0 + q) % 4096 + 1) % 4096 := by omega
    cases hc : T ((s0 + q) % 4096) with
    | zero =>
      refine ⟨q, by omega, ?_, hb, Or.inl hc⟩
      rw [hc] at ht1
      generalize (s0 + q) % 4096 = s at *
      rw [fX7_slotOf_L26_s]
      simp (disch := omega) only [zl_0, zl_1, zl_2, zl_3, zl_4, zl_5, zl_6, zl_8, zl_9, zl_11, zl_12, zl_13, zl_16, zl_20, zl_23, zl_24, zl_30, zl_32, zl_40, zl_41, zl_43, zl_45, zl_50, zl_52, zl_60, zl_97, zl_99, zl_100, zl_124, zl_126, zl_127, zl_169, zl_170, zl_171, zl_195, zl_200, zl_201, zl_256, zl_261, zl_999, zl_1100, zl_1884, zl_4095, zl_4096, zd1, zd2, zs1, nI_add, pk_mul, zsb, zad1, zad2, zcl, zgI, zif_le, zif_nle, zif_lt, zif_nlt, zif_eq, zif_ne, zif_self, zif_T, zif_F, Nat.zero_add, Nat.add_sub_cancel, zn21, zn31, zif_m1, zif_m1l, zif_m1n, zif_pm, zb1_k, zb2_k, zb3_k, zb4_k, zb5_k, zb6_k, zb7_k, zb8_k, zb9_k, zb10_k, zb11_k, zb12_k, zb14_k, zb21_k, zb22_k, zupd_eq, zupd_ne, zupl_eq, zupl_ne, zupf_eq, zupf_ne, ht1, zft zwneg]
    | succ j =>
      rw [hc] at ht1 hT1
      obtain ⟨e, he⟩ := zwget (l := l) (i := j) (by omega)
      obtain ⟨r1, r2⟩ := hr j e he
      obtain ⟨b1, b2, b3, b4, b5⟩ := hB j e he
      by_cases c1 : e.1.1 = u
      · by_cases c2 : e.1.2 = d
        · refine ⟨q, by omega, ?_, hb, Or.inr ⟨j, e, hc, he, Prod.ext c1 c2⟩⟩
          generalize (s0 + q) % 4096 = s at *
          rw [fX7_slotOf_L26_s]
          simp (disch := omega) only [zl_0, zl_1, zl_2, zl_3, zl_4, zl_5, zl_6, zl_8, zl_9, zl_11, zl_12, zl_13, zl_16, zl_20, zl_23, zl_24, zl_30, zl_32, zl_40, zl_41, zl_43, zl_45, zl_50, zl_52, zl_60, zl_97, zl_99, zl_100, zl_124, zl_126, zl_127, zl_169, zl_170, zl_171, zl_195, zl_200, zl_201, zl_256, zl_261, zl_999, zl_1100, zl_1884, zl_4095, zl_4096, zd1, zd2, zs1, nI_add, pk_mul, zsb, zad1, zad2, zcl, zgI, zif_le, zif_nle, zif_lt, zif_nlt, zif_eq, zif_ne, zif_self, zif_T, zif_F, Nat.zero_add, Nat.add_sub_cancel, zn21, zn31, zif_m1, zif_m1l, zif_m1n, zif_pm, zb1_k, zb2_k, zb3_k, zb4_k, zb5_k, zb6_k, zb7_k, zb8_k, zb9_k, zb10_k, zb11_k, zb12_k, zb14_k, zb21_k, zb22_k, zupd_eq, zupd_ne, zupl_eq, zupl_ne, zupf_eq, zupf_ne, ht1, r1, r2]
        · obtain ⟨q', g1, g2, g3, g4⟩ := ih (q + 1) fu (by omega) (by omega) (fun t hlt => by
            by_cases et : t = q
            · subst et
              refine ⟨by omega, fun j' e' h1 h2 h3 => ?_⟩
              have : j' = j := by omega
              subst this
              rw [he] at h2
              have := Option.some.inj h2
              subst this
              exact c2 (congrArg Prod.snd h3)
            · exact hb t (by omega))
          refine ⟨q', g1, ?_, g3, g4⟩
          rw [← g2, hn]
          generalize (s0 + q) % 4096 = s at *
          rw [fX7_slotOf_L26_s]
          simp (disch := omega) only [zl_0, zl_1, zl_2, zl_3, zl_4, zl_5, zl_6, zl_8, zl_9, zl_11, zl_12, zl_13, zl_16, zl_20, zl_23, zl_24, zl_30, zl_32, zl_40, zl_41, zl_43, zl_45, zl_50, zl_52, zl_60, zl_97, zl_99, zl_100, zl_124, zl_126, zl_127, zl_169, zl_170, zl_171, zl_195, zl_200, zl_201, zl_256, zl_261, zl_999, zl_1100, zl_1884, zl_4095, zl_4096, zd1, zd2, zs1, nI_add, pk_mul, zsb, zad1, zad2, zcl, zgI, zif_le, zif_nle, zif_lt, zif_nlt, zif_eq, zif_ne, zif_self, zif_T, zif_F, Nat.zero_add, Nat.add_sub_cancel, zn21, zn31, zif_m1, zif_m1l, zif_m1n, zif_pm, zb1_k, zb2_k, zb3_k, zb4_k, zb5_k, zb6_k, zb7_k, zb8_k, zb9_k, zb10_k, zb11_k, zb12_k, zb14_k, zb21_k, zb22_k, zupd_eq, zupd_ne, zupl_eq, zupl_ne, zupf_eq, zupf_ne, ht1, r1, r2]
          rw [zwnx hs]
      · obtain ⟨q', g1, g2, g3, g4⟩ := ih (q + 1) fu (by omega) (by omega) (fun t hlt => by
          by_cases et : t = q
          · subst et
            refine ⟨by omega, fun j' e' h1 h2 h3 => ?_⟩
            have : j' = j := by omega
            subst this
            rw [he] at h2
            have := Option.some.inj h2
            subst this
            exact c1 (congrArg Prod.fst h3)
          · exact hb t (by omega))
        refine ⟨q', g1, ?_, g3, g4⟩
        rw [← g2, hn]
        generalize (s0 + q) % 4096 = s at *
        rw [fX7_slotOf_L26_s]
        simp (disch := omega) only [zl_0, zl_1, zl_2, zl_3, zl_4, zl_5, zl_6, zl_8, zl_9, zl_11, zl_12, zl_13, zl_16, zl_20, zl_23, zl_24, zl_30, zl_32, zl_40, zl_41, zl_43, zl_45, zl_50, zl_52, zl_60, zl_97, zl_99, zl_100, zl_124, zl_126, zl_127, zl_169, zl_170, zl_171, zl_195, zl_200, zl_201, zl_256, zl_261, zl_999, zl_1100, zl_1884, zl_4095, zl_4096, zd1, zd2, zs1, nI_add, pk_mul, zsb, zad1, zad2, zcl, zgI, zif_le, zif_nle, zif_lt, zif_nlt, zif_eq, zif_ne, zif_self, zif_T, zif_F, Nat.zero_add, Nat.add_sub_cancel, zn21, zn31, zif_m1, zif_m1l, zif_m1n, zif_pm, zb1_k, zb2_k, zb3_k, zb4_k, zb5_k, zb6_k, zb7_k, zb8_k, zb9_k, zb10_k, zb11_k, zb12_k, zb14_k, zb21_k, zb22_k, zupd_eq, zupd_ne, zupl_eq, zupl_ne, zupf_eq, zupf_ne, ht1, r1]
        rw [zwnx hs]
theorem fx_slot {l : List zwE} {T : Nat → Nat} {tb ab be kd fi se : Nat → Int32} {u d : Nat} (hl : l.length ≤ 1884) (ht : ∀ i, i < 4096 → tb i = nI (T i)) (hH : zwHt l T) (hr : zwXa l ab be kd fi se) (hB : zwG l) (hu : u < 2147483648) (hd : d < 2147483648) : ∃ s, s < 4096 ∧ fX7_slotOf (nI u) (nI d) tb ab be = some (nI s) ∧ ((T s = 0 ∧ ¬ zwh l (u, d) = true ∧ ∃ c, c < 4096 ∧ s = (zwst u d + c) % 4096 ∧ ∀ t, t < c → T ((zwst u d + t) % 4096) ≠ 0) ∨ ∃ (j : Nat) (e : zwE), T s = j + 1 ∧ l[j]? = some e ∧ e.1 = (u, d)) := by
  obtain ⟨h1, h2, h3⟩ := hH
  obtain ⟨i, i1, i2⟩ := zwcn_z (T := T) 4096 (by omega)
  have s1 := zwst_l u d
  have hi : (zwst u d + (i + 4096 - zwst u d) % 4096) % 4096 = i := by omega
  obtain ⟨q, g1, g2, g3, g4⟩ := fx_slotL (s0 := zwst u d) (z := (i + 4096 - zwst u d) % 4096) hl ht h1 (fun i e he => ⟨(hr i e he).1, (hr i e he).2.1⟩) hB hu hd (Nat.mod_lt _ (by decide)) (by rw [hi]; exact i2) ((i + 4096 - zwst u d) % 4096) 0 5000 (by omega) (by have := Nat.mod_lt (i + 4096 - zwst u d) (show 0 < 4096 by decide); omega) (fun t ht => by omega)
  have hz : (i + 4096 - zwst u d) % 4096 < 4096 := Nat.mod_lt _ (by decide)
  refine ⟨(zwst u d + q) % 4096, Nat.mod_lt _ (by decide), ?_, ?_⟩
  · rw [← g2]
    unfold fX7_slotOf
    rw [zwa95, zl_0, Nat.add_zero, Nat.mod_eq_of_lt s1]
    rfl
  · rcases g4 with g4 | g4
    · left
      refine ⟨g4, fun hh => ?_, q, by omega, rfl, fun t ht => (g3 t ht).1⟩
      obtain ⟨j, e, he, e1⟩ := zwh_t hh
      obtain ⟨c, c1, c2, c3⟩ := h3 j e he
      rw [e1] at c2 c3
      have c2 : T ((zwst u d + c) % 4096) = j + 1 := c2
      by_cases w : c < q
      · exact (g3 c w).2 j e c2 he e1
      · by_cases w2 : c = q
        · subst w2
          omega
        · exact c3 q (by omega) g4
    · exact Or.inr g4
theorem zwl2i {n : Nat} (h : n < 2147483648) : (zL n).toInt32 = nI n := by
  apply Int32.toInt_inj.mp
  rw [Int64.toInt_toInt32, zL_toInt (by omega), nI_toInt (by omega)]
  exact Int.bmod_eq_of_le (by omega) (by omega)
theorem zwHt_a {l : List zwE} {T : Nat → Nat} {e : zwE} {s c : Nat} (hH : zwHt l T) (hs : s < 4096) (h0 : T s = 0) (hc : c < 4096) (h1 : s = (zwst e.1.1 e.1.2 + c) % 4096) (h2 : ∀ t, t < c → T ((zwst e.1.1 e.1.2 + t) % 4096) ≠ 0) : zwHt (l ++ [e]) (vf_upd T s (l.length + 1)) := by
  obtain ⟨k1, k2, k3⟩ := hH
  have ll : (l ++ [e]).length = l.length + 1 := by rw [List.length_append, List.length_singleton]
  have nz : ∀ x, T x ≠ 0 → vf_upd T s (l.length + 1) x = T x := fun x hx => zupf_ne (fun z => by subst z; exact hx h0)
  refine ⟨fun i hi => ?_, ?_, fun i f hf => ?_⟩
  · rw [ll]
    by_cases z : i = s
    · rw [zupf_eq z]; omega
    · rw [zupf_ne z]; have := k1 i hi; omega
  · rw [ll, zwcn_u h0 (by omega) 4096 hs, k2]
  · rcases zwsn hf with hf | ⟨hf, rfl⟩
    · obtain ⟨q, q1, q2, q3⟩ := k3 i f hf
      refine ⟨q, q1, ?_, fun t ht => ?_⟩
      · rw [nz _ (by omega)]; exact q2
      · rw [nz _ (q3 t ht)]; exact q3 t ht
    · refine ⟨c, hc, ?_, fun t ht => ?_⟩
      · rw [zupf_eq h1.symm]; omega
      · rw [nz _ (h2 t ht)]; exact h2 t ht
theorem zwXa_a {l : List zwE} {ab be kd fi se : Nat → Int32} {P Q h x y : Nat} {s0 : Int32} (hr : zwXa l ab be kd fi se) (hs : h ≠ 0 → s0 = nI y) : zwXa (l ++ [((P, Q), h, x, y)]) (upd ab l.length (nI P)) (upd be l.length (nI Q)) (upd kd l.length (nI h)) (upd fi l.length (nI x)) (upd se l.length s0) := by
  intro i e he
  rcases zwsn he with he | ⟨rfl, rfl⟩
  · have hi := zwgl he
    rw [zupd_ne (by omega), zupd_ne (by omega), zupd_ne (by omega), zupd_ne (by omega), zupd_ne (by omega)]
    exact hr i e he
  · rw [zupd_eq rfl, zupd_eq rfl, zupd_eq rfl, zupd_eq rfl, zupd_eq rfl]
    exact ⟨rfl, rfl, rfl, rfl, hs⟩
theorem fx_add {l : List zwE} {sz s0 : Int32} {tb ab be kd fi se : Nat → Int32} {u v h x y : Nat} (hG : zwG l) (hl : l.length ≤ 1883) (hu : u < 4611686018427387904) (hv : v < 4611686018427387904) (h0 : 0 < u) (hb : zwB 96059601 3881196 (zRd u v)) (hs : h ≠ 0 → s0 = nI y) (hr : zwXr l sz tb ab be kd fi se) : ∃ sz' tb' ab' be' kd' fi' se', fX7_add (zL u) (zL v) (nI h) (nI x) s0 sz tb ab be kd fi se = some (sz', tb', ab', be', kd', fi', se') ∧ zwXr (zwa l (zRd u v, h, x, y)) sz' tb' ab' be' kd' fi' se' := by
  obtain ⟨r1, ⟨T, t1, t2⟩, r3⟩ := hr
  subst r1
  have g := zgpos (u := u) (v := v) (Or.inl h0)
  have gl := zgle (u := u) (v := v) (Or.inl h0)
  have e := fx_gcd (a := u) (b := v) (by omega) (by omega)
  obtain ⟨b1, b2, b3, b4, b5⟩ := hb
  have e1 : zRd u v = (u / Nat.gcd u v, v / Nat.gcd u v) := rfl
  rw [e1] at b1 b2 b3 b4 ⊢
  generalize Nat.gcd u v = G at *
  have d1 := zL_div (a := u) (b := G) (by omega) g (by omega)
  have d2 := zL_div (a := v) (b := G) (by omega) g (by omega)
  generalize u / G = P at *
  generalize v / G = Q at *
  simp only at b1 b2 b3 b4
  obtain ⟨s, s1, s2, s3⟩ := fx_slot (u := P) (d := Q) (by omega) t1 t2 r3 hG (by omega) (by omega)
  have c1 := zwl2i (n := P) (by omega)
  have c2 := zwl2i (n := Q) (by omega)
  have ts := t1 s s1
  unfold fX7_add zwa
  rcases s3 with ⟨q1, q2, c, c3, c4, c5⟩ | ⟨j, f, q1, q2, q3⟩
  · rw [q1] at ts
    rw [if_neg q2]
    refine ⟨nI (l.length + 1), upd tb s (nI (l.length + 1)), upd ab l.length (nI P), upd be l.length (nI Q), upd kd l.length (nI h), upd fi l.length (nI x), upd se l.length s0, ?_, ?_, ⟨vf_upd T s (l.length + 1), ?_, zwHt_a (e := ((P, Q), h, x, y)) t2 s1 q1 c3 c4 c5⟩, zwXa_a (P := P) (Q := Q) (h := h) (x := x) (y := y) (s0 := s0) r3 hs⟩
    · simp (disch := omega) only [zl_0, zl_1, zl_2, zl_3, zl_4, zl_5, zl_6, zl_8, zl_9, zl_11, zl_12, zl_13, zl_16, zl_20, zl_23, zl_24, zl_30, zl_32, zl_40, zl_41, zl_43, zl_45, zl_50, zl_52, zl_60, zl_97, zl_99, zl_100, zl_124, zl_126, zl_127, zl_169, zl_170, zl_171, zl_195, zl_200, zl_201, zl_256, zl_261, zl_999, zl_1100, zl_1884, zl_4095, zl_4096, zd1, zd2, zs1, nI_add, pk_mul, zsb, zad1, zad2, zcl, zgI, zif_le, zif_nle, zif_lt, zif_nlt, zif_eq, zif_ne, zif_self, zif_T, zif_F, Nat.zero_add, Nat.add_sub_cancel, zn21, zn31, zif_m1, zif_m1l, zif_m1n, zif_pm, zb1_k, zb2_k, zb3_k, zb4_k, zb5_k, zb6_k, zb7_k, zb8_k, zb9_k, zb10_k, zb11_k, zb12_k, zb14_k, zb21_k, zb22_k, zupd_eq, zupd_ne, zupl_eq, zupl_ne, zupf_eq, zupf_ne, zl64_0, zjf_ne, zgL, e, d1, d2, c1, c2, s2, ts]
    · rw [List.length_append, List.length_singleton]
    · intro i hi
      by_cases z : i = s
      · rw [zupd_eq z, zupf_eq z]
      · rw [zupd_ne z, zupf_ne z]; exact t1 i hi
  · rw [q1] at ts
    have hh : zwh l (P, Q) = true := by rw [← q3]; exact zwh_i q2
    rw [if_pos hh]
    have hj := t2.1 s s1
    rw [q1] at hj
    refine ⟨nI l.length, tb, ab, be, kd, fi, se, ?_, rfl, ⟨T, t1, t2⟩, r3⟩
    simp (disch := omega) only [zl_0, zl_1, zl_2, zl_3, zl_4, zl_5, zl_6, zl_8, zl_9, zl_11, zl_12, zl_13, zl_16, zl_20, zl_23, zl_24, zl_30, zl_32, zl_40, zl_41, zl_43, zl_45, zl_50, zl_52, zl_60, zl_97, zl_99, zl_100, zl_124, zl_126, zl_127, zl_169, zl_170, zl_171, zl_195, zl_200, zl_201, zl_256, zl_261, zl_999, zl_1100, zl_1884, zl_4095, zl_4096, zd1, zd2, zs1, nI_add, pk_mul, zsb, zad1, zad2, zcl, zgI, zif_le, zif_nle, zif_lt, zif_nlt, zif_eq, zif_ne, zif_self, zif_T, zif_F, Nat.zero_add, Nat.add_sub_cancel, zn21, zn31, zif_m1, zif_m1l, zif_m1n, zif_pm, zb1_k, zb2_k, zb3_k, zb4_k, zb5_k, zb6_k, zb7_k, zb8_k, zb9_k, zb10_k, zb11_k, zb12_k, zb14_k, zb21_k, zb22_k, zupd_eq, zupd_ne, zupl_eq, zupl_ne, zupf_eq, zupf_ne, zl64_0, zjf_ne, zgL, e, d1, d2, c1, c2, s2, ts]
