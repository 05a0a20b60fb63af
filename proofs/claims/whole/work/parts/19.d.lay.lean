/-! the plain form lays its rows -/
def zwM (l : List zwE) (many : Int32) (up dn : Nat → Int64) (how fst snd : Nat → Int32) : Prop := many = nI l.length ∧ ∀ (i : Nat) (e : zwE), l[i]? = some e → up i = zL e.1.1 ∧ dn i = zL e.1.2 ∧ how i = nI e.2.1 ∧ fst i = nI e.2.2.1 ∧ snd i = nI e.2.2.2
theorem fm_at {l : List zwE} {up dn : Nat → Int64} {P Q : Nat} (hl : l.length ≤ 2000) (hG : zwG l) (hr : ∀ (i : Nat) (e : zwE), l[i]? = some e → up i = zL e.1.1 ∧ dn i = zL e.1.2) (hP : P < 9223372036854775808) (hQ : Q < 9223372036854775808) : ∃ r, fX11_reachedAt (zL P) (zL Q) (nI l.length) up dn = some r ∧ ((¬ zwh l (P, Q) = true ∧ r = -nI 1) ∨ ∃ (j : Nat) (e : zwE), l[j]? = some e ∧ e.1 = (P, Q) ∧ r = nI j) := by
  have key : ∀ d j fu, j + d = l.length → d < fu → (∀ (t : Nat) (e : zwE), t < j → l[t]? = some e → e.1 ≠ (P, Q)) → ∃ r, fX11_reachedAt_L3 (nI l.length) up dn (zL P) (zL Q) fu (nI j) = some r ∧ ((¬ zwh l (P, Q) = true ∧ r = -nI 1) ∨ ∃ (j : Nat) (e : zwE), l[j]? = some e ∧ e.1 = (P, Q) ∧ r = nI j) := by
    intro d
    induction d with
    | zero =>
      intro j fu hj hfu hn
      obtain ⟨fu, rfl⟩ : ∃ f, fu = f + 1 := ⟨fu - 1, by omega⟩
      refine ⟨-nI 1, ?_, Or.inl ⟨fun hh => ?_, rfl⟩⟩
      · rw [fX11_reachedAt_L3_s]
        simp (disch := omega) only [zl_0, zl_1, zl_2, zl_3, zl_4, zl_5, zl_6, zl_8, zl_9, zl_11, zl_12, zl_13, zl_16, zl_20, zl_23, zl_24, zl_30, zl_32, zl_40, zl_41, zl_43, zl_45, zl_50, zl_52, zl_60, zl_97, zl_99, zl_100, zl_124, zl_126, zl_127, zl_169, zl_170, zl_171, zl_195, zl_200, zl_201, zl_256, zl_261, zl_999, zl_1100, zl_1884, zl_4095, zl_4096, zd1, zd2, zs1, nI_add, pk_mul, zsb, zad1, zad2, zcl, zgI, zif_le, zif_nle, zif_lt, zif_nlt, zif_eq, zif_ne, zif_self, zif_T, zif_F, Nat.zero_add, Nat.add_sub_cancel, zn21, zn31, zif_m1, zif_m1l, zif_m1n, zif_pm, zb1_k, zb2_k, zb3_k, zb4_k, zb5_k, zb6_k, zb7_k, zb8_k, zb9_k, zb10_k, zb11_k, zb12_k, zb14_k, zb21_k, zb22_k, zupd_eq, zupd_ne, zupl_eq, zupl_ne, zupf_eq, zupf_ne]
      · obtain ⟨t, e, h1, h2⟩ := zwh_t hh
        have := zwgl h1
        exact hn t e (by omega) h1 h2
    | succ d ih =>
      intro j fu hj hfu hn
      obtain ⟨fu, rfl⟩ : ∃ f, fu = f + 1 := ⟨fu - 1, by omega⟩
      obtain ⟨e, he⟩ := zwget (l := l) (i := j) (by omega)
      obtain ⟨r1, r2⟩ := hr j e he
      obtain ⟨b1, b2, b3, b4, b5⟩ := hG j e he
      have nx : e.1 ≠ (P, Q) → ∀ (t : Nat) (f : zwE), t < j + 1 → l[t]? = some f → f.1 ≠ (P, Q) := fun z t f h1 h2 => by
        by_cases w : t = j
        · subst w
          rw [he] at h2
          have := Option.some.inj h2
          subst this
          exact z
        · exact hn t f (by omega) h2
      by_cases c1 : e.1.1 = P
      · by_cases c2 : e.1.2 = Q
        · refine ⟨nI j, ?_, Or.inr ⟨j, e, he, Prod.ext c1 c2, rfl⟩⟩
          rw [fX11_reachedAt_L3_s]
          simp (disch := omega) only [zl_0, zl_1, zl_2, zl_3, zl_4, zl_5, zl_6, zl_8, zl_9, zl_11, zl_12, zl_13, zl_16, zl_20, zl_23, zl_24, zl_30, zl_32, zl_40, zl_41, zl_43, zl_45, zl_50, zl_52, zl_60, zl_97, zl_99, zl_100, zl_124, zl_126, zl_127, zl_169, zl_170, zl_171, zl_195, zl_200, zl_201, zl_256, zl_261, zl_999, zl_1100, zl_1884, zl_4095, zl_4096, zd1, zd2, zs1, nI_add, pk_mul, zsb, zad1, zad2, zcl, zgI, zif_le, zif_nle, zif_lt, zif_nlt, zif_eq, zif_ne, zif_self, zif_T, zif_F, Nat.zero_add, Nat.add_sub_cancel, zn21, zn31, zif_m1, zif_m1l, zif_m1n, zif_pm, zb1_k, zb2_k, zb3_k, zb4_k, zb5_k, zb6_k, zb7_k, zb8_k, zb9_k, zb10_k, zb11_k, zb12_k, zb14_k, zb21_k, zb22_k, zupd_eq, zupd_ne, zupl_eq, zupl_ne, zupf_eq, zupf_ne, r1, r2, zjf_eq]
        · obtain ⟨r, g1, g2⟩ := ih (j + 1) fu (by omega) (by omega) (nx (fun z => c2 (congrArg Prod.snd z)))
          refine ⟨r, ?_, g2⟩
          rw [← g1, fX11_reachedAt_L3_s]
          simp (disch := omega) only [zl_0, zl_1, zl_2, zl_3, zl_4, zl_5, zl_6, zl_8, zl_9, zl_11, zl_12, zl_13, zl_16, zl_20, zl_23, zl_24, zl_30, zl_32, zl_40, zl_41, zl_43, zl_45, zl_50, zl_52, zl_60, zl_97, zl_99, zl_100, zl_124, zl_126, zl_127, zl_169, zl_170, zl_171, zl_195, zl_200, zl_201, zl_256, zl_261, zl_999, zl_1100, zl_1884, zl_4095, zl_4096, zd1, zd2, zs1, nI_add, pk_mul, zsb, zad1, zad2, zcl, zgI, zif_le, zif_nle, zif_lt, zif_nlt, zif_eq, zif_ne, zif_self, zif_T, zif_F, Nat.zero_add, Nat.add_sub_cancel, zn21, zn31, zif_m1, zif_m1l, zif_m1n, zif_pm, zb1_k, zb2_k, zb3_k, zb4_k, zb5_k, zb6_k, zb7_k, zb8_k, zb9_k, zb10_k, zb11_k, zb12_k, zb14_k, zb21_k, zb22_k, zupd_eq, zupd_ne, zupl_eq, zupl_ne, zupf_eq, zupf_ne, r1, r2, zjf_eq, zjf_ne]
      · obtain ⟨r, g1, g2⟩ := ih (j + 1) fu (by omega) (by omega) (nx (fun z => c1 (congrArg Prod.fst z)))
        refine ⟨r, ?_, g2⟩
        rw [← g1, fX11_reachedAt_L3_s]
        simp (disch := omega) only [zl_0, zl_1, zl_2, zl_3, zl_4, zl_5, zl_6, zl_8, zl_9, zl_11, zl_12, zl_13, zl_16, zl_20, zl_23, zl_24, zl_30, zl_32, zl_40, zl_41, zl_43, zl_45, zl_50, zl_52, zl_60, zl_97, zl_99, zl_100, zl_124, zl_126, zl_127, zl_169, zl_170, zl_171, zl_195, zl_200, zl_201, zl_256, zl_261, zl_999, zl_1100, zl_1884, zl_4095, zl_4096, zd1, zd2, zs1, nI_add, pk_mul, zsb, zad1, zad2, zcl, zgI, zif_le, zif_nle, zif_lt, zif_nlt, zif_eq, zif_ne, zif_self, zif_T, zif_F, Nat.zero_add, Nat.add_sub_cancel, zn21, zn31, zif_m1, zif_m1l, zif_m1n, zif_pm, zb1_k, zb2_k, zb3_k, zb4_k, zb5_k, zb6_k, zb7_k, zb8_k, zb9_k, zb10_k, zb11_k, zb12_k, zb14_k, zb21_k, zb22_k, zupd_eq, zupd_ne, zupl_eq, zupl_ne, zupf_eq, zupf_ne, r1, zjf_ne]
  unfold fX11_reachedAt
  rw [zl_0]
  exact key l.length 0 5000 (by omega) (by omega) (fun t e h => by omega)
theorem fm_reaches {l : List zwE} {many : Int32} {up dn : Nat → Int64} {how fst snd : Nat → Int32} {P Q h x y : Nat} (hl : l.length ≤ 1999) (hG : zwG l) (hP : P < 9223372036854775808) (hQ : Q < 9223372036854775808) (hr : zwM l many up dn how fst snd) : ∃ many' up' dn' how' fst' snd', fX11_reaches (nI h) (nI x) (nI y) (zL P) (zL Q) many up dn how fst snd = some (many', up', dn', how', fst', snd') ∧ zwM (zwa l ((P, Q), h, x, y)) many' up' dn' how' fst' snd' := by
  obtain ⟨r1, r2⟩ := hr
  subst r1
  obtain ⟨r, g1, g2⟩ := fm_at (P := P) (Q := Q) (by omega) hG (fun i e he => ⟨(r2 i e he).1, (r2 i e he).2.1⟩) hP hQ
  unfold fX11_reaches zwa
  rcases g2 with ⟨c1, rfl⟩ | ⟨j, e, c1, c2, rfl⟩
  · rw [if_neg c1]
    have n0 : ¬ (nI 0 ≤ -nI 1) := by decide
    refine ⟨nI (l.length + 1), vp_updL up l.length (zL P), vp_updL dn l.length (zL Q), upd how l.length (nI h), upd fst l.length (nI x), upd snd l.length (nI y), ?_, ?_, ?_⟩
    · simp (disch := omega) only [zl_0, zl_1, zl_2, zl_3, zl_4, zl_5, zl_6, zl_8, zl_9, zl_11, zl_12, zl_13, zl_16, zl_20, zl_23, zl_24, zl_30, zl_32, zl_40, zl_41, zl_43, zl_45, zl_50, zl_52, zl_60, zl_97, zl_99, zl_100, zl_124, zl_126, zl_127, zl_169, zl_170, zl_171, zl_195, zl_200, zl_201, zl_256, zl_261, zl_999, zl_1100, zl_1884, zl_4095, zl_4096, zd1, zd2, zs1, nI_add, pk_mul, zsb, zad1, zad2, zcl, zgI, zif_le, zif_nle, zif_lt, zif_nlt, zif_eq, zif_ne, zif_self, zif_T, zif_F, Nat.zero_add, Nat.add_sub_cancel, zn21, zn31, zif_m1, zif_m1l, zif_m1n, zif_pm, zb1_k, zb2_k, zb3_k, zb4_k, zb5_k, zb6_k, zb7_k, zb8_k, zb9_k, zb10_k, zb11_k, zb12_k, zb14_k, zb21_k, zb22_k, zupd_eq, zupd_ne, zupl_eq, zupl_ne, zupf_eq, zupf_ne, g1, zfn n0]
    · rw [List.length_append, List.length_singleton]
    · intro i e he
      rcases zwsn he with he | ⟨rfl, rfl⟩
      · have hi := zwgl he
        rw [zupl_ne (by omega), zupl_ne (by omega), zupd_ne (by omega), zupd_ne (by omega), zupd_ne (by omega)]
        exact r2 i e he
      · rw [zupl_eq rfl, zupl_eq rfl, zupd_eq rfl, zupd_eq rfl, zupd_eq rfl]
        exact ⟨rfl, rfl, rfl, rfl, rfl⟩
  · have hh : zwh l (P, Q) = true := by rw [← c2]; exact zwh_i c1
    have hj := zwgl c1
    rw [if_pos hh]
    refine ⟨nI l.length, up, dn, how, fst, snd, ?_, rfl, r2⟩
    simp (disch := omega) only [zl_0, zl_1, zl_2, zl_3, zl_4, zl_5, zl_6, zl_8, zl_9, zl_11, zl_12, zl_13, zl_16, zl_20, zl_23, zl_24, zl_30, zl_32, zl_40, zl_41, zl_43, zl_45, zl_50, zl_52, zl_60, zl_97, zl_99, zl_100, zl_124, zl_126, zl_127, zl_169, zl_170, zl_171, zl_195, zl_200, zl_201, zl_256, zl_261, zl_999, zl_1100, zl_1884, zl_4095, zl_4096, zd1, zd2, zs1, nI_add, pk_mul, zsb, zad1, zad2, zcl, zgI, zif_le, zif_nle, zif_lt, zif_nlt, zif_eq, zif_ne, zif_self, zif_T, zif_F, Nat.zero_add, Nat.add_sub_cancel, zn21, zn31, zif_m1, zif_m1l, zif_m1n, zif_pm, zb1_k, zb2_k, zb3_k, zb4_k, zb5_k, zb6_k, zb7_k, zb8_k, zb9_k, zb10_k, zb11_k, zb12_k, zb14_k, zb21_k, zb22_k, zupd_eq, zupd_ne, zupl_eq, zupl_ne, zupf_eq, zupf_ne, g1]
theorem fm_jn {kk : Nat} {p q : Nat × Nat} (c d : Int64) (hk : kk = 1 ∨ kk = 2) (hp : zwB 96059601 3881196 p) (hq : zwB 96059601 3881196 q) (hb : zwB 96059601 3881196 (zCb kk p q)) : fX11_joined (nI kk) (zL p.1) (zL p.2) (zL q.1) (zL q.2) c d = some (zL (zCb kk p q).1, zL (zCb kk p q).2) := by
  have h := fm_joined (x := some p) (y := some q) (c := c) (d := d) hk (zwB_o hp) (zwB_o hq)
  have b1 := hb.2.1
  have b2 := hb.2.2.2.1
  rw [zCo_ss, if_neg (by omega)] at h
  exact h
theorem fm_both {o b : Nat → Nat} {n k x y : Nat} {L0 l : List zwE} {many : Int32} {up dn : Nat → Int64} {how fst snd : Nat → Int32} (h : zwX o b n L0) (hI : zwI o b n L0 l) (hn : n ≤ 4) (k1 : 1 ≤ k) (k2 : k < n) (x1 : b k ≤ x) (x2 : x < b (k + 1)) (y1 : b (n - k) ≤ y) (y2 : y < b (n - k + 1)) (hl : l.length + 2 ≤ 1884) (hr : zwM l many up dn how fst snd) (c d : Int64) : ∃ c' d' many' up' dn' how' fst' snd', fX11_reachesBoth (nI x) (nI y) c d many up dn how fst snd = some (c', d', many', up', dn', how', fst', snd') ∧ zwM (zw2 l x y) many' up' dn' how' fst' snd' := by
  have hL := zwP_l hI.1
  obtain ⟨vx, vx2⟩ := zwX_v h hI.1 k1 k2 x1 x2
  obtain ⟨vy, vy2⟩ := zwX_v h hI.1 (k := n - k) (by omega) (by omega) y1 y2
  have bt1 := zwcbn (kk := 1) (Or.inl rfl) k1 k2 hn vx vy
  have bt2 := zwcbn (kk := 2) (Or.inr rfl) k1 k2 hn vx vy
  have bc1 := zwB_op hn bt1
  have bc2 := zwB_op hn bt2
  have vx := zwB_op (by omega) vx
  have vy := zwB_op (by omega) vy
  obtain ⟨ex, hex⟩ := zwget (l := l) (i := x) (by omega)
  obtain ⟨ey, hey⟩ := zwget (l := l) (i := y) (by omega)
  have hG := zwG_I h hI (by omega) hn
  have I1 := zwI_a hI (e := (zCb 1 (zwv l x) (zwv l y), 1, x, y)) ⟨bt1, Or.inr ⟨by omega, Or.inl rfl, k, k1, k2, x1, x2, y1, y2⟩⟩
  have hG1 := zwG_I h I1 (by omega) hn
  have P1 := zwa_P l (zCb 1 (zwv l x) (zwv l y), 1, x, y)
  have len1 := zwa_len l (zCb 1 (zwv l x) (zwv l y), 1, x, y)
  have ex1 := zwP_g P1 hex
  have ey1 := zwP_g P1 hey
  unfold zw2
  have wx := zwv_e hex
  have wy := zwv_e hey
  rw [wx] at vx bc1 bc2 hG1 len1 ex1 ey1 ⊢
  rw [wy] at vy bc1 bc2 hG1 len1 ex1 ey1 ⊢
  have l1 := bc1.2.1
  have l2 := bc1.2.2.2.1
  have l3 := bc2.2.1
  have l4 := bc2.2.2.2.1
  obtain ⟨rx1, rx2, _⟩ := hr.2 x _ hex
  obtain ⟨ry1, ry2, _⟩ := hr.2 y _ hey
  have j1 := fm_jn c d (Or.inl rfl) vx vy bc1
  obtain ⟨m1, u1, d1, h1, f1, s1, g1, g2⟩ := fm_reaches (h := 1) (x := x) (y := y) (P := (zCb 1 ex.1 ey.1).1) (Q := (zCb 1 ex.1 ey.1).2) (by omega) hG (by omega) (by omega) hr
  obtain ⟨sx1, sx2, _⟩ := g2.2 x _ ex1
  obtain ⟨sy1, sy2, _⟩ := g2.2 y _ ey1
  have j2 := fm_jn (zL (zCb 1 ex.1 ey.1).1) (zL (zCb 1 ex.1 ey.1).2) (Or.inr rfl) vx vy bc2
  obtain ⟨m2, u2, d2, h2, f2, s2, g3, g4⟩ := fm_reaches (h := 2) (x := x) (y := y) (P := (zCb 2 ex.1 ey.1).1) (Q := (zCb 2 ex.1 ey.1).2) (by show (zwa l (zCb 1 ex.1 ey.1, 1, x, y)).length ≤ 1999; omega) hG1 (by omega) (by omega) g2
  refine ⟨zL (zCb 2 ex.1 ey.1).1, zL (zCb 2 ex.1 ey.1).2, m2, u2, d2, h2, f2, s2, ?_, g4⟩
  unfold fX11_reachesBoth
  rw [show (5000 : Nat) = 4997 + 1 + 1 + 1 from rfl, fX11_reachesBoth_L2_s]
  simp (disch := omega) only [zl_0, zl_1, zl_2, zl_3, zl_4, zl_5, zl_6, zl_8, zl_9, zl_11, zl_12, zl_13, zl_16, zl_20, zl_23, zl_24, zl_30, zl_32, zl_40, zl_41, zl_43, zl_45, zl_50, zl_52, zl_60, zl_97, zl_99, zl_100, zl_124, zl_126, zl_127, zl_169, zl_170, zl_171, zl_195, zl_200, zl_201, zl_256, zl_261, zl_999, zl_1100, zl_1884, zl_4095, zl_4096, zd1, zd2, zs1, nI_add, pk_mul, zsb, zad1, zad2, zcl, zgI, zif_le, zif_nle, zif_lt, zif_nlt, zif_eq, zif_ne, zif_self, zif_T, zif_F, Nat.zero_add, Nat.add_sub_cancel, zn21, zn31, zif_m1, zif_m1l, zif_m1n, zif_pm, zb1_k, zb2_k, zb3_k, zb4_k, zb5_k, zb6_k, zb7_k, zb8_k, zb9_k, zb10_k, zb11_k, zb12_k, zb14_k, zb21_k, zb22_k, zupd_eq, zupd_ne, zupl_eq, zupl_ne, zupf_eq, zupf_ne, rx1, rx2, ry1, ry2, j1, g1]
  rw [fX11_reachesBoth_L2_s]
  simp (disch := omega) only [zl_0, zl_1, zl_2, zl_3, zl_4, zl_5, zl_6, zl_8, zl_9, zl_11, zl_12, zl_13, zl_16, zl_20, zl_23, zl_24, zl_30, zl_32, zl_40, zl_41, zl_43, zl_45, zl_50, zl_52, zl_60, zl_97, zl_99, zl_100, zl_124, zl_126, zl_127, zl_169, zl_170, zl_171, zl_195, zl_200, zl_201, zl_256, zl_261, zl_999, zl_1100, zl_1884, zl_4095, zl_4096, zd1, zd2, zs1, nI_add, pk_mul, zsb, zad1, zad2, zcl, zgI, zif_le, zif_nle, zif_lt, zif_nlt, zif_eq, zif_ne, zif_self, zif_T, zif_F, Nat.zero_add, Nat.add_sub_cancel, zn21, zn31, zif_m1, zif_m1l, zif_m1n, zif_pm, zb1_k, zb2_k, zb3_k, zb4_k, zb5_k, zb6_k, zb7_k, zb8_k, zb9_k, zb10_k, zb11_k, zb12_k, zb14_k, zb21_k, zb22_k, zupd_eq, zupd_ne, zupl_eq, zupl_ne, zupf_eq, zupf_ne, sx1, sx2, sy1, sy2, j2, g3]
  rw [fX11_reachesBoth_L2_s]
  simp (disch := omega) only [zl_0, zl_1, zl_2, zl_3, zl_4, zl_5, zl_6, zl_8, zl_9, zl_11, zl_12, zl_13, zl_16, zl_20, zl_23, zl_24, zl_30, zl_32, zl_40, zl_41, zl_43, zl_45, zl_50, zl_52, zl_60, zl_97, zl_99, zl_100, zl_124, zl_126, zl_127, zl_169, zl_170, zl_171, zl_195, zl_200, zl_201, zl_256, zl_261, zl_999, zl_1100, zl_1884, zl_4095, zl_4096, zd1, zd2, zs1, nI_add, pk_mul, zsb, zad1, zad2, zcl, zgI, zif_le, zif_nle, zif_lt, zif_nlt, zif_eq, zif_ne, zif_self, zif_T, zif_F, Nat.zero_add, Nat.add_sub_cancel, zn21, zn31, zif_m1, zif_m1l, zif_m1n, zif_pm, zb1_k, zb2_k, zb3_k, zb4_k, zb5_k, zb6_k, zb7_k, zb8_k, zb9_k, zb10_k, zb11_k, zb12_k, zb14_k, zb21_k, zb22_k, zupd_eq, zupd_ne, zupl_eq, zupl_ne, zupf_eq, zupf_ne]
theorem fm_layY {A : Type} {o b : Nat → Nat} {n k r x yhi : Nat} {L0 : List zwE} {bg : Nat → Int32} (K : Int32 → Int64 → Int64 → Int32 → (Nat → Int64) → (Nat → Int64) → (Nat → Int32) → (Nat → Int32) → (Nat → Int32) → Option (Int64 × Int64 × Int32 × (Nat → Int32) × (Nat → Int64) × (Nat → Int64) × (Nat → Int32) × (Nat → Int32) × (Nat → Int32))) (h : zwX o b n L0) (hn : n ≤ 4) (k1 : 1 ≤ k) (k2 : k < n) (kr : r = n - k) (x1 : b k ≤ x) (x2 : x < b (k + 1)) (yh : yhi = b (r + 1)) (hst : bg (r + 1) = nI yhi) : ∀ d y fu l c e many up dn how fst snd, y + d = yhi → d < fu → b r ≤ y → zwI o b n L0 l → l.length + 2 * d ≤ 1884 → zwM l many up dn how fst snd → ∃ c' e' many' up' dn' how' fst' snd', fX11_layReached_L123 K (nI n) bg (nI k) (nI x) fu (nI y) c e many up dn how fst snd = K (nI (x + 1)) c' e' many' up' dn' how' fst' snd' ∧ zwM (zwy x d y l) many' up' dn' how' fst' snd' := by
  subst kr
  intro d
  induction d with
  | zero =>
    intro y fu l c e many up dn how fst snd hd hfu hy hI hl hr
    obtain ⟨fu, rfl⟩ : ∃ f, fu = f + 1 := ⟨fu - 1, by omega⟩
    have hb := (h.2.1 (n - k) (by omega) (by omega)).2
    have hL := zwP_l hI.1
    refine ⟨c, e, many, up, dn, how, fst, snd, ?_, hr⟩
    rw [fX11_layReached_L123_s]
    simp (disch := omega) only [zl_0, zl_1, zl_2, zl_3, zl_4, zl_5, zl_6, zl_8, zl_9, zl_11, zl_12, zl_13, zl_16, zl_20, zl_23, zl_24, zl_30, zl_32, zl_40, zl_41, zl_43, zl_45, zl_50, zl_52, zl_60, zl_97, zl_99, zl_100, zl_124, zl_126, zl_127, zl_169, zl_170, zl_171, zl_195, zl_200, zl_201, zl_256, zl_261, zl_999, zl_1100, zl_1884, zl_4095, zl_4096, zd1, zd2, zs1, nI_add, pk_mul, zsb, zad1, zad2, zcl, zgI, zif_le, zif_nle, zif_lt, zif_nlt, zif_eq, zif_ne, zif_self, zif_T, zif_F, Nat.zero_add, Nat.add_sub_cancel, zn21, zn31, zif_m1, zif_m1l, zif_m1n, zif_pm, zb1_k, zb2_k, zb3_k, zb4_k, zb5_k, zb6_k, zb7_k, zb8_k, zb9_k, zb10_k, zb11_k, zb12_k, zb14_k, zb21_k, zb22_k, zupd_eq, zupd_ne, zupl_eq, zupl_ne, zupf_eq, zupf_ne, hst]
  | succ d ih =>
    intro y fu l c e many up dn how fst snd hd hfu hy hI hl hr
    obtain ⟨fu, rfl⟩ : ∃ f, fu = f + 1 := ⟨fu - 1, by omega⟩
    have hb := (h.2.1 (n - k) (by omega) (by omega)).2
    have hL := zwP_l hI.1
    have hy2 : y < b (n - k + 1) := by omega
    have I2 := zwI_2 h hI hn k1 k2 x1 x2 hy hy2
    have len2 := zw2_len l x y
    obtain ⟨c1, e1, m1, u1, d1, h1, f1, s1, g1, g2⟩ := fm_both h hI hn k1 k2 x1 x2 hy hy2 (by omega) hr c e
    obtain ⟨c', e', many', up', dn', how', fst', snd', q1, q2⟩ := ih (y + 1) fu _ c1 e1 m1 u1 d1 h1 f1 s1 (by omega) (by omega) (by omega) I2 (by omega) g2
    refine ⟨c', e', many', up', dn', how', fst', snd', ?_, q2⟩
    rw [← q1, fX11_layReached_L123_s]
    simp (disch := omega) only [zl_0, zl_1, zl_2, zl_3, zl_4, zl_5, zl_6, zl_8, zl_9, zl_11, zl_12, zl_13, zl_16, zl_20, zl_23, zl_24, zl_30, zl_32, zl_40, zl_41, zl_43, zl_45, zl_50, zl_52, zl_60, zl_97, zl_99, zl_100, zl_124, zl_126, zl_127, zl_169, zl_170, zl_171, zl_195, zl_200, zl_201, zl_256, zl_261, zl_999, zl_1100, zl_1884, zl_4095, zl_4096, zd1, zd2, zs1, nI_add, pk_mul, zsb, zad1, zad2, zcl, zgI, zif_le, zif_nle, zif_lt, zif_nlt, zif_eq, zif_ne, zif_self, zif_T, zif_F, Nat.zero_add, Nat.add_sub_cancel, zn21, zn31, zif_m1, zif_m1l, zif_m1n, zif_pm, zb1_k, zb2_k, zb3_k, zb4_k, zb5_k, zb6_k, zb7_k, zb8_k, zb9_k, zb10_k, zb11_k, zb12_k, zb14_k, zb21_k, zb22_k, zupd_eq, zupd_ne, zupl_eq, zupl_ne, zupf_eq, zupf_ne, hst, g1]
theorem fm_layX {o b : Nat → Nat} {n k r : Nat} {L0 : List zwE} {bg : Nat → Int32} (K : Int32 → Int64 → Int64 → Int32 → (Nat → Int64) → (Nat → Int64) → (Nat → Int32) → (Nat → Int32) → (Nat → Int32) → Option (Int64 × Int64 × Int32 × (Nat → Int32) × (Nat → Int64) × (Nat → Int64) × (Nat → Int32) × (Nat → Int32) × (Nat → Int32))) (h : zwX o b n L0) (hn : n ≤ 4) (k1 : 1 ≤ k) (k2 : k < n) (kr : r = n - k) (hst : ∀ j, 1 ≤ j → j ≤ n → bg j = nI (b j)) : ∀ d x fu l c e many up dn how fst snd, x + d = b (k + 1) → d < fu → b k ≤ x → zwI o b n L0 l → l.length + 2 * zwc (decide (k = r)) (b r) (b (r + 1)) d x ≤ 1884 → zwM l many up dn how fst snd → ∃ c' e' many' up' dn' how' fst' snd', fX11_layReached_L88 K (nI n) bg (nI k) fu (nI x) c e many up dn how fst snd = K (nI (k + 1)) c' e' many' up' dn' how' fst' snd' ∧ zwM (zwx (decide (k = r)) (b r) (b (r + 1)) d x l) many' up' dn' how' fst' snd' := by
  have hs1 := hst (k + 1) (by omega) (by omega)
  have hs2 := hst r (by omega) (by omega)
  have hs3 := hst (r + 1) (by omega) (by omega)
  have hb1 := h.2.1 k k1 k2
  have hb2 := h.2.1 r (by omega) (by omega)
  intro d
  induction d with
  | zero =>
    intro x fu l c e many up dn how fst snd hd hfu hx hI hl hr
    obtain ⟨fu, rfl⟩ : ∃ f, fu = f + 1 := ⟨fu - 1, by omega⟩
    have hL := zwP_l hI.1
    refine ⟨c, e, many, up, dn, how, fst, snd, ?_, hr⟩
    rw [fX11_layReached_L88_s]
    simp (disch := omega) only [zl_0, zl_1, zl_2, zl_3, zl_4, zl_5, zl_6, zl_8, zl_9, zl_11, zl_12, zl_13, zl_16, zl_20, zl_23, zl_24, zl_30, zl_32, zl_40, zl_41, zl_43, zl_45, zl_50, zl_52, zl_60, zl_97, zl_99, zl_100, zl_124, zl_126, zl_127, zl_169, zl_170, zl_171, zl_195, zl_200, zl_201, zl_256, zl_261, zl_999, zl_1100, zl_1884, zl_4095, zl_4096, zd1, zd2, zs1, nI_add, pk_mul, zsb, zad1, zad2, zcl, zgI, zif_le, zif_nle, zif_lt, zif_nlt, zif_eq, zif_ne, zif_self, zif_T, zif_F, Nat.zero_add, Nat.add_sub_cancel, zn21, zn31, zif_m1, zif_m1l, zif_m1n, zif_pm, zb1_k, zb2_k, zb3_k, zb4_k, zb5_k, zb6_k, zb7_k, zb8_k, zb9_k, zb10_k, zb11_k, zb12_k, zb14_k, zb21_k, zb22_k, zupd_eq, zupd_ne, zupl_eq, zupl_ne, zupf_eq, zupf_ne, hs1]
  | succ d ih =>
    intro x fu l c e many up dn how fst snd hd hfu hx hI hl hr
    obtain ⟨fu, rfl⟩ : ∃ f, fu = f + 1 := ⟨fu - 1, by omega⟩
    have hL := zwP_l hI.1
    have e2 : zwc (decide (k = r)) (b r) (b (r + 1)) (d + 1) x = (b (r + 1) - zwlo (decide (k = r)) (b r) x) + zwc (decide (k = r)) (b r) (b (r + 1)) d (x + 1) := rfl
    rw [e2] at hl
    have lo1 : b r ≤ zwlo (decide (k = r)) (b r) x ∧ zwlo (decide (k = r)) (b r) x ≤ b (r + 1) := by
      unfold zwlo
      by_cases z : k = r
      · rw [if_pos (decide_eq_true z)]
        rw [z] at hx hd
        omega
      · rw [if_neg (fun w => z (of_decide_eq_true w))]
        omega
    have ly := zwy_len x (b (r + 1) - zwlo (decide (k = r)) (b r) x) (zwlo (decide (k = r)) (b r) x) l
    have Iy : zwI o b n L0 (zwy x (b (r + 1) - zwlo (decide (k = r)) (b r) x) (zwlo (decide (k = r)) (b r) x) l) := zwy_I _ _ l hI (fun l' y' q h1 h2 => zwI_2 h q hn k1 k2 hx (by omega) (kr ▸ (show b r ≤ y' by omega)) (kr ▸ (show y' < b (r + 1) by omega)))
    obtain ⟨c1, e1, m1, u1, d1, h1, f1, s1, g1, g2⟩ := fm_layY (A := Nat) (fX11_layReached_L88 K (nI n) bg (nI k) fu) h hn k1 k2 kr hx (by omega) rfl hs3 (b (r + 1) - zwlo (decide (k = r)) (b r) x) (zwlo (decide (k = r)) (b r) x) 5000 l c e many up dn how fst snd (by omega) (by omega) lo1.1 hI (by omega) hr
    obtain ⟨c', e', many', up', dn', how', fst', snd', q1, q2⟩ := ih (x + 1) fu _ c1 e1 m1 u1 d1 h1 f1 s1 (by omega) (by omega) (by omega) Iy (by omega) g2
    refine ⟨c', e', many', up', dn', how', fst', snd', ?_, q2⟩
    rw [← q1, ← g1, fX11_layReached_L88_s]
    by_cases z : k = r
    · have lo : zwlo (decide (k = r)) (b r) x = x := if_pos (decide_eq_true z)
      have z2 : k = n - k := by omega
      rw [lo]
      simp (disch := omega) only [zl_0, zl_1, zl_2, zl_3, zl_4, zl_5, zl_6, zl_8, zl_9, zl_11, zl_12, zl_13, zl_16, zl_20, zl_23, zl_24, zl_30, zl_32, zl_40, zl_41, zl_43, zl_45, zl_50, zl_52, zl_60, zl_97, zl_99, zl_100, zl_124, zl_126, zl_127, zl_169, zl_170, zl_171, zl_195, zl_200, zl_201, zl_256, zl_261, zl_999, zl_1100, zl_1884, zl_4095, zl_4096, zd1, zd2, zs1, nI_add, pk_mul, zsb, zad1, zad2, zcl, zgI, zif_le, zif_nle, zif_lt, zif_nlt, zif_eq, zif_ne, zif_self, zif_T, zif_F, Nat.zero_add, Nat.add_sub_cancel, zn21, zn31, zif_m1, zif_m1l, zif_m1n, zif_pm, zb1_k, zb2_k, zb3_k, zb4_k, zb5_k, zb6_k, zb7_k, zb8_k, zb9_k, zb10_k, zb11_k, zb12_k, zb14_k, zb21_k, zb22_k, zupd_eq, zupd_ne, zupl_eq, zupl_ne, zupf_eq, zupf_ne, hs1, fX11_layReached_J121]
    · have lo : zwlo (decide (k = r)) (b r) x = b r := if_neg (fun w => z (of_decide_eq_true w))
      rw [lo]
      subst kr
      simp (disch := omega) only [zl_0, zl_1, zl_2, zl_3, zl_4, zl_5, zl_6, zl_8, zl_9, zl_11, zl_12, zl_13, zl_16, zl_20, zl_23, zl_24, zl_30, zl_32, zl_40, zl_41, zl_43, zl_45, zl_50, zl_52, zl_60, zl_97, zl_99, zl_100, zl_124, zl_126, zl_127, zl_169, zl_170, zl_171, zl_195, zl_200, zl_201, zl_256, zl_261, zl_999, zl_1100, zl_1884, zl_4095, zl_4096, zd1, zd2, zs1, nI_add, pk_mul, zsb, zad1, zad2, zcl, zgI, zif_le, zif_nle, zif_lt, zif_nlt, zif_eq, zif_ne, zif_self, zif_T, zif_F, Nat.zero_add, Nat.add_sub_cancel, zn21, zn31, zif_m1, zif_m1l, zif_m1n, zif_pm, zb1_k, zb2_k, zb3_k, zb4_k, zb5_k, zb6_k, zb7_k, zb8_k, zb9_k, zb10_k, zb11_k, zb12_k, zb14_k, zb21_k, zb22_k, zupd_eq, zupd_ne, zupl_eq, zupl_ne, zupf_eq, zupf_ne, hs1, hs2, fX11_layReached_J121]
theorem fm_layK {o b : Nat → Nat} {n : Nat} {L0 : List zwE} {bg : Nat → Int32} (K : Int64 → Int64 → Int32 → (Nat → Int64) → (Nat → Int64) → (Nat → Int32) → (Nat → Int32) → (Nat → Int32) → Option (Int64 × Int64 × Int32 × (Nat → Int32) × (Nat → Int64) × (Nat → Int64) × (Nat → Int32) × (Nat → Int32) × (Nat → Int32))) (h : zwX o b n L0) (h1 : 1 ≤ n) (hn : n ≤ 4) (hst : ∀ j, 1 ≤ j → j ≤ n → bg j = nI (b j)) : ∀ d k fu l c e many up dn how fst snd, k + d = n / 2 + 1 → d < fu → 1 ≤ k → zwI o b n L0 l → l.length + 2 * zwkc b n d k ≤ 1884 → zwM l many up dn how fst snd → ∃ c' e' many' up' dn' how' fst' snd', fX11_layReached_L73 K (nI n) bg fu (nI k) c e many up dn how fst snd = K c' e' many' up' dn' how' fst' snd' ∧ zwM (zwk b n d k l) many' up' dn' how' fst' snd' := by
  have dv : nI n / nI 2 = nI (n / 2) := pk_div (by omega) (by omega) (by omega)
  intro d
  induction d with
  | zero =>
    intro k fu l c e many up dn how fst snd hd hfu hk hI hl hr
    obtain ⟨fu, rfl⟩ : ∃ f, fu = f + 1 := ⟨fu - 1, by omega⟩
    refine ⟨c, e, many, up, dn, how, fst, snd, ?_, hr⟩
    rw [fX11_layReached_L73_s]
    simp (disch := omega) only [zl_0, zl_1, zl_2, zl_3, zl_4, zl_5, zl_6, zl_8, zl_9, zl_11, zl_12, zl_13, zl_16, zl_20, zl_23, zl_24, zl_30, zl_32, zl_40, zl_41, zl_43, zl_45, zl_50, zl_52, zl_60, zl_97, zl_99, zl_100, zl_124, zl_126, zl_127, zl_169, zl_170, zl_171, zl_195, zl_200, zl_201, zl_256, zl_261, zl_999, zl_1100, zl_1884, zl_4095, zl_4096, zd1, zd2, zs1, nI_add, pk_mul, zsb, zad1, zad2, zcl, zgI, zif_le, zif_nle, zif_lt, zif_nlt, zif_eq, zif_ne, zif_self, zif_T, zif_F, Nat.zero_add, Nat.add_sub_cancel, zn21, zn31, zif_m1, zif_m1l, zif_m1n, zif_pm, zb1_k, zb2_k, zb3_k, zb4_k, zb5_k, zb6_k, zb7_k, zb8_k, zb9_k, zb10_k, zb11_k, zb12_k, zb14_k, zb21_k, zb22_k, zupd_eq, zupd_ne, zupl_eq, zupl_ne, zupf_eq, zupf_ne, dv]
  | succ d ih =>
    intro k fu l c e many up dn how fst snd hd hfu hk hI hl hr
    obtain ⟨fu, rfl⟩ : ∃ f, fu = f + 1 := ⟨fu - 1, by omega⟩
    have hL := zwP_l hI.1
    have hb1 := h.2.1 k hk (by omega)
    have e2 : zwkc b n (d + 1) k = zwc (decide (k = n - k)) (b (n - k)) (b (n - k + 1)) (b (k + 1) - b k) (b k) + zwkc b n d (k + 1) := rfl
    rw [e2] at hl
    have lx := zwx_len (decide (k = n - k)) (b (n - k)) (b (n - k + 1)) (b (k + 1) - b k) (b k) l
    have Ix : zwI o b n L0 (zwx (decide (k = n - k)) (b (n - k)) (b (n - k + 1)) (b (k + 1) - b k) (b k) l) := zwx_I _ _ l hI (fun l' x' y' q h1 h2 h3 h4 => zwI_2 h q hn hk (by omega) h1 (by omega) (by
      unfold zwlo at h3
      by_cases z : k = n - k
      · rw [if_pos (decide_eq_true z)] at h3
        rw [← z]
        omega
      · rw [if_neg (fun w => z (of_decide_eq_true w))] at h3
        exact h3) h4)
    obtain ⟨c1, e1, m1, u1, d1, h1, f1, s1, g1, g2⟩ := fm_layX (r := n - k) (fX11_layReached_L73 K (nI n) bg fu) h hn hk (by omega) rfl hst (b (k + 1) - b k) (b k) 5000 l c e many up dn how fst snd (by omega) (by omega) (Nat.le_refl _) hI (by omega) hr
    obtain ⟨c', e', many', up', dn', how', fst', snd', q1, q2⟩ := ih (k + 1) fu _ c1 e1 m1 u1 d1 h1 f1 s1 (by omega) (by omega) (by omega) Ix (by omega) g2
    refine ⟨c', e', many', up', dn', how', fst', snd', ?_, q2⟩
    have sk := hst k hk (by omega)
    rw [← q1, ← g1, fX11_layReached_L73_s]
    simp (disch := omega) only [zl_0, zl_1, zl_2, zl_3, zl_4, zl_5, zl_6, zl_8, zl_9, zl_11, zl_12, zl_13, zl_16, zl_20, zl_23, zl_24, zl_30, zl_32, zl_40, zl_41, zl_43, zl_45, zl_50, zl_52, zl_60, zl_97, zl_99, zl_100, zl_124, zl_126, zl_127, zl_169, zl_170, zl_171, zl_195, zl_200, zl_201, zl_256, zl_261, zl_999, zl_1100, zl_1884, zl_4095, zl_4096, zd1, zd2, zs1, nI_add, pk_mul, zsb, zad1, zad2, zcl, zgI, zif_le, zif_nle, zif_lt, zif_nlt, zif_eq, zif_ne, zif_self, zif_T, zif_F, Nat.zero_add, Nat.add_sub_cancel, zn21, zn31, zif_m1, zif_m1l, zif_m1n, zif_pm, zb1_k, zb2_k, zb3_k, zb4_k, zb5_k, zb6_k, zb7_k, zb8_k, zb9_k, zb10_k, zb11_k, zb12_k, zb14_k, zb21_k, zb22_k, zupd_eq, zupd_ne, zupl_eq, zupl_ne, zupf_eq, zupf_ne, dv, sk]
def zwMp (o : Nat → Nat) (n : Nat) (many : Int32) (bg : Nat → Int32) (up dn : Nat → Int64) (how fst snd : Nat → Int32) : Prop := zwM (zwL o n).1 many up dn how fst snd ∧ ∀ k, 1 ≤ k → k ≤ n + 1 → bg k = nI ((zwL o n).2 k)
theorem fm_layL {a : Nat → Nat} {N : Nat} (hb : zBox a) (hN : N ≤ 4) : ∀ d m fu c e many bg up dn how fst snd, m + d = N → d < fu → 1 ≤ m → zwMp a m many bg up dn how fst snd → ∃ c' e' many' bg' up' dn' how' fst' snd', fX11_layReached_L66 (nI N) fu (nI (m + 1)) c e many bg up dn how fst snd = some (c', e', many', bg', up', dn', how', fst', snd') ∧ zwMp a N many' bg' up' dn' how' fst' snd' := by
  have ho : ∀ s, s < 4 → a s ≤ 99 := fun s hs => (hb s hs).1
  intro d
  induction d with
  | zero =>
    intro m fu c e many bg up dn how fst snd hd hfu hm hr
    obtain ⟨fu, rfl⟩ : ∃ f, fu = f + 1 := ⟨fu - 1, by omega⟩
    have : m = N := by omega
    subst this
    refine ⟨c, e, many, bg, up, dn, how, fst, snd, ?_, hr⟩
    rw [fX11_layReached_L66_s, if_pos (nI_lt (by omega) (by omega))]
  | succ d ih =>
    intro m fu c e many bg up dn how fst snd hd hfu hm hr
    obtain ⟨fu, rfl⟩ : ∃ f, fu = f + 1 := ⟨fu - 1, by omega⟩
    obtain ⟨r2, r3⟩ := hr
    have hX := zwX_s ho m (by omega)
    obtain ⟨n1, n2, n3, n4, n5, n6, n7⟩ := zwN ho
    have cnt : (zwL a m).1.length + 2 * zwkc (zwL a m).2 (m + 1) ((m + 1) / 2) 1 ≤ 1884 := by
      have cs : m = 1 ∨ m = 2 ∨ m = 3 := by omega
      rcases cs with rfl | rfl | rfl
      · exact n5
      · exact n6
      · exact n7
    have eS : (zwL a (m + 1)).1 = zwk (zwL a m).2 (m + 1) ((m + 1) / 2) 1 (zwL a m).1 := by
      rw [zwL_1]
      unfold zwS
      rw [if_neg (by omega)]
    obtain ⟨c1, e1, m1, u1, d1, h1, f1, s1, g1, g2⟩ := fm_layK (fX11_layReached_J164 (nI (m + 1)) bg (fX11_layReached_L66 (nI N) fu)) hX (by omega) (by omega) r3 ((m + 1) / 2) 1 5000 _ c e many up dn how fst snd (by omega) (by omega) (by omega) (zwI_0 hX) cnt r2
    rw [← eS] at g2
    obtain ⟨c', e', many', bg', up', dn', how', fst', snd', q1, q2⟩ := ih (m + 1) fu c1 e1 m1 (upd bg (m + 2) m1) u1 d1 h1 f1 s1 (by omega) (by omega) (by omega) ⟨g2, fun k h1 h2 => by
      by_cases w : k = m + 2
      · rw [zupd_eq w, w, zwL_n a m]
        exact g2.1
      · rw [zupd_ne w, zwL_b a (by omega)]
        exact r3 k h1 (by omega)⟩
    refine ⟨c', e', many', bg', up', dn', how', fst', snd', ?_, q2⟩
    rw [← q1, fX11_layReached_L66_s, if_neg (nI_nlt (by omega) (by omega)), zl_1, g1]
    unfold fX11_layReached_J164
    simp (disch := omega) only [zl_0, zl_1, zl_2, zl_3, zl_4, zl_5, zl_6, zl_8, zl_9, zl_11, zl_12, zl_13, zl_16, zl_20, zl_23, zl_24, zl_30, zl_32, zl_40, zl_41, zl_43, zl_45, zl_50, zl_52, zl_60, zl_97, zl_99, zl_100, zl_124, zl_126, zl_127, zl_169, zl_170, zl_171, zl_195, zl_200, zl_201, zl_256, zl_261, zl_999, zl_1100, zl_1884, zl_4095, zl_4096, zd1, zd2, zs1, nI_add, pk_mul, zsb, zad1, zad2, zcl, zgI, zif_le, zif_nle, zif_lt, zif_nlt, zif_eq, zif_ne, zif_self, zif_T, zif_F, Nat.zero_add, Nat.add_sub_cancel, zn21, zn31, zif_m1, zif_m1l, zif_m1n, zif_pm, zb1_k, zb2_k, zb3_k, zb4_k, zb5_k, zb6_k, zb7_k, zb8_k, zb9_k, zb10_k, zb11_k, zb12_k, zb14_k, zb21_k, zb22_k, zupd_eq, zupd_ne, zupl_eq, zupl_ne, zupf_eq, zupf_ne]
theorem fm_layP {a : Nat → Nat} {now : Nat → Int32} (K : Int64 → Int64 → Int32 → (Nat → Int64) → (Nat → Int64) → (Nat → Int32) → (Nat → Int32) → (Nat → Int32) → Option (Int64 × Int64 × Int32 × (Nat → Int32) × (Nat → Int64) × (Nat → Int64) × (Nat → Int32) × (Nat → Int32) × (Nat → Int32))) (hm : zMn a now) (hb : zBox a) : ∀ d s fu l c e many up dn how fst snd, s + d = 4 → d < fu → zwG l → l.length + d ≤ 4 → zwM l many up dn how fst snd → ∃ c' e' many' up' dn' how' fst' snd', fX11_layReached_L14 K now fu (nI s) c e many up dn how fst snd = K c' e' many' up' dn' how' fst' snd' ∧ zwM (zw1 a d s l) many' up' dn' how' fst' snd' := by
  intro d
  induction d with
  | zero =>
    intro s fu l c e many up dn how fst snd hd hfu hG hl hr
    obtain ⟨fu, rfl⟩ : ∃ f, fu = f + 1 := ⟨fu - 1, by omega⟩
    refine ⟨c, e, many, up, dn, how, fst, snd, ?_, hr⟩
    rw [fX11_layReached_L14_s]
    simp (disch := omega) only [zl_0, zl_1, zl_2, zl_3, zl_4, zl_5, zl_6, zl_8, zl_9, zl_11, zl_12, zl_13, zl_16, zl_20, zl_23, zl_24, zl_30, zl_32, zl_40, zl_41, zl_43, zl_45, zl_50, zl_52, zl_60, zl_97, zl_99, zl_100, zl_124, zl_126, zl_127, zl_169, zl_170, zl_171, zl_195, zl_200, zl_201, zl_256, zl_261, zl_999, zl_1100, zl_1884, zl_4095, zl_4096, zd1, zd2, zs1, nI_add, pk_mul, zsb, zad1, zad2, zcl, zgI, zif_le, zif_nle, zif_lt, zif_nlt, zif_eq, zif_ne, zif_self, zif_T, zif_F, Nat.zero_add, Nat.add_sub_cancel, zn21, zn31, zif_m1, zif_m1l, zif_m1n, zif_pm, zb1_k, zb2_k, zb3_k, zb4_k, zb5_k, zb6_k, zb7_k, zb8_k, zb9_k, zb10_k, zb11_k, zb12_k, zb14_k, zb21_k, zb22_k, zupd_eq, zupd_ne, zupl_eq, zupl_ne, zupf_eq, zupf_ne]
  | succ d ih =>
    intro s fu l c e many up dn how fst snd hd hfu hG hl hr
    obtain ⟨fu, rfl⟩ : ∃ f, fu = f + 1 := ⟨fu - 1, by omega⟩
    have hs := fm_isThere hm hb (s := s) (by omega)
    have os := hm.1 s (by omega)
    have b99 := (hb s (by omega)).1
    rw [show zw1 a (d + 1) s l = zw1 a d (s + 1) (if a s = 0 then l else zwa l ((a s, 1), 0, s, 0)) from rfl]
    by_cases z : a s = 0
    · rw [if_pos z] at hs ⊢
      obtain ⟨c', e', many', up', dn', how', fst', snd', q1, q2⟩ := ih (s + 1) fu l c e many up dn how fst snd (by omega) (by omega) hG (by omega) hr
      refine ⟨c', e', many', up', dn', how', fst', snd', ?_, q2⟩
      rw [← q1, fX11_layReached_L14_s]
      simp (disch := omega) only [zl_0, zl_1, zl_2, zl_3, zl_4, zl_5, zl_6, zl_8, zl_9, zl_11, zl_12, zl_13, zl_16, zl_20, zl_23, zl_24, zl_30, zl_32, zl_40, zl_41, zl_43, zl_45, zl_50, zl_52, zl_60, zl_97, zl_99, zl_100, zl_124, zl_126, zl_127, zl_169, zl_170, zl_171, zl_195, zl_200, zl_201, zl_256, zl_261, zl_999, zl_1100, zl_1884, zl_4095, zl_4096, zd1, zd2, zs1, nI_add, pk_mul, zsb, zad1, zad2, zcl, zgI, zif_le, zif_nle, zif_lt, zif_nlt, zif_eq, zif_ne, zif_self, zif_T, zif_F, Nat.zero_add, Nat.add_sub_cancel, zn21, zn31, zif_m1, zif_m1l, zif_m1n, zif_pm, zb1_k, zb2_k, zb3_k, zb4_k, zb5_k, zb6_k, zb7_k, zb8_k, zb9_k, zb10_k, zb11_k, zb12_k, zb14_k, zb21_k, zb22_k, zupd_eq, zupd_ne, zupl_eq, zupl_ne, zupf_eq, zupf_ne, hs]
    · rw [if_neg z] at hs ⊢
      have rd : zRd (a s) 1 = (a s, 1) := zRd_id (Nat.gcd_one_right _)
      have bb : zwB 96059601 3881196 (a s, 1) := ⟨by show 0 < a s; omega, by show a s ≤ _; omega, by show 0 < 1; omega, by show 1 ≤ 3881196; omega, Nat.gcd_one_right _⟩
      have G1 : zwG (zwa l ((a s, 1), 0, s, 0)) := by
        unfold zwa
        by_cases w : zwh l (a s, 1) = true
        · rw [if_pos w]; exact hG
        · rw [if_neg w]
          intro i e he
          rcases zwsn he with he | ⟨_, rfl⟩
          · exact hG i e he
          · exact bb
      have len := zwa_len l ((a s, 1), 0, s, 0)
      have bec : fX11_becomes (zL (a s)) (zL 1) c e = some (zL (a s), zL 1) := by
        have := (fm_becomes (u := a s) (v := 1) (c := c) (d := e) (by omega) (by omega) (by omega)).2 (by
          rw [rd]
          rintro (w | w)
          · have w : 1000000000 < a s := w
            omega
          · have w : 1000000000 < 1 := w
            omega)
        rw [rd] at this
        exact this
      obtain ⟨m1, u1, d1, h1, f1, s1, g1, g2⟩ := fm_reaches (h := 0) (x := s) (y := 0) (P := a s) (Q := 1) (by omega) hG (by omega) (by omega) hr
      obtain ⟨c', e', many', up', dn', how', fst', snd', q1, q2⟩ := ih (s + 1) fu _ (zL (a s)) (zL 1) m1 u1 d1 h1 f1 s1 (by omega) (by omega) G1 (by omega) g2
      refine ⟨c', e', many', up', dn', how', fst', snd', ?_, q2⟩
      rw [← q1, fX11_layReached_L14_s]
      simp (disch := omega) only [zl_0, zl_1, zl_2, zl_3, zl_4, zl_5, zl_6, zl_8, zl_9, zl_11, zl_12, zl_13, zl_16, zl_20, zl_23, zl_24, zl_30, zl_32, zl_40, zl_41, zl_43, zl_45, zl_50, zl_52, zl_60, zl_97, zl_99, zl_100, zl_124, zl_126, zl_127, zl_169, zl_170, zl_171, zl_195, zl_200, zl_201, zl_256, zl_261, zl_999, zl_1100, zl_1884, zl_4095, zl_4096, zd1, zd2, zs1, nI_add, pk_mul, zsb, zad1, zad2, zcl, zgI, zif_le, zif_nle, zif_lt, zif_nlt, zif_eq, zif_ne, zif_self, zif_T, zif_F, Nat.zero_add, Nat.add_sub_cancel, zn21, zn31, zif_m1, zif_m1l, zif_m1n, zif_pm, zb1_k, zb2_k, zb3_k, zb4_k, zb5_k, zb6_k, zb7_k, zb8_k, zb9_k, zb10_k, zb11_k, zb12_k, zb14_k, zb21_k, zb22_k, zupd_eq, zupd_ne, zupl_eq, zupl_ne, zupf_eq, zupf_ne, hs, os, zi2l, zl64_1, bec, g1]
theorem fm_lay {a : Nat → Nat} {now : Nat → Int32} {N : Nat} (hm : zMn a now) (hb : zBox a) (h1 : 1 ≤ N) (hN : N ≤ 4) (c e : Int64) (many : Int32) (bg : Nat → Int32) (up dn : Nat → Int64) (how fst snd : Nat → Int32) : ∃ c' e' many' bg' up' dn' how' fst' snd', fX11_layReached (nI N) c e many bg now up dn how fst snd = some (c', e', many', bg', up', dn', how', fst', snd') ∧ zwMp a N many' bg' up' dn' how' fst' snd' := by
  have hr0 : zwM [] (nI 0) up dn how fst snd := ⟨rfl, fun i e he => by cases he⟩
  obtain ⟨c1, e1, m1, u1, d1, h2, f1, s1, g1, g2⟩ := fm_layP (fX11_layReached_J54 bg (nI N)) hm hb 4 0 5000 [] c e (nI 0) up dn how fst snd (by omega) (by omega) (fun i e he => by cases he) (by simp only [List.length_nil]; omega) hr0
  obtain ⟨c', e', many', bg', up', dn', how', fst', snd', q1, q2⟩ := fm_layL hb hN (N - 1) 1 5000 c1 e1 m1 (upd (upd bg 1 (nI 0)) 2 m1) u1 d1 h2 f1 s1 (by omega) (by omega) (by omega) ⟨g2, fun k k1 k2 => by
    by_cases w : k = 2
    · rw [zupd_eq w, w, zwL_bl a (m := 1)]
      exact g2.1
    · have : k = 1 := by omega
      subst this
      rw [zupd_ne (by omega), zupd_eq rfl, zwL_b1]⟩
  refine ⟨c', e', many', bg', up', dn', how', fst', snd', ?_, q2⟩
  unfold fX11_layReached
  rw [zl_0, g1]
  unfold fX11_layReached_J54
  rw [zl_0, zl_1, zl_2, zcl (by omega), zcl (by omega)]
  exact q1
