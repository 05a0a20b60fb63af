/-! the call make -/
theorem zwP0 {o : Nat → Nat} (ho : ∀ s, s < 4 → o s ≤ 99) : ∀ i, i < zwb o 5 → zwK o i = 0 → zwlv o i = 1 := fun i hi k => by
  rcases zwK_c ho hi with h | h
  · exact h.2.2.2
  · omega
theorem zwP1 {o : Nat → Nat} (ho : ∀ s, s < 4 → o s ≤ 99) : ∀ i, i < zwb o 5 → zwK o i ≠ 0 → zwlv o i = zwlv o (zwFi o i) + zwlv o (zwSe o i) := fun i hi k => by
  rcases zwK_c ho hi with h | h
  · exact absurd h.1 k
  · exact h.2.2.2
theorem zwK_2 {o : Nat → Nat} (ho : ∀ s, s < 4 → o s ≤ 99) : ∀ i, i < zwb o 5 → zwK o i ≤ 2 := fun i hi => by
  rcases zwK_c ho hi with h | h <;> omega
theorem fx_fillR {o : Nat → Nat} {m x : Nat} {lv : Int32} {st ab be kd fi se : Nat → Int32} (ho : ∀ s, s < 4 → o s ≤ 99) (hm : m ≤ 4) (h : zwQx o m lv st ab be kd fi se) (hx : x < zwb o (m + 1)) (pl : Int32) (w pk ps : Nat → Int32) : ∃ w' pk' ps', fX6_fill (nI x) (nI (zwlv o x)) 1884 1884 1884 pl w kd pk fi ps se = some (nI (2 * zwlv o x - 1), w', pk', ps') ∧ zAr pk' (fun i => nI (zwK o i)) 0 (zpo (zwK o) (zwFi o) (zwSe o) x) ∧ zAr ps' (fun i => nI (zwFi o i)) 0 (zpo (zwK o) (zwFi o) (zwSe o) x) := by
  have b5 := zwb_le ho (k := m + 1) (by omega) (by omega)
  have l := zpo_len (zwAc ho (Nat.le_refl _)) (zwP0 ho) (zwP1 ho) x (by omega)
  have lv4 := (zwlv_s ho (i := x) (by omega)).2.1
  have hq : ∀ i, i < zwb o (m + 1) → kd i = nI (zwK o i) ∧ fi i = nI (zwFi o i) ∧ (zwK o i ≠ 0 → se i = nI (zwSe o i)) := by
    intro i hi
    obtain ⟨e, he⟩ := zwF_g ho (i := i) (by omega)
    obtain ⟨k1, k2, k3⟩ := zwK_e he
    obtain ⟨_, _, r1, r2, r3⟩ := h.2.2 i e hi he
    rw [k1, k2, k3]
    exact ⟨r1, r2, r3⟩
  have e : zCr (zwK o) (zwFi o) (zwSe o) [x] = zpo (zwK o) (zwFi o) (zwSe o) x := List.nil_append _
  obtain ⟨w', kd', so', g1, g2, g3, g4⟩ := fx_fillL (n := zwb o (m + 1)) (np3 := 1884) (np4 := 1884) (np5 := 1884) b5.1 b5.1 b5.1 (by omega) (by omega) (by omega) (fun i hi => (hq i hi).1) (fun i hi => (hq i hi).2.1) (fun i hi => (hq i hi).2.2) (fun i hi => zwK_2 ho i (by omega)) (zwAc ho b5.2) (nI (2 * zwlv o x - 1)) (2 * zwlv o x - 1) [x] 5000 (nI 1) (nI (2 * zwlv o x - 1 - 1)) (upd w 0 (nI x)) pk ps (by rw [e]; exact l.2) (by omega) (by omega) (fun y hy => by rw [List.mem_singleton.mp hy]; exact hx) rfl (zM1_p (by omega)) ⟨zupd_eq rfl, trivial⟩
  rw [e] at g2 g3
  refine ⟨w', kd', so', ?_, g2, g3⟩
  unfold fX6_fill fX6_fill_J16
  simp (disch := omega) only [zl_0, zl_1, zl_2, zl_3, zl_4, zl_5, zl_6, zl_8, zl_9, zl_11, zl_12, zl_13, zl_16, zl_20, zl_23, zl_24, zl_30, zl_32, zl_40, zl_41, zl_43, zl_45, zl_50, zl_52, zl_60, zl_97, zl_99, zl_100, zl_124, zl_126, zl_127, zl_169, zl_170, zl_171, zl_195, zl_200, zl_201, zl_256, zl_261, zl_999, zl_1100, zl_1884, zl_4095, zl_4096, zd1, zd2, zs1, nI_add, pk_mul, zsb, zad1, zad2, zcl, zgI, zif_le, zif_nle, zif_lt, zif_nlt, zif_eq, zif_ne, zif_self, zif_T, zif_F, Nat.zero_add, Nat.add_sub_cancel, zn21, zn31, zif_m1, zif_m1l, zif_m1n, zif_pm, zb1_k, zb2_k, zb3_k, zb4_k, zb5_k, zb6_k, zb7_k, zb8_k, zb9_k, zb10_k, zb11_k, zb12_k, zb14_k, zb21_k, zb22_k, zupd_eq, zupd_ne, zupl_eq, zupl_ne, zupf_eq, zupf_ne, g1]
theorem q_make {k : Nat} : zQ_make (zR zwFd) k := by
  intro xs ms h p1 p2
  have h0 := h
  obtain ⟨a, hv, hx, hm, hI, hT, O, m, hO, hm4, hbf, hrp, hok⟩ := h
  obtain ⟨hB, hN, hMX, hT0, hT1, hT2⟩ := id hx
  have ho : ∀ s, s < 4 → a s ≤ 99 := fun s hs => (hv.1 s hs).1
  rcases zwish p1 p2 with ⟨g1, g2⟩ | ⟨P, Q, w1, w2, w3, w4, rfl, rfl, g1, g2⟩
  · refine zfin0 (-1 : Int32) h0 ?_ ?_
    · simp (disch := omega) only [stX10_make, fX10_make, zl_0, zl_1, zl_2, zl_3, zl_4, zl_5, zl_6, zl_8, zl_9, zl_11, zl_12, zl_13, zl_16, zl_20, zl_23, zl_24, zl_30, zl_32, zl_40, zl_41, zl_43, zl_45, zl_50, zl_52, zl_60, zl_97, zl_99, zl_100, zl_124, zl_126, zl_127, zl_169, zl_170, zl_171, zl_195, zl_200, zl_201, zl_256, zl_261, zl_999, zl_1100, zl_1884, zl_4095, zl_4096, zd1, zd2, zs1, nI_add, pk_mul, zsb, zad1, zad2, zcl, zgI, zif_le, zif_nle, zif_lt, zif_nlt, zif_eq, zif_ne, zif_self, zif_T, zif_F, Nat.zero_add, Nat.add_sub_cancel, zn21, zn31, zif_m1, zif_m1l, zif_m1n, zif_pm, zb1_k, zb2_k, zb3_k, zb4_k, zb5_k, zb6_k, zb7_k, zb8_k, zb9_k, zb10_k, zb11_k, zb12_k, zb14_k, zb21_k, zb22_k, zupd_eq, zupd_ne, zupl_eq, zupl_ne, zupf_eq, zupf_ne, g1]
      (try rfl)
    · simp (disch := omega) only [stX11_make, fX11_make, zl_0, zl_1, zl_2, zl_3, zl_4, zl_5, zl_6, zl_8, zl_9, zl_11, zl_12, zl_13, zl_16, zl_20, zl_23, zl_24, zl_30, zl_32, zl_40, zl_41, zl_43, zl_45, zl_50, zl_52, zl_60, zl_97, zl_99, zl_100, zl_124, zl_126, zl_127, zl_169, zl_170, zl_171, zl_195, zl_200, zl_201, zl_256, zl_261, zl_999, zl_1100, zl_1884, zl_4095, zl_4096, zd1, zd2, zs1, nI_add, pk_mul, zsb, zad1, zad2, zcl, zgI, zif_le, zif_nle, zif_lt, zif_nlt, zif_eq, zif_ne, zif_self, zif_T, zif_F, Nat.zero_add, Nat.add_sub_cancel, zn21, zn31, zif_m1, zif_m1l, zif_m1n, zif_pm, zb1_k, zb2_k, zb3_k, zb4_k, zb5_k, zb6_k, zb7_k, zb8_k, zb9_k, zb10_k, zb11_k, zb12_k, zb14_k, zb21_k, zb22_k, zupd_eq, zupd_ne, zupl_eq, zupl_ne, zupf_eq, zupf_ne, g2]
      (try rfl)
  obtain ⟨r, m', sz', lv', lio', bf', tb', st', ab', be', kd', fi', se', f1, f2, f3, f4, f5, f6, f7⟩ := fx_indexOf hB hv.1 w1 w2 w3 w4 hO hm4 hbf hrp hok
  obtain ⟨r', c', e', many', bg', up', dn', how', fst', snd', j1, j2, j3⟩ := fm_wished hm hv.1 w1 w2 w3 w4 (m_above ms) (m_below ms) (m_reachMany ms) (m_begins ms) (m_reachUp ms) (m_reachDown ms) (m_reachHow ms) (m_reachFirst ms) (m_reachSecond ms)
  have hf : zwFd (sz', lv', lio', ab', be', kd', fi', se', x_found_order xs, x_found_merged xs, tb', st', bf') := ⟨a, m', ho, f4, f5, f2, f6⟩
  rcases f7 with ⟨rfl, c1⟩ | ⟨j, e, rfl, c1, c2, c3⟩
  · rcases j3 with ⟨_, rfl⟩ | ⟨j', e', d1, d2, rfl⟩
    · have n0 : ¬ (nI 0 ≤ -nI 1) := by decide
      refine zfinF (-2 : Int32) _ h0 hf ?_ ?_
      · simp (disch := omega) only [stX10_make, fX10_make, zl_0, zl_1, zl_2, zl_3, zl_4, zl_5, zl_6, zl_8, zl_9, zl_11, zl_12, zl_13, zl_16, zl_20, zl_23, zl_24, zl_30, zl_32, zl_40, zl_41, zl_43, zl_45, zl_50, zl_52, zl_60, zl_97, zl_99, zl_100, zl_124, zl_126, zl_127, zl_169, zl_170, zl_171, zl_195, zl_200, zl_201, zl_256, zl_261, zl_999, zl_1100, zl_1884, zl_4095, zl_4096, zd1, zd2, zs1, nI_add, pk_mul, zsb, zad1, zad2, zcl, zgI, zif_le, zif_nle, zif_lt, zif_nlt, zif_eq, zif_ne, zif_self, zif_T, zif_F, Nat.zero_add, Nat.add_sub_cancel, zn21, zn31, zif_m1, zif_m1l, zif_m1n, zif_pm, zb1_k, zb2_k, zb3_k, zb4_k, zb5_k, zb6_k, zb7_k, zb8_k, zb9_k, zb10_k, zb11_k, zb12_k, zb14_k, zb21_k, zb22_k, zupd_eq, zupd_ne, zupl_eq, zupl_ne, zupf_eq, zupf_ne, g1, f1]
        (try rfl)
      · simp (disch := omega) only [stX11_make, fX11_make, zl_0, zl_1, zl_2, zl_3, zl_4, zl_5, zl_6, zl_8, zl_9, zl_11, zl_12, zl_13, zl_16, zl_20, zl_23, zl_24, zl_30, zl_32, zl_40, zl_41, zl_43, zl_45, zl_50, zl_52, zl_60, zl_97, zl_99, zl_100, zl_124, zl_126, zl_127, zl_169, zl_170, zl_171, zl_195, zl_200, zl_201, zl_256, zl_261, zl_999, zl_1100, zl_1884, zl_4095, zl_4096, zd1, zd2, zs1, nI_add, pk_mul, zsb, zad1, zad2, zcl, zgI, zif_le, zif_nle, zif_lt, zif_nlt, zif_eq, zif_ne, zif_self, zif_T, zif_F, Nat.zero_add, Nat.add_sub_cancel, zn21, zn31, zif_m1, zif_m1l, zif_m1n, zif_pm, zb1_k, zb2_k, zb3_k, zb4_k, zb5_k, zb6_k, zb7_k, zb8_k, zb9_k, zb10_k, zb11_k, zb12_k, zb14_k, zb21_k, zb22_k, zupd_eq, zupd_ne, zupl_eq, zupl_ne, zupf_eq, zupf_ne, g2, j1, zfn n0]
        exact ⟨_, rfl, rfl, rfl, rfl, rfl, rfl⟩
    · exact absurd (by rw [← d2]; exact zwh_i d1) c1
  · rcases j3 with ⟨d1, _⟩ | ⟨j', e', d1, d2, rfl⟩
    · exact absurd (by rw [← c3]; exact zwh_i c2) d1
    · have ej : j' = j := zwF_ne ho d1 c2 (d2.trans c3.symm)
      subst ej
      have t := zwF_t ho c2
      have b1 := zwb_le ho (k := 5) (by omega) (by omega)
      have W1 := zwQx_o f4 f2
      have W2 := zwQm_o (n := 4) (by omega) j2
      have x1 := fx_partsOfR ho W1 f3 f4 c1
      have n0 : ¬ nI j' = -nI 1 := znm1 (by omega)
      have lv4 := zwlv_s ho t.2
      have l := zpo_len (zwAc ho (Nat.le_refl _)) (zwP0 ho) (zwP1 ho) j' t.2
      obtain ⟨pw', pk', ps', q1, q2, q3⟩ := fx_fillR ho f4 W1 c1 (x_plan_length xs) (x_plan_waiting xs) (x_plan_kind xs) (x_plan_sort xs)
      have hq : ∀ i, i < zwb a 5 → how' i = nI (zwK a i) ∧ fst' i = nI (zwFi a i) ∧ snd' i = nI (zwSe a i) := by
        intro i hi
        obtain ⟨e, he⟩ := zwF_g ho (i := i) hi
        obtain ⟨k1, k2, k3⟩ := zwK_e he
        obtain ⟨_, _, r1, r2, r3⟩ := W2.2.2 i e hi he
        rw [k1, k2, k3]
        exact ⟨r1, r2, r3⟩
      have ez : zFl (zwK a) (zwFi a) (zwSe a) [.inl j'] = zpo (zwK a) (zwFi a) (zwSe a) j' := List.append_nil _
      obtain ⟨rr, b, cnt', k', f', s', p', mx', wm', w', mm', now', y1, y2, y3, y4, y5, y6⟩ := xm_makesL (N := 2 * zwlv a j' - 1) (root := j') (kind := pk') (sort := ps') ho (Nat.le_refl _) (by omega) (fun i hi => (hq i hi).1) (fun i hi => (hq i hi).2.1) (fun i hi => (hq i hi).2.2) (3 * zwlv a j' - 2) [.inl j'] 0 5000 5000 a (x_nets_count xs) (x_nets_kind xs) (x_nets_first xs) (x_nets_second xs) (x_nets_parts xs) (m_now ms) (x_nets_made xs) (m_made ms) (upd (m_waits ms) 0 (nI j')) [] [] (Nat.le_refl _) (by omega) (by rw [ez, l.2]; omega) ⟨t.2, trivial⟩ ⟨zupd_eq rfl, trivial⟩ (by rw [ez, l.2]; omega) (by rw [ez]; exact q2) (by rw [ez]; exact q3) (by rw [ez]; exact zEv_root (zwAc ho (Nat.le_refl _)) t.2) hv (fun _ _ => rfl) hN hm trivial trivial trivial
      have X1 : fX5_keepPlan (nI (2 * zwlv a j' - 1)) pk' ps' (x_nets_count xs) (x_nets_kind xs) (x_nets_first xs) (x_nets_second xs) (x_nets_parts xs) (x_nets_made xs) = some (rr, cnt', k', f', s', p', mx') := by
        unfold fX5_keepPlan
        rw [zl_0]
        exact y1
      have Y1 : fX11_makes (nI j') (m_waitMany ms) (m_waits ms) how' snd' fst' (m_now ms) (m_made ms) = some (rr, wm', w', now', mm') := by
        unfold fX11_makes
        rw [zl_0, zl_1, zcl (by omega)]
        exact y2
      have X : stX10_make (nI P) (nI Q) xs = some (rr, (xs.1, (cnt', k', f', s', p', xs.2.1.2.2.2.2.2.1, xs.2.1.2.2.2.2.2.2.1, xs.2.1.2.2.2.2.2.2.2.1, mx'), xs.2.2.1, xs.2.2.2.1, (nI (2 * zwlv a j' - 1), pk', ps', pw'), (sz', lv', lio', ab', be', kd', fi', se', x_found_order xs, x_found_merged xs, tb', st', bf'), xs.2.2.2.2.2.2)) := by
        simp (disch := omega) only [stX10_make, fX10_make, zl_0, zl_1, zl_2, zl_3, zl_4, zl_5, zl_6, zl_8, zl_9, zl_11, zl_12, zl_13, zl_16, zl_20, zl_23, zl_24, zl_30, zl_32, zl_40, zl_41, zl_43, zl_45, zl_50, zl_52, zl_60, zl_97, zl_99, zl_100, zl_124, zl_126, zl_127, zl_169, zl_170, zl_171, zl_195, zl_200, zl_201, zl_256, zl_261, zl_999, zl_1100, zl_1884, zl_4095, zl_4096, zd1, zd2, zs1, nI_add, pk_mul, zsb, zad1, zad2, zcl, zgI, zif_le, zif_nle, zif_lt, zif_nlt, zif_eq, zif_ne, zif_self, zif_T, zif_F, Nat.zero_add, Nat.add_sub_cancel, zn21, zn31, zif_m1, zif_m1l, zif_m1n, zif_pm, zb1_k, zb2_k, zb3_k, zb4_k, zb5_k, zb6_k, zb7_k, zb8_k, zb9_k, zb10_k, zb11_k, zb12_k, zb14_k, zb21_k, zb22_k, zupd_eq, zupd_ne, zupl_eq, zupl_ne, zupf_eq, zupf_ne, g1, f1, zfn n0, x1, q1, X1]
      have Y : ∃ ms', stX11_make (nI P) (nI Q) ms = some (rr, ms') ∧ m_now ms' = now' ∧ m_imaged ms' = m_imaged ms ∧ m_hasImage ms' = m_hasImage ms ∧ m_size ms' = m_size ms ∧ m_tape ms' = m_tape ms := by
        simp (disch := omega) only [stX11_make, fX11_make, zl_0, zl_1, zl_2, zl_3, zl_4, zl_5, zl_6, zl_8, zl_9, zl_11, zl_12, zl_13, zl_16, zl_20, zl_23, zl_24, zl_30, zl_32, zl_40, zl_41, zl_43, zl_45, zl_50, zl_52, zl_60, zl_97, zl_99, zl_100, zl_124, zl_126, zl_127, zl_169, zl_170, zl_171, zl_195, zl_200, zl_201, zl_256, zl_261, zl_999, zl_1100, zl_1884, zl_4095, zl_4096, zd1, zd2, zs1, nI_add, pk_mul, zsb, zad1, zad2, zcl, zgI, zif_le, zif_nle, zif_lt, zif_nlt, zif_eq, zif_ne, zif_self, zif_T, zif_F, Nat.zero_add, Nat.add_sub_cancel, zn21, zn31, zif_m1, zif_m1l, zif_m1n, zif_pm, zb1_k, zb2_k, zb3_k, zb4_k, zb5_k, zb6_k, zb7_k, zb8_k, zb9_k, zb10_k, zb11_k, zb12_k, zb14_k, zb21_k, zb22_k, zupd_eq, zupd_ne, zupl_eq, zupl_ne, zupf_eq, zupf_ne, g2, j1, Y1]
        exact ⟨_, rfl, rfl, rfl, rfl, rfl, rfl⟩
      obtain ⟨ms', Y, z1, z2, z3, z4, z5⟩ := Y
      refine ⟨rr, _, ms', X, Y, b, y3, zX_off hv.2.2.2.1 hx y4 y5, z1 ▸ y6, ?_, ?_, hf⟩
      · unfold zIm
        rw [z2, z3]
        exact hI
      · unfold zTp
        rw [z4, z5]
        exact hT
