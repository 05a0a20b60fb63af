/-! the image -/
theorem zc4 : ((4 : Int32)).toNatClampNeg = 4 := by decide
theorem zc40 : ((40 : Int32)).toNatClampNeg = 40 := by decide
theorem zc8 : ((8 : Int32)).toNatClampNeg = 8 := by decide
theorem zc20 : ((20 : Int32)).toNatClampNeg = 20 := by decide
theorem zcpyL {f g : Nat → Int32} {n : Int32} {N j : Nat} (hn : n.toNatClampNeg = N) (h : j < N) : va_cpy f g ((0 : Int32)).toNatClampNeg ((0 : Int32)).toNatClampNeg n.toNatClampNeg j = f j := by
  rw [hn, show ((0 : Int32)).toNatClampNeg = 0 from by decide]
  exact zcpyI h
theorem fm_copies (f g : Nat → Int32) : ∃ g', fX11_copies 261 261 f g = some g' ∧ ∀ x, x < 261 → g' x = f x := by
  have key : ∀ d j fu (g : Nat → Int32), j + d = 261 → d < fu → (∀ x, x < j → g x = f x) → ∃ g', fX11_copies_L2 261 f 261 fu (nI j) g = some g' ∧ ∀ x, x < 261 → g' x = f x := by
    intro d
    induction d with
    | zero =>
      intro j fu g hj hfu hg
      obtain ⟨fu, rfl⟩ : ∃ f, fu = f + 1 := ⟨fu - 1, by omega⟩
      refine ⟨g, ?_, fun x hx => hg x (by omega)⟩
      rw [fX11_copies_L2_s]
      simp (disch := omega) only [zl_0, zl_1, zl_2, zl_3, zl_4, zl_5, zl_6, zl_8, zl_9, zl_11, zl_12, zl_13, zl_16, zl_20, zl_23, zl_24, zl_30, zl_32, zl_40, zl_41, zl_43, zl_45, zl_50, zl_52, zl_60, zl_97, zl_99, zl_100, zl_124, zl_126, zl_127, zl_169, zl_170, zl_171, zl_195, zl_200, zl_201, zl_256, zl_261, zl_999, zl_1100, zl_1884, zl_4095, zl_4096, zd1, zd2, zs1, nI_add, pk_mul, zsb, zad1, zad2, zcl, zgI, zif_le, zif_nle, zif_lt, zif_nlt, zif_eq, zif_ne, zif_self, zif_T, zif_F, Nat.zero_add, Nat.add_sub_cancel, zn21, zn31, zif_m1, zif_m1l, zif_m1n, zif_pm, zb1_k, zb2_k, zb3_k, zb4_k, zb5_k, zb6_k, zb7_k, zb8_k, zb9_k, zb10_k, zb11_k, zb12_k, zb14_k, zb21_k, zb22_k, zupd_eq, zupd_ne, zupl_eq, zupl_ne, zupf_eq, zupf_ne]
    | succ d ih =>
      intro j fu g hj hfu hg
      obtain ⟨fu, rfl⟩ : ∃ f, fu = f + 1 := ⟨fu - 1, by omega⟩
      obtain ⟨g', h1, h2⟩ := ih (j + 1) fu (upd g j (f j)) (by omega) (by omega) (fun x hx => by
        by_cases e : x = j
        · rw [zupd_eq e, e]
        · rw [zupd_ne e]; exact hg x (by omega))
      refine ⟨g', ?_, h2⟩
      rw [fX11_copies_L2_s]
      simp (disch := omega) only [zl_0, zl_1, zl_2, zl_3, zl_4, zl_5, zl_6, zl_8, zl_9, zl_11, zl_12, zl_13, zl_16, zl_20, zl_23, zl_24, zl_30, zl_32, zl_40, zl_41, zl_43, zl_45, zl_50, zl_52, zl_60, zl_97, zl_99, zl_100, zl_124, zl_126, zl_127, zl_169, zl_170, zl_171, zl_195, zl_200, zl_201, zl_256, zl_261, zl_999, zl_1100, zl_1884, zl_4095, zl_4096, zd1, zd2, zs1, nI_add, pk_mul, zsb, zad1, zad2, zcl, zgI, zif_le, zif_nle, zif_lt, zif_nlt, zif_eq, zif_ne, zif_self, zif_T, zif_F, Nat.zero_add, Nat.add_sub_cancel, zn21, zn31, zif_m1, zif_m1l, zif_m1n, zif_pm, zb1_k, zb2_k, zb3_k, zb4_k, zb5_k, zb6_k, zb7_k, zb8_k, zb9_k, zb10_k, zb11_k, zb12_k, zb14_k, zb21_k, zb22_k, zupd_eq, zupd_ne, zupl_eq, zupl_ne, zupf_eq, zupf_ne, h1]
  exact key 261 0 5000 g (by omega) (by omega) (fun x hx => by omega)
theorem zMn_ext {a : Nat → Nat} {f g : Nat → Int32} (hm : zMn a f) (h : ∀ x, x < 261 → g x = f x) : zMn a g :=
  ⟨fun j hj => (h j (by omega)).trans (hm.1 j hj), fun t ht hz => (h _ (by omega)).trans (hm.2.1 t ht hz), fun j h1 h2 => (h j h2).trans (hm.2.2 j h1 h2)⟩
theorem zXw_cp {a : Nat → Nat} {o g k f s p r1 r2 r3 t3 t6 t9 : Nat → Int32} {c q1 q2 t1 t2 t4 t5 t7 t8 : Int32} {o' g' k' f' s' p' r1' r2' r3' t3' t6' t9' : Nat → Int32} (hv : zV a) (h : zXw a o g c k f s p q1 q2 r1 r2 r3 t1 t2 t3 t4 t5 t6 t7 t8 t9) (e1 : ∀ j, j < 4 → o' j = o j) (e2 : ∀ j, j < 4 → g' j = g j) (e3 : ∀ j, j < 40 → k' j = k j) (e4 : ∀ j, j < 40 → f' j = f j) (e5 : ∀ j, j < 40 → s' j = s j) (e6 : ∀ j, j < 40 → p' j = p j) (e7 : ∀ j, j < 8 → r1' j = r1 j) (e8 : ∀ j, j < 8 → r2' j = r2 j) (e9 : ∀ j, j < 8 → r3' j = r3 j) (e10 : ∀ j, j < 20 → t3' j = t3 j) (e11 : ∀ j, j < 20 → t6' j = t6 j) (e12 : ∀ j, j < 20 → t9' j = t9 j) : zXw a o' g' c k' f' s' p' q1 q2 r1' r2' r3' t1 t2 t3' t4 t5 t6' t7 t8 t9' := by
  obtain ⟨h1, h2, h3, h4, h5, h6⟩ := h
  have v8 := hv.2.1
  have v9 := hv.2.2.2.1.2.2.1
  exact ⟨⟨fun j hj => (e1 j hj).trans (h1.1 j hj), fun j hj => (e2 j hj).trans (h1.2 j hj)⟩,
    ⟨h2.1, fun j hj => (e3 j (by omega)).trans (h2.2.1 j hj), fun j hj => (e4 j (by omega)).trans (h2.2.2.1 j hj), fun j hj => (e5 j (by omega)).trans (h2.2.2.2.1 j hj), fun j hj => (e6 j (by omega)).trans (h2.2.2.2.2 j hj)⟩,
    ⟨h3.1, h3.2.1, fun j hj => (e7 j (by omega)).trans (h3.2.2.1 j hj), fun j hj => (e8 j (by omega)).trans (h3.2.2.2.1 j hj), fun j hj => (e9 j (by omega)).trans (h3.2.2.2.2 j hj)⟩,
    ⟨h4.1, fun h0 => ⟨(h4.2 h0).1, fun j hj => (e10 j hj).trans ((h4.2 h0).2 j hj)⟩⟩,
    ⟨h5.1, fun h0 => ⟨(h5.2 h0).1, fun j hj => (e11 j hj).trans ((h5.2 h0).2 j hj)⟩⟩,
    ⟨h6.1, fun h0 => ⟨(h6.2 h0).1, fun j hj => (e12 j hj).trans ((h6.2 h0).2 j hj)⟩⟩⟩
theorem q_image {Fd : FD → Prop} {k : Nat} : zQ_image (zR Fd) k := by
  intro xs ms h
  obtain ⟨a, hv, hx, hm, hi, ht, hf⟩ := h
  obtain ⟨g, g1, g2⟩ := fm_copies (m_now ms) (m_imaged ms)
  have hc : x_nets_count xs = nI (a 8) := hx.2.1.1
  have hc2 : m_now ms 8 = nI (a 8) := hm.1 8 (by omega)
  refine ⟨x_nets_count xs, _, ((1, ms.1.2), (ms.2.1.1, ms.2.1.2.1, ms.2.1.2.2.1, ms.2.1.2.2.2.1, ms.2.1.2.2.2.2.1, g), ms.2.2), rfl, ?_, ⟨a, hv, hx, hm, Or.inr ⟨rfl, rfl, a, hv, ?_, zMn_ext hm g2⟩, ht, hf⟩⟩
  · unfold stX11_image fX11_image
    rw [g1]
    show some (m_now ms ((8 : Int32)).toNatClampNeg, _) = some (x_nets_count xs, _)
    rw [zc8, hc2, hc]
  · exact zXw_cp hv hx (fun j hj => zcpyL zc4 hj) (fun j hj => zcpyL zc4 hj) (fun j hj => zcpyL zc40 hj) (fun j hj => zcpyL zc40 hj) (fun j hj => zcpyL zc40 hj) (fun j hj => zcpyL zc40 hj) (fun j hj => zcpyL zc8 hj) (fun j hj => zcpyL zc8 hj) (fun j hj => zcpyL zc8 hj) (fun j hj => zcpyL zc20 hj) (fun j hj => zcpyL zc20 hj) (fun j hj => zcpyL zc20 hj)
theorem q_back {Fd : FD → Prop} {k : Nat} : zQ_back (zR Fd) k := by
  intro xs ms h
  have h0 := h
  obtain ⟨a, hv, hx, hm, hi, ht, hf⟩ := h
  rcases hi with ⟨i1, i2⟩ | ⟨i1, i2, b, bv, bx, bm⟩
  · refine ⟨-nI 5, xs, ms, ?_, ?_, h0⟩
    · unfold stX10_back fX10_back
      rw [if_pos i1]
      rfl
    · unfold stX11_back fX11_back
      rw [if_pos i2]
      rfl
  · obtain ⟨g, g1, g2⟩ := fm_copies (m_imaged ms) (m_now ms)
    have hc : x_kept_nets_count xs = nI (b 8) := bx.2.1.1
    have hc2 : g 8 = nI (b 8) := (g2 8 (by omega)).trans (bm.1 8 (by omega))
    have n1 : ¬ x_kept_isTaken xs = 0 := by rw [i1]; decide
    have n2 : ¬ m_hasImage ms = 0 := by rw [i2]; decide
    have hX : ∃ xs', stX10_back xs = some (x_kept_nets_count xs, xs') ∧ zX b xs' ∧ xs'.2.2.2.2.2.2.2.2.2 = xs.2.2.2.2.2.2.2.2.2 ∧ xs'.2.2.2.1 = xs.2.2.2.1 ∧ xs'.2.2.2.2.2.1 = xs.2.2.2.2.2.1 := by
      unfold stX10_back fX10_back
      rw [if_neg n1]
      refine ⟨_, rfl, ?_, rfl, rfl, rfl⟩
      exact zXw_cp bv bx (fun j hj => zcpyL zc4 hj) (fun j hj => zcpyL zc4 hj) (fun j hj => zcpyL zc40 hj) (fun j hj => zcpyL zc40 hj) (fun j hj => zcpyL zc40 hj) (fun j hj => zcpyL zc40 hj) (fun j hj => zcpyL zc8 hj) (fun j hj => zcpyL zc8 hj) (fun j hj => zcpyL zc8 hj) (fun j hj => zcpyL zc20 hj) (fun j hj => zcpyL zc20 hj) (fun j hj => zcpyL zc20 hj)
    obtain ⟨⟨y1, y2, y3, y4, y5, y6, y7, y8, y9, y10⟩, x1, x2, x3, x4, x5⟩ := hX
    have x3 : y10 = xs.2.2.2.2.2.2.2.2.2 := x3
    have x4 : y4 = xs.2.2.2.1 := x4
    have x5 : y6 = xs.2.2.2.2.2.1 := x5
    subst x3 x4 x5
    refine ⟨x_kept_nets_count xs, _, zmN ms g, x1, ?_, ⟨b, bv, x2, zMn_ext bm g2, Or.inr ⟨?_, i2, b, bv, ?_, bm⟩, ?_, ?_⟩⟩
    · unfold stX11_back fX11_back
      rw [if_neg n2, g1]
      show some (g ((8 : Int32)).toNatClampNeg, _) = some (x_kept_nets_count xs, _)
      rw [zc8, hc2, hc]
    · exact i1
    · exact bx
    · exact ht
    · exact hf
