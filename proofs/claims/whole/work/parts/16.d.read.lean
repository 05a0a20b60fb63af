/-! the call read -/
theorem zXe_l {L n e : Nat} {kind sort : Nat → Int32} {R : zRs} {x : Option (Int32 × Int32 × (Nat → Int32) × (Nat → Int32) × (Nat → Int32))} (h : zXe L n kind sort R x) (hR : R = .inl e) : e ≤ L ∧ ∃ l j k s, x = some (nI e, l, j, k, s) := by
  subst hR
  exact h
theorem zXe_r {L n : Nat} {ts : List (Nat × Nat)} {kind sort : Nat → Int32} {R : zRs} {x : Option (Int32 × Int32 × (Nat → Int32) × (Nat → Int32) × (Nat → Int32))} (h : zXe L n kind sort R x) (hR : R = .inr ts) : ∃ j k s, x = some (-nI 1, nI (n + ts.length), j, k, s) ∧ (∀ i, i < n → k i = kind i ∧ s i = sort i) ∧ zTk k s n ts ∧ n + ts.length ≤ 23 := by
  subst hR
  exact h
theorem zMe_l {L e : Nat} {R : zRs} {x : Option (Int32 × Int32 × (Nat → Int32))} (h : zMe L R x) (hR : R = .inl e) : ∃ m o, x = some (nI e, m, o) := by
  subst hR
  exact h.2
theorem zMe_r {L : Nat} {ts : List (Nat × Nat)} {R : zRs} {x : Option (Int32 × Int32 × (Nat → Int32))} (h : zMe L R x) (hR : R = .inr ts) : ∃ o, x = some (-nI 1, nI 0, o) := by
  subst hR
  exact h
theorem q_read {Fd : FD → Prop} {k : Nat} : zQ_read (zR Fd) k := by
  intro xs ms h
  have h0 := h
  obtain ⟨a, hv, hx, hm, hr⟩ := h
  obtain ⟨hB, hN, hMX, hT0, hT1, hT2⟩ := id hx
  obtain ⟨hI, ⟨L, T, hL, l1, l2, hT, l3, l4⟩, hF⟩ := id hr
  have xe := fx_foL hB hv.1 hL hT l3 L 0 5000 [] 0 true 0 (x_tape_joins xs) (x_plan_kind xs) (x_plan_sort xs) (by omega) (by omega) (Nat.zero_le _) (fun x hx => by cases hx) (by omega) rfl trivial
  have me := fm_foL hm hv.1 hL hT l4 L 0 5000 [] 0 true (m_open ms) (by omega) (by omega) (Nat.zero_le _) (fun x hx => by cases hx) (by omega) trivial
  have fin : ∀ (b : Nat → Nat) (cnt : Int32) (k' f s p now : Nat → Int32) (r : Int32) (v0 : Int32) (v2 v3 v4 v10 w3 w4 w2 : Nat → Int32) (w1 : Int32), zV b → zFf a b → zXn b cnt k' f s p → zMn b now → stX10_read xs = some (r, (xs.1, (cnt, k', f, s, p, xs.2.1.2.2.2.2.2.1, xs.2.1.2.2.2.2.2.2.1, xs.2.1.2.2.2.2.2.2.2.1, v10), xs.2.2.1, (nI 0, xs.2.2.2.1.2.1, v2), (v0, v3, v4, xs.2.2.2.2.1.2.2.2), xs.2.2.2.2.2)) → stX11_read ms = some (r, (ms.1, (nI 0, w1, ms.2.1.2.2.1, ms.2.1.2.2.2.1, now, ms.2.1.2.2.2.2.2), ms.2.2.1, (ms.2.2.2.1.1, ms.2.2.2.1.2.1, ms.2.2.2.1.2.2.1, ms.2.2.2.1.2.2.2.1, ms.2.2.2.1.2.2.2.2.1, w3), (w4, ms.2.2.2.2.1.2), ms.2.2.2.2.2)) → ∃ (r : Int32) (xs' : XS) (ms' : MS), stX10_read xs = some (r, xs') ∧ stX11_read ms = some (r, ms') ∧ zR Fd (k + 1) xs' ms' := by
    intro b cnt k' f s p now r v0 v2 v3 v4 v10 w3 w4 w2 w1 e1 e2 e3 e4 e5 e6
    refine ⟨r, _, _, e5, e6, b, e1, zX_off hv.2.2.2.1 hx e2 e3, e4, hI, ?_, hF⟩
    exact ⟨0, fun _ => 0, by omega, rfl, rfl, fun i hi => by omega, fun i hi => by omega, fun i hi => by omega⟩
  cases hR : zsc (zac a) T L 0 [] 0 true with
  | inl e =>
    obtain ⟨g1, l, j, k', s, g2⟩ := zXe_l xe hR
    obtain ⟨m, o, g3⟩ := zMe_l me hR
    have x1 : fX8_faultOrPlan (x_plan_length xs) (nI L) (x_tape_letters xs) (x_tape_joins xs) (x_box_ohms xs) (x_plan_kind xs) (x_plan_sort xs) = some (nI e, l, j, k', s) := by
      unfold fX8_faultOrPlan
      rw [zl_0, zl_1]
      exact g2
    have m1 : fX11_faultOf (nI L) (m_openMany ms) (m_tape ms) (m_now ms) (m_open ms) = some (nI e, m, o) := by
      unfold fX11_faultOf
      rw [zl_0, zl_1]
      exact g3
    refine fin a (x_nets_count xs) (x_nets_kind xs) (x_nets_first xs) (x_nets_second xs) (x_nets_parts xs) (m_now ms) (-nI 100 - nI e) l j k' s (x_nets_made xs) o (m_made ms) o m hv (zFf_rf a) hN hm ?_ ?_
    · simp (disch := omega) only [stX10_read, fX10_read, zl_0, zl_1, zl_2, zl_3, zl_4, zl_5, zl_6, zl_8, zl_9, zl_11, zl_12, zl_13, zl_16, zl_20, zl_23, zl_24, zl_30, zl_32, zl_40, zl_41, zl_43, zl_45, zl_50, zl_52, zl_60, zl_97, zl_99, zl_100, zl_124, zl_126, zl_127, zl_169, zl_170, zl_171, zl_195, zl_200, zl_201, zl_256, zl_261, zl_999, zl_1100, zl_1884, zl_4095, zl_4096, zd1, zd2, zs1, nI_add, pk_mul, zsb, zad1, zad2, zcl, zgI, zif_le, zif_nle, zif_lt, zif_nlt, zif_eq, zif_ne, zif_self, zif_T, zif_F, Nat.zero_add, Nat.add_sub_cancel, zn21, zn31, zif_m1, zif_m1l, zif_m1n, zif_pm, zb1_k, zb2_k, zb3_k, zb4_k, zb5_k, zb6_k, zb7_k, zb8_k, zb9_k, zb10_k, zb11_k, zb12_k, zb14_k, zb21_k, zb22_k, zupd_eq, zupd_ne, zupl_eq, zupl_ne, zupf_eq, zupf_ne, l1, x1]
    · simp (disch := omega) only [stX11_read, fX11_read, fX11_read_J20, zl_0, zl_1, zl_2, zl_3, zl_4, zl_5, zl_6, zl_8, zl_9, zl_11, zl_12, zl_13, zl_16, zl_20, zl_23, zl_24, zl_30, zl_32, zl_40, zl_41, zl_43, zl_45, zl_50, zl_52, zl_60, zl_97, zl_99, zl_100, zl_124, zl_126, zl_127, zl_169, zl_170, zl_171, zl_195, zl_200, zl_201, zl_256, zl_261, zl_999, zl_1100, zl_1884, zl_4095, zl_4096, zd1, zd2, zs1, nI_add, pk_mul, zsb, zad1, zad2, zcl, zgI, zif_le, zif_nle, zif_lt, zif_nlt, zif_eq, zif_ne, zif_self, zif_T, zif_F, Nat.zero_add, Nat.add_sub_cancel, zn21, zn31, zif_m1, zif_m1l, zif_m1n, zif_pm, zb1_k, zb2_k, zb3_k, zb4_k, zb5_k, zb6_k, zb7_k, zb8_k, zb9_k, zb10_k, zb11_k, zb12_k, zb14_k, zb21_k, zb22_k, zupd_eq, zupd_ne, zupl_eq, zupl_ne, zupf_eq, zupf_ne, l2, m1]
  | inr ts =>
    obtain ⟨j, k', s, g1, g2, g3, g4⟩ := zXe_r xe hR
    obtain ⟨o, g5⟩ := zMe_r me hR
    rw [Nat.zero_add] at g1 g4
    have x1 : fX8_faultOrPlan (x_plan_length xs) (nI L) (x_tape_letters xs) (x_tape_joins xs) (x_box_ohms xs) (x_plan_kind xs) (x_plan_sort xs) = some (-nI 1, nI ts.length, j, k', s) := by
      unfold fX8_faultOrPlan
      rw [zl_0, zl_1]
      exact g1
    have m1 : fX11_faultOf (nI L) (m_openMany ms) (m_tape ms) (m_now ms) (m_open ms) = some (-nI 1, nI 0, o) := by
      unfold fX11_faultOf
      rw [zl_0, zl_1]
      exact g5
    obtain ⟨r, b, cnt', k2, f', s', p', mx', om', op', mm', now', x2, m2, e1, e2, e3, e4⟩ := xm_keepsL (B := zac a) hL g4 hT l4 L 0 5000 5000 [] 0 true ts 0 a (x_nets_count xs) (x_nets_kind xs) (x_nets_first xs) (x_nets_second xs) (x_nets_parts xs) (m_now ms) (x_nets_made xs) (m_made ms) o [] (by omega) (by omega) (by omega) hR (by omega) g3 (Nat.zero_le _) (fun x hx => by cases hx) hv (fun _ => rfl) hN hm (fun x hx => by cases hx) rfl (by omega) rfl trivial trivial trivial
    have x3 : fX5_keepPlan (nI ts.length) k' s (x_nets_count xs) (x_nets_kind xs) (x_nets_first xs) (x_nets_second xs) (x_nets_parts xs) (x_nets_made xs) = some (r, cnt', k2, f', s', p', mx') := by
      unfold fX5_keepPlan
      rw [zl_0]
      exact x2
    have m3 : fX11_keeps (nI L) (nI 0) (m_tape ms) o (m_made ms) (m_now ms) = some (r, om', op', mm', now') := by
      unfold fX11_keeps
      rw [zl_0]
      exact m2
    refine fin b cnt' k2 f' s' p' now' r (nI ts.length) j k' s mx' op' mm' op' om' e1 e2 e3 e4 ?_ ?_
    · simp (disch := omega) only [stX10_read, fX10_read, zl_0, zl_1, zl_2, zl_3, zl_4, zl_5, zl_6, zl_8, zl_9, zl_11, zl_12, zl_13, zl_16, zl_20, zl_23, zl_24, zl_30, zl_32, zl_40, zl_41, zl_43, zl_45, zl_50, zl_52, zl_60, zl_97, zl_99, zl_100, zl_124, zl_126, zl_127, zl_169, zl_170, zl_171, zl_195, zl_200, zl_201, zl_256, zl_261, zl_999, zl_1100, zl_1884, zl_4095, zl_4096, zd1, zd2, zs1, nI_add, pk_mul, zsb, zad1, zad2, zcl, zgI, zif_le, zif_nle, zif_lt, zif_nlt, zif_eq, zif_ne, zif_self, zif_T, zif_F, Nat.zero_add, Nat.add_sub_cancel, zn21, zn31, zif_m1, zif_m1l, zif_m1n, zif_pm, zb1_k, zb2_k, zb3_k, zb4_k, zb5_k, zb6_k, zb7_k, zb8_k, zb9_k, zb10_k, zb11_k, zb12_k, zb14_k, zb21_k, zb22_k, zupd_eq, zupd_ne, zupl_eq, zupl_ne, zupf_eq, zupf_ne, l1, x1, x3]
    · simp (disch := omega) only [stX11_read, fX11_read, fX11_read_J20, zl_0, zl_1, zl_2, zl_3, zl_4, zl_5, zl_6, zl_8, zl_9, zl_11, zl_12, zl_13, zl_16, zl_20, zl_23, zl_24, zl_30, zl_32, zl_40, zl_41, zl_43, zl_45, zl_50, zl_52, zl_60, zl_97, zl_99, zl_100, zl_124, zl_126, zl_127, zl_169, zl_170, zl_171, zl_195, zl_200, zl_201, zl_256, zl_261, zl_999, zl_1100, zl_1884, zl_4095, zl_4096, zd1, zd2, zs1, nI_add, pk_mul, zsb, zad1, zad2, zcl, zgI, zif_le, zif_nle, zif_lt, zif_nlt, zif_eq, zif_ne, zif_self, zif_T, zif_F, Nat.zero_add, Nat.add_sub_cancel, zn21, zn31, zif_m1, zif_m1l, zif_m1n, zif_pm, zb1_k, zb2_k, zb3_k, zb4_k, zb5_k, zb6_k, zb7_k, zb8_k, zb9_k, zb10_k, zb11_k, zb12_k, zb14_k, zb21_k, zb22_k, zupd_eq, zupd_ne, zupl_eq, zupl_ne, zupf_eq, zupf_ne, l2, m1, m3]
