/-! what a net is worth, gone through with a stack; a long worth is none -/
def zRo (K : Nat → Nat) (lf : Nat → Nat → Option (Nat × Nat)) : List (Option (Nat × Nat)) → Nat → List Nat → List (Option (Nat × Nat))
  | vs, _, [] => vs
  | vs, p, i :: r => if K i = 0 then zRo K lf (lf p i :: vs) (p + 1) r else match vs with
    | y :: x :: t => zRo K lf (zCo (K i) x y :: t) p r
    | _ => []
theorem zRo_0 {K : Nat → Nat} {lf : Nat → Nat → Option (Nat × Nat)} {vs : List (Option (Nat × Nat))} {p i : Nat} {r : List Nat} (k : K i = 0) : zRo K lf vs p (i :: r) = zRo K lf (lf p i :: vs) (p + 1) r := if_pos k
theorem zRo_1 {K : Nat → Nat} {lf : Nat → Nat → Option (Nat × Nat)} {t : List (Option (Nat × Nat))} {x y : Option (Nat × Nat)} {p i : Nat} {r : List Nat} (k : K i ≠ 0) : zRo K lf (y :: x :: t) p (i :: r) = zRo K lf (zCo (K i) x y :: t) p r := if_neg k
theorem zCo_n1 (kk : Nat) (y : Option (Nat × Nat)) : zCo kk none y = none := rfl
theorem zCo_n2 (kk : Nat) (x : Option (Nat × Nat)) : zCo kk x none = none := by cases x <;> rfl
theorem zRo_bad {K F S : Nat → Nat} {root : Nat} {lf : Nat → Nat → Option (Nat × Nat)} : ∀ (r st : List Nat) (vs : List (Option (Nat × Nat))) (p : Nat), zEv K F S root st r → vs.length = st.length → none ∈ vs → zRo K lf vs p r = [none]
  | [], st, vs, p, h, hl, hn => by
    have h : st = [root] := h
    subst h
    cases vs with
    | nil => cases hl
    | cons v t =>
      cases t with
      | nil =>
        have := List.mem_singleton.mp hn
        rw [← this]
        rfl
      | cons u t => cases hl
  | i :: r, st, vs, p, h, hl, hn => by
    rcases h with ⟨k, h⟩ | ⟨k, t, rfl, h⟩
    · rw [zRo_0 k]
      exact zRo_bad r (i :: st) (lf p i :: vs) (p + 1) h (by simp only [List.length_cons, hl]) (List.mem_cons_of_mem _ hn)
    · match vs, hl, hn with
      | y :: x :: vt, hl, hn =>
        rw [zRo_1 k]
        refine zRo_bad r (i :: t) (zCo (K i) x y :: vt) p h (by simp only [List.length_cons] at hl ⊢; omega) ?_
        rcases List.mem_cons.mp hn with e | hn
        · rw [← e, zCo_n2]; exact List.mem_cons_self
        · rcases List.mem_cons.mp hn with e | hn
          · rw [← e, zCo_n1]; exact List.mem_cons_self
          · exact List.mem_cons_of_mem _ hn
/-- a part's worth: at the place that fails (if any) by its failing -/
def zLf (a : Nat → Nat) (fp : Option Nat) (how : Nat) (p i : Nat) : Option (Nat × Nat) := some (if fp = some p then (if how = 1 then (0, 1) else (1, 0)) else (a (aF a i), 1))
theorem zLf_ok {a : Nat → Nat} (hv : zV a) {fp : Option Nat} {how p i : Nat} (hF : aF a i < 4) : zOo (zLf a fp how p i) := by
  have b := (hv.1 _ hF).1
  unfold zLf
  show zOp _
  split
  · split
    · exact ⟨by decide, by decide, by decide⟩
    · exact ⟨by decide, by decide, by decide⟩
  · exact ⟨by show a (aF a i) ≤ _; omega, by show 1 ≤ _; omega, Nat.gcd_one_right _⟩
theorem fx_putPart {a : Nat → Nat} {ohms : Nat → Int32} {s : Nat} {c d : Int64} (hb : zBox a) (ho : ∀ s, s < 4 → ohms s = nI (a s)) (hs : s < 4) (p2 : Int32) : fX4_putPart (nI s) (nI 0) p2 ohms c d = some (zL (a s), zL 1) := by
  have b := (hb s hs).1
  have e := fx_become (u := a s) (v := 1) (c := c) (d := d) (by omega) (by omega) (by omega)
  rw [zRd_id (Nat.gcd_one_right _)] at e
  unfold fX4_putPart
  simp (disch := omega) only [zl_0, zl_1, zl_2, zl_3, zl_4, zl_5, zl_6, zl_8, zl_9, zl_11, zl_12, zl_13, zl_16, zl_20, zl_23, zl_24, zl_30, zl_32, zl_40, zl_41, zl_43, zl_45, zl_50, zl_52, zl_60, zl_97, zl_99, zl_100, zl_124, zl_126, zl_127, zl_169, zl_170, zl_171, zl_195, zl_200, zl_201, zl_256, zl_261, zl_999, zl_1100, zl_1884, zl_4095, zl_4096, zd1, zd2, zs1, nI_add, pk_mul, zsb, zad1, zad2, zcl, zgI, zif_le, zif_nle, zif_lt, zif_nlt, zif_eq, zif_ne, zif_self, zif_T, zif_F, Nat.zero_add, Nat.add_sub_cancel, zn21, zn31, zif_m1, zif_m1l, zif_m1n, zif_pm, zb1_k, zb2_k, zb3_k, zb4_k, zb5_k, zb6_k, zb7_k, zb8_k, zb9_k, zb10_k, zb11_k, zb12_k, zb14_k, zb21_k, zb22_k, zupd_eq, zupd_ne, zupl_eq, zupl_ne, zupf_eq, zupf_ne, ho, zi2l, zl64_1, e]
theorem fx_putFail {ohms : Nat → Int32} {s how : Nat} {c d : Int64} (hh : how ≤ 1) : fX4_putPart (nI s) (nI 1) (nI how) ohms c d = some (zL (if how = 1 then (0, 1) else (1, 0) : Nat × Nat).1, zL (if how = 1 then (0, 1) else (1, 0) : Nat × Nat).2) := by
  have e1 := fx_become (u := 0) (v := 1) (c := c) (d := d) (by omega) (by omega) (by omega)
  have e2 := fx_become (u := 1) (v := 0) (c := c) (d := d) (by omega) (by omega) (by omega)
  rw [zRd_id (by decide)] at e1 e2
  unfold fX4_putPart
  rcases (show how = 0 ∨ how = 1 by omega) with rfl | rfl
  · simp (disch := omega) only [zl_0, zl_1, zl_2, zl_3, zl_4, zl_5, zl_6, zl_8, zl_9, zl_11, zl_12, zl_13, zl_16, zl_20, zl_23, zl_24, zl_30, zl_32, zl_40, zl_41, zl_43, zl_45, zl_50, zl_52, zl_60, zl_97, zl_99, zl_100, zl_124, zl_126, zl_127, zl_169, zl_170, zl_171, zl_195, zl_200, zl_201, zl_256, zl_261, zl_999, zl_1100, zl_1884, zl_4095, zl_4096, zd1, zd2, zs1, nI_add, pk_mul, zsb, zad1, zad2, zcl, zgI, zif_le, zif_nle, zif_lt, zif_nlt, zif_eq, zif_ne, zif_self, zif_T, zif_F, Nat.zero_add, Nat.add_sub_cancel, zn21, zn31, zif_m1, zif_m1l, zif_m1n, zif_pm, zb1_k, zb2_k, zb3_k, zb4_k, zb5_k, zb6_k, zb7_k, zb8_k, zb9_k, zb10_k, zb11_k, zb12_k, zb14_k, zb21_k, zb22_k, zupd_eq, zupd_ne, zupl_eq, zupl_ne, zupf_eq, zupf_ne, zl64_0, zl64_1, e2]
    try rfl
  · simp (disch := omega) only [zl_0, zl_1, zl_2, zl_3, zl_4, zl_5, zl_6, zl_8, zl_9, zl_11, zl_12, zl_13, zl_16, zl_20, zl_23, zl_24, zl_30, zl_32, zl_40, zl_41, zl_43, zl_45, zl_50, zl_52, zl_60, zl_97, zl_99, zl_100, zl_124, zl_126, zl_127, zl_169, zl_170, zl_171, zl_195, zl_200, zl_201, zl_256, zl_261, zl_999, zl_1100, zl_1884, zl_4095, zl_4096, zd1, zd2, zs1, nI_add, pk_mul, zsb, zad1, zad2, zcl, zgI, zif_le, zif_nle, zif_lt, zif_nlt, zif_eq, zif_ne, zif_self, zif_T, zif_F, Nat.zero_add, Nat.add_sub_cancel, zn21, zn31, zif_m1, zif_m1l, zif_m1n, zif_pm, zb1_k, zb2_k, zb3_k, zb4_k, zb5_k, zb6_k, zb7_k, zb8_k, zb9_k, zb10_k, zb11_k, zb12_k, zb14_k, zb21_k, zb22_k, zupd_eq, zupd_ne, zupl_eq, zupl_ne, zupf_eq, zupf_ne, zl64_0, zl64_1, e1]
    try rfl
theorem fx_isLong {u v : Nat} (hu : u < 4611686018427387904) (hv : v < 4611686018427387904) : (zLg (u, v) → fX1_isLong (zL u) (zL v) = some (nI 1)) ∧ (¬ zLg (u, v) → fX1_isLong (zL u) (zL v) = some (nI 0)) := by
  unfold fX1_isLong zLg
  by_cases h1 : 1000000000 < u
  · refine ⟨fun _ => ?_, fun h => absurd (Or.inl h1) h⟩
    simp (disch := omega) only [zl_0, zl_1, zl_2, zl_3, zl_4, zl_5, zl_6, zl_8, zl_9, zl_11, zl_12, zl_13, zl_16, zl_20, zl_23, zl_24, zl_30, zl_32, zl_40, zl_41, zl_43, zl_45, zl_50, zl_52, zl_60, zl_97, zl_99, zl_100, zl_124, zl_126, zl_127, zl_169, zl_170, zl_171, zl_195, zl_200, zl_201, zl_256, zl_261, zl_999, zl_1100, zl_1884, zl_4095, zl_4096, zd1, zd2, zs1, nI_add, pk_mul, zsb, zad1, zad2, zcl, zgI, zif_le, zif_nle, zif_lt, zif_nlt, zif_eq, zif_ne, zif_self, zif_T, zif_F, Nat.zero_add, Nat.add_sub_cancel, zn21, zn31, zif_m1, zif_m1l, zif_m1n, zif_pm, zb1_k, zb2_k, zb3_k, zb4_k, zb5_k, zb6_k, zb7_k, zb8_k, zb9_k, zb10_k, zb11_k, zb12_k, zb14_k, zb21_k, zb22_k, zupd_eq, zupd_ne, zupl_eq, zupl_ne, zupf_eq, zupf_ne, zl64_m, zjf_lt]
  · by_cases h2 : 1000000000 < v
    · refine ⟨fun _ => ?_, fun h => absurd (Or.inr h2) h⟩
      simp (disch := omega) only [zl_0, zl_1, zl_2, zl_3, zl_4, zl_5, zl_6, zl_8, zl_9, zl_11, zl_12, zl_13, zl_16, zl_20, zl_23, zl_24, zl_30, zl_32, zl_40, zl_41, zl_43, zl_45, zl_50, zl_52, zl_60, zl_97, zl_99, zl_100, zl_124, zl_126, zl_127, zl_169, zl_170, zl_171, zl_195, zl_200, zl_201, zl_256, zl_261, zl_999, zl_1100, zl_1884, zl_4095, zl_4096, zd1, zd2, zs1, nI_add, pk_mul, zsb, zad1, zad2, zcl, zgI, zif_le, zif_nle, zif_lt, zif_nlt, zif_eq, zif_ne, zif_self, zif_T, zif_F, Nat.zero_add, Nat.add_sub_cancel, zn21, zn31, zif_m1, zif_m1l, zif_m1n, zif_pm, zb1_k, zb2_k, zb3_k, zb4_k, zb5_k, zb6_k, zb7_k, zb8_k, zb9_k, zb10_k, zb11_k, zb12_k, zb14_k, zb21_k, zb22_k, zupd_eq, zupd_ne, zupl_eq, zupl_ne, zupf_eq, zupf_ne, zl64_m, zjf_nlt, zjf_nle]
    · refine ⟨fun h => by rcases h with h | h; exact absurd h h1; exact absurd h h2, fun _ => ?_⟩
      simp (disch := omega) only [zl_0, zl_1, zl_2, zl_3, zl_4, zl_5, zl_6, zl_8, zl_9, zl_11, zl_12, zl_13, zl_16, zl_20, zl_23, zl_24, zl_30, zl_32, zl_40, zl_41, zl_43, zl_45, zl_50, zl_52, zl_60, zl_97, zl_99, zl_100, zl_124, zl_126, zl_127, zl_169, zl_170, zl_171, zl_195, zl_200, zl_201, zl_256, zl_261, zl_999, zl_1100, zl_1884, zl_4095, zl_4096, zd1, zd2, zs1, nI_add, pk_mul, zsb, zad1, zad2, zcl, zgI, zif_le, zif_nle, zif_lt, zif_nlt, zif_eq, zif_ne, zif_self, zif_T, zif_F, Nat.zero_add, Nat.add_sub_cancel, zn21, zn31, zif_m1, zif_m1l, zif_m1n, zif_pm, zb1_k, zb2_k, zb3_k, zb4_k, zb5_k, zb6_k, zb7_k, zb8_k, zb9_k, zb10_k, zb11_k, zb12_k, zb14_k, zb21_k, zb22_k, zupd_eq, zupd_ne, zupl_eq, zupl_ne, zupf_eq, zupf_ne, zl64_m, zjf_nlt, zjf_le]
set_option maxHeartbeats 2000000 in
theorem fx_mwL {a : Nat → Nat} {root len how : Nat} {kd so ohms : Nat → Int32} {fp : Option Nat} (c1 c2 : Int64) (hv : zV a) (ho : ∀ s, s < 4 → ohms s = nI (a s)) (hh : how ≤ 1) (hfp : ∀ q, fp = some q → q < 12) (hlen : len ≤ 23) : ∀ (r st : List Nat) (vs : List (Nat × Nat)) (p off fu : Nat) (fa fb : Nat → Int64), zEv (aK a) (aF a) (aS a) root st r → vs.length = st.length → (∀ x, x ∈ vs → zOp x) → zSm (aP a) st + zLv (aK a) r ≤ 12 → (∀ x, x ∈ st → x < a 8) → (∀ x, x ∈ r → x < a 8) → off + r.length = len → r.length < fu → p + zLv (aK a) r ≤ 12 → zAr kd (fun i => nI (aK a i)) off r → zAr so (fun i => nI (aF a i)) off r → zSt fa (fun q => zL q.1) vs → zSt fb (fun q => zL q.2) vs → ∃ fa' fb' wa wb res, fX4_measureWalk_L8 (fX4_measureWalk_J149 c1 c2) (nI len) kd so ohms c1 c2 (zopt fp) (nI how) fu (nI st.length) (nI p) (nI off) fa fb = some (res, wa, wb, fa', fb') ∧ ((zRo (aK a) (zLf a fp how) (vs.map some) p r = [none] ∧ res = nI 0) ∨ ∃ q, zRo (aK a) (zLf a fp how) (vs.map some) p r = [some q] ∧ zOp q ∧ res = nI 1 ∧ wa = zL q.1 ∧ wb = zL q.2) := by
  have h8 := hv.2.1
  intro r
  induction r with
  | nil =>
    intro st vs p off fu fa fb hev hl hok hsm hst hr hoff hfu hp ak as va vb
    obtain ⟨fu, rfl⟩ : ∃ f, fu = f + 1 := ⟨fu - 1, by omega⟩
    have hev : st = [root] := hev
    subst hev
    match vs, hl, hok, va, vb with
    | [q], hl, hok, va, vb =>
      have va1 : fa 0 = zL q.1 := va.1
      have vb1 : fb 0 = zL q.2 := vb.1
      simp only [List.length_nil] at hoff
      refine ⟨fa, fb, zL q.1, zL q.2, nI 1, ?_, Or.inr ⟨q, rfl, hok q List.mem_cons_self, rfl, rfl, rfl⟩⟩
      rw [fX4_measureWalk_L8_s]
      simp (disch := omega) only [zl_0, zl_1, zl_2, zl_3, zl_4, zl_5, zl_6, zl_8, zl_9, zl_11, zl_12, zl_13, zl_16, zl_20, zl_23, zl_24, zl_30, zl_32, zl_40, zl_41, zl_43, zl_45, zl_50, zl_52, zl_60, zl_97, zl_99, zl_100, zl_124, zl_126, zl_127, zl_169, zl_170, zl_171, zl_195, zl_200, zl_201, zl_256, zl_261, zl_999, zl_1100, zl_1884, zl_4095, zl_4096, zd1, zd2, zs1, nI_add, pk_mul, zsb, zad1, zad2, zcl, zgI, zif_le, zif_nle, zif_lt, zif_nlt, zif_eq, zif_ne, zif_self, zif_T, zif_F, Nat.zero_add, Nat.add_sub_cancel, zn21, zn31, zif_m1, zif_m1l, zif_m1n, zif_pm, zb1_k, zb2_k, zb3_k, zb4_k, zb5_k, zb6_k, zb7_k, zb8_k, zb9_k, zb10_k, zb11_k, zb12_k, zb14_k, zb21_k, zb22_k, zupd_eq, zupd_ne, zupl_eq, zupl_ne, zupf_eq, zupf_ne, fX4_measureWalk_J149, fX1_copy, va1, vb1]
  | cons i r ih =>
    intro st vs p off fu fa fb hev hl hok hsm hst hr hoff hfu hp ak as va vb
    obtain ⟨fu, rfl⟩ : ∃ f, fu = f + 1 := ⟨fu - 1, by omega⟩
    have hi := hr i List.mem_cons_self
    have hr2 : ∀ x, x ∈ r → x < a 8 := fun x hx => hr x (List.mem_cons_of_mem _ hx)
    simp only [List.length_cons] at hoff hfu
    obtain ⟨ak1, ak2⟩ := ak
    obtain ⟨as1, as2⟩ := as
    have ak1 : kd off = nI (aK a i) := ak1
    have as1 : so off = nI (aF a i) := as1
    have hP1 : ∀ x, x ∈ st → 1 ≤ aP a x := fun x hx => (zNet_b hv.2.2.1 (hst x hx) h8).2.2.2.2
    have hsl := zSm_len st hP1
    rcases hev with ⟨k, hev⟩ | ⟨k, t, rfl, hev⟩
    · have e1 : zLv (aK a) (i :: r) = 1 + zLv (aK a) r := by
        show (if aK a i = 0 then 1 else 0) + _ = _
        rw [if_pos k]
      rw [e1] at hsm hp
      have hP := zP0_net hv i hi k
      have hF : aF a i < 4 := by rcases hv.2.2.1 i hi with h | h <;> omega
      have hob := (hv.1 _ hF).1
      have hst2 : ∀ x, x ∈ i :: st → x < a 8 := fun x hx => by
        rcases List.mem_cons.mp hx with rfl | hx
        · exact hi
        · exact hst x hx
      have hsm2 : zSm (aP a) (i :: st) + zLv (aK a) r ≤ 12 := by
        unfold zSm
        rw [hP]
        omega
      by_cases hf : fp = some p
      · have elf : zLf a fp how p i = some (if how = 1 then (0, 1) else (1, 0)) := by unfold zLf; rw [if_pos hf]
        generalize hL : (if how = 1 then (0, 1) else (1, 0) : Nat × Nat) = L at elf
        have hLo : zOp L := by
          have := zLf_ok hv (fp := fp) (how := how) (p := p) (i := i) hF
          rw [elf] at this
          exact this
        have ep := fx_putFail (ohms := ohms) (s := aF a i) (how := how) (c := fa st.length) (d := fb st.length) hh
        rw [hL] at ep
        obtain ⟨fa', fb', wa, wb, res, g1, g2⟩ := ih (i :: st) (L :: vs) (p + 1) (off + 1) fu (vp_updL fa st.length (zL L.1)) (vp_updL fb st.length (zL L.2)) hev (by simp only [List.length_cons, hl]) (fun x hx => by
          rcases List.mem_cons.mp hx with rfl | hx
          · exact hLo
          · exact hok x hx) hsm2 hst2 hr2 (by omega) (by omega) (by omega) ak2 as2 ⟨by rw [hl]; exact zupl_eq rfl, zSt_fr va (fun t ht => zupl_ne (by omega))⟩ ⟨by rw [hl]; exact zupl_eq rfl, zSt_fr vb (fun t ht => zupl_ne (by omega))⟩
        refine ⟨fa', fb', wa, wb, res, ?_, ?_⟩
        · simp only [List.length_cons] at g1
          rw [fX4_measureWalk_L8_s, hf]
          rw [hf, zopt_j] at g1
          simp (disch := omega) only [zl_0, zl_1, zl_2, zl_3, zl_4, zl_5, zl_6, zl_8, zl_9, zl_11, zl_12, zl_13, zl_16, zl_20, zl_23, zl_24, zl_30, zl_32, zl_40, zl_41, zl_43, zl_45, zl_50, zl_52, zl_60, zl_97, zl_99, zl_100, zl_124, zl_126, zl_127, zl_169, zl_170, zl_171, zl_195, zl_200, zl_201, zl_256, zl_261, zl_999, zl_1100, zl_1884, zl_4095, zl_4096, zd1, zd2, zs1, nI_add, pk_mul, zsb, zad1, zad2, zcl, zgI, zif_le, zif_nle, zif_lt, zif_nlt, zif_eq, zif_ne, zif_self, zif_T, zif_F, Nat.zero_add, Nat.add_sub_cancel, zn21, zn31, zif_m1, zif_m1l, zif_m1n, zif_pm, zb1_k, zb2_k, zb3_k, zb4_k, zb5_k, zb6_k, zb7_k, zb8_k, zb9_k, zb10_k, zb11_k, zb12_k, zb14_k, zb21_k, zb22_k, zupd_eq, zupd_ne, zupl_eq, zupl_ne, zupf_eq, zupf_ne, zopt_n, zopt_j, ak1, as1, k, fX4_measureWalk_J71, ep, g1]
        · rw [zRo_0 k, elf]
          exact g2
      · have elf : zLf a fp how p i = some (a (aF a i), 1) := by unfold zLf; rw [if_neg hf]
        have hLo : zOp (a (aF a i), 1) := by
          have := zLf_ok hv (fp := fp) (how := how) (p := p) (i := i) hF
          rw [elf] at this
          exact this
        have ep := fx_putPart (c := fa st.length) (d := fb st.length) hv.1 ho hF (nI how)
        obtain ⟨fa', fb', wa, wb, res, g1, g2⟩ := ih (i :: st) ((a (aF a i), 1) :: vs) (p + 1) (off + 1) fu (vp_updL fa st.length (zL (a (aF a i)))) (vp_updL fb st.length (zL 1)) hev (by simp only [List.length_cons, hl]) (fun x hx => by
          rcases List.mem_cons.mp hx with rfl | hx
          · exact hLo
          · exact hok x hx) hsm2 hst2 hr2 (by omega) (by omega) (by omega) ak2 as2 ⟨by rw [hl]; exact zupl_eq rfl, zSt_fr va (fun t ht => zupl_ne (by omega))⟩ ⟨by rw [hl]; exact zupl_eq rfl, zSt_fr vb (fun t ht => zupl_ne (by omega))⟩
        refine ⟨fa', fb', wa, wb, res, ?_, ?_⟩
        · simp only [List.length_cons] at g1
          rw [fX4_measureWalk_L8_s]
          cases fp with
          | none =>
            rw [zopt_n] at g1
            simp (disch := omega) only [zl_0, zl_1, zl_2, zl_3, zl_4, zl_5, zl_6, zl_8, zl_9, zl_11, zl_12, zl_13, zl_16, zl_20, zl_23, zl_24, zl_30, zl_32, zl_40, zl_41, zl_43, zl_45, zl_50, zl_52, zl_60, zl_97, zl_99, zl_100, zl_124, zl_126, zl_127, zl_169, zl_170, zl_171, zl_195, zl_200, zl_201, zl_256, zl_261, zl_999, zl_1100, zl_1884, zl_4095, zl_4096, zd1, zd2, zs1, nI_add, pk_mul, zsb, zad1, zad2, zcl, zgI, zif_le, zif_nle, zif_lt, zif_nlt, zif_eq, zif_ne, zif_self, zif_T, zif_F, Nat.zero_add, Nat.add_sub_cancel, zn21, zn31, zif_m1, zif_m1l, zif_m1n, zif_pm, zb1_k, zb2_k, zb3_k, zb4_k, zb5_k, zb6_k, zb7_k, zb8_k, zb9_k, zb10_k, zb11_k, zb12_k, zb14_k, zb21_k, zb22_k, zupd_eq, zupd_ne, zupl_eq, zupl_ne, zupf_eq, zupf_ne, zopt_n, zopt_j, ak1, as1, k, fX4_measureWalk_J71, ep, g1]
          | some q =>
            have hq := hfp q rfl
            have hne : p ≠ q := fun e => hf (congrArg some e.symm)
            rw [zopt_j] at g1
            simp (disch := omega) only [zl_0, zl_1, zl_2, zl_3, zl_4, zl_5, zl_6, zl_8, zl_9, zl_11, zl_12, zl_13, zl_16, zl_20, zl_23, zl_24, zl_30, zl_32, zl_40, zl_41, zl_43, zl_45, zl_50, zl_52, zl_60, zl_97, zl_99, zl_100, zl_124, zl_126, zl_127, zl_169, zl_170, zl_171, zl_195, zl_200, zl_201, zl_256, zl_261, zl_999, zl_1100, zl_1884, zl_4095, zl_4096, zd1, zd2, zs1, nI_add, pk_mul, zsb, zad1, zad2, zcl, zgI, zif_le, zif_nle, zif_lt, zif_nlt, zif_eq, zif_ne, zif_self, zif_T, zif_F, Nat.zero_add, Nat.add_sub_cancel, zn21, zn31, zif_m1, zif_m1l, zif_m1n, zif_pm, zb1_k, zb2_k, zb3_k, zb4_k, zb5_k, zb6_k, zb7_k, zb8_k, zb9_k, zb10_k, zb11_k, zb12_k, zb14_k, zb21_k, zb22_k, zupd_eq, zupd_ne, zupl_eq, zupl_ne, zupf_eq, zupf_ne, zopt_n, zopt_j, ak1, as1, k, fX4_measureWalk_J71, ep, g1]
        · rw [zRo_0 k, elf]
          exact g2
    · have e1 : zLv (aK a) (i :: r) = zLv (aK a) r := by
        show (if aK a i = 0 then 1 else 0) + _ = _
        rw [if_neg k, Nat.zero_add]
      rw [e1] at hsm hp
      have hPe := zP1_net hv i hi k
      have kb := zNet_b hv.2.2.1 hi h8
      match vs, hl, hok, va, vb with
      | y :: x :: vt, hl, hok, va, vb =>
        simp only [List.length_cons] at hl hsl
        have hl : vt.length = t.length := by omega
        obtain ⟨va1, va2, va3⟩ := va
        obtain ⟨vb1, vb2, vb3⟩ := vb
        simp only [List.length_cons, hl] at va1 vb1
        rw [hl] at va2 vb2
        have va1 : fa (t.length + 1) = zL y.1 := va1
        have vb1 : fb (t.length + 1) = zL y.2 := vb1
        have va2 : fa t.length = zL x.1 := va2
        have vb2 : fb t.length = zL x.2 := vb2
        have hy := hok y List.mem_cons_self
        have hx := hok x (List.mem_cons_of_mem _ List.mem_cons_self)
        have hsm2 : zSm (aP a) (i :: t) + zLv (aK a) r ≤ 12 := by
          unfold zSm at hsm ⊢
          unfold zSm at hsm
          rw [hPe]
          omega
        unfold zSm at hsm hsl
        unfold zSm at hsm hsl
        have hst2 : ∀ z, z ∈ i :: t → z < a 8 := fun z hz => by
          rcases List.mem_cons.mp hz with rfl | hz
          · exact hi
          · exact hst z (List.mem_cons_of_mem _ (List.mem_cons_of_mem _ hz))
        have bb := zCb_le (kk := aK a i) hx hy
        have il := fx_isLong bb.1 bb.2
        have jn : ∀ kk, aK a i = kk → (kk = 1 → fX1_addInSeries (zL x.1) (zL x.2) (zL y.1) (zL y.2) = some (zL (zCb (aK a i) x y).1, zL (zCb (aK a i) x y).2)) ∧ (kk = 2 → fX1_addBeside (zL x.1) (zL x.2) (zL y.1) (zL y.2) = some (zL (zCb (aK a i) x y).1, zL (zCb (aK a i) x y).2)) := fun kk e => ⟨fun e2 => by rw [e, e2]; exact fx_series hx hy, fun e2 => by rw [e, e2]; exact fx_beside hx hy⟩
        by_cases lg : zLg (zCb (aK a i) x y)
        · have ir := il.1 lg
          have eo : zCo (aK a i) (some x) (some y) = none := if_pos lg
          refine ⟨vp_updL fa t.length (zL (zCb (aK a i) x y).1), vp_updL fb t.length (zL (zCb (aK a i) x y).2), c1, c2, nI 0, ?_, Or.inl ⟨?_, rfl⟩⟩
          · rw [fX4_measureWalk_L8_s]
            rcases (show aK a i = 1 ∨ aK a i = 2 by omega) with e | e
            · have j1 := (jn 1 e).1 rfl
              generalize zCb (aK a i) x y = Z at *
              simp (disch := omega) only [zl_0, zl_1, zl_2, zl_3, zl_4, zl_5, zl_6, zl_8, zl_9, zl_11, zl_12, zl_13, zl_16, zl_20, zl_23, zl_24, zl_30, zl_32, zl_40, zl_41, zl_43, zl_45, zl_50, zl_52, zl_60, zl_97, zl_99, zl_100, zl_124, zl_126, zl_127, zl_169, zl_170, zl_171, zl_195, zl_200, zl_201, zl_256, zl_261, zl_999, zl_1100, zl_1884, zl_4095, zl_4096, zd1, zd2, zs1, nI_add, pk_mul, zsb, zad1, zad2, zcl, zgI, zif_le, zif_nle, zif_lt, zif_nlt, zif_eq, zif_ne, zif_self, zif_T, zif_F, Nat.zero_add, Nat.add_sub_cancel, zn21, zn31, zif_m1, zif_m1l, zif_m1n, zif_pm, zb1_k, zb2_k, zb3_k, zb4_k, zb5_k, zb6_k, zb7_k, zb8_k, zb9_k, zb10_k, zb11_k, zb12_k, zb14_k, zb21_k, zb22_k, zupd_eq, zupd_ne, zupl_eq, zupl_ne, zupf_eq, zupf_ne, List.length_cons, ak1, e, va1, vb1, va2, vb2, fX4_measureWalk_J84, fX4_measureWalk_J133, j1, ir]
            · have j1 := (jn 2 e).2 rfl
              generalize zCb (aK a i) x y = Z at *
              simp (disch := omega) only [zl_0, zl_1, zl_2, zl_3, zl_4, zl_5, zl_6, zl_8, zl_9, zl_11, zl_12, zl_13, zl_16, zl_20, zl_23, zl_24, zl_30, zl_32, zl_40, zl_41, zl_43, zl_45, zl_50, zl_52, zl_60, zl_97, zl_99, zl_100, zl_124, zl_126, zl_127, zl_169, zl_170, zl_171, zl_195, zl_200, zl_201, zl_256, zl_261, zl_999, zl_1100, zl_1884, zl_4095, zl_4096, zd1, zd2, zs1, nI_add, pk_mul, zsb, zad1, zad2, zcl, zgI, zif_le, zif_nle, zif_lt, zif_nlt, zif_eq, zif_ne, zif_self, zif_T, zif_F, Nat.zero_add, Nat.add_sub_cancel, zn21, zn31, zif_m1, zif_m1l, zif_m1n, zif_pm, zb1_k, zb2_k, zb3_k, zb4_k, zb5_k, zb6_k, zb7_k, zb8_k, zb9_k, zb10_k, zb11_k, zb12_k, zb14_k, zb21_k, zb22_k, zupd_eq, zupd_ne, zupl_eq, zupl_ne, zupf_eq, zupf_ne, List.length_cons, ak1, e, va1, vb1, va2, vb2, fX4_measureWalk_J84, fX4_measureWalk_J133, j1, ir]
          · simp only [List.map_cons]
            rw [zRo_1 k, eo]
            exact zRo_bad r (i :: t) _ p hev (by simp only [List.length_cons, List.length_map, hl]) List.mem_cons_self
        · have ir := il.2 lg
          have eo : zCo (aK a i) (some x) (some y) = some (zCb (aK a i) x y) := if_neg lg
          have hz := zCb_ok hx hy lg
          obtain ⟨fa', fb', wa, wb, res, g1, g2⟩ := ih (i :: t) (zCb (aK a i) x y :: vt) p (off + 1) fu (vp_updL fa t.length (zL (zCb (aK a i) x y).1)) (vp_updL fb t.length (zL (zCb (aK a i) x y).2)) hev (by simp only [List.length_cons, hl]) (fun z hz2 => by
            rcases List.mem_cons.mp hz2 with rfl | hz2
            · exact hz
            · exact hok z (List.mem_cons_of_mem _ (List.mem_cons_of_mem _ hz2))) hsm2 hst2 hr2 (by omega) (by omega) (by omega) ak2 as2 ⟨by rw [hl]; exact zupl_eq rfl, zSt_fr va3 (fun u hu => zupl_ne (by omega))⟩ ⟨by rw [hl]; exact zupl_eq rfl, zSt_fr vb3 (fun u hu => zupl_ne (by omega))⟩
          refine ⟨fa', fb', wa, wb, res, ?_, ?_⟩
          · simp only [List.length_cons] at g1
            rw [fX4_measureWalk_L8_s]
            rcases (show aK a i = 1 ∨ aK a i = 2 by omega) with e | e
            · have j1 := (jn 1 e).1 rfl
              generalize zCb (aK a i) x y = Z at *
              simp (disch := omega) only [zl_0, zl_1, zl_2, zl_3, zl_4, zl_5, zl_6, zl_8, zl_9, zl_11, zl_12, zl_13, zl_16, zl_20, zl_23, zl_24, zl_30, zl_32, zl_40, zl_41, zl_43, zl_45, zl_50, zl_52, zl_60, zl_97, zl_99, zl_100, zl_124, zl_126, zl_127, zl_169, zl_170, zl_171, zl_195, zl_200, zl_201, zl_256, zl_261, zl_999, zl_1100, zl_1884, zl_4095, zl_4096, zd1, zd2, zs1, nI_add, pk_mul, zsb, zad1, zad2, zcl, zgI, zif_le, zif_nle, zif_lt, zif_nlt, zif_eq, zif_ne, zif_self, zif_T, zif_F, Nat.zero_add, Nat.add_sub_cancel, zn21, zn31, zif_m1, zif_m1l, zif_m1n, zif_pm, zb1_k, zb2_k, zb3_k, zb4_k, zb5_k, zb6_k, zb7_k, zb8_k, zb9_k, zb10_k, zb11_k, zb12_k, zb14_k, zb21_k, zb22_k, zupd_eq, zupd_ne, zupl_eq, zupl_ne, zupf_eq, zupf_ne, List.length_cons, ak1, e, va1, vb1, va2, vb2, fX4_measureWalk_J84, fX4_measureWalk_J133, j1, ir, g1]
            · have j1 := (jn 2 e).2 rfl
              generalize zCb (aK a i) x y = Z at *
              simp (disch := omega) only [zl_0, zl_1, zl_2, zl_3, zl_4, zl_5, zl_6, zl_8, zl_9, zl_11, zl_12, zl_13, zl_16, zl_20, zl_23, zl_24, zl_30, zl_32, zl_40, zl_41, zl_43, zl_45, zl_50, zl_52, zl_60, zl_97, zl_99, zl_100, zl_124, zl_126, zl_127, zl_169, zl_170, zl_171, zl_195, zl_200, zl_201, zl_256, zl_261, zl_999, zl_1100, zl_1884, zl_4095, zl_4096, zd1, zd2, zs1, nI_add, pk_mul, zsb, zad1, zad2, zcl, zgI, zif_le, zif_nle, zif_lt, zif_nlt, zif_eq, zif_ne, zif_self, zif_T, zif_F, Nat.zero_add, Nat.add_sub_cancel, zn21, zn31, zif_m1, zif_m1l, zif_m1n, zif_pm, zb1_k, zb2_k, zb3_k, zb4_k, zb5_k, zb6_k, zb7_k, zb8_k, zb9_k, zb10_k, zb11_k, zb12_k, zb14_k, zb21_k, zb22_k, zupd_eq, zupd_ne, zupl_eq, zupl_ne, zupf_eq, zupf_ne, List.length_cons, ak1, e, va1, vb1, va2, vb2, fX4_measureWalk_J84, fX4_measureWalk_J133, j1, ir, g1]
          · simp only [List.map_cons]
            rw [zRo_1 k, eo]
            exact g2
set_option maxHeartbeats 2000000 in
theorem fm_vfL {a : Nat → Nat} {root len how : Nat} {ord now : Nat → Int32} {fp : Nat} (hv : zV a) (hm : zMn a now) (hh : how ≤ 1) (hfp : fp < 12) (hlen : len ≤ 23) : ∀ (r st : List Nat) (vs : List (Option (Nat × Nat))) (p off fu : Nat) (c d : Int64) (fa fb : Nat → Int64), zEv (aK a) (aF a) (aS a) root st r → vs.length = st.length → (∀ x, x ∈ vs → zOo x) → zSm (aP a) st + zLv (aK a) r ≤ 12 → (∀ x, x ∈ st → x < a 8) → (∀ x, x ∈ r → x < a 8) → off + r.length = len → r.length < fu → p + zLv (aK a) r ≤ 12 → zAr ord nI off r → zSt fa (fun q => (zEn q).1) vs → zSt fb (fun q => (zEn q).2) vs → ∃ fa' fb' q, fX11_valueFailing_L8 fX11_valueFailing_J178 (nI len) ord now (nI fp) (nI how) fu (nI st.length) (nI p) (nI off) c d fa fb = some ((zEn q).1, (zEn q).2, fa', fb') ∧ zRo (aK a) (zLf a (some fp) how) vs p r = [q] ∧ zOo q := by
  have h8 := hv.2.1
  intro r
  induction r with
  | nil =>
    intro st vs p off fu c d fa fb hev hl hok hsm hst hr hoff hfu hp ar va vb
    obtain ⟨fu, rfl⟩ : ∃ f, fu = f + 1 := ⟨fu - 1, by omega⟩
    have hev : st = [root] := hev
    subst hev
    match vs, hl, hok, va, vb with
    | [q], hl, hok, va, vb =>
      have va1 : fa 0 = (zEn q).1 := va.1
      have vb1 : fb 0 = (zEn q).2 := vb.1
      simp only [List.length_nil] at hoff
      refine ⟨fa, fb, q, ?_, rfl, hok q List.mem_cons_self⟩
      rw [fX11_valueFailing_L8_s]
      simp (disch := omega) only [zl_0, zl_1, zl_2, zl_3, zl_4, zl_5, zl_6, zl_8, zl_9, zl_11, zl_12, zl_13, zl_16, zl_20, zl_23, zl_24, zl_30, zl_32, zl_40, zl_41, zl_43, zl_45, zl_50, zl_52, zl_60, zl_97, zl_99, zl_100, zl_124, zl_126, zl_127, zl_169, zl_170, zl_171, zl_195, zl_200, zl_201, zl_256, zl_261, zl_999, zl_1100, zl_1884, zl_4095, zl_4096, zd1, zd2, zs1, nI_add, pk_mul, zsb, zad1, zad2, zcl, zgI, zif_le, zif_nle, zif_lt, zif_nlt, zif_eq, zif_ne, zif_self, zif_T, zif_F, Nat.zero_add, Nat.add_sub_cancel, zn21, zn31, zif_m1, zif_m1l, zif_m1n, zif_pm, zb1_k, zb2_k, zb3_k, zb4_k, zb5_k, zb6_k, zb7_k, zb8_k, zb9_k, zb10_k, zb11_k, zb12_k, zb14_k, zb21_k, zb22_k, zupd_eq, zupd_ne, zupl_eq, zupl_ne, zupf_eq, zupf_ne, fX11_valueFailing_J178, va1, vb1]
  | cons i r ih =>
    intro st vs p off fu c d fa fb hev hl hok hsm hst hr hoff hfu hp ar va vb
    obtain ⟨fu, rfl⟩ : ∃ f, fu = f + 1 := ⟨fu - 1, by omega⟩
    have hi := hr i List.mem_cons_self
    have hr2 : ∀ x, x ∈ r → x < a 8 := fun x hx => hr x (List.mem_cons_of_mem _ hx)
    simp only [List.length_cons] at hoff hfu
    obtain ⟨ar1, ar2⟩ := ar
    have ar1 : ord off = nI i := ar1
    have kO := fm_kindOf hm (i := i) (by omega)
    have fO := fm_firstOf hm (i := i) (by omega)
    have kb := zNet_b hv.2.2.1 hi h8
    have hP1 : ∀ x, x ∈ st → 1 ≤ aP a x := fun x hx => (zNet_b hv.2.2.1 (hst x hx) h8).2.2.2.2
    have hsl := zSm_len st hP1
    rcases hev with ⟨k, hev⟩ | ⟨k, t, rfl, hev⟩
    · have e1 : zLv (aK a) (i :: r) = 1 + zLv (aK a) r := by
        show (if aK a i = 0 then 1 else 0) + _ = _
        rw [if_pos k]
      rw [e1] at hsm hp
      have hP := zP0_net hv i hi k
      have hF : aF a i < 4 := by rcases hv.2.2.1 i hi with h | h <;> omega
      have hob := (hv.1 _ hF).1
      have hst2 : ∀ x, x ∈ i :: st → x < a 8 := fun x hx => by
        rcases List.mem_cons.mp hx with rfl | hx
        · exact hi
        · exact hst x hx
      have hsm2 : zSm (aP a) (i :: st) + zLv (aK a) r ≤ 12 := by
        unfold zSm
        rw [hP]
        omega
      have hLo := zLf_ok hv (fp := some fp) (how := how) (p := p) (i := i) hF
      obtain ⟨fa', fb', q, g1, g2, g3⟩ := ih (i :: st) (zLf a (some fp) how p i :: vs) (p + 1) (off + 1) fu c d (vp_updL fa st.length (zEn (zLf a (some fp) how p i)).1) (vp_updL fb st.length (zEn (zLf a (some fp) how p i)).2) hev (by simp only [List.length_cons, hl]) (fun x hx => by
          rcases List.mem_cons.mp hx with rfl | hx
          · exact hLo
          · exact hok x hx) hsm2 hst2 hr2 (by omega) (by omega) (by omega) ar2 ⟨by rw [hl]; exact zupl_eq rfl, zSt_fr va (fun t ht => zupl_ne (by omega))⟩ ⟨by rw [hl]; exact zupl_eq rfl, zSt_fr vb (fun t ht => zupl_ne (by omega))⟩
      refine ⟨fa', fb', q, ?_, by rw [zRo_0 k]; exact g2, g3⟩
      rw [← g1, fX11_valueFailing_L8_s]
      unfold zLf zEn
      by_cases hf : p = fp
      · rw [if_pos (congrArg some hf.symm)]
        rcases (show how = 0 ∨ how = 1 by omega) with rfl | rfl
        · simp (disch := omega) only [zl_0, zl_1, zl_2, zl_3, zl_4, zl_5, zl_6, zl_8, zl_9, zl_11, zl_12, zl_13, zl_16, zl_20, zl_23, zl_24, zl_30, zl_32, zl_40, zl_41, zl_43, zl_45, zl_50, zl_52, zl_60, zl_97, zl_99, zl_100, zl_124, zl_126, zl_127, zl_169, zl_170, zl_171, zl_195, zl_200, zl_201, zl_256, zl_261, zl_999, zl_1100, zl_1884, zl_4095, zl_4096, zd1, zd2, zs1, nI_add, pk_mul, zsb, zad1, zad2, zcl, zgI, zif_le, zif_nle, zif_lt, zif_nlt, zif_eq, zif_ne, zif_self, zif_T, zif_F, Nat.zero_add, Nat.add_sub_cancel, zn21, zn31, zif_m1, zif_m1l, zif_m1n, zif_pm, zb1_k, zb2_k, zb3_k, zb4_k, zb5_k, zb6_k, zb7_k, zb8_k, zb9_k, zb10_k, zb11_k, zb12_k, zb14_k, zb21_k, zb22_k, zupd_eq, zupd_ne, zupl_eq, zupl_ne, zupf_eq, zupf_ne, List.length_cons, ar1, kO, k, fX11_valueFailing_J46, fX11_valueFailing_J84, fX11_valueFailing_J101, zi2l, zl64_1, zL_sub]
          try rfl
        · simp (disch := omega) only [zl_0, zl_1, zl_2, zl_3, zl_4, zl_5, zl_6, zl_8, zl_9, zl_11, zl_12, zl_13, zl_16, zl_20, zl_23, zl_24, zl_30, zl_32, zl_40, zl_41, zl_43, zl_45, zl_50, zl_52, zl_60, zl_97, zl_99, zl_100, zl_124, zl_126, zl_127, zl_169, zl_170, zl_171, zl_195, zl_200, zl_201, zl_256, zl_261, zl_999, zl_1100, zl_1884, zl_4095, zl_4096, zd1, zd2, zs1, nI_add, pk_mul, zsb, zad1, zad2, zcl, zgI, zif_le, zif_nle, zif_lt, zif_nlt, zif_eq, zif_ne, zif_self, zif_T, zif_F, Nat.zero_add, Nat.add_sub_cancel, zn21, zn31, zif_m1, zif_m1l, zif_m1n, zif_pm, zb1_k, zb2_k, zb3_k, zb4_k, zb5_k, zb6_k, zb7_k, zb8_k, zb9_k, zb10_k, zb11_k, zb12_k, zb14_k, zb21_k, zb22_k, zupd_eq, zupd_ne, zupl_eq, zupl_ne, zupf_eq, zupf_ne, List.length_cons, ar1, kO, k, fX11_valueFailing_J46, fX11_valueFailing_J84, fX11_valueFailing_J101, zi2l, zl64_1, zL_sub]
          try rfl
      · rw [if_neg (fun e => hf (Option.some.inj e).symm)]
        simp (disch := omega) only [zl_0, zl_1, zl_2, zl_3, zl_4, zl_5, zl_6, zl_8, zl_9, zl_11, zl_12, zl_13, zl_16, zl_20, zl_23, zl_24, zl_30, zl_32, zl_40, zl_41, zl_43, zl_45, zl_50, zl_52, zl_60, zl_97, zl_99, zl_100, zl_124, zl_126, zl_127, zl_169, zl_170, zl_171, zl_195, zl_200, zl_201, zl_256, zl_261, zl_999, zl_1100, zl_1884, zl_4095, zl_4096, zd1, zd2, zs1, nI_add, pk_mul, zsb, zad1, zad2, zcl, zgI, zif_le, zif_nle, zif_lt, zif_nlt, zif_eq, zif_ne, zif_self, zif_T, zif_F, Nat.zero_add, Nat.add_sub_cancel, zn21, zn31, zif_m1, zif_m1l, zif_m1n, zif_pm, zb1_k, zb2_k, zb3_k, zb4_k, zb5_k, zb6_k, zb7_k, zb8_k, zb9_k, zb10_k, zb11_k, zb12_k, zb14_k, zb21_k, zb22_k, zupd_eq, zupd_ne, zupl_eq, zupl_ne, zupf_eq, zupf_ne, List.length_cons, ar1, kO, fO, k, hm.1, Nat.zero_add, fX11_valueFailing_J46, fX11_valueFailing_J84, fX11_valueFailing_J101, zi2l, zl64_1]
    · have e1 : zLv (aK a) (i :: r) = zLv (aK a) r := by
        show (if aK a i = 0 then 1 else 0) + _ = _
        rw [if_neg k, Nat.zero_add]
      rw [e1] at hsm hp
      have hPe := zP1_net hv i hi k
      match vs, hl, hok, va, vb with
      | y :: x :: vt, hl, hok, va, vb =>
        simp only [List.length_cons] at hl hsl
        have hl : vt.length = t.length := by omega
        obtain ⟨va1, va2, va3⟩ := va
        obtain ⟨vb1, vb2, vb3⟩ := vb
        simp only [List.length_cons, hl] at va1 vb1
        rw [hl] at va2 vb2
        have va1 : fa (t.length + 1) = (zEn y).1 := va1
        have vb1 : fb (t.length + 1) = (zEn y).2 := vb1
        have va2 : fa t.length = (zEn x).1 := va2
        have vb2 : fb t.length = (zEn x).2 := vb2
        have hy := hok y List.mem_cons_self
        have hx := hok x (List.mem_cons_of_mem _ List.mem_cons_self)
        have hsm2 : zSm (aP a) (i :: t) + zLv (aK a) r ≤ 12 := by
          unfold zSm at hsm ⊢
          unfold zSm at hsm
          rw [hPe]
          omega
        unfold zSm at hsm hsl
        unfold zSm at hsm hsl
        have hst2 : ∀ z, z ∈ i :: t → z < a 8 := fun z hz => by
          rcases List.mem_cons.mp hz with rfl | hz
          · exact hi
          · exact hst z (List.mem_cons_of_mem _ (List.mem_cons_of_mem _ hz))
        have jn := fm_joined (kk := aK a i) (c := c) (d := d) (by omega) hx hy
        obtain ⟨fa', fb', q, g1, g2, g3⟩ := ih (i :: t) (zCo (aK a i) x y :: vt) p (off + 1) fu (zEn (zCo (aK a i) x y)).1 (zEn (zCo (aK a i) x y)).2 (vp_updL fa t.length (zEn (zCo (aK a i) x y)).1) (vp_updL fb t.length (zEn (zCo (aK a i) x y)).2) hev (by simp only [List.length_cons, hl]) (fun z hz2 => by
            rcases List.mem_cons.mp hz2 with rfl | hz2
            · exact zCo_ok hx hy
            · exact hok z (List.mem_cons_of_mem _ (List.mem_cons_of_mem _ hz2))) hsm2 hst2 hr2 (by omega) (by omega) (by omega) ar2 ⟨by rw [hl]; exact zupl_eq rfl, zSt_fr va3 (fun u hu => zupl_ne (by omega))⟩ ⟨by rw [hl]; exact zupl_eq rfl, zSt_fr vb3 (fun u hu => zupl_ne (by omega))⟩
        refine ⟨fa', fb', q, ?_, by rw [zRo_1 k]; exact g2, g3⟩
        simp only [List.length_cons] at g1
        rw [fX11_valueFailing_L8_s]
        obtain ⟨Z, hZ⟩ : ∃ Z, zEn (zCo (aK a i) x y) = Z := ⟨_, rfl⟩
        rw [hZ] at jn g1
        obtain ⟨Z1, Z2⟩ := Z
        simp (disch := omega) only [zl_0, zl_1, zl_2, zl_3, zl_4, zl_5, zl_6, zl_8, zl_9, zl_11, zl_12, zl_13, zl_16, zl_20, zl_23, zl_24, zl_30, zl_32, zl_40, zl_41, zl_43, zl_45, zl_50, zl_52, zl_60, zl_97, zl_99, zl_100, zl_124, zl_126, zl_127, zl_169, zl_170, zl_171, zl_195, zl_200, zl_201, zl_256, zl_261, zl_999, zl_1100, zl_1884, zl_4095, zl_4096, zd1, zd2, zs1, nI_add, pk_mul, zsb, zad1, zad2, zcl, zgI, zif_le, zif_nle, zif_lt, zif_nlt, zif_eq, zif_ne, zif_self, zif_T, zif_F, Nat.zero_add, Nat.add_sub_cancel, zn21, zn31, zif_m1, zif_m1l, zif_m1n, zif_pm, zb1_k, zb2_k, zb3_k, zb4_k, zb5_k, zb6_k, zb7_k, zb8_k, zb9_k, zb10_k, zb11_k, zb12_k, zb14_k, zb21_k, zb22_k, zupd_eq, zupd_ne, zupl_eq, zupl_ne, zupf_eq, zupf_ne, List.length_cons, ar1, kO, va1, vb1, va2, vb2, jn, g1]
