/-! between, without, dearest -/
theorem zIs_of {a : Nat → Nat} {p cl : Nat} (hM : zMsh a) (hp : p < a 169) : zIs2 a (zre a p cl) (zIP a cl (zre a p cl)) := by
  have h8 := hM.2.2.1
  refine ⟨zre_lt hM hp, fun e he h => ?_⟩
  have h := ((zmask_b _ _ _).mp h).2
  have h := of_decide_eq_true h
  exact ⟨h.2, (zre_clo (c := cl) hM hp e (Nat.zero_le _) (by omega) h.1).mp h.2⟩
theorem zIP_in {a : Nat → Nat} {cl P e : Nat} (h : zbt (zIP a cl P) e = 1) : e < a 170 ∧ zbt cl e = 1 := by
  have h := (zmask_b _ _ _).mp h
  exact ⟨h.1, (of_decide_eq_true h.2).1⟩
theorem zIP_lt {a : Nat → Nat} {cl P : Nat} (hM : zMsh a) : zIP a cl P < 256 := zmask_8 _ hM.2.2.1
theorem zre_all {a : Nat → Nat} {p cl : Nat} (hM : zMsh a) (hp : p < a 169) : zre a p (zIP a cl (zre a p cl)) = zre a p cl := by
  have hI := zIs_of (cl := cl) hM hp
  refine zext (k := 6) (zre_lt hM hp) (zre_lt hM hp) (fun i _ => ⟨zre_P hI (fun e he => he) zre_self i, ?_⟩)
  refine zre_in (fun e h0 he hc => ?_) zre_self i
  have cP := zre_clo (c := cl) hM hp e h0 he hc
  have cQ := zre_clo (c := zIP a cl (zre a p cl)) hM hp e h0 he
  have sub := zre_P hI (fun e he => he) (zre_self (a := a) (x := p) (c := cl))
  have inI : zbt (zre a p cl) (eA a e) = 1 → zbt (zIP a cl (zre a p cl)) e = 1 := fun z => (zmask_b _ _ _).mpr ⟨by omega, decide_eq_true ⟨hc, z⟩⟩
  exact ⟨fun z => (cQ (inI (sub _ z))).mp z, fun z => (cQ (inI (cP.mpr (sub _ z)))).mpr z⟩
theorem z8_lt {n m : Nat} (hm : m ≤ 8) (h : ∀ e, zbt n e = 1 → e < m) : n < 256 := by
  refine Nat.lt_pow_two_of_testBit (n := 8) n (fun i hi => ?_)
  cases z : n.testBit i with
  | false => rfl
  | true => have := h i ((zbt_tb _ _).mpr z); omega
theorem z99 {n : Nat} (h : n ≤ 8) : 99 ^ n ≤ 99 ^ 8 := Nat.pow_le_pow_right (by decide) h
theorem zRd01 : zRd 0 1 = (0, 1) := by decide
theorem zRd10 : zRd 1 0 = (1, 0) := by decide
/-- the class's way and the reference's, the same fraction -/
theorem xm_between {a : Nat → Nat} {one oth mo now : Nat → Int32} {pts edg : Int32} {op : Option Nat} {p q : Nat} (hM : zMsh a) (hx : zXm a pts edg one oth mo) (hm : zMn a now) (hop : ∀ e, op = some e → e < 8) (hp : p < a 169) (hq : q < a 169) : ∃ u v, zFr u v ∧ (∀ wa wb tr, ∃ tr', fX3_measure (nI p) (nI q) (zopt op) pts edg wa wb mo one oth tr = some (zL u, zL v, tr')) ∧ ∀ c d, fX11_between0 (nI p) (nI q) (nI (zclm a op)) c d now = some (zL u, zL v) := by
  have h6 := hM.2.1
  have h8 := hM.2.2.1
  have lc := zclm_lt (op := op) hM
  have lP := zre_lt (c := zclm a op) hM hp
  have c1 := fm_ct hM hm lc hp
  by_cases e : p = q
  · subst e
    refine ⟨0, 1, ⟨by decide, by decide, by decide⟩, fun wa wb tr => ⟨tr, ?_⟩, fun c d => ?_⟩
    · have b := fx_become (u := 0) (v := 1) (c := wa) (d := wb) (by decide) (by decide) (by decide)
      rw [zRd01] at b
      unfold fX3_measure
      rw [if_pos rfl, zl64_0, zl64_1, b, zb2_k]
    · have b := (fm_becomes (u := 0) (v := 1) (c := c) (d := d) (by decide) (by decide) (by decide)).2 (by rw [zRd01]; unfold zLg; decide)
      rw [zRd01] at b
      unfold fX11_between0
      rw [c1, zb1_k, if_pos rfl]
      unfold fX11_between0_J22
      rw [if_pos rfl]
      unfold fX11_between0_J33
      rw [if_pos rfl]
      unfold fX11_between0_J43
      rw [zl64_0, zl64_1, b]
      rfl
  · have ne : ¬ nI p = nI q := fun z => e ((nI_eq (by omega) (by omega)).mp z)
    have w1 := fx_isWay hM hx hop hp hq
    have br := zbr (n := zre a p (zclm a op)) (i := q) (by omega) (by omega)
    by_cases w : zbt (zre a p (zclm a op)) q = 1
    · have lI := zIP_lt (cl := zclm a op) (P := zre a p (zclm a op)) hM
      have hI := zIs_of (cl := zclm a op) hM hp
      have self := zre_self (a := a) (x := p) (c := zclm a op)
      have hall := zre_all (cl := zclm a op) hM hp
      have c2 := fx_closed hM hx hop
      have c3 := fx_pf hM hx lc hp
      have c4 := fx_edgesOn hM hx lc lP
      have c5 := fm_edgesOn (k117 := fX11_between0_J117 now (nI p) (nI q) (nI (zre a p (zclm a op)))) hM hm lc lP
      have inI := fun e => zIP_in (a := a) (cl := zclm a op) (P := zre a p (zclm a op)) (e := e)
      have pos : ∀ e, zbt (zIP a (zclm a op) (zre a p (zclm a op))) e = 1 → eW a e ≠ 0 := fun e he => (of_decide_eq_true ((zmask_b _ _ _).mp (inI e he).2).2).1
      have two : 2 ≤ zct (zre a p (zclm a op)) := by
        have u := zZ5 _ lP p (by omega) self
        rcases (show zct (zre a p (zclm a op)) = 1 ∨ 2 ≤ zct (zre a p (zclm a op)) by omega) with z | z
        · exact absurd (zZ1 _ lP z p (by omega) q (by omega) self w) e
        · exact z
      have f3 := fx_bits0 (zre a p (zclm a op)) (by omega)
      have f4 := fm_count (n := zre a p (zclm a op)) (by omega)
      rw [zcP _ lP] at f3 f4
      generalize hP : zre a p (zclm a op) = P at *
      generalize hIP : zIP a (zclm a op) P = IP at *
      have hl : zIl a P IP p q := ⟨hI, two, self, w, lI, fun e he => (inI e he).1, hp, hq⟩
      have b1 : ∀ c, zS1 a P IP p c ≤ 99 ^ 8 := fun c => by
        unfold zS1
        split
        · exact Nat.le_trans (zpro_b hM _ _ (Nat.le_refl _)) (z99 h8)
        · exact Nat.zero_le _
      have b2 : ∀ c, zS2 a P IP p q c ≤ 99 ^ 8 := fun c => by
        unfold zS2
        split
        · exact Nat.le_trans (zpro_b hM _ _ (Nat.le_refl _)) (z99 h8)
        · exact Nat.zero_le _
      have s1 := zsm_b b1 256
      have s2 := zsm_b b2 256
      have e1 : zsm (zS1 a P IP p) 256 = zsm (zS1 a P IP p) (IP + 1) := by
        have := zsm_z (f := fun c => if c < 256 then zS1 a P IP p c else 0) (n := IP + 1) (fun c hc => by
          show (if c < 256 then zS1 a P IP p c else 0) = 0
          split
          · next h => exact if_neg (fun z => by have := zsub_le h z.1; omega)
          · rfl) (255 - IP)
        rw [show IP + 1 + (255 - IP) = 256 by omega] at this
        have k : ∀ n, n ≤ 256 → zsm (fun c => if c < 256 then zS1 a P IP p c else 0) n = zsm (zS1 a P IP p) n := by
          intro n
          induction n with
          | zero => intro _; rfl
          | succ n ih =>
            intro hn
            show zsm _ n + (if n < 256 then zS1 a P IP p n else 0) = zsm _ n + zS1 a P IP p n
            rw [ih (by omega), if_pos (by omega)]
        rw [k 256 (by omega), k (IP + 1) (by omega)] at this
        exact this
      have e2 : zsm (zS2 a P IP p q) 256 = zsm (zS2 a P IP p q) (IP + 1) := by
        have := zsm_z (f := fun c => if c < 256 then zS2 a P IP p q c else 0) (n := IP + 1) (fun c hc => by
          show (if c < 256 then zS2 a P IP p q c else 0) = 0
          split
          · next h => exact if_neg (fun z => by have := zsub_le h z.1; omega)
          · rfl) (255 - IP)
        rw [show IP + 1 + (255 - IP) = 256 by omega] at this
        have k : ∀ n, n ≤ 256 → zsm (fun c => if c < 256 then zS2 a P IP p q c else 0) n = zsm (zS2 a P IP p q) n := by
          intro n
          induction n with
          | zero => intro _; rfl
          | succ n ih =>
            intro hn
            show zsm _ n + (if n < 256 then zS2 a P IP p q n else 0) = zsm _ n + zS2 a P IP p q n
            rw [ih (by omega), if_pos (by omega)]
        rw [k 256 (by omega), k (IP + 1) (by omega)] at this
        exact this
      have p1 : 0 < zsm (zS1 a P IP p) 256 := by
        obtain ⟨t1, t2, t3⟩ := zspan hM hI hp self hall
        have l8 := z8_lt (n := zUl a IP) h8 (fun e he => (t1 e he).1)
        refine zsm_p (c := zUl a IP) ?_ 256 l8
        have sb := fun e he => (t1 e he).2
        have := (zE1 hM hI sb hp self t2).mp t3
        unfold zS1
        rw [if_pos ⟨zsub_z l8 sb, t2, this⟩]
        exact zpro_p _ _ (fun e _ he => by
          by_cases q8 : e < 32
          · exact pos e ((zbt_df q8).mp he).1
          · exact absurd (Nat.le_trans (Nat.le_refl _) (zdf_le IP (zUl a IP))) (fun _ => zbt_hi (k := 8) (Nat.lt_of_le_of_lt (zdf_le _ _) lI) (by omega) he))
      have kk : (256 : Nat) * 99 ^ 8 < 4611686018427387904 := by decide
      generalize hU : zsm (zS2 a P IP p q) 256 = U at *
      generalize hV : zsm (zS1 a P IP p) 256 = V at *
      have hU2 : U < 4611686018427387904 := by omega
      have hV2 : V < 4611686018427387904 := by omega
      have g0 := zgpos (u := U) (v := V) (Or.inr p1)
      have gl := zgle (u := U) (v := V) (Or.inr p1)
      refine ⟨(zRd U V).1, (zRd U V).2, ⟨?_, ?_, Or.inr ?_⟩, fun wa wb tr => ?_, fun c d => ?_⟩
      · exact Nat.lt_of_le_of_lt (Nat.div_le_self _ _) (by omega)
      · exact Nat.lt_of_le_of_lt (Nat.div_le_self _ _) (by omega)
      · exact Nat.div_pos (Nat.le_of_dvd p1 (Nat.gcd_dvd_right U V)) g0
      · obtain ⟨tr', k1⟩ := fx_wayL (p := p) (q := q) (fX3_measureWay_J159 wa wb) hM hx hl (IP + 1) 0 5000 tr (by omega) (by omega)
        rw [← e1, ← e2] at k1
        have b := fx_become (u := U) (v := V) (c := wa) (d := wb) hU2 hV2 (Or.inr p1)
        unfold fX3_measureWay_J159 at k1
        rw [b, zb2_k] at k1
        refine ⟨tr', ?_⟩
        have mw : fX3_measureWay (nI p) (nI q) (nI (zclm a op)) pts edg one oth tr mo wa wb = some (tr', zL (zRd U V).1, zL (zRd U V).2) := by
          unfold fX3_measureWay
          rw [c3, zb1_k, c4, zb1_k, f3, zb1_k, zl_0, zl64_0]
          exact k1
        unfold fX3_measure
        rw [if_neg ne, w1, zb1_k, zl_0, zif_b1 w, c2, zb1_k, mw, zb3_k]
      · have k2 := fm_wayL (p := p) (q := q) fX11_between0_J290 hM hm hl 256 0 5000 (by omega) (by omega)
        rw [hU, hV] at k2
        unfold fX11_between0
        rw [c1, zb1_k, if_neg ne, zl_1, br, zl_0, zif_b1 w, c5]
        unfold fX11_between0_J117
        rw [f4, zb1_k, zl_0, zl64_0]
        refine k2.trans ?_
        unfold fX11_between0_J290
        have gd := fm_gcd (a := U) (b := V) (by omega) (by omega)
        rw [gd, zb1_k, zl64_0, zgL g0 (by omega), zgL g0 (by omega), zL_div (by omega) g0 (by omega), zL_div (by omega) g0 (by omega)]
        rfl
    · refine ⟨1, 0, ⟨by decide, by decide, by decide⟩, fun wa wb tr => ⟨tr, ?_⟩, fun c d => ?_⟩
      · have b := fx_become (u := 1) (v := 0) (c := wa) (d := wb) (by decide) (by decide) (by decide)
        rw [zRd10] at b
        unfold fX3_measure
        rw [if_neg ne, w1, zb1_k, zl_0, zif_b0 w, zl64_0, zl64_1, b, zb2_k]
      · have b := (fm_becomes (u := 1) (v := 0) (c := c) (d := d) (by decide) (by decide) (by decide)).2 (by rw [zRd10]; unfold zLg; decide)
        rw [zRd10] at b
        unfold fX11_between0
        rw [c1, zb1_k, if_neg ne, zl_1, br, zl_0, zif_b0 w]
        unfold fX11_between0_J22
        rw [if_neg ne]
        unfold fX11_between0_J33
        rw [if_neg ne]
        unfold fX11_between0_J43
        rw [zl64_0, zl64_1, b]
        rfl
