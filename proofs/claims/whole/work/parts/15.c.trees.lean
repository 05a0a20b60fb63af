/-! trees: edges taken one by one, labels of what hangs together -/
def zmg (T : Nat → Nat) (fr to : Nat) : Nat → Nat := fun x => if T x = fr then to else T x
def zuf (a : Nat → Nat) (c : Nat) : Nat → Nat → (Nat → Nat) → Nat → (Nat → Nat) × Nat
  | 0, _, T, u => (T, u)
  | d + 1, j, T, u => if zbt c j = 1 ∧ T (eA a j) ≠ T (eB a j) then zuf a c d (j + 1) (zmg T (T (eB a j)) (T (eA a j))) (u ||| 2 ^ j) else zuf a c d (j + 1) T u
theorem zuf_y {a : Nat → Nat} {c d j u : Nat} {T : Nat → Nat} (q : zbt c j = 1) (w : T (eA a j) ≠ T (eB a j)) : zuf a c (d + 1) j T u = zuf a c d (j + 1) (zmg T (T (eB a j)) (T (eA a j))) (u ||| 2 ^ j) := if_pos ⟨q, w⟩
theorem zuf_n {a : Nat → Nat} {c d j u : Nat} {T : Nat → Nat} (h : ¬ (zbt c j = 1 ∧ T (eA a j) ≠ T (eB a j))) : zuf a c (d + 1) j T u = zuf a c d (j + 1) T u := if_neg h
def zc8' (n : Nat) : Nat := zbt n 0 + zbt n 1 + zbt n 2 + zbt n 3 + zbt n 4 + zbt n 5 + zbt n 6 + zbt n 7
def zrm (T : Nat → Nat) : Nat := zmask (fun x => decide (T x = x)) 6
theorem zrm_b {T : Nat → Nat} {x : Nat} (hx : x < 6) : zbt (zrm T) x = 1 ↔ T x = x := by
  unfold zrm
  rw [zmask_b]
  exact ⟨fun h => of_decide_eq_true h.2, fun h => ⟨hx, decide_eq_true h⟩⟩
theorem zrm_lt (T : Nat → Nat) : zrm T < 64 := zmask_lt _ 6
theorem zct_rm {f g fr : Nat} (hf : fr < 6) (h : ∀ i, i < 6 → i ≠ fr → zbt g i = zbt f i) (h1 : zbt f fr = 1) (h0 : zbt g fr = 0) : zct g + 1 = zct f := by
  unfold zct
  rcases (show fr = 0 ∨ fr = 1 ∨ fr = 2 ∨ fr = 3 ∨ fr = 4 ∨ fr = 5 by omega) with rfl | rfl | rfl | rfl | rfl | rfl
  · have := h 1 (by omega) (by omega); have := h 2 (by omega) (by omega); have := h 3 (by omega) (by omega); have := h 4 (by omega) (by omega); have := h 5 (by omega) (by omega); omega
  · have := h 0 (by omega) (by omega); have := h 2 (by omega) (by omega); have := h 3 (by omega) (by omega); have := h 4 (by omega) (by omega); have := h 5 (by omega) (by omega); omega
  · have := h 0 (by omega) (by omega); have := h 1 (by omega) (by omega); have := h 3 (by omega) (by omega); have := h 4 (by omega) (by omega); have := h 5 (by omega) (by omega); omega
  · have := h 0 (by omega) (by omega); have := h 1 (by omega) (by omega); have := h 2 (by omega) (by omega); have := h 4 (by omega) (by omega); have := h 5 (by omega) (by omega); omega
  · have := h 0 (by omega) (by omega); have := h 1 (by omega) (by omega); have := h 2 (by omega) (by omega); have := h 3 (by omega) (by omega); have := h 5 (by omega) (by omega); omega
  · have := h 0 (by omega) (by omega); have := h 1 (by omega) (by omega); have := h 2 (by omega) (by omega); have := h 3 (by omega) (by omega); have := h 4 (by omega) (by omega); omega
theorem zbt_e {m n i : Nat} (h : zbt m i = 1 ↔ zbt n i = 1) : zbt m i = zbt n i := by
  rcases zbt_c m i with p | p <;> rcases zbt_c n i with q | q
  · omega
  · have := h.mpr q; omega
  · have := h.mp p; omega
  · omega
theorem zc8_add {u j : Nat} (hj : j < 8) (h : ¬ zbt u j = 1) : zc8' (u ||| 2 ^ j) = zc8' u + 1 := by
  have e : ∀ i, i ≠ j → zbt (u ||| 2 ^ j) i = zbt u i := fun i hi => zbt_e (by
    rw [zbt_or, zbt_2]
    exact ⟨fun z => z.elim id (fun w => absurd w hi), fun z => Or.inl z⟩)
  have e1 : zbt (u ||| 2 ^ j) j = 1 := (zbt_or _ _ _).mpr (Or.inr ((zbt_2 j j).mpr rfl))
  have e0 : zbt u j = 0 := by rcases zbt_c u j with z | z; exact z; exact absurd z h
  unfold zc8'
  rcases (show j = 0 ∨ j = 1 ∨ j = 2 ∨ j = 3 ∨ j = 4 ∨ j = 5 ∨ j = 6 ∨ j = 7 by omega) with rfl | rfl | rfl | rfl | rfl | rfl | rfl | rfl
  · rw [e1, e0, e 1 (by omega), e 2 (by omega), e 3 (by omega), e 4 (by omega), e 5 (by omega), e 6 (by omega), e 7 (by omega)]; omega
  · rw [e1, e0, e 0 (by omega), e 2 (by omega), e 3 (by omega), e 4 (by omega), e 5 (by omega), e 6 (by omega), e 7 (by omega)]; omega
  · rw [e1, e0, e 1 (by omega), e 0 (by omega), e 3 (by omega), e 4 (by omega), e 5 (by omega), e 6 (by omega), e 7 (by omega)]; omega
  · rw [e1, e0, e 1 (by omega), e 2 (by omega), e 0 (by omega), e 4 (by omega), e 5 (by omega), e 6 (by omega), e 7 (by omega)]; omega
  · rw [e1, e0, e 1 (by omega), e 2 (by omega), e 3 (by omega), e 0 (by omega), e 5 (by omega), e 6 (by omega), e 7 (by omega)]; omega
  · rw [e1, e0, e 1 (by omega), e 2 (by omega), e 3 (by omega), e 4 (by omega), e 0 (by omega), e 6 (by omega), e 7 (by omega)]; omega
  · rw [e1, e0, e 1 (by omega), e 2 (by omega), e 3 (by omega), e 4 (by omega), e 5 (by omega), e 0 (by omega), e 7 (by omega)]; omega
  · rw [e1, e0, e 1 (by omega), e 2 (by omega), e 3 (by omega), e 4 (by omega), e 5 (by omega), e 6 (by omega), e 0 (by omega)]
theorem zc8_le {u c : Nat} (h : ∀ e, zbt u e = 1 → zbt c e = 1) : zc8' u ≤ zc8' c := by
  have l : ∀ i, zbt u i ≤ zbt c i := fun i => by
    rcases zbt_c u i with e | e
    · omega
    · rw [e, h i e]; exact Nat.le_refl _
  have := l 0; have := l 1; have := l 2; have := l 3; have := l 4; have := l 5; have := l 6; have := l 7
  unfold zc8'
  omega
theorem zc8_eq {u c : Nat} (h : ∀ e, zbt u e = 1 → zbt c e = 1) (hn : zc8' u = zc8' c) : ∀ e, e < 8 → zbt c e = 1 → zbt u e = 1 := by
  have l : ∀ i, zbt u i ≤ zbt c i := fun i => by
    rcases zbt_c u i with e | e
    · omega
    · rw [e, h i e]; exact Nat.le_refl _
  have := l 0; have := l 1; have := l 2; have := l 3; have := l 4; have := l 5; have := l 6; have := l 7
  unfold zc8' at hn
  intro e he hc
  rcases (show e = 0 ∨ e = 1 ∨ e = 2 ∨ e = 3 ∨ e = 4 ∨ e = 5 ∨ e = 6 ∨ e = 7 by omega) with rfl | rfl | rfl | rfl | rfl | rfl | rfl | rfl <;> omega
/-- what holds once the edges below j are taken -/
def zIv (a : Nat → Nat) (c j : Nat) (T : Nat → Nat) (u : Nat) : Prop := (∀ x, x < 6 → T x < 6 ∧ T (T x) = T x) ∧ zct (zrm T) + zc8' u = 6 ∧ (∀ g, (∀ e, e < j → zbt c e = 1 → (zbt g (eA a e) = 1 ↔ zbt g (eB a e) = 1)) → ∀ x y, x < 6 → y < 6 → T x = T y → (zbt g x = 1 ↔ zbt g y = 1)) ∧ (∀ e, e < j → zbt c e = 1 → T (eA a e) = T (eB a e)) ∧ (∀ e, zbt u e = 1 → e < j ∧ zbt c e = 1)
theorem zIv_0 (a : Nat → Nat) (c : Nat) : zIv a c 0 (fun x => x) 0 := by
  refine ⟨fun x hx => ⟨hx, rfl⟩, ?_, fun g _ x y _ _ e => ?_, fun e he => by omega, fun e he => absurd he (zbt_0 e)⟩
  · have : zrm (fun x => x) = 63 := by decide
    rw [this]
    decide
  · have e : x = y := e
    rw [e]
theorem zIv_s {a : Nat → Nat} {c : Nat} (hM : zMsh a) : ∀ d j T u, j + d = a 170 → zIv a c j T u → zIv a c (a 170) (zuf a c d j T u).1 (zuf a c d j T u).2
  | 0, j, T, u, hj, h => by
    rw [show a 170 = j by omega]
    exact h
  | d + 1, j, T, u, hj, h => by
    have hj2 : j < a 170 := by omega
    have hE := hM.2.2.2 j hj2
    have h6 := hM.2.1
    have h8 := hM.2.2.1
    have hA : eA a j < 6 := by show a (171 + 3 * j) < 6; omega
    have hB : eB a j < 6 := by show a (171 + 3 * j + 1) < 6; omega
    obtain ⟨i1, i3, i4, i5, i6⟩ := h
    by_cases q : zbt c j = 1
    · by_cases w : T (eA a j) ≠ T (eB a j)
      · rw [zuf_y q w]
        refine zIv_s hM d (j + 1) _ _ (by omega) ?_
        have a1 := i1 _ hA
        have b1 := i1 _ hB
        have mr : ∀ x, zmg T (T (eB a j)) (T (eA a j)) x = if T x = T (eB a j) then T (eA a j) else T x := fun x => rfl
        have root : ∀ x, x < 6 → (zmg T (T (eB a j)) (T (eA a j)) x = x ↔ T x = x ∧ x ≠ T (eB a j)) := fun x hx => by
          rw [mr]
          by_cases z : T x = T (eB a j)
          · rw [if_pos z]
            constructor
            · intro e
              exfalso
              apply w
              rw [← z, ← e, a1.2]
            · rintro ⟨e1, e2⟩
              exact absurd (e1.symm.trans z) e2
          · rw [if_neg z]
            constructor
            · intro e
              exact ⟨e, fun f => z (by rw [f, b1.2])⟩
            · exact fun e => e.1
        refine ⟨fun x hx => ?_, ?_, fun g hg x y hx hy e => ?_, fun e he hc => ?_, fun e he => ?_⟩
        · rw [mr]
          by_cases z : T x = T (eB a j)
          · rw [if_pos z, mr, a1.2, if_neg w]
            exact ⟨a1.1, rfl⟩
          · rw [if_neg z, mr, (i1 x hx).2, if_neg z]
            exact ⟨(i1 x hx).1, rfl⟩
        · have nu : ¬ zbt u j = 1 := fun z => by have := (i6 j z).1; omega
          rw [zc8_add (by omega) nu]
          have := zct_rm (f := zrm T) (g := zrm (zmg T (T (eB a j)) (T (eA a j)))) (fr := T (eB a j)) b1.1 (fun i hi hn => zbt_e (by
            rw [zrm_b hi, zrm_b hi, root i hi]
            exact ⟨fun z => z.1, fun z => ⟨z, hn⟩⟩)) ((zrm_b b1.1).mpr b1.2) (by
            rcases zbt_c (zrm (zmg T (T (eB a j)) (T (eA a j)))) (T (eB a j)) with z | z
            · exact z
            · exact absurd rfl ((root _ b1.1).mp ((zrm_b b1.1).mp z)).2)
          omega
        · have s := i4 g (fun e he hc => hg e (by omega) hc)
          have ab := hg j (by omega) q
          rw [mr, mr] at e
          by_cases z1 : T x = T (eB a j)
          · rw [if_pos z1] at e
            by_cases z2 : T y = T (eB a j)
            · exact s x y hx hy (z1.trans z2.symm)
            · rw [if_neg z2] at e
              exact (s x _ hx hB z1).trans (ab.symm.trans (s _ y hA hy e))
          · rw [if_neg z1] at e
            by_cases z2 : T y = T (eB a j)
            · rw [if_pos z2] at e
              exact (s x _ hx hA e).trans (ab.trans (s _ y hB hy z2.symm))
            · rw [if_neg z2] at e
              exact s x y hx hy e
        · rw [mr, mr]
          by_cases z : e = j
          · subst z
            rw [if_neg w, if_pos rfl]
          · rw [i5 e (by omega) hc]
        · rcases (zbt_or _ _ _).mp he with z | z
          · have := i6 e z
            exact ⟨by omega, this.2⟩
          · have := (zbt_2 _ _).mp z
            subst this
            exact ⟨by omega, q⟩
      · rw [zuf_n (fun z => w z.2)]
        refine zIv_s hM d (j + 1) _ _ (by omega) ⟨i1, i3, fun g hg => i4 g (fun e he hc => hg e (by omega) hc), fun e he hc => ?_, fun e he => ⟨by have := (i6 e he).1; omega, (i6 e he).2⟩⟩
        by_cases z : e = j
        · subst z; exact Decidable.of_not_not w
        · exact i5 e (by omega) hc
    · rw [zuf_n (fun z => q z.1)]
      refine zIv_s hM d (j + 1) _ _ (by omega) ⟨i1, i3, fun g hg => i4 g (fun e he hc => hg e (by omega) hc), fun e he hc => ?_, fun e he => ⟨by have := (i6 e he).1; omega, (i6 e he).2⟩⟩
      by_cases z : e = j
      · subst z; exact absurd hc q
      · exact i5 e (by omega) hc
abbrev zTl (a : Nat → Nat) (c : Nat) : Nat → Nat := (zuf a c (a 170) 0 (fun x => x) 0).1
abbrev zUl (a : Nat → Nat) (c : Nat) : Nat := (zuf a c (a 170) 0 (fun x => x) 0).2
theorem zTU {a : Nat → Nat} {c : Nat} (hM : zMsh a) : zIv a c (a 170) (zTl a c) (zUl a c) := zIv_s hM (a 170) 0 _ _ (by omega) (zIv_0 a c)
/-- what one comes to is what has one's label -/
theorem zre_T {a : Nat → Nat} {c p x : Nat} (hM : zMsh a) (hp : p < a 169) (hx : x < 6) : zbt (zre a p c) x = 1 ↔ zTl a c x = zTl a c p := by
  have h6 := hM.2.1
  obtain ⟨i1, i3, i4, i5, i6⟩ := zTU (c := c) hM
  constructor
  · intro h
    have hg : zclo a c (a 170) 0 (zmask (fun y => decide (zTl a c y = zTl a c p)) 6) := fun e _ he hc => by
      have hE := hM.2.2.2 e (by omega)
      have e5 := i5 e (by omega) hc
      rw [zmask_b, zmask_b]
      constructor
      · rintro ⟨_, z⟩
        exact ⟨by show a (171 + 3 * e + 1) < 6; omega, decide_eq_true (e5.symm.trans (of_decide_eq_true z))⟩
      · rintro ⟨_, z⟩
        exact ⟨by show a (171 + 3 * e) < 6; omega, decide_eq_true (e5.trans (of_decide_eq_true z))⟩
    have := zre_in hg ((zmask_b _ _ _).mpr ⟨by omega, decide_eq_true rfl⟩) x h
    exact of_decide_eq_true ((zmask_b _ _ _).mp this).2
  · intro h
    have cl := zre_clo (c := c) hM hp
    exact (i4 (zre a p c) (fun e he hc => cl e (Nat.zero_le _) (by omega) hc) x p hx (by omega) h).mpr zre_self
theorem zZ0 : ∀ R, R < 64 → ∀ P, P < 64 → (∀ x, x < 6 → ¬ zbt P x = 1 → zbt R x = 1) → zct (R &&& P) + 6 = zct R + zct P := by decide +kernel
def zZ1b : Bool := (List.range 64).all (fun S => (List.range 6).all (fun x => (List.range 6).all (fun y => !(zct S == 1 && zbt S x == 1 && zbt S y == 1) || x == y)))
theorem zZ1t : zZ1b = true := by decide +kernel
theorem zZ1 (S : Nat) (hS : S < 64) (h1 : zct S = 1) (x : Nat) (hx : x < 6) (y : Nat) (hy : y < 6) (h2 : zbt S x = 1) (h3 : zbt S y = 1) : x = y := by
  have := List.all_eq_true.mp (List.all_eq_true.mp (List.all_eq_true.mp zZ1t S (List.mem_range.mpr hS)) x (List.mem_range.mpr hx)) y (List.mem_range.mpr hy)
  rw [h1, h2, h3] at this
  simpa using this
def zZ2b : Bool := (List.range 64).all (fun S => (List.range 6).all (fun x => (List.range 6).all (fun y => (List.range 6).all (fun z => !(zct S == 2 && zbt S x == 1 && zbt S y == 1 && zbt S z == 1 && x != y) || (z == x || z == y)))))
theorem zZ2t : zZ2b = true := by decide +kernel
theorem zZ2 (S : Nat) (hS : S < 64) (h1 : zct S = 2) (x : Nat) (hx : x < 6) (y : Nat) (hy : y < 6) (z : Nat) (hz : z < 6) (h2 : zbt S x = 1) (h3 : zbt S y = 1) (h4 : zbt S z = 1) (h5 : x ≠ y) : z = x ∨ z = y := by
  have := List.all_eq_true.mp (List.all_eq_true.mp (List.all_eq_true.mp (List.all_eq_true.mp zZ2t S (List.mem_range.mpr hS)) x (List.mem_range.mpr hx)) y (List.mem_range.mpr hy)) z (List.mem_range.mpr hz)
  rw [h1, h2, h3, h4] at this
  simp [h5] at this
  exact this
theorem zZ3 : ∀ S, S < 64 → ∀ v, v < 6 → (∀ x, x < 6 → zbt S x = 1 → x = v) → zct S ≤ 1 := by decide +kernel
def zZ4b : Bool := (List.range 64).all (fun S => (List.range 6).all (fun v => (List.range 6).all (fun w => !((List.range 6).all (fun x => !(zbt S x == 1) || (x == v || x == w))) || decide (zct S ≤ 2))))
theorem zZ4t : zZ4b = true := by decide +kernel
theorem zZ4 (S : Nat) (hS : S < 64) (v : Nat) (hv : v < 6) (w : Nat) (hw : w < 6) (h : ∀ x, x < 6 → zbt S x = 1 → x = v ∨ x = w) : zct S ≤ 2 := by
  have := List.all_eq_true.mp (List.all_eq_true.mp (List.all_eq_true.mp zZ4t S (List.mem_range.mpr hS)) v (List.mem_range.mpr hv)) w (List.mem_range.mpr hw)
  have e : (List.range 6).all (fun x => !(zbt S x == 1) || (x == v || x == w)) = true := List.all_eq_true.mpr (fun x hx => by
    by_cases q : zbt S x = 1
    · have := h x (List.mem_range.mp hx) q
      rw [q]
      simpa using this
    · simp [q])
  rw [e] at this
  simpa using this
theorem zZ5 : ∀ S, S < 64 → ∀ x, x < 6 → zbt S x = 1 → 1 ≤ zct S := by decide +kernel
/-- an island: closed under the edges in play, which lie on it -/
def zIs2 (a : Nat → Nat) (P IP : Nat) : Prop := P < 64 ∧ (∀ e, e < a 170 → zbt IP e = 1 → zbt P (eA a e) = 1 ∧ zbt P (eB a e) = 1)
theorem zroots {a : Nat → Nat} {c P IP : Nat} (hM : zMsh a) (hI : zIs2 a P IP) (hc : ∀ e, zbt c e = 1 → zbt IP e = 1) : zct (zrm (zTl a c) &&& P) + zc8' (zUl a c) = zct P ∧ (∀ x, x < 6 → zbt P x = 1 → zbt (zrm (zTl a c) &&& P) (zTl a c x) = 1) := by
  obtain ⟨i1, i3, i4, i5, i6⟩ := zTU (c := c) hM
  have h6 := hM.2.1
  have out : ∀ x, x < 6 → ¬ zbt P x = 1 → zbt (zrm (zTl a c)) x = 1 := fun x hx hn => by
    rw [zrm_b hx]
    have s := i4 (2 ^ x) (fun e he he2 => by
      have := hI.2 e he (hc e he2)
      rw [zbt_2, zbt_2]
      constructor
      · intro z; rw [z] at this; exact absurd this.1 hn
      · intro z; rw [z] at this; exact absurd this.2 hn) x (zTl a c x) hx (i1 x hx).1 (i1 x hx).2.symm
    exact (zbt_2 _ _).mp (s.mp ((zbt_2 x x).mpr rfl))
  have := zZ0 _ (zrm_lt (zTl a c)) P hI.1 out
  refine ⟨by omega, fun x hx hP => ?_⟩
  rw [zbt_and, zrm_b (i1 x hx).1]
  refine ⟨(i1 x hx).2, ?_⟩
  exact (i4 P (fun e he he2 => by
    have := hI.2 e he (hc e he2)
    exact ⟨fun _ => this.2, fun _ => this.1⟩) x (zTl a c x) hx (i1 x hx).1 (i1 x hx).2.symm).mp hP
theorem zre_P {a : Nat → Nat} {c P IP p : Nat} (hI : zIs2 a P IP) (hc : ∀ e, zbt c e = 1 → zbt IP e = 1) (hp : zbt P p = 1) : ∀ i, zbt (zre a p c) i = 1 → zbt P i = 1 :=
  zre_in (fun e _ he hce => by
    have := hI.2 e (by omega) (hc e hce)
    exact ⟨fun _ => this.2, fun _ => this.1⟩) hp
theorem zE1 {a : Nat → Nat} {c P IP p : Nat} (hM : zMsh a) (hI : zIs2 a P IP) (hc : ∀ e, zbt c e = 1 → zbt IP e = 1) (hp : p < a 169) (hpP : zbt P p = 1) (hn : zc8' c + 1 = zct P) : zc8' (zUl a c) = zc8' c ↔ zre a p c = P := by
  obtain ⟨i1, i3, i4, i5, i6⟩ := id (zTU (c := c) hM)
  have h6 := hM.2.1
  obtain ⟨r1, r2⟩ := zroots hM hI hc
  have le := zc8_le (u := zUl a c) (c := c) (fun e he => (i6 e he).2)
  have lS : zrm (zTl a c) &&& P < 64 := Nat.lt_of_le_of_lt Nat.and_le_left (zrm_lt _)
  constructor
  · intro hf
    refine zext (k := 6) (zre_lt hM hp) hI.1 (fun x hx => ⟨zre_P hI hc hpP x, fun hP => ?_⟩)
    rw [zre_T hM hp hx]
    exact zZ1 _ lS (by omega) _ (i1 x hx).1 _ (i1 p (by omega)).1 (r2 x hx hP) (r2 p (by omega) hpP)
  · intro he
    have := zZ3 _ lS (zTl a c p) (i1 p (by omega)).1 (fun x hx hb => by
      have hb := (zbt_and _ _ _).mp hb
      have e1 := (zrm_b hx).mp hb.1
      rw [← he] at hb
      rw [← (zre_T hM hp hx).mp hb.2, e1])
    omega
theorem zE2 {a : Nat → Nat} {c P IP p q : Nat} (hM : zMsh a) (hI : zIs2 a P IP) (hc : ∀ e, zbt c e = 1 → zbt IP e = 1) (hp : p < a 169) (hq : q < a 169) (hpP : zbt P p = 1) (hqP : zbt P q = 1) (hn : zc8' c + 2 = zct P) : (zc8' (zUl a c) = zc8' c ∧ zTl a c p ≠ zTl a c q) ↔ (¬ zbt (zre a p c) q = 1 ∧ zre a p c ||| zre a q c = P) := by
  obtain ⟨i1, i3, i4, i5, i6⟩ := id (zTU (c := c) hM)
  have h6 := hM.2.1
  obtain ⟨r1, r2⟩ := zroots hM hI hc
  have le := zc8_le (u := zUl a c) (c := c) (fun e he => (i6 e he).2)
  have lS : zrm (zTl a c) &&& P < 64 := Nat.lt_of_le_of_lt Nat.and_le_left (zrm_lt _)
  have ti := zre_T (c := c) (x := q) hM hp (by omega)
  constructor
  · rintro ⟨hf, hne⟩
    refine ⟨fun z => hne (ti.mp z).symm, ?_⟩
    refine zext (k := 6) (Nat.or_lt_two_pow (n := 6) (zre_lt hM hp) (zre_lt hM hq)) hI.1 (fun x hx => ?_)
    rw [zbt_or]
    constructor
    · rintro (z | z)
      · exact zre_P hI hc hpP x z
      · exact zre_P hI hc hqP x z
    · intro hP
      rw [zre_T hM hp hx, zre_T hM hq hx]
      exact zZ2 _ lS (by omega) _ (i1 p (by omega)).1 _ (i1 q (by omega)).1 _ (i1 x hx).1 (r2 p (by omega) hpP) (r2 q (by omega) hqP) (r2 x hx hP) hne
  · rintro ⟨hnq, he⟩
    have := zZ4 _ lS (zTl a c p) (i1 p (by omega)).1 (zTl a c q) (i1 q (by omega)).1 (fun x hx hb => by
      have hb := (zbt_and _ _ _).mp hb
      have e1 := (zrm_b hx).mp hb.1
      rw [← he] at hb
      rcases (zbt_or _ _ _).mp hb.2 with z | z
      · left; rw [← (zre_T hM hp hx).mp z, e1]
      · right; rw [← (zre_T hM hq hx).mp z, e1])
    exact ⟨by omega, fun z => hnq (ti.mpr z.symm)⟩
/-- the edges that were taken are taken alone, too -/
theorem zuf_up {a : Nat → Nat} {c : Nat} : ∀ d j T u e, zbt u e = 1 → zbt (zuf a c d j T u).2 e = 1
  | 0, _, _, _, _, h => h
  | d + 1, j, T, u, e, h => by
    by_cases q : zbt c j = 1 ∧ T (eA a j) ≠ T (eB a j)
    · rw [zuf_y q.1 q.2]
      exact zuf_up d _ _ _ e ((zbt_or _ _ _).mpr (Or.inl h))
    · rw [zuf_n q]
      exact zuf_up d _ _ _ e h
theorem zuf_lo {a : Nat → Nat} {c : Nat} : ∀ d j T u e, e < j → zbt (zuf a c d j T u).2 e = 1 → zbt u e = 1
  | 0, _, _, _, _, _, h => h
  | d + 1, j, T, u, e, he, h => by
    by_cases q : zbt c j = 1 ∧ T (eA a j) ≠ T (eB a j)
    · rw [zuf_y q.1 q.2] at h
      rcases (zbt_or _ _ _).mp (zuf_lo d _ _ _ e (by omega) h) with z | z
      · exact z
      · have := (zbt_2 _ _).mp z
        omega
    · rw [zuf_n q] at h
      exact zuf_lo d _ _ _ e (by omega) h
theorem zuf_self {a : Nat → Nat} {c c0 : Nat} : ∀ d j T u, (∀ e, zbt u e = 1 → e < j) → (∀ e, j ≤ e → e < j + d → (zbt c0 e = 1 ↔ zbt (zuf a c d j T u).2 e = 1)) → zuf a c0 d j T u = zuf a c d j T u
  | 0, _, _, _, _, _ => rfl
  | d + 1, j, T, u, hu, h => by
    by_cases q : zbt c j = 1 ∧ T (eA a j) ≠ T (eB a j)
    · rw [zuf_y q.1 q.2] at h ⊢
      have hj : zbt c0 j = 1 := (h j (Nat.le_refl _) (by omega)).mpr (zuf_up d _ _ _ j ((zbt_or _ _ _).mpr (Or.inr ((zbt_2 j j).mpr rfl))))
      rw [zuf_y hj q.2]
      exact zuf_self d (j + 1) _ _ (fun e he => by
        rcases (zbt_or _ _ _).mp he with z | z
        · have := hu e z; omega
        · have := (zbt_2 _ _).mp z; omega) (fun e h1 h2 => h e (by omega) (by omega))
    · rw [zuf_n q] at h ⊢
      have hj : ¬ zbt c0 j = 1 := fun z => by
        have := hu j (zuf_lo d _ _ _ j (by omega) ((h j (Nat.le_refl _) (by omega)).mp z))
        omega
      rw [zuf_n (fun z => hj z.1)]
      exact zuf_self d (j + 1) _ _ (fun e he => by have := hu e he; omega) (fun e h1 h2 => h e (by omega) (by omega))
/-- a tree over the whole island, where one comes to all of it -/
theorem zspan {a : Nat → Nat} {P IP p : Nat} (hM : zMsh a) (hI : zIs2 a P IP) (hp : p < a 169) (hpP : zbt P p = 1) (hall : zre a p IP = P) : (∀ e, zbt (zUl a IP) e = 1 → e < a 170 ∧ zbt IP e = 1) ∧ zc8' (zUl a IP) + 1 = zct P ∧ zc8' (zUl a (zUl a IP)) = zc8' (zUl a IP) := by
  obtain ⟨i1, i3, i4, i5, i6⟩ := id (zTU (c := IP) hM)
  have h6 := hM.2.1
  obtain ⟨r1, r2⟩ := zroots (c := IP) hM hI (fun e he => he)
  have lS : zrm (zTl a IP) &&& P < 64 := Nat.lt_of_le_of_lt Nat.and_le_left (zrm_lt _)
  have u1 := zZ3 _ lS (zTl a IP p) (i1 p (by omega)).1 (fun x hx hb => by
    have hb := (zbt_and _ _ _).mp hb
    have e1 := (zrm_b hx).mp hb.1
    rw [← hall] at hb
    rw [← (zre_T hM hp hx).mp hb.2, e1])
  have u2 := zZ5 _ lS _ (i1 p (by omega)).1 (r2 p (by omega) hpP)
  refine ⟨i6, by omega, ?_⟩
  have := zuf_self (a := a) (c := IP) (c0 := zUl a IP) (a 170) 0 (fun x => x) 0 (fun e he => absurd he (zbt_0 e)) (fun e _ _ => Iff.rfl)
  show zc8' (zuf a (zUl a IP) (a 170) 0 (fun x => x) 0).2 = _
  rw [this]
