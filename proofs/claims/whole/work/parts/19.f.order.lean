/-! in order: merging, block by block -/
theorem zwrg_m : ∀ (n s x : Nat), x ∈ zwrg s n ↔ s ≤ x ∧ x < s + n
  | 0, s, x => ⟨fun h => (by cases h), fun h => (by omega)⟩
  | n + 1, s, x => by
    have ih := zwrg_m n (s + 1) x
    show x ∈ s :: zwrg (s + 1) n ↔ _
    rw [List.mem_cons, ih]
    omega
theorem zwrg_l : ∀ (n s : Nat), (zwrg s n).length = n
  | 0, _ => rfl
  | n + 1, s => by
    show (s :: zwrg (s + 1) n).length = n + 1
    rw [List.length_cons, zwrg_l n (s + 1)]
theorem zwrg_n : ∀ (n s : Nat), (zwrg s n).Pairwise (fun x y => x ≠ y)
  | 0, _ => List.Pairwise.nil
  | n + 1, s => by
    show (s :: zwrg (s + 1) n).Pairwise (fun x y => x ≠ y)
    refine List.pairwise_cons.mpr ⟨fun y hy => ?_, zwrg_n n (s + 1)⟩
    have := (zwrg_m n (s + 1) y).mp hy
    omega
theorem zwtk {α : Type} : ∀ (A B : List α), (A ++ B).take A.length = A ∧ (A ++ B).drop A.length = B
  | [], _ => ⟨rfl, rfl⟩
  | a :: A, B => ⟨congrArg (fun t => a :: t) (zwtk A B).1, (zwtk A B).2⟩
theorem zwtl {α : Type} : ∀ (L : List α) (n : Nat), L.length ≤ n → L.take n = L ∧ L.drop n = []
  | [], 0, _ => ⟨rfl, rfl⟩
  | [], _ + 1, _ => ⟨rfl, rfl⟩
  | _ :: _, 0, h => by
    rw [List.length_cons] at h
    omega
  | a :: L, n + 1, h => by
    rw [List.length_cons] at h
    have := zwtl L n (by omega)
    exact ⟨congrArg (fun t => a :: t) this.1, this.2⟩
def zwm (lt : Nat → Nat → Bool) : Nat → List Nat → List Nat → List Nat
  | 0, _, _ => []
  | _ + 1, [], [] => []
  | f + 1, a :: A, [] => a :: zwm lt f A []
  | f + 1, [], b :: B => b :: zwm lt f [] B
  | f + 1, a :: A, b :: B => if lt a b = true then a :: zwm lt f A (b :: B) else b :: zwm lt f (a :: A) B
theorem zwm_p (lt : Nat → Nat → Bool) : ∀ (f : Nat) (A B : List Nat), A.length + B.length = f → (zwm lt f A B).Perm (A ++ B)
  | 0, [], [], _ => List.Perm.refl _
  | 0, _ :: _, _, h => by rw [List.length_cons] at h; omega
  | 0, [], _ :: _, h => by rw [List.length_cons] at h; omega
  | _ + 1, [], [], h => by simp only [List.length_nil] at h; omega
  | f + 1, a :: A, [], h => by
    rw [List.length_cons] at h
    exact List.Perm.cons a (zwm_p lt f A [] (by omega))
  | f + 1, [], b :: B, h => by
    rw [List.length_cons] at h
    exact List.Perm.cons b (zwm_p lt f [] B (by omega))
  | f + 1, a :: A, b :: B, h => by
    rw [List.length_cons, List.length_cons] at h
    unfold zwm
    by_cases c : lt a b = true
    · rw [if_pos c]
      exact List.Perm.cons a (zwm_p lt f A (b :: B) (by rw [List.length_cons]; omega))
    · rw [if_neg c]
      exact (List.Perm.cons b (zwm_p lt f (a :: A) B (by rw [List.length_cons]; omega))).trans List.perm_middle.symm
/-- what the order is like: not less backwards -/
def zwSo (lt : Nat → Nat → Bool) (L : List Nat) : Prop := L.Pairwise (fun i j => lt j i = false)
def zwTr (lt : Nat → Nat → Bool) (V : Nat → Prop) : Prop := (∀ a b c, V a → V b → V c → lt b a = false → lt c b = false → lt c a = false) ∧ ∀ a b, lt a b = true → lt b a = false
theorem zwm_s {lt : Nat → Nat → Bool} {V : Nat → Prop} (h : zwTr lt V) : ∀ (f : Nat) (A B : List Nat), A.length + B.length = f → (∀ x, x ∈ A → V x) → (∀ x, x ∈ B → V x) → zwSo lt A → zwSo lt B → zwSo lt (zwm lt f A B)
  | 0, _, _, _, _, _, _, _ => List.Pairwise.nil
  | _ + 1, [], [], _, _, _, _, _ => List.Pairwise.nil
  | f + 1, a :: A, [], hl, hA, hB, sA, sB => by
    rw [List.length_cons] at hl
    have sA := List.pairwise_cons.mp sA
    refine List.pairwise_cons.mpr ⟨fun x hx => ?_, zwm_s h f A [] (by omega) (fun x hx => hA x (List.mem_cons_of_mem _ hx)) hB sA.2 sB⟩
    have := (zwm_p lt f A [] (by omega)).mem_iff.mp hx
    rw [List.append_nil] at this
    exact sA.1 x this
  | f + 1, [], b :: B, hl, hA, hB, sA, sB => by
    rw [List.length_cons] at hl
    have sB := List.pairwise_cons.mp sB
    refine List.pairwise_cons.mpr ⟨fun x hx => ?_, zwm_s h f [] B (by omega) hA (fun x hx => hB x (List.mem_cons_of_mem _ hx)) sA sB.2⟩
    have := (zwm_p lt f [] B (by omega)).mem_iff.mp hx
    rw [List.nil_append] at this
    exact sB.1 x this
  | f + 1, a :: A, b :: B, hl, hA, hB, sA, sB => by
    rw [List.length_cons, List.length_cons] at hl
    have qA := List.pairwise_cons.mp sA
    have qB := List.pairwise_cons.mp sB
    have va := hA a List.mem_cons_self
    have vb := hB b List.mem_cons_self
    have hA' : ∀ x, x ∈ A → V x := fun x hx => hA x (List.mem_cons_of_mem _ hx)
    have hB' : ∀ x, x ∈ B → V x := fun x hx => hB x (List.mem_cons_of_mem _ hx)
    unfold zwm
    by_cases c : lt a b = true
    · rw [if_pos c]
      have hl' : A.length + (b :: B).length = f := by rw [List.length_cons]; omega
      refine List.pairwise_cons.mpr ⟨fun x hx => ?_, zwm_s h f A (b :: B) hl' hA' hB qA.2 sB⟩
      rcases List.mem_append.mp ((zwm_p lt f A (b :: B) hl').mem_iff.mp hx) with hx | hx
      · exact qA.1 x hx
      · rcases List.mem_cons.mp hx with rfl | hx
        · exact h.2 a x c
        · exact h.1 a b x va vb (hB' x hx) (h.2 a b c) (qB.1 x hx)
    · rw [if_neg c]
      have c : lt a b = false := eq_false_of_ne_true c
      have hl' : (a :: A).length + B.length = f := by rw [List.length_cons]; omega
      refine List.pairwise_cons.mpr ⟨fun x hx => ?_, zwm_s h f (a :: A) B hl' hA hB' sA qB.2⟩
      rcases List.mem_append.mp ((zwm_p lt f (a :: A) B hl').mem_iff.mp hx) with hx | hx
      · rcases List.mem_cons.mp hx with rfl | hx
        · exact c
        · exact h.1 b a x vb va (hA' x hx) c (qA.1 x hx)
      · exact qB.1 x hx
def zwblk (lt : Nat → Nat → Bool) (w : Nat) (L : List Nat) : List Nat := zwm lt ((L.take w).length + ((L.drop w).take w).length) (L.take w) ((L.drop w).take w)
def zwps (lt : Nat → Nat → Bool) (w : Nat) : Nat → List Nat → List Nat
  | 0, _ => []
  | f + 1, L => if L = [] then [] else zwblk lt w L ++ zwps lt w f ((L.drop w).drop w)
theorem zwps_n (lt : Nat → Nat → Bool) (w : Nat) : ∀ f, zwps lt w f [] = []
  | 0 => rfl
  | _ + 1 => if_pos rfl
theorem zwblk_p (lt : Nat → Nat → Bool) (w : Nat) (L : List Nat) : (zwblk lt w L).Perm (L.take w ++ (L.drop w).take w) := zwm_p lt _ _ _ rfl
theorem zwps_p (lt : Nat → Nat → Bool) {w : Nat} (hw : 1 ≤ w) : ∀ (f : Nat) (L : List Nat), L.length ≤ f → (zwps lt w f L).Perm L
  | 0, [], _ => List.Perm.refl _
  | 0, _ :: _, h => by rw [List.length_cons] at h; omega
  | f + 1, L, h => by
    unfold zwps
    by_cases c : L = []
    · rw [if_pos c, c]
    · rw [if_neg c]
      have hp : 0 < L.length := List.length_pos_iff.mpr c
      have ih := zwps_p lt hw f ((L.drop w).drop w) (by rw [List.length_drop, List.length_drop]; omega)
      have e : L = L.take w ++ ((L.drop w).take w ++ (L.drop w).drop w) := by rw [List.take_append_drop, List.take_append_drop]
      refine ((zwblk_p lt w L).append ih).trans ?_
      rw [List.append_assoc, ← e]
def zwSbF (lt : Nat → Nat → Bool) (w : Nat) : Nat → List Nat → Prop
  | 0, _ => True
  | f + 1, L => zwSo lt (L.take w) ∧ zwSbF lt w f (L.drop w)
theorem zwSbF_n (lt : Nat → Nat → Bool) (w : Nat) : ∀ f, zwSbF lt w f []
  | 0 => trivial
  | f + 1 => by
    have e := zwtl ([] : List Nat) w (Nat.zero_le _)
    show zwSo lt (([] : List Nat).take w) ∧ zwSbF lt w f (([] : List Nat).drop w)
    rw [e.1, e.2]
    exact ⟨List.Pairwise.nil, zwSbF_n lt w f⟩
theorem zwSb_1 (lt : Nat → Nat → Bool) : ∀ (f : Nat) (L : List Nat), zwSbF lt 1 f L
  | 0, _ => trivial
  | f + 1, [] => zwSbF_n lt 1 (f + 1)
  | f + 1, a :: L => ⟨List.pairwise_cons.mpr ⟨fun x hx => (by cases hx), List.Pairwise.nil⟩, zwSb_1 lt f L⟩
theorem zwps_s {lt : Nat → Nat → Bool} {V : Nat → Prop} (h : zwTr lt V) {w : Nat} (hw : 1 ≤ w) : ∀ (f g : Nat) (L : List Nat), L.length ≤ g → (∀ x, x ∈ L → V x) → (∀ k, zwSbF lt w k L) → zwSbF lt (2 * w) f (zwps lt w g L)
  | 0, _, _, _, _, _ => trivial
  | f + 1, 0, L, hg, _, _ => zwSbF_n lt (2 * w) (f + 1)
  | f + 1, g + 1, L, hg, hV, hs => by
    by_cases c : L = []
    · rw [c, zwps_n]
      exact zwSbF_n lt (2 * w) (f + 1)
    have hp : 0 < L.length := List.length_pos_iff.mpr c
    have e : L = L.take w ++ ((L.drop w).take w ++ (L.drop w).drop w) := by rw [List.take_append_drop, List.take_append_drop]
    have e0 : zwps lt w (g + 1) L = zwblk lt w L ++ zwps lt w g ((L.drop w).drop w) := if_neg c
    have V1 : ∀ x, x ∈ L.take w → V x := fun x hx => hV x (by rw [e]; exact List.mem_append_left _ hx)
    have V2 : ∀ x, x ∈ (L.drop w).take w → V x := fun x hx => hV x (by rw [e]; exact List.mem_append_right _ (List.mem_append_left _ hx))
    have V3 : ∀ x, x ∈ (L.drop w).drop w → V x := fun x hx => hV x (by rw [e]; exact List.mem_append_right _ (List.mem_append_right _ hx))
    have s1 : zwSo lt (zwblk lt w L) := zwm_s h _ _ _ rfl V1 V2 (hs 2).1 (hs 2).2.1
    have lb : (zwblk lt w L).length = min w L.length + min w (L.length - w) := by
      rw [(zwblk_p lt w L).length_eq, List.length_append, List.length_take, List.length_take, List.length_drop]
    have l3 : ((L.drop w).drop w).length = L.length - w - w := by rw [List.length_drop, List.length_drop]
    have ih := zwps_s h hw f g ((L.drop w).drop w) (by omega) V3 (fun k => (hs (k + 2)).2.2)
    rw [e0]
    by_cases z : 2 * w ≤ L.length
    · have lb2 : (zwblk lt w L).length = 2 * w := by omega
      have t := zwtk (zwblk lt w L) (zwps lt w g ((L.drop w).drop w))
      rw [lb2] at t
      show zwSo lt ((zwblk lt w L ++ zwps lt w g ((L.drop w).drop w)).take (2 * w)) ∧ zwSbF lt (2 * w) f ((zwblk lt w L ++ zwps lt w g ((L.drop w).drop w)).drop (2 * w))
      rw [t.1, t.2]
      exact ⟨s1, ih⟩
    · have n3 : (L.drop w).drop w = [] := List.eq_nil_of_length_eq_zero (by omega)
      rw [n3, zwps_n, List.append_nil]
      have t := zwtl (zwblk lt w L) (2 * w) (by omega)
      show zwSo lt ((zwblk lt w L).take (2 * w)) ∧ zwSbF lt (2 * w) f ((zwblk lt w L).drop (2 * w))
      rw [t.1, t.2]
      exact ⟨s1, zwSbF_n lt (2 * w) f⟩
/-- how many are less than one of a row in order -/
def zwct (lt : Nat → Nat → Bool) (x : Nat) : List Nat → Nat
  | [] => 0
  | y :: L => (if lt y x = true then 1 else 0) + zwct lt x L
theorem zwct_p (lt : Nat → Nat → Bool) (x : Nat) {L M : List Nat} (h : L.Perm M) : zwct lt x L = zwct lt x M := by
  induction h with
  | nil => rfl
  | cons y _ ih => exact congrArg (fun t => (if lt y x = true then 1 else 0) + t) ih
  | swap y z L =>
    show (if lt z x = true then 1 else 0) + ((if lt y x = true then 1 else 0) + zwct lt x L) = (if lt y x = true then 1 else 0) + ((if lt z x = true then 1 else 0) + zwct lt x L)
    omega
  | trans _ _ h1 h2 => exact h1.trans h2
theorem zwct_0 {lt : Nat → Nat → Bool} {x : Nat} : ∀ (L : List Nat), (∀ y, y ∈ L → lt y x = false) → zwct lt x L = 0
  | [], _ => rfl
  | y :: L, h => by
    show (if lt y x = true then 1 else 0) + zwct lt x L = 0
    rw [h y List.mem_cons_self, if_neg Bool.false_ne_true, zwct_0 L (fun z hz => h z (List.mem_cons_of_mem _ hz))]
theorem zwct_k {lt : Nat → Nat → Bool} (hx : ∀ x, lt x x = false) (has : ∀ a b, lt a b = true → lt b a = false) : ∀ (S : List Nat), S.Pairwise (fun i j => lt i j = true) → ∀ (k x : Nat), S[k]? = some x → zwct lt x S = k
  | [], _, k, x, h => by cases h
  | y :: S, hs, 0, x, h => by
    have e : y = x := Option.some.inj h
    subst e
    have q := List.pairwise_cons.mp hs
    show (if lt y y = true then 1 else 0) + zwct lt y S = 0
    rw [hx y, if_neg Bool.false_ne_true, zwct_0 S (fun z hz => has y z (q.1 z hz))]
  | y :: S, hs, k + 1, x, h => by
    have h : S[k]? = some x := h
    have q := List.pairwise_cons.mp hs
    have hm : x ∈ S := List.mem_iff_getElem?.mpr ⟨k, h⟩
    show (if lt y x = true then 1 else 0) + zwct lt x S = k + 1
    rw [if_pos (q.1 x hm), zwct_k hx has S q.2 k x h]
    omega
theorem zwpl {lt : Nat → Nat → Bool} {V : Nat → Prop} (h : ∀ a b, V a → V b → a ≠ b → lt b a = false → lt a b = true) : ∀ (S : List Nat), (∀ x, x ∈ S → V x) → S.Pairwise (fun x y => x ≠ y) → zwSo lt S → S.Pairwise (fun i j => lt i j = true)
  | [], _, _, _ => List.Pairwise.nil
  | a :: S, hV, h1, h2 => by
    have q1 := List.pairwise_cons.mp h1
    have q2 := List.pairwise_cons.mp h2
    exact List.pairwise_cons.mpr ⟨fun b hb => h a b (hV a List.mem_cons_self) (hV b (List.mem_cons_of_mem _ hb)) (q1.1 b hb) (q2.1 b hb), zwpl h S (fun x hx => hV x (List.mem_cons_of_mem _ hx)) q1.2 q2.2⟩
theorem zwne_p {L M : List Nat} (h : L.Perm M) (k : L.Pairwise (fun x y => x ≠ y)) : M.Pairwise (fun x y => x ≠ y) := by
  induction h with
  | nil => exact k
  | cons y p ih =>
    have q := List.pairwise_cons.mp k
    exact List.pairwise_cons.mpr ⟨fun z hz => q.1 z (p.mem_iff.mpr hz), ih q.2⟩
  | swap y z L =>
    have q := List.pairwise_cons.mp k
    have r := List.pairwise_cons.mp q.2
    refine List.pairwise_cons.mpr ⟨fun x hx => ?_, List.pairwise_cons.mpr ⟨fun x hx => q.1 x (List.mem_cons_of_mem _ hx), r.2⟩⟩
    rcases List.mem_cons.mp hx with rfl | hx
    · exact fun e => q.1 y List.mem_cons_self e.symm
    · exact r.1 x hx
  | trans _ _ h1 h2 => exact h2 (h1 k)
/-! values compared -/
theorem zwls_v {o : Nat → Nat} (ho : ∀ s, s < 4 → o s ≤ 99) {i : Nat} (hi : i < zwb o 5) : ∃ e, (zwF o)[i]? = some e ∧ zwv (zwF o) i = e.1 ∧ zwB 96059601 3881196 e.1 := by
  obtain ⟨e, he⟩ := zwF_g ho hi
  exact ⟨e, he, zwv_e he, zwF_b ho he⟩
theorem zwls_tr {o : Nat → Nat} (ho : ∀ s, s < 4 → o s ≤ 99) : zwTr (zwls o) (fun x => x < zwb o 5) := by
  refine ⟨fun a b c va vb vc h1 h2 => ?_, fun a b h => ?_⟩
  · obtain ⟨e1, _, w1, b1⟩ := zwls_v ho va
    obtain ⟨e2, _, w2, b2⟩ := zwls_v ho vb
    obtain ⟨e3, _, w3, b3⟩ := zwls_v ho vc
    unfold zwls at h1 h2 ⊢
    rw [w1, w2] at h1
    rw [w2, w3] at h2
    rw [w1, w3]
    have h1 := of_decide_eq_false h1
    have h2 := of_decide_eq_false h2
    apply decide_eq_false
    intro h3
    have h1 := Nat.le_of_not_lt h1
    have h2 := Nat.le_of_not_lt h2
    have m1 := Nat.mul_le_mul_right e3.1.2 h1
    have m2 := Nat.mul_le_mul_right e1.1.2 h2
    have m3 := Nat.mul_lt_mul_of_pos_right h3 b2.2.2.1
    have r1 : e1.1.1 * e2.1.2 * e3.1.2 = e1.1.1 * e3.1.2 * e2.1.2 := Nat.mul_right_comm _ _ _
    have r2 : e2.1.1 * e1.1.2 * e3.1.2 = e2.1.1 * e3.1.2 * e1.1.2 := Nat.mul_right_comm _ _ _
    have r3 : e3.1.1 * e2.1.2 * e1.1.2 = e3.1.1 * e1.1.2 * e2.1.2 := Nat.mul_right_comm _ _ _
    omega
  · unfold zwls at h ⊢
    have h := of_decide_eq_true h
    exact decide_eq_false (by omega)
theorem zwls_x (o : Nat → Nat) (x : Nat) : zwls o x x = false := by
  unfold zwls
  exact decide_eq_false (Nat.lt_irrefl _)
theorem zwls_ne {o : Nat → Nat} (ho : ∀ s, s < 4 → o s ≤ 99) {a b : Nat} (va : a < zwb o 5) (vb : b < zwb o 5) (hn : a ≠ b) (h : zwls o b a = false) : zwls o a b = true := by
  obtain ⟨e1, f1, w1, b1⟩ := zwls_v ho va
  obtain ⟨e2, f2, w2, b2⟩ := zwls_v ho vb
  unfold zwls at h ⊢
  rw [w1, w2] at h ⊢
  have h := Nat.le_of_not_lt (of_decide_eq_false h)
  apply decide_eq_true
  rcases Nat.lt_or_ge (e1.1.1 * e2.1.2) (e2.1.1 * e1.1.2) with z | z
  · exact z
  · exfalso
    apply hn
    apply zwF_ne ho f1 f2
    have q : e1.1.1 * e2.1.2 = e2.1.1 * e1.1.2 := by omega
    have c1 : e1.1.1 ∣ e2.1.1 := Nat.Coprime.dvd_of_dvd_mul_right (k := e1.1.1) (n := e1.1.2) b1.2.2.2.2 ⟨e2.1.2, q.symm⟩
    have c2 : e2.1.1 ∣ e1.1.1 := Nat.Coprime.dvd_of_dvd_mul_right (k := e2.1.1) (n := e2.1.2) b2.2.2.2.2 ⟨e1.1.2, q⟩
    have u : e1.1.1 = e2.1.1 := Nat.dvd_antisymm c1 c2
    rw [← u] at q
    exact Prod.ext u (Nat.eq_of_mul_eq_mul_left b1.1 q).symm
