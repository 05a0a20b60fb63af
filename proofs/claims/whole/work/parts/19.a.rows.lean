/-! what few parts reach: the rows as a list, each with its value, how it is made, of which two -/
abbrev zwE : Type := (Nat × Nat) × Nat × Nat × Nat
def zwh (l : List zwE) (p : Nat × Nat) : Bool := l.any (fun e => decide (e.1 = p))
theorem zwgl {l : List zwE} {i : Nat} {e : zwE} (h : l[i]? = some e) : i < l.length := (List.getElem?_eq_some_iff.mp h).1
theorem zwget {l : List zwE} {i : Nat} (h : i < l.length) : ∃ e, l[i]? = some e := ⟨l[i], List.getElem?_eq_getElem h⟩
theorem zwh_t {l : List zwE} {p : Nat × Nat} (h : zwh l p = true) : ∃ (i : Nat) (e : zwE), l[i]? = some e ∧ e.1 = p := by
  unfold zwh at h
  obtain ⟨e, h1, h2⟩ := List.any_eq_true.mp h
  obtain ⟨i, hi⟩ := List.mem_iff_getElem?.mp h1
  exact ⟨i, e, hi, of_decide_eq_true h2⟩
theorem zwh_i {l : List zwE} {i : Nat} {e : zwE} (h : l[i]? = some e) : zwh l e.1 = true := by
  unfold zwh
  exact List.any_eq_true.mpr ⟨e, List.mem_iff_getElem?.mpr ⟨i, h⟩, decide_eq_true rfl⟩
theorem zwh_f {l : List zwE} {p : Nat × Nat} (h : ¬ zwh l p = true) : ∀ (i : Nat) (e : zwE), l[i]? = some e → e.1 ≠ p := by
  intro i e hi he
  subst he
  exact h (zwh_i hi)
theorem zwap {l t : List zwE} {i : Nat} {e : zwE} (h : l[i]? = some e) : (l ++ t)[i]? = some e := (List.getElem?_append_left (zwgl h)).trans h
theorem zwsn {l : List zwE} {i : Nat} {e f : zwE} (h : (l ++ [f])[i]? = some e) : l[i]? = some e ∨ (i = l.length ∧ e = f) := by
  by_cases q : i < l.length
  · exact Or.inl ((List.getElem?_append_left q).symm.trans h)
  · have q := Nat.le_of_not_lt q
    rw [List.getElem?_append_right q] at h
    have h2 : i - l.length = 0 := by
      have := zwgl h
      simp only [List.length_singleton] at this
      omega
    rw [h2] at h
    simp only [List.getElem?_cons_zero, Option.some.injEq] at h
    exact Or.inr ⟨by omega, h.symm⟩
theorem zwla {l : List zwE} {f : zwE} : (l ++ [f])[l.length]? = some f := by
  rw [List.getElem?_append_right (Nat.le_refl _), Nat.sub_self]
  rfl
def zwa (l : List zwE) (e : zwE) : List zwE := if zwh l e.1 = true then l else l ++ [e]
def zwP (l l' : List zwE) : Prop := ∃ t, l' = l ++ t
theorem zwP_rf (l : List zwE) : zwP l l := ⟨[], (List.append_nil l).symm⟩
theorem zwP_tr {l m n : List zwE} (h : zwP l m) (k : zwP m n) : zwP l n := by
  obtain ⟨t, rfl⟩ := h
  obtain ⟨u, rfl⟩ := k
  exact ⟨t ++ u, List.append_assoc _ _ _⟩
theorem zwP_g {l m : List zwE} (h : zwP l m) {i : Nat} {e : zwE} (k : l[i]? = some e) : m[i]? = some e := by
  obtain ⟨t, rfl⟩ := h
  exact zwap k
theorem zwP_l {l m : List zwE} (h : zwP l m) : l.length ≤ m.length := by
  obtain ⟨t, rfl⟩ := h
  rw [List.length_append]
  omega
theorem zwP_s {l m : List zwE} (h : zwP l m) {i : Nat} (hi : i < l.length) : m[i]? = l[i]? := by
  obtain ⟨e, he⟩ := zwget hi
  rw [he, zwP_g h he]
theorem zwa_P (l : List zwE) (e : zwE) : zwP l (zwa l e) := by
  unfold zwa
  by_cases h : zwh l e.1 = true
  · rw [if_pos h]; exact zwP_rf l
  · rw [if_neg h]; exact ⟨[e], rfl⟩
theorem zwa_len (l : List zwE) (e : zwE) : (zwa l e).length ≤ l.length + 1 := by
  unfold zwa
  by_cases h : zwh l e.1 = true
  · rw [if_pos h]; omega
  · rw [if_neg h, List.length_append, List.length_singleton]; exact Nat.le_refl _
def zwv (l : List zwE) (i : Nat) : Nat × Nat := match l[i]? with
  | some e => e.1
  | none => (0, 0)
theorem zwv_e {l : List zwE} {i : Nat} {e : zwE} (h : l[i]? = some e) : zwv l i = e.1 := by
  unfold zwv
  rw [h]
theorem zwv_P {l m : List zwE} (h : zwP l m) {i : Nat} (hi : i < l.length) : zwv m i = zwv l i := by
  unfold zwv
  rw [zwP_s h hi]
/-- a pair: the series, then the beside -/
def zw2 (l : List zwE) (x y : Nat) : List zwE := zwa (zwa l (zCb 1 (zwv l x) (zwv l y), 1, x, y)) (zCb 2 (zwv l x) (zwv l y), 2, x, y)
theorem zw2_P (l : List zwE) (x y : Nat) : zwP l (zw2 l x y) := zwP_tr (zwa_P _ _) (zwa_P _ _)
theorem zw2_len (l : List zwE) (x y : Nat) : (zw2 l x y).length ≤ l.length + 2 := by
  unfold zw2
  refine Nat.le_trans (zwa_len _ _) ?_
  have := zwa_len l (zCb 1 (zwv l x) (zwv l y), 1, x, y)
  omega
def zwy (x : Nat) : Nat → Nat → List zwE → List zwE
  | 0, _, l => l
  | d + 1, y, l => zwy x d (y + 1) (zw2 l x y)
theorem zwy_P (x : Nat) : ∀ d y l, zwP l (zwy x d y l)
  | 0, _, l => zwP_rf l
  | d + 1, y, l => zwP_tr (zw2_P l x y) (zwy_P x d (y + 1) (zw2 l x y))
theorem zwy_len (x : Nat) : ∀ d y l, (zwy x d y l).length ≤ l.length + 2 * d
  | 0, _, l => Nat.le_refl _
  | d + 1, y, l => by
    have h1 := zwy_len x d (y + 1) (zw2 l x y)
    have h2 := zw2_len l x y
    have e : zwy x (d + 1) y l = zwy x d (y + 1) (zw2 l x y) := rfl
    rw [e]
    omega
theorem zwy_I {Q : List zwE → Prop} {x : Nat} : ∀ d y l, Q l → (∀ l' y', Q l' → y ≤ y' → y' < y + d → Q (zw2 l' x y')) → Q (zwy x d y l)
  | 0, _, _, h, _ => h
  | d + 1, y, l, h, k => zwy_I d (y + 1) (zw2 l x y) (k l y h (Nat.le_refl _) (by omega)) (fun l' y' q h1 h2 => k l' y' q (by omega) (by omega))
def zwlo (same : Bool) (ylo x : Nat) : Nat := if same = true then x else ylo
def zwx (same : Bool) (ylo yhi : Nat) : Nat → Nat → List zwE → List zwE
  | 0, _, l => l
  | d + 1, x, l => zwx same ylo yhi d (x + 1) (zwy x (yhi - zwlo same ylo x) (zwlo same ylo x) l)
def zwc (same : Bool) (ylo yhi : Nat) : Nat → Nat → Nat
  | 0, _ => 0
  | d + 1, x => (yhi - zwlo same ylo x) + zwc same ylo yhi d (x + 1)
theorem zwx_P (same : Bool) (ylo yhi : Nat) : ∀ d x l, zwP l (zwx same ylo yhi d x l)
  | 0, _, l => zwP_rf l
  | d + 1, x, l => zwP_tr (zwy_P x _ _ l) (zwx_P same ylo yhi d (x + 1) _)
theorem zwx_len (same : Bool) (ylo yhi : Nat) : ∀ d x l, (zwx same ylo yhi d x l).length ≤ l.length + 2 * zwc same ylo yhi d x
  | 0, _, l => Nat.le_refl _
  | d + 1, x, l => by
    have h1 := zwx_len same ylo yhi d (x + 1) (zwy x (yhi - zwlo same ylo x) (zwlo same ylo x) l)
    have h2 := zwy_len x (yhi - zwlo same ylo x) (zwlo same ylo x) l
    have e : zwx same ylo yhi (d + 1) x l = zwx same ylo yhi d (x + 1) (zwy x (yhi - zwlo same ylo x) (zwlo same ylo x) l) := rfl
    have e2 : zwc same ylo yhi (d + 1) x = (yhi - zwlo same ylo x) + zwc same ylo yhi d (x + 1) := rfl
    rw [e, e2]
    omega
theorem zwx_I {Q : List zwE → Prop} {same : Bool} {ylo yhi : Nat} : ∀ d x l, Q l → (∀ l' x' y', Q l' → x ≤ x' → x' < x + d → zwlo same ylo x' ≤ y' → y' < yhi → Q (zw2 l' x' y')) → Q (zwx same ylo yhi d x l)
  | 0, _, _, h, _ => h
  | d + 1, x, l, h, k => zwx_I d (x + 1) _ (zwy_I (yhi - zwlo same ylo x) (zwlo same ylo x) l h (fun l' y' q h1 h2 => k l' x y' q (Nat.le_refl _) (by omega) h1 (by omega))) (fun l' x' y' q h1 h2 h3 h4 => k l' x' y' q (by omega) (by omega) h3 h4)
theorem zwc_f (ylo yhi : Nat) : ∀ d x, zwc false ylo yhi d x = d * (yhi - ylo)
  | 0, _ => (Nat.zero_mul _).symm
  | d + 1, x => by
    have e : zwc false ylo yhi (d + 1) x = (yhi - ylo) + zwc false ylo yhi d (x + 1) := rfl
    rw [e, zwc_f ylo yhi d (x + 1), Nat.succ_mul]
    omega
theorem zwc_t (ylo yhi : Nat) : ∀ d x, x + d = yhi → 2 * zwc true ylo yhi d x = d * (d + 1)
  | 0, _, _ => (Nat.zero_mul _).symm
  | d + 1, x, h => by
    have e : zwc true ylo yhi (d + 1) x = (yhi - x) + zwc true ylo yhi d (x + 1) := rfl
    have ih := zwc_t ylo yhi d (x + 1) (by omega)
    rw [e, Nat.mul_add, ih, show yhi - x = d + 1 by omega, ← Nat.add_mul, Nat.mul_comm (d + 1) (d + 1 + 1)]
    congr 1
    omega
def zwk (b : Nat → Nat) (n : Nat) : Nat → Nat → List zwE → List zwE
  | 0, _, l => l
  | d + 1, k, l => zwk b n d (k + 1) (zwx (decide (k = n - k)) (b (n - k)) (b (n - k + 1)) (b (k + 1) - b k) (b k) l)
def zwkc (b : Nat → Nat) (n : Nat) : Nat → Nat → Nat
  | 0, _ => 0
  | d + 1, k => zwc (decide (k = n - k)) (b (n - k)) (b (n - k + 1)) (b (k + 1) - b k) (b k) + zwkc b n d (k + 1)
theorem zwk_P (b : Nat → Nat) (n : Nat) : ∀ d k l, zwP l (zwk b n d k l)
  | 0, _, l => zwP_rf l
  | d + 1, k, l => zwP_tr (zwx_P _ _ _ _ _ l) (zwk_P b n d (k + 1) _)
theorem zwk_len (b : Nat → Nat) (n : Nat) : ∀ d k l, (zwk b n d k l).length ≤ l.length + 2 * zwkc b n d k
  | 0, _, l => Nat.le_refl _
  | d + 1, k, l => by
    have h1 := zwk_len b n d (k + 1) (zwx (decide (k = n - k)) (b (n - k)) (b (n - k + 1)) (b (k + 1) - b k) (b k) l)
    have h2 := zwx_len (decide (k = n - k)) (b (n - k)) (b (n - k + 1)) (b (k + 1) - b k) (b k) l
    have e : zwk b n (d + 1) k l = zwk b n d (k + 1) (zwx (decide (k = n - k)) (b (n - k)) (b (n - k + 1)) (b (k + 1) - b k) (b k) l) := rfl
    have e2 : zwkc b n (d + 1) k = zwc (decide (k = n - k)) (b (n - k)) (b (n - k + 1)) (b (k + 1) - b k) (b k) + zwkc b n d (k + 1) := rfl
    rw [e, e2]
    omega
theorem zwk_I {Q : List zwE → Prop} {b : Nat → Nat} {n : Nat} : ∀ d k l, Q l → (∀ l' k' x' y', Q l' → k ≤ k' → k' < k + d → b k' ≤ x' → x' < b (k' + 1) → (k' ≠ n - k' → b (n - k') ≤ y') → (k' = n - k' → x' ≤ y') → y' < b (n - k' + 1) → Q (zw2 l' x' y')) → Q (zwk b n d k l)
  | 0, _, _, h, _ => h
  | d + 1, k, l, h, q => by
    refine zwk_I d (k + 1) _ (zwx_I (b (k + 1) - b k) (b k) l h (fun l' x' y' q1 h1 h2 h3 h4 => q l' k x' y' q1 (Nat.le_refl _) (by omega) h1 (by omega) ?_ ?_ h4)) (fun l' k' x' y' q1 h1 h2 => q l' k' x' y' q1 (by omega) (by omega))
    · intro z
      unfold zwlo at h3
      rw [if_neg (fun w => z (of_decide_eq_true w))] at h3
      exact h3
    · intro z
      unfold zwlo at h3
      rw [if_pos (decide_eq_true z)] at h3
      exact h3
/-- by one part -/
def zw1 (o : Nat → Nat) : Nat → Nat → List zwE → List zwE
  | 0, _, l => l
  | d + 1, s, l => zw1 o d (s + 1) (if o s = 0 then l else zwa l ((o s, 1), 0, s, 0))
theorem zw1_P (o : Nat → Nat) : ∀ d s l, zwP l (zw1 o d s l)
  | 0, _, l => zwP_rf l
  | d + 1, s, l => by
    refine zwP_tr ?_ (zw1_P o d (s + 1) _)
    by_cases h : o s = 0
    · rw [if_pos h]; exact zwP_rf l
    · rw [if_neg h]; exact zwa_P _ _
theorem zw1_len (o : Nat → Nat) : ∀ d s l, (zw1 o d s l).length ≤ l.length + d
  | 0, _, l => Nat.le_refl _
  | d + 1, s, l => by
    have h1 := zw1_len o d (s + 1) (if o s = 0 then l else zwa l ((o s, 1), 0, s, 0))
    have h2 : (if o s = 0 then l else zwa l ((o s, 1), 0, s, 0)).length ≤ l.length + 1 := by
      by_cases h : o s = 0
      · rw [if_pos h]; omega
      · rw [if_neg h]; exact zwa_len _ _
    have e : zw1 o (d + 1) s l = zw1 o d (s + 1) (if o s = 0 then l else zwa l ((o s, 1), 0, s, 0)) := rfl
    rw [e]
    omega
theorem zw1_I {Q : List zwE → Prop} {o : Nat → Nat} : ∀ d s l, Q l → (∀ l' s', Q l' → s ≤ s' → s' < s + d → o s' ≠ 0 → Q (zwa l' ((o s', 1), 0, s', 0))) → Q (zw1 o d s l)
  | 0, _, _, h, _ => h
  | d + 1, s, l, h, q => by
    refine zw1_I d (s + 1) _ ?_ (fun l' s' q1 h1 h2 => q l' s' q1 (by omega) (by omega))
    by_cases z : o s = 0
    · rw [if_pos z]; exact h
    · rw [if_neg z]; exact q l s h (Nat.le_refl _) (by omega) z
theorem zw1_c {o o' : Nat → Nat} : ∀ d s l, (∀ t, s ≤ t → t < s + d → o t = o' t) → zw1 o d s l = zw1 o' d s l
  | 0, _, _, _ => rfl
  | d + 1, s, l, h => by
    have e : zw1 o (d + 1) s l = zw1 o d (s + 1) (if o s = 0 then l else zwa l ((o s, 1), 0, s, 0)) := rfl
    have e' : zw1 o' (d + 1) s l = zw1 o' d (s + 1) (if o' s = 0 then l else zwa l ((o' s, 1), 0, s, 0)) := rfl
    rw [e, e', h s (Nat.le_refl _) (by omega)]
    exact zw1_c d (s + 1) _ (fun t h1 h2 => h t (by omega) (by omega))
/-- level by level: the rows, where each level begins -/
def zwS (o : Nat → Nat) (n : Nat) (s : List zwE × (Nat → Nat)) : List zwE := if n = 0 then zw1 o 4 0 s.1 else zwk s.2 (n + 1) ((n + 1) / 2) 1 s.1
def zwL (o : Nat → Nat) : Nat → List zwE × (Nat → Nat)
  | 0 => ([], fun _ => 0)
  | n + 1 => (zwS o n (zwL o n), vf_upd (zwL o n).2 (n + 2) (zwS o n (zwL o n)).length)
theorem zwL_1 (o : Nat → Nat) (n : Nat) : (zwL o (n + 1)).1 = zwS o n (zwL o n) := rfl
theorem zwL_b (o : Nat → Nat) {n k : Nat} (h : k ≤ n + 1) : (zwL o (n + 1)).2 k = (zwL o n).2 k := zupf_ne (by omega)
theorem zwL_n (o : Nat → Nat) (n : Nat) : (zwL o (n + 1)).2 (n + 2) = (zwL o (n + 1)).1.length := zupf_eq rfl
theorem zwL_c {o o' : Nat → Nat} (h : ∀ t, t < 4 → o t = o' t) : ∀ n, zwL o n = zwL o' n
  | 0 => rfl
  | n + 1 => by
    have e : zwS o n (zwL o n) = zwS o' n (zwL o' n) := by
      rw [zwL_c h n]
      unfold zwS
      by_cases z : n = 0
      · rw [if_pos z, if_pos z]; exact zw1_c 4 0 _ (fun t _ h2 => h t (by omega))
      · rw [if_neg z, if_neg z]
    show (zwS o n (zwL o n), vf_upd (zwL o n).2 (n + 2) (zwS o n (zwL o n)).length) = (zwS o' n (zwL o' n), vf_upd (zwL o' n).2 (n + 2) (zwS o' n (zwL o' n)).length)
    rw [e, zwL_c h n]
theorem zwL_P1 (o : Nat → Nat) (n : Nat) : zwP (zwL o n).1 (zwL o (n + 1)).1 := by
  rw [zwL_1]
  unfold zwS
  by_cases z : n = 0
  · rw [if_pos z]; exact zw1_P _ _ _ _
  · rw [if_neg z]; exact zwk_P _ _ _ _ _
theorem zwL_P (o : Nat → Nat) {m : Nat} : ∀ d, zwP (zwL o m).1 (zwL o (m + d)).1
  | 0 => zwP_rf _
  | d + 1 => zwP_tr (zwL_P o d) (zwL_P1 o (m + d))
theorem zwL_bd (o : Nat → Nat) {m k : Nat} (h : k ≤ m + 1) : ∀ d, (zwL o (m + d)).2 k = (zwL o m).2 k
  | 0 => rfl
  | d + 1 => (zwL_b o (n := m + d) (by omega)).trans (zwL_bd o h d)
theorem zwL_b1 (o : Nat → Nat) : ∀ n, (zwL o n).2 1 = 0
  | 0 => rfl
  | n + 1 => (zwL_b o (by omega)).trans (zwL_b1 o n)
theorem zwL_bl (o : Nat → Nat) {m : Nat} : (zwL o m).2 (m + 1) = (zwL o m).1.length := by
  cases m with
  | zero => rfl
  | succ m => exact zwL_n o m
/-! what holds of each row -/
def zwB (A C : Nat) (p : Nat × Nat) : Prop := 0 < p.1 ∧ p.1 ≤ A ∧ 0 < p.2 ∧ p.2 ≤ C ∧ Nat.gcd p.1 p.2 = 1
def zwA : Nat → Nat
  | 0 => 1
  | 1 => 99
  | 2 => 9801
  | 3 => 970299
  | _ => 96059601
def zwC : Nat → Nat
  | 0 => 1
  | 1 => 1
  | 2 => 198
  | 3 => 29403
  | _ => 3881196
theorem zwAC {n : Nat} (h : n ≤ 4) : zwA n ≤ 96059601 ∧ zwC n ≤ 3881196 := by
  match n, h with
  | 0, _ => decide
  | 1, _ => decide
  | 2, _ => decide
  | 3, _ => decide
  | 4, _ => decide
theorem zwB_op {n : Nat} {p : Nat × Nat} (hn : n ≤ 4) (h : zwB (zwA n) (zwC n) p) : zwB 96059601 3881196 p := by
  have := zwAC hn
  exact ⟨h.1, Nat.le_trans h.2.1 this.1, h.2.2.1, Nat.le_trans h.2.2.2.1 this.2, h.2.2.2.2⟩
theorem zwB_o {p : Nat × Nat} (h : zwB 96059601 3881196 p) : zOp p := ⟨by have := h.2.1; omega, by have := h.2.2.2.1; omega, h.2.2.2.2⟩
theorem zwRd {u v A C : Nat} (hu : 0 < u) (hv : 0 < v) (h1 : u ≤ A) (h2 : v ≤ C) : zwB A C (zRd u v) := by
  have g := zgpos (u := u) (v := v) (Or.inl hu)
  refine ⟨Nat.div_pos (Nat.gcd_le_left v hu) g, Nat.le_trans (Nat.div_le_self _ _) h1, Nat.div_pos (Nat.gcd_le_right u hv) g, Nat.le_trans (Nat.div_le_self _ _) h2, zRd_co (Or.inl hu)⟩
theorem zwJ1 {p q : Nat × Nat} (hp : 0 < p.2) (hq : 0 < q.2) : zJn 1 p q = (p.1 * q.2 + q.1 * p.2, p.2 * q.2) := by
  unfold zJn
  rw [if_pos rfl, if_neg (by omega)]
theorem zwJ2 {p q : Nat × Nat} (hp1 : 0 < p.1) (hq1 : 0 < q.1) (hp : 0 < p.2) (hq : 0 < q.2) : zJn 2 p q = (p.1 * q.1, p.1 * q.2 + q.1 * p.2) := by
  unfold zJn
  rw [if_neg (by omega), if_neg (by omega), if_neg (by omega), if_neg (by omega)]
theorem zwcb {A1 C1 A2 C2 A C kk : Nat} {p q : Nat × Nat} (hk : kk = 1 ∨ kk = 2) (hp : zwB A1 C1 p) (hq : zwB A2 C2 q) (h1 : A1 * C2 + A2 * C1 ≤ A) (h1' : A1 * C2 + A2 * C1 ≤ C) (h2 : A1 * A2 ≤ A) (h3 : C1 * C2 ≤ C) : zwB A C (zCb kk p q) := by
  obtain ⟨p1, p2, p3, p4, p5⟩ := hp
  obtain ⟨q1, q2, q3, q4, q5⟩ := hq
  have m1 := Nat.mul_le_mul p2 q4
  have m2 := Nat.mul_le_mul q2 p4
  have m3 := Nat.mul_le_mul p2 q2
  have m4 := Nat.mul_le_mul p4 q4
  have n1 := Nat.mul_pos p1 q3
  have n2 := Nat.mul_pos p1 q1
  have n3 := Nat.mul_pos p3 q3
  unfold zCb
  rcases hk with rfl | rfl
  · rw [zwJ1 p3 q3]
    exact zwRd (by show 0 < p.1 * q.2 + q.1 * p.2; omega) n3 (by show p.1 * q.2 + q.1 * p.2 ≤ A; omega) (by show p.2 * q.2 ≤ C; omega)
  · rw [zwJ2 p1 q1 p3 q3]
    exact zwRd n2 (by show 0 < p.1 * q.2 + q.1 * p.2; omega) (by show p.1 * q.1 ≤ A; omega) (by show p.1 * q.2 + q.1 * p.2 ≤ C; omega)
theorem zwcbn {n k kk : Nat} {p q : Nat × Nat} (hk : kk = 1 ∨ kk = 2) (h1 : 1 ≤ k) (h2 : k < n) (hn : n ≤ 4) (hp : zwB (zwA k) (zwC k) p) (hq : zwB (zwA (n - k)) (zwC (n - k)) q) : zwB (zwA n) (zwC n) (zCb kk p q) := by
  have c : (n = 2 ∧ k = 1) ∨ (n = 3 ∧ k = 1) ∨ (n = 3 ∧ k = 2) ∨ (n = 4 ∧ k = 1) ∨ (n = 4 ∧ k = 2) ∨ (n = 4 ∧ k = 3) := by omega
  rcases c with ⟨rfl, rfl⟩ | ⟨rfl, rfl⟩ | ⟨rfl, rfl⟩ | ⟨rfl, rfl⟩ | ⟨rfl, rfl⟩ | ⟨rfl, rfl⟩ <;> exact zwcb hk hp hq (by decide) (by decide) (by decide) (by decide)
def zwD (l : List zwE) : Prop := ∀ (i j : Nat) (e f : zwE), l[i]? = some e → l[j]? = some f → e.1 = f.1 → i = j
def zwT (o b : Nat → Nat) (n : Nat) (e : zwE) : Prop := zwB (zwA n) (zwC n) e.1 ∧ ((n = 1 ∧ e.2.1 = 0 ∧ e.2.2.1 < 4 ∧ 0 < o e.2.2.1 ∧ e.2.2.2 = 0) ∨ (2 ≤ n ∧ (e.2.1 = 1 ∨ e.2.1 = 2) ∧ ∃ k, 1 ≤ k ∧ k < n ∧ b k ≤ e.2.2.1 ∧ e.2.2.1 < b (k + 1) ∧ b (n - k) ≤ e.2.2.2 ∧ e.2.2.2 < b (n - k + 1)))
theorem zwT_c {o b b' : Nat → Nat} {n : Nat} {e : zwE} (h : ∀ j, 1 ≤ j → j ≤ n → b' j = b j) (ht : zwT o b n e) : zwT o b' n e := by
  obtain ⟨h1, h2 | ⟨h2, h3, k, k1, k2, k3, k4, k5, k6⟩⟩ := ht
  · exact ⟨h1, Or.inl h2⟩
  · refine ⟨h1, Or.inr ⟨h2, h3, k, k1, k2, ?_, ?_, ?_, ?_⟩⟩
    · rw [h k k1 (by omega)]; exact k3
    · rw [h (k + 1) (by omega) (by omega)]; exact k4
    · rw [h (n - k) (by omega) (by omega)]; exact k5
    · rw [h (n - k + 1) (by omega) (by omega)]; exact k6
def zwI (o b : Nat → Nat) (n : Nat) (L0 l : List zwE) : Prop := zwP L0 l ∧ zwD l ∧ ∀ (i : Nat) (e : zwE), L0.length ≤ i → l[i]? = some e → zwT o b n e
theorem zwI_a {o b : Nat → Nat} {n : Nat} {L0 l : List zwE} {e : zwE} (h : zwI o b n L0 l) (ht : zwT o b n e) : zwI o b n L0 (zwa l e) := by
  unfold zwa
  by_cases z : zwh l e.1 = true
  · rw [if_pos z]; exact h
  · rw [if_neg z]
    obtain ⟨h1, h2, h3⟩ := h
    have hf := zwh_f z
    refine ⟨zwP_tr h1 ⟨[e], rfl⟩, ?_, ?_⟩
    · intro i j x y hi hj hxy
      rcases zwsn hi with hi1 | ⟨hi1, ei⟩
      · rcases zwsn hj with hj1 | ⟨hj1, ej⟩
        · exact h2 i j x y hi1 hj1 hxy
        · exact absurd (hxy.trans (congrArg Prod.fst ej)) (hf i x hi1)
      · rcases zwsn hj with hj1 | ⟨hj1, ej⟩
        · exact absurd (hxy.symm.trans (congrArg Prod.fst ei)) (hf j y hj1)
        · omega
    · intro i x hi hx
      rcases zwsn hx with hx1 | ⟨_, ex⟩
      · exact h3 i x hi hx1
      · rw [ex]; exact ht
/-- what holds of the levels below n -/
def zwX (o b : Nat → Nat) (n : Nat) (L0 : List zwE) : Prop := b 1 = 0 ∧ (∀ k, 1 ≤ k → k < n → b k ≤ b (k + 1) ∧ b (k + 1) ≤ L0.length) ∧ b n = L0.length ∧ zwD L0 ∧ ∀ k, 1 ≤ k → k < n → ∀ (i : Nat) (e : zwE), b k ≤ i → i < b (k + 1) → L0[i]? = some e → zwT o b k e
theorem zwX_v {o b : Nat → Nat} {n k x : Nat} {L0 l : List zwE} (h : zwX o b n L0) (hl : zwP L0 l) (h1 : 1 ≤ k) (h2 : k < n) (h3 : b k ≤ x) (h4 : x < b (k + 1)) : zwB (zwA k) (zwC k) (zwv l x) ∧ x < L0.length := by
  have hb := (h.2.1 k h1 h2).2
  obtain ⟨e, he⟩ := zwget (l := L0) (i := x) (by omega)
  rw [zwv_e (zwP_g hl he)]
  exact ⟨(h.2.2.2.2 k h1 h2 x e h3 h4 he).1, by omega⟩
theorem zwI_2 {o b : Nat → Nat} {n k x y : Nat} {L0 l : List zwE} (h : zwX o b n L0) (hi : zwI o b n L0 l) (hn : n ≤ 4) (h1 : 1 ≤ k) (h2 : k < n) (h3 : b k ≤ x) (h4 : x < b (k + 1)) (h5 : b (n - k) ≤ y) (h6 : y < b (n - k + 1)) : zwI o b n L0 (zw2 l x y) := by
  have v1 := (zwX_v h hi.1 h1 h2 h3 h4).1
  have v2 := (zwX_v h hi.1 (k := n - k) (by omega) (by omega) h5 h6).1
  unfold zw2
  refine zwI_a (zwI_a hi ?_) ?_
  · exact ⟨zwcbn (Or.inl rfl) h1 h2 hn v1 v2, Or.inr ⟨by omega, Or.inl rfl, k, h1, h2, h3, h4, h5, h6⟩⟩
  · exact ⟨zwcbn (Or.inr rfl) h1 h2 hn v1 v2, Or.inr ⟨by omega, Or.inr rfl, k, h1, h2, h3, h4, h5, h6⟩⟩
theorem zwI_0 {o b : Nat → Nat} {n : Nat} {L0 : List zwE} (h : zwX o b n L0) : zwI o b n L0 L0 := ⟨zwP_rf _, h.2.2.2.1, fun i e h1 h2 => by have := zwgl h2; omega⟩
theorem zwI_k {o b : Nat → Nat} {n : Nat} {L0 : List zwE} (h : zwX o b n L0) (hn : n ≤ 4) : zwI o b n L0 (zwk b n (n / 2) 1 L0) := by
  refine zwk_I (n / 2) 1 L0 (zwI_0 h) (fun l' k x y hi h1 h2 h3 h4 h5 h6 h7 => zwI_2 h hi hn h1 (by omega) h3 h4 ?_ h7)
  by_cases z : k = n - k
  · have := h6 z
    rw [← z]
    omega
  · exact h5 z
theorem zwX_s {o : Nat → Nat} (ho : ∀ s, s < 4 → o s ≤ 99) : ∀ n, n ≤ 4 → zwX o (zwL o n).2 (n + 1) (zwL o n).1
  | 0, _ => ⟨rfl, fun k h1 h2 => by omega, rfl, fun i j e f h => (by cases h), fun k h1 h2 => by omega⟩
  | n + 1, hn => by
    have h := zwX_s ho n (by omega)
    have key : zwI o (zwL o n).2 (n + 1) (zwL o n).1 (zwL o (n + 1)).1 := by
      rw [zwL_1]
      unfold zwS
      by_cases z : n = 0
      · rw [if_pos z]
        subst z
        refine zw1_I 4 0 _ (zwI_0 h) (fun l' s hi h1 h2 h3 => zwI_a hi ⟨⟨by show 0 < o s; omega, ho s (by omega), by show 0 < 1; omega, by show 1 ≤ 1; omega, Nat.gcd_one_right _⟩, Or.inl ⟨rfl, rfl, by show s < 4; omega, by show 0 < o s; omega, rfl⟩⟩)
      · rw [if_neg z]
        exact zwI_k h (by omega)
    obtain ⟨k1, k2, k3⟩ := key
    have hl := zwP_l k1
    have hT : ∀ k, k ≤ n + 1 → ∀ e, zwT o (zwL o n).2 k e → zwT o (zwL o (n + 1)).2 k e := fun k hk e => zwT_c (fun j h1 h2 => zwL_b o (by omega))
    refine ⟨zwL_b1 o _, ?_, zwL_n o n, k2, ?_⟩
    · intro k h1 h2
      by_cases z : k = n + 1
      · subst z
        rw [zwL_n o n, zwL_b o (Nat.le_refl _), h.2.2.1]
        exact ⟨hl, Nat.le_refl _⟩
      · have := h.2.1 k h1 (by omega)
        rw [zwL_b o (show k ≤ n + 1 by omega), zwL_b o (show k + 1 ≤ n + 1 by omega)]
        omega
    · intro k h1 h2 i e h3 h4 he
      by_cases z : k = n + 1
      · subst z
        rw [zwL_b o (Nat.le_refl _), h.2.2.1] at h3
        exact hT _ (Nat.le_refl _) e (k3 i e h3 he)
      · rw [zwL_b o (show k ≤ n + 1 by omega)] at h3
        rw [zwL_b o (show k + 1 ≤ n + 1 by omega)] at h4
        have := (h.2.1 k h1 (by omega)).2
        rw [zwP_s k1 (by omega)] at he
        exact hT k (by omega) e (h.2.2.2.2 k h1 (by omega) i e h3 h4 he)
/-- how many there are at most -/
theorem zwN {o : Nat → Nat} (ho : ∀ s, s < 4 → o s ≤ 99) : (zwL o 1).1.length ≤ 4 ∧ (zwL o 2).1.length ≤ 24 ∧ (zwL o 3).1.length ≤ 184 ∧ (zwL o 4).1.length ≤ 1884 ∧ (zwL o 1).1.length + 2 * zwkc (zwL o 1).2 2 1 1 ≤ 1884 ∧ (zwL o 2).1.length + 2 * zwkc (zwL o 2).2 3 1 1 ≤ 1884 ∧ (zwL o 3).1.length + 2 * zwkc (zwL o 3).2 4 2 1 ≤ 1884 := by
  have l1 : (zwL o 1).1.length ≤ 4 := by
    have := zw1_len o 4 0 []
    simp only [List.length_nil] at this
    exact this
  have b11 := zwL_b1 o 1
  have b21 := zwL_b1 o 2
  have b31 := zwL_b1 o 3
  have b12 : (zwL o 1).2 2 = (zwL o 1).1.length := zwL_bl o
  have b22 : (zwL o 2).2 2 = (zwL o 1).1.length := (zwL_b o (by omega)).trans b12
  have b32 : (zwL o 3).2 2 = (zwL o 1).1.length := (zwL_b o (by omega)).trans b22
  have b23 : (zwL o 2).2 3 = (zwL o 2).1.length := zwL_bl o
  have b33 : (zwL o 3).2 3 = (zwL o 2).1.length := (zwL_b o (by omega)).trans b23
  have b34 : (zwL o 3).2 4 = (zwL o 3).1.length := zwL_bl o
  have m12 : (zwL o 1).1.length ≤ (zwL o 2).1.length := zwP_l (zwL_P1 o 1)
  have m23 : (zwL o 2).1.length ≤ (zwL o 3).1.length := zwP_l (zwL_P1 o 2)
  have c2 : zwkc (zwL o 1).2 2 1 1 = zwc true 0 (zwL o 1).1.length (zwL o 1).1.length 0 := by
    show zwc true ((zwL o 1).2 1) ((zwL o 1).2 2) ((zwL o 1).2 2 - (zwL o 1).2 1) ((zwL o 1).2 1) + 0 = _
    rw [b11, b12, Nat.sub_zero, Nat.add_zero]
  have c3 : zwkc (zwL o 2).2 3 1 1 = zwc false (zwL o 1).1.length (zwL o 2).1.length (zwL o 1).1.length 0 := by
    show zwc false ((zwL o 2).2 2) ((zwL o 2).2 3) ((zwL o 2).2 2 - (zwL o 2).2 1) ((zwL o 2).2 1) + 0 = _
    rw [b21, b22, b23, Nat.sub_zero, Nat.add_zero]
  have c4 : zwkc (zwL o 3).2 4 2 1 = zwc false (zwL o 2).1.length (zwL o 3).1.length (zwL o 1).1.length 0 + zwc true (zwL o 1).1.length (zwL o 2).1.length ((zwL o 2).1.length - (zwL o 1).1.length) (zwL o 1).1.length := by
    show zwc false ((zwL o 3).2 3) ((zwL o 3).2 4) ((zwL o 3).2 2 - (zwL o 3).2 1) ((zwL o 3).2 1) + (zwc true ((zwL o 3).2 2) ((zwL o 3).2 3) ((zwL o 3).2 3 - (zwL o 3).2 2) ((zwL o 3).2 2) + 0) = _
    rw [b31, b32, b33, b34, Nat.sub_zero, Nat.add_zero]
  have t2 := zwc_t 0 (zwL o 1).1.length (zwL o 1).1.length 0 (by omega)
  have t3 := zwc_f (zwL o 1).1.length (zwL o 2).1.length (zwL o 1).1.length 0
  have t4 := zwc_f (zwL o 2).1.length (zwL o 3).1.length (zwL o 1).1.length 0
  have t5 := zwc_t (zwL o 1).1.length (zwL o 2).1.length ((zwL o 2).1.length - (zwL o 1).1.length) (zwL o 1).1.length (by omega)
  have q2 : (zwL o 2).1.length ≤ (zwL o 1).1.length + 2 * zwkc (zwL o 1).2 2 1 1 := by
    have := zwk_len (zwL o 1).2 2 1 1 (zwL o 1).1
    exact this
  have q3 : (zwL o 3).1.length ≤ (zwL o 2).1.length + 2 * zwkc (zwL o 2).2 3 1 1 := zwk_len (zwL o 2).2 3 1 1 (zwL o 2).1
  have q4 : (zwL o 4).1.length ≤ (zwL o 3).1.length + 2 * zwkc (zwL o 3).2 4 2 1 := zwk_len (zwL o 3).2 4 2 1 (zwL o 3).1
  rw [c2] at q2 ⊢
  rw [c3] at q3 ⊢
  rw [c4] at q4 ⊢
  generalize (zwL o 1).1.length = n1 at *
  generalize (zwL o 2).1.length = n2 at *
  generalize (zwL o 3).1.length = n3 at *
  generalize (zwL o 4).1.length = n4 at *
  have w2 := Nat.mul_le_mul l1 (show n1 + 1 ≤ 5 by omega)
  have e2 : n2 - n1 ≤ 20 := by omega
  have w3 := Nat.mul_le_mul l1 e2
  have e3 : n3 - n2 ≤ 160 := by omega
  have w4 := Nat.mul_le_mul l1 e3
  have w5 := Nat.mul_le_mul e2 (show n2 - n1 + 1 ≤ 21 by omega)
  omega
