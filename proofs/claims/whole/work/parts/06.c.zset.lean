/-- the cells whose mark is j + 1 become the j-th of w1 -/
def zpick (w1 : va_W) (p : Nat × va_E) : Nat → Nat × va_E
  | 0 => p
  | j + 1 => (w1[j]?).getD p
def zset : va_W → List Nat → va_W → va_W
  | p :: ws, m :: ms, w1 => zpick w1 p m :: zset ws ms w1
  | _, _, _ => []
theorem zset_mk : ∀ (ws : va_W) (ms : List Nat) (w1 : va_W) (k : Nat) (q : Nat × va_E), (zset ws ms w1)[k]? = some q → ∃ (m : Nat) (p : Nat × va_E), ms[k]? = some m ∧ ws[k]? = some p ∧ q = zpick w1 p m
  | [], ms, w1, k, q, h => by simp [zset] at h
  | p :: ws, [], w1, k, q, h => by simp [zset] at h
  | p :: ws, m :: ms, w1, 0, q, h => ⟨m, p, rfl, rfl, (Option.some.inj h).symm⟩
  | p :: ws, m :: ms, w1, k + 1, q, h => by
    obtain ⟨m', p', h1, h2, h3⟩ := zset_mk ws ms w1 k q h
    exact ⟨m', p', h1, h2, h3⟩
def zokm (is : List Nat) (k : Nat) : Nat → Bool
  | 0 => !is.contains k
  | j + 1 => is[j]? == some k
def zoks (is : List Nat) : Nat → List Nat → Bool
  | _, [] => true
  | k, m :: ms => zokm is k m && zoks is (k + 1) ms
theorem zoks_at (is : List Nat) : ∀ (ms : List Nat) (k : Nat), zoks is k ms = true → ∀ (i m : Nat), ms[i]? = some m → zokm is (k + i) m = true
  | [], k, _, i, m, h => by simp at h
  | a :: ms, k, h, 0, m, h1 => by
    cases h1
    exact (Bool.and_eq_true_iff.mp h).1
  | a :: ms, k, h, i + 1, m, h1 => by
    rw [show k + (i + 1) = k + 1 + i by omega]
    exact zoks_at is ms (k + 1) (Bool.and_eq_true_iff.mp h).2 i m h1
theorem zset_at (is ms : List Nat) (ws w1 : va_W) (hm : zoks is 0 ms = true) (hl : is.length = w1.length) (k : Nat) (q : Nat × va_E) (h : (zset ws ms w1)[k]? = some q) : (k ∉ is ∧ ws[k]? = some q) ∨ ∃ j : Nat, is[j]? = some k ∧ w1[j]? = some q := by
  obtain ⟨m, p, h1, h2, h3⟩ := zset_mk ws ms w1 k q h
  have h4 := zoks_at is ms 0 hm k m h1
  rw [Nat.zero_add] at h4
  cases m with
  | zero =>
    left
    refine ⟨?_, by rw [h3]; exact h2⟩
    intro hc
    have h5 : (!is.contains k) = true := h4
    rw [List.contains_eq_mem, decide_eq_true hc] at h5
    cases h5
  | succ j =>
    right
    have h5 : is[j]? = some k := eq_of_beq h4
    have h6 : j < w1.length := hl ▸ (List.getElem?_eq_some_iff.mp h5).1
    refine ⟨j, h5, ?_⟩
    rw [h3]
    show w1[j]? = some ((w1[j]?).getD p)
    rw [List.getElem?_eq_getElem h6]
    rfl
theorem zjoinS {A0 : Nat → Prop} {D : va_G} {ws wc w1 ws' : va_W} {H H1 : Heap} (hP : va_P D vwCl ws H) (hD : va_D A0 ws) (hF : ∀ q, va_A wc H.size q → A0 q) (isC : List Nat) (hC : isC.map (fun i => ws[i]?) = wc.map some) (ms : List Nat) (hm : zoks isC 0 ms = true) (hl : isC.length = w1.length) (hW : ws' = zset ws ms w1)
    (hk : ∀ q : Nat, q < H.size → ¬ va_A wc H.size q → H1[q]? = H[q]?) (hP1 : va_P D vwCl w1 H1) (hD1 : va_D (va_A wc H.size) w1) : va_P D vwCl ws' H1 ∧ va_D A0 ws' := by
  subst hW
  have hc : ∀ (j : Nat) (e : Nat × va_E), wc[j]? = some e → ∃ i, isC[j]? = some i ∧ ws[i]? = some e := by
    intro j e he
    have h1 : (isC.map (fun i => ws[i]?))[j]? = some (some e) := by rw [hC, List.getElem?_map, he]; rfl
    rw [List.getElem?_map] at h1
    cases hi : isC[j]? with
    | none => rw [hi] at h1; cases h1
    | some i => rw [hi] at h1; exact ⟨i, rfl, Option.some.inj h1⟩
  have hn : ∀ (k : Nat) (q : Nat × va_E), k ∉ isC → ws[k]? = some q → ¬ va_A wc H.size q.1 := by
    intro k q hkn hq h
    rcases h with ⟨j, e, h⟩ | h
    · obtain ⟨i, h1, h2⟩ := hc j (q.1, e) h
      exact hkn (hD.1 i k _ q h2 hq rfl ▸ List.mem_of_getElem? h1)
    · exact absurd (hP k q hq).lt (Nat.not_lt.mpr h)
  refine ⟨?_, ?_, ?_⟩
  · intro k q hq
    rcases zset_at isC ms ws w1 hm hl k q hq with ⟨h1, h2⟩ | ⟨j, h1, h2⟩
    · exact (hP k q h2).kept (hk q.1 (hP k q h2).lt (hn k q h1 h2))
    · exact hP1 j q h2
  · intro i j p q hp hq e
    rcases zset_at isC ms ws w1 hm hl i p hp with ⟨h1, h2⟩ | ⟨a, h1, h2⟩ <;> rcases zset_at isC ms ws w1 hm hl j q hq with ⟨h3, h4⟩ | ⟨c, h3, h4⟩
    · exact hD.1 i j p q h2 h4 e
    · exact absurd (e ▸ hD1.2 c q h4) (hn i p h1 h2)
    · exact absurd (e ▸ hD1.2 a p h2) (hn j q h3 h4)
    · have hac := hD1.1 a c p q h2 h4 e
      subst hac
      rw [h1] at h3
      exact Option.some.inj h3
  · intro k q hq
    rcases zset_at isC ms ws w1 hm hl k q hq with ⟨h1, h2⟩ | ⟨j, h1, h2⟩
    · exact hD.2 k q h2
    · exact hF _ (hD1.2 j q h2)
theorem zCiS {p : Program} {l : Launch} {e : Env} {R : Room} {s : State} {m : MethodId} {args : Array Value} {below : List Frame} {meth : Method} {c : Code} {H : Heap} {locs : List Loc} {cells slots : Nat} {Q : State → Prop} {pc : Nat} {ls : Array Slot} {rest st0 : List Value} {a : Array Value} {A : Nat → Prop} {H0 : Heap} {D : va_G} {ws wc w1 ws' : va_W} {r0 : Int32} (hr : va_Run p l e R s m args below meth c H locs cells slots 0 0 (F0 m pc ls st0) rest (va_Qi (fun (r : Int32) (_ : Unit) => r = r0) (zB D w1 (va_A wc H.size)) (va_A wc H.size) a) (va_A wc H.size)) (hP : va_P D vwCl ws H) (hD : va_D A ws) (hS : va_S A H0 H locs) (hA : ∀ q, H0.size ≤ q → A q) (isC : List Nat) (hC : isC.map (fun i => ws[i]?) = wc.map some) (ms : List Nat) (hm : zoks isC 0 ms = true) (hl : isC.length = w1.length) (hW : ws' = zset ws ms w1)
    (kk : ∀ (H1 : Heap) (locs1 : List Loc), va_P D vwCl ws' H1 → va_D A ws' → va_S A H0 H1 locs1 → W p l e R s m args below meth c H1 locs1 cells slots Q (F0 m (pc + 3) ls (.int r0 :: rest))) : W p l e R s m args below meth c H locs cells slots Q (F0 m pc ls st0) := by
  have hF := va_free (wc := wc) hD hS hA isC hC
  refine va_calli hr hS (fun q _ h => hF q h) hF (fun r u t H1 locs1 ht hvm hw hB hz hk hS1 => ?_)
  obtain ⟨hP1, hD1⟩ := hB
  rw [ht] at hP1
  obtain ⟨hP2, hD2⟩ := zjoinS hP hD hF isC hC ms hm hl hW hk hP1 hD1
  subst hw
  exact kk H1 locs1 hP2 hD2 hS1
theorem zClS {p : Program} {l : Launch} {e : Env} {R : Room} {s : State} {m : MethodId} {args : Array Value} {below : List Frame} {meth : Method} {c : Code} {H : Heap} {locs : List Loc} {cells slots : Nat} {Q : State → Prop} {pc : Nat} {ls : Array Slot} {rest st0 : List Value} {a : Array Value} {A : Nat → Prop} {H0 : Heap} {D : va_G} {ws wc w1 ws' : va_W} {r0 : Int64} (hr : va_Run p l e R s m args below meth c H locs cells slots 0 0 (F0 m pc ls st0) rest (va_Ql (fun (r : Int64) (_ : Unit) => r = r0) (zB D w1 (va_A wc H.size)) (va_A wc H.size) a) (va_A wc H.size)) (hP : va_P D vwCl ws H) (hD : va_D A ws) (hS : va_S A H0 H locs) (hA : ∀ q, H0.size ≤ q → A q) (isC : List Nat) (hC : isC.map (fun i => ws[i]?) = wc.map some) (ms : List Nat) (hm : zoks isC 0 ms = true) (hl : isC.length = w1.length) (hW : ws' = zset ws ms w1)
    (kk : ∀ (H1 : Heap) (locs1 : List Loc), va_P D vwCl ws' H1 → va_D A ws' → va_S A H0 H1 locs1 → W p l e R s m args below meth c H1 locs1 cells slots Q (F0 m (pc + 3) ls (.long r0 :: rest))) : W p l e R s m args below meth c H locs cells slots Q (F0 m pc ls st0) := by
  have hF := va_free (wc := wc) hD hS hA isC hC
  refine va_calll hr hS (fun q _ h => hF q h) hF (fun r u t H1 locs1 ht hvm hw hB hz hk hS1 => ?_)
  obtain ⟨hP1, hD1⟩ := hB
  rw [ht] at hP1
  obtain ⟨hP2, hD2⟩ := zjoinS hP hD hF isC hC ms hm hl hW hk hP1 hD1
  subst hw
  exact kk H1 locs1 hP2 hD2 hS1
