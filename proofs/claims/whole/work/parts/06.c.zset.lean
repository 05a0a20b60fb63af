/-- the cells at the places is become those of w1 -/
def zset : va_W → List Nat → va_W → va_W
  | ws, i :: is, q :: qs => zset (ws.set i q) is qs
  | ws, _, _ => ws
theorem zset_at : ∀ (is : List Nat) (ws w1 : va_W), is.length = w1.length → ∀ (k : Nat) (q : Nat × va_E), (zset ws is w1)[k]? = some q → (k ∉ is ∧ ws[k]? = some q) ∨ ∃ j : Nat, is[j]? = some k ∧ w1[j]? = some q
  | [], ws, [], _, k, q, h => Or.inl ⟨by simp, h⟩
  | [], ws, p :: w1, hl, k, q, h => by simp at hl
  | i :: is, ws, [], hl, k, q, h => by simp at hl
  | i :: is, ws, p :: w1, hl, k, q, h => by
    rcases zset_at is (ws.set i p) w1 (by simpa using hl) k q h with ⟨h1, h2⟩ | ⟨j, h1, h2⟩
    · by_cases e : i = k
      · subst e
        rw [List.getElem?_set] at h2
        rw [if_pos rfl] at h2
        split at h2
        · exact Or.inr ⟨0, rfl, h2⟩
        · cases h2
      · rw [List.getElem?_set_ne e] at h2
        exact Or.inl ⟨by simp only [List.mem_cons, not_or]; exact ⟨fun q => e q.symm, h1⟩, h2⟩
    · exact Or.inr ⟨j + 1, by simpa using h1, by simpa using h2⟩
theorem zjoinS {A0 : Nat → Prop} {D : va_G} {ws wc w1 ws' : va_W} {H H1 : Heap} (hP : va_P D vwCl ws H) (hD : va_D A0 ws) (hF : ∀ q, va_A wc H.size q → A0 q) (isC : List Nat) (hC : isC.map (fun i => ws[i]?) = wc.map some) (hl : isC.length = w1.length) (hW : ws' = zset ws isC w1)
    (hk : ∀ q : Nat, q < H.size → ¬ va_A wc H.size q → H1[q]? = H[q]?) (hP1 : va_P D vwCl w1 H1) (hD1 : va_D (va_A wc H.size) w1) : va_P D vwCl ws' H1 ∧ va_D A0 ws' := by
  subst hW
  have hc : ∀ (j : Nat) (e : Nat × va_E), wc[j]? = some e → ∃ i, isC[j]? = some i ∧ ws[i]? = some e := by
    intro j e he
    have h1 : (isC.map (fun i => ws[i]?))[j]? = some (some e) := by rw [hC, List.getElem?_map, he]; rfl
    rw [List.getElem?_map] at h1
    cases hi : isC[j]? with
    | none => rw [hi] at h1; cases h1
    | some i => rw [hi] at h1; exact ⟨i, rfl, Option.some.inj h1⟩
  have hn : ∀ (k : Nat) (q : Nat × va_E), k ∉ isC → ws[k]? = some q → ¬ va_A wc H.size q.1 := by
    intro k q hkn hq h
    rcases h with ⟨j, e, h⟩ | h
    · obtain ⟨i, h1, h2⟩ := hc j (q.1, e) h
      exact hkn (hD.1 i k _ q h2 hq rfl ▸ List.mem_of_getElem? h1)
    · exact absurd (hP k q hq).lt (Nat.not_lt.mpr h)
  refine ⟨?_, ?_, ?_⟩
  · intro k q hq
    rcases zset_at isC ws w1 hl k q hq with ⟨h1, h2⟩ | ⟨j, h1, h2⟩
    · exact (hP k q h2).kept (hk q.1 (hP k q h2).lt (hn k q h1 h2))
    · exact hP1 j q h2
  · intro i j p q hp hq e
    rcases zset_at isC ws w1 hl i p hp with ⟨h1, h2⟩ | ⟨a, h1, h2⟩ <;> rcases zset_at isC ws w1 hl j q hq with ⟨h3, h4⟩ | ⟨c, h3, h4⟩
    · exact hD.1 i j p q h2 h4 e
    · exact absurd (e ▸ hD1.2 c q h4) (hn i p h1 h2)
    · exact absurd (e ▸ hD1.2 a p h2) (hn j q h3 h4)
    · have hac := hD1.1 a c p q h2 h4 e
      subst hac
      rw [h1] at h3
      exact Option.some.inj h3
  · intro k q hq
    rcases zset_at isC ws w1 hl k q hq with ⟨h1, h2⟩ | ⟨j, h1, h2⟩
    · exact hD.2 k q h2
    · exact hF _ (hD1.2 j q h2)
theorem zCiS {p : Program} {l : Launch} {e : Env} {R : Room} {s : State} {m : MethodId} {args : Array Value} {below : List Frame} {meth : Method} {c : Code} {H : Heap} {locs : List Loc} {cells slots : Nat} {Q : State → Prop} {pc : Nat} {ls : Array Slot} {rest st0 : List Value} {a : Array Value} {A : Nat → Prop} {H0 : Heap} {D : va_G} {ws wc w1 ws' : va_W} {r0 : Int32} (hr : va_Run p l e R s m args below meth c H locs cells slots 0 0 (F0 m pc ls st0) rest (va_Qi (fun (r : Int32) (_ : Unit) => r = r0) (zB D w1 (va_A wc H.size)) (va_A wc H.size) a) (va_A wc H.size)) (hP : va_P D vwCl ws H) (hD : va_D A ws) (hS : va_S A H0 H locs) (hA : ∀ q, H0.size ≤ q → A q) (isC : List Nat) (hC : isC.map (fun i => ws[i]?) = wc.map some) (hl : isC.length = w1.length) (hW : ws' = zset ws isC w1)
    (kk : ∀ (H1 : Heap) (locs1 : List Loc), va_P D vwCl ws' H1 → va_D A ws' → va_S A H0 H1 locs1 → W p l e R s m args below meth c H1 locs1 cells slots Q (F0 m (pc + 3) ls (.int r0 :: rest))) : W p l e R s m args below meth c H locs cells slots Q (F0 m pc ls st0) := by
  have hF := va_free (wc := wc) hD hS hA isC hC
  refine va_calli hr hS (fun q _ h => hF q h) hF (fun r u t H1 locs1 ht hvm hw hB hz hk hS1 => ?_)
  obtain ⟨hP1, hD1⟩ := hB
  rw [ht] at hP1
  obtain ⟨hP2, hD2⟩ := zjoinS hP hD hF isC hC hl hW hk hP1 hD1
  subst hw
  exact kk H1 locs1 hP2 hD2 hS1
theorem zClS {p : Program} {l : Launch} {e : Env} {R : Room} {s : State} {m : MethodId} {args : Array Value} {below : List Frame} {meth : Method} {c : Code} {H : Heap} {locs : List Loc} {cells slots : Nat} {Q : State → Prop} {pc : Nat} {ls : Array Slot} {rest st0 : List Value} {a : Array Value} {A : Nat → Prop} {H0 : Heap} {D : va_G} {ws wc w1 ws' : va_W} {r0 : Int64} (hr : va_Run p l e R s m args below meth c H locs cells slots 0 0 (F0 m pc ls st0) rest (va_Ql (fun (r : Int64) (_ : Unit) => r = r0) (zB D w1 (va_A wc H.size)) (va_A wc H.size) a) (va_A wc H.size)) (hP : va_P D vwCl ws H) (hD : va_D A ws) (hS : va_S A H0 H locs) (hA : ∀ q, H0.size ≤ q → A q) (isC : List Nat) (hC : isC.map (fun i => ws[i]?) = wc.map some) (hl : isC.length = w1.length) (hW : ws' = zset ws isC w1)
    (kk : ∀ (H1 : Heap) (locs1 : List Loc), va_P D vwCl ws' H1 → va_D A ws' → va_S A H0 H1 locs1 → W p l e R s m args below meth c H1 locs1 cells slots Q (F0 m (pc + 3) ls (.long r0 :: rest))) : W p l e R s m args below meth c H locs cells slots Q (F0 m pc ls st0) := by
  have hF := va_free (wc := wc) hD hS hA isC hC
  refine va_calll hr hS (fun q _ h => hF q h) hF (fun r u t H1 locs1 ht hvm hw hB hz hk hS1 => ?_)
  obtain ⟨hP1, hD1⟩ := hB
  rw [ht] at hP1
  obtain ⟨hP2, hD2⟩ := zjoinS hP hD hF isC hC hl hW hk hP1 hD1
  subst hw
  exact kk H1 locs1 hP2 hD2 hS1
