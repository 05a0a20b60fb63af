/-! the range checks of both sides are one; first facts of the fresh state -/
theorem zi64_lt (a b : Int32) : a.toInt64 < b.toInt64 ↔ a < b := by
  rw [Int64.lt_iff_toInt_lt, Int32.lt_iff_toInt_lt, Int32.toInt_toInt64, Int32.toInt_toInt64]
theorem zin64 (a lo hi : Int32) : fX11_in a.toInt64 lo.toInt64 hi.toInt64 = fX10_isIn a lo hi := by
  unfold fX11_in fX10_isIn
  simp only [zi64_lt]
theorem zisIn (a lo hi : Int32) : (fX10_isIn a lo hi = some 0 ∧ ¬ (lo ≤ a ∧ a ≤ hi)) ∨ (fX10_isIn a lo hi = some 1 ∧ lo ≤ a ∧ a ≤ hi) := by
  unfold fX10_isIn
  by_cases h1 : a < lo
  · left
    rw [if_pos h1]
    exact ⟨rfl, fun h => absurd h1 (Int32.not_lt.mpr h.1)⟩
  · by_cases h2 : hi < a
    · left
      rw [if_neg h1, if_pos h2]
      exact ⟨rfl, fun h => absurd h2 (Int32.not_lt.mpr h.2)⟩
    · right
      rw [if_neg h1, if_neg h2]
      exact ⟨rfl, Int32.not_lt.mp h1, Int32.not_lt.mp h2⟩
theorem zb1_id {A : Type} (x : Option A) : zb1 x (fun r => some r) = x := by cases x <;> rfl
theorem zhas_in (p n m : Int32) (h1 : ∀ q : Int32, n ≤ q ↔ m < q) (h2 : ∀ q : Int32, ¬ n ≤ q → ¬ (40 : Int32) ≤ q) : fX5_has p n = fX10_isIn p 0 m := by
  unfold fX5_has fX10_isIn
  by_cases a : p < 0
  · rw [if_pos a, if_pos a]
  · rw [if_neg a, if_neg a]
    by_cases b : n ≤ p
    · rw [if_pos b, if_pos ((h1 p).mp b)]
    · rw [if_neg b, if_neg (fun q => b ((h1 p).mpr q)), if_neg (h2 p b)]
def zJ (lo : Int) (j : Nat) : Int32 := Int32.ofInt (lo + j)
theorem zrng {p lo hi : Int32} (h1 : lo ≤ p) (h2 : p ≤ hi) : ∃ j : Nat, j < (hi.toInt - lo.toInt + 1).toNat ∧ p = zJ lo.toInt j := by
  have a := Int32.le_iff_toInt_le.mp h1
  have b := Int32.le_iff_toInt_le.mp h2
  refine ⟨(p.toInt - lo.toInt).toNat, by omega, ?_⟩
  unfold zJ
  rw [show lo.toInt + ((p.toInt - lo.toInt).toNat : Int) = p.toInt by omega, Int32.ofInt_toInt]
theorem zhas0 (p : Int32) : fX5_has p 0 = some 0 := by
  unfold fX5_has
  by_cases h : p < 0
  · rw [if_pos h]
  · rw [if_neg h, if_pos (Int32.not_lt.mp h)]
theorem zin0 (p : Int32) : fX10_isIn p 0 (-1) = some 0 := by
  rcases zisIn p 0 (-1) with h | h
  · exact h.1
  · exact absurd (Int32.le_trans h.2.1 h.2.2) (by decide)
/-- R of the fresh state alone: what holds before the first call -/
def zR0 (k : Nat) (xs : XS) (ms : MS) : Prop := k = 0 → xs = xs0 ∧ ms = ms0
theorem zfin {A : Type} {x : Option (A × XS)} {m : Option (A × MS)} {k : Nat} (r : A) (hx : x.map Prod.fst = some r) (hm : m.map Prod.fst = some r) : ∃ (r : A) (xs' : XS) (ms' : MS), x = some (r, xs') ∧ m = some (r, ms') ∧ zR0 (k + 1) xs' ms' := by
  cases x with
  | none => cases hx
  | some q =>
    cases m with
    | none => cases hm
    | some w =>
      obtain ⟨q1, q2⟩ := q
      obtain ⟨w1, w2⟩ := w
      cases hx
      cases hm
      exact ⟨_, _, _, rfl, rfl, fun h => absurd h (Nat.succ_ne_zero k)⟩
theorem zfin2 {A : Type} {x : Option (A × XS)} {m : Option (A × MS)} {k : Nat} (h : x.map Prod.fst = m.map Prod.fst ∧ (x.map Prod.fst).isSome = true) : ∃ (r : A) (xs' : XS) (ms' : MS), x = some (r, xs') ∧ m = some (r, ms') ∧ zR0 (k + 1) xs' ms' := by
  obtain ⟨r, hr⟩ := Option.isSome_iff_exists.mp h.2
  exact zfin r hr (h.1.symm.trans hr)
theorem zi_m1_2 (p : Int32) : fX11_in p.toInt64 (-1 : Int64) (2 : Int64) = fX10_isIn p (-1) (2) := by
  rw [show (-1 : Int64) = (-1 : Int32).toInt64 from by decide, show (2 : Int64) = (2 : Int32).toInt64 from by decide]
  exact zin64 p _ _
theorem zi_0_1 (p : Int32) : fX11_in p.toInt64 (0 : Int64) (1 : Int64) = fX10_isIn p (0) (1) := by
  rw [show (0 : Int64) = (0 : Int32).toInt64 from by decide, show (1 : Int64) = (1 : Int32).toInt64 from by decide]
  exact zin64 p _ _
theorem zi_0_2 (p : Int32) : fX11_in p.toInt64 (0 : Int64) (2 : Int64) = fX10_isIn p (0) (2) := by
  rw [show (0 : Int64) = (0 : Int32).toInt64 from by decide, show (2 : Int64) = (2 : Int32).toInt64 from by decide]
  exact zin64 p _ _
theorem zi_0_3 (p : Int32) : fX11_in p.toInt64 (0 : Int64) (3 : Int64) = fX10_isIn p (0) (3) := by
  rw [show (0 : Int64) = (0 : Int32).toInt64 from by decide, show (3 : Int64) = (3 : Int32).toInt64 from by decide]
  exact zin64 p _ _
theorem zi_0_4 (p : Int32) : fX11_in p.toInt64 (0 : Int64) (4 : Int64) = fX10_isIn p (0) (4) := by
  rw [show (0 : Int64) = (0 : Int32).toInt64 from by decide, show (4 : Int64) = (4 : Int32).toInt64 from by decide]
  exact zin64 p _ _
theorem zi_0_50 (p : Int32) : fX11_in p.toInt64 (0 : Int64) (50 : Int64) = fX10_isIn p (0) (50) := by
  rw [show (0 : Int64) = (0 : Int32).toInt64 from by decide, show (50 : Int64) = (50 : Int32).toInt64 from by decide]
  exact zin64 p _ _
theorem zi_0_99 (p : Int32) : fX11_in p.toInt64 (0 : Int64) (99 : Int64) = fX10_isIn p (0) (99) := by
  rw [show (0 : Int64) = (0 : Int32).toInt64 from by decide, show (99 : Int64) = (99 : Int32).toInt64 from by decide]
  exact zin64 p _ _
theorem zi_1_30 (p : Int32) : fX11_in p.toInt64 (1 : Int64) (30 : Int64) = fX10_isIn p (1) (30) := by
  rw [show (1 : Int64) = (1 : Int32).toInt64 from by decide, show (30 : Int64) = (30 : Int32).toInt64 from by decide]
  exact zin64 p _ _
theorem zi_1_4 (p : Int32) : fX11_in p.toInt64 (1 : Int64) (4 : Int64) = fX10_isIn p (1) (4) := by
  rw [show (1 : Int64) = (1 : Int32).toInt64 from by decide, show (4 : Int64) = (4 : Int32).toInt64 from by decide]
  exact zin64 p _ _
theorem zi_1_99 (p : Int32) : fX11_in p.toInt64 (1 : Int64) (99 : Int64) = fX10_isIn p (1) (99) := by
  rw [show (1 : Int64) = (1 : Int32).toInt64 from by decide, show (99 : Int64) = (99 : Int32).toInt64 from by decide]
  exact zin64 p _ _
theorem zi_1_999 (p : Int32) : fX11_in p.toInt64 (1 : Int64) (999 : Int64) = fX10_isIn p (1) (999) := by
  rw [show (1 : Int64) = (1 : Int32).toInt64 from by decide, show (999 : Int64) = (999 : Int32).toInt64 from by decide]
  exact zin64 p _ _
theorem zi_2_6 (p : Int32) : fX11_in p.toInt64 (2 : Int64) (6 : Int64) = fX10_isIn p (2) (6) := by
  rw [show (2 : Int64) = (2 : Int32).toInt64 from by decide, show (6 : Int64) = (6 : Int32).toInt64 from by decide]
  exact zin64 p _ _
theorem zi_32_126 (p : Int32) : fX11_in p.toInt64 (32 : Int64) (126 : Int64) = fX10_isIn p (32) (126) := by
  rw [show (32 : Int64) = (32 : Int32).toInt64 from by decide, show (126 : Int64) = (126 : Int32).toInt64 from by decide]
  exact zin64 p _ _
theorem zisNet (p : Int32) (now : Nat → Int32) : fX11_isNet p now = fX10_isIn p 0 (now 8 - 1) := by
  unfold fX11_isNet
  rw [zb1_id, show (0 : Int64) = (0 : Int32).toInt64 from by decide, show ((8 : Int32)).toNatClampNeg = 8 from by decide]
  exact zin64 p _ _
theorem znetM (p : Int32) : fX11_isNet p (m_now ms0) = some 0 := by
  rw [zisNet, show m_now ms0 8 = 0 from by decide +kernel]
  exact zin0 p
theorem zpointM (p : Int32) : fX11_isPoint p (m_now ms0) = fX10_isIn p 0 3 := by
  unfold fX11_isPoint
  rw [zb1_id, show (0 : Int64) = (0 : Int32).toInt64 from by decide, show (m_now ms0 ((169 : Int32)).toNatClampNeg - (1 : Int32)) = 3 from by decide +kernel]
  exact zin64 p _ _
theorem zedgeM (p : Int32) : fX11_isEdge p (m_now ms0) = some 0 := by
  unfold fX11_isEdge
  rw [zb1_id, show (0 : Int64) = (0 : Int32).toInt64 from by decide, show (m_now ms0 ((170 : Int32)).toNatClampNeg - (1 : Int32)) = -1 from by decide +kernel, zin64]
  exact zin0 p
theorem zpointX (p : Int32) : fX3_has p 4 = fX10_isIn p 0 3 := by
  unfold fX3_has fX10_isIn
  by_cases a : p < 0
  · rw [if_pos a, if_pos a]
  · rw [if_neg a, if_neg a]
    have e : (4 : Int32) ≤ p ↔ (3 : Int32) < p := by
      rw [Int32.le_iff_toInt_le, Int32.lt_iff_toInt_lt, show (4 : Int32).toInt = 4 from by decide, show (3 : Int32).toInt = 3 from by decide]; omega
    by_cases b : (4 : Int32) ≤ p
    · rw [if_pos b, if_pos (e.mp b)]
    · rw [if_neg b, if_neg (fun q => b (e.mpr q)), if_neg (fun q => b (Int32.le_trans (by decide) q))]
theorem zedgeX (p : Int32) : fX3_hasEdge p 0 = some 0 := by
  unfold fX3_hasEdge
  by_cases h : p < 0
  · rw [if_pos h]
  · rw [if_neg h, if_pos (Int32.not_lt.mp h)]
theorem zsortX (p : Int32) : fX10_isSort p = fX10_isIn p 0 3 := by
  unfold fX10_isSort fX10_isIn
  by_cases a : p < 0
  · rw [if_pos a, if_pos a]
  · rw [if_neg a, if_neg a]
    have e : (4 : Int32) ≤ p ↔ (3 : Int32) < p := by
      rw [Int32.le_iff_toInt_le, Int32.lt_iff_toInt_lt, show (4 : Int32).toInt = 4 from by decide, show (3 : Int32).toInt = 3 from by decide]; omega
    by_cases b : (4 : Int32) ≤ p
    · rw [if_pos b, if_pos (e.mp b)]
    · rw [if_neg b, if_neg (fun q => b (e.mpr q))]
theorem ztrayX (p : Int32) : fX10_isTray p = fX10_isIn p 0 2 := by
  unfold fX10_isTray fX10_isIn
  by_cases a : p < 0
  · rw [if_pos a, if_pos a]
  · rw [if_neg a, if_neg a]
    have e : (3 : Int32) ≤ p ↔ (2 : Int32) < p := by
      rw [Int32.le_iff_toInt_le, Int32.lt_iff_toInt_lt, show (3 : Int32).toInt = 3 from by decide, show (2 : Int32).toInt = 2 from by decide]; omega
    by_cases b : (3 : Int32) ≤ p
    · rw [if_pos b, if_pos (e.mp b)]
    · rw [if_neg b, if_neg (fun q => b (e.mpr q))]
theorem zsortM (p : Int32) : fX11_isSort p = fX10_isIn p 0 3 := by
  unfold fX11_isSort
  rw [zb1_id, zi_0_3]
theorem ztrayM (p : Int32) : fX11_isTray p = fX10_isIn p 0 2 := by
  unfold fX11_isTray
  rw [zb1_id, zi_0_2]
theorem q0_value : zQ_value zR0 0 := by
  intro xs ms h p1 p2
  obtain ⟨rfl, rfl⟩ := h rfl
  refine zfin (-9223372036854775808 : Int64) ?_ ?_
  · unfold stX10_value fX10_value
    rw [show x_nets_count xs0 = 0 from rfl, zhas0]
    rfl
  · unfold stX11_value fX11_value
    rw [znetM]
    rfl
theorem q0_ends : zQ_ends zR0 0 := by
  intro xs ms h p1 p2
  obtain ⟨rfl, rfl⟩ := h rfl
  refine zfin (-9223372036854775808 : Int64) ?_ ?_
  · unfold stX10_ends fX10_ends
    rw [show x_nets_count xs0 = 0 from rfl, zhas0]
    rfl
  · unfold stX11_ends fX11_ends
    rw [znetM]
    rfl
theorem q0_shortly : zQ_shortly zR0 0 := by
  intro xs ms h p1
  obtain ⟨rfl, rfl⟩ := h rfl
  refine zfin (-9223372036854775808 : Int64) ?_ ?_
  · unfold stX10_shortly fX10_shortly
    rw [show x_nets_count xs0 = 0 from rfl, zhas0]
    rfl
  · unfold stX11_shortly fX11_shortly
    rw [znetM]
    rfl
theorem q0_drawn : zQ_drawn zR0 0 := by
  intro xs ms h p1 p2
  obtain ⟨rfl, rfl⟩ := h rfl
  refine zfin (-9223372036854775808 : Int64) ?_ ?_
  · unfold stX10_drawn fX10_drawn
    rw [show x_nets_count xs0 = 0 from rfl, zhas0]
    rfl
  · unfold stX11_drawn fX11_drawn
    rw [znetM]
    rfl
theorem q0_within : zQ_within zR0 0 := by
  intro xs ms h p1 p2 p3 p4 p5 p6
  obtain ⟨rfl, rfl⟩ := h rfl
  refine zfin (-1 : Int32) ?_ ?_
  · unfold stX10_within fX10_within
    rw [show x_nets_count xs0 = 0 from rfl, zhas0]
    rfl
  · unfold stX11_within fX11_within
    rw [znetM]
    rfl
theorem q0_alike : zQ_alike zR0 0 := by
  intro xs ms h p1 p2
  obtain ⟨rfl, rfl⟩ := h rfl
  refine zfin (-1 : Int32) ?_ ?_
  · unfold stX10_alike fX10_alike
    rw [show x_nets_count xs0 = 0 from rfl, zhas0]
    rfl
  · unfold stX11_alike fX11_alike
    rw [znetM]
    rfl
theorem q0_turned : zQ_turned zR0 0 := by
  intro xs ms h p1 p2
  obtain ⟨rfl, rfl⟩ := h rfl
  refine zfin (-1 : Int32) ?_ ?_
  · unfold stX10_turned fX10_turned
    rw [show x_nets_count xs0 = 0 from rfl, zhas0]
    rfl
  · unfold stX11_turned fX11_turned
    rw [znetM]
    rfl
theorem q0_fails : zQ_fails zR0 0 := by
  intro xs ms h p1 p2 p3 p4
  obtain ⟨rfl, rfl⟩ := h rfl
  refine zfin (-9223372036854775808 : Int64) ?_ ?_
  · unfold stX10_fails fX10_fails
    rw [show x_nets_count xs0 = 0 from rfl, zhas0]
    rfl
  · unfold stX11_fails fX11_fails
    rw [znetM]
    rfl
theorem q0_worst : zQ_worst zR0 0 := by
  intro xs ms h p1 p2
  obtain ⟨rfl, rfl⟩ := h rfl
  refine zfin (-1 : Int32) ?_ ?_
  · unfold stX10_worst fX10_worst
    rw [show x_nets_count xs0 = 0 from rfl, zhas0]
    rfl
  · unfold stX11_worst fX11_worst
    rw [znetM]
    rfl
theorem q0_print : zQ_print zR0 0 := by
  intro xs ms h p1 p2
  obtain ⟨rfl, rfl⟩ := h rfl
  refine zfin (-1 : Int32) ?_ ?_
  · unfold stX10_print fX10_print
    rw [show x_nets_count xs0 = 0 from rfl, zhas0]
    rfl
  · unfold stX11_print fX11_print
    rw [znetM]
    rfl
theorem q0_net : zQ_net zR0 0 := by
  intro xs ms h p1 p2
  obtain ⟨rfl, rfl⟩ := h rfl
  refine zfin (-1 : Int32) ?_ ?_
  · unfold stX10_net fX10_net
    rw [show x_nets_count xs0 = 0 from rfl, zhas0]
    rfl
  · unfold stX11_net fX11_net
    rw [znetM]
    rfl
theorem q0_join : zQ_join zR0 0 := by
  intro xs ms h p1 p2 p3
  obtain ⟨rfl, rfl⟩ := h rfl
  refine zfin (-1 : Int32) ?_ ?_
  · unfold stX10_join fX10_join
    rcases zisIn p1 0 1 with q | q
    · rw [q.1]; rfl
    · rw [q.1, show x_nets_count xs0 = 0 from rfl, zhas0]; rfl
  · unfold stX11_join fX11_join
    rw [zi_0_1]
    rcases zisIn p1 0 1 with q | q
    · rw [q.1]; rfl
    · rw [q.1, znetM]; rfl
