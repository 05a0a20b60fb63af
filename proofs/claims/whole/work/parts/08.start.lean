/-! THE CLAIM OUT OF ONE WALK OF THE LAW'S BODY. Your part is whole_start (and what it stands on); all else here is the same for every law, but numbers. -/
def R_law : String := "WishedResistorLaw"
def lw_P (b : Addr) (xs : List Int32) (args : Array Value) (s : State) : Prop := args = #[.ref b] ∧ s.IntsAt b xs ∧ xs.length ≤ 3584 ∧ (Jvm.Cond.and given_1 narrow_1).before args s = true
/-- what a walk over the start with the record d0 says of its end, said of the start itself -/
theorem lw_closed {s t : State} {o : Outcome} {d0 : Drawn} {L : List Loc} {k n : Nat} (hd0 : s.drawn.sameBut d0 lw_cs) (hv : ∃ v, o = .returned v) (hW : (s.setDrawn d0).WarmedH t.vm) (hs : (s.setDrawn d0).sameButNew ({ t with vm := s.vm } : State) L k n) : State.butDraws s t lw_cs (fun t1 => Framed s o t1 L k n) := by
  have h2 : t.drawn = d0 := congrArg State.drawn hs.1
  refine ⟨⟨hv, hW, State.sameButNew.setDrawn hs s.drawn⟩, ?_, by decide⟩
  rw [h2]
  exact hd0
def lw_Q (_ : Array Value) (s : State) (o : Outcome) (t : State) : Prop := o = .returned (some (.int 1)) ∧ State.butDraws s t lw_cs (fun t1 => Framed s o t1 [] 600000 7302250)
def lw_Z (below : List Frame) (a : Array Value) (s : State) : State → Prop := fun t => ∃ o, t.status = .running ∧ Ended t below o ∧ lw_Q a s o t
/-- the law's own end, with 1 on the stack, nothing written that was there before, its room as the claim has it; d0: the record of draws at this point (at the entry s.drawn: begin with 'refine W.base ?_' and 'have hd0 := Drawn.sameBut.refl s.drawn lw_cs') -/
theorem lw_ret {p : Program} {l : Launch} {e : Env} {s : State} {m : MethodId} {below : List Frame} {meth : Method} {c : Code} {b : Nat} {d0 : Drawn} (hd0 : s.drawn.sameBut d0 lw_cs) (hx : p.tables.exec = Jvm.exec) (hb : c.code = code) (hr : meth.sig.returnType = ret) (hlocks : meth.locks = false) {pc : Nat} {H : Heap} {ls : Array Slot} (hdg : decode code pc = .ok (.ireturn, 1)) : W p l e room_1 (s.setDrawn d0) m #[Value.ref b] below meth c H [] 600000 7302250 (lw_Z below #[Value.ref b] s) (F0 m pc ls [.int 1]) := by
  intro T hT X
  obtain ⟨fs, hret, hrun, hended, hW, hframe⟩ := X.leave (v := some (.int 1)) (hlocks := hlocks) (fun h => by rw [hr] at h; cases h)
  have hmeth' : T.vm.method? m = some meth := X.method'
  refine ⟨T.setFrames fs, ?_, .returned (some (.int 1)), hrun, hended, rfl, lw_closed hd0 ⟨_, rfl⟩ hW hframe⟩
  jvm_step X.here [X.here.top, hx, hb, hdg, hmeth', hr, ret, narrow_b1]
  (try refine ⟨rfl, ?_⟩); (try refine ⟨rfl, ?_⟩)
  first | (intro acts; rw [hret _ acts rfl rfl rfl]) | rw [hret _ _ rfl rfl rfl]
  exact Steps.refl _
/-- what holds at the law's entry: the machine, the code, the tables' words (any of lw_tbl by 'hts w (by decide +kernel)'), the script of L ints xs at the cell b, what the Statement gives of the start (any of its parts by flat_of_before) -/
def lw_At (p : Program) (s : State) (m : MethodId) (meth : Method) (c : Code) (b L : Nat) (xs : Nat → Int32) : Prop :=
  p.tables.exec = Jvm.exec ∧ c.code = code ∧ meth.sig.returnType = ret ∧ c.maxLocals = 4 ∧ s.vm.findClass R_law = some m.cls ∧ (∀ w ∈ lw_tbl, w.before #[Value.ref b] s = true) ∧ va_X b L xs s s.heap ∧ b < s.heap.size ∧ meth.locks = false ∧ (Jvm.Cond.and given_1 narrow_1).before #[Value.ref b] s = true
theorem ilX0 : ∀ w ∈ u_ws RX0 TX0 2, w ∈ lw_tbl := fun w h => (gn_wsX00 w h).1
theorem ilX1 : ∀ w ∈ u_ws RX1 TX1 2, w ∈ lw_tbl := fun w h => (gn_wsX10 w h).1
theorem ilX2 : ∀ w ∈ u_ws RX2 TX2 5, w ∈ lw_tbl := fun w h => (gn_wsX20 w h).1
theorem ilX3 : ∀ w ∈ u_ws RX3 TX3 8, w ∈ lw_tbl := fun w h => (gn_wsX30 w h).1
theorem ilX4 : ∀ w ∈ u_ws RX4 TX4 9, w ∈ lw_tbl := fun w h => (gn_wsX40 w h).1
theorem ilX5 : ∀ w ∈ u_ws RX5 TX5 9, w ∈ lw_tbl := fun w h => (gn_wsX50 w h).1
theorem ilX6 : ∀ w ∈ u_ws RX6 TX6 4, w ∈ lw_tbl := fun w h => (gn_wsX60 w h).1
theorem ilX7 : ∀ w ∈ u_ws RX7 TX7 14, w ∈ lw_tbl := fun w h => (gn_wsX70 w h).1
theorem ilX8 : ∀ w ∈ u_ws RX8 TX8 3, w ∈ lw_tbl := fun w h => (gn_wsX80 w h).1
theorem ilX9 : ∀ w ∈ u_ws RX9 TX9 3, w ∈ lw_tbl := fun w h => (gn_wsX90 w h).1
theorem ilX10 : ∀ w ∈ u_ws RX10 TX10 10, w ∈ lw_tbl := fun w h => (gn_wsX100 w h).1
theorem ilX11 : ∀ w ∈ u_ws RX11 TX11 33, w ∈ lw_tbl := fun w h => (gn_wsX110 w h).1
theorem zarrOf {s : State} {args : Array Value} {ty : FieldType} (hp : ∀ C, ty ≠ .object C) (h : (Cond.arrayClass ty).before args s = true) : ∃ cA, ArrOfT s cA ty ∧ va_RA s cA ty := by
  obtain ⟨cA, kA, comp, h1, h2, h3⟩ := Cond.arrayClass_spec h
  refine ⟨cA, fun n z => ⟨fun k h => (by cases h), kA, h2, comp, h3⟩, ?_⟩
  cases ty <;> first | exact h1 | exact absurd rfl (hp _)
theorem zarrOver {s : State} {args : Array Value} {C : String} (h : (Cond.arrayOver (.object C)).before args s = true) : ∃ cA, ArrOfT s cA (.object C) ∧ va_RA s cA (.object C) := by
  obtain ⟨comp, cA, kA, h1, h2, h3, h4, h5⟩ := Cond.arrayOver_spec h
  exact ⟨cA, fun N z => ⟨fun k h => (by cases h), kA, h3, comp, h4⟩, kA, comp, h3, h4, h1, h5⟩
set_option maxHeartbeats 4000000 in
set_option maxRecDepth 100000 in
theorem zstart {p : Program} {e : Env} {s : State} {m : MethodId} {below : List Frame} {meth : Method} {c : Code} (l : Launch) {b L : Nat} {sc : Nat → Int32} (hL : L ≤ 3584) (C0 : lw_At p s m meth c b L sc) {R : Nat → XS → MS → Prop} (hq : ∀ k, 7 * k + 7 ≤ L → zQ R k) (h0 : R 0 xs0 ms0) : W p l e room_1 s m #[Value.ref b] below meth c s.heap [] 0 0 (lw_Z below #[Value.ref b] s) (entryFrame m ([Value.ref b] : List Value).toArray 4) := by
  obtain ⟨hx, hb, hr, hml, hown0, hts, hX, hbl, hlocks, hgv⟩ := id C0
  have hown : s.vm.findClass RL = some m.cls := hown0
  have hb : c.code = cL_law := hb
  have hA : ∀ q : Nat, s.heap.size ≤ q → (fun q : Nat => s.heap.size ≤ q) q := fun _ h => h
  have hbA : ¬ (fun q : Nat => s.heap.size ≤ q) b := Nat.not_le.mpr hbl
  obtain ⟨c0, i0, hKn0⟩ := u_known (C := RX0) (T := TX0) (N := 2) (n := 2) hts ilX0 (hts (.instantiable RX0 2) (zt1 (List.mem_of_getElem? (i := 29) rfl)))
  obtain ⟨c1, i1, hKn1⟩ := u_known (C := RX1) (T := TX1) (N := 2) (n := 2) hts ilX1 (hts (.instantiable RX1 2) (zt1 (List.mem_of_getElem? (i := 126) rfl)))
  obtain ⟨c2, i2, hKn2⟩ := u_known (C := RX2) (T := TX2) (N := 5) (n := 5) hts ilX2 (hts (.instantiable RX2 5) (zt2 (List.mem_of_getElem? (i := 60) rfl)))
  obtain ⟨c3, i3, hKn3⟩ := u_known (C := RX3) (T := TX3) (N := 8) (n := 8) hts ilX3 (hts (.instantiable RX3 8) (zt2 (List.mem_of_getElem? (i := 5) rfl)))
  obtain ⟨c4, i4, hKn4⟩ := u_known (C := RX4) (T := TX4) (N := 9) (n := 9) hts ilX4 (hts (.instantiable RX4 9) (zt1 (List.mem_of_getElem? (i := 93) rfl)))
  obtain ⟨c5, i5, hKn5⟩ := u_known (C := RX5) (T := TX5) (N := 9) (n := 9) hts ilX5 (hts (.instantiable RX5 9) (zt1 (List.mem_of_getElem? (i := 48) rfl)))
  obtain ⟨c6, i6, hKn6⟩ := u_known (C := RX6) (T := TX6) (N := 4) (n := 4) hts ilX6 (hts (.instantiable RX6 4) (zt1 (List.mem_of_getElem? (i := 99) rfl)))
  obtain ⟨c7, i7, hKn7⟩ := u_known (C := RX7) (T := TX7) (N := 14) (n := 14) hts ilX7 (hts (.instantiable RX7 14) (zt1 (List.mem_of_getElem? (i := 192) rfl)))
  obtain ⟨c8, i8, hKn8⟩ := u_known (C := RX8) (T := TX8) (N := 3) (n := 3) hts ilX8 (hts (.instantiable RX8 3) (zt1 (List.mem_of_getElem? (i := 173) rfl)))
  obtain ⟨c9, i9, hKn9⟩ := u_known (C := RX9) (T := TX9) (N := 3) (n := 3) hts ilX9 (hts (.instantiable RX9 3) (zt2 (List.mem_of_getElem? (i := 43) rfl)))
  obtain ⟨c10, i10, hKn10⟩ := u_known (C := RX10) (T := TX10) (N := 10) (n := 10) hts ilX10 (hts (.instantiable RX10 10) (zt1 (List.mem_of_getElem? (i := 21) rfl)))
  obtain ⟨c11, i11, hKn11⟩ := u_known (C := RX11) (T := TX11) (N := 33) (n := 33) hts ilX11 (hts (.instantiable RX11 33) (zt4 (List.mem_of_getElem? (i := 167) rfl)))
  obtain ⟨dC, dI, hKc⟩ : ∃ (dC : Nat → ClassId) (dI : Nat → Nat → Nat), ∀ (k : Nat) (q : vw_C), vwCl[k]? = some q → u_Kn s q.1 q.2.1 q.2.2 (dC k) (dI k) := by
    refine ⟨fun k => if k = 0 then c0 else if k = 1 then c1 else if k = 2 then c2 else if k = 3 then c3 else if k = 4 then c4 else if k = 5 then c5 else if k = 6 then c6 else if k = 7 then c7 else if k = 8 then c8 else if k = 9 then c9 else if k = 10 then c10 else c11, fun k => if k = 0 then i0 else if k = 1 then i1 else if k = 2 then i2 else if k = 3 then i3 else if k = 4 then i4 else if k = 5 then i5 else if k = 6 then i6 else if k = 7 then i7 else if k = 8 then i8 else if k = 9 then i9 else if k = 10 then i10 else i11, ?_⟩
    intro k q hq
    match k, hq with
    | 0, hq => cases hq; exact hKn0
    | 1, hq => cases hq; exact hKn1
    | 2, hq => cases hq; exact hKn2
    | 3, hq => cases hq; exact hKn3
    | 4, hq => cases hq; exact hKn4
    | 5, hq => cases hq; exact hKn5
    | 6, hq => cases hq; exact hKn6
    | 7, hq => cases hq; exact hKn7
    | 8, hq => cases hq; exact hKn8
    | 9, hq => cases hq; exact hKn9
    | 10, hq => cases hq; exact hKn10
    | 11, hq => cases hq; exact hKn11
    | k + 12, hq => simp [vwCl] at hq
  obtain ⟨y0, hy0, hz0⟩ := zarrOf (ty := .int) (fun C h => by cases h) (hts (.arrayClass .int) (zt1 (List.mem_of_getElem? (i := 46) rfl)))
  obtain ⟨y1, hy1, hz1⟩ := zarrOf (ty := .long) (fun C h => by cases h) (hts (.arrayClass .long) (zt5 (List.mem_of_getElem? (i := 32) rfl)))
  obtain ⟨y2, hy2, hz2⟩ := zarrOf (ty := .float) (fun C h => by cases h) (hts (.arrayClass .float) (zt1 (List.mem_of_getElem? (i := 141) rfl)))
  obtain ⟨y3, hy3, hz3⟩ := zarrOf (ty := .double) (fun C h => by cases h) (hts (.arrayClass .double) (zt1 (List.mem_of_getElem? (i := 140) rfl)))
  have ho4 := hts (.arrayOver (.object "WishedResistor$Tray")) (zt2 (List.mem_of_getElem? (i := 42) rfl))
  obtain ⟨y4, hy4, hz4⟩ := zarrOver ho4
  have ho5 := hts (.arrayOver (.object "WishedResistor$Fraction")) (zt1 (List.mem_of_getElem? (i := 125) rfl))
  obtain ⟨y5, hy5, hz5⟩ := zarrOver ho5
  obtain ⟨cy, hcy⟩ : ∃ cy : Nat → ClassId, cy 0 = y0 ∧ cy 1 = y1 ∧ cy 2 = y2 ∧ cy 3 = y3 ∧ cy 4 = y4 ∧ cy 5 = y5 := ⟨fun k => if k = 0 then y0 else if k = 1 then y1 else if k = 2 then y2 else if k = 3 then y3 else if k = 4 then y4 else y5, rfl, rfl, rfl, rfl, rfl, rfl⟩
  obtain ⟨e0, e1, e2, e3, e4, e5⟩ := hcy
  have hK : zK (dC, dI) cy s := by
    refine ⟨⟨hKc, ?_⟩, ?_, va_AO.of ho4, va_AO.of ho5⟩
    · intro k q hq
      match k, hq with
      | 0, hq => cases hq; rw [e0]; exact ⟨hy0, hz0⟩
      | 1, hq => cases hq; rw [e1]; exact ⟨hy1, hz1⟩
      | 2, hq => cases hq; rw [e2]; exact ⟨hy2, hz2⟩
      | 3, hq => cases hq; rw [e3]; exact ⟨hy3, hz3⟩
      | 4, hq => cases hq; rw [e4]; exact ⟨hy4, hz4⟩
      | 5, hq => cases hq; rw [e5]; exact ⟨hy5, hz5⟩
      | k + 6, hq => simp [zT] at hq
    · intro q hq
      obtain ⟨i, hi, he⟩ := List.getElem_of_mem hq
      have hi : i < 16 := hi
      rcases (show i = 0 ∨ i = 1 ∨ i = 2 ∨ i = 3 ∨ i = 4 ∨ i = 5 ∨ i = 6 ∨ i = 7 ∨ i = 8 ∨ i = 9 ∨ i = 10 ∨ i = 11 ∨ i = 12 ∨ i = 13 ∨ i = 14 ∨ i = 15 by omega) with rfl | rfl | rfl | rfl | rfl | rfl | rfl | rfl | rfl | rfl | rfl | rfl | rfl | rfl | rfl | rfl
      · subst he; exact va_Nw.of rfl (hts _ (zt1 (List.mem_of_getElem? (i := 30) rfl)))
      · subst he; exact va_Nw.of rfl (hts _ (zt1 (List.mem_of_getElem? (i := 49) rfl)))
      · subst he; exact va_Nw.of rfl (hts _ (zt1 (List.mem_of_getElem? (i := 174) rfl)))
      · subst he; exact va_Nw.of rfl (hts _ (zt1 (List.mem_of_getElem? (i := 190) rfl)))
      · subst he; exact va_Nw.of rfl (hts _ (zt2 (List.mem_of_getElem? (i := 6) rfl)))
      · subst he; exact va_Nw.of rfl (hts _ (zt2 (List.mem_of_getElem? (i := 44) rfl)))
      · subst he; exact va_Nw.of rfl (hts _ (zt2 (List.mem_of_getElem? (i := 151) rfl)))
      · subst he; exact va_Nw.of rfl (hts _ (zt2 (List.mem_of_getElem? (i := 210) rfl)))
      · subst he; exact va_Nw.of rfl (hts _ (zt2 (List.mem_of_getElem? (i := 66) rfl)))
      · subst he; exact va_Nw.of rfl (hts _ (zt2 (List.mem_of_getElem? (i := 68) rfl)))
      · subst he; exact va_Nw.of rfl (hts _ (zt2 (List.mem_of_getElem? (i := 70) rfl)))
      · subst he; exact va_Nw.of rfl (hts _ (zt2 (List.mem_of_getElem? (i := 72) rfl)))
      · subst he; exact va_Nw.of rfl (hts _ (zt2 (List.mem_of_getElem? (i := 11) rfl)))
      · subst he; exact va_Nw.of rfl (hts _ (zt1 (List.mem_of_getElem? (i := 100) rfl)))
      · subst he; exact va_Nw.of rfl (hts _ (zt1 (List.mem_of_getElem? (i := 127) rfl)))
      · subst he; exact va_Nw.of rfl (hts _ (zt3 (List.mem_of_getElem? (i := 147) rfl)))
  have hS : va_S (fun q : Nat => s.heap.size ≤ q) s.heap s.heap [] := va_S.rf
  have hP : va_P (dC, dI) vwCl [] s.heap := fun k q h => by simp at h
  have hD : va_D (fun q : Nat => s.heap.size ≤ q) [] := ⟨fun i j p q h => by simp at h, fun k q h => by simp at h⟩
  have hl := lv_entry ([.ref b]) (n := 4) (Nat.le_of_ble_eq_true rfl)
  rw [lg_entry_eq]
  generalize (lg_sl ([.ref b]) ++ List.replicate (4 - (lg_sl ([.ref b])).length) Slot.unset).toArray = ls at hl ⊢
  have hl : lv_has ls 4 [(0, .ref b)] := hl
  refine va_new (ci := 10) (fs := [.null, .null, .null, .null, .null, .null, .null, .null, .null, .null]) (C := RX10) (T := TX10) (N := 10) hx hb hts ilX10 tyX10 tyX10_ok hown (hts (.classLink RL 7 RX10) (zt1 (List.mem_of_getElem? (i := 20) rfl))) (hts (.instantiable RX10 10) (zt1 (List.mem_of_getElem? (i := 21) rfl))) (hts (.initialized RX10) (zt1 (List.mem_of_getElem? (i := 1) rfl))) hK.1 hP hD hS hA rfl (fun j hj => by rcases (show j = 0 ∨ j = 1 ∨ j = 2 ∨ j = 3 ∨ j = 4 ∨ j = 5 ∨ j = 6 ∨ j = 7 ∨ j = 8 ∨ j = 9 by omega) with rfl | rfl | rfl | rfl | rfl | rfl | rfl | rfl | rfl | rfl <;> rfl) (Nat.le_of_ble_eq_true rfl) (Nat.le_of_ble_eq_true rfl) dL_law_0 (fun bx H hP hD hS => ?_)
  have hP : va_P (dC, dI) vwCl ([] ++ [(bx, .inr (10, [.null, .null, .null, .null, .null, .null, .null, .null, .null, .null]))]) H := hP
  have hD : va_D (fun q : Nat => s.heap.size ≤ q) ([] ++ [(bx, .inr (10, [.null, .null, .null, .null, .null, .null, .null, .null, .null, .null]))]) := hD
  refine lv_dup hx hb dL_law_3 rfl ?_
  refine zCc (W0 := []) (Wc := fun u => wnX10 cy bx u) (va_runI (As := []) (rest := [.ref bx]) ⟨hx, hb, hml, hown, hts⟩ (mX10_init l (dC, dI) cy H.size bx) (cwI 0 hts gl_X10_init rfl rfl rfl (hts (.initialized RX10) (zt1 (List.mem_of_getElem? (i := 1) rfl))) (hts (.methodLink RL 9 yX10_init) (zt1 (List.mem_of_getElem? (i := 22) rfl))) (hts (.instanceMethod yX10_init) (zt1 (List.mem_of_getElem? (i := 23) rfl))) rfl cdX10_init ⟨Nat.le_of_ble_eq_true rfl, Nat.le_of_ble_eq_true rfl⟩) (zPc (W0 := []) hK hP hD) rfl rfl hl.1 rfl (lv_room (Nat.le_of_ble_eq_true rfl)) dL_law_4 ⟨Nat.le_of_ble_eq_true rfl, Nat.le_of_ble_eq_true rfl⟩) hP hD hS hA (fun u H locs hP hD hS => ?_)
  have hP : va_P (dC, dI) vwCl (wXS cy bx u xs0) H := hP
  have hD : va_D (fun q : Nat => s.heap.size ≤ q) (wXS cy bx u xs0) := hD
  refine lv_astore_n (lv' := [(1, .ref bx), (0, .ref b)]) hx hb dL_law_7 rfl hl (Nat.le_of_ble_eq_true rfl) rfl (fun ls hl => ?_)
  refine va_new (ci := 11) (fs := [.null, .null, .int 0, .long 0, .long 0, .null, .null, .null, .null, .null, .int 0, .null, .int 0, .null, .int 0, .null, .null, .null, .null, .int 0, .null, .int 0, .null, .null, .int 0, .null, .null, .null, .null, .null, .null, .int 0, .null]) (C := RX11) (T := TX11) (N := 33) hx hb hts ilX11 tyX11 tyX11_ok hown (hts (.classLink RL 10 RX11) (zt4 (List.mem_of_getElem? (i := 166) rfl))) (hts (.instantiable RX11 33) (zt4 (List.mem_of_getElem? (i := 167) rfl))) (hts (.initialized RX11) (zt1 (List.mem_of_getElem? (i := 12) rfl))) hK.1 hP hD hS hA rfl (fun j hj => by rcases (show j = 0 ∨ j = 1 ∨ j = 2 ∨ j = 3 ∨ j = 4 ∨ j = 5 ∨ j = 6 ∨ j = 7 ∨ j = 8 ∨ j = 9 ∨ j = 10 ∨ j = 11 ∨ j = 12 ∨ j = 13 ∨ j = 14 ∨ j = 15 ∨ j = 16 ∨ j = 17 ∨ j = 18 ∨ j = 19 ∨ j = 20 ∨ j = 21 ∨ j = 22 ∨ j = 23 ∨ j = 24 ∨ j = 25 ∨ j = 26 ∨ j = 27 ∨ j = 28 ∨ j = 29 ∨ j = 30 ∨ j = 31 ∨ j = 32 by omega) with rfl | rfl | rfl | rfl | rfl | rfl | rfl | rfl | rfl | rfl | rfl | rfl | rfl | rfl | rfl | rfl | rfl | rfl | rfl | rfl | rfl | rfl | rfl | rfl | rfl | rfl | rfl | rfl | rfl | rfl | rfl | rfl | rfl <;> rfl) (Nat.le_of_ble_eq_true rfl) (Nat.le_of_ble_eq_true rfl) dL_law_8 (fun bm H hP hD hS => ?_)
  have hP : va_P (dC, dI) vwCl ((wXS cy bx u xs0) ++ [(bm, .inr (11, [.null, .null, .int 0, .long 0, .long 0, .null, .null, .null, .null, .null, .int 0, .null, .int 0, .null, .int 0, .null, .null, .null, .null, .int 0, .null, .int 0, .null, .null, .int 0, .null, .null, .null, .null, .null, .null, .int 0, .null]))]) H := hP
  have hD : va_D (fun q : Nat => s.heap.size ≤ q) ((wXS cy bx u xs0) ++ [(bm, .inr (11, [.null, .null, .int 0, .long 0, .long 0, .null, .null, .null, .null, .null, .int 0, .null, .int 0, .null, .int 0, .null, .null, .null, .null, .int 0, .null, .int 0, .null, .null, .int 0, .null, .null, .null, .null, .null, .null, .int 0, .null]))]) := hD
  refine lv_dup hx hb dL_law_11 rfl ?_
  refine zCc (W0 := (wXS cy bx u xs0)) (Wc := fun u => wnX11 cy bm u) (va_runI (As := []) (rest := [.ref bm]) ⟨hx, hb, hml, hown, hts⟩ (mX11_init l (dC, dI) cy H.size bm) (cwI 0 hts gl_X11_init rfl rfl rfl (hts (.initialized RX11) (zt1 (List.mem_of_getElem? (i := 12) rfl))) (hts (.methodLink RL 12 yX11_init) (zt4 (List.mem_of_getElem? (i := 168) rfl))) (hts (.instanceMethod yX11_init) (zt4 (List.mem_of_getElem? (i := 169) rfl))) rfl cdX11_init ⟨Nat.le_of_ble_eq_true rfl, Nat.le_of_ble_eq_true rfl⟩) (zPc (W0 := (wXS cy bx u xs0)) hK hP hD) rfl rfl hl.1 rfl (lv_room (Nat.le_of_ble_eq_true rfl)) dL_law_12 ⟨Nat.le_of_ble_eq_true rfl, Nat.le_of_ble_eq_true rfl⟩) hP hD hS hA (fun v H locs hP hD hS => ?_)
  have hP : va_P (dC, dI) vwCl (wXS cy bx u xs0 ++ wMS cy bm v ms0) H := hP
  have hD : va_D (fun q : Nat => s.heap.size ≤ q) (wXS cy bx u xs0 ++ wMS cy bm v ms0) := hD
  refine lv_astore_n (lv' := [(2, .ref bm), (1, .ref bx), (0, .ref b)]) hx hb dL_law_15 rfl hl (Nat.le_of_ble_eq_true rfl) rfl (fun ls hl => ?_)
  refine lv_iconst (v := (0 : Int32)) hx hb dL_law_16 (by decide) ?_
  refine lv_istore_n (lv' := [(3, .int (0 : Int32)), (2, .ref bm), (1, .ref bx), (0, .ref b)]) hx hb dL_law_17 rfl hl (Nat.le_of_ble_eq_true rfl) rfl (fun ls hl => ?_)
  refine law_loop hx hb hml hown hts hX hbl hbA hA hK hL hq ?_ L 0 0 (by omega) (Nat.zero_le _) nI_0.symm xs0 ms0 h0 H locs ls hP hD hS (lv_sub hl [3, 2, 1, 0] rfl)
  intro H locs ls hS hl
  refine lv_iconst (v := (1 : Int32)) hx hb dL_law_1504 (by decide) ?_
  refine va_forget (fun q hq => hS.2.2 q hq) ?_
  refine W.widen (k := 600000) (n := 7302250) (Nat.le_of_ble_eq_true rfl) (Nat.le_of_ble_eq_true rfl) ?_
  exact lw_ret (Drawn.sameBut.refl s.drawn lw_cs) hx hb hr hlocks dL_law_1505
