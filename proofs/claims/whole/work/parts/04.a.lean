abbrev rmX10_isSort : Room := { frames := 0, cells := 0, slots := 0, locals := 0 }
theorem cdX10_isSort : (yX10_isSort).cls ≠ "java/lang/invoke/MethodHandle" ∧ (yX10_isSort).cls ≠ "java/lang/invoke/VarHandle" ∧ (parseMethodDescriptor (yX10_isSort).desc).map (fun d => d.parameters.length) = some 1 := by decide +kernel
def fX10_isSort (p1 : Int32) : Option (Int32) :=
  if p1 < 0 then (some ((0 : Int32))) else (if (4 : Int32) ≤ p1 then (some ((0 : Int32))) else (some ((1 : Int32))))
set_option maxHeartbeats 4000000 in
set_option maxRecDepth 100000 in
theorem mX10_isSort (l : Launch) (D : va_G) (cy : Nat → ClassId) (sz : Nat) (p1 : Int32) (res : (Int32)) (h : fX10_isSort p1 = some res) : zMz l yX10_isSort wsX10_isSort rmX10_isSort [.int p1] D cy ([] : va_W) sz ((fun (o : (Int32)) => o) res) ((fun (_ : (Int32)) => ([] : va_W)) res) := by
  refine zOfz (res := res) (rf := (fun (o : (Int32)) => o)) (Wf := (fun (_ : (Int32)) => ([] : va_W))) (by decide +kernel) rfl (Nat.le_of_ble_eq_true rfl) ?_
  intro p e s m args below meth c A ls Q hx hb hml hts hown hP hK hD hA hS hl hret
  have hown : s.vm.findClass RX10 = some m.cls := hown
  have hl : lv_has ls 1 [(0, .int p1)] := hl
  refine lv_iload_n hx hb dX10_isSort_0 rfl (lv_at hl 0 rfl) ?_
  refine lv_if_lt (tgt := 13) hx hb dX10_isSort_1 (by decide) (fun hc1 => ?_) (fun hc1 => ?_)
  · replace h := zi_t hc1 h
    refine lv_iconst (v := (0 : Int32)) hx hb dX10_isSort_13 (by decide) ?_
    exact hret (o := ((0 : Int32))) h (show narrow .boolean (.int (0 : Int32)) = .int (0 : Int32) from by decide) hP hD hS dX10_isSort_14
  · replace h := zi_f hc1 h
    refine lv_iload_n hx hb dX10_isSort_4 rfl (lv_at hl 0 rfl) ?_
    refine lv_iconst (v := (4 : Int32)) hx hb dX10_isSort_5 (by decide) ?_
    refine lv_icmp_ge (tgt := 13) hx hb dX10_isSort_6 (by decide) (fun hc6 => ?_) (fun hc6 => ?_)
    · replace h := zi_t hc6 h
      refine lv_iconst (v := (0 : Int32)) hx hb dX10_isSort_13 (by decide) ?_
      exact hret (o := ((0 : Int32))) h (show narrow .boolean (.int (0 : Int32)) = .int (0 : Int32) from by decide) hP hD hS dX10_isSort_14
    · replace h := zi_f hc6 h
      refine lv_iconst (v := (1 : Int32)) hx hb dX10_isSort_9 (by decide) ?_
      refine lv_goto (tgt := 14) hx hb dX10_isSort_10 (by decide) ?_
      exact hret (o := ((1 : Int32))) h (show narrow .boolean (.int (1 : Int32)) = .int (1 : Int32) from by decide) hP hD hS dX10_isSort_14

theorem uX0_has_X0 : ∀ w ∈ u_ws RX0 TX0 2, w ∈ wsX0_has := fun w h => (List.mem_cons_of_mem _ (List.mem_append_right _ h))
abbrev wdX0_has (cy : Nat → ClassId) (b b_ohms b_spread : Nat) (c_ohms : Nat → Int32) : va_W := [(b, .inr (0, [.ref b_ohms, .ref b_spread])), (b_ohms, .inl (cy 0, 4, .inl c_ohms))]
abbrev rmX0_has : Room := { frames := 1, cells := 0, slots := 0, locals := 20 }
theorem cdX0_has : (yX0_has).cls ≠ "java/lang/invoke/MethodHandle" ∧ (yX0_has).cls ≠ "java/lang/invoke/VarHandle" ∧ (parseMethodDescriptor (yX0_has).desc).map (fun d => d.parameters.length) = some 1 := by decide +kernel
def fX0_has (p1 : Int32) (c_ohms : Nat → Int32) : Option (Int32) :=
  zb1 (fX10_isSort p1) (fun r1 => if r1 = 0 then (some ((0 : Int32))) else (zg (zin p1 4) (if (c_ohms (p1).toNatClampNeg) = 0 then (some ((0 : Int32))) else (some ((1 : Int32))))))
set_option maxHeartbeats 4000000 in
set_option maxRecDepth 100000 in
theorem mX0_has (l : Launch) (D : va_G) (cy : Nat → ClassId) (sz : Nat) (b b_ohms b_spread : Nat) (c_ohms : Nat → Int32) (p1 : Int32) (res : (Int32)) (h : fX0_has p1 c_ohms = some res) : zMz l yX0_has wsX0_has rmX0_has [.ref b, .int p1] D cy (wdX0_has cy b b_ohms b_spread c_ohms) sz ((fun (o : (Int32)) => o) res) ((fun (o : (Int32)) => (wdX0_has cy b b_ohms b_spread c_ohms)) res) := by
  refine zOfz (res := res) (rf := (fun (o : (Int32)) => o)) (Wf := (fun (o : (Int32)) => (wdX0_has cy b b_ohms b_spread c_ohms))) (by decide +kernel) rfl (Nat.le_of_ble_eq_true rfl) ?_
  intro p e s m args below meth c A ls Q hx hb hml hts hown hP hK hD hA hS hl hret
  have hown : s.vm.findClass RX0 = some m.cls := hown
  have hl : lv_has ls 2 [(0, .ref b), (1, .int p1)] := hl
  refine lv_iload_n hx hb dX0_has_0 rfl (lv_at hl 1 rfl) ?_
  obtain ⟨r1, hq1, h⟩ := zb1_s h
  refine zCz0 (r0 := r1) (va_runSN (As := [.int p1]) (rest := []) ⟨hx, hb, hml, hown, hts⟩ (mX10_isSort l D cy s.heap.size p1 (r1) hq1) ⟨va_cnB 1 hts gX0_has_X10_isSort_n18 rfl rfl rfl (hK.2.at 6 rfl) (hts (.initialized RX10) (List.mem_of_getElem? (i := 3) rfl)) cdX10_isSort ⟨Nat.le_of_ble_eq_true rfl, Nat.le_of_ble_eq_true rfl⟩, (hts (.static yX10_isSort) (List.mem_of_getElem? (i := 2) rfl)), trivial⟩ (zPS hK hP hD [] rfl rfl) rfl rfl hl.1 rfl (lv_room (Nat.le_of_ble_eq_true rfl)) dX0_has_1 ⟨Nat.zero_le _, Nat.zero_le _⟩) hP hD hS hA (fun H locs hn1 hP hD hS => ?_)
  refine lv_if_eq (tgt := 20) hx hb dX0_has_4 (by decide) (fun hc4 => ?_) (fun hc4 => ?_)
  · replace h := zi_t hc4 h
    refine lv_iconst (v := (0 : Int32)) hx hb dX0_has_20 (by decide) ?_
    exact hret (o := ((0 : Int32))) h (show narrow .boolean (.int (0 : Int32)) = .int (0 : Int32) from by decide) hP hD hS dX0_has_21
  · replace h := zi_f hc4 h
    refine lv_aload_n hx hb dX0_has_7 rfl (lv_at hl 0 rfl) ?_
    refine va_get (D := D) (ci := 0) (v := .ref b_ohms) (C := RX0) (T := TX0) (N := 2) hx hb hts uX0_has_X0 hown hK.1 hP 0 rfl rfl 0 (by decide) (hts (.fieldLink RX0 9 "WishedResistor$Box" "ohms" "[I") (List.mem_of_getElem? (i := 1) rfl)) (fun _ h9 => h9) rfl dX0_has_8 ?_
    refine lv_iload_n hx hb dX0_has_11 rfl (lv_at hl 1 rfl) ?_
    obtain ⟨hi12, h⟩ := zg_s h
    refine va_iald hx hb hK.1 hP 1 0 rfl rfl hi12 dX0_has_12 ?_
    refine lv_if_eq (tgt := 20) hx hb dX0_has_13 (by decide) (fun hc13 => ?_) (fun hc13 => ?_)
    · replace h := zi_t hc13 h
      refine lv_iconst (v := (0 : Int32)) hx hb dX0_has_20 (by decide) ?_
      exact hret (o := ((0 : Int32))) h (show narrow .boolean (.int (0 : Int32)) = .int (0 : Int32) from by decide) hP hD hS dX0_has_21
    · replace h := zi_f hc13 h
      refine lv_iconst (v := (1 : Int32)) hx hb dX0_has_16 (by decide) ?_
      refine lv_goto (tgt := 21) hx hb dX0_has_17 (by decide) ?_
      exact hret (o := ((1 : Int32))) h (show narrow .boolean (.int (1 : Int32)) = .int (1 : Int32) from by decide) hP hD hS dX0_has_21

theorem uX0_sortsThere_X0 : ∀ w ∈ u_ws RX0 TX0 2, w ∈ wsX0_sortsThere := fun w h => (List.mem_cons_of_mem _ (List.mem_append_right _ h))
abbrev wdX0_sortsThere (cy : Nat → ClassId) (b b_ohms b_spread : Nat) (c_ohms : Nat → Int32) : va_W := [(b, .inr (0, [.ref b_ohms, .ref b_spread])), (b_ohms, .inl (cy 0, 4, .inl c_ohms))]
abbrev rmX0_sortsThere : Room := { frames := 0, cells := 0, slots := 0, locals := 0 }
theorem cdX0_sortsThere : (yX0_sortsThere).cls ≠ "java/lang/invoke/MethodHandle" ∧ (yX0_sortsThere).cls ≠ "java/lang/invoke/VarHandle" ∧ (parseMethodDescriptor (yX0_sortsThere).desc).map (fun d => d.parameters.length) = some 0 := by decide +kernel
def fX0_sortsThere_L4 (c_ohms : Nat → Int32) : Nat → Int32 → Int32 → Option (Int32) :=
  zl2 (fun rec4 v1_4 v2_4 => if (4 : Int32) ≤ v2_4 then (some (v1_4)) else (zg (zin v2_4 4) (if (c_ohms (v2_4).toNatClampNeg) = 0 then (rec4 v1_4 (v2_4 + (1 : Int32))) else (rec4 (v1_4 + (1 : Int32)) (v2_4 + (1 : Int32))))))
def fX0_sortsThere (c_ohms : Nat → Int32) : Option (Int32) :=
  fX0_sortsThere_L4 c_ohms 5000 (0 : Int32) (0 : Int32)
set_option maxHeartbeats 4000000 in
set_option maxRecDepth 100000 in
theorem mX0_sortsThere (l : Launch) (D : va_G) (cy : Nat → ClassId) (sz : Nat) (b b_ohms b_spread : Nat) (c_ohms : Nat → Int32) (res : (Int32)) (h : fX0_sortsThere c_ohms = some res) : zMi l yX0_sortsThere wsX0_sortsThere rmX0_sortsThere [.ref b] D cy (wdX0_sortsThere cy b b_ohms b_spread c_ohms) sz ((fun (o : (Int32)) => o) res) ((fun (o : (Int32)) => (wdX0_sortsThere cy b b_ohms b_spread c_ohms)) res) := by
  refine zOfi (res := res) (rf := (fun (o : (Int32)) => o)) (Wf := (fun (o : (Int32)) => (wdX0_sortsThere cy b b_ohms b_spread c_ohms))) (by decide +kernel) rfl (Nat.le_of_ble_eq_true rfl) ?_
  intro p e s m args below meth c A ls Q hx hb hml hts hown hP hK hD hA hS hl hret
  have hown : s.vm.findClass RX0 = some m.cls := hown
  have hl : lv_has ls 3 [(0, .ref b)] := hl
  refine lv_iconst (v := (0 : Int32)) hx hb dX0_sortsThere_0 (by decide) ?_
  refine lv_istore_n (lv' := [(1, .int (0 : Int32)), (0, .ref b)]) hx hb dX0_sortsThere_1 rfl hl (Nat.le_of_ble_eq_true rfl) rfl (fun ls hl => ?_)
  refine lv_iconst (v := (0 : Int32)) hx hb dX0_sortsThere_2 (by decide) ?_
  refine lv_istore_n (lv' := [(2, .int (0 : Int32)), (1, .int (0 : Int32)), (0, .ref b)]) hx hb dX0_sortsThere_3 rfl hl (Nat.le_of_ble_eq_true rfl) rfl (fun ls hl => ?_)
  have hL4 : ∀ n4 : Nat, ∀ (v1_4 v2_4 : Int32) (H : Heap) (locs : List Loc) (ls : Array Slot), va_P D vwCl (wdX0_sortsThere cy b b_ohms b_spread c_ohms) H → va_D A (wdX0_sortsThere cy b b_ohms b_spread c_ohms) → va_S A s.heap H locs → lv_has ls 3 [(0, .ref b), (1, .int v1_4), (2, .int v2_4)] → fX0_sortsThere_L4 c_ohms n4 v1_4 v2_4 = some res → W p l e rmX0_sortsThere s m args below meth c H locs 0 0 Q (F0 m 4 ls []) := by
    intro n4
    induction n4 with
    | zero =>
      intro v1_4 v2_4 H locs ls hP hD hS hl h
      exact zl2_0 h
    | succ n4 ih4 =>
      intro v1_4 v2_4 H locs ls hP hD hS hl h
      replace h := zl2_s h
      refine lv_iload_n hx hb dX0_sortsThere_4 rfl (lv_at hl 2 rfl) ?_
      refine lv_iconst (v := (4 : Int32)) hx hb dX0_sortsThere_5 (by decide) ?_
      refine lv_icmp_ge (tgt := 27) hx hb dX0_sortsThere_6 (by decide) (fun hc6 => ?_) (fun hc6 => ?_)
      · replace h := zi_t hc6 h
        refine lv_iload_n hx hb dX0_sortsThere_27 rfl (lv_at hl 1 rfl) ?_
        exact hret (o := (v1_4)) h hP hD hS dX0_sortsThere_28
      · replace h := zi_f hc6 h
        refine lv_aload_n hx hb dX0_sortsThere_9 rfl (lv_at hl 0 rfl) ?_
        refine va_get (D := D) (ci := 0) (v := .ref b_ohms) (C := RX0) (T := TX0) (N := 2) hx hb hts uX0_sortsThere_X0 hown hK.1 hP 0 rfl rfl 0 (by decide) (hts (.fieldLink RX0 9 "WishedResistor$Box" "ohms" "[I") (List.mem_of_getElem? (i := 1) rfl)) (fun _ h9 => h9) rfl dX0_sortsThere_10 ?_
        refine lv_iload_n hx hb dX0_sortsThere_13 rfl (lv_at hl 2 rfl) ?_
        obtain ⟨hi14, h⟩ := zg_s h
        refine va_iald hx hb hK.1 hP 1 0 rfl rfl hi14 dX0_sortsThere_14 ?_
        refine lv_if_eq (tgt := 21) hx hb dX0_sortsThere_15 (by decide) (fun hc15 => ?_) (fun hc15 => ?_)
        · replace h := zi_t hc15 h
          refine lv_iinc (v := (v2_4 + (1 : Int32))) (lv' := [(2, .int (v2_4 + (1 : Int32))), (0, .ref b), (1, .int v1_4)]) hx hb dX0_sortsThere_21 hl (k := 2) rfl (by rfl) (Nat.le_of_ble_eq_true rfl) rfl (fun ls hl => ?_)
          refine lv_goto (tgt := 4) hx hb dX0_sortsThere_24 (by decide) ?_
          exact ih4 v1_4 (v2_4 + (1 : Int32)) _ _ _ hP hD hS (lv_sub hl [1, 2, 0] rfl) h
        · replace h := zi_f hc15 h
          refine lv_iinc (v := (v1_4 + (1 : Int32))) (lv' := [(1, .int (v1_4 + (1 : Int32))), (0, .ref b), (2, .int v2_4)]) hx hb dX0_sortsThere_18 hl (k := 1) rfl (by rfl) (Nat.le_of_ble_eq_true rfl) rfl (fun ls hl => ?_)
          refine lv_iinc (v := (v2_4 + (1 : Int32))) (lv' := [(2, .int (v2_4 + (1 : Int32))), (1, .int (v1_4 + (1 : Int32))), (0, .ref b)]) hx hb dX0_sortsThere_21 hl (k := 2) rfl (by rfl) (Nat.le_of_ble_eq_true rfl) rfl (fun ls hl => ?_)
          refine lv_goto (tgt := 4) hx hb dX0_sortsThere_24 (by decide) ?_
          exact ih4 (v1_4 + (1 : Int32)) (v2_4 + (1 : Int32)) _ _ _ hP hD hS (lv_sub hl [2, 1, 0] rfl) h
  exact hL4 5000 (0 : Int32) (0 : Int32) _ _ _ hP hD hS (lv_sub hl [2, 1, 0] rfl) h

theorem uX0_copy_X0 : ∀ w ∈ u_ws RX0 TX0 2, w ∈ wsX0_copy := fun w h => (List.mem_cons_of_mem _ (List.mem_append_right _ h))
abbrev wdX0_copy (cy : Nat → ClassId) (bp1 bp1_ohms bp1_spread b b_ohms b_spread : Nat) (c_ohms cp1_ohms c_spread cp1_spread : Nat → Int32) : va_W := [(bp1, .inr (0, [.ref bp1_ohms, .ref bp1_spread])), (b, .inr (0, [.ref b_ohms, .ref b_spread])), (b_ohms, .inl (cy 0, 4, .inl c_ohms)), (bp1_ohms, .inl (cy 0, 4, .inl cp1_ohms)), (b_spread, .inl (cy 0, 4, .inl c_spread)), (bp1_spread, .inl (cy 0, 4, .inl cp1_spread))]
abbrev rmX0_copy : Room := { frames := 1, cells := 0, slots := 0, locals := 27 }
theorem cdX0_copy : (yX0_copy).cls ≠ "java/lang/invoke/MethodHandle" ∧ (yX0_copy).cls ≠ "java/lang/invoke/VarHandle" ∧ (parseMethodDescriptor (yX0_copy).desc).map (fun d => d.parameters.length) = some 1 := by decide +kernel
def fX0_copy (c_ohms cp1_ohms c_spread cp1_spread : Nat → Int32) : Option ((Nat → Int32) × (Nat → Int32)) :=
  some ((va_cpy cp1_ohms c_ohms ((0 : Int32)).toNatClampNeg ((0 : Int32)).toNatClampNeg ((4 : Int32)).toNatClampNeg), (va_cpy cp1_spread c_spread ((0 : Int32)).toNatClampNeg ((0 : Int32)).toNatClampNeg ((4 : Int32)).toNatClampNeg))
set_option maxHeartbeats 4000000 in
set_option maxRecDepth 100000 in
theorem mX0_copy (l : Launch) (D : va_G) (cy : Nat → ClassId) (sz : Nat) (bp1 bp1_ohms bp1_spread b b_ohms b_spread : Nat) (c_ohms cp1_ohms c_spread cp1_spread : Nat → Int32) (res : ((Nat → Int32) × (Nat → Int32))) (h : fX0_copy c_ohms cp1_ohms c_spread cp1_spread = some res) : zMv l yX0_copy wsX0_copy rmX0_copy [.ref b, .ref bp1] D cy (wdX0_copy cy bp1 bp1_ohms bp1_spread b b_ohms b_spread c_ohms cp1_ohms c_spread cp1_spread) sz  ((fun (o : ((Nat → Int32) × (Nat → Int32))) => (wdX0_copy cy bp1 bp1_ohms bp1_spread b b_ohms b_spread (o.1) cp1_ohms (o.2) cp1_spread)) res) := by
  refine zOfv (res := res) (Wf := (fun (o : ((Nat → Int32) × (Nat → Int32))) => (wdX0_copy cy bp1 bp1_ohms bp1_spread b b_ohms b_spread (o.1) cp1_ohms (o.2) cp1_spread))) (by decide +kernel) rfl (Nat.le_of_ble_eq_true rfl) ?_
  intro p e s m args below meth c A ls Q hx hb hml hts hown hP hK hD hA hS hl hret
  have hown : s.vm.findClass RX0 = some m.cls := hown
  have hl : lv_has ls 2 [(0, .ref b), (1, .ref bp1)] := hl
  refine lv_aload_n hx hb dX0_copy_0 rfl (lv_at hl 1 rfl) ?_
  refine va_get (D := D) (ci := 0) (v := .ref bp1_ohms) (C := RX0) (T := TX0) (N := 2) hx hb hts uX0_copy_X0 hown hK.1 hP 0 rfl rfl 0 (by decide) (hts (.fieldLink RX0 9 "WishedResistor$Box" "ohms" "[I") (List.mem_of_getElem? (i := 1) rfl)) (fun _ h9 => h9) rfl dX0_copy_1 ?_
  refine lv_iconst (v := (0 : Int32)) hx hb dX0_copy_4 (by decide) ?_
  refine lv_aload_n hx hb dX0_copy_5 rfl (lv_at hl 0 rfl) ?_
  refine va_get (D := D) (ci := 0) (v := .ref b_ohms) (C := RX0) (T := TX0) (N := 2) hx hb hts uX0_copy_X0 hown hK.1 hP 1 rfl rfl 0 (by decide) (hts (.fieldLink RX0 9 "WishedResistor$Box" "ohms" "[I") (List.mem_of_getElem? (i := 1) rfl)) (fun _ h9 => h9) rfl dX0_copy_6 ?_
  refine lv_iconst (v := (0 : Int32)) hx hb dX0_copy_9 (by decide) ?_
  refine lv_iconst (v := (4 : Int32)) hx hb dX0_copy_10 (by decide) ?_
  refine va_copyi hx hb (hml.trans hl.1.symm) hown (hts (.methodLink RX0 22 arraycopyName) (List.mem_of_getElem? (i := 2) rfl)) (hts (.native arraycopyName) (List.mem_of_getElem? (i := 3) rfl)) (hts (.static arraycopyName) (List.mem_of_getElem? (i := 4) rfl)) (hts (.initialized "java/lang/System") (List.mem_of_getElem? (i := 5) rfl)) hK.1 hP hD hS 3 2 0 0 rfl rfl rfl rfl rfl (by decide) (by decide) (by decide) (by decide) (by decide) (fun _ _ => rfl) (Nat.le_of_ble_eq_true rfl) (Nat.le_of_ble_eq_true rfl) dX0_copy_11 (fun H locs hP hD hS => ?_)
  have hP : va_P D vwCl (wdX0_copy cy bp1 bp1_ohms bp1_spread b b_ohms b_spread (va_cpy cp1_ohms c_ohms ((0 : Int32)).toNatClampNeg ((0 : Int32)).toNatClampNeg ((4 : Int32)).toNatClampNeg) cp1_ohms c_spread cp1_spread) H := hP
  have hD : va_D A (wdX0_copy cy bp1 bp1_ohms bp1_spread b b_ohms b_spread (va_cpy cp1_ohms c_ohms ((0 : Int32)).toNatClampNeg ((0 : Int32)).toNatClampNeg ((4 : Int32)).toNatClampNeg) cp1_ohms c_spread cp1_spread) := hD
  refine lv_aload_n hx hb dX0_copy_14 rfl (lv_at hl 1 rfl) ?_
  refine va_get (D := D) (ci := 0) (v := .ref bp1_spread) (C := RX0) (T := TX0) (N := 2) hx hb hts uX0_copy_X0 hown hK.1 hP 0 rfl rfl 1 (by decide) (hts (.fieldLink RX0 15 "WishedResistor$Box" "spread" "[I") (List.mem_of_getElem? (i := 6) rfl)) (fun _ h9 => h9) rfl dX0_copy_15 ?_
  refine lv_iconst (v := (0 : Int32)) hx hb dX0_copy_18 (by decide) ?_
  refine lv_aload_n hx hb dX0_copy_19 rfl (lv_at hl 0 rfl) ?_
  refine va_get (D := D) (ci := 0) (v := .ref b_spread) (C := RX0) (T := TX0) (N := 2) hx hb hts uX0_copy_X0 hown hK.1 hP 1 rfl rfl 1 (by decide) (hts (.fieldLink RX0 15 "WishedResistor$Box" "spread" "[I") (List.mem_of_getElem? (i := 6) rfl)) (fun _ h9 => h9) rfl dX0_copy_20 ?_
  refine lv_iconst (v := (0 : Int32)) hx hb dX0_copy_23 (by decide) ?_
  refine lv_iconst (v := (4 : Int32)) hx hb dX0_copy_24 (by decide) ?_
  refine va_copyi hx hb (hml.trans hl.1.symm) hown (hts (.methodLink RX0 22 arraycopyName) (List.mem_of_getElem? (i := 2) rfl)) (hts (.native arraycopyName) (List.mem_of_getElem? (i := 3) rfl)) (hts (.static arraycopyName) (List.mem_of_getElem? (i := 4) rfl)) (hts (.initialized "java/lang/System") (List.mem_of_getElem? (i := 5) rfl)) hK.1 hP hD hS 5 4 0 0 rfl rfl rfl rfl rfl (by decide) (by decide) (by decide) (by decide) (by decide) (fun _ _ => rfl) (Nat.le_of_ble_eq_true rfl) (Nat.le_of_ble_eq_true rfl) dX0_copy_25 (fun H locs hP hD hS => ?_)
  have hP : va_P D vwCl (wdX0_copy cy bp1 bp1_ohms bp1_spread b b_ohms b_spread (va_cpy cp1_ohms c_ohms ((0 : Int32)).toNatClampNeg ((0 : Int32)).toNatClampNeg ((4 : Int32)).toNatClampNeg) cp1_ohms (va_cpy cp1_spread c_spread ((0 : Int32)).toNatClampNeg ((0 : Int32)).toNatClampNeg ((4 : Int32)).toNatClampNeg) cp1_spread) H := hP
  have hD : va_D A (wdX0_copy cy bp1 bp1_ohms bp1_spread b b_ohms b_spread (va_cpy cp1_ohms c_ohms ((0 : Int32)).toNatClampNeg ((0 : Int32)).toNatClampNeg ((4 : Int32)).toNatClampNeg) cp1_ohms (va_cpy cp1_spread c_spread ((0 : Int32)).toNatClampNeg ((0 : Int32)).toNatClampNeg ((4 : Int32)).toNatClampNeg) cp1_spread) := hD
  exact hret (o := ((va_cpy cp1_ohms c_ohms ((0 : Int32)).toNatClampNeg ((0 : Int32)).toNatClampNeg ((4 : Int32)).toNatClampNeg), (va_cpy cp1_spread c_spread ((0 : Int32)).toNatClampNeg ((0 : Int32)).toNatClampNeg ((4 : Int32)).toNatClampNeg))) h hP hD hS dX0_copy_28

abbrev rmX10_greatestDivisor : Room := { frames := 0, cells := 0, slots := 0, locals := 0 }
theorem cdX10_greatestDivisor : (yX10_greatestDivisor).cls ≠ "java/lang/invoke/MethodHandle" ∧ (yX10_greatestDivisor).cls ≠ "java/lang/invoke/VarHandle" ∧ (parseMethodDescriptor (yX10_greatestDivisor).desc).map (fun d => d.parameters.length) = some 2 := by decide +kernel
def fX10_greatestDivisor_L9  : Nat → Int64 → Int64 → Int32 → Option (Int64) :=
  zl3 (fun rec9 v4_9 v6_9 v8_9 => if (200 : Int32) ≤ v8_9 then (some (v4_9)) else (if v6_9 = (0 : Int64) then (some (v4_9)) else (zg (¬ v6_9 = 0) (rec9 v6_9 (v4_9 - v4_9 / v6_9 * v6_9) (v8_9 + (1 : Int32))))))
def fX10_greatestDivisor (p1 p2 : Int64) : Option (Int64) :=
  fX10_greatestDivisor_L9 5000 p1 p2 (0 : Int32)
set_option maxHeartbeats 4000000 in
set_option maxRecDepth 100000 in
theorem mX10_greatestDivisor (l : Launch) (D : va_G) (cy : Nat → ClassId) (sz : Nat) (p1 p2 : Int64) (res : (Int64)) (h : fX10_greatestDivisor p1 p2 = some res) : zMl l yX10_greatestDivisor wsX10_greatestDivisor rmX10_greatestDivisor [.long p1, .long p2] D cy ([] : va_W) sz ((fun (o : (Int64)) => o) res) ((fun (_ : (Int64)) => ([] : va_W)) res) := by
  refine zOfl (res := res) (rf := (fun (o : (Int64)) => o)) (Wf := (fun (_ : (Int64)) => ([] : va_W))) (by decide +kernel) rfl (Nat.le_of_ble_eq_true rfl) ?_
  intro p e s m args below meth c A ls Q hx hb hml hts hown hP hK hD hA hS hl hret
  have hown : s.vm.findClass RX10 = some m.cls := hown
  have hl : lv_has ls 11 [(0, .long p1), (2, .long p2)] := hl
  refine lv_lload_n hx hb dX10_greatestDivisor_0 rfl (lv_at hl 0 rfl) ?_
  refine lv_lstore (lv' := [(4, .long p1), (0, .long p1), (2, .long p2)]) hx hb dX10_greatestDivisor_1 hl (Nat.le_of_ble_eq_true rfl) rfl (fun ls hl => ?_)
  refine lv_lload_n hx hb dX10_greatestDivisor_3 rfl (lv_at hl 2 rfl) ?_
  refine lv_lstore (lv' := [(6, .long p2), (4, .long p1), (0, .long p1), (2, .long p2)]) hx hb dX10_greatestDivisor_4 hl (Nat.le_of_ble_eq_true rfl) rfl (fun ls hl => ?_)
  refine lv_iconst (v := (0 : Int32)) hx hb dX10_greatestDivisor_6 (by decide) ?_
  refine lv_istore (lv' := [(8, .int (0 : Int32)), (6, .long p2), (4, .long p1), (0, .long p1), (2, .long p2)]) hx hb dX10_greatestDivisor_7 hl (Nat.le_of_ble_eq_true rfl) rfl (fun ls hl => ?_)
  have hL9 : ∀ n9 : Nat, ∀ (v4_9 v6_9 : Int64) (v8_9 : Int32) (H : Heap) (locs : List Loc) (ls : Array Slot), va_P D vwCl ([] : va_W) H → va_D A ([] : va_W) → va_S A s.heap H locs → lv_has ls 11 [(4, .long v4_9), (6, .long v6_9), (8, .int v8_9)] → fX10_greatestDivisor_L9 n9 v4_9 v6_9 v8_9 = some res → W p l e rmX10_greatestDivisor s m args below meth c H locs 0 0 Q (F0 m 9 ls []) := by
    intro n9
    induction n9 with
    | zero =>
      intro v4_9 v6_9 v8_9 H locs ls hP hD hS hl h
      exact zl3_0 h
    | succ n9 ih9 =>
      intro v4_9 v6_9 v8_9 H locs ls hP hD hS hl h
      replace h := zl3_s h
      refine lv_iload hx hb dX10_greatestDivisor_9 (lv_at hl 2 rfl) ?_
      refine lv_sipush (v := (200 : Int32)) hx hb dX10_greatestDivisor_11 (by decide) ?_
      refine lv_icmp_ge (tgt := 45) hx hb dX10_greatestDivisor_14 (by decide) (fun hc14 => ?_) (fun hc14 => ?_)
      · replace h := zi_t hc14 h
        refine lv_lload hx hb dX10_greatestDivisor_45 (lv_at hl 0 rfl) ?_
        exact hret (o := (v4_9)) h hP hD hS dX10_greatestDivisor_47
      · replace h := zi_f hc14 h
        refine lv_lload hx hb dX10_greatestDivisor_17 (lv_at hl 1 rfl) ?_
        refine lv_lconst (v := (0 : Int64)) hx hb dX10_greatestDivisor_19 (by decide) ?_
        refine W.lcmp hx hb dX10_greatestDivisor_20 ?_
        refine lv_if_eq (tgt := 45) hx hb dX10_greatestDivisor_21 (by decide) (fun hc21 => ?_) (fun hc21 => ?_)
        · replace hc21 := (zc_eq _ _).mp hc21
          replace h := zi_t hc21 h
          refine lv_lload hx hb dX10_greatestDivisor_45 (lv_at hl 0 rfl) ?_
          exact hret (o := (v4_9)) h hP hD hS dX10_greatestDivisor_47
        · replace hc21 := fun q => hc21 ((zc_eq _ _).mpr q)
          replace h := zi_f hc21 h
          refine lv_lload hx hb dX10_greatestDivisor_24 (lv_at hl 0 rfl) ?_
          refine lv_lload hx hb dX10_greatestDivisor_26 (lv_at hl 1 rfl) ?_
          obtain ⟨hz28, h⟩ := zg_s h
          refine lv_lrem hx hb dX10_greatestDivisor_28 hz28 ?_
          refine lv_lstore (lv' := [(9, .long (v4_9 - v4_9 / v6_9 * v6_9)), (4, .long v4_9), (6, .long v6_9), (8, .int v8_9)]) hx hb dX10_greatestDivisor_29 hl (Nat.le_of_ble_eq_true rfl) rfl (fun ls hl => ?_)
          refine lv_lload hx hb dX10_greatestDivisor_31 (lv_at hl 2 rfl) ?_
          refine lv_lstore (lv' := [(4, .long v6_9), (9, .long (v4_9 - v4_9 / v6_9 * v6_9)), (6, .long v6_9), (8, .int v8_9)]) hx hb dX10_greatestDivisor_33 hl (Nat.le_of_ble_eq_true rfl) rfl (fun ls hl => ?_)
          refine lv_lload hx hb dX10_greatestDivisor_35 (lv_at hl 1 rfl) ?_
          refine lv_lstore (lv' := [(6, .long (v4_9 - v4_9 / v6_9 * v6_9)), (4, .long v6_9), (9, .long (v4_9 - v4_9 / v6_9 * v6_9)), (8, .int v8_9)]) hx hb dX10_greatestDivisor_37 hl (Nat.le_of_ble_eq_true rfl) rfl (fun ls hl => ?_)
          refine lv_iinc (v := (v8_9 + (1 : Int32))) (lv' := [(8, .int (v8_9 + (1 : Int32))), (6, .long (v4_9 - v4_9 / v6_9 * v6_9)), (4, .long v6_9), (9, .long (v4_9 - v4_9 / v6_9 * v6_9))]) hx hb dX10_greatestDivisor_39 hl (k := 3) rfl (by rfl) (Nat.le_of_ble_eq_true rfl) rfl (fun ls hl => ?_)
          refine lv_goto (tgt := 9) hx hb dX10_greatestDivisor_42 (by decide) ?_
          exact ih9 v6_9 (v4_9 - v4_9 / v6_9 * v6_9) (v8_9 + (1 : Int32)) _ _ _ hP hD hS (lv_sub hl [2, 1, 0] rfl) h
  exact hL9 5000 p1 p2 (0 : Int32) _ _ _ hP hD hS (lv_sub hl [2, 1, 0] rfl) h

theorem uX1_become_X1 : ∀ w ∈ u_ws RX1 TX1 2, w ∈ wsX1_become := fun w h => (List.mem_cons_of_mem _ (List.mem_append_right _ h))
abbrev wdX1_become (cy : Nat → ClassId) (b : Nat) (c_above c_below : Int64) : va_W := [(b, .inr (1, [.long c_above, .long c_below]))]
abbrev rmX1_become : Room := { frames := 1, cells := 0, slots := 0, locals := 30 }
theorem cdX1_become : (yX1_become).cls ≠ "java/lang/invoke/MethodHandle" ∧ (yX1_become).cls ≠ "java/lang/invoke/VarHandle" ∧ (parseMethodDescriptor (yX1_become).desc).map (fun d => d.parameters.length) = some 2 := by decide +kernel
def fX1_become_J17 (p1 p2 : Int64) (v5_17 : Int64) : Option (Int64 × Int64) :=
  zg (¬ v5_17 = 0) (zg (¬ v5_17 = 0) (some ((p1 / v5_17), (p2 / v5_17))))
def fX1_become (p1 p2 c_above c_below : Int64) : Option (Int64 × Int64) :=
  zb1 (fX10_greatestDivisor p1 p2) (fun r2 => if r2 = (0 : Int64) then (fX1_become_J17 p1 p2 (1 : Int64)) else (fX1_become_J17 p1 p2 r2))
set_option maxHeartbeats 4000000 in
set_option maxRecDepth 100000 in
theorem mX1_become (l : Launch) (D : va_G) (cy : Nat → ClassId) (sz : Nat) (b : Nat) (c_above c_below p1 p2 : Int64) (res : (Int64 × Int64)) (h : fX1_become p1 p2 c_above c_below = some res) : zMv l yX1_become wsX1_become rmX1_become [.ref b, .long p1, .long p2] D cy (wdX1_become cy b c_above c_below) sz  ((fun (o : (Int64 × Int64)) => (wdX1_become cy b (o.1) (o.2))) res) := by
  refine zOfv (res := res) (Wf := (fun (o : (Int64 × Int64)) => (wdX1_become cy b (o.1) (o.2)))) (by decide +kernel) rfl (Nat.le_of_ble_eq_true rfl) ?_
  intro p e s m args below meth c A ls Q hx hb hml hts hown hP hK hD hA hS hl hret
  have hown : s.vm.findClass RX1 = some m.cls := hown
  have hl : lv_has ls 7 [(0, .ref b), (1, .long p1), (3, .long p2)] := hl
  refine lv_lload_n hx hb dX1_become_0 rfl (lv_at hl 1 rfl) ?_
  refine lv_lload_n hx hb dX1_become_1 rfl (lv_at hl 2 rfl) ?_
  obtain ⟨r2, hq2, h⟩ := zb1_s h
  refine zCl0 (r0 := r2) (va_runSN (As := [.long p1, .long p2]) (rest := []) ⟨hx, hb, hml, hown, hts⟩ (mX10_greatestDivisor l D cy s.heap.size p1 p2 (r2) hq2) ⟨va_cnB 2 hts gX1_become_X10_greatestDivisor_n15 rfl rfl rfl (hK.2.at 7 rfl) (hts (.initialized RX10) (List.mem_of_getElem? (i := 4) rfl)) cdX10_greatestDivisor ⟨Nat.le_of_ble_eq_true rfl, Nat.le_of_ble_eq_true rfl⟩, (hts (.static yX10_greatestDivisor) (List.mem_of_getElem? (i := 3) rfl)), trivial⟩ (zPS hK hP hD [] rfl rfl) rfl rfl hl.1 rfl (lv_room (Nat.le_of_ble_eq_true rfl)) dX1_become_2 ⟨Nat.zero_le _, Nat.zero_le _⟩) hP hD hS hA (fun H locs hP hD hS => ?_)
  refine lv_lstore (lv' := [(5, .long r2), (0, .ref b), (1, .long p1), (3, .long p2)]) hx hb dX1_become_5 hl (Nat.le_of_ble_eq_true rfl) rfl (fun ls hl => ?_)
  refine lv_lload hx hb dX1_become_7 (lv_at hl 0 rfl) ?_
  refine lv_lconst (v := (0 : Int64)) hx hb dX1_become_9 (by decide) ?_
  refine W.lcmp hx hb dX1_become_10 ?_
  have hJ17 : ∀ (v5_17 : Int64) (H : Heap) (locs : List Loc) (ls : Array Slot), va_P D vwCl (wdX1_become cy b c_above c_below) H → va_D A (wdX1_become cy b c_above c_below) → va_S A s.heap H locs → lv_has ls 7 [(0, .ref b), (1, .long p1), (3, .long p2), (5, .long v5_17)] → fX1_become_J17 p1 p2 v5_17 = some res → W p l e rmX1_become s m args below meth c H locs 0 0 Q (F0 m 17 ls []) := by
    intro v5_17 H locs ls hP hD hS hl h
    refine lv_aload_n hx hb dX1_become_17 rfl (lv_at hl 0 rfl) ?_
    refine lv_lload_n hx hb dX1_become_18 rfl (lv_at hl 1 rfl) ?_
    refine lv_lload hx hb dX1_become_19 (lv_at hl 3 rfl) ?_
    obtain ⟨hz21, h⟩ := zg_s h
    refine lv_ldiv hx hb dX1_become_21 hz21 ?_
    refine va_put (D := D) (ci := 1) (v := .long (p1 / v5_17)) (ty := .long) (C := RX1) (T := TX1) (N := 2) hx hb hts uX1_become_X1 tyX1 tyX1_ok nmX1 hown hK.1 hP hD hS 0 rfl rfl 0 (by decide) (hts (.fieldLink RX1 19 "WishedResistor$Fraction" "above" "J") (List.mem_of_getElem? (i := 1) rfl)) (fun _ h9 => h9) rfl (by decide +kernel) rfl rfl (Nat.le_of_ble_eq_true rfl) dX1_become_22 (fun H locs hP hD hS => ?_)
    have hP : va_P D vwCl (wdX1_become cy b (p1 / v5_17) c_below) H := hP
    have hD : va_D A (wdX1_become cy b (p1 / v5_17) c_below) := hD
    refine lv_aload_n hx hb dX1_become_25 rfl (lv_at hl 0 rfl) ?_
    refine lv_lload_n hx hb dX1_become_26 rfl (lv_at hl 2 rfl) ?_
    refine lv_lload hx hb dX1_become_27 (lv_at hl 3 rfl) ?_
    obtain ⟨hz29, h⟩ := zg_s h
    refine lv_ldiv hx hb dX1_become_29 hz29 ?_
    refine va_put (D := D) (ci := 1) (v := .long (p2 / v5_17)) (ty := .long) (C := RX1) (T := TX1) (N := 2) hx hb hts uX1_become_X1 tyX1 tyX1_ok nmX1 hown hK.1 hP hD hS 0 rfl rfl 1 (by decide) (hts (.fieldLink RX1 9 "WishedResistor$Fraction" "below" "J") (List.mem_of_getElem? (i := 2) rfl)) (fun _ h9 => h9) rfl (by decide +kernel) rfl rfl (Nat.le_of_ble_eq_true rfl) dX1_become_30 (fun H locs hP hD hS => ?_)
    have hP : va_P D vwCl (wdX1_become cy b (p1 / v5_17) (p2 / v5_17)) H := hP
    have hD : va_D A (wdX1_become cy b (p1 / v5_17) (p2 / v5_17)) := hD
    exact hret (o := ((p1 / v5_17), (p2 / v5_17))) h hP hD hS dX1_become_33
  refine lv_if_ne (tgt := 17) hx hb dX1_become_11 (by decide) (fun hc11 => ?_) (fun hc11 => ?_)
  · replace hc11 := fun q => hc11 ((zc_eq _ _).mpr q)
    replace h := zi_f hc11 h
    exact hJ17 r2 _ _ _ hP hD hS (lv_sub hl [1, 2, 3, 0] rfl) h
  · replace hc11 := (zc_eq _ _).mp hc11
    replace h := zi_t hc11 h
    refine lv_lconst (v := (1 : Int64)) hx hb dX1_become_14 (by decide) ?_
    refine lv_lstore (lv' := [(5, .long (1 : Int64)), (0, .ref b), (1, .long p1), (3, .long p2)]) hx hb dX1_become_15 hl (Nat.le_of_ble_eq_true rfl) rfl (fun ls hl => ?_)
    exact hJ17 (1 : Int64) _ _ _ hP hD hS (lv_sub hl [1, 2, 3, 0] rfl) h

theorem uX1_copy_X1 : ∀ w ∈ u_ws RX1 TX1 2, w ∈ wsX1_copy := fun w h => (List.mem_cons_of_mem _ (List.mem_append_right _ h))
abbrev wdX1_copy (cy : Nat → ClassId) (bp1 b : Nat) (cp1_above cp1_below c_above c_below : Int64) : va_W := [(bp1, .inr (1, [.long cp1_above, .long cp1_below])), (b, .inr (1, [.long c_above, .long c_below]))]
abbrev rmX1_copy : Room := { frames := 0, cells := 0, slots := 0, locals := 0 }
theorem cdX1_copy : (yX1_copy).cls ≠ "java/lang/invoke/MethodHandle" ∧ (yX1_copy).cls ≠ "java/lang/invoke/VarHandle" ∧ (parseMethodDescriptor (yX1_copy).desc).map (fun d => d.parameters.length) = some 1 := by decide +kernel
def fX1_copy (cp1_above cp1_below c_above c_below : Int64) : Option (Int64 × Int64) :=
  some (cp1_above, cp1_below)
set_option maxHeartbeats 4000000 in
set_option maxRecDepth 100000 in
theorem mX1_copy (l : Launch) (D : va_G) (cy : Nat → ClassId) (sz : Nat) (bp1 b : Nat) (cp1_above cp1_below c_above c_below : Int64) (res : (Int64 × Int64)) (h : fX1_copy cp1_above cp1_below c_above c_below = some res) : zMv l yX1_copy wsX1_copy rmX1_copy [.ref b, .ref bp1] D cy (wdX1_copy cy bp1 b cp1_above cp1_below c_above c_below) sz  ((fun (o : (Int64 × Int64)) => (wdX1_copy cy bp1 b cp1_above cp1_below (o.1) (o.2))) res) := by
  refine zOfv (res := res) (Wf := (fun (o : (Int64 × Int64)) => (wdX1_copy cy bp1 b cp1_above cp1_below (o.1) (o.2)))) (by decide +kernel) rfl (Nat.le_of_ble_eq_true rfl) ?_
  intro p e s m args below meth c A ls Q hx hb hml hts hown hP hK hD hA hS hl hret
  have hown : s.vm.findClass RX1 = some m.cls := hown
  have hl : lv_has ls 2 [(0, .ref b), (1, .ref bp1)] := hl
  refine lv_aload_n hx hb dX1_copy_0 rfl (lv_at hl 0 rfl) ?_
  refine lv_aload_n hx hb dX1_copy_1 rfl (lv_at hl 1 rfl) ?_
  refine va_get (D := D) (ci := 1) (v := .long cp1_above) (C := RX1) (T := TX1) (N := 2) hx hb hts uX1_copy_X1 hown hK.1 hP 0 rfl rfl 0 (by decide) (hts (.fieldLink RX1 19 "WishedResistor$Fraction" "above" "J") (List.mem_of_getElem? (i := 1) rfl)) (fun _ h9 => h9) rfl dX1_copy_2 ?_
  refine va_put (D := D) (ci := 1) (v := .long cp1_above) (ty := .long) (C := RX1) (T := TX1) (N := 2) hx hb hts uX1_copy_X1 tyX1 tyX1_ok nmX1 hown hK.1 hP hD hS 1 rfl rfl 0 (by decide) (hts (.fieldLink RX1 19 "WishedResistor$Fraction" "above" "J") (List.mem_of_getElem? (i := 1) rfl)) (fun _ h9 => h9) rfl (by decide +kernel) rfl rfl (Nat.le_of_ble_eq_true rfl) dX1_copy_5 (fun H locs hP hD hS => ?_)
  have hP : va_P D vwCl (wdX1_copy cy bp1 b cp1_above cp1_below cp1_above c_below) H := hP
  have hD : va_D A (wdX1_copy cy bp1 b cp1_above cp1_below cp1_above c_below) := hD
  refine lv_aload_n hx hb dX1_copy_8 rfl (lv_at hl 0 rfl) ?_
  refine lv_aload_n hx hb dX1_copy_9 rfl (lv_at hl 1 rfl) ?_
  refine va_get (D := D) (ci := 1) (v := .long cp1_below) (C := RX1) (T := TX1) (N := 2) hx hb hts uX1_copy_X1 hown hK.1 hP 0 rfl rfl 1 (by decide) (hts (.fieldLink RX1 9 "WishedResistor$Fraction" "below" "J") (List.mem_of_getElem? (i := 2) rfl)) (fun _ h9 => h9) rfl dX1_copy_10 ?_
  refine va_put (D := D) (ci := 1) (v := .long cp1_below) (ty := .long) (C := RX1) (T := TX1) (N := 2) hx hb hts uX1_copy_X1 tyX1 tyX1_ok nmX1 hown hK.1 hP hD hS 1 rfl rfl 1 (by decide) (hts (.fieldLink RX1 9 "WishedResistor$Fraction" "below" "J") (List.mem_of_getElem? (i := 2) rfl)) (fun _ h9 => h9) rfl (by decide +kernel) rfl rfl (Nat.le_of_ble_eq_true rfl) dX1_copy_13 (fun H locs hP hD hS => ?_)
  have hP : va_P D vwCl (wdX1_copy cy bp1 b cp1_above cp1_below cp1_above cp1_below) H := hP
  have hD : va_D A (wdX1_copy cy bp1 b cp1_above cp1_below cp1_above cp1_below) := hD
  exact hret (o := (cp1_above, cp1_below)) h hP hD hS dX1_copy_16

theorem uX1_side_X1 : ∀ w ∈ u_ws RX1 TX1 2, w ∈ wsX1_side := fun w h => (List.mem_cons_of_mem _ (List.mem_append_right _ h))
abbrev wdX1_side (cy : Nat → ClassId) (b : Nat) (c_above c_below : Int64) : va_W := [(b, .inr (1, [.long c_above, .long c_below]))]
abbrev rmX1_side : Room := { frames := 0, cells := 0, slots := 0, locals := 0 }
theorem cdX1_side : (yX1_side).cls ≠ "java/lang/invoke/MethodHandle" ∧ (yX1_side).cls ≠ "java/lang/invoke/VarHandle" ∧ (parseMethodDescriptor (yX1_side).desc).map (fun d => d.parameters.length) = some 1 := by decide +kernel
def fX1_side (p1 : Int32) (c_above c_below : Int64) : Option (Int64) :=
  if p1 = 0 then (some (c_above)) else (some (c_below))
set_option maxHeartbeats 4000000 in
set_option maxRecDepth 100000 in
theorem mX1_side (l : Launch) (D : va_G) (cy : Nat → ClassId) (sz : Nat) (b : Nat) (c_above c_below : Int64) (p1 : Int32) (res : (Int64)) (h : fX1_side p1 c_above c_below = some res) : zMl l yX1_side wsX1_side rmX1_side [.ref b, .int p1] D cy (wdX1_side cy b c_above c_below) sz ((fun (o : (Int64)) => o) res) ((fun (o : (Int64)) => (wdX1_side cy b c_above c_below)) res) := by
  refine zOfl (res := res) (rf := (fun (o : (Int64)) => o)) (Wf := (fun (o : (Int64)) => (wdX1_side cy b c_above c_below))) (by decide +kernel) rfl (Nat.le_of_ble_eq_true rfl) ?_
  intro p e s m args below meth c A ls Q hx hb hml hts hown hP hK hD hA hS hl hret
  have hown : s.vm.findClass RX1 = some m.cls := hown
  have hl : lv_has ls 2 [(0, .ref b), (1, .int p1)] := hl
  refine lv_iload_n hx hb dX1_side_0 rfl (lv_at hl 1 rfl) ?_
  refine lv_if_ne (tgt := 11) hx hb dX1_side_1 (by decide) (fun hc1 => ?_) (fun hc1 => ?_)
  · replace h := zi_f hc1 h
    refine lv_aload_n hx hb dX1_side_11 rfl (lv_at hl 0 rfl) ?_
    refine va_get (D := D) (ci := 1) (v := .long c_below) (C := RX1) (T := TX1) (N := 2) hx hb hts uX1_side_X1 hown hK.1 hP 0 rfl rfl 1 (by decide) (hts (.fieldLink RX1 9 "WishedResistor$Fraction" "below" "J") (List.mem_of_getElem? (i := 2) rfl)) (fun _ h9 => h9) rfl dX1_side_12 ?_
    exact hret (o := (c_below)) h hP hD hS dX1_side_15
  · replace h := zi_t hc1 h
    refine lv_aload_n hx hb dX1_side_4 rfl (lv_at hl 0 rfl) ?_
    refine va_get (D := D) (ci := 1) (v := .long c_above) (C := RX1) (T := TX1) (N := 2) hx hb hts uX1_side_X1 hown hK.1 hP 0 rfl rfl 0 (by decide) (hts (.fieldLink RX1 19 "WishedResistor$Fraction" "above" "J") (List.mem_of_getElem? (i := 1) rfl)) (fun _ h9 => h9) rfl dX1_side_5 ?_
    refine lv_goto (tgt := 15) hx hb dX1_side_8 (by decide) ?_
    exact hret (o := (c_above)) h hP hD hS dX1_side_15

theorem uX1_isLong_X1 : ∀ w ∈ u_ws RX1 TX1 2, w ∈ wsX1_isLong := fun w h => (List.mem_cons_of_mem _ (List.mem_append_right _ h))
abbrev wdX1_isLong (cy : Nat → ClassId) (b : Nat) (c_above c_below : Int64) : va_W := [(b, .inr (1, [.long c_above, .long c_below]))]
abbrev rmX1_isLong : Room := { frames := 0, cells := 0, slots := 0, locals := 0 }
theorem cdX1_isLong : (yX1_isLong).cls ≠ "java/lang/invoke/MethodHandle" ∧ (yX1_isLong).cls ≠ "java/lang/invoke/VarHandle" ∧ (parseMethodDescriptor (yX1_isLong).desc).map (fun d => d.parameters.length) = some 0 := by decide +kernel
def fX1_isLong (c_above c_below : Int64) : Option (Int32) :=
  if (1000000000 : Int64) < c_above then (some ((1 : Int32))) else (if c_below ≤ (1000000000 : Int64) then (some ((0 : Int32))) else (some ((1 : Int32))))
set_option maxHeartbeats 4000000 in
set_option maxRecDepth 100000 in
theorem mX1_isLong (l : Launch) (D : va_G) (cy : Nat → ClassId) (sz : Nat) (b : Nat) (c_above c_below : Int64) (res : (Int32)) (h : fX1_isLong c_above c_below = some res) : zMz l yX1_isLong wsX1_isLong rmX1_isLong [.ref b] D cy (wdX1_isLong cy b c_above c_below) sz ((fun (o : (Int32)) => o) res) ((fun (o : (Int32)) => (wdX1_isLong cy b c_above c_below)) res) := by
  refine zOfz (res := res) (rf := (fun (o : (Int32)) => o)) (Wf := (fun (o : (Int32)) => (wdX1_isLong cy b c_above c_below))) (by decide +kernel) rfl (Nat.le_of_ble_eq_true rfl) ?_
  intro p e s m args below meth c A ls Q hx hb hml hts hown hP hK hD hA hS hl hret
  have hown : s.vm.findClass RX1 = some m.cls := hown
  have hl : lv_has ls 1 [(0, .ref b)] := hl
  refine lv_aload_n hx hb dX1_isLong_0 rfl (lv_at hl 0 rfl) ?_
  refine va_get (D := D) (ci := 1) (v := .long c_above) (C := RX1) (T := TX1) (N := 2) hx hb hts uX1_isLong_X1 hown hK.1 hP 0 rfl rfl 0 (by decide) (hts (.fieldLink RX1 19 "WishedResistor$Fraction" "above" "J") (List.mem_of_getElem? (i := 1) rfl)) (fun _ h9 => h9) rfl dX1_isLong_1 ?_
  refine lv_ldc2 hx hb hown (hts (.constantLong RX1 22 (1000000000)) (List.mem_of_getElem? (i := 2) rfl)) dX1_isLong_4 ?_
  refine W.lcmp hx hb dX1_isLong_7 ?_
  refine lv_if_gt (tgt := 22) hx hb dX1_isLong_8 (by decide) (fun hc8 => ?_) (fun hc8 => ?_)
  · replace hc8 := (zc_gt _ _).mp hc8
    replace h := zi_t hc8 h
    refine lv_iconst (v := (1 : Int32)) hx hb dX1_isLong_22 (by decide) ?_
    refine lv_goto (tgt := 27) hx hb dX1_isLong_23 (by decide) ?_
    exact hret (o := ((1 : Int32))) h (show narrow .boolean (.int (1 : Int32)) = .int (1 : Int32) from by decide) hP hD hS dX1_isLong_27
  · replace hc8 := fun q => hc8 ((zc_gt _ _).mpr q)
    replace h := zi_f hc8 h
    refine lv_aload_n hx hb dX1_isLong_11 rfl (lv_at hl 0 rfl) ?_
    refine va_get (D := D) (ci := 1) (v := .long c_below) (C := RX1) (T := TX1) (N := 2) hx hb hts uX1_isLong_X1 hown hK.1 hP 0 rfl rfl 1 (by decide) (hts (.fieldLink RX1 9 "WishedResistor$Fraction" "below" "J") (List.mem_of_getElem? (i := 3) rfl)) (fun _ h9 => h9) rfl dX1_isLong_12 ?_
    refine lv_ldc2 hx hb hown (hts (.constantLong RX1 22 (1000000000)) (List.mem_of_getElem? (i := 2) rfl)) dX1_isLong_15 ?_
    refine W.lcmp hx hb dX1_isLong_18 ?_
    refine lv_if_le (tgt := 26) hx hb dX1_isLong_19 (by decide) (fun hc19 => ?_) (fun hc19 => ?_)
    · replace hc19 := (zc_le _ _).mp hc19
      replace h := zi_t hc19 h
      refine lv_iconst (v := (0 : Int32)) hx hb dX1_isLong_26 (by decide) ?_
      exact hret (o := ((0 : Int32))) h (show narrow .boolean (.int (0 : Int32)) = .int (0 : Int32) from by decide) hP hD hS dX1_isLong_27
    · replace hc19 := fun q => hc19 ((zc_le _ _).mpr q)
      replace h := zi_f hc19 h
      refine lv_iconst (v := (1 : Int32)) hx hb dX1_isLong_22 (by decide) ?_
      refine lv_goto (tgt := 27) hx hb dX1_isLong_23 (by decide) ?_
      exact hret (o := ((1 : Int32))) h (show narrow .boolean (.int (1 : Int32)) = .int (1 : Int32) from by decide) hP hD hS dX1_isLong_27

theorem uX1_addInSeries_X1 : ∀ w ∈ u_ws RX1 TX1 2, w ∈ wsX1_addInSeries := fun w h => (List.mem_cons_of_mem _ (List.mem_append_right _ h))
abbrev wdX1_addInSeries (cy : Nat → ClassId) (b bp1 : Nat) (c_above c_below cp1_above cp1_below : Int64) : va_W := [(b, .inr (1, [.long c_above, .long c_below])), (bp1, .inr (1, [.long cp1_above, .long cp1_below]))]
abbrev rmX1_addInSeries : Room := { frames := 2, cells := 0, slots := 0, locals := 56 }
theorem cdX1_addInSeries : (yX1_addInSeries).cls ≠ "java/lang/invoke/MethodHandle" ∧ (yX1_addInSeries).cls ≠ "java/lang/invoke/VarHandle" ∧ (parseMethodDescriptor (yX1_addInSeries).desc).map (fun d => d.parameters.length) = some 1 := by decide +kernel
def fX1_addInSeries_J18 (c_above c_below : Int64)  : Option (Int64 × Int64) :=
  zb2 (fX1_become (1 : Int64) (0 : Int64) c_above c_below) (fun c_above_r21 c_below_r21 => some (c_above_r21, c_below_r21))
def fX1_addInSeries (c_above c_below cp1_above cp1_below : Int64) : Option (Int64 × Int64) :=
  if c_below = (0 : Int64) then (fX1_addInSeries_J18 c_above c_below) else (if cp1_below = (0 : Int64) then (fX1_addInSeries_J18 c_above c_below) else (zb2 (fX1_become ((c_above * cp1_below) + (cp1_above * c_below)) (c_below * cp1_below) c_above c_below) (fun c_above_r56 c_below_r56 => some (c_above_r56, c_below_r56))))
set_option maxHeartbeats 4000000 in
set_option maxRecDepth 100000 in
theorem mX1_addInSeries (l : Launch) (D : va_G) (cy : Nat → ClassId) (sz : Nat) (b bp1 : Nat) (c_above c_below cp1_above cp1_below : Int64) (res : (Int64 × Int64)) (h : fX1_addInSeries c_above c_below cp1_above cp1_below = some res) : zMv l yX1_addInSeries wsX1_addInSeries rmX1_addInSeries [.ref b, .ref bp1] D cy (wdX1_addInSeries cy b bp1 c_above c_below cp1_above cp1_below) sz  ((fun (o : (Int64 × Int64)) => (wdX1_addInSeries cy b bp1 (o.1) (o.2) cp1_above cp1_below)) res) := by
  refine zOfv (res := res) (Wf := (fun (o : (Int64 × Int64)) => (wdX1_addInSeries cy b bp1 (o.1) (o.2) cp1_above cp1_below))) (by decide +kernel) rfl (Nat.le_of_ble_eq_true rfl) ?_
  intro p e s m args below meth c A ls Q hx hb hml hts hown hP hK hD hA hS hl hret
  have hown : s.vm.findClass RX1 = some m.cls := hown
  have hl : lv_has ls 2 [(0, .ref b), (1, .ref bp1)] := hl
  refine lv_aload_n hx hb dX1_addInSeries_0 rfl (lv_at hl 0 rfl) ?_
  refine va_get (D := D) (ci := 1) (v := .long c_below) (C := RX1) (T := TX1) (N := 2) hx hb hts uX1_addInSeries_X1 hown hK.1 hP 0 rfl rfl 1 (by decide) (hts (.fieldLink RX1 9 "WishedResistor$Fraction" "below" "J") (List.mem_of_getElem? (i := 1) rfl)) (fun _ h9 => h9) rfl dX1_addInSeries_1 ?_
  refine lv_lconst (v := (0 : Int64)) hx hb dX1_addInSeries_4 (by decide) ?_
  refine W.lcmp hx hb dX1_addInSeries_5 ?_
  have hJ18 : ∀  (H : Heap) (locs : List Loc) (ls : Array Slot), va_P D vwCl (wdX1_addInSeries cy b bp1 c_above c_below cp1_above cp1_below) H → va_D A (wdX1_addInSeries cy b bp1 c_above c_below cp1_above cp1_below) → va_S A s.heap H locs → lv_has ls 2 [(0, .ref b)] → fX1_addInSeries_J18 c_above c_below = some res → W p l e rmX1_addInSeries s m args below meth c H locs 0 0 Q (F0 m 18 ls []) := by
    intro  H locs ls hP hD hS hl h
    refine lv_aload_n hx hb dX1_addInSeries_18 rfl (lv_at hl 0 rfl) ?_
    refine lv_lconst (v := (1 : Int64)) hx hb dX1_addInSeries_19 (by decide) ?_
    refine lv_lconst (v := (0 : Int64)) hx hb dX1_addInSeries_20 (by decide) ?_
    obtain ⟨c_above_r21, c_below_r21, hq21, h⟩ := zb2_s h
    refine zCv (w1 := (wdX1_become cy b c_above_r21 c_below_r21)) (ws' := (wdX1_addInSeries cy b bp1 c_above_r21 c_below_r21 cp1_above cp1_below)) (va_runV (As := [.long (1 : Int64), .long (0 : Int64)]) (rest := []) ⟨hx, hb, hml, hown, hts⟩ (mX1_become l D cy H.size b c_above c_below (1 : Int64) (0 : Int64) (c_above_r21, c_below_r21) hq21) (cwV 2 hts gX1_addInSeries_X1_become rfl rfl rfl ⟨rfl, cdX1_become⟩ ⟨Nat.le_of_ble_eq_true rfl, Nat.le_of_ble_eq_true rfl⟩) (zPV hK hP hD [0] rfl rfl (q0 := 0) (ci := 1) rfl rfl rfl) rfl rfl hl.1 rfl (lv_room (Nat.le_of_ble_eq_true rfl)) dX1_addInSeries_21 ⟨Nat.zero_le _, Nat.zero_le _⟩) hP hD hS hA [0] [1] [1, 0] rfl rfl rfl rfl (fun H locs hP hD hS => ?_)
    refine lv_goto (tgt := 59) hx hb dX1_addInSeries_24 (by decide) ?_
    exact hret (o := (c_above_r21, c_below_r21)) h hP hD hS dX1_addInSeries_59
  refine lv_if_eq (tgt := 18) hx hb dX1_addInSeries_6 (by decide) (fun hc6 => ?_) (fun hc6 => ?_)
  · replace hc6 := (zc_eq _ _).mp hc6
    replace h := zi_t hc6 h
    exact hJ18 _ _ _ hP hD hS (lv_sub hl [0] rfl) h
  · replace hc6 := fun q => hc6 ((zc_eq _ _).mpr q)
    replace h := zi_f hc6 h
    refine lv_aload_n hx hb dX1_addInSeries_9 rfl (lv_at hl 1 rfl) ?_
    refine va_get (D := D) (ci := 1) (v := .long cp1_below) (C := RX1) (T := TX1) (N := 2) hx hb hts uX1_addInSeries_X1 hown hK.1 hP 1 rfl rfl 1 (by decide) (hts (.fieldLink RX1 9 "WishedResistor$Fraction" "below" "J") (List.mem_of_getElem? (i := 1) rfl)) (fun _ h9 => h9) rfl dX1_addInSeries_10 ?_
    refine lv_lconst (v := (0 : Int64)) hx hb dX1_addInSeries_13 (by decide) ?_
    refine W.lcmp hx hb dX1_addInSeries_14 ?_
    refine lv_if_ne (tgt := 27) hx hb dX1_addInSeries_15 (by decide) (fun hc15 => ?_) (fun hc15 => ?_)
    · replace hc15 := fun q => hc15 ((zc_eq _ _).mpr q)
      replace h := zi_f hc15 h
      refine lv_aload_n hx hb dX1_addInSeries_27 rfl (lv_at hl 0 rfl) ?_
      refine lv_aload_n hx hb dX1_addInSeries_28 rfl (lv_at hl 0 rfl) ?_
      refine va_get (D := D) (ci := 1) (v := .long c_above) (C := RX1) (T := TX1) (N := 2) hx hb hts uX1_addInSeries_X1 hown hK.1 hP 0 rfl rfl 0 (by decide) (hts (.fieldLink RX1 19 "WishedResistor$Fraction" "above" "J") (List.mem_of_getElem? (i := 2) rfl)) (fun _ h9 => h9) rfl dX1_addInSeries_29 ?_
      refine lv_aload_n hx hb dX1_addInSeries_32 rfl (lv_at hl 1 rfl) ?_
      refine va_get (D := D) (ci := 1) (v := .long cp1_below) (C := RX1) (T := TX1) (N := 2) hx hb hts uX1_addInSeries_X1 hown hK.1 hP 1 rfl rfl 1 (by decide) (hts (.fieldLink RX1 9 "WishedResistor$Fraction" "below" "J") (List.mem_of_getElem? (i := 1) rfl)) (fun _ h9 => h9) rfl dX1_addInSeries_33 ?_
      refine lv_lmul hx hb dX1_addInSeries_36 ?_
      refine lv_aload_n hx hb dX1_addInSeries_37 rfl (lv_at hl 1 rfl) ?_
      refine va_get (D := D) (ci := 1) (v := .long cp1_above) (C := RX1) (T := TX1) (N := 2) hx hb hts uX1_addInSeries_X1 hown hK.1 hP 1 rfl rfl 0 (by decide) (hts (.fieldLink RX1 19 "WishedResistor$Fraction" "above" "J") (List.mem_of_getElem? (i := 2) rfl)) (fun _ h9 => h9) rfl dX1_addInSeries_38 ?_
      refine lv_aload_n hx hb dX1_addInSeries_41 rfl (lv_at hl 0 rfl) ?_
      refine va_get (D := D) (ci := 1) (v := .long c_below) (C := RX1) (T := TX1) (N := 2) hx hb hts uX1_addInSeries_X1 hown hK.1 hP 0 rfl rfl 1 (by decide) (hts (.fieldLink RX1 9 "WishedResistor$Fraction" "below" "J") (List.mem_of_getElem? (i := 1) rfl)) (fun _ h9 => h9) rfl dX1_addInSeries_42 ?_
      refine lv_lmul hx hb dX1_addInSeries_45 ?_
      refine lv_ladd hx hb dX1_addInSeries_46 ?_
      refine lv_aload_n hx hb dX1_addInSeries_47 rfl (lv_at hl 0 rfl) ?_
      refine va_get (D := D) (ci := 1) (v := .long c_below) (C := RX1) (T := TX1) (N := 2) hx hb hts uX1_addInSeries_X1 hown hK.1 hP 0 rfl rfl 1 (by decide) (hts (.fieldLink RX1 9 "WishedResistor$Fraction" "below" "J") (List.mem_of_getElem? (i := 1) rfl)) (fun _ h9 => h9) rfl dX1_addInSeries_48 ?_
      refine lv_aload_n hx hb dX1_addInSeries_51 rfl (lv_at hl 1 rfl) ?_
      refine va_get (D := D) (ci := 1) (v := .long cp1_below) (C := RX1) (T := TX1) (N := 2) hx hb hts uX1_addInSeries_X1 hown hK.1 hP 1 rfl rfl 1 (by decide) (hts (.fieldLink RX1 9 "WishedResistor$Fraction" "below" "J") (List.mem_of_getElem? (i := 1) rfl)) (fun _ h9 => h9) rfl dX1_addInSeries_52 ?_
      refine lv_lmul hx hb dX1_addInSeries_55 ?_
      obtain ⟨c_above_r56, c_below_r56, hq56, h⟩ := zb2_s h
      refine zCv (w1 := (wdX1_become cy b c_above_r56 c_below_r56)) (ws' := (wdX1_addInSeries cy b bp1 c_above_r56 c_below_r56 cp1_above cp1_below)) (va_runV (As := [.long ((c_above * cp1_below) + (cp1_above * c_below)), .long (c_below * cp1_below)]) (rest := []) ⟨hx, hb, hml, hown, hts⟩ (mX1_become l D cy s.heap.size b c_above c_below ((c_above * cp1_below) + (cp1_above * c_below)) (c_below * cp1_below) (c_above_r56, c_below_r56) hq56) (cwV 2 hts gX1_addInSeries_X1_become rfl rfl rfl ⟨rfl, cdX1_become⟩ ⟨Nat.le_of_ble_eq_true rfl, Nat.le_of_ble_eq_true rfl⟩) (zPV hK hP hD [0] rfl rfl (q0 := 0) (ci := 1) rfl rfl rfl) rfl rfl hl.1 rfl (lv_room (Nat.le_of_ble_eq_true rfl)) dX1_addInSeries_56 ⟨Nat.zero_le _, Nat.zero_le _⟩) hP hD hS hA [0] [1] [1, 0] rfl rfl rfl rfl (fun H locs hP hD hS => ?_)
      exact hret (o := (c_above_r56, c_below_r56)) h hP hD hS dX1_addInSeries_59
    · replace hc15 := (zc_eq _ _).mp hc15
      replace h := zi_t hc15 h
      exact hJ18 _ _ _ hP hD hS (lv_sub hl [0] rfl) h

theorem uX1_addBeside_X1 : ∀ w ∈ u_ws RX1 TX1 2, w ∈ wsX1_addBeside := fun w h => (List.mem_cons_of_mem _ (List.mem_append_right _ h))
abbrev wdX1_addBeside (cy : Nat → ClassId) (b bp1 : Nat) (c_above c_below cp1_above cp1_below : Int64) : va_W := [(b, .inr (1, [.long c_above, .long c_below])), (bp1, .inr (1, [.long cp1_above, .long cp1_below]))]
abbrev rmX1_addBeside : Room := { frames := 2, cells := 0, slots := 0, locals := 56 }
theorem cdX1_addBeside : (yX1_addBeside).cls ≠ "java/lang/invoke/MethodHandle" ∧ (yX1_addBeside).cls ≠ "java/lang/invoke/VarHandle" ∧ (parseMethodDescriptor (yX1_addBeside).desc).map (fun d => d.parameters.length) = some 1 := by decide +kernel
def fX1_addBeside_J18 (c_above c_below : Int64)  : Option (Int64 × Int64) :=
  zb2 (fX1_become (0 : Int64) (1 : Int64) c_above c_below) (fun c_above_r21 c_below_r21 => some (c_above_r21, c_below_r21))
def fX1_addBeside (c_above c_below cp1_above cp1_below : Int64) : Option (Int64 × Int64) :=
  if c_above = (0 : Int64) then (fX1_addBeside_J18 c_above c_below) else (if cp1_above = (0 : Int64) then (fX1_addBeside_J18 c_above c_below) else (if c_below = (0 : Int64) then (zb2 (fX1_copy cp1_above cp1_below c_above c_below) (fun c_above_r38 c_below_r38 => some (c_above_r38, c_below_r38))) else (if cp1_below = (0 : Int64) then (some (c_above, c_below)) else (zb2 (fX1_become (c_above * cp1_above) ((c_above * cp1_below) + (cp1_above * c_below)) c_above c_below) (fun c_above_r82 c_below_r82 => some (c_above_r82, c_below_r82))))))
set_option maxHeartbeats 4000000 in
set_option maxRecDepth 100000 in
theorem mX1_addBeside (l : Launch) (D : va_G) (cy : Nat → ClassId) (sz : Nat) (b bp1 : Nat) (c_above c_below cp1_above cp1_below : Int64) (res : (Int64 × Int64)) (h : fX1_addBeside c_above c_below cp1_above cp1_below = some res) : zMv l yX1_addBeside wsX1_addBeside rmX1_addBeside [.ref b, .ref bp1] D cy (wdX1_addBeside cy b bp1 c_above c_below cp1_above cp1_below) sz  ((fun (o : (Int64 × Int64)) => (wdX1_addBeside cy b bp1 (o.1) (o.2) cp1_above cp1_below)) res) := by
  refine zOfv (res := res) (Wf := (fun (o : (Int64 × Int64)) => (wdX1_addBeside cy b bp1 (o.1) (o.2) cp1_above cp1_below))) (by decide +kernel) rfl (Nat.le_of_ble_eq_true rfl) ?_
  intro p e s m args below meth c A ls Q hx hb hml hts hown hP hK hD hA hS hl hret
  have hown : s.vm.findClass RX1 = some m.cls := hown
  have hl : lv_has ls 2 [(0, .ref b), (1, .ref bp1)] := hl
  refine lv_aload_n hx hb dX1_addBeside_0 rfl (lv_at hl 0 rfl) ?_
  refine va_get (D := D) (ci := 1) (v := .long c_above) (C := RX1) (T := TX1) (N := 2) hx hb hts uX1_addBeside_X1 hown hK.1 hP 0 rfl rfl 0 (by decide) (hts (.fieldLink RX1 19 "WishedResistor$Fraction" "above" "J") (List.mem_of_getElem? (i := 1) rfl)) (fun _ h9 => h9) rfl dX1_addBeside_1 ?_
  refine lv_lconst (v := (0 : Int64)) hx hb dX1_addBeside_4 (by decide) ?_
  refine W.lcmp hx hb dX1_addBeside_5 ?_
  have hJ18 : ∀  (H : Heap) (locs : List Loc) (ls : Array Slot), va_P D vwCl (wdX1_addBeside cy b bp1 c_above c_below cp1_above cp1_below) H → va_D A (wdX1_addBeside cy b bp1 c_above c_below cp1_above cp1_below) → va_S A s.heap H locs → lv_has ls 2 [(0, .ref b)] → fX1_addBeside_J18 c_above c_below = some res → W p l e rmX1_addBeside s m args below meth c H locs 0 0 Q (F0 m 18 ls []) := by
    intro  H locs ls hP hD hS hl h
    refine lv_aload_n hx hb dX1_addBeside_18 rfl (lv_at hl 0 rfl) ?_
    refine lv_lconst (v := (0 : Int64)) hx hb dX1_addBeside_19 (by decide) ?_
    refine lv_lconst (v := (1 : Int64)) hx hb dX1_addBeside_20 (by decide) ?_
    obtain ⟨c_above_r21, c_below_r21, hq21, h⟩ := zb2_s h
    refine zCv (w1 := (wdX1_become cy b c_above_r21 c_below_r21)) (ws' := (wdX1_addBeside cy b bp1 c_above_r21 c_below_r21 cp1_above cp1_below)) (va_runV (As := [.long (0 : Int64), .long (1 : Int64)]) (rest := []) ⟨hx, hb, hml, hown, hts⟩ (mX1_become l D cy H.size b c_above c_below (0 : Int64) (1 : Int64) (c_above_r21, c_below_r21) hq21) (cwV 2 hts gX1_addBeside_X1_become rfl rfl rfl ⟨rfl, cdX1_become⟩ ⟨Nat.le_of_ble_eq_true rfl, Nat.le_of_ble_eq_true rfl⟩) (zPV hK hP hD [0] rfl rfl (q0 := 0) (ci := 1) rfl rfl rfl) rfl rfl hl.1 rfl (lv_room (Nat.le_of_ble_eq_true rfl)) dX1_addBeside_21 ⟨Nat.zero_le _, Nat.zero_le _⟩) hP hD hS hA [0] [1] [1, 0] rfl rfl rfl rfl (fun H locs hP hD hS => ?_)
    refine lv_goto (tgt := 85) hx hb dX1_addBeside_24 (by decide) ?_
    exact hret (o := (c_above_r21, c_below_r21)) h hP hD hS dX1_addBeside_85
  refine lv_if_eq (tgt := 18) hx hb dX1_addBeside_6 (by decide) (fun hc6 => ?_) (fun hc6 => ?_)
  · replace hc6 := (zc_eq _ _).mp hc6
    replace h := zi_t hc6 h
    exact hJ18 _ _ _ hP hD hS (lv_sub hl [0] rfl) h
  · replace hc6 := fun q => hc6 ((zc_eq _ _).mpr q)
    replace h := zi_f hc6 h
    refine lv_aload_n hx hb dX1_addBeside_9 rfl (lv_at hl 1 rfl) ?_
    refine va_get (D := D) (ci := 1) (v := .long cp1_above) (C := RX1) (T := TX1) (N := 2) hx hb hts uX1_addBeside_X1 hown hK.1 hP 1 rfl rfl 0 (by decide) (hts (.fieldLink RX1 19 "WishedResistor$Fraction" "above" "J") (List.mem_of_getElem? (i := 1) rfl)) (fun _ h9 => h9) rfl dX1_addBeside_10 ?_
    refine lv_lconst (v := (0 : Int64)) hx hb dX1_addBeside_13 (by decide) ?_
    refine W.lcmp hx hb dX1_addBeside_14 ?_
    refine lv_if_ne (tgt := 27) hx hb dX1_addBeside_15 (by decide) (fun hc15 => ?_) (fun hc15 => ?_)
    · replace hc15 := fun q => hc15 ((zc_eq _ _).mpr q)
      replace h := zi_f hc15 h
      refine lv_aload_n hx hb dX1_addBeside_27 rfl (lv_at hl 0 rfl) ?_
      refine va_get (D := D) (ci := 1) (v := .long c_below) (C := RX1) (T := TX1) (N := 2) hx hb hts uX1_addBeside_X1 hown hK.1 hP 0 rfl rfl 1 (by decide) (hts (.fieldLink RX1 9 "WishedResistor$Fraction" "below" "J") (List.mem_of_getElem? (i := 2) rfl)) (fun _ h9 => h9) rfl dX1_addBeside_28 ?_
      refine lv_lconst (v := (0 : Int64)) hx hb dX1_addBeside_31 (by decide) ?_
      refine W.lcmp hx hb dX1_addBeside_32 ?_
      refine lv_if_ne (tgt := 44) hx hb dX1_addBeside_33 (by decide) (fun hc33 => ?_) (fun hc33 => ?_)
      · replace hc33 := fun q => hc33 ((zc_eq _ _).mpr q)
        replace h := zi_f hc33 h
        refine lv_aload_n hx hb dX1_addBeside_44 rfl (lv_at hl 1 rfl) ?_
        refine va_get (D := D) (ci := 1) (v := .long cp1_below) (C := RX1) (T := TX1) (N := 2) hx hb hts uX1_addBeside_X1 hown hK.1 hP 1 rfl rfl 1 (by decide) (hts (.fieldLink RX1 9 "WishedResistor$Fraction" "below" "J") (List.mem_of_getElem? (i := 2) rfl)) (fun _ h9 => h9) rfl dX1_addBeside_45 ?_
        refine lv_lconst (v := (0 : Int64)) hx hb dX1_addBeside_48 (by decide) ?_
        refine W.lcmp hx hb dX1_addBeside_49 ?_
        refine lv_if_eq (tgt := 85) hx hb dX1_addBeside_50 (by decide) (fun hc50 => ?_) (fun hc50 => ?_)
        · replace hc50 := (zc_eq _ _).mp hc50
          replace h := zi_t hc50 h
          exact hret (o := (c_above, c_below)) h hP hD hS dX1_addBeside_85
        · replace hc50 := fun q => hc50 ((zc_eq _ _).mpr q)
          replace h := zi_f hc50 h
          refine lv_aload_n hx hb dX1_addBeside_53 rfl (lv_at hl 0 rfl) ?_
          refine lv_aload_n hx hb dX1_addBeside_54 rfl (lv_at hl 0 rfl) ?_
          refine va_get (D := D) (ci := 1) (v := .long c_above) (C := RX1) (T := TX1) (N := 2) hx hb hts uX1_addBeside_X1 hown hK.1 hP 0 rfl rfl 0 (by decide) (hts (.fieldLink RX1 19 "WishedResistor$Fraction" "above" "J") (List.mem_of_getElem? (i := 1) rfl)) (fun _ h9 => h9) rfl dX1_addBeside_55 ?_
          refine lv_aload_n hx hb dX1_addBeside_58 rfl (lv_at hl 1 rfl) ?_
          refine va_get (D := D) (ci := 1) (v := .long cp1_above) (C := RX1) (T := TX1) (N := 2) hx hb hts uX1_addBeside_X1 hown hK.1 hP 1 rfl rfl 0 (by decide) (hts (.fieldLink RX1 19 "WishedResistor$Fraction" "above" "J") (List.mem_of_getElem? (i := 1) rfl)) (fun _ h9 => h9) rfl dX1_addBeside_59 ?_
          refine lv_lmul hx hb dX1_addBeside_62 ?_
          refine lv_aload_n hx hb dX1_addBeside_63 rfl (lv_at hl 0 rfl) ?_
          refine va_get (D := D) (ci := 1) (v := .long c_above) (C := RX1) (T := TX1) (N := 2) hx hb hts uX1_addBeside_X1 hown hK.1 hP 0 rfl rfl 0 (by decide) (hts (.fieldLink RX1 19 "WishedResistor$Fraction" "above" "J") (List.mem_of_getElem? (i := 1) rfl)) (fun _ h9 => h9) rfl dX1_addBeside_64 ?_
          refine lv_aload_n hx hb dX1_addBeside_67 rfl (lv_at hl 1 rfl) ?_
          refine va_get (D := D) (ci := 1) (v := .long cp1_below) (C := RX1) (T := TX1) (N := 2) hx hb hts uX1_addBeside_X1 hown hK.1 hP 1 rfl rfl 1 (by decide) (hts (.fieldLink RX1 9 "WishedResistor$Fraction" "below" "J") (List.mem_of_getElem? (i := 2) rfl)) (fun _ h9 => h9) rfl dX1_addBeside_68 ?_
          refine lv_lmul hx hb dX1_addBeside_71 ?_
          refine lv_aload_n hx hb dX1_addBeside_72 rfl (lv_at hl 1 rfl) ?_
          refine va_get (D := D) (ci := 1) (v := .long cp1_above) (C := RX1) (T := TX1) (N := 2) hx hb hts uX1_addBeside_X1 hown hK.1 hP 1 rfl rfl 0 (by decide) (hts (.fieldLink RX1 19 "WishedResistor$Fraction" "above" "J") (List.mem_of_getElem? (i := 1) rfl)) (fun _ h9 => h9) rfl dX1_addBeside_73 ?_
          refine lv_aload_n hx hb dX1_addBeside_76 rfl (lv_at hl 0 rfl) ?_
          refine va_get (D := D) (ci := 1) (v := .long c_below) (C := RX1) (T := TX1) (N := 2) hx hb hts uX1_addBeside_X1 hown hK.1 hP 0 rfl rfl 1 (by decide) (hts (.fieldLink RX1 9 "WishedResistor$Fraction" "below" "J") (List.mem_of_getElem? (i := 2) rfl)) (fun _ h9 => h9) rfl dX1_addBeside_77 ?_
          refine lv_lmul hx hb dX1_addBeside_80 ?_
          refine lv_ladd hx hb dX1_addBeside_81 ?_
          obtain ⟨c_above_r82, c_below_r82, hq82, h⟩ := zb2_s h
          refine zCv (w1 := (wdX1_become cy b c_above_r82 c_below_r82)) (ws' := (wdX1_addBeside cy b bp1 c_above_r82 c_below_r82 cp1_above cp1_below)) (va_runV (As := [.long (c_above * cp1_above), .long ((c_above * cp1_below) + (cp1_above * c_below))]) (rest := []) ⟨hx, hb, hml, hown, hts⟩ (mX1_become l D cy s.heap.size b c_above c_below (c_above * cp1_above) ((c_above * cp1_below) + (cp1_above * c_below)) (c_above_r82, c_below_r82) hq82) (cwV 2 hts gX1_addBeside_X1_become rfl rfl rfl ⟨rfl, cdX1_become⟩ ⟨Nat.le_of_ble_eq_true rfl, Nat.le_of_ble_eq_true rfl⟩) (zPV hK hP hD [0] rfl rfl (q0 := 0) (ci := 1) rfl rfl rfl) rfl rfl hl.1 rfl (lv_room (Nat.le_of_ble_eq_true rfl)) dX1_addBeside_82 ⟨Nat.zero_le _, Nat.zero_le _⟩) hP hD hS hA [0] [1] [1, 0] rfl rfl rfl rfl (fun H locs hP hD hS => ?_)
          exact hret (o := (c_above_r82, c_below_r82)) h hP hD hS dX1_addBeside_85
      · replace hc33 := (zc_eq _ _).mp hc33
        replace h := zi_t hc33 h
        refine lv_aload_n hx hb dX1_addBeside_36 rfl (lv_at hl 0 rfl) ?_
        refine lv_aload_n hx hb dX1_addBeside_37 rfl (lv_at hl 1 rfl) ?_
        obtain ⟨c_above_r38, c_below_r38, hq38, h⟩ := zb2_s h
        refine zCv (w1 := (wdX1_copy cy bp1 b cp1_above cp1_below c_above_r38 c_below_r38)) (ws' := (wdX1_addBeside cy b bp1 c_above_r38 c_below_r38 cp1_above cp1_below)) (va_runV (As := [.ref bp1]) (rest := []) ⟨hx, hb, hml, hown, hts⟩ (mX1_copy l D cy s.heap.size bp1 b cp1_above cp1_below c_above c_below (c_above_r38, c_below_r38) hq38) (cwV 1 hts gX1_addBeside_X1_copy rfl rfl rfl ⟨rfl, cdX1_copy⟩ ⟨Nat.le_of_ble_eq_true rfl, Nat.le_of_ble_eq_true rfl⟩) (zPV hK hP hD [1, 0] rfl rfl (q0 := 0) (ci := 1) rfl rfl rfl) rfl rfl hl.1 rfl (lv_room (Nat.le_of_ble_eq_true rfl)) dX1_addBeside_38 ⟨Nat.zero_le _, Nat.zero_le _⟩) hP hD hS hA [1, 0] [] [1, 0] rfl rfl rfl rfl (fun H locs hP hD hS => ?_)
        refine lv_goto (tgt := 85) hx hb dX1_addBeside_41 (by decide) ?_
        exact hret (o := (c_above_r38, c_below_r38)) h hP hD hS dX1_addBeside_85
    · replace hc15 := (zc_eq _ _).mp hc15
      replace h := zi_t hc15 h
      exact hJ18 _ _ _ hP hD hS (lv_sub hl [0] rfl) h

theorem uX1_against_X1 : ∀ w ∈ u_ws RX1 TX1 2, w ∈ wsX1_against := fun w h => (List.mem_cons_of_mem _ (List.mem_append_right _ h))
abbrev wdX1_against (cy : Nat → ClassId) (b bp1 : Nat) (c_above c_below cp1_above cp1_below : Int64) : va_W := [(b, .inr (1, [.long c_above, .long c_below])), (bp1, .inr (1, [.long cp1_above, .long cp1_below]))]
abbrev rmX1_against : Room := { frames := 0, cells := 0, slots := 0, locals := 0 }
theorem cdX1_against : (yX1_against).cls ≠ "java/lang/invoke/MethodHandle" ∧ (yX1_against).cls ≠ "java/lang/invoke/VarHandle" ∧ (parseMethodDescriptor (yX1_against).desc).map (fun d => d.parameters.length) = some 1 := by decide +kernel
def fX1_against_J32 (cp1_below : Int64) (s0_32 : Int32) : Option (Int32) :=
  if cp1_below = (0 : Int64) then (some ((s0_32 - (1 : Int32)))) else (some ((s0_32 - (0 : Int32))))
def fX1_against_J18 (c_below cp1_below : Int64)  : Option (Int32) :=
  if c_below = (0 : Int64) then (fX1_against_J32 cp1_below (1 : Int32)) else (fX1_against_J32 cp1_below (0 : Int32))
def fX1_against_J176  (v4_176 v8_176 : Int64) (v10_176 : Int32) : Option (Int32) :=
  if v4_176 = v8_176 then (some ((0 : Int32))) else (if v4_176 = (0 : Int64) then (some (v10_176)) else (some ((-v10_176))))
def fX1_against_J120  (v10_120 : Int32) (v12_120 v14_120 : Int64) : Option (Int32) :=
  if v14_120 ≤ v12_120 then (some (v10_120)) else (some ((-v10_120)))
def fX1_against_L77 (k176_77 : Int64 → Int64 → Int32 → Option (Int32)) (k120_77 : Int32 → Int64 → Int64 → Option (Int32)) : Nat → Int64 → Int64 → Int64 → Int64 → Int32 → Int32 → Option (Int32) :=
  zl6 (fun rec77 v2_77 v4_77 v6_77 v8_77 v10_77 v11_77 => if (200 : Int32) ≤ v11_77 then (k176_77 v4_77 v8_77 v10_77) else (if v4_77 = (0 : Int64) then (k176_77 v4_77 v8_77 v10_77) else (if v8_77 = (0 : Int64) then (k176_77 v4_77 v8_77 v10_77) else (zg (¬ v4_77 = 0) (zg (¬ v8_77 = 0) (if (v2_77 / v4_77) = (v6_77 / v8_77) then (zg (¬ v4_77 = 0) (zg (¬ v8_77 = 0) (rec77 v4_77 (v2_77 - v2_77 / v4_77 * v4_77) v8_77 (v6_77 - v6_77 / v8_77 * v8_77) (-v10_77) (v11_77 + (1 : Int32))))) else (k120_77 v10_77 (v2_77 / v4_77) (v6_77 / v8_77))))))))
def fX1_against (c_above c_below cp1_above cp1_below : Int64) : Option (Int32) :=
  if c_below = (0 : Int64) then (fX1_against_J18 c_below cp1_below) else (if cp1_below = (0 : Int64) then (fX1_against_J18 c_below cp1_below) else (fX1_against_L77 fX1_against_J176 fX1_against_J120 5000 c_above c_below cp1_above cp1_below (1 : Int32) (0 : Int32)))
set_option maxHeartbeats 4000000 in
set_option maxRecDepth 100000 in
theorem mX1_against (l : Launch) (D : va_G) (cy : Nat → ClassId) (sz : Nat) (b bp1 : Nat) (c_above c_below cp1_above cp1_below : Int64) (res : (Int32)) (h : fX1_against c_above c_below cp1_above cp1_below = some res) : zMi l yX1_against wsX1_against rmX1_against [.ref b, .ref bp1] D cy (wdX1_against cy b bp1 c_above c_below cp1_above cp1_below) sz ((fun (o : (Int32)) => o) res) ((fun (o : (Int32)) => (wdX1_against cy b bp1 c_above c_below cp1_above cp1_below)) res) := by
  refine zOfi (res := res) (rf := (fun (o : (Int32)) => o)) (Wf := (fun (o : (Int32)) => (wdX1_against cy b bp1 c_above c_below cp1_above cp1_below))) (by decide +kernel) rfl (Nat.le_of_ble_eq_true rfl) ?_
  intro p e s m args below meth c A ls Q hx hb hml hts hown hP hK hD hA hS hl hret
  have hown : s.vm.findClass RX1 = some m.cls := hown
  have hl : lv_has ls 20 [(0, .ref b), (1, .ref bp1)] := hl
  refine lv_aload_n hx hb dX1_against_0 rfl (lv_at hl 0 rfl) ?_
  refine va_get (D := D) (ci := 1) (v := .long c_below) (C := RX1) (T := TX1) (N := 2) hx hb hts uX1_against_X1 hown hK.1 hP 0 rfl rfl 1 (by decide) (hts (.fieldLink RX1 9 "WishedResistor$Fraction" "below" "J") (List.mem_of_getElem? (i := 1) rfl)) (fun _ h9 => h9) rfl dX1_against_1 ?_
  refine lv_lconst (v := (0 : Int64)) hx hb dX1_against_4 (by decide) ?_
  refine W.lcmp hx hb dX1_against_5 ?_
  have hJ18 : ∀  (H : Heap) (locs : List Loc) (ls : Array Slot), va_P D vwCl (wdX1_against cy b bp1 c_above c_below cp1_above cp1_below) H → va_D A (wdX1_against cy b bp1 c_above c_below cp1_above cp1_below) → va_S A s.heap H locs → lv_has ls 20 [(0, .ref b), (1, .ref bp1)] → fX1_against_J18 c_below cp1_below = some res → W p l e rmX1_against s m args below meth c H locs 0 0 Q (F0 m 18 ls []) := by
    intro  H locs ls hP hD hS hl h
    refine lv_aload_n hx hb dX1_against_18 rfl (lv_at hl 0 rfl) ?_
    refine va_get (D := D) (ci := 1) (v := .long c_below) (C := RX1) (T := TX1) (N := 2) hx hb hts uX1_against_X1 hown hK.1 hP 0 rfl rfl 1 (by decide) (hts (.fieldLink RX1 9 "WishedResistor$Fraction" "below" "J") (List.mem_of_getElem? (i := 1) rfl)) (fun _ h9 => h9) rfl dX1_against_19 ?_
    refine lv_lconst (v := (0 : Int64)) hx hb dX1_against_22 (by decide) ?_
    refine W.lcmp hx hb dX1_against_23 ?_
    have hJ32 : ∀ (s0_32 : Int32) (H : Heap) (locs : List Loc) (ls : Array Slot), va_P D vwCl (wdX1_against cy b bp1 c_above c_below cp1_above cp1_below) H → va_D A (wdX1_against cy b bp1 c_above c_below cp1_above cp1_below) → va_S A s.heap H locs → lv_has ls 20 [(1, .ref bp1)] → fX1_against_J32 cp1_below s0_32 = some res → W p l e rmX1_against s m args below meth c H locs 0 0 Q (F0 m 32 ls [.int s0_32]) := by
      intro s0_32 H locs ls hP hD hS hl h
      refine lv_aload_n hx hb dX1_against_32 rfl (lv_at hl 0 rfl) ?_
      refine va_get (D := D) (ci := 1) (v := .long cp1_below) (C := RX1) (T := TX1) (N := 2) hx hb hts uX1_against_X1 hown hK.1 hP 1 rfl rfl 1 (by decide) (hts (.fieldLink RX1 9 "WishedResistor$Fraction" "below" "J") (List.mem_of_getElem? (i := 1) rfl)) (fun _ h9 => h9) rfl dX1_against_33 ?_
      refine lv_lconst (v := (0 : Int64)) hx hb dX1_against_36 (by decide) ?_
      refine W.lcmp hx hb dX1_against_37 ?_
      refine lv_if_ne (tgt := 45) hx hb dX1_against_38 (by decide) (fun hc38 => ?_) (fun hc38 => ?_)
      · replace hc38 := fun q => hc38 ((zc_eq _ _).mpr q)
        replace h := zi_f hc38 h
        refine lv_iconst (v := (0 : Int32)) hx hb dX1_against_45 (by decide) ?_
        refine lv_isub hx hb dX1_against_46 ?_
        exact hret (o := ((s0_32 - (0 : Int32)))) h hP hD hS dX1_against_47
      · replace hc38 := (zc_eq _ _).mp hc38
        replace h := zi_t hc38 h
        refine lv_iconst (v := (1 : Int32)) hx hb dX1_against_41 (by decide) ?_
        refine lv_goto (tgt := 46) hx hb dX1_against_42 (by decide) ?_
        refine lv_isub hx hb dX1_against_46 ?_
        exact hret (o := ((s0_32 - (1 : Int32)))) h hP hD hS dX1_against_47
    refine lv_if_ne (tgt := 31) hx hb dX1_against_24 (by decide) (fun hc24 => ?_) (fun hc24 => ?_)
    · replace hc24 := fun q => hc24 ((zc_eq _ _).mpr q)
      replace h := zi_f hc24 h
      refine lv_iconst (v := (0 : Int32)) hx hb dX1_against_31 (by decide) ?_
      exact hJ32 (0 : Int32) _ _ _ hP hD hS (lv_sub hl [1] rfl) h
    · replace hc24 := (zc_eq _ _).mp hc24
      replace h := zi_t hc24 h
      refine lv_iconst (v := (1 : Int32)) hx hb dX1_against_27 (by decide) ?_
      refine lv_goto (tgt := 32) hx hb dX1_against_28 (by decide) ?_
      exact hJ32 (1 : Int32) _ _ _ hP hD hS (lv_sub hl [1] rfl) h
  refine lv_if_eq (tgt := 18) hx hb dX1_against_6 (by decide) (fun hc6 => ?_) (fun hc6 => ?_)
  · replace hc6 := (zc_eq _ _).mp hc6
    replace h := zi_t hc6 h
    exact hJ18 _ _ _ hP hD hS (lv_sub hl [0, 1] rfl) h
  · replace hc6 := fun q => hc6 ((zc_eq _ _).mpr q)
    replace h := zi_f hc6 h
    refine lv_aload_n hx hb dX1_against_9 rfl (lv_at hl 1 rfl) ?_
    refine va_get (D := D) (ci := 1) (v := .long cp1_below) (C := RX1) (T := TX1) (N := 2) hx hb hts uX1_against_X1 hown hK.1 hP 1 rfl rfl 1 (by decide) (hts (.fieldLink RX1 9 "WishedResistor$Fraction" "below" "J") (List.mem_of_getElem? (i := 1) rfl)) (fun _ h9 => h9) rfl dX1_against_10 ?_
    refine lv_lconst (v := (0 : Int64)) hx hb dX1_against_13 (by decide) ?_
    refine W.lcmp hx hb dX1_against_14 ?_
    refine lv_if_ne (tgt := 48) hx hb dX1_against_15 (by decide) (fun hc15 => ?_) (fun hc15 => ?_)
    · replace hc15 := fun q => hc15 ((zc_eq _ _).mpr q)
      replace h := zi_f hc15 h
      refine lv_aload_n hx hb dX1_against_48 rfl (lv_at hl 0 rfl) ?_
      refine va_get (D := D) (ci := 1) (v := .long c_above) (C := RX1) (T := TX1) (N := 2) hx hb hts uX1_against_X1 hown hK.1 hP 0 rfl rfl 0 (by decide) (hts (.fieldLink RX1 19 "WishedResistor$Fraction" "above" "J") (List.mem_of_getElem? (i := 2) rfl)) (fun _ h9 => h9) rfl dX1_against_49 ?_
      refine lv_lstore_n (lv' := [(2, .long c_above), (0, .ref b), (1, .ref bp1)]) hx hb dX1_against_52 rfl hl (Nat.le_of_ble_eq_true rfl) rfl (fun ls hl => ?_)
      refine lv_aload_n hx hb dX1_against_53 rfl (lv_at hl 1 rfl) ?_
      refine va_get (D := D) (ci := 1) (v := .long c_below) (C := RX1) (T := TX1) (N := 2) hx hb hts uX1_against_X1 hown hK.1 hP 0 rfl rfl 1 (by decide) (hts (.fieldLink RX1 9 "WishedResistor$Fraction" "below" "J") (List.mem_of_getElem? (i := 1) rfl)) (fun _ h9 => h9) rfl dX1_against_54 ?_
      refine lv_lstore (lv' := [(4, .long c_below), (2, .long c_above), (0, .ref b), (1, .ref bp1)]) hx hb dX1_against_57 hl (Nat.le_of_ble_eq_true rfl) rfl (fun ls hl => ?_)
      refine lv_aload_n hx hb dX1_against_59 rfl (lv_at hl 3 rfl) ?_
      refine va_get (D := D) (ci := 1) (v := .long cp1_above) (C := RX1) (T := TX1) (N := 2) hx hb hts uX1_against_X1 hown hK.1 hP 1 rfl rfl 0 (by decide) (hts (.fieldLink RX1 19 "WishedResistor$Fraction" "above" "J") (List.mem_of_getElem? (i := 2) rfl)) (fun _ h9 => h9) rfl dX1_against_60 ?_
      refine lv_lstore (lv' := [(6, .long cp1_above), (4, .long c_below), (2, .long c_above), (0, .ref b), (1, .ref bp1)]) hx hb dX1_against_63 hl (Nat.le_of_ble_eq_true rfl) rfl (fun ls hl => ?_)
      refine lv_aload_n hx hb dX1_against_65 rfl (lv_at hl 4 rfl) ?_
      refine va_get (D := D) (ci := 1) (v := .long cp1_below) (C := RX1) (T := TX1) (N := 2) hx hb hts uX1_against_X1 hown hK.1 hP 1 rfl rfl 1 (by decide) (hts (.fieldLink RX1 9 "WishedResistor$Fraction" "below" "J") (List.mem_of_getElem? (i := 1) rfl)) (fun _ h9 => h9) rfl dX1_against_66 ?_
      refine lv_lstore (lv' := [(8, .long cp1_below), (6, .long cp1_above), (4, .long c_below), (2, .long c_above), (0, .ref b), (1, .ref bp1)]) hx hb dX1_against_69 hl (Nat.le_of_ble_eq_true rfl) rfl (fun ls hl => ?_)
      refine lv_iconst (v := (1 : Int32)) hx hb dX1_against_71 (by decide) ?_
      refine lv_istore (lv' := [(10, .int (1 : Int32)), (8, .long cp1_below), (6, .long cp1_above), (4, .long c_below), (2, .long c_above), (0, .ref b), (1, .ref bp1)]) hx hb dX1_against_72 hl (Nat.le_of_ble_eq_true rfl) rfl (fun ls hl => ?_)
      refine lv_iconst (v := (0 : Int32)) hx hb dX1_against_74 (by decide) ?_
      refine lv_istore (lv' := [(11, .int (0 : Int32)), (10, .int (1 : Int32)), (8, .long cp1_below), (6, .long cp1_above), (4, .long c_below), (2, .long c_above), (0, .ref b), (1, .ref bp1)]) hx hb dX1_against_75 hl (Nat.le_of_ble_eq_true rfl) rfl (fun ls hl => ?_)
      have hJ176 : ∀ (v4_176 v8_176 : Int64) (v10_176 : Int32) (H : Heap) (locs : List Loc) (ls : Array Slot), va_P D vwCl (wdX1_against cy b bp1 c_above c_below cp1_above cp1_below) H → va_D A (wdX1_against cy b bp1 c_above c_below cp1_above cp1_below) → va_S A s.heap H locs → lv_has ls 20 [(4, .long v4_176), (8, .long v8_176), (10, .int v10_176)] → fX1_against_J176 v4_176 v8_176 v10_176 = some res → W p l e rmX1_against s m args below meth c H locs 0 0 Q (F0 m 176 ls []) := by
        intro v4_176 v8_176 v10_176 H locs ls hP hD hS hl h
        refine lv_lload hx hb dX1_against_176 (lv_at hl 0 rfl) ?_
        refine lv_lload hx hb dX1_against_178 (lv_at hl 1 rfl) ?_
        refine W.lcmp hx hb dX1_against_180 ?_
        refine lv_if_ne (tgt := 186) hx hb dX1_against_181 (by decide) (fun hc181 => ?_) (fun hc181 => ?_)
        · replace hc181 := fun q => hc181 ((zc_eq _ _).mpr q)
          replace h := zi_f hc181 h
          refine lv_lload hx hb dX1_against_186 (lv_at hl 0 rfl) ?_
          refine lv_lconst (v := (0 : Int64)) hx hb dX1_against_188 (by decide) ?_
          refine W.lcmp hx hb dX1_against_189 ?_
          refine lv_if_ne (tgt := 198) hx hb dX1_against_190 (by decide) (fun hc190 => ?_) (fun hc190 => ?_)
          · replace hc190 := fun q => hc190 ((zc_eq _ _).mpr q)
            replace h := zi_f hc190 h
            refine lv_iload hx hb dX1_against_198 (lv_at hl 2 rfl) ?_
            refine lv_ineg hx hb dX1_against_200 ?_
            exact hret (o := ((-v10_176))) h hP hD hS dX1_against_201
          · replace hc190 := (zc_eq _ _).mp hc190
            replace h := zi_t hc190 h
            refine lv_iload hx hb dX1_against_193 (lv_at hl 2 rfl) ?_
            refine lv_goto (tgt := 201) hx hb dX1_against_195 (by decide) ?_
            exact hret (o := (v10_176)) h hP hD hS dX1_against_201
        · replace hc181 := (zc_eq _ _).mp hc181
          replace h := zi_t hc181 h
          refine lv_iconst (v := (0 : Int32)) hx hb dX1_against_184 (by decide) ?_
          exact hret (o := ((0 : Int32))) h hP hD hS dX1_against_185
      have hJ120 : ∀ (v10_120 : Int32) (v12_120 v14_120 : Int64) (H : Heap) (locs : List Loc) (ls : Array Slot), va_P D vwCl (wdX1_against cy b bp1 c_above c_below cp1_above cp1_below) H → va_D A (wdX1_against cy b bp1 c_above c_below cp1_above cp1_below) → va_S A s.heap H locs → lv_has ls 20 [(10, .int v10_120), (12, .long v12_120), (14, .long v14_120)] → fX1_against_J120 v10_120 v12_120 v14_120 = some res → W p l e rmX1_against s m args below meth c H locs 0 0 Q (F0 m 120 ls []) := by
        intro v10_120 v12_120 v14_120 H locs ls hP hD hS hl h
        refine lv_lload hx hb dX1_against_120 (lv_at hl 1 rfl) ?_
        refine lv_lload hx hb dX1_against_122 (lv_at hl 2 rfl) ?_
        refine W.lcmp hx hb dX1_against_124 ?_
        refine lv_if_ge (tgt := 134) hx hb dX1_against_125 (by decide) (fun hc125 => ?_) (fun hc125 => ?_)
        · replace hc125 := (zc_ge _ _).mp hc125
          replace h := zi_t hc125 h
          refine lv_iload hx hb dX1_against_134 (lv_at hl 0 rfl) ?_
          exact hret (o := (v10_120)) h hP hD hS dX1_against_136
        · replace hc125 := fun q => hc125 ((zc_ge _ _).mpr q)
          replace h := zi_f hc125 h
          refine lv_iload hx hb dX1_against_128 (lv_at hl 0 rfl) ?_
          refine lv_ineg hx hb dX1_against_130 ?_
          refine lv_goto (tgt := 136) hx hb dX1_against_131 (by decide) ?_
          exact hret (o := ((-v10_120))) h hP hD hS dX1_against_136
      have hL77 : ∀ n77 : Nat, ∀ (v2_77 v4_77 v6_77 v8_77 : Int64) (v10_77 v11_77 : Int32) (H : Heap) (locs : List Loc) (ls : Array Slot), va_P D vwCl (wdX1_against cy b bp1 c_above c_below cp1_above cp1_below) H → va_D A (wdX1_against cy b bp1 c_above c_below cp1_above cp1_below) → va_S A s.heap H locs → lv_has ls 20 [(2, .long v2_77), (4, .long v4_77), (6, .long v6_77), (8, .long v8_77), (10, .int v10_77), (11, .int v11_77)] → fX1_against_L77 fX1_against_J176 fX1_against_J120 n77 v2_77 v4_77 v6_77 v8_77 v10_77 v11_77 = some res → W p l e rmX1_against s m args below meth c H locs 0 0 Q (F0 m 77 ls []) := by
        intro n77
        induction n77 with
        | zero =>
          intro v2_77 v4_77 v6_77 v8_77 v10_77 v11_77 H locs ls hP hD hS hl h
          exact zl6_0 h
        | succ n77 ih77 =>
          intro v2_77 v4_77 v6_77 v8_77 v10_77 v11_77 H locs ls hP hD hS hl h
          replace h := zl6_s h
          refine lv_iload hx hb dX1_against_77 (lv_at hl 5 rfl) ?_
          refine lv_sipush (v := (200 : Int32)) hx hb dX1_against_79 (by decide) ?_
          refine lv_icmp_ge (tgt := 176) hx hb dX1_against_82 (by decide) (fun hc82 => ?_) (fun hc82 => ?_)
          · replace h := zi_t hc82 h
            exact hJ176 v4_77 v8_77 v10_77 _ _ _ hP hD hS (lv_sub hl [1, 3, 4] rfl) h
          · replace h := zi_f hc82 h
            refine lv_lload hx hb dX1_against_85 (lv_at hl 1 rfl) ?_
            refine lv_lconst (v := (0 : Int64)) hx hb dX1_against_87 (by decide) ?_
            refine W.lcmp hx hb dX1_against_88 ?_
            refine lv_if_eq (tgt := 176) hx hb dX1_against_89 (by decide) (fun hc89 => ?_) (fun hc89 => ?_)
            · replace hc89 := (zc_eq _ _).mp hc89
              replace h := zi_t hc89 h
              exact hJ176 v4_77 v8_77 v10_77 _ _ _ hP hD hS (lv_sub hl [1, 3, 4] rfl) h
            · replace hc89 := fun q => hc89 ((zc_eq _ _).mpr q)
              replace h := zi_f hc89 h
              refine lv_lload hx hb dX1_against_92 (lv_at hl 3 rfl) ?_
              refine lv_lconst (v := (0 : Int64)) hx hb dX1_against_94 (by decide) ?_
              refine W.lcmp hx hb dX1_against_95 ?_
              refine lv_if_eq (tgt := 176) hx hb dX1_against_96 (by decide) (fun hc96 => ?_) (fun hc96 => ?_)
              · replace hc96 := (zc_eq _ _).mp hc96
                replace h := zi_t hc96 h
                exact hJ176 v4_77 v8_77 v10_77 _ _ _ hP hD hS (lv_sub hl [1, 3, 4] rfl) h
              · replace hc96 := fun q => hc96 ((zc_eq _ _).mpr q)
                replace h := zi_f hc96 h
                refine lv_lload_n hx hb dX1_against_99 rfl (lv_at hl 0 rfl) ?_
                refine lv_lload hx hb dX1_against_100 (lv_at hl 1 rfl) ?_
                obtain ⟨hz102, h⟩ := zg_s h
                refine lv_ldiv hx hb dX1_against_102 hz102 ?_
                refine lv_lstore (lv' := [(12, .long (v2_77 / v4_77)), (2, .long v2_77), (4, .long v4_77), (6, .long v6_77), (8, .long v8_77), (10, .int v10_77), (11, .int v11_77)]) hx hb dX1_against_103 hl (Nat.le_of_ble_eq_true rfl) rfl (fun ls hl => ?_)
                refine lv_lload hx hb dX1_against_105 (lv_at hl 3 rfl) ?_
                refine lv_lload hx hb dX1_against_107 (lv_at hl 4 rfl) ?_
                obtain ⟨hz109, h⟩ := zg_s h
                refine lv_ldiv hx hb dX1_against_109 hz109 ?_
                refine lv_lstore (lv' := [(14, .long (v6_77 / v8_77)), (12, .long (v2_77 / v4_77)), (2, .long v2_77), (4, .long v4_77), (6, .long v6_77), (8, .long v8_77), (10, .int v10_77), (11, .int v11_77)]) hx hb dX1_against_110 hl (Nat.le_of_ble_eq_true rfl) rfl (fun ls hl => ?_)
                refine lv_lload hx hb dX1_against_112 (lv_at hl 1 rfl) ?_
                refine lv_lload hx hb dX1_against_114 (lv_at hl 0 rfl) ?_
                refine W.lcmp hx hb dX1_against_116 ?_
                refine lv_if_eq (tgt := 137) hx hb dX1_against_117 (by decide) (fun hc117 => ?_) (fun hc117 => ?_)
                · replace hc117 := (zc_eq _ _).mp hc117
                  replace h := zi_t hc117 h
                  refine lv_lload_n hx hb dX1_against_137 rfl (lv_at hl 2 rfl) ?_
                  refine lv_lload hx hb dX1_against_138 (lv_at hl 3 rfl) ?_
                  obtain ⟨hz140, h⟩ := zg_s h
                  refine lv_lrem hx hb dX1_against_140 hz140 ?_
                  refine lv_lstore (lv' := [(16, .long (v2_77 - v2_77 / v4_77 * v4_77)), (14, .long (v6_77 / v8_77)), (12, .long (v2_77 / v4_77)), (2, .long v2_77), (4, .long v4_77), (6, .long v6_77), (8, .long v8_77), (10, .int v10_77), (11, .int v11_77)]) hx hb dX1_against_141 hl (Nat.le_of_ble_eq_true rfl) rfl (fun ls hl => ?_)
                  refine lv_lload hx hb dX1_against_143 (lv_at hl 5 rfl) ?_
                  refine lv_lload hx hb dX1_against_145 (lv_at hl 6 rfl) ?_
                  obtain ⟨hz147, h⟩ := zg_s h
                  refine lv_lrem hx hb dX1_against_147 hz147 ?_
                  refine lv_lstore (lv' := [(18, .long (v6_77 - v6_77 / v8_77 * v8_77)), (16, .long (v2_77 - v2_77 / v4_77 * v4_77)), (14, .long (v6_77 / v8_77)), (12, .long (v2_77 / v4_77)), (2, .long v2_77), (4, .long v4_77), (6, .long v6_77), (8, .long v8_77), (10, .int v10_77), (11, .int v11_77)]) hx hb dX1_against_148 hl (Nat.le_of_ble_eq_true rfl) rfl (fun ls hl => ?_)
                  refine lv_lload hx hb dX1_against_150 (lv_at hl 5 rfl) ?_
                  refine lv_lstore_n (lv' := [(2, .long v4_77), (18, .long (v6_77 - v6_77 / v8_77 * v8_77)), (16, .long (v2_77 - v2_77 / v4_77 * v4_77)), (14, .long (v6_77 / v8_77)), (12, .long (v2_77 / v4_77)), (4, .long v4_77), (6, .long v6_77), (8, .long v8_77), (10, .int v10_77), (11, .int v11_77)]) hx hb dX1_against_152 rfl hl (Nat.le_of_ble_eq_true rfl) rfl (fun ls hl => ?_)
                  refine lv_lload hx hb dX1_against_153 (lv_at hl 2 rfl) ?_
                  refine lv_lstore (lv' := [(4, .long (v2_77 - v2_77 / v4_77 * v4_77)), (2, .long v4_77), (18, .long (v6_77 - v6_77 / v8_77 * v8_77)), (16, .long (v2_77 - v2_77 / v4_77 * v4_77)), (14, .long (v6_77 / v8_77)), (12, .long (v2_77 / v4_77)), (6, .long v6_77), (8, .long v8_77), (10, .int v10_77), (11, .int v11_77)]) hx hb dX1_against_155 hl (Nat.le_of_ble_eq_true rfl) rfl (fun ls hl => ?_)
                  refine lv_lload hx hb dX1_against_157 (lv_at hl 7 rfl) ?_
                  refine lv_lstore (lv' := [(6, .long v8_77), (4, .long (v2_77 - v2_77 / v4_77 * v4_77)), (2, .long v4_77), (18, .long (v6_77 - v6_77 / v8_77 * v8_77)), (16, .long (v2_77 - v2_77 / v4_77 * v4_77)), (14, .long (v6_77 / v8_77)), (12, .long (v2_77 / v4_77)), (8, .long v8_77), (10, .int v10_77), (11, .int v11_77)]) hx hb dX1_against_159 hl (Nat.le_of_ble_eq_true rfl) rfl (fun ls hl => ?_)
                  refine lv_lload hx hb dX1_against_161 (lv_at hl 3 rfl) ?_
                  refine lv_lstore (lv' := [(8, .long (v6_77 - v6_77 / v8_77 * v8_77)), (6, .long v8_77), (4, .long (v2_77 - v2_77 / v4_77 * v4_77)), (2, .long v4_77), (18, .long (v6_77 - v6_77 / v8_77 * v8_77)), (16, .long (v2_77 - v2_77 / v4_77 * v4_77)), (14, .long (v6_77 / v8_77)), (12, .long (v2_77 / v4_77)), (10, .int v10_77), (11, .int v11_77)]) hx hb dX1_against_163 hl (Nat.le_of_ble_eq_true rfl) rfl (fun ls hl => ?_)
                  refine lv_iload hx hb dX1_against_165 (lv_at hl 8 rfl) ?_
                  refine lv_ineg hx hb dX1_against_167 ?_
                  refine lv_istore (lv' := [(10, .int (-v10_77)), (8, .long (v6_77 - v6_77 / v8_77 * v8_77)), (6, .long v8_77), (4, .long (v2_77 - v2_77 / v4_77 * v4_77)), (2, .long v4_77), (18, .long (v6_77 - v6_77 / v8_77 * v8_77)), (16, .long (v2_77 - v2_77 / v4_77 * v4_77)), (14, .long (v6_77 / v8_77)), (12, .long (v2_77 / v4_77)), (11, .int v11_77)]) hx hb dX1_against_168 hl (Nat.le_of_ble_eq_true rfl) rfl (fun ls hl => ?_)
                  refine lv_iinc (v := (v11_77 + (1 : Int32))) (lv' := [(11, .int (v11_77 + (1 : Int32))), (10, .int (-v10_77)), (8, .long (v6_77 - v6_77 / v8_77 * v8_77)), (6, .long v8_77), (4, .long (v2_77 - v2_77 / v4_77 * v4_77)), (2, .long v4_77), (18, .long (v6_77 - v6_77 / v8_77 * v8_77)), (16, .long (v2_77 - v2_77 / v4_77 * v4_77)), (14, .long (v6_77 / v8_77)), (12, .long (v2_77 / v4_77))]) hx hb dX1_against_170 hl (k := 9) rfl (by rfl) (Nat.le_of_ble_eq_true rfl) rfl (fun ls hl => ?_)
                  refine lv_goto (tgt := 77) hx hb dX1_against_173 (by decide) ?_
                  exact ih77 v4_77 (v2_77 - v2_77 / v4_77 * v4_77) v8_77 (v6_77 - v6_77 / v8_77 * v8_77) (-v10_77) (v11_77 + (1 : Int32)) _ _ _ hP hD hS (lv_sub hl [5, 4, 3, 2, 1, 0] rfl) h
                · replace hc117 := fun q => hc117 ((zc_eq _ _).mpr q)
                  replace h := zi_f hc117 h
                  exact hJ120 v10_77 (v2_77 / v4_77) (v6_77 / v8_77) _ _ _ hP hD hS (lv_sub hl [6, 1, 0] rfl) h
      exact hL77 5000 c_above c_below cp1_above cp1_below (1 : Int32) (0 : Int32) _ _ _ hP hD hS (lv_sub hl [5, 4, 3, 2, 1, 0] rfl) h
    · replace hc15 := (zc_eq _ _).mp hc15
      replace h := zi_t hc15 h
      exact hJ18 _ _ _ hP hD hS (lv_sub hl [0, 1] rfl) h

abbrev rmJ6_bitCount_0f7a4 : Room := { frames := 0, cells := 0, slots := 0, locals := 0 }
theorem cdJ6_bitCount_0f7a4 : (yJ6_bitCount_0f7a4).cls ≠ "java/lang/invoke/MethodHandle" ∧ (yJ6_bitCount_0f7a4).cls ≠ "java/lang/invoke/VarHandle" ∧ (parseMethodDescriptor (yJ6_bitCount_0f7a4).desc).map (fun d => d.parameters.length) = some 1 := by decide +kernel
def fJ6_bitCount_0f7a4 (p1 : Int32) : Option (Int32) :=
  some (((((((((p1 - ((((p1).toUInt32 >>> (((1 : Int32)).toUInt32 &&& Int32.toUInt32 31)).toInt32) &&& (1431655765 : Int32))) &&& (858993459 : Int32)) + (((((p1 - ((((p1).toUInt32 >>> (((1 : Int32)).toUInt32 &&& Int32.toUInt32 31)).toInt32) &&& (1431655765 : Int32)))).toUInt32 >>> (((2 : Int32)).toUInt32 &&& Int32.toUInt32 31)).toInt32) &&& (858993459 : Int32))) + ((((((p1 - ((((p1).toUInt32 >>> (((1 : Int32)).toUInt32 &&& Int32.toUInt32 31)).toInt32) &&& (1431655765 : Int32))) &&& (858993459 : Int32)) + (((((p1 - ((((p1).toUInt32 >>> (((1 : Int32)).toUInt32 &&& Int32.toUInt32 31)).toInt32) &&& (1431655765 : Int32)))).toUInt32 >>> (((2 : Int32)).toUInt32 &&& Int32.toUInt32 31)).toInt32) &&& (858993459 : Int32)))).toUInt32 >>> (((4 : Int32)).toUInt32 &&& Int32.toUInt32 31)).toInt32)) &&& (252645135 : Int32)) + ((((((((p1 - ((((p1).toUInt32 >>> (((1 : Int32)).toUInt32 &&& Int32.toUInt32 31)).toInt32) &&& (1431655765 : Int32))) &&& (858993459 : Int32)) + (((((p1 - ((((p1).toUInt32 >>> (((1 : Int32)).toUInt32 &&& Int32.toUInt32 31)).toInt32) &&& (1431655765 : Int32)))).toUInt32 >>> (((2 : Int32)).toUInt32 &&& Int32.toUInt32 31)).toInt32) &&& (858993459 : Int32))) + ((((((p1 - ((((p1).toUInt32 >>> (((1 : Int32)).toUInt32 &&& Int32.toUInt32 31)).toInt32) &&& (1431655765 : Int32))) &&& (858993459 : Int32)) + (((((p1 - ((((p1).toUInt32 >>> (((1 : Int32)).toUInt32 &&& Int32.toUInt32 31)).toInt32) &&& (1431655765 : Int32)))).toUInt32 >>> (((2 : Int32)).toUInt32 &&& Int32.toUInt32 31)).toInt32) &&& (858993459 : Int32)))).toUInt32 >>> (((4 : Int32)).toUInt32 &&& Int32.toUInt32 31)).toInt32)) &&& (252645135 : Int32))).toUInt32 >>> (((8 : Int32)).toUInt32 &&& Int32.toUInt32 31)).toInt32)) + (((((((((p1 - ((((p1).toUInt32 >>> (((1 : Int32)).toUInt32 &&& Int32.toUInt32 31)).toInt32) &&& (1431655765 : Int32))) &&& (858993459 : Int32)) + (((((p1 - ((((p1).toUInt32 >>> (((1 : Int32)).toUInt32 &&& Int32.toUInt32 31)).toInt32) &&& (1431655765 : Int32)))).toUInt32 >>> (((2 : Int32)).toUInt32 &&& Int32.toUInt32 31)).toInt32) &&& (858993459 : Int32))) + ((((((p1 - ((((p1).toUInt32 >>> (((1 : Int32)).toUInt32 &&& Int32.toUInt32 31)).toInt32) &&& (1431655765 : Int32))) &&& (858993459 : Int32)) + (((((p1 - ((((p1).toUInt32 >>> (((1 : Int32)).toUInt32 &&& Int32.toUInt32 31)).toInt32) &&& (1431655765 : Int32)))).toUInt32 >>> (((2 : Int32)).toUInt32 &&& Int32.toUInt32 31)).toInt32) &&& (858993459 : Int32)))).toUInt32 >>> (((4 : Int32)).toUInt32 &&& Int32.toUInt32 31)).toInt32)) &&& (252645135 : Int32)) + ((((((((p1 - ((((p1).toUInt32 >>> (((1 : Int32)).toUInt32 &&& Int32.toUInt32 31)).toInt32) &&& (1431655765 : Int32))) &&& (858993459 : Int32)) + (((((p1 - ((((p1).toUInt32 >>> (((1 : Int32)).toUInt32 &&& Int32.toUInt32 31)).toInt32) &&& (1431655765 : Int32)))).toUInt32 >>> (((2 : Int32)).toUInt32 &&& Int32.toUInt32 31)).toInt32) &&& (858993459 : Int32))) + ((((((p1 - ((((p1).toUInt32 >>> (((1 : Int32)).toUInt32 &&& Int32.toUInt32 31)).toInt32) &&& (1431655765 : Int32))) &&& (858993459 : Int32)) + (((((p1 - ((((p1).toUInt32 >>> (((1 : Int32)).toUInt32 &&& Int32.toUInt32 31)).toInt32) &&& (1431655765 : Int32)))).toUInt32 >>> (((2 : Int32)).toUInt32 &&& Int32.toUInt32 31)).toInt32) &&& (858993459 : Int32)))).toUInt32 >>> (((4 : Int32)).toUInt32 &&& Int32.toUInt32 31)).toInt32)) &&& (252645135 : Int32))).toUInt32 >>> (((8 : Int32)).toUInt32 &&& Int32.toUInt32 31)).toInt32))).toUInt32 >>> (((16 : Int32)).toUInt32 &&& Int32.toUInt32 31)).toInt32)) &&& (63 : Int32)))
set_option maxHeartbeats 4000000 in
set_option maxRecDepth 100000 in
theorem mJ6_bitCount_0f7a4 (l : Launch) (D : va_G) (cy : Nat → ClassId) (sz : Nat) (p1 : Int32) (res : (Int32)) (h : fJ6_bitCount_0f7a4 p1 = some res) : zMi l yJ6_bitCount_0f7a4 wsJ6_bitCount_0f7a4 rmJ6_bitCount_0f7a4 [.int p1] D cy ([] : va_W) sz ((fun (o : (Int32)) => o) res) ((fun (_ : (Int32)) => ([] : va_W)) res) := by
  refine zOfi (res := res) (rf := (fun (o : (Int32)) => o)) (Wf := (fun (_ : (Int32)) => ([] : va_W))) (by decide +kernel) rfl (Nat.le_of_ble_eq_true rfl) ?_
  intro p e s m args below meth c A ls Q hx hb hml hts hown hP hK hD hA hS hl hret
  have hown : s.vm.findClass RJ6 = some m.cls := hown
  have hl : lv_has ls 1 [(0, .int p1)] := hl
  refine lv_iload_n hx hb dJ6_bitCount_0f7a4_0 rfl (lv_at hl 0 rfl) ?_
  refine lv_iload_n hx hb dJ6_bitCount_0f7a4_1 rfl (lv_at hl 0 rfl) ?_
  refine lv_iconst (v := (1 : Int32)) hx hb dJ6_bitCount_0f7a4_2 (by decide) ?_
  refine lv_iushr hx hb dJ6_bitCount_0f7a4_3 rfl ?_
  refine lv_ldcw hx hb hown (hts (.constant RJ6 265 (1431655765)) (List.mem_of_getElem? (i := 1) rfl)) dJ6_bitCount_0f7a4_4 ?_
  refine lv_iand hx hb dJ6_bitCount_0f7a4_7 ?_
  refine lv_isub hx hb dJ6_bitCount_0f7a4_8 ?_
  refine lv_istore_n (lv' := [(0, .int (p1 - ((((p1).toUInt32 >>> (((1 : Int32)).toUInt32 &&& Int32.toUInt32 31)).toInt32) &&& (1431655765 : Int32))))]) hx hb dJ6_bitCount_0f7a4_9 rfl hl (Nat.le_of_ble_eq_true rfl) rfl (fun ls hl => ?_)
  refine lv_iload_n hx hb dJ6_bitCount_0f7a4_10 rfl (lv_at hl 0 rfl) ?_
  refine lv_ldcw hx hb hown (hts (.constant RJ6 266 (858993459)) (List.mem_of_getElem? (i := 2) rfl)) dJ6_bitCount_0f7a4_11 ?_
  refine lv_iand hx hb dJ6_bitCount_0f7a4_14 ?_
  refine lv_iload_n hx hb dJ6_bitCount_0f7a4_15 rfl (lv_at hl 0 rfl) ?_
  refine lv_iconst (v := (2 : Int32)) hx hb dJ6_bitCount_0f7a4_16 (by decide) ?_
  refine lv_iushr hx hb dJ6_bitCount_0f7a4_17 rfl ?_
  refine lv_ldcw hx hb hown (hts (.constant RJ6 266 (858993459)) (List.mem_of_getElem? (i := 2) rfl)) dJ6_bitCount_0f7a4_18 ?_
  refine lv_iand hx hb dJ6_bitCount_0f7a4_21 ?_
  refine lv_iadd hx hb dJ6_bitCount_0f7a4_22 ?_
  refine lv_istore_n (lv' := [(0, .int (((p1 - ((((p1).toUInt32 >>> (((1 : Int32)).toUInt32 &&& Int32.toUInt32 31)).toInt32) &&& (1431655765 : Int32))) &&& (858993459 : Int32)) + (((((p1 - ((((p1).toUInt32 >>> (((1 : Int32)).toUInt32 &&& Int32.toUInt32 31)).toInt32) &&& (1431655765 : Int32)))).toUInt32 >>> (((2 : Int32)).toUInt32 &&& Int32.toUInt32 31)).toInt32) &&& (858993459 : Int32))))]) hx hb dJ6_bitCount_0f7a4_23 rfl hl (Nat.le_of_ble_eq_true rfl) rfl (fun ls hl => ?_)
  refine lv_iload_n hx hb dJ6_bitCount_0f7a4_24 rfl (lv_at hl 0 rfl) ?_
  refine lv_iload_n hx hb dJ6_bitCount_0f7a4_25 rfl (lv_at hl 0 rfl) ?_
  refine lv_iconst (v := (4 : Int32)) hx hb dJ6_bitCount_0f7a4_26 (by decide) ?_
  refine lv_iushr hx hb dJ6_bitCount_0f7a4_27 rfl ?_
  refine lv_iadd hx hb dJ6_bitCount_0f7a4_28 ?_
  refine lv_ldcw hx hb hown (hts (.constant RJ6 267 (252645135)) (List.mem_of_getElem? (i := 3) rfl)) dJ6_bitCount_0f7a4_29 ?_
  refine lv_iand hx hb dJ6_bitCount_0f7a4_32 ?_
  refine lv_istore_n (lv' := [(0, .int (((((p1 - ((((p1).toUInt32 >>> (((1 : Int32)).toUInt32 &&& Int32.toUInt32 31)).toInt32) &&& (1431655765 : Int32))) &&& (858993459 : Int32)) + (((((p1 - ((((p1).toUInt32 >>> (((1 : Int32)).toUInt32 &&& Int32.toUInt32 31)).toInt32) &&& (1431655765 : Int32)))).toUInt32 >>> (((2 : Int32)).toUInt32 &&& Int32.toUInt32 31)).toInt32) &&& (858993459 : Int32))) + ((((((p1 - ((((p1).toUInt32 >>> (((1 : Int32)).toUInt32 &&& Int32.toUInt32 31)).toInt32) &&& (1431655765 : Int32))) &&& (858993459 : Int32)) + (((((p1 - ((((p1).toUInt32 >>> (((1 : Int32)).toUInt32 &&& Int32.toUInt32 31)).toInt32) &&& (1431655765 : Int32)))).toUInt32 >>> (((2 : Int32)).toUInt32 &&& Int32.toUInt32 31)).toInt32) &&& (858993459 : Int32)))).toUInt32 >>> (((4 : Int32)).toUInt32 &&& Int32.toUInt32 31)).toInt32)) &&& (252645135 : Int32)))]) hx hb dJ6_bitCount_0f7a4_33 rfl hl (Nat.le_of_ble_eq_true rfl) rfl (fun ls hl => ?_)
  refine lv_iload_n hx hb dJ6_bitCount_0f7a4_34 rfl (lv_at hl 0 rfl) ?_
  refine lv_iload_n hx hb dJ6_bitCount_0f7a4_35 rfl (lv_at hl 0 rfl) ?_
  refine lv_bipush (v := (8 : Int32)) hx hb dJ6_bitCount_0f7a4_36 (by decide) ?_
  refine lv_iushr hx hb dJ6_bitCount_0f7a4_38 rfl ?_
  refine lv_iadd hx hb dJ6_bitCount_0f7a4_39 ?_
  refine lv_istore_n (lv' := [(0, .int ((((((p1 - ((((p1).toUInt32 >>> (((1 : Int32)).toUInt32 &&& Int32.toUInt32 31)).toInt32) &&& (1431655765 : Int32))) &&& (858993459 : Int32)) + (((((p1 - ((((p1).toUInt32 >>> (((1 : Int32)).toUInt32 &&& Int32.toUInt32 31)).toInt32) &&& (1431655765 : Int32)))).toUInt32 >>> (((2 : Int32)).toUInt32 &&& Int32.toUInt32 31)).toInt32) &&& (858993459 : Int32))) + ((((((p1 - ((((p1).toUInt32 >>> (((1 : Int32)).toUInt32 &&& Int32.toUInt32 31)).toInt32) &&& (1431655765 : Int32))) &&& (858993459 : Int32)) + (((((p1 - ((((p1).toUInt32 >>> (((1 : Int32)).toUInt32 &&& Int32.toUInt32 31)).toInt32) &&& (1431655765 : Int32)))).toUInt32 >>> (((2 : Int32)).toUInt32 &&& Int32.toUInt32 31)).toInt32) &&& (858993459 : Int32)))).toUInt32 >>> (((4 : Int32)).toUInt32 &&& Int32.toUInt32 31)).toInt32)) &&& (252645135 : Int32)) + ((((((((p1 - ((((p1).toUInt32 >>> (((1 : Int32)).toUInt32 &&& Int32.toUInt32 31)).toInt32) &&& (1431655765 : Int32))) &&& (858993459 : Int32)) + (((((p1 - ((((p1).toUInt32 >>> (((1 : Int32)).toUInt32 &&& Int32.toUInt32 31)).toInt32) &&& (1431655765 : Int32)))).toUInt32 >>> (((2 : Int32)).toUInt32 &&& Int32.toUInt32 31)).toInt32) &&& (858993459 : Int32))) + ((((((p1 - ((((p1).toUInt32 >>> (((1 : Int32)).toUInt32 &&& Int32.toUInt32 31)).toInt32) &&& (1431655765 : Int32))) &&& (858993459 : Int32)) + (((((p1 - ((((p1).toUInt32 >>> (((1 : Int32)).toUInt32 &&& Int32.toUInt32 31)).toInt32) &&& (1431655765 : Int32)))).toUInt32 >>> (((2 : Int32)).toUInt32 &&& Int32.toUInt32 31)).toInt32) &&& (858993459 : Int32)))).toUInt32 >>> (((4 : Int32)).toUInt32 &&& Int32.toUInt32 31)).toInt32)) &&& (252645135 : Int32))).toUInt32 >>> (((8 : Int32)).toUInt32 &&& Int32.toUInt32 31)).toInt32)))]) hx hb dJ6_bitCount_0f7a4_40 rfl hl (Nat.le_of_ble_eq_true rfl) rfl (fun ls hl => ?_)
  refine lv_iload_n hx hb dJ6_bitCount_0f7a4_41 rfl (lv_at hl 0 rfl) ?_
  refine lv_iload_n hx hb dJ6_bitCount_0f7a4_42 rfl (lv_at hl 0 rfl) ?_
  refine lv_bipush (v := (16 : Int32)) hx hb dJ6_bitCount_0f7a4_43 (by decide) ?_
  refine lv_iushr hx hb dJ6_bitCount_0f7a4_45 rfl ?_
  refine lv_iadd hx hb dJ6_bitCount_0f7a4_46 ?_
  refine lv_istore_n (lv' := [(0, .int (((((((p1 - ((((p1).toUInt32 >>> (((1 : Int32)).toUInt32 &&& Int32.toUInt32 31)).toInt32) &&& (1431655765 : Int32))) &&& (858993459 : Int32)) + (((((p1 - ((((p1).toUInt32 >>> (((1 : Int32)).toUInt32 &&& Int32.toUInt32 31)).toInt32) &&& (1431655765 : Int32)))).toUInt32 >>> (((2 : Int32)).toUInt32 &&& Int32.toUInt32 31)).toInt32) &&& (858993459 : Int32))) + ((((((p1 - ((((p1).toUInt32 >>> (((1 : Int32)).toUInt32 &&& Int32.toUInt32 31)).toInt32) &&& (1431655765 : Int32))) &&& (858993459 : Int32)) + (((((p1 - ((((p1).toUInt32 >>> (((1 : Int32)).toUInt32 &&& Int32.toUInt32 31)).toInt32) &&& (1431655765 : Int32)))).toUInt32 >>> (((2 : Int32)).toUInt32 &&& Int32.toUInt32 31)).toInt32) &&& (858993459 : Int32)))).toUInt32 >>> (((4 : Int32)).toUInt32 &&& Int32.toUInt32 31)).toInt32)) &&& (252645135 : Int32)) + ((((((((p1 - ((((p1).toUInt32 >>> (((1 : Int32)).toUInt32 &&& Int32.toUInt32 31)).toInt32) &&& (1431655765 : Int32))) &&& (858993459 : Int32)) + (((((p1 - ((((p1).toUInt32 >>> (((1 : Int32)).toUInt32 &&& Int32.toUInt32 31)).toInt32) &&& (1431655765 : Int32)))).toUInt32 >>> (((2 : Int32)).toUInt32 &&& Int32.toUInt32 31)).toInt32) &&& (858993459 : Int32))) + ((((((p1 - ((((p1).toUInt32 >>> (((1 : Int32)).toUInt32 &&& Int32.toUInt32 31)).toInt32) &&& (1431655765 : Int32))) &&& (858993459 : Int32)) + (((((p1 - ((((p1).toUInt32 >>> (((1 : Int32)).toUInt32 &&& Int32.toUInt32 31)).toInt32) &&& (1431655765 : Int32)))).toUInt32 >>> (((2 : Int32)).toUInt32 &&& Int32.toUInt32 31)).toInt32) &&& (858993459 : Int32)))).toUInt32 >>> (((4 : Int32)).toUInt32 &&& Int32.toUInt32 31)).toInt32)) &&& (252645135 : Int32))).toUInt32 >>> (((8 : Int32)).toUInt32 &&& Int32.toUInt32 31)).toInt32)) + (((((((((p1 - ((((p1).toUInt32 >>> (((1 : Int32)).toUInt32 &&& Int32.toUInt32 31)).toInt32) &&& (1431655765 : Int32))) &&& (858993459 : Int32)) + (((((p1 - ((((p1).toUInt32 >>> (((1 : Int32)).toUInt32 &&& Int32.toUInt32 31)).toInt32) &&& (1431655765 : Int32)))).toUInt32 >>> (((2 : Int32)).toUInt32 &&& Int32.toUInt32 31)).toInt32) &&& (858993459 : Int32))) + ((((((p1 - ((((p1).toUInt32 >>> (((1 : Int32)).toUInt32 &&& Int32.toUInt32 31)).toInt32) &&& (1431655765 : Int32))) &&& (858993459 : Int32)) + (((((p1 - ((((p1).toUInt32 >>> (((1 : Int32)).toUInt32 &&& Int32.toUInt32 31)).toInt32) &&& (1431655765 : Int32)))).toUInt32 >>> (((2 : Int32)).toUInt32 &&& Int32.toUInt32 31)).toInt32) &&& (858993459 : Int32)))).toUInt32 >>> (((4 : Int32)).toUInt32 &&& Int32.toUInt32 31)).toInt32)) &&& (252645135 : Int32)) + ((((((((p1 - ((((p1).toUInt32 >>> (((1 : Int32)).toUInt32 &&& Int32.toUInt32 31)).toInt32) &&& (1431655765 : Int32))) &&& (858993459 : Int32)) + (((((p1 - ((((p1).toUInt32 >>> (((1 : Int32)).toUInt32 &&& Int32.toUInt32 31)).toInt32) &&& (1431655765 : Int32)))).toUInt32 >>> (((2 : Int32)).toUInt32 &&& Int32.toUInt32 31)).toInt32) &&& (858993459 : Int32))) + ((((((p1 - ((((p1).toUInt32 >>> (((1 : Int32)).toUInt32 &&& Int32.toUInt32 31)).toInt32) &&& (1431655765 : Int32))) &&& (858993459 : Int32)) + (((((p1 - ((((p1).toUInt32 >>> (((1 : Int32)).toUInt32 &&& Int32.toUInt32 31)).toInt32) &&& (1431655765 : Int32)))).toUInt32 >>> (((2 : Int32)).toUInt32 &&& Int32.toUInt32 31)).toInt32) &&& (858993459 : Int32)))).toUInt32 >>> (((4 : Int32)).toUInt32 &&& Int32.toUInt32 31)).toInt32)) &&& (252645135 : Int32))).toUInt32 >>> (((8 : Int32)).toUInt32 &&& Int32.toUInt32 31)).toInt32))).toUInt32 >>> (((16 : Int32)).toUInt32 &&& Int32.toUInt32 31)).toInt32)))]) hx hb dJ6_bitCount_0f7a4_47 rfl hl (Nat.le_of_ble_eq_true rfl) rfl (fun ls hl => ?_)
  refine lv_iload_n hx hb dJ6_bitCount_0f7a4_48 rfl (lv_at hl 0 rfl) ?_
  refine lv_bipush (v := (63 : Int32)) hx hb dJ6_bitCount_0f7a4_49 (by decide) ?_
  refine lv_iand hx hb dJ6_bitCount_0f7a4_51 ?_
  exact hret (o := (((((((((p1 - ((((p1).toUInt32 >>> (((1 : Int32)).toUInt32 &&& Int32.toUInt32 31)).toInt32) &&& (1431655765 : Int32))) &&& (858993459 : Int32)) + (((((p1 - ((((p1).toUInt32 >>> (((1 : Int32)).toUInt32 &&& Int32.toUInt32 31)).toInt32) &&& (1431655765 : Int32)))).toUInt32 >>> (((2 : Int32)).toUInt32 &&& Int32.toUInt32 31)).toInt32) &&& (858993459 : Int32))) + ((((((p1 - ((((p1).toUInt32 >>> (((1 : Int32)).toUInt32 &&& Int32.toUInt32 31)).toInt32) &&& (1431655765 : Int32))) &&& (858993459 : Int32)) + (((((p1 - ((((p1).toUInt32 >>> (((1 : Int32)).toUInt32 &&& Int32.toUInt32 31)).toInt32) &&& (1431655765 : Int32)))).toUInt32 >>> (((2 : Int32)).toUInt32 &&& Int32.toUInt32 31)).toInt32) &&& (858993459 : Int32)))).toUInt32 >>> (((4 : Int32)).toUInt32 &&& Int32.toUInt32 31)).toInt32)) &&& (252645135 : Int32)) + ((((((((p1 - ((((p1).toUInt32 >>> (((1 : Int32)).toUInt32 &&& Int32.toUInt32 31)).toInt32) &&& (1431655765 : Int32))) &&& (858993459 : Int32)) + (((((p1 - ((((p1).toUInt32 >>> (((1 : Int32)).toUInt32 &&& Int32.toUInt32 31)).toInt32) &&& (1431655765 : Int32)))).toUInt32 >>> (((2 : Int32)).toUInt32 &&& Int32.toUInt32 31)).toInt32) &&& (858993459 : Int32))) + ((((((p1 - ((((p1).toUInt32 >>> (((1 : Int32)).toUInt32 &&& Int32.toUInt32 31)).toInt32) &&& (1431655765 : Int32))) &&& (858993459 : Int32)) + (((((p1 - ((((p1).toUInt32 >>> (((1 : Int32)).toUInt32 &&& Int32.toUInt32 31)).toInt32) &&& (1431655765 : Int32)))).toUInt32 >>> (((2 : Int32)).toUInt32 &&& Int32.toUInt32 31)).toInt32) &&& (858993459 : Int32)))).toUInt32 >>> (((4 : Int32)).toUInt32 &&& Int32.toUInt32 31)).toInt32)) &&& (252645135 : Int32))).toUInt32 >>> (((8 : Int32)).toUInt32 &&& Int32.toUInt32 31)).toInt32)) + (((((((((p1 - ((((p1).toUInt32 >>> (((1 : Int32)).toUInt32 &&& Int32.toUInt32 31)).toInt32) &&& (1431655765 : Int32))) &&& (858993459 : Int32)) + (((((p1 - ((((p1).toUInt32 >>> (((1 : Int32)).toUInt32 &&& Int32.toUInt32 31)).toInt32) &&& (1431655765 : Int32)))).toUInt32 >>> (((2 : Int32)).toUInt32 &&& Int32.toUInt32 31)).toInt32) &&& (858993459 : Int32))) + ((((((p1 - ((((p1).toUInt32 >>> (((1 : Int32)).toUInt32 &&& Int32.toUInt32 31)).toInt32) &&& (1431655765 : Int32))) &&& (858993459 : Int32)) + (((((p1 - ((((p1).toUInt32 >>> (((1 : Int32)).toUInt32 &&& Int32.toUInt32 31)).toInt32) &&& (1431655765 : Int32)))).toUInt32 >>> (((2 : Int32)).toUInt32 &&& Int32.toUInt32 31)).toInt32) &&& (858993459 : Int32)))).toUInt32 >>> (((4 : Int32)).toUInt32 &&& Int32.toUInt32 31)).toInt32)) &&& (252645135 : Int32)) + ((((((((p1 - ((((p1).toUInt32 >>> (((1 : Int32)).toUInt32 &&& Int32.toUInt32 31)).toInt32) &&& (1431655765 : Int32))) &&& (858993459 : Int32)) + (((((p1 - ((((p1).toUInt32 >>> (((1 : Int32)).toUInt32 &&& Int32.toUInt32 31)).toInt32) &&& (1431655765 : Int32)))).toUInt32 >>> (((2 : Int32)).toUInt32 &&& Int32.toUInt32 31)).toInt32) &&& (858993459 : Int32))) + ((((((p1 - ((((p1).toUInt32 >>> (((1 : Int32)).toUInt32 &&& Int32.toUInt32 31)).toInt32) &&& (1431655765 : Int32))) &&& (858993459 : Int32)) + (((((p1 - ((((p1).toUInt32 >>> (((1 : Int32)).toUInt32 &&& Int32.toUInt32 31)).toInt32) &&& (1431655765 : Int32)))).toUInt32 >>> (((2 : Int32)).toUInt32 &&& Int32.toUInt32 31)).toInt32) &&& (858993459 : Int32)))).toUInt32 >>> (((4 : Int32)).toUInt32 &&& Int32.toUInt32 31)).toInt32)) &&& (252645135 : Int32))).toUInt32 >>> (((8 : Int32)).toUInt32 &&& Int32.toUInt32 31)).toInt32))).toUInt32 >>> (((16 : Int32)).toUInt32 &&& Int32.toUInt32 31)).toInt32)) &&& (63 : Int32)))) h hP hD hS dJ6_bitCount_0f7a4_52

abbrev wdJ7_fill_53178 (cy : Nat → ClassId) (bp1 np1 : Nat) (cp1 : Nat → Int32) : va_W := [(bp1, .inl (cy 0, np1, .inl cp1))]
abbrev rmJ7_fill_53178 : Room := { frames := 0, cells := 0, slots := 0, locals := 0 }
theorem cdJ7_fill_53178 : (yJ7_fill_53178).cls ≠ "java/lang/invoke/MethodHandle" ∧ (yJ7_fill_53178).cls ≠ "java/lang/invoke/VarHandle" ∧ (parseMethodDescriptor (yJ7_fill_53178).desc).map (fun d => d.parameters.length) = some 2 := by decide +kernel
def fJ7_fill_53178_L5 (np1 : Nat) (p2 : Int32) : Nat → Int32 → (Nat → Int32) → Option ((Nat → Int32)) :=
  zl2 (fun rec5 v2_5 cp1_5 => if (Int32.ofNat np1) ≤ v2_5 then (some (cp1_5)) else (zg (zin v2_5 np1) (rec5 (v2_5 + (1 : Int32)) (upd cp1_5 (v2_5).toNatClampNeg p2))))
def fJ7_fill_53178 (p2 : Int32) (np1 : Nat) (cp1 : Nat → Int32) : Option ((Nat → Int32)) :=
  fJ7_fill_53178_L5 np1 p2 5000 (0 : Int32) cp1
set_option maxHeartbeats 4000000 in
set_option maxRecDepth 100000 in
theorem mJ7_fill_53178 (l : Launch) (D : va_G) (cy : Nat → ClassId) (sz : Nat) (bp1 np1 : Nat) (cp1 : Nat → Int32) (p2 : Int32) (res : ((Nat → Int32))) (h : fJ7_fill_53178 p2 np1 cp1 = some res) : zMv l yJ7_fill_53178 wsJ7_fill_53178 rmJ7_fill_53178 [.ref bp1, .int p2] D cy (wdJ7_fill_53178 cy bp1 np1 cp1) sz  ((fun (o : ((Nat → Int32))) => (wdJ7_fill_53178 cy bp1 np1 (o))) res) := by
  refine zOfv (res := res) (Wf := (fun (o : ((Nat → Int32))) => (wdJ7_fill_53178 cy bp1 np1 (o)))) (by decide +kernel) rfl (Nat.le_of_ble_eq_true rfl) ?_
  intro p e s m args below meth c A ls Q hx hb hml hts hown hP hK hD hA hS hl hret
  have hown : s.vm.findClass RJ7 = some m.cls := hown
  have hl : lv_has ls 4 [(0, .ref bp1), (1, .int p2)] := hl
  refine lv_iconst (v := (0 : Int32)) hx hb dJ7_fill_53178_0 (by decide) ?_
  refine lv_istore_n (lv' := [(2, .int (0 : Int32)), (0, .ref bp1), (1, .int p2)]) hx hb dJ7_fill_53178_1 rfl hl (Nat.le_of_ble_eq_true rfl) rfl (fun ls hl => ?_)
  refine lv_aload_n hx hb dJ7_fill_53178_2 rfl (lv_at hl 1 rfl) ?_
  refine va_alen hx hb hK.1 hP 0 0 rfl rfl rfl dJ7_fill_53178_3 ?_
  refine lv_istore_n (lv' := [(3, .int (Int32.ofNat np1)), (2, .int (0 : Int32)), (0, .ref bp1), (1, .int p2)]) hx hb dJ7_fill_53178_4 rfl hl (Nat.le_of_ble_eq_true rfl) rfl (fun ls hl => ?_)
  have hL5 : ∀ n5 : Nat, ∀ (v2_5 : Int32) (cp1_5 : Nat → Int32) (H : Heap) (locs : List Loc) (ls : Array Slot), va_P D vwCl (wdJ7_fill_53178 cy bp1 np1 cp1_5) H → va_D A (wdJ7_fill_53178 cy bp1 np1 cp1_5) → va_S A s.heap H locs → lv_has ls 4 [(0, .ref bp1), (1, .int p2), (2, .int v2_5), (3, .int (Int32.ofNat np1))] → fJ7_fill_53178_L5 np1 p2 n5 v2_5 cp1_5 = some res → W p l e rmJ7_fill_53178 s m args below meth c H locs 0 0 Q (F0 m 5 ls []) := by
    intro n5
    induction n5 with
    | zero =>
      intro v2_5 cp1_5 H locs ls hP hD hS hl h
      exact zl2_0 h
    | succ n5 ih5 =>
      intro v2_5 cp1_5 H locs ls hP hD hS hl h
      replace h := zl2_s h
      refine lv_iload_n hx hb dJ7_fill_53178_5 rfl (lv_at hl 2 rfl) ?_
      refine lv_iload_n hx hb dJ7_fill_53178_6 rfl (lv_at hl 3 rfl) ?_
      refine lv_icmp_ge (tgt := 20) hx hb dJ7_fill_53178_7 (by decide) (fun hc7 => ?_) (fun hc7 => ?_)
      · replace h := zi_t hc7 h
        exact hret (o := (cp1_5)) h hP hD hS dJ7_fill_53178_20
      · replace h := zi_f hc7 h
        refine lv_aload_n hx hb dJ7_fill_53178_10 rfl (lv_at hl 0 rfl) ?_
        refine lv_iload_n hx hb dJ7_fill_53178_11 rfl (lv_at hl 2 rfl) ?_
        refine lv_iload_n hx hb dJ7_fill_53178_12 rfl (lv_at hl 1 rfl) ?_
        obtain ⟨hi13, h⟩ := zg_s h
        refine va_iast hx hb hK.1 hP hD hS 0 0 rfl rfl hi13 dJ7_fill_53178_13 (fun H locs hP hD hS => ?_)
        have hP : va_P D vwCl (wdJ7_fill_53178 cy bp1 np1 (upd cp1_5 (v2_5).toNatClampNeg p2)) H := hP
        have hD : va_D A (wdJ7_fill_53178 cy bp1 np1 (upd cp1_5 (v2_5).toNatClampNeg p2)) := hD
        refine lv_iinc (v := (v2_5 + (1 : Int32))) (lv' := [(2, .int (v2_5 + (1 : Int32))), (0, .ref bp1), (1, .int p2), (3, .int (Int32.ofNat np1))]) hx hb dJ7_fill_53178_14 hl (k := 2) rfl (by rfl) (Nat.le_of_ble_eq_true rfl) rfl (fun ls hl => ?_)
        refine lv_goto (tgt := 5) hx hb dJ7_fill_53178_17 (by decide) ?_
        exact ih5 (v2_5 + (1 : Int32)) (upd cp1_5 (v2_5).toNatClampNeg p2) _ _ _ hP hD hS (lv_sub hl [1, 2, 0, 3] rfl) h
  exact hL5 5000 (0 : Int32) cp1 _ _ _ hP hD hS (lv_sub hl [2, 3, 1, 0] rfl) h

abbrev rmX10_isIn : Room := { frames := 0, cells := 0, slots := 0, locals := 0 }
theorem cdX10_isIn : (yX10_isIn).cls ≠ "java/lang/invoke/MethodHandle" ∧ (yX10_isIn).cls ≠ "java/lang/invoke/VarHandle" ∧ (parseMethodDescriptor (yX10_isIn).desc).map (fun d => d.parameters.length) = some 3 := by decide +kernel
def fX10_isIn (p1 p2 p3 : Int32) : Option (Int32) :=
  if p1 < p2 then (some ((0 : Int32))) else (if p3 < p1 then (some ((0 : Int32))) else (some ((1 : Int32))))
set_option maxHeartbeats 4000000 in
set_option maxRecDepth 100000 in
theorem mX10_isIn (l : Launch) (D : va_G) (cy : Nat → ClassId) (sz : Nat) (p1 p2 p3 : Int32) (res : (Int32)) (h : fX10_isIn p1 p2 p3 = some res) : zMz l yX10_isIn wsX10_isIn rmX10_isIn [.int p1, .int p2, .int p3] D cy ([] : va_W) sz ((fun (o : (Int32)) => o) res) ((fun (_ : (Int32)) => ([] : va_W)) res) := by
  refine zOfz (res := res) (rf := (fun (o : (Int32)) => o)) (Wf := (fun (_ : (Int32)) => ([] : va_W))) (by decide +kernel) rfl (Nat.le_of_ble_eq_true rfl) ?_
  intro p e s m args below meth c A ls Q hx hb hml hts hown hP hK hD hA hS hl hret
  have hown : s.vm.findClass RX10 = some m.cls := hown
  have hl : lv_has ls 3 [(0, .int p1), (1, .int p2), (2, .int p3)] := hl
  refine lv_iload_n hx hb dX10_isIn_0 rfl (lv_at hl 0 rfl) ?_
  refine lv_iload_n hx hb dX10_isIn_1 rfl (lv_at hl 1 rfl) ?_
  refine lv_icmp_lt (tgt := 14) hx hb dX10_isIn_2 (by decide) (fun hc2 => ?_) (fun hc2 => ?_)
  · replace h := zi_t hc2 h
    refine lv_iconst (v := (0 : Int32)) hx hb dX10_isIn_14 (by decide) ?_
    exact hret (o := ((0 : Int32))) h (show narrow .boolean (.int (0 : Int32)) = .int (0 : Int32) from by decide) hP hD hS dX10_isIn_15
  · replace h := zi_f hc2 h
    refine lv_iload_n hx hb dX10_isIn_5 rfl (lv_at hl 0 rfl) ?_
    refine lv_iload_n hx hb dX10_isIn_6 rfl (lv_at hl 2 rfl) ?_
    refine lv_icmp_gt (tgt := 14) hx hb dX10_isIn_7 (by decide) (fun hc7 => ?_) (fun hc7 => ?_)
    · replace h := zi_t hc7 h
      refine lv_iconst (v := (0 : Int32)) hx hb dX10_isIn_14 (by decide) ?_
      exact hret (o := ((0 : Int32))) h (show narrow .boolean (.int (0 : Int32)) = .int (0 : Int32) from by decide) hP hD hS dX10_isIn_15
    · replace h := zi_f hc7 h
      refine lv_iconst (v := (1 : Int32)) hx hb dX10_isIn_10 (by decide) ?_
      refine lv_goto (tgt := 15) hx hb dX10_isIn_11 (by decide) ?_
      exact hret (o := ((1 : Int32))) h (show narrow .boolean (.int (1 : Int32)) = .int (1 : Int32) from by decide) hP hD hS dX10_isIn_15

abbrev rmX10_bitsOfDouble : Room := { frames := 0, cells := 0, slots := 0, locals := 0 }
theorem cdX10_bitsOfDouble : (yX10_bitsOfDouble).cls ≠ "java/lang/invoke/MethodHandle" ∧ (yX10_bitsOfDouble).cls ≠ "java/lang/invoke/VarHandle" ∧ (parseMethodDescriptor (yX10_bitsOfDouble).desc).map (fun d => d.parameters.length) = some 1 := by decide +kernel
def fX10_bitsOfDouble_J79  (v2_79 : UInt64) (v4_79 : Int64) : Option (Int64) :=
  zg ((FP.dsub v2_79 FP.dconst1) &&& 0x7fffffffffffffff ≤ 0x7ff0000000000000) (zg ((FP.dmul (FP.dsub v2_79 FP.dconst1) (4841369599423283200 : UInt64)) &&& 0x7fffffffffffffff ≤ 0x7ff0000000000000) (some (((v4_79 <<< (((52 : Int32)).toInt64 &&& 63)) ||| (FP.d2l (FP.dmul (FP.dsub v2_79 FP.dconst1) (4841369599423283200 : UInt64)))))))
def fX10_bitsOfDouble_L47 (k79_47 : UInt64 → Int64 → Option (Int64)) : Nat → UInt64 → Int64 → Int32 → Option (Int64) :=
  zl3 (fun rec47 v2_47 v4_47 v6_47 => if (1100 : Int32) ≤ v6_47 then (k79_47 v2_47 v4_47) else (if 0 ≤ (Op.cmpValue (FP.dcmp v2_47 FP.dconst1) CmpOp.g) then (k79_47 v2_47 v4_47) else (zg ((FP.dmul v2_47 (4611686018427387904 : UInt64)) &&& 0x7fffffffffffffff ≤ 0x7ff0000000000000) (rec47 (FP.dmul v2_47 (4611686018427387904 : UInt64)) (v4_47 - (1 : Int64)) (v6_47 + (1 : Int32))))))
def fX10_bitsOfDouble_J44  (v2_44 : UInt64) (v4_44 : Int64) : Option (Int64) :=
  fX10_bitsOfDouble_L47 fX10_bitsOfDouble_J79 5000 v2_44 v4_44 (0 : Int32)
def fX10_bitsOfDouble_L10 (k44_10 : UInt64 → Int64 → Option (Int64)) : Nat → UInt64 → Int64 → Int32 → Option (Int64) :=
  zl3 (fun rec10 v2_10 v4_10 v6_10 => if (1100 : Int32) ≤ v6_10 then (k44_10 v2_10 v4_10) else (if (Op.cmpValue (FP.dcmp v2_10 (4611686018427387904 : UInt64)) CmpOp.l) < 0 then (k44_10 v2_10 v4_10) else (zg ((FP.ddiv v2_10 (4611686018427387904 : UInt64)) &&& 0x7fffffffffffffff ≤ 0x7ff0000000000000) (rec10 (FP.ddiv v2_10 (4611686018427387904 : UInt64)) (v4_10 + (1 : Int64)) (v6_10 + (1 : Int32))))))
def fX10_bitsOfDouble (p1 : UInt64) : Option (Int64) :=
  fX10_bitsOfDouble_L10 fX10_bitsOfDouble_J44 5000 p1 (1023 : Int64) (0 : Int32)
set_option maxHeartbeats 4000000 in
set_option maxRecDepth 100000 in
theorem mX10_bitsOfDouble (l : Launch) (D : va_G) (cy : Nat → ClassId) (sz : Nat) (p1 : UInt64) (res : (Int64)) (h : fX10_bitsOfDouble p1 = some res) : zMl l yX10_bitsOfDouble wsX10_bitsOfDouble rmX10_bitsOfDouble [.double p1] D cy ([] : va_W) sz ((fun (o : (Int64)) => o) res) ((fun (_ : (Int64)) => ([] : va_W)) res) := by
  refine zOfl (res := res) (rf := (fun (o : (Int64)) => o)) (Wf := (fun (_ : (Int64)) => ([] : va_W))) (by decide +kernel) rfl (Nat.le_of_ble_eq_true rfl) ?_
  intro p e s m args below meth c A ls Q hx hb hml hts hown hP hK hD hA hS hl hret
  have hown : s.vm.findClass RX10 = some m.cls := hown
  have hl : lv_has ls 7 [(0, .double p1)] := hl
  refine lv_dload_n hx hb dX10_bitsOfDouble_0 rfl (lv_at hl 0 rfl) ?_
  refine lv_dstore_n (lv' := [(2, .double p1), (0, .double p1)]) hx hb dX10_bitsOfDouble_1 rfl hl (Nat.le_of_ble_eq_true rfl) rfl (fun ls hl => ?_)
  refine lv_ldc2 hx hb hown (hts (.constantLong RX10 312 (1023)) (List.mem_of_getElem? (i := 1) rfl)) dX10_bitsOfDouble_2 ?_
  refine lv_lstore (lv' := [(4, .long (1023 : Int64)), (2, .double p1), (0, .double p1)]) hx hb dX10_bitsOfDouble_5 hl (Nat.le_of_ble_eq_true rfl) rfl (fun ls hl => ?_)
  refine lv_iconst (v := (0 : Int32)) hx hb dX10_bitsOfDouble_7 (by decide) ?_
  refine lv_istore (lv' := [(6, .int (0 : Int32)), (4, .long (1023 : Int64)), (2, .double p1), (0, .double p1)]) hx hb dX10_bitsOfDouble_8 hl (Nat.le_of_ble_eq_true rfl) rfl (fun ls hl => ?_)
  have hJ44 : ∀ (v2_44 : UInt64) (v4_44 : Int64) (H : Heap) (locs : List Loc) (ls : Array Slot), va_P D vwCl ([] : va_W) H → va_D A ([] : va_W) → va_S A s.heap H locs → lv_has ls 7 [(2, .double v2_44), (4, .long v4_44)] → fX10_bitsOfDouble_J44 v2_44 v4_44 = some res → W p l e rmX10_bitsOfDouble s m args below meth c H locs 0 0 Q (F0 m 44 ls []) := by
    intro v2_44 v4_44 H locs ls hP hD hS hl h
    refine lv_iconst (v := (0 : Int32)) hx hb dX10_bitsOfDouble_44 (by decide) ?_
    refine lv_istore (lv' := [(6, .int (0 : Int32)), (2, .double v2_44), (4, .long v4_44)]) hx hb dX10_bitsOfDouble_45 hl (Nat.le_of_ble_eq_true rfl) rfl (fun ls hl => ?_)
    have hJ79 : ∀ (v2_79 : UInt64) (v4_79 : Int64) (H : Heap) (locs : List Loc) (ls : Array Slot), va_P D vwCl ([] : va_W) H → va_D A ([] : va_W) → va_S A s.heap H locs → lv_has ls 7 [(2, .double v2_79), (4, .long v4_79)] → fX10_bitsOfDouble_J79 v2_79 v4_79 = some res → W p l e rmX10_bitsOfDouble s m args below meth c H locs 0 0 Q (F0 m 79 ls []) := by
      intro v2_79 v4_79 H locs ls hP hD hS hl h
      refine lv_lload hx hb dX10_bitsOfDouble_79 (lv_at hl 1 rfl) ?_
      refine lv_bipush (v := (52 : Int32)) hx hb dX10_bitsOfDouble_81 (by decide) ?_
      refine lv_lshl hx hb dX10_bitsOfDouble_83 rfl ?_
      refine lv_dload_n hx hb dX10_bitsOfDouble_84 rfl (lv_at hl 0 rfl) ?_
      refine lv_dconst1 hx hb dX10_bitsOfDouble_85 ?_
      obtain ⟨hn86, h⟩ := zg_s h
      refine lv_dsub hx hb dX10_bitsOfDouble_86 (zn64 hn86) ?_
      refine lv_ldc2d hx hb hown (hts (.constantDouble RX10 316 (4841369599423283200)) (List.mem_of_getElem? (i := 3) rfl)) dX10_bitsOfDouble_87 ?_
      obtain ⟨hn90, h⟩ := zg_s h
      refine lv_dmul hx hb dX10_bitsOfDouble_90 (zn64 hn90) ?_
      refine lv_d2l hx hb dX10_bitsOfDouble_91 ?_
      refine lv_lor hx hb dX10_bitsOfDouble_92 ?_
      exact hret (o := (((v4_79 <<< (((52 : Int32)).toInt64 &&& 63)) ||| (FP.d2l (FP.dmul (FP.dsub v2_79 FP.dconst1) (4841369599423283200 : UInt64)))))) h hP hD hS dX10_bitsOfDouble_93
    have hL47 : ∀ n47 : Nat, ∀ (v2_47 : UInt64) (v4_47 : Int64) (v6_47 : Int32) (H : Heap) (locs : List Loc) (ls : Array Slot), va_P D vwCl ([] : va_W) H → va_D A ([] : va_W) → va_S A s.heap H locs → lv_has ls 7 [(2, .double v2_47), (4, .long v4_47), (6, .int v6_47)] → fX10_bitsOfDouble_L47 fX10_bitsOfDouble_J79 n47 v2_47 v4_47 v6_47 = some res → W p l e rmX10_bitsOfDouble s m args below meth c H locs 0 0 Q (F0 m 47 ls []) := by
      intro n47
      induction n47 with
      | zero =>
        intro v2_47 v4_47 v6_47 H locs ls hP hD hS hl h
        exact zl3_0 h
      | succ n47 ih47 =>
        intro v2_47 v4_47 v6_47 H locs ls hP hD hS hl h
        replace h := zl3_s h
        refine lv_iload hx hb dX10_bitsOfDouble_47 (lv_at hl 2 rfl) ?_
        refine lv_sipush (v := (1100 : Int32)) hx hb dX10_bitsOfDouble_49 (by decide) ?_
        refine lv_icmp_ge (tgt := 79) hx hb dX10_bitsOfDouble_52 (by decide) (fun hc52 => ?_) (fun hc52 => ?_)
        · replace h := zi_t hc52 h
          exact hJ79 v2_47 v4_47 _ _ _ hP hD hS (lv_sub hl [0, 1] rfl) h
        · replace h := zi_f hc52 h
          refine lv_dload_n hx hb dX10_bitsOfDouble_55 rfl (lv_at hl 0 rfl) ?_
          refine lv_dconst1 hx hb dX10_bitsOfDouble_56 ?_
          refine lv_dcmp hx hb dX10_bitsOfDouble_57 ?_
          refine lv_if_ge (tgt := 79) hx hb dX10_bitsOfDouble_58 (by decide) (fun hc58 => ?_) (fun hc58 => ?_)
          · replace h := zi_t hc58 h
            exact hJ79 v2_47 v4_47 _ _ _ hP hD hS (lv_sub hl [0, 1] rfl) h
          · replace h := zi_f hc58 h
            refine lv_dload_n hx hb dX10_bitsOfDouble_61 rfl (lv_at hl 0 rfl) ?_
            refine lv_ldc2d hx hb hown (hts (.constantDouble RX10 314 (4611686018427387904)) (List.mem_of_getElem? (i := 2) rfl)) dX10_bitsOfDouble_62 ?_
            obtain ⟨hn65, h⟩ := zg_s h
            refine lv_dmul hx hb dX10_bitsOfDouble_65 (zn64 hn65) ?_
            refine lv_dstore_n (lv' := [(2, .double (FP.dmul v2_47 (4611686018427387904 : UInt64))), (4, .long v4_47), (6, .int v6_47)]) hx hb dX10_bitsOfDouble_66 rfl hl (Nat.le_of_ble_eq_true rfl) rfl (fun ls hl => ?_)
            refine lv_lload hx hb dX10_bitsOfDouble_67 (lv_at hl 1 rfl) ?_
            refine lv_lconst (v := (1 : Int64)) hx hb dX10_bitsOfDouble_69 (by decide) ?_
            refine lv_lsub hx hb dX10_bitsOfDouble_70 ?_
            refine lv_lstore (lv' := [(4, .long (v4_47 - (1 : Int64))), (2, .double (FP.dmul v2_47 (4611686018427387904 : UInt64))), (6, .int v6_47)]) hx hb dX10_bitsOfDouble_71 hl (Nat.le_of_ble_eq_true rfl) rfl (fun ls hl => ?_)
            refine lv_iinc (v := (v6_47 + (1 : Int32))) (lv' := [(6, .int (v6_47 + (1 : Int32))), (4, .long (v4_47 - (1 : Int64))), (2, .double (FP.dmul v2_47 (4611686018427387904 : UInt64)))]) hx hb dX10_bitsOfDouble_73 hl (k := 2) rfl (by rfl) (Nat.le_of_ble_eq_true rfl) rfl (fun ls hl => ?_)
            refine lv_goto (tgt := 47) hx hb dX10_bitsOfDouble_76 (by decide) ?_
            exact ih47 (FP.dmul v2_47 (4611686018427387904 : UInt64)) (v4_47 - (1 : Int64)) (v6_47 + (1 : Int32)) _ _ _ hP hD hS (lv_sub hl [2, 1, 0] rfl) h
    exact hL47 5000 v2_44 v4_44 (0 : Int32) _ _ _ hP hD hS (lv_sub hl [1, 2, 0] rfl) h
  have hL10 : ∀ n10 : Nat, ∀ (v2_10 : UInt64) (v4_10 : Int64) (v6_10 : Int32) (H : Heap) (locs : List Loc) (ls : Array Slot), va_P D vwCl ([] : va_W) H → va_D A ([] : va_W) → va_S A s.heap H locs → lv_has ls 7 [(2, .double v2_10), (4, .long v4_10), (6, .int v6_10)] → fX10_bitsOfDouble_L10 fX10_bitsOfDouble_J44 n10 v2_10 v4_10 v6_10 = some res → W p l e rmX10_bitsOfDouble s m args below meth c H locs 0 0 Q (F0 m 10 ls []) := by
    intro n10
    induction n10 with
    | zero =>
      intro v2_10 v4_10 v6_10 H locs ls hP hD hS hl h
      exact zl3_0 h
    | succ n10 ih10 =>
      intro v2_10 v4_10 v6_10 H locs ls hP hD hS hl h
      replace h := zl3_s h
      refine lv_iload hx hb dX10_bitsOfDouble_10 (lv_at hl 2 rfl) ?_
      refine lv_sipush (v := (1100 : Int32)) hx hb dX10_bitsOfDouble_12 (by decide) ?_
      refine lv_icmp_ge (tgt := 44) hx hb dX10_bitsOfDouble_15 (by decide) (fun hc15 => ?_) (fun hc15 => ?_)
      · replace h := zi_t hc15 h
        exact hJ44 v2_10 v4_10 _ _ _ hP hD hS (lv_sub hl [0, 1] rfl) h
      · replace h := zi_f hc15 h
        refine lv_dload_n hx hb dX10_bitsOfDouble_18 rfl (lv_at hl 0 rfl) ?_
        refine lv_ldc2d hx hb hown (hts (.constantDouble RX10 314 (4611686018427387904)) (List.mem_of_getElem? (i := 2) rfl)) dX10_bitsOfDouble_19 ?_
        refine lv_dcmp hx hb dX10_bitsOfDouble_22 ?_
        refine lv_if_lt (tgt := 44) hx hb dX10_bitsOfDouble_23 (by decide) (fun hc23 => ?_) (fun hc23 => ?_)
        · replace h := zi_t hc23 h
          exact hJ44 v2_10 v4_10 _ _ _ hP hD hS (lv_sub hl [0, 1] rfl) h
        · replace h := zi_f hc23 h
          refine lv_dload_n hx hb dX10_bitsOfDouble_26 rfl (lv_at hl 0 rfl) ?_
          refine lv_ldc2d hx hb hown (hts (.constantDouble RX10 314 (4611686018427387904)) (List.mem_of_getElem? (i := 2) rfl)) dX10_bitsOfDouble_27 ?_
          obtain ⟨hn30, h⟩ := zg_s h
          refine lv_ddiv hx hb dX10_bitsOfDouble_30 (zn64 hn30) ?_
          refine lv_dstore_n (lv' := [(2, .double (FP.ddiv v2_10 (4611686018427387904 : UInt64))), (4, .long v4_10), (6, .int v6_10)]) hx hb dX10_bitsOfDouble_31 rfl hl (Nat.le_of_ble_eq_true rfl) rfl (fun ls hl => ?_)
          refine lv_lload hx hb dX10_bitsOfDouble_32 (lv_at hl 1 rfl) ?_
          refine lv_lconst (v := (1 : Int64)) hx hb dX10_bitsOfDouble_34 (by decide) ?_
          refine lv_ladd hx hb dX10_bitsOfDouble_35 ?_
          refine lv_lstore (lv' := [(4, .long (v4_10 + (1 : Int64))), (2, .double (FP.ddiv v2_10 (4611686018427387904 : UInt64))), (6, .int v6_10)]) hx hb dX10_bitsOfDouble_36 hl (Nat.le_of_ble_eq_true rfl) rfl (fun ls hl => ?_)
          refine lv_iinc (v := (v6_10 + (1 : Int32))) (lv' := [(6, .int (v6_10 + (1 : Int32))), (4, .long (v4_10 + (1 : Int64))), (2, .double (FP.ddiv v2_10 (4611686018427387904 : UInt64)))]) hx hb dX10_bitsOfDouble_38 hl (k := 2) rfl (by rfl) (Nat.le_of_ble_eq_true rfl) rfl (fun ls hl => ?_)
          refine lv_goto (tgt := 10) hx hb dX10_bitsOfDouble_41 (by decide) ?_
          exact ih10 (FP.ddiv v2_10 (4611686018427387904 : UInt64)) (v4_10 + (1 : Int64)) (v6_10 + (1 : Int32)) _ _ _ hP hD hS (lv_sub hl [2, 1, 0] rfl) h
  exact hL10 5000 p1 (1023 : Int64) (0 : Int32) _ _ _ hP hD hS (lv_sub hl [2, 1, 0] rfl) h

abbrev rmX10_bitsOfFloat : Room := { frames := 0, cells := 0, slots := 0, locals := 0 }
theorem cdX10_bitsOfFloat : (yX10_bitsOfFloat).cls ≠ "java/lang/invoke/MethodHandle" ∧ (yX10_bitsOfFloat).cls ≠ "java/lang/invoke/VarHandle" ∧ (parseMethodDescriptor (yX10_bitsOfFloat).desc).map (fun d => d.parameters.length) = some 1 := by decide +kernel
def fX10_bitsOfFloat_J61  (v1_61 : UInt32) (v2_61 : Int32) : Option (Int64) :=
  zg ((FP.fsub v1_61 FP.fconst1) &&& 0x7fffffff ≤ 0x7f800000) (zg ((FP.fmul (FP.fsub v1_61 FP.fconst1) (1258291200 : UInt32)) &&& 0x7fffffff ≤ 0x7f800000) (some (((((v2_61 <<< ((23 : Int32) &&& 31)) ||| (FP.f2i (FP.fmul (FP.fsub v1_61 FP.fconst1) (1258291200 : UInt32))))).toInt64))))
def fX10_bitsOfFloat_L35 (k61_35 : UInt32 → Int32 → Option (Int64)) : Nat → UInt32 → Int32 → Int32 → Option (Int64) :=
  zl3 (fun rec35 v1_35 v2_35 v3_35 => if (200 : Int32) ≤ v3_35 then (k61_35 v1_35 v2_35) else (if 0 ≤ (Op.cmpValue (FP.fcmp v1_35 FP.fconst1) CmpOp.g) then (k61_35 v1_35 v2_35) else (zg ((FP.fmul v1_35 FP.fconst2) &&& 0x7fffffff ≤ 0x7f800000) (rec35 (FP.fmul v1_35 FP.fconst2) (v2_35 + (-1 : Int32)) (v3_35 + (1 : Int32))))))
def fX10_bitsOfFloat_J33  (v1_33 : UInt32) (v2_33 : Int32) : Option (Int64) :=
  fX10_bitsOfFloat_L35 fX10_bitsOfFloat_J61 5000 v1_33 v2_33 (0 : Int32)
def fX10_bitsOfFloat_L7 (k33_7 : UInt32 → Int32 → Option (Int64)) : Nat → UInt32 → Int32 → Int32 → Option (Int64) :=
  zl3 (fun rec7 v1_7 v2_7 v3_7 => if (200 : Int32) ≤ v3_7 then (k33_7 v1_7 v2_7) else (if (Op.cmpValue (FP.fcmp v1_7 FP.fconst2) CmpOp.l) < 0 then (k33_7 v1_7 v2_7) else (zg ((FP.fdiv v1_7 FP.fconst2) &&& 0x7fffffff ≤ 0x7f800000) (rec7 (FP.fdiv v1_7 FP.fconst2) (v2_7 + (1 : Int32)) (v3_7 + (1 : Int32))))))
def fX10_bitsOfFloat (p1 : UInt32) : Option (Int64) :=
  fX10_bitsOfFloat_L7 fX10_bitsOfFloat_J33 5000 p1 (127 : Int32) (0 : Int32)
set_option maxHeartbeats 4000000 in
set_option maxRecDepth 100000 in
theorem mX10_bitsOfFloat (l : Launch) (D : va_G) (cy : Nat → ClassId) (sz : Nat) (p1 : UInt32) (res : (Int64)) (h : fX10_bitsOfFloat p1 = some res) : zMl l yX10_bitsOfFloat wsX10_bitsOfFloat rmX10_bitsOfFloat [.float p1] D cy ([] : va_W) sz ((fun (o : (Int64)) => o) res) ((fun (_ : (Int64)) => ([] : va_W)) res) := by
  refine zOfl (res := res) (rf := (fun (o : (Int64)) => o)) (Wf := (fun (_ : (Int64)) => ([] : va_W))) (by decide +kernel) rfl (Nat.le_of_ble_eq_true rfl) ?_
  intro p e s m args below meth c A ls Q hx hb hml hts hown hP hK hD hA hS hl hret
  have hown : s.vm.findClass RX10 = some m.cls := hown
  have hl : lv_has ls 4 [(0, .float p1)] := hl
  refine lv_fload_n hx hb dX10_bitsOfFloat_0 rfl (lv_at hl 0 rfl) ?_
  refine lv_fstore_n (lv' := [(1, .float p1), (0, .float p1)]) hx hb dX10_bitsOfFloat_1 rfl hl (Nat.le_of_ble_eq_true rfl) rfl (fun ls hl => ?_)
  refine lv_bipush (v := (127 : Int32)) hx hb dX10_bitsOfFloat_2 (by decide) ?_
  refine lv_istore_n (lv' := [(2, .int (127 : Int32)), (1, .float p1), (0, .float p1)]) hx hb dX10_bitsOfFloat_4 rfl hl (Nat.le_of_ble_eq_true rfl) rfl (fun ls hl => ?_)
  refine lv_iconst (v := (0 : Int32)) hx hb dX10_bitsOfFloat_5 (by decide) ?_
  refine lv_istore_n (lv' := [(3, .int (0 : Int32)), (2, .int (127 : Int32)), (1, .float p1), (0, .float p1)]) hx hb dX10_bitsOfFloat_6 rfl hl (Nat.le_of_ble_eq_true rfl) rfl (fun ls hl => ?_)
  have hJ33 : ∀ (v1_33 : UInt32) (v2_33 : Int32) (H : Heap) (locs : List Loc) (ls : Array Slot), va_P D vwCl ([] : va_W) H → va_D A ([] : va_W) → va_S A s.heap H locs → lv_has ls 4 [(1, .float v1_33), (2, .int v2_33)] → fX10_bitsOfFloat_J33 v1_33 v2_33 = some res → W p l e rmX10_bitsOfFloat s m args below meth c H locs 0 0 Q (F0 m 33 ls []) := by
    intro v1_33 v2_33 H locs ls hP hD hS hl h
    refine lv_iconst (v := (0 : Int32)) hx hb dX10_bitsOfFloat_33 (by decide) ?_
    refine lv_istore_n (lv' := [(3, .int (0 : Int32)), (1, .float v1_33), (2, .int v2_33)]) hx hb dX10_bitsOfFloat_34 rfl hl (Nat.le_of_ble_eq_true rfl) rfl (fun ls hl => ?_)
    have hJ61 : ∀ (v1_61 : UInt32) (v2_61 : Int32) (H : Heap) (locs : List Loc) (ls : Array Slot), va_P D vwCl ([] : va_W) H → va_D A ([] : va_W) → va_S A s.heap H locs → lv_has ls 4 [(1, .float v1_61), (2, .int v2_61)] → fX10_bitsOfFloat_J61 v1_61 v2_61 = some res → W p l e rmX10_bitsOfFloat s m args below meth c H locs 0 0 Q (F0 m 61 ls []) := by
      intro v1_61 v2_61 H locs ls hP hD hS hl h
      refine lv_iload_n hx hb dX10_bitsOfFloat_61 rfl (lv_at hl 1 rfl) ?_
      refine lv_bipush (v := (23 : Int32)) hx hb dX10_bitsOfFloat_62 (by decide) ?_
      refine lv_ishl hx hb dX10_bitsOfFloat_64 ?_
      refine lv_fload_n hx hb dX10_bitsOfFloat_65 rfl (lv_at hl 0 rfl) ?_
      refine lv_fconst1 hx hb dX10_bitsOfFloat_66 ?_
      obtain ⟨hn67, h⟩ := zg_s h
      refine lv_fsub hx hb dX10_bitsOfFloat_67 (zn32 hn67) ?_
      refine zldcwf hx hb hown (hts (.constantFloat RX10 318 (1258291200)) (List.mem_of_getElem? (i := 1) rfl)) dX10_bitsOfFloat_68 ?_
      obtain ⟨hn71, h⟩ := zg_s h
      refine lv_fmul hx hb dX10_bitsOfFloat_71 (zn32 hn71) ?_
      refine lv_f2i hx hb dX10_bitsOfFloat_72 ?_
      refine lv_ior hx hb dX10_bitsOfFloat_73 ?_
      refine lv_i2l hx hb dX10_bitsOfFloat_74 rfl ?_
      exact hret (o := (((((v2_61 <<< ((23 : Int32) &&& 31)) ||| (FP.f2i (FP.fmul (FP.fsub v1_61 FP.fconst1) (1258291200 : UInt32))))).toInt64))) h hP hD hS dX10_bitsOfFloat_75
    have hL35 : ∀ n35 : Nat, ∀ (v1_35 : UInt32) (v2_35 v3_35 : Int32) (H : Heap) (locs : List Loc) (ls : Array Slot), va_P D vwCl ([] : va_W) H → va_D A ([] : va_W) → va_S A s.heap H locs → lv_has ls 4 [(1, .float v1_35), (2, .int v2_35), (3, .int v3_35)] → fX10_bitsOfFloat_L35 fX10_bitsOfFloat_J61 n35 v1_35 v2_35 v3_35 = some res → W p l e rmX10_bitsOfFloat s m args below meth c H locs 0 0 Q (F0 m 35 ls []) := by
      intro n35
      induction n35 with
      | zero =>
        intro v1_35 v2_35 v3_35 H locs ls hP hD hS hl h
        exact zl3_0 h
      | succ n35 ih35 =>
        intro v1_35 v2_35 v3_35 H locs ls hP hD hS hl h
        replace h := zl3_s h
        refine lv_iload_n hx hb dX10_bitsOfFloat_35 rfl (lv_at hl 2 rfl) ?_
        refine lv_sipush (v := (200 : Int32)) hx hb dX10_bitsOfFloat_36 (by decide) ?_
        refine lv_icmp_ge (tgt := 61) hx hb dX10_bitsOfFloat_39 (by decide) (fun hc39 => ?_) (fun hc39 => ?_)
        · replace h := zi_t hc39 h
          exact hJ61 v1_35 v2_35 _ _ _ hP hD hS (lv_sub hl [0, 1] rfl) h
        · replace h := zi_f hc39 h
          refine lv_fload_n hx hb dX10_bitsOfFloat_42 rfl (lv_at hl 0 rfl) ?_
          refine lv_fconst1 hx hb dX10_bitsOfFloat_43 ?_
          refine lv_fcmp hx hb dX10_bitsOfFloat_44 ?_
          refine lv_if_ge (tgt := 61) hx hb dX10_bitsOfFloat_45 (by decide) (fun hc45 => ?_) (fun hc45 => ?_)
          · replace h := zi_t hc45 h
            exact hJ61 v1_35 v2_35 _ _ _ hP hD hS (lv_sub hl [0, 1] rfl) h
          · replace h := zi_f hc45 h
            refine lv_fload_n hx hb dX10_bitsOfFloat_48 rfl (lv_at hl 0 rfl) ?_
            refine lv_fconst2 hx hb dX10_bitsOfFloat_49 ?_
            obtain ⟨hn50, h⟩ := zg_s h
            refine lv_fmul hx hb dX10_bitsOfFloat_50 (zn32 hn50) ?_
            refine lv_fstore_n (lv' := [(1, .float (FP.fmul v1_35 FP.fconst2)), (2, .int v2_35), (3, .int v3_35)]) hx hb dX10_bitsOfFloat_51 rfl hl (Nat.le_of_ble_eq_true rfl) rfl (fun ls hl => ?_)
            refine lv_iinc (v := (v2_35 + (-1 : Int32))) (lv' := [(2, .int (v2_35 + (-1 : Int32))), (1, .float (FP.fmul v1_35 FP.fconst2)), (3, .int v3_35)]) hx hb dX10_bitsOfFloat_52 hl (k := 1) rfl (by rw [show (Int32.ofInt (-1)) = (-1 : Int32) from by decide]) (Nat.le_of_ble_eq_true rfl) rfl (fun ls hl => ?_)
            refine lv_iinc (v := (v3_35 + (1 : Int32))) (lv' := [(3, .int (v3_35 + (1 : Int32))), (2, .int (v2_35 + (-1 : Int32))), (1, .float (FP.fmul v1_35 FP.fconst2))]) hx hb dX10_bitsOfFloat_55 hl (k := 2) rfl (by rfl) (Nat.le_of_ble_eq_true rfl) rfl (fun ls hl => ?_)
            refine lv_goto (tgt := 35) hx hb dX10_bitsOfFloat_58 (by decide) ?_
            exact ih35 (FP.fmul v1_35 FP.fconst2) (v2_35 + (-1 : Int32)) (v3_35 + (1 : Int32)) _ _ _ hP hD hS (lv_sub hl [2, 1, 0] rfl) h
    exact hL35 5000 v1_33 v2_33 (0 : Int32) _ _ _ hP hD hS (lv_sub hl [1, 2, 0] rfl) h
  have hL7 : ∀ n7 : Nat, ∀ (v1_7 : UInt32) (v2_7 v3_7 : Int32) (H : Heap) (locs : List Loc) (ls : Array Slot), va_P D vwCl ([] : va_W) H → va_D A ([] : va_W) → va_S A s.heap H locs → lv_has ls 4 [(1, .float v1_7), (2, .int v2_7), (3, .int v3_7)] → fX10_bitsOfFloat_L7 fX10_bitsOfFloat_J33 n7 v1_7 v2_7 v3_7 = some res → W p l e rmX10_bitsOfFloat s m args below meth c H locs 0 0 Q (F0 m 7 ls []) := by
    intro n7
    induction n7 with
    | zero =>
      intro v1_7 v2_7 v3_7 H locs ls hP hD hS hl h
      exact zl3_0 h
    | succ n7 ih7 =>
      intro v1_7 v2_7 v3_7 H locs ls hP hD hS hl h
      replace h := zl3_s h
      refine lv_iload_n hx hb dX10_bitsOfFloat_7 rfl (lv_at hl 2 rfl) ?_
      refine lv_sipush (v := (200 : Int32)) hx hb dX10_bitsOfFloat_8 (by decide) ?_
      refine lv_icmp_ge (tgt := 33) hx hb dX10_bitsOfFloat_11 (by decide) (fun hc11 => ?_) (fun hc11 => ?_)
      · replace h := zi_t hc11 h
        exact hJ33 v1_7 v2_7 _ _ _ hP hD hS (lv_sub hl [0, 1] rfl) h
      · replace h := zi_f hc11 h
        refine lv_fload_n hx hb dX10_bitsOfFloat_14 rfl (lv_at hl 0 rfl) ?_
        refine lv_fconst2 hx hb dX10_bitsOfFloat_15 ?_
        refine lv_fcmp hx hb dX10_bitsOfFloat_16 ?_
        refine lv_if_lt (tgt := 33) hx hb dX10_bitsOfFloat_17 (by decide) (fun hc17 => ?_) (fun hc17 => ?_)
        · replace h := zi_t hc17 h
          exact hJ33 v1_7 v2_7 _ _ _ hP hD hS (lv_sub hl [0, 1] rfl) h
        · replace h := zi_f hc17 h
          refine lv_fload_n hx hb dX10_bitsOfFloat_20 rfl (lv_at hl 0 rfl) ?_
          refine lv_fconst2 hx hb dX10_bitsOfFloat_21 ?_
          obtain ⟨hn22, h⟩ := zg_s h
          refine lv_fdiv hx hb dX10_bitsOfFloat_22 (zn32 hn22) ?_
          refine lv_fstore_n (lv' := [(1, .float (FP.fdiv v1_7 FP.fconst2)), (2, .int v2_7), (3, .int v3_7)]) hx hb dX10_bitsOfFloat_23 rfl hl (Nat.le_of_ble_eq_true rfl) rfl (fun ls hl => ?_)
          refine lv_iinc (v := (v2_7 + (1 : Int32))) (lv' := [(2, .int (v2_7 + (1 : Int32))), (1, .float (FP.fdiv v1_7 FP.fconst2)), (3, .int v3_7)]) hx hb dX10_bitsOfFloat_24 hl (k := 1) rfl (by rfl) (Nat.le_of_ble_eq_true rfl) rfl (fun ls hl => ?_)
          refine lv_iinc (v := (v3_7 + (1 : Int32))) (lv' := [(3, .int (v3_7 + (1 : Int32))), (2, .int (v2_7 + (1 : Int32))), (1, .float (FP.fdiv v1_7 FP.fconst2))]) hx hb dX10_bitsOfFloat_27 hl (k := 2) rfl (by rfl) (Nat.le_of_ble_eq_true rfl) rfl (fun ls hl => ?_)
          refine lv_goto (tgt := 7) hx hb dX10_bitsOfFloat_30 (by decide) ?_
          exact ih7 (FP.fdiv v1_7 FP.fconst2) (v2_7 + (1 : Int32)) (v3_7 + (1 : Int32)) _ _ _ hP hD hS (lv_sub hl [2, 1, 0] rfl) h
  exact hL7 5000 p1 (127 : Int32) (0 : Int32) _ _ _ hP hD hS (lv_sub hl [2, 1, 0] rfl) h

abbrev rmX10_isWish : Room := { frames := 1, cells := 0, slots := 0, locals := 22 }
theorem cdX10_isWish : (yX10_isWish).cls ≠ "java/lang/invoke/MethodHandle" ∧ (yX10_isWish).cls ≠ "java/lang/invoke/VarHandle" ∧ (parseMethodDescriptor (yX10_isWish).desc).map (fun d => d.parameters.length) = some 2 := by decide +kernel
def fX10_isWish (p1 p2 : Int32) : Option (Int32) :=
  zb1 (fX10_isIn p1 (1 : Int32) (999 : Int32)) (fun r5 => if r5 = 0 then (some ((0 : Int32))) else (zb1 (fX10_isIn p2 (1 : Int32) (999 : Int32)) (fun r16 => if r16 = 0 then (some ((0 : Int32))) else (some ((1 : Int32))))))
set_option maxHeartbeats 4000000 in
set_option maxRecDepth 100000 in
theorem mX10_isWish (l : Launch) (D : va_G) (cy : Nat → ClassId) (sz : Nat) (p1 p2 : Int32) (res : (Int32)) (h : fX10_isWish p1 p2 = some res) : zMz l yX10_isWish wsX10_isWish rmX10_isWish [.int p1, .int p2] D cy ([] : va_W) sz ((fun (o : (Int32)) => o) res) ((fun (_ : (Int32)) => ([] : va_W)) res) := by
  refine zOfz (res := res) (rf := (fun (o : (Int32)) => o)) (Wf := (fun (_ : (Int32)) => ([] : va_W))) (by decide +kernel) rfl (Nat.le_of_ble_eq_true rfl) ?_
  intro p e s m args below meth c A ls Q hx hb hml hts hown hP hK hD hA hS hl hret
  have hown : s.vm.findClass RX10 = some m.cls := hown
  have hl : lv_has ls 2 [(0, .int p1), (1, .int p2)] := hl
  refine lv_iload_n hx hb dX10_isWish_0 rfl (lv_at hl 0 rfl) ?_
  refine lv_iconst (v := (1 : Int32)) hx hb dX10_isWish_1 (by decide) ?_
  refine lv_sipush (v := (999 : Int32)) hx hb dX10_isWish_2 (by decide) ?_
  obtain ⟨r5, hq5, h⟩ := zb1_s h
  refine zCz0 (r0 := r5) (va_runS (As := [.int p1, .int (1 : Int32), .int (999 : Int32)]) (rest := []) ⟨hx, hb, hml, hown, hts⟩ (mX10_isIn l D cy s.heap.size p1 (1 : Int32) (999 : Int32) (r5) hq5) (va_cwS 3 hts gX10_isWish_X10_isIn rfl rfl rfl cdX10_isIn ⟨Nat.le_of_ble_eq_true rfl, Nat.le_of_ble_eq_true rfl⟩) (zPS hK hP hD [] rfl rfl) rfl rfl hl.1 rfl (lv_room (Nat.le_of_ble_eq_true rfl)) dX10_isWish_5 ⟨Nat.zero_le _, Nat.zero_le _⟩) hP hD hS hA (fun H locs hn5 hP hD hS => ?_)
  refine lv_if_eq (tgt := 26) hx hb dX10_isWish_8 (by decide) (fun hc8 => ?_) (fun hc8 => ?_)
  · replace h := zi_t hc8 h
    refine lv_iconst (v := (0 : Int32)) hx hb dX10_isWish_26 (by decide) ?_
    exact hret (o := ((0 : Int32))) h (show narrow .boolean (.int (0 : Int32)) = .int (0 : Int32) from by decide) hP hD hS dX10_isWish_27
  · replace h := zi_f hc8 h
    refine lv_iload_n hx hb dX10_isWish_11 rfl (lv_at hl 1 rfl) ?_
    refine lv_iconst (v := (1 : Int32)) hx hb dX10_isWish_12 (by decide) ?_
    refine lv_sipush (v := (999 : Int32)) hx hb dX10_isWish_13 (by decide) ?_
    obtain ⟨r16, hq16, h⟩ := zb1_s h
    refine zCz0 (r0 := r16) (va_runS (As := [.int p2, .int (1 : Int32), .int (999 : Int32)]) (rest := []) ⟨hx, hb, hml, hown, hts⟩ (mX10_isIn l D cy H.size p2 (1 : Int32) (999 : Int32) (r16) hq16) (va_cwS 3 hts gX10_isWish_X10_isIn rfl rfl rfl cdX10_isIn ⟨Nat.le_of_ble_eq_true rfl, Nat.le_of_ble_eq_true rfl⟩) (zPS hK hP hD [] rfl rfl) rfl rfl hl.1 rfl (lv_room (Nat.le_of_ble_eq_true rfl)) dX10_isWish_16 ⟨Nat.zero_le _, Nat.zero_le _⟩) hP hD hS hA (fun H locs hn16 hP hD hS => ?_)
    refine lv_if_eq (tgt := 26) hx hb dX10_isWish_19 (by decide) (fun hc19 => ?_) (fun hc19 => ?_)
    · replace h := zi_t hc19 h
      refine lv_iconst (v := (0 : Int32)) hx hb dX10_isWish_26 (by decide) ?_
      exact hret (o := ((0 : Int32))) h (show narrow .boolean (.int (0 : Int32)) = .int (0 : Int32) from by decide) hP hD hS dX10_isWish_27
    · replace h := zi_f hc19 h
      refine lv_iconst (v := (1 : Int32)) hx hb dX10_isWish_22 (by decide) ?_
      refine lv_goto (tgt := 27) hx hb dX10_isWish_23 (by decide) ?_
      exact hret (o := ((1 : Int32))) h (show narrow .boolean (.int (1 : Int32)) = .int (1 : Int32) from by decide) hP hD hS dX10_isWish_27

abbrev rmX10_isTray : Room := { frames := 0, cells := 0, slots := 0, locals := 0 }
theorem cdX10_isTray : (yX10_isTray).cls ≠ "java/lang/invoke/MethodHandle" ∧ (yX10_isTray).cls ≠ "java/lang/invoke/VarHandle" ∧ (parseMethodDescriptor (yX10_isTray).desc).map (fun d => d.parameters.length) = some 1 := by decide +kernel
def fX10_isTray (p1 : Int32) : Option (Int32) :=
  if p1 < 0 then (some ((0 : Int32))) else (if (3 : Int32) ≤ p1 then (some ((0 : Int32))) else (some ((1 : Int32))))
set_option maxHeartbeats 4000000 in
set_option maxRecDepth 100000 in
theorem mX10_isTray (l : Launch) (D : va_G) (cy : Nat → ClassId) (sz : Nat) (p1 : Int32) (res : (Int32)) (h : fX10_isTray p1 = some res) : zMz l yX10_isTray wsX10_isTray rmX10_isTray [.int p1] D cy ([] : va_W) sz ((fun (o : (Int32)) => o) res) ((fun (_ : (Int32)) => ([] : va_W)) res) := by
  refine zOfz (res := res) (rf := (fun (o : (Int32)) => o)) (Wf := (fun (_ : (Int32)) => ([] : va_W))) (by decide +kernel) rfl (Nat.le_of_ble_eq_true rfl) ?_
  intro p e s m args below meth c A ls Q hx hb hml hts hown hP hK hD hA hS hl hret
  have hown : s.vm.findClass RX10 = some m.cls := hown
  have hl : lv_has ls 1 [(0, .int p1)] := hl
  refine lv_iload_n hx hb dX10_isTray_0 rfl (lv_at hl 0 rfl) ?_
  refine lv_if_lt (tgt := 13) hx hb dX10_isTray_1 (by decide) (fun hc1 => ?_) (fun hc1 => ?_)
  · replace h := zi_t hc1 h
    refine lv_iconst (v := (0 : Int32)) hx hb dX10_isTray_13 (by decide) ?_
    exact hret (o := ((0 : Int32))) h (show narrow .boolean (.int (0 : Int32)) = .int (0 : Int32) from by decide) hP hD hS dX10_isTray_14
  · replace h := zi_f hc1 h
    refine lv_iload_n hx hb dX10_isTray_4 rfl (lv_at hl 0 rfl) ?_
    refine lv_iconst (v := (3 : Int32)) hx hb dX10_isTray_5 (by decide) ?_
    refine lv_icmp_ge (tgt := 13) hx hb dX10_isTray_6 (by decide) (fun hc6 => ?_) (fun hc6 => ?_)
    · replace h := zi_t hc6 h
      refine lv_iconst (v := (0 : Int32)) hx hb dX10_isTray_13 (by decide) ?_
      exact hret (o := ((0 : Int32))) h (show narrow .boolean (.int (0 : Int32)) = .int (0 : Int32) from by decide) hP hD hS dX10_isTray_14
    · replace h := zi_f hc6 h
      refine lv_iconst (v := (1 : Int32)) hx hb dX10_isTray_9 (by decide) ?_
      refine lv_goto (tgt := 14) hx hb dX10_isTray_10 (by decide) ?_
      exact hret (o := ((1 : Int32))) h (show narrow .boolean (.int (1 : Int32)) = .int (1 : Int32) from by decide) hP hD hS dX10_isTray_14

abbrev rmJxe99ae_isNaN_b9ae7 : Room := { frames := 0, cells := 0, slots := 0, locals := 0 }
theorem cdJxe99ae_isNaN_b9ae7 : (yJxe99ae_isNaN_b9ae7).cls ≠ "java/lang/invoke/MethodHandle" ∧ (yJxe99ae_isNaN_b9ae7).cls ≠ "java/lang/invoke/VarHandle" ∧ (parseMethodDescriptor (yJxe99ae_isNaN_b9ae7).desc).map (fun d => d.parameters.length) = some 1 := by decide +kernel
def fJxe99ae_isNaN_b9ae7 (p1 : UInt64) : Option (Int32) :=
  if (Op.cmpValue (FP.dcmp p1 p1) CmpOp.l) = 0 then (some ((0 : Int32))) else (some ((1 : Int32)))
set_option maxHeartbeats 4000000 in
set_option maxRecDepth 100000 in
theorem mJxe99ae_isNaN_b9ae7 (l : Launch) (D : va_G) (cy : Nat → ClassId) (sz : Nat) (p1 : UInt64) (res : (Int32)) (h : fJxe99ae_isNaN_b9ae7 p1 = some res) : zMz l yJxe99ae_isNaN_b9ae7 wsJxe99ae_isNaN_b9ae7 rmJxe99ae_isNaN_b9ae7 [.double p1] D cy ([] : va_W) sz ((fun (o : (Int32)) => o) res) ((fun (_ : (Int32)) => ([] : va_W)) res) := by
  refine zOfz (res := res) (rf := (fun (o : (Int32)) => o)) (Wf := (fun (_ : (Int32)) => ([] : va_W))) (by decide +kernel) rfl (Nat.le_of_ble_eq_true rfl) ?_
  intro p e s m args below meth c A ls Q hx hb hml hts hown hP hK hD hA hS hl hret
  have hown : s.vm.findClass RJxe99ae = some m.cls := hown
  have hl : lv_has ls 2 [(0, .double p1)] := hl
  refine lv_dload_n hx hb dJxe99ae_isNaN_b9ae7_0 rfl (lv_at hl 0 rfl) ?_
  refine lv_dload_n hx hb dJxe99ae_isNaN_b9ae7_1 rfl (lv_at hl 0 rfl) ?_
  refine lv_dcmp hx hb dJxe99ae_isNaN_b9ae7_2 ?_
  refine lv_if_eq (tgt := 10) hx hb dJxe99ae_isNaN_b9ae7_3 (by decide) (fun hc3 => ?_) (fun hc3 => ?_)
  · replace h := zi_t hc3 h
    refine lv_iconst (v := (0 : Int32)) hx hb dJxe99ae_isNaN_b9ae7_10 (by decide) ?_
    exact hret (o := ((0 : Int32))) h (show narrow .boolean (.int (0 : Int32)) = .int (0 : Int32) from by decide) hP hD hS dJxe99ae_isNaN_b9ae7_11
  · replace h := zi_f hc3 h
    refine lv_iconst (v := (1 : Int32)) hx hb dJxe99ae_isNaN_b9ae7_6 (by decide) ?_
    refine lv_goto (tgt := 11) hx hb dJxe99ae_isNaN_b9ae7_7 (by decide) ?_
    exact hret (o := ((1 : Int32))) h (show narrow .boolean (.int (1 : Int32)) = .int (1 : Int32) from by decide) hP hD hS dJxe99ae_isNaN_b9ae7_11

abbrev rmJxe99ae_doubleToLongBits_ccdee : Room := { frames := 1, cells := 0, slots := 0, locals := 23 }
theorem cdJxe99ae_doubleToLongBits_ccdee : (yJxe99ae_doubleToLongBits_ccdee).cls ≠ "java/lang/invoke/MethodHandle" ∧ (yJxe99ae_doubleToLongBits_ccdee).cls ≠ "java/lang/invoke/VarHandle" ∧ (parseMethodDescriptor (yJxe99ae_doubleToLongBits_ccdee).desc).map (fun d => d.parameters.length) = some 1 := by decide +kernel
def fJxe99ae_doubleToLongBits_ccdee (p1 : UInt64) : Option (Int64) :=
  zb1 (fJxe99ae_isNaN_b9ae7 p1) (fun r1 => if r1 = 0 then (some (((p1).toInt64))) else (some ((9221120237041090560 : Int64))))
set_option maxHeartbeats 4000000 in
set_option maxRecDepth 100000 in
theorem mJxe99ae_doubleToLongBits_ccdee (l : Launch) (D : va_G) (cy : Nat → ClassId) (sz : Nat) (p1 : UInt64) (res : (Int64)) (h : fJxe99ae_doubleToLongBits_ccdee p1 = some res) : zMl l yJxe99ae_doubleToLongBits_ccdee wsJxe99ae_doubleToLongBits_ccdee rmJxe99ae_doubleToLongBits_ccdee [.double p1] D cy ([] : va_W) sz ((fun (o : (Int64)) => o) res) ((fun (_ : (Int64)) => ([] : va_W)) res) := by
  refine zOfl (res := res) (rf := (fun (o : (Int64)) => o)) (Wf := (fun (_ : (Int64)) => ([] : va_W))) (by decide +kernel) rfl (Nat.le_of_ble_eq_true rfl) ?_
  intro p e s m args below meth c A ls Q hx hb hml hts hown hP hK hD hA hS hl hret
  have hown : s.vm.findClass RJxe99ae = some m.cls := hown
  have hl : lv_has ls 2 [(0, .double p1)] := hl
  refine lv_dload_n hx hb dJxe99ae_doubleToLongBits_ccdee_0 rfl (lv_at hl 0 rfl) ?_
  obtain ⟨r1, hq1, h⟩ := zb1_s h
  refine zCz0 (r0 := r1) (va_runS (As := [.double p1]) (rest := []) ⟨hx, hb, hml, hown, hts⟩ (mJxe99ae_isNaN_b9ae7 l D cy s.heap.size p1 (r1) hq1) (va_cwS 1 hts gJxe99ae_doubleToLongBits_ccdee_Jxe99ae_isNaN_b9ae7 rfl rfl rfl cdJxe99ae_isNaN_b9ae7 ⟨Nat.le_of_ble_eq_true rfl, Nat.le_of_ble_eq_true rfl⟩) (zPS hK hP hD [] rfl rfl) rfl rfl hl.1 rfl (lv_room (Nat.le_of_ble_eq_true rfl)) dJxe99ae_doubleToLongBits_ccdee_1 ⟨Nat.zero_le _, Nat.zero_le _⟩) hP hD hS hA (fun H locs hn1 hP hD hS => ?_)
  refine lv_if_ne (tgt := 12) hx hb dJxe99ae_doubleToLongBits_ccdee_4 (by decide) (fun hc4 => ?_) (fun hc4 => ?_)
  · replace h := zi_f hc4 h
    refine lv_ldc2 hx hb hown (hts (.constantLong RJxe99ae 137 (9221120237041090560)) (List.mem_of_getElem? (i := 5) rfl)) dJxe99ae_doubleToLongBits_ccdee_12 ?_
    exact hret (o := ((9221120237041090560 : Int64))) h hP hD hS dJxe99ae_doubleToLongBits_ccdee_15
  · replace h := zi_t hc4 h
    refine lv_dload_n hx hb dJxe99ae_doubleToLongBits_ccdee_7 rfl (lv_at hl 0 rfl) ?_
    refine vn_d2l hx hb (hml.trans hl.1.symm) hown (hts (.methodLink RJxe99ae 134 ⟨"java/lang/Double", "doubleToRawLongBits", "(D)J"⟩) (List.mem_of_getElem? (i := 1) rfl)) (hts (.native ⟨"java/lang/Double", "doubleToRawLongBits", "(D)J"⟩) (List.mem_of_getElem? (i := 2) rfl)) (hts (.static ⟨"java/lang/Double", "doubleToRawLongBits", "(D)J"⟩) (List.mem_of_getElem? (i := 3) rfl)) (hts (.initialized "java/lang/Double") (List.mem_of_getElem? (i := 4) rfl)) (Nat.le_of_ble_eq_true rfl) (Nat.le_of_ble_eq_true rfl) dJxe99ae_doubleToLongBits_ccdee_8 ?_
    exact hret (o := (((p1).toInt64))) h hP hD hS dJxe99ae_doubleToLongBits_ccdee_11

abbrev rmJxf58ca_isNaN_12338 : Room := { frames := 0, cells := 0, slots := 0, locals := 0 }
theorem cdJxf58ca_isNaN_12338 : (yJxf58ca_isNaN_12338).cls ≠ "java/lang/invoke/MethodHandle" ∧ (yJxf58ca_isNaN_12338).cls ≠ "java/lang/invoke/VarHandle" ∧ (parseMethodDescriptor (yJxf58ca_isNaN_12338).desc).map (fun d => d.parameters.length) = some 1 := by decide +kernel
def fJxf58ca_isNaN_12338 (p1 : UInt32) : Option (Int32) :=
  if (Op.cmpValue (FP.fcmp p1 p1) CmpOp.l) = 0 then (some ((0 : Int32))) else (some ((1 : Int32)))
set_option maxHeartbeats 4000000 in
set_option maxRecDepth 100000 in
theorem mJxf58ca_isNaN_12338 (l : Launch) (D : va_G) (cy : Nat → ClassId) (sz : Nat) (p1 : UInt32) (res : (Int32)) (h : fJxf58ca_isNaN_12338 p1 = some res) : zMz l yJxf58ca_isNaN_12338 wsJxf58ca_isNaN_12338 rmJxf58ca_isNaN_12338 [.float p1] D cy ([] : va_W) sz ((fun (o : (Int32)) => o) res) ((fun (_ : (Int32)) => ([] : va_W)) res) := by
  refine zOfz (res := res) (rf := (fun (o : (Int32)) => o)) (Wf := (fun (_ : (Int32)) => ([] : va_W))) (by decide +kernel) rfl (Nat.le_of_ble_eq_true rfl) ?_
  intro p e s m args below meth c A ls Q hx hb hml hts hown hP hK hD hA hS hl hret
  have hown : s.vm.findClass RJxf58ca = some m.cls := hown
  have hl : lv_has ls 1 [(0, .float p1)] := hl
  refine lv_fload_n hx hb dJxf58ca_isNaN_12338_0 rfl (lv_at hl 0 rfl) ?_
  refine lv_fload_n hx hb dJxf58ca_isNaN_12338_1 rfl (lv_at hl 0 rfl) ?_
  refine lv_fcmp hx hb dJxf58ca_isNaN_12338_2 ?_
  refine lv_if_eq (tgt := 10) hx hb dJxf58ca_isNaN_12338_3 (by decide) (fun hc3 => ?_) (fun hc3 => ?_)
  · replace h := zi_t hc3 h
    refine lv_iconst (v := (0 : Int32)) hx hb dJxf58ca_isNaN_12338_10 (by decide) ?_
    exact hret (o := ((0 : Int32))) h (show narrow .boolean (.int (0 : Int32)) = .int (0 : Int32) from by decide) hP hD hS dJxf58ca_isNaN_12338_11
  · replace h := zi_f hc3 h
    refine lv_iconst (v := (1 : Int32)) hx hb dJxf58ca_isNaN_12338_6 (by decide) ?_
    refine lv_goto (tgt := 11) hx hb dJxf58ca_isNaN_12338_7 (by decide) ?_
    exact hret (o := ((1 : Int32))) h (show narrow .boolean (.int (1 : Int32)) = .int (1 : Int32) from by decide) hP hD hS dJxf58ca_isNaN_12338_11

abbrev rmJxf58ca_floatToIntBits_5c35a : Room := { frames := 1, cells := 0, slots := 0, locals := 23 }
theorem cdJxf58ca_floatToIntBits_5c35a : (yJxf58ca_floatToIntBits_5c35a).cls ≠ "java/lang/invoke/MethodHandle" ∧ (yJxf58ca_floatToIntBits_5c35a).cls ≠ "java/lang/invoke/VarHandle" ∧ (parseMethodDescriptor (yJxf58ca_floatToIntBits_5c35a).desc).map (fun d => d.parameters.length) = some 1 := by decide +kernel
def fJxf58ca_floatToIntBits_5c35a (p1 : UInt32) : Option (Int32) :=
  zb1 (fJxf58ca_isNaN_12338 p1) (fun r1 => if r1 = 0 then (some (((p1).toInt32))) else (some ((2143289344 : Int32))))
set_option maxHeartbeats 4000000 in
set_option maxRecDepth 100000 in
theorem mJxf58ca_floatToIntBits_5c35a (l : Launch) (D : va_G) (cy : Nat → ClassId) (sz : Nat) (p1 : UInt32) (res : (Int32)) (h : fJxf58ca_floatToIntBits_5c35a p1 = some res) : zMi l yJxf58ca_floatToIntBits_5c35a wsJxf58ca_floatToIntBits_5c35a rmJxf58ca_floatToIntBits_5c35a [.float p1] D cy ([] : va_W) sz ((fun (o : (Int32)) => o) res) ((fun (_ : (Int32)) => ([] : va_W)) res) := by
  refine zOfi (res := res) (rf := (fun (o : (Int32)) => o)) (Wf := (fun (_ : (Int32)) => ([] : va_W))) (by decide +kernel) rfl (Nat.le_of_ble_eq_true rfl) ?_
  intro p e s m args below meth c A ls Q hx hb hml hts hown hP hK hD hA hS hl hret
  have hown : s.vm.findClass RJxf58ca = some m.cls := hown
  have hl : lv_has ls 1 [(0, .float p1)] := hl
  refine lv_fload_n hx hb dJxf58ca_floatToIntBits_5c35a_0 rfl (lv_at hl 0 rfl) ?_
  obtain ⟨r1, hq1, h⟩ := zb1_s h
  refine zCz0 (r0 := r1) (va_runS (As := [.float p1]) (rest := []) ⟨hx, hb, hml, hown, hts⟩ (mJxf58ca_isNaN_12338 l D cy s.heap.size p1 (r1) hq1) (va_cwS 1 hts gJxf58ca_floatToIntBits_5c35a_Jxf58ca_isNaN_12338 rfl rfl rfl cdJxf58ca_isNaN_12338 ⟨Nat.le_of_ble_eq_true rfl, Nat.le_of_ble_eq_true rfl⟩) (zPS hK hP hD [] rfl rfl) rfl rfl hl.1 rfl (lv_room (Nat.le_of_ble_eq_true rfl)) dJxf58ca_floatToIntBits_5c35a_1 ⟨Nat.zero_le _, Nat.zero_le _⟩) hP hD hS hA (fun H locs hn1 hP hD hS => ?_)
  refine lv_if_ne (tgt := 12) hx hb dJxf58ca_floatToIntBits_5c35a_4 (by decide) (fun hc4 => ?_) (fun hc4 => ?_)
  · replace h := zi_f hc4 h
    refine lv_ldc hx hb hown (hts (.constant RJxf58ca 77 (2143289344)) (List.mem_of_getElem? (i := 5) rfl)) dJxf58ca_floatToIntBits_5c35a_12 ?_
    exact hret (o := ((2143289344 : Int32))) h hP hD hS dJxf58ca_floatToIntBits_5c35a_14
  · replace h := zi_t hc4 h
    refine lv_fload_n hx hb dJxf58ca_floatToIntBits_5c35a_7 rfl (lv_at hl 0 rfl) ?_
    refine vn_f2i hx hb (hml.trans hl.1.symm) hown (hts (.methodLink RJxf58ca 74 ⟨"java/lang/Float", "floatToRawIntBits", "(F)I"⟩) (List.mem_of_getElem? (i := 1) rfl)) (hts (.native ⟨"java/lang/Float", "floatToRawIntBits", "(F)I"⟩) (List.mem_of_getElem? (i := 2) rfl)) (hts (.static ⟨"java/lang/Float", "floatToRawIntBits", "(F)I"⟩) (List.mem_of_getElem? (i := 3) rfl)) (hts (.initialized "java/lang/Float") (List.mem_of_getElem? (i := 4) rfl)) (Nat.le_of_ble_eq_true rfl) (Nat.le_of_ble_eq_true rfl) dJxf58ca_floatToIntBits_5c35a_8 ?_
    exact hret (o := (((p1).toInt32))) h hP hD hS dJxf58ca_floatToIntBits_5c35a_11
