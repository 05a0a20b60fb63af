abbrev rmX11_in : Room := { frames := 0, cells := 0, slots := 0, locals := 0 }
theorem cdX11_in : (yX11_in).cls ≠ "java/lang/invoke/MethodHandle" ∧ (yX11_in).cls ≠ "java/lang/invoke/VarHandle" ∧ (parseMethodDescriptor (yX11_in).desc).map (fun d => d.parameters.length) = some 3 := by decide +kernel
def fX11_in (p1 p2 p3 : Int64) : Option (Int32) :=
  if p1 < p2 then (some ((0 : Int32))) else (if p3 < p1 then (some ((0 : Int32))) else (some ((1 : Int32))))
set_option maxHeartbeats 4000000 in
set_option maxRecDepth 100000 in
theorem mX11_in (l : Launch) (D : va_G) (cy : Nat → ClassId) (sz : Nat) (p1 p2 p3 : Int64) (res : (Int32)) (h : fX11_in p1 p2 p3 = some res) : zMz l yX11_in wsX11_in rmX11_in [.long p1, .long p2, .long p3] D cy ([] : va_W) sz ((fun (o : (Int32)) => o) res) ((fun (_ : (Int32)) => ([] : va_W)) res) := by
  refine zOfz (res := res) (rf := (fun (o : (Int32)) => o)) (Wf := (fun (_ : (Int32)) => ([] : va_W))) (by decide +kernel) rfl (Nat.le_of_ble_eq_true rfl) ?_
  intro p e s m args below meth c A ls Q hx hb hml hts hown hP hK hD hA hS hl hret
  have hown : s.vm.findClass RX11 = some m.cls := hown
  have hl : lv_has ls 6 [(0, .long p1), (2, .long p2), (4, .long p3)] := hl
  refine lv_lload_n hx hb dX11_in_0 rfl (lv_at hl 0 rfl) ?_
  refine lv_lload_n hx hb dX11_in_1 rfl (lv_at hl 1 rfl) ?_
  refine W.lcmp hx hb dX11_in_2 ?_
  refine lv_if_lt (tgt := 17) hx hb dX11_in_3 (by decide) (fun hc3 => ?_) (fun hc3 => ?_)
  · replace hc3 := (zc_lt _ _).mp hc3
    replace h := zi_t hc3 h
    refine lv_iconst (v := (0 : Int32)) hx hb dX11_in_17 (by decide) ?_
    exact hret (o := ((0 : Int32))) h (show narrow .boolean (.int (0 : Int32)) = .int (0 : Int32) from by decide) hP hD hS dX11_in_18
  · replace hc3 := fun q => hc3 ((zc_lt _ _).mpr q)
    replace h := zi_f hc3 h
    refine lv_lload_n hx hb dX11_in_6 rfl (lv_at hl 0 rfl) ?_
    refine lv_lload hx hb dX11_in_7 (lv_at hl 2 rfl) ?_
    refine W.lcmp hx hb dX11_in_9 ?_
    refine lv_if_gt (tgt := 17) hx hb dX11_in_10 (by decide) (fun hc10 => ?_) (fun hc10 => ?_)
    · replace hc10 := (zc_gt _ _).mp hc10
      replace h := zi_t hc10 h
      refine lv_iconst (v := (0 : Int32)) hx hb dX11_in_17 (by decide) ?_
      exact hret (o := ((0 : Int32))) h (show narrow .boolean (.int (0 : Int32)) = .int (0 : Int32) from by decide) hP hD hS dX11_in_18
    · replace hc10 := fun q => hc10 ((zc_gt _ _).mpr q)
      replace h := zi_f hc10 h
      refine lv_iconst (v := (1 : Int32)) hx hb dX11_in_13 (by decide) ?_
      refine lv_goto (tgt := 18) hx hb dX11_in_14 (by decide) ?_
      exact hret (o := ((1 : Int32))) h (show narrow .boolean (.int (1 : Int32)) = .int (1 : Int32) from by decide) hP hD hS dX11_in_18

abbrev rmX11_isSort : Room := { frames := 1, cells := 0, slots := 0, locals := 25 }
theorem cdX11_isSort : (yX11_isSort).cls ≠ "java/lang/invoke/MethodHandle" ∧ (yX11_isSort).cls ≠ "java/lang/invoke/VarHandle" ∧ (parseMethodDescriptor (yX11_isSort).desc).map (fun d => d.parameters.length) = some 1 := by decide +kernel
def fX11_isSort (p1 : Int32) : Option (Int32) :=
  zb1 (fX11_in ((p1).toInt64) (0 : Int64) (3 : Int64)) (fun r6 => some (r6))
set_option maxHeartbeats 4000000 in
set_option maxRecDepth 100000 in
theorem mX11_isSort (l : Launch) (D : va_G) (cy : Nat → ClassId) (sz : Nat) (p1 : Int32) (res : (Int32)) (h : fX11_isSort p1 = some res) : zMz l yX11_isSort wsX11_isSort rmX11_isSort [.int p1] D cy ([] : va_W) sz ((fun (o : (Int32)) => o) res) ((fun (_ : (Int32)) => ([] : va_W)) res) := by
  refine zOfz (res := res) (rf := (fun (o : (Int32)) => o)) (Wf := (fun (_ : (Int32)) => ([] : va_W))) (by decide +kernel) rfl (Nat.le_of_ble_eq_true rfl) ?_
  intro p e s m args below meth c A ls Q hx hb hml hts hown hP hK hD hA hS hl hret
  have hown : s.vm.findClass RX11 = some m.cls := hown
  have hl : lv_has ls 1 [(0, .int p1)] := hl
  refine lv_iload_n hx hb dX11_isSort_0 rfl (lv_at hl 0 rfl) ?_
  refine lv_i2l hx hb dX11_isSort_1 rfl ?_
  refine lv_lconst (v := (0 : Int64)) hx hb dX11_isSort_2 (by decide) ?_
  refine lv_ldc2 hx hb hown (hts (.constantLong RX11 84 (3)) (List.mem_of_getElem? (i := 1) rfl)) dX11_isSort_3 ?_
  obtain ⟨r6, hq6, h⟩ := zb1_s h
  refine zCz0 (r0 := r6) (va_runS (As := [.long ((p1).toInt64), .long (0 : Int64), .long (3 : Int64)]) (rest := []) ⟨hx, hb, hml, hown, hts⟩ (mX11_in l D cy s.heap.size ((p1).toInt64) (0 : Int64) (3 : Int64) (r6) hq6) (va_cwS 3 hts gX11_isSort_X11_in rfl rfl rfl cdX11_in ⟨Nat.le_of_ble_eq_true rfl, Nat.le_of_ble_eq_true rfl⟩) (zPS hK hP hD [] rfl rfl) rfl rfl hl.1 rfl (lv_room (Nat.le_of_ble_eq_true rfl)) dX11_isSort_6 ⟨Nat.zero_le _, Nat.zero_le _⟩) hP hD hS hA (fun H locs hn6 hP hD hS => ?_)
  exact hret (o := (r6)) h hn6 hP hD hS dX11_isSort_9

theorem uX11_isNet_X11 : ∀ w ∈ u_ws RX11 TX11 33, w ∈ wsX11_isNet := fun w h => (List.mem_cons_of_mem _ (List.mem_append_right _ h))
abbrev wdX11_isNet (cy : Nat → ClassId) (b b_now b_imaged b_valueUp b_valueDown b_real b_brief b_order b_waits b_floats b_same b_upOf b_downOf b_tape b_open b_made b_paper b_reachUp b_reachDown b_reachHow b_reachFirst b_reachSecond b_begins b_carried : Nat) (c_hasImage : Int32) (c_above c_below : Int64) (c_orderMany c_waitMany c_seed c_size c_openMany c_paperMany c_reachMany : Int32) (c_now : Nat → Int32) : va_W := [(b, .inr (11, [.ref b_now, .ref b_imaged, .int c_hasImage, .long c_above, .long c_below, .ref b_valueUp, .ref b_valueDown, .ref b_real, .ref b_brief, .ref b_order, .int c_orderMany, .ref b_waits, .int c_waitMany, .ref b_floats, .int c_seed, .ref b_same, .ref b_upOf, .ref b_downOf, .ref b_tape, .int c_size, .ref b_open, .int c_openMany, .ref b_made, .ref b_paper, .int c_paperMany, .ref b_reachUp, .ref b_reachDown, .ref b_reachHow, .ref b_reachFirst, .ref b_reachSecond, .ref b_begins, .int c_reachMany, .ref b_carried])), (b_now, .inl (cy 0, 261, .inl c_now))]
abbrev rmX11_isNet : Room := { frames := 1, cells := 0, slots := 0, locals := 25 }
theorem cdX11_isNet : (yX11_isNet).cls ≠ "java/lang/invoke/MethodHandle" ∧ (yX11_isNet).cls ≠ "java/lang/invoke/VarHandle" ∧ (parseMethodDescriptor (yX11_isNet).desc).map (fun d => d.parameters.length) = some 1 := by decide +kernel
def fX11_isNet (p1 : Int32) (c_now : Nat → Int32) : Option (Int32) :=
  zb1 (fX11_in ((p1).toInt64) (0 : Int64) ((((c_now ((8 : Int32)).toNatClampNeg) - (1 : Int32))).toInt64)) (fun r13 => some (r13))
set_option maxHeartbeats 4000000 in
set_option maxRecDepth 100000 in
theorem mX11_isNet (l : Launch) (D : va_G) (cy : Nat → ClassId) (sz : Nat) (b b_now b_imaged b_valueUp b_valueDown b_real b_brief b_order b_waits b_floats b_same b_upOf b_downOf b_tape b_open b_made b_paper b_reachUp b_reachDown b_reachHow b_reachFirst b_reachSecond b_begins b_carried : Nat) (c_hasImage : Int32) (c_above c_below : Int64) (c_orderMany c_waitMany c_seed c_size c_openMany c_paperMany c_reachMany : Int32) (c_now : Nat → Int32) (p1 : Int32) (res : (Int32)) (h : fX11_isNet p1 c_now = some res) : zMz l yX11_isNet wsX11_isNet rmX11_isNet [.ref b, .int p1] D cy (wdX11_isNet cy b b_now b_imaged b_valueUp b_valueDown b_real b_brief b_order b_waits b_floats b_same b_upOf b_downOf b_tape b_open b_made b_paper b_reachUp b_reachDown b_reachHow b_reachFirst b_reachSecond b_begins b_carried c_hasImage c_above c_below c_orderMany c_waitMany c_seed c_size c_openMany c_paperMany c_reachMany c_now) sz ((fun (o : (Int32)) => o) res) ((fun (o : (Int32)) => (wdX11_isNet cy b b_now b_imaged b_valueUp b_valueDown b_real b_brief b_order b_waits b_floats b_same b_upOf b_downOf b_tape b_open b_made b_paper b_reachUp b_reachDown b_reachHow b_reachFirst b_reachSecond b_begins b_carried c_hasImage c_above c_below c_orderMany c_waitMany c_seed c_size c_openMany c_paperMany c_reachMany c_now)) res) := by
  refine zOfz (res := res) (rf := (fun (o : (Int32)) => o)) (Wf := (fun (o : (Int32)) => (wdX11_isNet cy b b_now b_imaged b_valueUp b_valueDown b_real b_brief b_order b_waits b_floats b_same b_upOf b_downOf b_tape b_open b_made b_paper b_reachUp b_reachDown b_reachHow b_reachFirst b_reachSecond b_begins b_carried c_hasImage c_above c_below c_orderMany c_waitMany c_seed c_size c_openMany c_paperMany c_reachMany c_now))) (by decide +kernel) rfl (Nat.le_of_ble_eq_true rfl) ?_
  intro p e s m args below meth c A ls Q hx hb hml hts hown hP hK hD hA hS hl hret
  have hown : s.vm.findClass RX11 = some m.cls := hown
  have hl : lv_has ls 2 [(0, .ref b), (1, .int p1)] := hl
  refine lv_iload_n hx hb dX11_isNet_0 rfl (lv_at hl 1 rfl) ?_
  refine lv_i2l hx hb dX11_isNet_1 rfl ?_
  refine lv_lconst (v := (0 : Int64)) hx hb dX11_isNet_2 (by decide) ?_
  refine lv_aload_n hx hb dX11_isNet_3 rfl (lv_at hl 0 rfl) ?_
  refine va_get (D := D) (ci := 11) (v := .ref b_now) (C := RX11) (T := TX11) (N := 33) hx hb hts uX11_isNet_X11 hown hK.1 hP 0 rfl rfl 0 (by decide) (hts (.fieldLink RX11 9 "WishedResistorModel" "now" "[I") (List.mem_of_getElem? (i := 1) rfl)) (fun _ h9 => h9) rfl dX11_isNet_4 ?_
  refine lv_bipush (v := (8 : Int32)) hx hb dX11_isNet_7 (by decide) ?_
  refine va_iald hx hb hK.1 hP 1 0 rfl rfl (show zin (8 : Int32) 261 from by decide) dX11_isNet_9 ?_
  refine lv_iconst (v := (1 : Int32)) hx hb dX11_isNet_10 (by decide) ?_
  refine lv_isub hx hb dX11_isNet_11 ?_
  refine lv_i2l hx hb dX11_isNet_12 rfl ?_
  obtain ⟨r13, hq13, h⟩ := zb1_s h
  refine zCz0 (r0 := r13) (va_runS (As := [.long ((p1).toInt64), .long (0 : Int64), .long ((((c_now ((8 : Int32)).toNatClampNeg) - (1 : Int32))).toInt64)]) (rest := []) ⟨hx, hb, hml, hown, hts⟩ (mX11_in l D cy s.heap.size ((p1).toInt64) (0 : Int64) ((((c_now ((8 : Int32)).toNatClampNeg) - (1 : Int32))).toInt64) (r13) hq13) (va_cwS 3 hts gX11_isNet_X11_in rfl rfl rfl cdX11_in ⟨Nat.le_of_ble_eq_true rfl, Nat.le_of_ble_eq_true rfl⟩) (zPS hK hP hD [] rfl rfl) rfl rfl hl.1 rfl (lv_room (Nat.le_of_ble_eq_true rfl)) dX11_isNet_13 ⟨Nat.zero_le _, Nat.zero_le _⟩) hP hD hS hA (fun H locs hn13 hP hD hS => ?_)
  exact hret (o := (r13)) h hn13 hP hD hS dX11_isNet_16

theorem uX11_kindOf_X11 : ∀ w ∈ u_ws RX11 TX11 33, w ∈ wsX11_kindOf := fun w h => (List.mem_cons_of_mem _ (List.mem_append_right _ h))
abbrev wdX11_kindOf (cy : Nat → ClassId) (b b_now b_imaged b_valueUp b_valueDown b_real b_brief b_order b_waits b_floats b_same b_upOf b_downOf b_tape b_open b_made b_paper b_reachUp b_reachDown b_reachHow b_reachFirst b_reachSecond b_begins b_carried : Nat) (c_hasImage : Int32) (c_above c_below : Int64) (c_orderMany c_waitMany c_seed c_size c_openMany c_paperMany c_reachMany : Int32) (c_now : Nat → Int32) : va_W := [(b, .inr (11, [.ref b_now, .ref b_imaged, .int c_hasImage, .long c_above, .long c_below, .ref b_valueUp, .ref b_valueDown, .ref b_real, .ref b_brief, .ref b_order, .int c_orderMany, .ref b_waits, .int c_waitMany, .ref b_floats, .int c_seed, .ref b_same, .ref b_upOf, .ref b_downOf, .ref b_tape, .int c_size, .ref b_open, .int c_openMany, .ref b_made, .ref b_paper, .int c_paperMany, .ref b_reachUp, .ref b_reachDown, .ref b_reachHow, .ref b_reachFirst, .ref b_reachSecond, .ref b_begins, .int c_reachMany, .ref b_carried])), (b_now, .inl (cy 0, 261, .inl c_now))]
abbrev rmX11_kindOf : Room := { frames := 0, cells := 0, slots := 0, locals := 0 }
theorem cdX11_kindOf : (yX11_kindOf).cls ≠ "java/lang/invoke/MethodHandle" ∧ (yX11_kindOf).cls ≠ "java/lang/invoke/VarHandle" ∧ (parseMethodDescriptor (yX11_kindOf).desc).map (fun d => d.parameters.length) = some 1 := by decide +kernel
def fX11_kindOf (p1 : Int32) (c_now : Nat → Int32) : Option (Int32) :=
  zg (zin ((9 : Int32) + ((4 : Int32) * p1)) 261) (some ((c_now (((9 : Int32) + ((4 : Int32) * p1))).toNatClampNeg)))
set_option maxHeartbeats 4000000 in
set_option maxRecDepth 100000 in
theorem mX11_kindOf (l : Launch) (D : va_G) (cy : Nat → ClassId) (sz : Nat) (b b_now b_imaged b_valueUp b_valueDown b_real b_brief b_order b_waits b_floats b_same b_upOf b_downOf b_tape b_open b_made b_paper b_reachUp b_reachDown b_reachHow b_reachFirst b_reachSecond b_begins b_carried : Nat) (c_hasImage : Int32) (c_above c_below : Int64) (c_orderMany c_waitMany c_seed c_size c_openMany c_paperMany c_reachMany : Int32) (c_now : Nat → Int32) (p1 : Int32) (res : (Int32)) (h : fX11_kindOf p1 c_now = some res) : zMi l yX11_kindOf wsX11_kindOf rmX11_kindOf [.ref b, .int p1] D cy (wdX11_kindOf cy b b_now b_imaged b_valueUp b_valueDown b_real b_brief b_order b_waits b_floats b_same b_upOf b_downOf b_tape b_open b_made b_paper b_reachUp b_reachDown b_reachHow b_reachFirst b_reachSecond b_begins b_carried c_hasImage c_above c_below c_orderMany c_waitMany c_seed c_size c_openMany c_paperMany c_reachMany c_now) sz ((fun (o : (Int32)) => o) res) ((fun (o : (Int32)) => (wdX11_kindOf cy b b_now b_imaged b_valueUp b_valueDown b_real b_brief b_order b_waits b_floats b_same b_upOf b_downOf b_tape b_open b_made b_paper b_reachUp b_reachDown b_reachHow b_reachFirst b_reachSecond b_begins b_carried c_hasImage c_above c_below c_orderMany c_waitMany c_seed c_size c_openMany c_paperMany c_reachMany c_now)) res) := by
  refine zOfi (res := res) (rf := (fun (o : (Int32)) => o)) (Wf := (fun (o : (Int32)) => (wdX11_kindOf cy b b_now b_imaged b_valueUp b_valueDown b_real b_brief b_order b_waits b_floats b_same b_upOf b_downOf b_tape b_open b_made b_paper b_reachUp b_reachDown b_reachHow b_reachFirst b_reachSecond b_begins b_carried c_hasImage c_above c_below c_orderMany c_waitMany c_seed c_size c_openMany c_paperMany c_reachMany c_now))) (by decide +kernel) rfl (Nat.le_of_ble_eq_true rfl) ?_
  intro p e s m args below meth c A ls Q hx hb hml hts hown hP hK hD hA hS hl hret
  have hown : s.vm.findClass RX11 = some m.cls := hown
  have hl : lv_has ls 2 [(0, .ref b), (1, .int p1)] := hl
  refine lv_aload_n hx hb dX11_kindOf_0 rfl (lv_at hl 0 rfl) ?_
  refine va_get (D := D) (ci := 11) (v := .ref b_now) (C := RX11) (T := TX11) (N := 33) hx hb hts uX11_kindOf_X11 hown hK.1 hP 0 rfl rfl 0 (by decide) (hts (.fieldLink RX11 9 "WishedResistorModel" "now" "[I") (List.mem_of_getElem? (i := 1) rfl)) (fun _ h9 => h9) rfl dX11_kindOf_1 ?_
  refine lv_bipush (v := (9 : Int32)) hx hb dX11_kindOf_4 (by decide) ?_
  refine lv_iconst (v := (4 : Int32)) hx hb dX11_kindOf_6 (by decide) ?_
  refine lv_iload_n hx hb dX11_kindOf_7 rfl (lv_at hl 1 rfl) ?_
  refine lv_imul hx hb dX11_kindOf_8 ?_
  refine lv_iadd hx hb dX11_kindOf_9 ?_
  obtain ⟨hi10, h⟩ := zg_s h
  refine va_iald hx hb hK.1 hP 1 0 rfl rfl hi10 dX11_kindOf_10 ?_
  exact hret (o := ((c_now (((9 : Int32) + ((4 : Int32) * p1))).toNatClampNeg))) h hP hD hS dX11_kindOf_11

theorem uX11_firstOf_X11 : ∀ w ∈ u_ws RX11 TX11 33, w ∈ wsX11_firstOf := fun w h => (List.mem_cons_of_mem _ (List.mem_append_right _ h))
abbrev wdX11_firstOf (cy : Nat → ClassId) (b b_now b_imaged b_valueUp b_valueDown b_real b_brief b_order b_waits b_floats b_same b_upOf b_downOf b_tape b_open b_made b_paper b_reachUp b_reachDown b_reachHow b_reachFirst b_reachSecond b_begins b_carried : Nat) (c_hasImage : Int32) (c_above c_below : Int64) (c_orderMany c_waitMany c_seed c_size c_openMany c_paperMany c_reachMany : Int32) (c_now : Nat → Int32) : va_W := [(b, .inr (11, [.ref b_now, .ref b_imaged, .int c_hasImage, .long c_above, .long c_below, .ref b_valueUp, .ref b_valueDown, .ref b_real, .ref b_brief, .ref b_order, .int c_orderMany, .ref b_waits, .int c_waitMany, .ref b_floats, .int c_seed, .ref b_same, .ref b_upOf, .ref b_downOf, .ref b_tape, .int c_size, .ref b_open, .int c_openMany, .ref b_made, .ref b_paper, .int c_paperMany, .ref b_reachUp, .ref b_reachDown, .ref b_reachHow, .ref b_reachFirst, .ref b_reachSecond, .ref b_begins, .int c_reachMany, .ref b_carried])), (b_now, .inl (cy 0, 261, .inl c_now))]
abbrev rmX11_firstOf : Room := { frames := 0, cells := 0, slots := 0, locals := 0 }
theorem cdX11_firstOf : (yX11_firstOf).cls ≠ "java/lang/invoke/MethodHandle" ∧ (yX11_firstOf).cls ≠ "java/lang/invoke/VarHandle" ∧ (parseMethodDescriptor (yX11_firstOf).desc).map (fun d => d.parameters.length) = some 1 := by decide +kernel
def fX11_firstOf (p1 : Int32) (c_now : Nat → Int32) : Option (Int32) :=
  zg (zin (((9 : Int32) + ((4 : Int32) * p1)) + (1 : Int32)) 261) (some ((c_now ((((9 : Int32) + ((4 : Int32) * p1)) + (1 : Int32))).toNatClampNeg)))
set_option maxHeartbeats 4000000 in
set_option maxRecDepth 100000 in
theorem mX11_firstOf (l : Launch) (D : va_G) (cy : Nat → ClassId) (sz : Nat) (b b_now b_imaged b_valueUp b_valueDown b_real b_brief b_order b_waits b_floats b_same b_upOf b_downOf b_tape b_open b_made b_paper b_reachUp b_reachDown b_reachHow b_reachFirst b_reachSecond b_begins b_carried : Nat) (c_hasImage : Int32) (c_above c_below : Int64) (c_orderMany c_waitMany c_seed c_size c_openMany c_paperMany c_reachMany : Int32) (c_now : Nat → Int32) (p1 : Int32) (res : (Int32)) (h : fX11_firstOf p1 c_now = some res) : zMi l yX11_firstOf wsX11_firstOf rmX11_firstOf [.ref b, .int p1] D cy (wdX11_firstOf cy b b_now b_imaged b_valueUp b_valueDown b_real b_brief b_order b_waits b_floats b_same b_upOf b_downOf b_tape b_open b_made b_paper b_reachUp b_reachDown b_reachHow b_reachFirst b_reachSecond b_begins b_carried c_hasImage c_above c_below c_orderMany c_waitMany c_seed c_size c_openMany c_paperMany c_reachMany c_now) sz ((fun (o : (Int32)) => o) res) ((fun (o : (Int32)) => (wdX11_firstOf cy b b_now b_imaged b_valueUp b_valueDown b_real b_brief b_order b_waits b_floats b_same b_upOf b_downOf b_tape b_open b_made b_paper b_reachUp b_reachDown b_reachHow b_reachFirst b_reachSecond b_begins b_carried c_hasImage c_above c_below c_orderMany c_waitMany c_seed c_size c_openMany c_paperMany c_reachMany c_now)) res) := by
  refine zOfi (res := res) (rf := (fun (o : (Int32)) => o)) (Wf := (fun (o : (Int32)) => (wdX11_firstOf cy b b_now b_imaged b_valueUp b_valueDown b_real b_brief b_order b_waits b_floats b_same b_upOf b_downOf b_tape b_open b_made b_paper b_reachUp b_reachDown b_reachHow b_reachFirst b_reachSecond b_begins b_carried c_hasImage c_above c_below c_orderMany c_waitMany c_seed c_size c_openMany c_paperMany c_reachMany c_now))) (by decide +kernel) rfl (Nat.le_of_ble_eq_true rfl) ?_
  intro p e s m args below meth c A ls Q hx hb hml hts hown hP hK hD hA hS hl hret
  have hown : s.vm.findClass RX11 = some m.cls := hown
  have hl : lv_has ls 2 [(0, .ref b), (1, .int p1)] := hl
  refine lv_aload_n hx hb dX11_firstOf_0 rfl (lv_at hl 0 rfl) ?_
  refine va_get (D := D) (ci := 11) (v := .ref b_now) (C := RX11) (T := TX11) (N := 33) hx hb hts uX11_firstOf_X11 hown hK.1 hP 0 rfl rfl 0 (by decide) (hts (.fieldLink RX11 9 "WishedResistorModel" "now" "[I") (List.mem_of_getElem? (i := 1) rfl)) (fun _ h9 => h9) rfl dX11_firstOf_1 ?_
  refine lv_bipush (v := (9 : Int32)) hx hb dX11_firstOf_4 (by decide) ?_
  refine lv_iconst (v := (4 : Int32)) hx hb dX11_firstOf_6 (by decide) ?_
  refine lv_iload_n hx hb dX11_firstOf_7 rfl (lv_at hl 1 rfl) ?_
  refine lv_imul hx hb dX11_firstOf_8 ?_
  refine lv_iadd hx hb dX11_firstOf_9 ?_
  refine lv_iconst (v := (1 : Int32)) hx hb dX11_firstOf_10 (by decide) ?_
  refine lv_iadd hx hb dX11_firstOf_11 ?_
  obtain ⟨hi12, h⟩ := zg_s h
  refine va_iald hx hb hK.1 hP 1 0 rfl rfl hi12 dX11_firstOf_12 ?_
  exact hret (o := ((c_now ((((9 : Int32) + ((4 : Int32) * p1)) + (1 : Int32))).toNatClampNeg))) h hP hD hS dX11_firstOf_13

theorem uX11_secondOf_X11 : ∀ w ∈ u_ws RX11 TX11 33, w ∈ wsX11_secondOf := fun w h => (List.mem_cons_of_mem _ (List.mem_append_right _ h))
abbrev wdX11_secondOf (cy : Nat → ClassId) (b b_now b_imaged b_valueUp b_valueDown b_real b_brief b_order b_waits b_floats b_same b_upOf b_downOf b_tape b_open b_made b_paper b_reachUp b_reachDown b_reachHow b_reachFirst b_reachSecond b_begins b_carried : Nat) (c_hasImage : Int32) (c_above c_below : Int64) (c_orderMany c_waitMany c_seed c_size c_openMany c_paperMany c_reachMany : Int32) (c_now : Nat → Int32) : va_W := [(b, .inr (11, [.ref b_now, .ref b_imaged, .int c_hasImage, .long c_above, .long c_below, .ref b_valueUp, .ref b_valueDown, .ref b_real, .ref b_brief, .ref b_order, .int c_orderMany, .ref b_waits, .int c_waitMany, .ref b_floats, .int c_seed, .ref b_same, .ref b_upOf, .ref b_downOf, .ref b_tape, .int c_size, .ref b_open, .int c_openMany, .ref b_made, .ref b_paper, .int c_paperMany, .ref b_reachUp, .ref b_reachDown, .ref b_reachHow, .ref b_reachFirst, .ref b_reachSecond, .ref b_begins, .int c_reachMany, .ref b_carried])), (b_now, .inl (cy 0, 261, .inl c_now))]
abbrev rmX11_secondOf : Room := { frames := 0, cells := 0, slots := 0, locals := 0 }
theorem cdX11_secondOf : (yX11_secondOf).cls ≠ "java/lang/invoke/MethodHandle" ∧ (yX11_secondOf).cls ≠ "java/lang/invoke/VarHandle" ∧ (parseMethodDescriptor (yX11_secondOf).desc).map (fun d => d.parameters.length) = some 1 := by decide +kernel
def fX11_secondOf (p1 : Int32) (c_now : Nat → Int32) : Option (Int32) :=
  zg (zin (((9 : Int32) + ((4 : Int32) * p1)) + (2 : Int32)) 261) (some ((c_now ((((9 : Int32) + ((4 : Int32) * p1)) + (2 : Int32))).toNatClampNeg)))
set_option maxHeartbeats 4000000 in
set_option maxRecDepth 100000 in
theorem mX11_secondOf (l : Launch) (D : va_G) (cy : Nat → ClassId) (sz : Nat) (b b_now b_imaged b_valueUp b_valueDown b_real b_brief b_order b_waits b_floats b_same b_upOf b_downOf b_tape b_open b_made b_paper b_reachUp b_reachDown b_reachHow b_reachFirst b_reachSecond b_begins b_carried : Nat) (c_hasImage : Int32) (c_above c_below : Int64) (c_orderMany c_waitMany c_seed c_size c_openMany c_paperMany c_reachMany : Int32) (c_now : Nat → Int32) (p1 : Int32) (res : (Int32)) (h : fX11_secondOf p1 c_now = some res) : zMi l yX11_secondOf wsX11_secondOf rmX11_secondOf [.ref b, .int p1] D cy (wdX11_secondOf cy b b_now b_imaged b_valueUp b_valueDown b_real b_brief b_order b_waits b_floats b_same b_upOf b_downOf b_tape b_open b_made b_paper b_reachUp b_reachDown b_reachHow b_reachFirst b_reachSecond b_begins b_carried c_hasImage c_above c_below c_orderMany c_waitMany c_seed c_size c_openMany c_paperMany c_reachMany c_now) sz ((fun (o : (Int32)) => o) res) ((fun (o : (Int32)) => (wdX11_secondOf cy b b_now b_imaged b_valueUp b_valueDown b_real b_brief b_order b_waits b_floats b_same b_upOf b_downOf b_tape b_open b_made b_paper b_reachUp b_reachDown b_reachHow b_reachFirst b_reachSecond b_begins b_carried c_hasImage c_above c_below c_orderMany c_waitMany c_seed c_size c_openMany c_paperMany c_reachMany c_now)) res) := by
  refine zOfi (res := res) (rf := (fun (o : (Int32)) => o)) (Wf := (fun (o : (Int32)) => (wdX11_secondOf cy b b_now b_imaged b_valueUp b_valueDown b_real b_brief b_order b_waits b_floats b_same b_upOf b_downOf b_tape b_open b_made b_paper b_reachUp b_reachDown b_reachHow b_reachFirst b_reachSecond b_begins b_carried c_hasImage c_above c_below c_orderMany c_waitMany c_seed c_size c_openMany c_paperMany c_reachMany c_now))) (by decide +kernel) rfl (Nat.le_of_ble_eq_true rfl) ?_
  intro p e s m args below meth c A ls Q hx hb hml hts hown hP hK hD hA hS hl hret
  have hown : s.vm.findClass RX11 = some m.cls := hown
  have hl : lv_has ls 2 [(0, .ref b), (1, .int p1)] := hl
  refine lv_aload_n hx hb dX11_secondOf_0 rfl (lv_at hl 0 rfl) ?_
  refine va_get (D := D) (ci := 11) (v := .ref b_now) (C := RX11) (T := TX11) (N := 33) hx hb hts uX11_secondOf_X11 hown hK.1 hP 0 rfl rfl 0 (by decide) (hts (.fieldLink RX11 9 "WishedResistorModel" "now" "[I") (List.mem_of_getElem? (i := 1) rfl)) (fun _ h9 => h9) rfl dX11_secondOf_1 ?_
  refine lv_bipush (v := (9 : Int32)) hx hb dX11_secondOf_4 (by decide) ?_
  refine lv_iconst (v := (4 : Int32)) hx hb dX11_secondOf_6 (by decide) ?_
  refine lv_iload_n hx hb dX11_secondOf_7 rfl (lv_at hl 1 rfl) ?_
  refine lv_imul hx hb dX11_secondOf_8 ?_
  refine lv_iadd hx hb dX11_secondOf_9 ?_
  refine lv_iconst (v := (2 : Int32)) hx hb dX11_secondOf_10 (by decide) ?_
  refine lv_iadd hx hb dX11_secondOf_11 ?_
  obtain ⟨hi12, h⟩ := zg_s h
  refine va_iald hx hb hK.1 hP 1 0 rfl rfl hi12 dX11_secondOf_12 ?_
  exact hret (o := ((c_now ((((9 : Int32) + ((4 : Int32) * p1)) + (2 : Int32))).toNatClampNeg))) h hP hD hS dX11_secondOf_13

theorem uX11_partsOf_X11 : ∀ w ∈ u_ws RX11 TX11 33, w ∈ wsX11_partsOf := fun w h => (List.mem_cons_of_mem _ (List.mem_append_right _ h))
abbrev wdX11_partsOf (cy : Nat → ClassId) (b b_now b_imaged b_valueUp b_valueDown b_real b_brief b_order b_waits b_floats b_same b_upOf b_downOf b_tape b_open b_made b_paper b_reachUp b_reachDown b_reachHow b_reachFirst b_reachSecond b_begins b_carried : Nat) (c_hasImage : Int32) (c_above c_below : Int64) (c_orderMany c_waitMany c_seed c_size c_openMany c_paperMany c_reachMany : Int32) (c_now : Nat → Int32) : va_W := [(b, .inr (11, [.ref b_now, .ref b_imaged, .int c_hasImage, .long c_above, .long c_below, .ref b_valueUp, .ref b_valueDown, .ref b_real, .ref b_brief, .ref b_order, .int c_orderMany, .ref b_waits, .int c_waitMany, .ref b_floats, .int c_seed, .ref b_same, .ref b_upOf, .ref b_downOf, .ref b_tape, .int c_size, .ref b_open, .int c_openMany, .ref b_made, .ref b_paper, .int c_paperMany, .ref b_reachUp, .ref b_reachDown, .ref b_reachHow, .ref b_reachFirst, .ref b_reachSecond, .ref b_begins, .int c_reachMany, .ref b_carried])), (b_now, .inl (cy 0, 261, .inl c_now))]
abbrev rmX11_partsOf : Room := { frames := 0, cells := 0, slots := 0, locals := 0 }
theorem cdX11_partsOf : (yX11_partsOf).cls ≠ "java/lang/invoke/MethodHandle" ∧ (yX11_partsOf).cls ≠ "java/lang/invoke/VarHandle" ∧ (parseMethodDescriptor (yX11_partsOf).desc).map (fun d => d.parameters.length) = some 1 := by decide +kernel
def fX11_partsOf (p1 : Int32) (c_now : Nat → Int32) : Option (Int32) :=
  zg (zin (((9 : Int32) + ((4 : Int32) * p1)) + (3 : Int32)) 261) (some ((c_now ((((9 : Int32) + ((4 : Int32) * p1)) + (3 : Int32))).toNatClampNeg)))
set_option maxHeartbeats 4000000 in
set_option maxRecDepth 100000 in
theorem mX11_partsOf (l : Launch) (D : va_G) (cy : Nat → ClassId) (sz : Nat) (b b_now b_imaged b_valueUp b_valueDown b_real b_brief b_order b_waits b_floats b_same b_upOf b_downOf b_tape b_open b_made b_paper b_reachUp b_reachDown b_reachHow b_reachFirst b_reachSecond b_begins b_carried : Nat) (c_hasImage : Int32) (c_above c_below : Int64) (c_orderMany c_waitMany c_seed c_size c_openMany c_paperMany c_reachMany : Int32) (c_now : Nat → Int32) (p1 : Int32) (res : (Int32)) (h : fX11_partsOf p1 c_now = some res) : zMi l yX11_partsOf wsX11_partsOf rmX11_partsOf [.ref b, .int p1] D cy (wdX11_partsOf cy b b_now b_imaged b_valueUp b_valueDown b_real b_brief b_order b_waits b_floats b_same b_upOf b_downOf b_tape b_open b_made b_paper b_reachUp b_reachDown b_reachHow b_reachFirst b_reachSecond b_begins b_carried c_hasImage c_above c_below c_orderMany c_waitMany c_seed c_size c_openMany c_paperMany c_reachMany c_now) sz ((fun (o : (Int32)) => o) res) ((fun (o : (Int32)) => (wdX11_partsOf cy b b_now b_imaged b_valueUp b_valueDown b_real b_brief b_order b_waits b_floats b_same b_upOf b_downOf b_tape b_open b_made b_paper b_reachUp b_reachDown b_reachHow b_reachFirst b_reachSecond b_begins b_carried c_hasImage c_above c_below c_orderMany c_waitMany c_seed c_size c_openMany c_paperMany c_reachMany c_now)) res) := by
  refine zOfi (res := res) (rf := (fun (o : (Int32)) => o)) (Wf := (fun (o : (Int32)) => (wdX11_partsOf cy b b_now b_imaged b_valueUp b_valueDown b_real b_brief b_order b_waits b_floats b_same b_upOf b_downOf b_tape b_open b_made b_paper b_reachUp b_reachDown b_reachHow b_reachFirst b_reachSecond b_begins b_carried c_hasImage c_above c_below c_orderMany c_waitMany c_seed c_size c_openMany c_paperMany c_reachMany c_now))) (by decide +kernel) rfl (Nat.le_of_ble_eq_true rfl) ?_
  intro p e s m args below meth c A ls Q hx hb hml hts hown hP hK hD hA hS hl hret
  have hown : s.vm.findClass RX11 = some m.cls := hown
  have hl : lv_has ls 2 [(0, .ref b), (1, .int p1)] := hl
  refine lv_aload_n hx hb dX11_partsOf_0 rfl (lv_at hl 0 rfl) ?_
  refine va_get (D := D) (ci := 11) (v := .ref b_now) (C := RX11) (T := TX11) (N := 33) hx hb hts uX11_partsOf_X11 hown hK.1 hP 0 rfl rfl 0 (by decide) (hts (.fieldLink RX11 9 "WishedResistorModel" "now" "[I") (List.mem_of_getElem? (i := 1) rfl)) (fun _ h9 => h9) rfl dX11_partsOf_1 ?_
  refine lv_bipush (v := (9 : Int32)) hx hb dX11_partsOf_4 (by decide) ?_
  refine lv_iconst (v := (4 : Int32)) hx hb dX11_partsOf_6 (by decide) ?_
  refine lv_iload_n hx hb dX11_partsOf_7 rfl (lv_at hl 1 rfl) ?_
  refine lv_imul hx hb dX11_partsOf_8 ?_
  refine lv_iadd hx hb dX11_partsOf_9 ?_
  refine lv_iconst (v := (3 : Int32)) hx hb dX11_partsOf_10 (by decide) ?_
  refine lv_iadd hx hb dX11_partsOf_11 ?_
  obtain ⟨hi12, h⟩ := zg_s h
  refine va_iald hx hb hK.1 hP 1 0 rfl rfl hi12 dX11_partsOf_12 ?_
  exact hret (o := ((c_now ((((9 : Int32) + ((4 : Int32) * p1)) + (3 : Int32))).toNatClampNeg))) h hP hD hS dX11_partsOf_13

theorem uX11_found_X11 : ∀ w ∈ u_ws RX11 TX11 33, w ∈ wsX11_found := fun w h => (List.mem_cons_of_mem _ (List.mem_append_right _ h))
abbrev wdX11_found (cy : Nat → ClassId) (b b_now b_imaged b_valueUp b_valueDown b_real b_brief b_order b_waits b_floats b_same b_upOf b_downOf b_tape b_open b_made b_paper b_reachUp b_reachDown b_reachHow b_reachFirst b_reachSecond b_begins b_carried : Nat) (c_hasImage : Int32) (c_above c_below : Int64) (c_orderMany c_waitMany c_seed c_size c_openMany c_paperMany c_reachMany : Int32) (c_now : Nat → Int32) : va_W := [(b, .inr (11, [.ref b_now, .ref b_imaged, .int c_hasImage, .long c_above, .long c_below, .ref b_valueUp, .ref b_valueDown, .ref b_real, .ref b_brief, .ref b_order, .int c_orderMany, .ref b_waits, .int c_waitMany, .ref b_floats, .int c_seed, .ref b_same, .ref b_upOf, .ref b_downOf, .ref b_tape, .int c_size, .ref b_open, .int c_openMany, .ref b_made, .ref b_paper, .int c_paperMany, .ref b_reachUp, .ref b_reachDown, .ref b_reachHow, .ref b_reachFirst, .ref b_reachSecond, .ref b_begins, .int c_reachMany, .ref b_carried])), (b_now, .inl (cy 0, 261, .inl c_now))]
abbrev rmX11_found : Room := { frames := 1, cells := 0, slots := 0, locals := 21 }
theorem cdX11_found : (yX11_found).cls ≠ "java/lang/invoke/MethodHandle" ∧ (yX11_found).cls ≠ "java/lang/invoke/VarHandle" ∧ (parseMethodDescriptor (yX11_found).desc).map (fun d => d.parameters.length) = some 3 := by decide +kernel
def fX11_found_L3 (c_now : Nat → Int32) (p1 p2 p3 : Int32) : Nat → Int32 → Option (Int32) :=
  zl1 (fun rec3 v4_3 => if (c_now ((8 : Int32)).toNatClampNeg) ≤ v4_3 then (some ((-1 : Int32))) else (zb1 (fX11_kindOf v4_3 c_now) (fun r18 => if r18 = p1 then (zb1 (fX11_firstOf v4_3 c_now) (fun r28 => if r28 = p2 then (zb1 (fX11_secondOf v4_3 c_now) (fun r38 => if r38 = p3 then (some (v4_3)) else (rec3 (v4_3 + (1 : Int32))))) else (rec3 (v4_3 + (1 : Int32))))) else (rec3 (v4_3 + (1 : Int32))))))
def fX11_found (p1 p2 p3 : Int32) (c_now : Nat → Int32) : Option (Int32) :=
  fX11_found_L3 c_now p1 p2 p3 5000 (0 : Int32)
set_option maxHeartbeats 4000000 in
set_option maxRecDepth 100000 in
theorem mX11_found (l : Launch) (D : va_G) (cy : Nat → ClassId) (sz : Nat) (b b_now b_imaged b_valueUp b_valueDown b_real b_brief b_order b_waits b_floats b_same b_upOf b_downOf b_tape b_open b_made b_paper b_reachUp b_reachDown b_reachHow b_reachFirst b_reachSecond b_begins b_carried : Nat) (c_hasImage : Int32) (c_above c_below : Int64) (c_orderMany c_waitMany c_seed c_size c_openMany c_paperMany c_reachMany : Int32) (c_now : Nat → Int32) (p1 p2 p3 : Int32) (res : (Int32)) (h : fX11_found p1 p2 p3 c_now = some res) : zMi l yX11_found wsX11_found rmX11_found [.ref b, .int p1, .int p2, .int p3] D cy (wdX11_found cy b b_now b_imaged b_valueUp b_valueDown b_real b_brief b_order b_waits b_floats b_same b_upOf b_downOf b_tape b_open b_made b_paper b_reachUp b_reachDown b_reachHow b_reachFirst b_reachSecond b_begins b_carried c_hasImage c_above c_below c_orderMany c_waitMany c_seed c_size c_openMany c_paperMany c_reachMany c_now) sz ((fun (o : (Int32)) => o) res) ((fun (o : (Int32)) => (wdX11_found cy b b_now b_imaged b_valueUp b_valueDown b_real b_brief b_order b_waits b_floats b_same b_upOf b_downOf b_tape b_open b_made b_paper b_reachUp b_reachDown b_reachHow b_reachFirst b_reachSecond b_begins b_carried c_hasImage c_above c_below c_orderMany c_waitMany c_seed c_size c_openMany c_paperMany c_reachMany c_now)) res) := by
  refine zOfi (res := res) (rf := (fun (o : (Int32)) => o)) (Wf := (fun (o : (Int32)) => (wdX11_found cy b b_now b_imaged b_valueUp b_valueDown b_real b_brief b_order b_waits b_floats b_same b_upOf b_downOf b_tape b_open b_made b_paper b_reachUp b_reachDown b_reachHow b_reachFirst b_reachSecond b_begins b_carried c_hasImage c_above c_below c_orderMany c_waitMany c_seed c_size c_openMany c_paperMany c_reachMany c_now))) (by decide +kernel) rfl (Nat.le_of_ble_eq_true rfl) ?_
  intro p e s m args below meth c A ls Q hx hb hml hts hown hP hK hD hA hS hl hret
  have hown : s.vm.findClass RX11 = some m.cls := hown
  have hl : lv_has ls 5 [(0, .ref b), (1, .int p1), (2, .int p2), (3, .int p3)] := hl
  refine lv_iconst (v := (0 : Int32)) hx hb dX11_found_0 (by decide) ?_
  refine lv_istore (lv' := [(4, .int (0 : Int32)), (0, .ref b), (1, .int p1), (2, .int p2), (3, .int p3)]) hx hb dX11_found_1 hl (Nat.le_of_ble_eq_true rfl) rfl (fun ls hl => ?_)
  have hL3 : ∀ n3 : Nat, ∀ (v4_3 : Int32) (H : Heap) (locs : List Loc) (ls : Array Slot), va_P D vwCl (wdX11_found cy b b_now b_imaged b_valueUp b_valueDown b_real b_brief b_order b_waits b_floats b_same b_upOf b_downOf b_tape b_open b_made b_paper b_reachUp b_reachDown b_reachHow b_reachFirst b_reachSecond b_begins b_carried c_hasImage c_above c_below c_orderMany c_waitMany c_seed c_size c_openMany c_paperMany c_reachMany c_now) H → va_D A (wdX11_found cy b b_now b_imaged b_valueUp b_valueDown b_real b_brief b_order b_waits b_floats b_same b_upOf b_downOf b_tape b_open b_made b_paper b_reachUp b_reachDown b_reachHow b_reachFirst b_reachSecond b_begins b_carried c_hasImage c_above c_below c_orderMany c_waitMany c_seed c_size c_openMany c_paperMany c_reachMany c_now) → va_S A s.heap H locs → lv_has ls 5 [(0, .ref b), (1, .int p1), (2, .int p2), (3, .int p3), (4, .int v4_3)] → fX11_found_L3 c_now p1 p2 p3 n3 v4_3 = some res → W p l e rmX11_found s m args below meth c H locs 0 0 Q (F0 m 3 ls []) := by
    intro n3
    induction n3 with
    | zero =>
      intro v4_3 H locs ls hP hD hS hl h
      exact zl1_0 h
    | succ n3 ih3 =>
      intro v4_3 H locs ls hP hD hS hl h
      replace h := zl1_s h
      refine lv_iload hx hb dX11_found_3 (lv_at hl 4 rfl) ?_
      refine lv_aload_n hx hb dX11_found_5 rfl (lv_at hl 0 rfl) ?_
      refine va_get (D := D) (ci := 11) (v := .ref b_now) (C := RX11) (T := TX11) (N := 33) hx hb hts uX11_found_X11 hown hK.1 hP 0 rfl rfl 0 (by decide) (hts (.fieldLink RX11 9 "WishedResistorModel" "now" "[I") (List.mem_of_getElem? (i := 1) rfl)) (fun _ h9 => h9) rfl dX11_found_6 ?_
      refine lv_bipush (v := (8 : Int32)) hx hb dX11_found_9 (by decide) ?_
      refine va_iald hx hb hK.1 hP 1 0 rfl rfl (show zin (8 : Int32) 261 from by decide) dX11_found_11 ?_
      refine lv_icmp_ge (tgt := 54) hx hb dX11_found_12 (by decide) (fun hc12 => ?_) (fun hc12 => ?_)
      · replace h := zi_t hc12 h
        refine lv_iconst (v := (-1 : Int32)) hx hb dX11_found_54 (by decide) ?_
        exact hret (o := ((-1 : Int32))) h hP hD hS dX11_found_55
      · replace h := zi_f hc12 h
        refine lv_aload_n hx hb dX11_found_15 rfl (lv_at hl 0 rfl) ?_
        refine lv_iload hx hb dX11_found_16 (lv_at hl 4 rfl) ?_
        obtain ⟨r18, hq18, h⟩ := zb1_s h
        refine zCi (r0 := r18) (w1 := (wdX11_kindOf cy b b_now b_imaged b_valueUp b_valueDown b_real b_brief b_order b_waits b_floats b_same b_upOf b_downOf b_tape b_open b_made b_paper b_reachUp b_reachDown b_reachHow b_reachFirst b_reachSecond b_begins b_carried c_hasImage c_above c_below c_orderMany c_waitMany c_seed c_size c_openMany c_paperMany c_reachMany c_now)) (ws' := (wdX11_found cy b b_now b_imaged b_valueUp b_valueDown b_real b_brief b_order b_waits b_floats b_same b_upOf b_downOf b_tape b_open b_made b_paper b_reachUp b_reachDown b_reachHow b_reachFirst b_reachSecond b_begins b_carried c_hasImage c_above c_below c_orderMany c_waitMany c_seed c_size c_openMany c_paperMany c_reachMany c_now)) (va_runV (As := [.int v4_3]) (rest := []) ⟨hx, hb, hml, hown, hts⟩ (mX11_kindOf l D cy H.size b b_now b_imaged b_valueUp b_valueDown b_real b_brief b_order b_waits b_floats b_same b_upOf b_downOf b_tape b_open b_made b_paper b_reachUp b_reachDown b_reachHow b_reachFirst b_reachSecond b_begins b_carried c_hasImage c_above c_below c_orderMany c_waitMany c_seed c_size c_openMany c_paperMany c_reachMany c_now v4_3 (r18) hq18) (cwV 1 hts gX11_found_X11_kindOf rfl rfl rfl ⟨rfl, cdX11_kindOf⟩ ⟨Nat.le_of_ble_eq_true rfl, Nat.le_of_ble_eq_true rfl⟩) (zPV hK hP hD [0, 1] rfl rfl (q0 := 0) (ci := 11) rfl rfl rfl) rfl rfl hl.1 rfl (lv_room (Nat.le_of_ble_eq_true rfl)) dX11_found_18 ⟨Nat.zero_le _, Nat.zero_le _⟩) hP hD hS hA [0, 1] [] [0, 1] rfl rfl rfl rfl (fun H locs hP hD hS => ?_)
        refine lv_iload_n hx hb dX11_found_21 rfl (lv_at hl 1 rfl) ?_
        refine lv_icmp_ne (tgt := 48) hx hb dX11_found_22 (by decide) (fun hc22 => ?_) (fun hc22 => ?_)
        · replace h := zi_f hc22 h
          refine lv_iinc (v := (v4_3 + (1 : Int32))) (lv' := [(4, .int (v4_3 + (1 : Int32))), (0, .ref b), (1, .int p1), (2, .int p2), (3, .int p3)]) hx hb dX11_found_48 hl (k := 4) rfl (by rfl) (Nat.le_of_ble_eq_true rfl) rfl (fun ls hl => ?_)
          refine lv_goto (tgt := 3) hx hb dX11_found_51 (by decide) ?_
          exact ih3 (v4_3 + (1 : Int32)) _ _ _ hP hD hS (lv_sub hl [1, 2, 3, 4, 0] rfl) h
        · replace h := zi_t hc22 h
          refine lv_aload_n hx hb dX11_found_25 rfl (lv_at hl 0 rfl) ?_
          refine lv_iload hx hb dX11_found_26 (lv_at hl 4 rfl) ?_
          obtain ⟨r28, hq28, h⟩ := zb1_s h
          refine zCi (r0 := r28) (w1 := (wdX11_firstOf cy b b_now b_imaged b_valueUp b_valueDown b_real b_brief b_order b_waits b_floats b_same b_upOf b_downOf b_tape b_open b_made b_paper b_reachUp b_reachDown b_reachHow b_reachFirst b_reachSecond b_begins b_carried c_hasImage c_above c_below c_orderMany c_waitMany c_seed c_size c_openMany c_paperMany c_reachMany c_now)) (ws' := (wdX11_found cy b b_now b_imaged b_valueUp b_valueDown b_real b_brief b_order b_waits b_floats b_same b_upOf b_downOf b_tape b_open b_made b_paper b_reachUp b_reachDown b_reachHow b_reachFirst b_reachSecond b_begins b_carried c_hasImage c_above c_below c_orderMany c_waitMany c_seed c_size c_openMany c_paperMany c_reachMany c_now)) (va_runV (As := [.int v4_3]) (rest := []) ⟨hx, hb, hml, hown, hts⟩ (mX11_firstOf l D cy H.size b b_now b_imaged b_valueUp b_valueDown b_real b_brief b_order b_waits b_floats b_same b_upOf b_downOf b_tape b_open b_made b_paper b_reachUp b_reachDown b_reachHow b_reachFirst b_reachSecond b_begins b_carried c_hasImage c_above c_below c_orderMany c_waitMany c_seed c_size c_openMany c_paperMany c_reachMany c_now v4_3 (r28) hq28) (cwV 1 hts gX11_found_X11_firstOf rfl rfl rfl ⟨rfl, cdX11_firstOf⟩ ⟨Nat.le_of_ble_eq_true rfl, Nat.le_of_ble_eq_true rfl⟩) (zPV hK hP hD [0, 1] rfl rfl (q0 := 0) (ci := 11) rfl rfl rfl) rfl rfl hl.1 rfl (lv_room (Nat.le_of_ble_eq_true rfl)) dX11_found_28 ⟨Nat.zero_le _, Nat.zero_le _⟩) hP hD hS hA [0, 1] [] [0, 1] rfl rfl rfl rfl (fun H locs hP hD hS => ?_)
          refine lv_iload_n hx hb dX11_found_31 rfl (lv_at hl 2 rfl) ?_
          refine lv_icmp_ne (tgt := 48) hx hb dX11_found_32 (by decide) (fun hc32 => ?_) (fun hc32 => ?_)
          · replace h := zi_f hc32 h
            refine lv_iinc (v := (v4_3 + (1 : Int32))) (lv' := [(4, .int (v4_3 + (1 : Int32))), (0, .ref b), (1, .int p1), (2, .int p2), (3, .int p3)]) hx hb dX11_found_48 hl (k := 4) rfl (by rfl) (Nat.le_of_ble_eq_true rfl) rfl (fun ls hl => ?_)
            refine lv_goto (tgt := 3) hx hb dX11_found_51 (by decide) ?_
            exact ih3 (v4_3 + (1 : Int32)) _ _ _ hP hD hS (lv_sub hl [1, 2, 3, 4, 0] rfl) h
          · replace h := zi_t hc32 h
            refine lv_aload_n hx hb dX11_found_35 rfl (lv_at hl 0 rfl) ?_
            refine lv_iload hx hb dX11_found_36 (lv_at hl 4 rfl) ?_
            obtain ⟨r38, hq38, h⟩ := zb1_s h
            refine zCi (r0 := r38) (w1 := (wdX11_secondOf cy b b_now b_imaged b_valueUp b_valueDown b_real b_brief b_order b_waits b_floats b_same b_upOf b_downOf b_tape b_open b_made b_paper b_reachUp b_reachDown b_reachHow b_reachFirst b_reachSecond b_begins b_carried c_hasImage c_above c_below c_orderMany c_waitMany c_seed c_size c_openMany c_paperMany c_reachMany c_now)) (ws' := (wdX11_found cy b b_now b_imaged b_valueUp b_valueDown b_real b_brief b_order b_waits b_floats b_same b_upOf b_downOf b_tape b_open b_made b_paper b_reachUp b_reachDown b_reachHow b_reachFirst b_reachSecond b_begins b_carried c_hasImage c_above c_below c_orderMany c_waitMany c_seed c_size c_openMany c_paperMany c_reachMany c_now)) (va_runV (As := [.int v4_3]) (rest := []) ⟨hx, hb, hml, hown, hts⟩ (mX11_secondOf l D cy H.size b b_now b_imaged b_valueUp b_valueDown b_real b_brief b_order b_waits b_floats b_same b_upOf b_downOf b_tape b_open b_made b_paper b_reachUp b_reachDown b_reachHow b_reachFirst b_reachSecond b_begins b_carried c_hasImage c_above c_below c_orderMany c_waitMany c_seed c_size c_openMany c_paperMany c_reachMany c_now v4_3 (r38) hq38) (cwV 1 hts gX11_found_X11_secondOf rfl rfl rfl ⟨rfl, cdX11_secondOf⟩ ⟨Nat.le_of_ble_eq_true rfl, Nat.le_of_ble_eq_true rfl⟩) (zPV hK hP hD [0, 1] rfl rfl (q0 := 0) (ci := 11) rfl rfl rfl) rfl rfl hl.1 rfl (lv_room (Nat.le_of_ble_eq_true rfl)) dX11_found_38 ⟨Nat.zero_le _, Nat.zero_le _⟩) hP hD hS hA [0, 1] [] [0, 1] rfl rfl rfl rfl (fun H locs hP hD hS => ?_)
            refine lv_iload_n hx hb dX11_found_41 rfl (lv_at hl 3 rfl) ?_
            refine lv_icmp_ne (tgt := 48) hx hb dX11_found_42 (by decide) (fun hc42 => ?_) (fun hc42 => ?_)
            · replace h := zi_f hc42 h
              refine lv_iinc (v := (v4_3 + (1 : Int32))) (lv' := [(4, .int (v4_3 + (1 : Int32))), (0, .ref b), (1, .int p1), (2, .int p2), (3, .int p3)]) hx hb dX11_found_48 hl (k := 4) rfl (by rfl) (Nat.le_of_ble_eq_true rfl) rfl (fun ls hl => ?_)
              refine lv_goto (tgt := 3) hx hb dX11_found_51 (by decide) ?_
              exact ih3 (v4_3 + (1 : Int32)) _ _ _ hP hD hS (lv_sub hl [1, 2, 3, 4, 0] rfl) h
            · replace h := zi_t hc42 h
              refine lv_iload hx hb dX11_found_45 (lv_at hl 4 rfl) ?_
              exact hret (o := (v4_3)) h hP hD hS dX11_found_47
  exact hL3 5000 (0 : Int32) _ _ _ hP hD hS (lv_sub hl [1, 2, 3, 4, 0] rfl) h

theorem uX11_kept_X11 : ∀ w ∈ u_ws RX11 TX11 33, w ∈ wsX11_kept := fun w h => (List.mem_cons_of_mem _ (List.mem_append_right _ h))
abbrev wdX11_kept (cy : Nat → ClassId) (b b_now b_imaged b_valueUp b_valueDown b_real b_brief b_order b_waits b_floats b_same b_upOf b_downOf b_tape b_open b_made b_paper b_reachUp b_reachDown b_reachHow b_reachFirst b_reachSecond b_begins b_carried : Nat) (c_hasImage : Int32) (c_above c_below : Int64) (c_orderMany c_waitMany c_seed c_size c_openMany c_paperMany c_reachMany : Int32) (c_now : Nat → Int32) : va_W := [(b, .inr (11, [.ref b_now, .ref b_imaged, .int c_hasImage, .long c_above, .long c_below, .ref b_valueUp, .ref b_valueDown, .ref b_real, .ref b_brief, .ref b_order, .int c_orderMany, .ref b_waits, .int c_waitMany, .ref b_floats, .int c_seed, .ref b_same, .ref b_upOf, .ref b_downOf, .ref b_tape, .int c_size, .ref b_open, .int c_openMany, .ref b_made, .ref b_paper, .int c_paperMany, .ref b_reachUp, .ref b_reachDown, .ref b_reachHow, .ref b_reachFirst, .ref b_reachSecond, .ref b_begins, .int c_reachMany, .ref b_carried])), (b_now, .inl (cy 0, 261, .inl c_now))]
abbrev rmX11_kept : Room := { frames := 2, cells := 0, slots := 0, locals := 45 }
theorem cdX11_kept : (yX11_kept).cls ≠ "java/lang/invoke/MethodHandle" ∧ (yX11_kept).cls ≠ "java/lang/invoke/VarHandle" ∧ (parseMethodDescriptor (yX11_kept).desc).map (fun d => d.parameters.length) = some 4 := by decide +kernel
def fX11_kept (p1 p2 p3 p4 : Int32) (c_now : Nat → Int32) : Option (Int32 × (Nat → Int32)) :=
  zb1 (fX11_found p1 p2 p3 c_now) (fun r4 => if r4 < 0 then (if (c_now ((8 : Int32)).toNatClampNeg) = (40 : Int32) then (some ((-3 : Int32), c_now)) else (zg (zin ((9 : Int32) + ((4 : Int32) * (c_now ((8 : Int32)).toNatClampNeg))) 261) (zg (zin (((9 : Int32) + ((4 : Int32) * (c_now ((8 : Int32)).toNatClampNeg))) + (1 : Int32)) 261) (zg (zin (((9 : Int32) + ((4 : Int32) * (c_now ((8 : Int32)).toNatClampNeg))) + (2 : Int32)) 261) (zg (zin (((9 : Int32) + ((4 : Int32) * (c_now ((8 : Int32)).toNatClampNeg))) + (3 : Int32)) 261) (some ((c_now ((8 : Int32)).toNatClampNeg), (upd (upd (upd (upd (upd c_now (((9 : Int32) + ((4 : Int32) * (c_now ((8 : Int32)).toNatClampNeg)))).toNatClampNeg p1) ((((9 : Int32) + ((4 : Int32) * (c_now ((8 : Int32)).toNatClampNeg))) + (1 : Int32))).toNatClampNeg p2) ((((9 : Int32) + ((4 : Int32) * (c_now ((8 : Int32)).toNatClampNeg))) + (2 : Int32))).toNatClampNeg p3) ((((9 : Int32) + ((4 : Int32) * (c_now ((8 : Int32)).toNatClampNeg))) + (3 : Int32))).toNatClampNeg p4) ((8 : Int32)).toNatClampNeg (((upd (upd (upd (upd c_now (((9 : Int32) + ((4 : Int32) * (c_now ((8 : Int32)).toNatClampNeg)))).toNatClampNeg p1) ((((9 : Int32) + ((4 : Int32) * (c_now ((8 : Int32)).toNatClampNeg))) + (1 : Int32))).toNatClampNeg p2) ((((9 : Int32) + ((4 : Int32) * (c_now ((8 : Int32)).toNatClampNeg))) + (2 : Int32))).toNatClampNeg p3) ((((9 : Int32) + ((4 : Int32) * (c_now ((8 : Int32)).toNatClampNeg))) + (3 : Int32))).toNatClampNeg p4) ((8 : Int32)).toNatClampNeg) + (1 : Int32)))))))))) else (some (r4, c_now)))
set_option maxHeartbeats 4000000 in
set_option maxRecDepth 100000 in
theorem mX11_kept (l : Launch) (D : va_G) (cy : Nat → ClassId) (sz : Nat) (b b_now b_imaged b_valueUp b_valueDown b_real b_brief b_order b_waits b_floats b_same b_upOf b_downOf b_tape b_open b_made b_paper b_reachUp b_reachDown b_reachHow b_reachFirst b_reachSecond b_begins b_carried : Nat) (c_hasImage : Int32) (c_above c_below : Int64) (c_orderMany c_waitMany c_seed c_size c_openMany c_paperMany c_reachMany : Int32) (c_now : Nat → Int32) (p1 p2 p3 p4 : Int32) (res : (Int32 × (Nat → Int32))) (h : fX11_kept p1 p2 p3 p4 c_now = some res) : zMi l yX11_kept wsX11_kept rmX11_kept [.ref b, .int p1, .int p2, .int p3, .int p4] D cy (wdX11_kept cy b b_now b_imaged b_valueUp b_valueDown b_real b_brief b_order b_waits b_floats b_same b_upOf b_downOf b_tape b_open b_made b_paper b_reachUp b_reachDown b_reachHow b_reachFirst b_reachSecond b_begins b_carried c_hasImage c_above c_below c_orderMany c_waitMany c_seed c_size c_openMany c_paperMany c_reachMany c_now) sz ((fun (o : (Int32 × (Nat → Int32))) => o.1) res) ((fun (o : (Int32 × (Nat → Int32))) => (wdX11_kept cy b b_now b_imaged b_valueUp b_valueDown b_real b_brief b_order b_waits b_floats b_same b_upOf b_downOf b_tape b_open b_made b_paper b_reachUp b_reachDown b_reachHow b_reachFirst b_reachSecond b_begins b_carried c_hasImage c_above c_below c_orderMany c_waitMany c_seed c_size c_openMany c_paperMany c_reachMany (o.2))) res) := by
  refine zOfi (res := res) (rf := (fun (o : (Int32 × (Nat → Int32))) => o.1)) (Wf := (fun (o : (Int32 × (Nat → Int32))) => (wdX11_kept cy b b_now b_imaged b_valueUp b_valueDown b_real b_brief b_order b_waits b_floats b_same b_upOf b_downOf b_tape b_open b_made b_paper b_reachUp b_reachDown b_reachHow b_reachFirst b_reachSecond b_begins b_carried c_hasImage c_above c_below c_orderMany c_waitMany c_seed c_size c_openMany c_paperMany c_reachMany (o.2)))) (by decide +kernel) rfl (Nat.le_of_ble_eq_true rfl) ?_
  intro p e s m args below meth c A ls Q hx hb hml hts hown hP hK hD hA hS hl hret
  have hown : s.vm.findClass RX11 = some m.cls := hown
  have hl : lv_has ls 6 [(0, .ref b), (1, .int p1), (2, .int p2), (3, .int p3), (4, .int p4)] := hl
  refine lv_aload_n hx hb dX11_kept_0 rfl (lv_at hl 0 rfl) ?_
  refine lv_iload_n hx hb dX11_kept_1 rfl (lv_at hl 1 rfl) ?_
  refine lv_iload_n hx hb dX11_kept_2 rfl (lv_at hl 2 rfl) ?_
  refine lv_iload_n hx hb dX11_kept_3 rfl (lv_at hl 3 rfl) ?_
  obtain ⟨r4, hq4, h⟩ := zb1_s h
  refine zCi (r0 := r4) (w1 := (wdX11_found cy b b_now b_imaged b_valueUp b_valueDown b_real b_brief b_order b_waits b_floats b_same b_upOf b_downOf b_tape b_open b_made b_paper b_reachUp b_reachDown b_reachHow b_reachFirst b_reachSecond b_begins b_carried c_hasImage c_above c_below c_orderMany c_waitMany c_seed c_size c_openMany c_paperMany c_reachMany c_now)) (ws' := (wdX11_kept cy b b_now b_imaged b_valueUp b_valueDown b_real b_brief b_order b_waits b_floats b_same b_upOf b_downOf b_tape b_open b_made b_paper b_reachUp b_reachDown b_reachHow b_reachFirst b_reachSecond b_begins b_carried c_hasImage c_above c_below c_orderMany c_waitMany c_seed c_size c_openMany c_paperMany c_reachMany c_now)) (va_runV (As := [.int p1, .int p2, .int p3]) (rest := []) ⟨hx, hb, hml, hown, hts⟩ (mX11_found l D cy s.heap.size b b_now b_imaged b_valueUp b_valueDown b_real b_brief b_order b_waits b_floats b_same b_upOf b_downOf b_tape b_open b_made b_paper b_reachUp b_reachDown b_reachHow b_reachFirst b_reachSecond b_begins b_carried c_hasImage c_above c_below c_orderMany c_waitMany c_seed c_size c_openMany c_paperMany c_reachMany c_now p1 p2 p3 (r4) hq4) (cwV 3 hts gX11_kept_X11_found rfl rfl rfl ⟨rfl, cdX11_found⟩ ⟨Nat.le_of_ble_eq_true rfl, Nat.le_of_ble_eq_true rfl⟩) (zPV hK hP hD [0, 1] rfl rfl (q0 := 0) (ci := 11) rfl rfl rfl) rfl rfl hl.1 rfl (lv_room (Nat.le_of_ble_eq_true rfl)) dX11_kept_4 ⟨Nat.zero_le _, Nat.zero_le _⟩) hP hD hS hA [0, 1] [] [0, 1] rfl rfl rfl rfl (fun H locs hP hD hS => ?_)
  refine lv_istore (lv' := [(5, .int r4), (0, .ref b), (1, .int p1), (2, .int p2), (3, .int p3), (4, .int p4)]) hx hb dX11_kept_7 hl (Nat.le_of_ble_eq_true rfl) rfl (fun ls hl => ?_)
  refine lv_iload hx hb dX11_kept_9 (lv_at hl 0 rfl) ?_
  refine lv_if_lt (tgt := 17) hx hb dX11_kept_11 (by decide) (fun hc11 => ?_) (fun hc11 => ?_)
  · replace h := zi_t hc11 h
    refine lv_aload_n hx hb dX11_kept_17 rfl (lv_at hl 1 rfl) ?_
    refine va_get (D := D) (ci := 11) (v := .ref b_now) (C := RX11) (T := TX11) (N := 33) hx hb hts uX11_kept_X11 hown hK.1 hP 0 rfl rfl 0 (by decide) (hts (.fieldLink RX11 9 "WishedResistorModel" "now" "[I") (List.mem_of_getElem? (i := 1) rfl)) (fun _ h9 => h9) rfl dX11_kept_18 ?_
    refine lv_bipush (v := (8 : Int32)) hx hb dX11_kept_21 (by decide) ?_
    refine va_iald hx hb hK.1 hP 1 0 rfl rfl (show zin (8 : Int32) 261 from by decide) dX11_kept_23 ?_
    refine lv_bipush (v := (40 : Int32)) hx hb dX11_kept_24 (by decide) ?_
    refine lv_icmp_ne (tgt := 32) hx hb dX11_kept_26 (by decide) (fun hc26 => ?_) (fun hc26 => ?_)
    · replace h := zi_f hc26 h
      refine lv_aload_n hx hb dX11_kept_32 rfl (lv_at hl 1 rfl) ?_
      refine va_get (D := D) (ci := 11) (v := .ref b_now) (C := RX11) (T := TX11) (N := 33) hx hb hts uX11_kept_X11 hown hK.1 hP 0 rfl rfl 0 (by decide) (hts (.fieldLink RX11 9 "WishedResistorModel" "now" "[I") (List.mem_of_getElem? (i := 1) rfl)) (fun _ h9 => h9) rfl dX11_kept_33 ?_
      refine lv_bipush (v := (8 : Int32)) hx hb dX11_kept_36 (by decide) ?_
      refine va_iald hx hb hK.1 hP 1 0 rfl rfl (show zin (8 : Int32) 261 from by decide) dX11_kept_38 ?_
      refine lv_istore (lv' := [(5, .int (c_now ((8 : Int32)).toNatClampNeg)), (0, .ref b), (1, .int p1), (2, .int p2), (3, .int p3), (4, .int p4)]) hx hb dX11_kept_39 hl (Nat.le_of_ble_eq_true rfl) rfl (fun ls hl => ?_)
      refine lv_aload_n hx hb dX11_kept_41 rfl (lv_at hl 1 rfl) ?_
      refine va_get (D := D) (ci := 11) (v := .ref b_now) (C := RX11) (T := TX11) (N := 33) hx hb hts uX11_kept_X11 hown hK.1 hP 0 rfl rfl 0 (by decide) (hts (.fieldLink RX11 9 "WishedResistorModel" "now" "[I") (List.mem_of_getElem? (i := 1) rfl)) (fun _ h9 => h9) rfl dX11_kept_42 ?_
      refine lv_bipush (v := (9 : Int32)) hx hb dX11_kept_45 (by decide) ?_
      refine lv_iconst (v := (4 : Int32)) hx hb dX11_kept_47 (by decide) ?_
      refine lv_iload hx hb dX11_kept_48 (lv_at hl 0 rfl) ?_
      refine lv_imul hx hb dX11_kept_50 ?_
      refine lv_iadd hx hb dX11_kept_51 ?_
      refine lv_iload_n hx hb dX11_kept_52 rfl (lv_at hl 2 rfl) ?_
      obtain ⟨hi53, h⟩ := zg_s h
      refine va_iast hx hb hK.1 hP hD hS 1 0 rfl rfl hi53 dX11_kept_53 (fun H locs hP hD hS => ?_)
      have hP : va_P D vwCl (wdX11_kept cy b b_now b_imaged b_valueUp b_valueDown b_real b_brief b_order b_waits b_floats b_same b_upOf b_downOf b_tape b_open b_made b_paper b_reachUp b_reachDown b_reachHow b_reachFirst b_reachSecond b_begins b_carried c_hasImage c_above c_below c_orderMany c_waitMany c_seed c_size c_openMany c_paperMany c_reachMany (upd c_now (((9 : Int32) + ((4 : Int32) * (c_now ((8 : Int32)).toNatClampNeg)))).toNatClampNeg p1)) H := hP
      have hD : va_D A (wdX11_kept cy b b_now b_imaged b_valueUp b_valueDown b_real b_brief b_order b_waits b_floats b_same b_upOf b_downOf b_tape b_open b_made b_paper b_reachUp b_reachDown b_reachHow b_reachFirst b_reachSecond b_begins b_carried c_hasImage c_above c_below c_orderMany c_waitMany c_seed c_size c_openMany c_paperMany c_reachMany (upd c_now (((9 : Int32) + ((4 : Int32) * (c_now ((8 : Int32)).toNatClampNeg)))).toNatClampNeg p1)) := hD
      refine lv_aload_n hx hb dX11_kept_54 rfl (lv_at hl 1 rfl) ?_
      refine va_get (D := D) (ci := 11) (v := .ref b_now) (C := RX11) (T := TX11) (N := 33) hx hb hts uX11_kept_X11 hown hK.1 hP 0 rfl rfl 0 (by decide) (hts (.fieldLink RX11 9 "WishedResistorModel" "now" "[I") (List.mem_of_getElem? (i := 1) rfl)) (fun _ h9 => h9) rfl dX11_kept_55 ?_
      refine lv_bipush (v := (9 : Int32)) hx hb dX11_kept_58 (by decide) ?_
      refine lv_iconst (v := (4 : Int32)) hx hb dX11_kept_60 (by decide) ?_
      refine lv_iload hx hb dX11_kept_61 (lv_at hl 0 rfl) ?_
      refine lv_imul hx hb dX11_kept_63 ?_
      refine lv_iadd hx hb dX11_kept_64 ?_
      refine lv_iconst (v := (1 : Int32)) hx hb dX11_kept_65 (by decide) ?_
      refine lv_iadd hx hb dX11_kept_66 ?_
      refine lv_iload_n hx hb dX11_kept_67 rfl (lv_at hl 3 rfl) ?_
      obtain ⟨hi68, h⟩ := zg_s h
      refine va_iast hx hb hK.1 hP hD hS 1 0 rfl rfl hi68 dX11_kept_68 (fun H locs hP hD hS => ?_)
      have hP : va_P D vwCl (wdX11_kept cy b b_now b_imaged b_valueUp b_valueDown b_real b_brief b_order b_waits b_floats b_same b_upOf b_downOf b_tape b_open b_made b_paper b_reachUp b_reachDown b_reachHow b_reachFirst b_reachSecond b_begins b_carried c_hasImage c_above c_below c_orderMany c_waitMany c_seed c_size c_openMany c_paperMany c_reachMany (upd (upd c_now (((9 : Int32) + ((4 : Int32) * (c_now ((8 : Int32)).toNatClampNeg)))).toNatClampNeg p1) ((((9 : Int32) + ((4 : Int32) * (c_now ((8 : Int32)).toNatClampNeg))) + (1 : Int32))).toNatClampNeg p2)) H := hP
      have hD : va_D A (wdX11_kept cy b b_now b_imaged b_valueUp b_valueDown b_real b_brief b_order b_waits b_floats b_same b_upOf b_downOf b_tape b_open b_made b_paper b_reachUp b_reachDown b_reachHow b_reachFirst b_reachSecond b_begins b_carried c_hasImage c_above c_below c_orderMany c_waitMany c_seed c_size c_openMany c_paperMany c_reachMany (upd (upd c_now (((9 : Int32) + ((4 : Int32) * (c_now ((8 : Int32)).toNatClampNeg)))).toNatClampNeg p1) ((((9 : Int32) + ((4 : Int32) * (c_now ((8 : Int32)).toNatClampNeg))) + (1 : Int32))).toNatClampNeg p2)) := hD
      refine lv_aload_n hx hb dX11_kept_69 rfl (lv_at hl 1 rfl) ?_
      refine va_get (D := D) (ci := 11) (v := .ref b_now) (C := RX11) (T := TX11) (N := 33) hx hb hts uX11_kept_X11 hown hK.1 hP 0 rfl rfl 0 (by decide) (hts (.fieldLink RX11 9 "WishedResistorModel" "now" "[I") (List.mem_of_getElem? (i := 1) rfl)) (fun _ h9 => h9) rfl dX11_kept_70 ?_
      refine lv_bipush (v := (9 : Int32)) hx hb dX11_kept_73 (by decide) ?_
      refine lv_iconst (v := (4 : Int32)) hx hb dX11_kept_75 (by decide) ?_
      refine lv_iload hx hb dX11_kept_76 (lv_at hl 0 rfl) ?_
      refine lv_imul hx hb dX11_kept_78 ?_
      refine lv_iadd hx hb dX11_kept_79 ?_
      refine lv_iconst (v := (2 : Int32)) hx hb dX11_kept_80 (by decide) ?_
      refine lv_iadd hx hb dX11_kept_81 ?_
      refine lv_iload_n hx hb dX11_kept_82 rfl (lv_at hl 4 rfl) ?_
      obtain ⟨hi83, h⟩ := zg_s h
      refine va_iast hx hb hK.1 hP hD hS 1 0 rfl rfl hi83 dX11_kept_83 (fun H locs hP hD hS => ?_)
      have hP : va_P D vwCl (wdX11_kept cy b b_now b_imaged b_valueUp b_valueDown b_real b_brief b_order b_waits b_floats b_same b_upOf b_downOf b_tape b_open b_made b_paper b_reachUp b_reachDown b_reachHow b_reachFirst b_reachSecond b_begins b_carried c_hasImage c_above c_below c_orderMany c_waitMany c_seed c_size c_openMany c_paperMany c_reachMany (upd (upd (upd c_now (((9 : Int32) + ((4 : Int32) * (c_now ((8 : Int32)).toNatClampNeg)))).toNatClampNeg p1) ((((9 : Int32) + ((4 : Int32) * (c_now ((8 : Int32)).toNatClampNeg))) + (1 : Int32))).toNatClampNeg p2) ((((9 : Int32) + ((4 : Int32) * (c_now ((8 : Int32)).toNatClampNeg))) + (2 : Int32))).toNatClampNeg p3)) H := hP
      have hD : va_D A (wdX11_kept cy b b_now b_imaged b_valueUp b_valueDown b_real b_brief b_order b_waits b_floats b_same b_upOf b_downOf b_tape b_open b_made b_paper b_reachUp b_reachDown b_reachHow b_reachFirst b_reachSecond b_begins b_carried c_hasImage c_above c_below c_orderMany c_waitMany c_seed c_size c_openMany c_paperMany c_reachMany (upd (upd (upd c_now (((9 : Int32) + ((4 : Int32) * (c_now ((8 : Int32)).toNatClampNeg)))).toNatClampNeg p1) ((((9 : Int32) + ((4 : Int32) * (c_now ((8 : Int32)).toNatClampNeg))) + (1 : Int32))).toNatClampNeg p2) ((((9 : Int32) + ((4 : Int32) * (c_now ((8 : Int32)).toNatClampNeg))) + (2 : Int32))).toNatClampNeg p3)) := hD
      refine lv_aload_n hx hb dX11_kept_84 rfl (lv_at hl 1 rfl) ?_
      refine va_get (D := D) (ci := 11) (v := .ref b_now) (C := RX11) (T := TX11) (N := 33) hx hb hts uX11_kept_X11 hown hK.1 hP 0 rfl rfl 0 (by decide) (hts (.fieldLink RX11 9 "WishedResistorModel" "now" "[I") (List.mem_of_getElem? (i := 1) rfl)) (fun _ h9 => h9) rfl dX11_kept_85 ?_
      refine lv_bipush (v := (9 : Int32)) hx hb dX11_kept_88 (by decide) ?_
      refine lv_iconst (v := (4 : Int32)) hx hb dX11_kept_90 (by decide) ?_
      refine lv_iload hx hb dX11_kept_91 (lv_at hl 0 rfl) ?_
      refine lv_imul hx hb dX11_kept_93 ?_
      refine lv_iadd hx hb dX11_kept_94 ?_
      refine lv_iconst (v := (3 : Int32)) hx hb dX11_kept_95 (by decide) ?_
      refine lv_iadd hx hb dX11_kept_96 ?_
      refine lv_iload hx hb dX11_kept_97 (lv_at hl 5 rfl) ?_
      obtain ⟨hi99, h⟩ := zg_s h
      refine va_iast hx hb hK.1 hP hD hS 1 0 rfl rfl hi99 dX11_kept_99 (fun H locs hP hD hS => ?_)
      have hP : va_P D vwCl (wdX11_kept cy b b_now b_imaged b_valueUp b_valueDown b_real b_brief b_order b_waits b_floats b_same b_upOf b_downOf b_tape b_open b_made b_paper b_reachUp b_reachDown b_reachHow b_reachFirst b_reachSecond b_begins b_carried c_hasImage c_above c_below c_orderMany c_waitMany c_seed c_size c_openMany c_paperMany c_reachMany (upd (upd (upd (upd c_now (((9 : Int32) + ((4 : Int32) * (c_now ((8 : Int32)).toNatClampNeg)))).toNatClampNeg p1) ((((9 : Int32) + ((4 : Int32) * (c_now ((8 : Int32)).toNatClampNeg))) + (1 : Int32))).toNatClampNeg p2) ((((9 : Int32) + ((4 : Int32) * (c_now ((8 : Int32)).toNatClampNeg))) + (2 : Int32))).toNatClampNeg p3) ((((9 : Int32) + ((4 : Int32) * (c_now ((8 : Int32)).toNatClampNeg))) + (3 : Int32))).toNatClampNeg p4)) H := hP
      have hD : va_D A (wdX11_kept cy b b_now b_imaged b_valueUp b_valueDown b_real b_brief b_order b_waits b_floats b_same b_upOf b_downOf b_tape b_open b_made b_paper b_reachUp b_reachDown b_reachHow b_reachFirst b_reachSecond b_begins b_carried c_hasImage c_above c_below c_orderMany c_waitMany c_seed c_size c_openMany c_paperMany c_reachMany (upd (upd (upd (upd c_now (((9 : Int32) + ((4 : Int32) * (c_now ((8 : Int32)).toNatClampNeg)))).toNatClampNeg p1) ((((9 : Int32) + ((4 : Int32) * (c_now ((8 : Int32)).toNatClampNeg))) + (1 : Int32))).toNatClampNeg p2) ((((9 : Int32) + ((4 : Int32) * (c_now ((8 : Int32)).toNatClampNeg))) + (2 : Int32))).toNatClampNeg p3) ((((9 : Int32) + ((4 : Int32) * (c_now ((8 : Int32)).toNatClampNeg))) + (3 : Int32))).toNatClampNeg p4)) := hD
      refine lv_aload_n hx hb dX11_kept_100 rfl (lv_at hl 1 rfl) ?_
      refine va_get (D := D) (ci := 11) (v := .ref b_now) (C := RX11) (T := TX11) (N := 33) hx hb hts uX11_kept_X11 hown hK.1 hP 0 rfl rfl 0 (by decide) (hts (.fieldLink RX11 9 "WishedResistorModel" "now" "[I") (List.mem_of_getElem? (i := 1) rfl)) (fun _ h9 => h9) rfl dX11_kept_101 ?_
      refine lv_bipush (v := (8 : Int32)) hx hb dX11_kept_104 (by decide) ?_
      refine lv_dup2_11 hx hb dX11_kept_106 rfl rfl ?_
      refine va_iald hx hb hK.1 hP 1 0 rfl rfl (show zin (8 : Int32) 261 from by decide) dX11_kept_107 ?_
      refine lv_iconst (v := (1 : Int32)) hx hb dX11_kept_108 (by decide) ?_
      refine lv_iadd hx hb dX11_kept_109 ?_
      refine va_iast hx hb hK.1 hP hD hS 1 0 rfl rfl (show zin (8 : Int32) 261 from by decide) dX11_kept_110 (fun H locs hP hD hS => ?_)
      have hP : va_P D vwCl (wdX11_kept cy b b_now b_imaged b_valueUp b_valueDown b_real b_brief b_order b_waits b_floats b_same b_upOf b_downOf b_tape b_open b_made b_paper b_reachUp b_reachDown b_reachHow b_reachFirst b_reachSecond b_begins b_carried c_hasImage c_above c_below c_orderMany c_waitMany c_seed c_size c_openMany c_paperMany c_reachMany (upd (upd (upd (upd (upd c_now (((9 : Int32) + ((4 : Int32) * (c_now ((8 : Int32)).toNatClampNeg)))).toNatClampNeg p1) ((((9 : Int32) + ((4 : Int32) * (c_now ((8 : Int32)).toNatClampNeg))) + (1 : Int32))).toNatClampNeg p2) ((((9 : Int32) + ((4 : Int32) * (c_now ((8 : Int32)).toNatClampNeg))) + (2 : Int32))).toNatClampNeg p3) ((((9 : Int32) + ((4 : Int32) * (c_now ((8 : Int32)).toNatClampNeg))) + (3 : Int32))).toNatClampNeg p4) ((8 : Int32)).toNatClampNeg (((upd (upd (upd (upd c_now (((9 : Int32) + ((4 : Int32) * (c_now ((8 : Int32)).toNatClampNeg)))).toNatClampNeg p1) ((((9 : Int32) + ((4 : Int32) * (c_now ((8 : Int32)).toNatClampNeg))) + (1 : Int32))).toNatClampNeg p2) ((((9 : Int32) + ((4 : Int32) * (c_now ((8 : Int32)).toNatClampNeg))) + (2 : Int32))).toNatClampNeg p3) ((((9 : Int32) + ((4 : Int32) * (c_now ((8 : Int32)).toNatClampNeg))) + (3 : Int32))).toNatClampNeg p4) ((8 : Int32)).toNatClampNeg) + (1 : Int32)))) H := hP
      have hD : va_D A (wdX11_kept cy b b_now b_imaged b_valueUp b_valueDown b_real b_brief b_order b_waits b_floats b_same b_upOf b_downOf b_tape b_open b_made b_paper b_reachUp b_reachDown b_reachHow b_reachFirst b_reachSecond b_begins b_carried c_hasImage c_above c_below c_orderMany c_waitMany c_seed c_size c_openMany c_paperMany c_reachMany (upd (upd (upd (upd (upd c_now (((9 : Int32) + ((4 : Int32) * (c_now ((8 : Int32)).toNatClampNeg)))).toNatClampNeg p1) ((((9 : Int32) + ((4 : Int32) * (c_now ((8 : Int32)).toNatClampNeg))) + (1 : Int32))).toNatClampNeg p2) ((((9 : Int32) + ((4 : Int32) * (c_now ((8 : Int32)).toNatClampNeg))) + (2 : Int32))).toNatClampNeg p3) ((((9 : Int32) + ((4 : Int32) * (c_now ((8 : Int32)).toNatClampNeg))) + (3 : Int32))).toNatClampNeg p4) ((8 : Int32)).toNatClampNeg (((upd (upd (upd (upd c_now (((9 : Int32) + ((4 : Int32) * (c_now ((8 : Int32)).toNatClampNeg)))).toNatClampNeg p1) ((((9 : Int32) + ((4 : Int32) * (c_now ((8 : Int32)).toNatClampNeg))) + (1 : Int32))).toNatClampNeg p2) ((((9 : Int32) + ((4 : Int32) * (c_now ((8 : Int32)).toNatClampNeg))) + (2 : Int32))).toNatClampNeg p3) ((((9 : Int32) + ((4 : Int32) * (c_now ((8 : Int32)).toNatClampNeg))) + (3 : Int32))).toNatClampNeg p4) ((8 : Int32)).toNatClampNeg) + (1 : Int32)))) := hD
      refine lv_iload hx hb dX11_kept_111 (lv_at hl 0 rfl) ?_
      exact hret (o := ((c_now ((8 : Int32)).toNatClampNeg), (upd (upd (upd (upd (upd c_now (((9 : Int32) + ((4 : Int32) * (c_now ((8 : Int32)).toNatClampNeg)))).toNatClampNeg p1) ((((9 : Int32) + ((4 : Int32) * (c_now ((8 : Int32)).toNatClampNeg))) + (1 : Int32))).toNatClampNeg p2) ((((9 : Int32) + ((4 : Int32) * (c_now ((8 : Int32)).toNatClampNeg))) + (2 : Int32))).toNatClampNeg p3) ((((9 : Int32) + ((4 : Int32) * (c_now ((8 : Int32)).toNatClampNeg))) + (3 : Int32))).toNatClampNeg p4) ((8 : Int32)).toNatClampNeg (((upd (upd (upd (upd c_now (((9 : Int32) + ((4 : Int32) * (c_now ((8 : Int32)).toNatClampNeg)))).toNatClampNeg p1) ((((9 : Int32) + ((4 : Int32) * (c_now ((8 : Int32)).toNatClampNeg))) + (1 : Int32))).toNatClampNeg p2) ((((9 : Int32) + ((4 : Int32) * (c_now ((8 : Int32)).toNatClampNeg))) + (2 : Int32))).toNatClampNeg p3) ((((9 : Int32) + ((4 : Int32) * (c_now ((8 : Int32)).toNatClampNeg))) + (3 : Int32))).toNatClampNeg p4) ((8 : Int32)).toNatClampNeg) + (1 : Int32))))) h hP hD hS dX11_kept_113
    · replace h := zi_t hc26 h
      refine lv_bipush (v := (-3 : Int32)) hx hb dX11_kept_29 (by decide) ?_
      exact hret (o := ((-3 : Int32), c_now)) h hP hD hS dX11_kept_31
  · replace h := zi_f hc11 h
    refine lv_iload hx hb dX11_kept_14 (lv_at hl 0 rfl) ?_
    exact hret (o := (r4, c_now)) h hP hD hS dX11_kept_16

theorem uX11_sort_X11 : ∀ w ∈ u_ws RX11 TX11 33, w ∈ wsX11_sort := fun w h => (List.mem_cons_of_mem _ (List.mem_append_right _ h))
abbrev wdX11_sort (cy : Nat → ClassId) (b b_now b_imaged b_valueUp b_valueDown b_real b_brief b_order b_waits b_floats b_same b_upOf b_downOf b_tape b_open b_made b_paper b_reachUp b_reachDown b_reachHow b_reachFirst b_reachSecond b_begins b_carried : Nat) (c_hasImage : Int32) (c_above c_below : Int64) (c_orderMany c_waitMany c_seed c_size c_openMany c_paperMany c_reachMany : Int32) (c_now : Nat → Int32) : va_W := [(b, .inr (11, [.ref b_now, .ref b_imaged, .int c_hasImage, .long c_above, .long c_below, .ref b_valueUp, .ref b_valueDown, .ref b_real, .ref b_brief, .ref b_order, .int c_orderMany, .ref b_waits, .int c_waitMany, .ref b_floats, .int c_seed, .ref b_same, .ref b_upOf, .ref b_downOf, .ref b_tape, .int c_size, .ref b_open, .int c_openMany, .ref b_made, .ref b_paper, .int c_paperMany, .ref b_reachUp, .ref b_reachDown, .ref b_reachHow, .ref b_reachFirst, .ref b_reachSecond, .ref b_begins, .int c_reachMany, .ref b_carried])), (b_now, .inl (cy 0, 261, .inl c_now))]
abbrev rmX11_sort : Room := { frames := 2, cells := 0, slots := 0, locals := 45 }
theorem cdX11_sort : (yX11_sort).cls ≠ "java/lang/invoke/MethodHandle" ∧ (yX11_sort).cls ≠ "java/lang/invoke/VarHandle" ∧ (parseMethodDescriptor (yX11_sort).desc).map (fun d => d.parameters.length) = some 3 := by decide +kernel
def fX11_sort_J50 (c_now : Nat → Int32) (p1 p2 p3 : Int32)  : Option (Int32 × (Nat → Int32)) :=
  zg (zin ((0 : Int32) + p1) 261) (zg (zin ((0 : Int32) + p1) 261) (zg (zin ((4 : Int32) + p1) 261) (some ((c_now (((0 : Int32) + p1)).toNatClampNeg), (upd (upd c_now (((0 : Int32) + p1)).toNatClampNeg p2) (((4 : Int32) + p1)).toNatClampNeg p3)))))
def fX11_sort (p1 p2 p3 : Int32) (c_now : Nat → Int32) : Option (Int32 × (Nat → Int32)) :=
  zb1 (fX11_isSort p1) (fun r1 => if r1 = 0 then (some ((-1 : Int32), c_now)) else (zb1 (fX11_in ((p2).toInt64) (0 : Int64) (99 : Int64)) (fun r13 => if r13 = 0 then (some ((-1 : Int32), c_now)) else (zb1 (fX11_in ((p3).toInt64) (0 : Int64) (50 : Int64)) (fun r25 => if r25 = 0 then (some ((-1 : Int32), c_now)) else (if p2 = 0 then (zb1 (fX11_found (0 : Int32) p1 (0 : Int32) c_now) (fun r41 => if r41 < 0 then (fX11_sort_J50 c_now p1 p2 p3) else (some ((-5 : Int32), c_now)))) else (fX11_sort_J50 c_now p1 p2 p3)))))))
set_option maxHeartbeats 4000000 in
set_option maxRecDepth 100000 in
theorem mX11_sort (l : Launch) (D : va_G) (cy : Nat → ClassId) (sz : Nat) (b b_now b_imaged b_valueUp b_valueDown b_real b_brief b_order b_waits b_floats b_same b_upOf b_downOf b_tape b_open b_made b_paper b_reachUp b_reachDown b_reachHow b_reachFirst b_reachSecond b_begins b_carried : Nat) (c_hasImage : Int32) (c_above c_below : Int64) (c_orderMany c_waitMany c_seed c_size c_openMany c_paperMany c_reachMany : Int32) (c_now : Nat → Int32) (p1 p2 p3 : Int32) (res : (Int32 × (Nat → Int32))) (h : fX11_sort p1 p2 p3 c_now = some res) : zMi l yX11_sort wsX11_sort rmX11_sort [.ref b, .int p1, .int p2, .int p3] D cy (wdX11_sort cy b b_now b_imaged b_valueUp b_valueDown b_real b_brief b_order b_waits b_floats b_same b_upOf b_downOf b_tape b_open b_made b_paper b_reachUp b_reachDown b_reachHow b_reachFirst b_reachSecond b_begins b_carried c_hasImage c_above c_below c_orderMany c_waitMany c_seed c_size c_openMany c_paperMany c_reachMany c_now) sz ((fun (o : (Int32 × (Nat → Int32))) => o.1) res) ((fun (o : (Int32 × (Nat → Int32))) => (wdX11_sort cy b b_now b_imaged b_valueUp b_valueDown b_real b_brief b_order b_waits b_floats b_same b_upOf b_downOf b_tape b_open b_made b_paper b_reachUp b_reachDown b_reachHow b_reachFirst b_reachSecond b_begins b_carried c_hasImage c_above c_below c_orderMany c_waitMany c_seed c_size c_openMany c_paperMany c_reachMany (o.2))) res) := by
  refine zOfi (res := res) (rf := (fun (o : (Int32 × (Nat → Int32))) => o.1)) (Wf := (fun (o : (Int32 × (Nat → Int32))) => (wdX11_sort cy b b_now b_imaged b_valueUp b_valueDown b_real b_brief b_order b_waits b_floats b_same b_upOf b_downOf b_tape b_open b_made b_paper b_reachUp b_reachDown b_reachHow b_reachFirst b_reachSecond b_begins b_carried c_hasImage c_above c_below c_orderMany c_waitMany c_seed c_size c_openMany c_paperMany c_reachMany (o.2)))) (by decide +kernel) rfl (Nat.le_of_ble_eq_true rfl) ?_
  intro p e s m args below meth c A ls Q hx hb hml hts hown hP hK hD hA hS hl hret
  have hown : s.vm.findClass RX11 = some m.cls := hown
  have hl : lv_has ls 5 [(0, .ref b), (1, .int p1), (2, .int p2), (3, .int p3)] := hl
  refine lv_iload_n hx hb dX11_sort_0 rfl (lv_at hl 1 rfl) ?_
  obtain ⟨r1, hq1, h⟩ := zb1_s h
  refine zCz0 (r0 := r1) (va_runS (As := [.int p1]) (rest := []) ⟨hx, hb, hml, hown, hts⟩ (mX11_isSort l D cy s.heap.size p1 (r1) hq1) (va_cwS 1 hts gX11_sort_X11_isSort rfl rfl rfl cdX11_isSort ⟨Nat.le_of_ble_eq_true rfl, Nat.le_of_ble_eq_true rfl⟩) (zPS hK hP hD [] rfl rfl) rfl rfl hl.1 rfl (lv_room (Nat.le_of_ble_eq_true rfl)) dX11_sort_1 ⟨Nat.zero_le _, Nat.zero_le _⟩) hP hD hS hA (fun H locs hn1 hP hD hS => ?_)
  refine lv_if_eq (tgt := 31) hx hb dX11_sort_4 (by decide) (fun hc4 => ?_) (fun hc4 => ?_)
  · replace h := zi_t hc4 h
    refine lv_iconst (v := (-1 : Int32)) hx hb dX11_sort_31 (by decide) ?_
    exact hret (o := ((-1 : Int32), c_now)) h hP hD hS dX11_sort_32
  · replace h := zi_f hc4 h
    refine lv_iload_n hx hb dX11_sort_7 rfl (lv_at hl 2 rfl) ?_
    refine lv_i2l hx hb dX11_sort_8 rfl ?_
    refine lv_lconst (v := (0 : Int64)) hx hb dX11_sort_9 (by decide) ?_
    refine lv_ldc2 hx hb hown (hts (.constantLong RX11 108 (99)) (List.mem_of_getElem? (i := 1) rfl)) dX11_sort_10 ?_
    obtain ⟨r13, hq13, h⟩ := zb1_s h
    refine zCz0 (r0 := r13) (va_runS (As := [.long ((p2).toInt64), .long (0 : Int64), .long (99 : Int64)]) (rest := []) ⟨hx, hb, hml, hown, hts⟩ (mX11_in l D cy H.size ((p2).toInt64) (0 : Int64) (99 : Int64) (r13) hq13) (va_cwS 3 hts gX11_sort_X11_in rfl rfl rfl cdX11_in ⟨Nat.le_of_ble_eq_true rfl, Nat.le_of_ble_eq_true rfl⟩) (zPS hK hP hD [] rfl rfl) rfl rfl hl.1 rfl (lv_room (Nat.le_of_ble_eq_true rfl)) dX11_sort_13 ⟨Nat.zero_le _, Nat.zero_le _⟩) hP hD hS hA (fun H locs hn13 hP hD hS => ?_)
    refine lv_if_eq (tgt := 31) hx hb dX11_sort_16 (by decide) (fun hc16 => ?_) (fun hc16 => ?_)
    · replace h := zi_t hc16 h
      refine lv_iconst (v := (-1 : Int32)) hx hb dX11_sort_31 (by decide) ?_
      exact hret (o := ((-1 : Int32), c_now)) h hP hD hS dX11_sort_32
    · replace h := zi_f hc16 h
      refine lv_iload_n hx hb dX11_sort_19 rfl (lv_at hl 3 rfl) ?_
      refine lv_i2l hx hb dX11_sort_20 rfl ?_
      refine lv_lconst (v := (0 : Int64)) hx hb dX11_sort_21 (by decide) ?_
      refine lv_ldc2 hx hb hown (hts (.constantLong RX11 110 (50)) (List.mem_of_getElem? (i := 2) rfl)) dX11_sort_22 ?_
      obtain ⟨r25, hq25, h⟩ := zb1_s h
      refine zCz0 (r0 := r25) (va_runS (As := [.long ((p3).toInt64), .long (0 : Int64), .long (50 : Int64)]) (rest := []) ⟨hx, hb, hml, hown, hts⟩ (mX11_in l D cy H.size ((p3).toInt64) (0 : Int64) (50 : Int64) (r25) hq25) (va_cwS 3 hts gX11_sort_X11_in rfl rfl rfl cdX11_in ⟨Nat.le_of_ble_eq_true rfl, Nat.le_of_ble_eq_true rfl⟩) (zPS hK hP hD [] rfl rfl) rfl rfl hl.1 rfl (lv_room (Nat.le_of_ble_eq_true rfl)) dX11_sort_25 ⟨Nat.zero_le _, Nat.zero_le _⟩) hP hD hS hA (fun H locs hn25 hP hD hS => ?_)
      refine lv_if_ne (tgt := 33) hx hb dX11_sort_28 (by decide) (fun hc28 => ?_) (fun hc28 => ?_)
      · replace h := zi_f hc28 h
        refine lv_iload_n hx hb dX11_sort_33 rfl (lv_at hl 2 rfl) ?_
        have hJ50 : ∀  (H : Heap) (locs : List Loc) (ls : Array Slot), va_P D vwCl (wdX11_sort cy b b_now b_imaged b_valueUp b_valueDown b_real b_brief b_order b_waits b_floats b_same b_upOf b_downOf b_tape b_open b_made b_paper b_reachUp b_reachDown b_reachHow b_reachFirst b_reachSecond b_begins b_carried c_hasImage c_above c_below c_orderMany c_waitMany c_seed c_size c_openMany c_paperMany c_reachMany c_now) H → va_D A (wdX11_sort cy b b_now b_imaged b_valueUp b_valueDown b_real b_brief b_order b_waits b_floats b_same b_upOf b_downOf b_tape b_open b_made b_paper b_reachUp b_reachDown b_reachHow b_reachFirst b_reachSecond b_begins b_carried c_hasImage c_above c_below c_orderMany c_waitMany c_seed c_size c_openMany c_paperMany c_reachMany c_now) → va_S A s.heap H locs → lv_has ls 5 [(0, .ref b), (1, .int p1), (2, .int p2), (3, .int p3)] → fX11_sort_J50 c_now p1 p2 p3 = some res → W p l e rmX11_sort s m args below meth c H locs 0 0 Q (F0 m 50 ls []) := by
          intro  H locs ls hP hD hS hl h
          refine lv_aload_n hx hb dX11_sort_50 rfl (lv_at hl 0 rfl) ?_
          refine va_get (D := D) (ci := 11) (v := .ref b_now) (C := RX11) (T := TX11) (N := 33) hx hb hts uX11_sort_X11 hown hK.1 hP 0 rfl rfl 0 (by decide) (hts (.fieldLink RX11 9 "WishedResistorModel" "now" "[I") (List.mem_of_getElem? (i := 3) rfl)) (fun _ h9 => h9) rfl dX11_sort_51 ?_
          refine lv_iconst (v := (0 : Int32)) hx hb dX11_sort_54 (by decide) ?_
          refine lv_iload_n hx hb dX11_sort_55 rfl (lv_at hl 1 rfl) ?_
          refine lv_iadd hx hb dX11_sort_56 ?_
          obtain ⟨hi57, h⟩ := zg_s h
          refine va_iald hx hb hK.1 hP 1 0 rfl rfl hi57 dX11_sort_57 ?_
          refine lv_istore (lv' := [(4, .int (c_now (((0 : Int32) + p1)).toNatClampNeg)), (0, .ref b), (1, .int p1), (2, .int p2), (3, .int p3)]) hx hb dX11_sort_58 hl (Nat.le_of_ble_eq_true rfl) rfl (fun ls hl => ?_)
          refine lv_aload_n hx hb dX11_sort_60 rfl (lv_at hl 1 rfl) ?_
          refine va_get (D := D) (ci := 11) (v := .ref b_now) (C := RX11) (T := TX11) (N := 33) hx hb hts uX11_sort_X11 hown hK.1 hP 0 rfl rfl 0 (by decide) (hts (.fieldLink RX11 9 "WishedResistorModel" "now" "[I") (List.mem_of_getElem? (i := 3) rfl)) (fun _ h9 => h9) rfl dX11_sort_61 ?_
          refine lv_iconst (v := (0 : Int32)) hx hb dX11_sort_64 (by decide) ?_
          refine lv_iload_n hx hb dX11_sort_65 rfl (lv_at hl 2 rfl) ?_
          refine lv_iadd hx hb dX11_sort_66 ?_
          refine lv_iload_n hx hb dX11_sort_67 rfl (lv_at hl 3 rfl) ?_
          obtain ⟨hi68, h⟩ := zg_s h
          refine va_iast hx hb hK.1 hP hD hS 1 0 rfl rfl hi68 dX11_sort_68 (fun H locs hP hD hS => ?_)
          have hP : va_P D vwCl (wdX11_sort cy b b_now b_imaged b_valueUp b_valueDown b_real b_brief b_order b_waits b_floats b_same b_upOf b_downOf b_tape b_open b_made b_paper b_reachUp b_reachDown b_reachHow b_reachFirst b_reachSecond b_begins b_carried c_hasImage c_above c_below c_orderMany c_waitMany c_seed c_size c_openMany c_paperMany c_reachMany (upd c_now (((0 : Int32) + p1)).toNatClampNeg p2)) H := hP
          have hD : va_D A (wdX11_sort cy b b_now b_imaged b_valueUp b_valueDown b_real b_brief b_order b_waits b_floats b_same b_upOf b_downOf b_tape b_open b_made b_paper b_reachUp b_reachDown b_reachHow b_reachFirst b_reachSecond b_begins b_carried c_hasImage c_above c_below c_orderMany c_waitMany c_seed c_size c_openMany c_paperMany c_reachMany (upd c_now (((0 : Int32) + p1)).toNatClampNeg p2)) := hD
          refine lv_aload_n hx hb dX11_sort_69 rfl (lv_at hl 1 rfl) ?_
          refine va_get (D := D) (ci := 11) (v := .ref b_now) (C := RX11) (T := TX11) (N := 33) hx hb hts uX11_sort_X11 hown hK.1 hP 0 rfl rfl 0 (by decide) (hts (.fieldLink RX11 9 "WishedResistorModel" "now" "[I") (List.mem_of_getElem? (i := 3) rfl)) (fun _ h9 => h9) rfl dX11_sort_70 ?_
          refine lv_iconst (v := (4 : Int32)) hx hb dX11_sort_73 (by decide) ?_
          refine lv_iload_n hx hb dX11_sort_74 rfl (lv_at hl 2 rfl) ?_
          refine lv_iadd hx hb dX11_sort_75 ?_
          refine lv_iload_n hx hb dX11_sort_76 rfl (lv_at hl 4 rfl) ?_
          obtain ⟨hi77, h⟩ := zg_s h
          refine va_iast hx hb hK.1 hP hD hS 1 0 rfl rfl hi77 dX11_sort_77 (fun H locs hP hD hS => ?_)
          have hP : va_P D vwCl (wdX11_sort cy b b_now b_imaged b_valueUp b_valueDown b_real b_brief b_order b_waits b_floats b_same b_upOf b_downOf b_tape b_open b_made b_paper b_reachUp b_reachDown b_reachHow b_reachFirst b_reachSecond b_begins b_carried c_hasImage c_above c_below c_orderMany c_waitMany c_seed c_size c_openMany c_paperMany c_reachMany (upd (upd c_now (((0 : Int32) + p1)).toNatClampNeg p2) (((4 : Int32) + p1)).toNatClampNeg p3)) H := hP
          have hD : va_D A (wdX11_sort cy b b_now b_imaged b_valueUp b_valueDown b_real b_brief b_order b_waits b_floats b_same b_upOf b_downOf b_tape b_open b_made b_paper b_reachUp b_reachDown b_reachHow b_reachFirst b_reachSecond b_begins b_carried c_hasImage c_above c_below c_orderMany c_waitMany c_seed c_size c_openMany c_paperMany c_reachMany (upd (upd c_now (((0 : Int32) + p1)).toNatClampNeg p2) (((4 : Int32) + p1)).toNatClampNeg p3)) := hD
          refine lv_iload hx hb dX11_sort_78 (lv_at hl 0 rfl) ?_
          exact hret (o := ((c_now (((0 : Int32) + p1)).toNatClampNeg), (upd (upd c_now (((0 : Int32) + p1)).toNatClampNeg p2) (((4 : Int32) + p1)).toNatClampNeg p3))) h hP hD hS dX11_sort_80
        refine lv_if_ne (tgt := 50) hx hb dX11_sort_34 (by decide) (fun hc34 => ?_) (fun hc34 => ?_)
        · replace h := zi_f hc34 h
          exact hJ50 _ _ _ hP hD hS (lv_sub hl [0, 1, 2, 3] rfl) h
        · replace h := zi_t hc34 h
          refine lv_aload_n hx hb dX11_sort_37 rfl (lv_at hl 0 rfl) ?_
          refine lv_iconst (v := (0 : Int32)) hx hb dX11_sort_38 (by decide) ?_
          refine lv_iload_n hx hb dX11_sort_39 rfl (lv_at hl 1 rfl) ?_
          refine lv_iconst (v := (0 : Int32)) hx hb dX11_sort_40 (by decide) ?_
          obtain ⟨r41, hq41, h⟩ := zb1_s h
          refine zCi (r0 := r41) (w1 := (wdX11_found cy b b_now b_imaged b_valueUp b_valueDown b_real b_brief b_order b_waits b_floats b_same b_upOf b_downOf b_tape b_open b_made b_paper b_reachUp b_reachDown b_reachHow b_reachFirst b_reachSecond b_begins b_carried c_hasImage c_above c_below c_orderMany c_waitMany c_seed c_size c_openMany c_paperMany c_reachMany c_now)) (ws' := (wdX11_sort cy b b_now b_imaged b_valueUp b_valueDown b_real b_brief b_order b_waits b_floats b_same b_upOf b_downOf b_tape b_open b_made b_paper b_reachUp b_reachDown b_reachHow b_reachFirst b_reachSecond b_begins b_carried c_hasImage c_above c_below c_orderMany c_waitMany c_seed c_size c_openMany c_paperMany c_reachMany c_now)) (va_runV (As := [.int (0 : Int32), .int p1, .int (0 : Int32)]) (rest := []) ⟨hx, hb, hml, hown, hts⟩ (mX11_found l D cy H.size b b_now b_imaged b_valueUp b_valueDown b_real b_brief b_order b_waits b_floats b_same b_upOf b_downOf b_tape b_open b_made b_paper b_reachUp b_reachDown b_reachHow b_reachFirst b_reachSecond b_begins b_carried c_hasImage c_above c_below c_orderMany c_waitMany c_seed c_size c_openMany c_paperMany c_reachMany c_now (0 : Int32) p1 (0 : Int32) (r41) hq41) (cwV 3 hts gX11_sort_X11_found rfl rfl rfl ⟨rfl, cdX11_found⟩ ⟨Nat.le_of_ble_eq_true rfl, Nat.le_of_ble_eq_true rfl⟩) (zPV hK hP hD [0, 1] rfl rfl (q0 := 0) (ci := 11) rfl rfl rfl) rfl rfl hl.1 rfl (lv_room (Nat.le_of_ble_eq_true rfl)) dX11_sort_41 ⟨Nat.zero_le _, Nat.zero_le _⟩) hP hD hS hA [0, 1] [] [0, 1] rfl rfl rfl rfl (fun H locs hP hD hS => ?_)
          refine lv_if_lt (tgt := 50) hx hb dX11_sort_44 (by decide) (fun hc44 => ?_) (fun hc44 => ?_)
          · replace h := zi_t hc44 h
            exact hJ50 _ _ _ hP hD hS (lv_sub hl [0, 1, 2, 3] rfl) h
          · replace h := zi_f hc44 h
            refine lv_bipush (v := (-5 : Int32)) hx hb dX11_sort_47 (by decide) ?_
            exact hret (o := ((-5 : Int32), c_now)) h hP hD hS dX11_sort_49
      · replace h := zi_t hc28 h
        refine lv_iconst (v := (-1 : Int32)) hx hb dX11_sort_31 (by decide) ?_
        exact hret (o := ((-1 : Int32), c_now)) h hP hD hS dX11_sort_32

theorem uX11_ofSort_X11 : ∀ w ∈ u_ws RX11 TX11 33, w ∈ wsX11_ofSort := fun w h => (List.mem_cons_of_mem _ (List.mem_append_right _ h))
abbrev wdX11_ofSort (cy : Nat → ClassId) (b b_now b_imaged b_valueUp b_valueDown b_real b_brief b_order b_waits b_floats b_same b_upOf b_downOf b_tape b_open b_made b_paper b_reachUp b_reachDown b_reachHow b_reachFirst b_reachSecond b_begins b_carried : Nat) (c_hasImage : Int32) (c_above c_below : Int64) (c_orderMany c_waitMany c_seed c_size c_openMany c_paperMany c_reachMany : Int32) (c_now : Nat → Int32) : va_W := [(b, .inr (11, [.ref b_now, .ref b_imaged, .int c_hasImage, .long c_above, .long c_below, .ref b_valueUp, .ref b_valueDown, .ref b_real, .ref b_brief, .ref b_order, .int c_orderMany, .ref b_waits, .int c_waitMany, .ref b_floats, .int c_seed, .ref b_same, .ref b_upOf, .ref b_downOf, .ref b_tape, .int c_size, .ref b_open, .int c_openMany, .ref b_made, .ref b_paper, .int c_paperMany, .ref b_reachUp, .ref b_reachDown, .ref b_reachHow, .ref b_reachFirst, .ref b_reachSecond, .ref b_begins, .int c_reachMany, .ref b_carried])), (b_now, .inl (cy 0, 261, .inl c_now))]
abbrev rmX11_ofSort : Room := { frames := 2, cells := 0, slots := 0, locals := 45 }
theorem cdX11_ofSort : (yX11_ofSort).cls ≠ "java/lang/invoke/MethodHandle" ∧ (yX11_ofSort).cls ≠ "java/lang/invoke/VarHandle" ∧ (parseMethodDescriptor (yX11_ofSort).desc).map (fun d => d.parameters.length) = some 2 := by decide +kernel
def fX11_ofSort (p1 p2 : Int32) (c_now : Nat → Int32) : Option (Int32) :=
  zb1 (fX11_isSort p1) (fun r1 => if r1 = 0 then (some ((-1 : Int32))) else (zb1 (fX11_in ((p2).toInt64) (0 : Int64) (2 : Int64)) (fun r13 => if r13 = 0 then (some ((-1 : Int32))) else (if p2 = 0 then (zg (zin ((0 : Int32) + p1) 261) (some ((c_now (((0 : Int32) + p1)).toNatClampNeg)))) else (if p2 = (1 : Int32) then (zg (zin ((4 : Int32) + p1) 261) (some ((c_now (((4 : Int32) + p1)).toNatClampNeg)))) else (zb1 (fX11_found (0 : Int32) p1 (0 : Int32) c_now) (fun r56 => if r56 < 0 then (some ((0 : Int32))) else (some ((1 : Int32))))))))))
set_option maxHeartbeats 4000000 in
set_option maxRecDepth 100000 in
theorem mX11_ofSort (l : Launch) (D : va_G) (cy : Nat → ClassId) (sz : Nat) (b b_now b_imaged b_valueUp b_valueDown b_real b_brief b_order b_waits b_floats b_same b_upOf b_downOf b_tape b_open b_made b_paper b_reachUp b_reachDown b_reachHow b_reachFirst b_reachSecond b_begins b_carried : Nat) (c_hasImage : Int32) (c_above c_below : Int64) (c_orderMany c_waitMany c_seed c_size c_openMany c_paperMany c_reachMany : Int32) (c_now : Nat → Int32) (p1 p2 : Int32) (res : (Int32)) (h : fX11_ofSort p1 p2 c_now = some res) : zMi l yX11_ofSort wsX11_ofSort rmX11_ofSort [.ref b, .int p1, .int p2] D cy (wdX11_ofSort cy b b_now b_imaged b_valueUp b_valueDown b_real b_brief b_order b_waits b_floats b_same b_upOf b_downOf b_tape b_open b_made b_paper b_reachUp b_reachDown b_reachHow b_reachFirst b_reachSecond b_begins b_carried c_hasImage c_above c_below c_orderMany c_waitMany c_seed c_size c_openMany c_paperMany c_reachMany c_now) sz ((fun (o : (Int32)) => o) res) ((fun (o : (Int32)) => (wdX11_ofSort cy b b_now b_imaged b_valueUp b_valueDown b_real b_brief b_order b_waits b_floats b_same b_upOf b_downOf b_tape b_open b_made b_paper b_reachUp b_reachDown b_reachHow b_reachFirst b_reachSecond b_begins b_carried c_hasImage c_above c_below c_orderMany c_waitMany c_seed c_size c_openMany c_paperMany c_reachMany c_now)) res) := by
  refine zOfi (res := res) (rf := (fun (o : (Int32)) => o)) (Wf := (fun (o : (Int32)) => (wdX11_ofSort cy b b_now b_imaged b_valueUp b_valueDown b_real b_brief b_order b_waits b_floats b_same b_upOf b_downOf b_tape b_open b_made b_paper b_reachUp b_reachDown b_reachHow b_reachFirst b_reachSecond b_begins b_carried c_hasImage c_above c_below c_orderMany c_waitMany c_seed c_size c_openMany c_paperMany c_reachMany c_now))) (by decide +kernel) rfl (Nat.le_of_ble_eq_true rfl) ?_
  intro p e s m args below meth c A ls Q hx hb hml hts hown hP hK hD hA hS hl hret
  have hown : s.vm.findClass RX11 = some m.cls := hown
  have hl : lv_has ls 3 [(0, .ref b), (1, .int p1), (2, .int p2)] := hl
  refine lv_iload_n hx hb dX11_ofSort_0 rfl (lv_at hl 1 rfl) ?_
  obtain ⟨r1, hq1, h⟩ := zb1_s h
  refine zCz0 (r0 := r1) (va_runS (As := [.int p1]) (rest := []) ⟨hx, hb, hml, hown, hts⟩ (mX11_isSort l D cy s.heap.size p1 (r1) hq1) (va_cwS 1 hts gX11_ofSort_X11_isSort rfl rfl rfl cdX11_isSort ⟨Nat.le_of_ble_eq_true rfl, Nat.le_of_ble_eq_true rfl⟩) (zPS hK hP hD [] rfl rfl) rfl rfl hl.1 rfl (lv_room (Nat.le_of_ble_eq_true rfl)) dX11_ofSort_1 ⟨Nat.zero_le _, Nat.zero_le _⟩) hP hD hS hA (fun H locs hn1 hP hD hS => ?_)
  refine lv_if_eq (tgt := 19) hx hb dX11_ofSort_4 (by decide) (fun hc4 => ?_) (fun hc4 => ?_)
  · replace h := zi_t hc4 h
    refine lv_iconst (v := (-1 : Int32)) hx hb dX11_ofSort_19 (by decide) ?_
    exact hret (o := ((-1 : Int32))) h hP hD hS dX11_ofSort_20
  · replace h := zi_f hc4 h
    refine lv_iload_n hx hb dX11_ofSort_7 rfl (lv_at hl 2 rfl) ?_
    refine lv_i2l hx hb dX11_ofSort_8 rfl ?_
    refine lv_lconst (v := (0 : Int64)) hx hb dX11_ofSort_9 (by decide) ?_
    refine lv_ldc2 hx hb hown (hts (.constantLong RX11 112 (2)) (List.mem_of_getElem? (i := 1) rfl)) dX11_ofSort_10 ?_
    obtain ⟨r13, hq13, h⟩ := zb1_s h
    refine zCz0 (r0 := r13) (va_runS (As := [.long ((p2).toInt64), .long (0 : Int64), .long (2 : Int64)]) (rest := []) ⟨hx, hb, hml, hown, hts⟩ (mX11_in l D cy H.size ((p2).toInt64) (0 : Int64) (2 : Int64) (r13) hq13) (va_cwS 3 hts gX11_ofSort_X11_in rfl rfl rfl cdX11_in ⟨Nat.le_of_ble_eq_true rfl, Nat.le_of_ble_eq_true rfl⟩) (zPS hK hP hD [] rfl rfl) rfl rfl hl.1 rfl (lv_room (Nat.le_of_ble_eq_true rfl)) dX11_ofSort_13 ⟨Nat.zero_le _, Nat.zero_le _⟩) hP hD hS hA (fun H locs hn13 hP hD hS => ?_)
    refine lv_if_ne (tgt := 21) hx hb dX11_ofSort_16 (by decide) (fun hc16 => ?_) (fun hc16 => ?_)
    · replace h := zi_f hc16 h
      refine lv_iload_n hx hb dX11_ofSort_21 rfl (lv_at hl 2 rfl) ?_
      refine lv_if_ne (tgt := 36) hx hb dX11_ofSort_22 (by decide) (fun hc22 => ?_) (fun hc22 => ?_)
      · replace h := zi_f hc22 h
        refine lv_iload_n hx hb dX11_ofSort_36 rfl (lv_at hl 2 rfl) ?_
        refine lv_iconst (v := (1 : Int32)) hx hb dX11_ofSort_37 (by decide) ?_
        refine lv_icmp_ne (tgt := 52) hx hb dX11_ofSort_38 (by decide) (fun hc38 => ?_) (fun hc38 => ?_)
        · replace h := zi_f hc38 h
          refine lv_aload_n hx hb dX11_ofSort_52 rfl (lv_at hl 0 rfl) ?_
          refine lv_iconst (v := (0 : Int32)) hx hb dX11_ofSort_53 (by decide) ?_
          refine lv_iload_n hx hb dX11_ofSort_54 rfl (lv_at hl 1 rfl) ?_
          refine lv_iconst (v := (0 : Int32)) hx hb dX11_ofSort_55 (by decide) ?_
          obtain ⟨r56, hq56, h⟩ := zb1_s h
          refine zCi (r0 := r56) (w1 := (wdX11_found cy b b_now b_imaged b_valueUp b_valueDown b_real b_brief b_order b_waits b_floats b_same b_upOf b_downOf b_tape b_open b_made b_paper b_reachUp b_reachDown b_reachHow b_reachFirst b_reachSecond b_begins b_carried c_hasImage c_above c_below c_orderMany c_waitMany c_seed c_size c_openMany c_paperMany c_reachMany c_now)) (ws' := (wdX11_ofSort cy b b_now b_imaged b_valueUp b_valueDown b_real b_brief b_order b_waits b_floats b_same b_upOf b_downOf b_tape b_open b_made b_paper b_reachUp b_reachDown b_reachHow b_reachFirst b_reachSecond b_begins b_carried c_hasImage c_above c_below c_orderMany c_waitMany c_seed c_size c_openMany c_paperMany c_reachMany c_now)) (va_runV (As := [.int (0 : Int32), .int p1, .int (0 : Int32)]) (rest := []) ⟨hx, hb, hml, hown, hts⟩ (mX11_found l D cy H.size b b_now b_imaged b_valueUp b_valueDown b_real b_brief b_order b_waits b_floats b_same b_upOf b_downOf b_tape b_open b_made b_paper b_reachUp b_reachDown b_reachHow b_reachFirst b_reachSecond b_begins b_carried c_hasImage c_above c_below c_orderMany c_waitMany c_seed c_size c_openMany c_paperMany c_reachMany c_now (0 : Int32) p1 (0 : Int32) (r56) hq56) (cwV 3 hts gX11_ofSort_X11_found rfl rfl rfl ⟨rfl, cdX11_found⟩ ⟨Nat.le_of_ble_eq_true rfl, Nat.le_of_ble_eq_true rfl⟩) (zPV hK hP hD [0, 1] rfl rfl (q0 := 0) (ci := 11) rfl rfl rfl) rfl rfl hl.1 rfl (lv_room (Nat.le_of_ble_eq_true rfl)) dX11_ofSort_56 ⟨Nat.zero_le _, Nat.zero_le _⟩) hP hD hS hA [0, 1] [] [0, 1] rfl rfl rfl rfl (fun H locs hP hD hS => ?_)
          refine lv_if_lt (tgt := 66) hx hb dX11_ofSort_59 (by decide) (fun hc59 => ?_) (fun hc59 => ?_)
          · replace h := zi_t hc59 h
            refine lv_iconst (v := (0 : Int32)) hx hb dX11_ofSort_66 (by decide) ?_
            exact hret (o := ((0 : Int32))) h hP hD hS dX11_ofSort_67
          · replace h := zi_f hc59 h
            refine lv_iconst (v := (1 : Int32)) hx hb dX11_ofSort_62 (by decide) ?_
            refine lv_goto (tgt := 67) hx hb dX11_ofSort_63 (by decide) ?_
            exact hret (o := ((1 : Int32))) h hP hD hS dX11_ofSort_67
        · replace h := zi_t hc38 h
          refine lv_aload_n hx hb dX11_ofSort_41 rfl (lv_at hl 0 rfl) ?_
          refine va_get (D := D) (ci := 11) (v := .ref b_now) (C := RX11) (T := TX11) (N := 33) hx hb hts uX11_ofSort_X11 hown hK.1 hP 0 rfl rfl 0 (by decide) (hts (.fieldLink RX11 9 "WishedResistorModel" "now" "[I") (List.mem_of_getElem? (i := 2) rfl)) (fun _ h9 => h9) rfl dX11_ofSort_42 ?_
          refine lv_iconst (v := (4 : Int32)) hx hb dX11_ofSort_45 (by decide) ?_
          refine lv_iload_n hx hb dX11_ofSort_46 rfl (lv_at hl 1 rfl) ?_
          refine lv_iadd hx hb dX11_ofSort_47 ?_
          obtain ⟨hi48, h⟩ := zg_s h
          refine va_iald hx hb hK.1 hP 1 0 rfl rfl hi48 dX11_ofSort_48 ?_
          refine lv_goto (tgt := 67) hx hb dX11_ofSort_49 (by decide) ?_
          exact hret (o := ((c_now (((4 : Int32) + p1)).toNatClampNeg))) h hP hD hS dX11_ofSort_67
      · replace h := zi_t hc22 h
        refine lv_aload_n hx hb dX11_ofSort_25 rfl (lv_at hl 0 rfl) ?_
        refine va_get (D := D) (ci := 11) (v := .ref b_now) (C := RX11) (T := TX11) (N := 33) hx hb hts uX11_ofSort_X11 hown hK.1 hP 0 rfl rfl 0 (by decide) (hts (.fieldLink RX11 9 "WishedResistorModel" "now" "[I") (List.mem_of_getElem? (i := 2) rfl)) (fun _ h9 => h9) rfl dX11_ofSort_26 ?_
        refine lv_iconst (v := (0 : Int32)) hx hb dX11_ofSort_29 (by decide) ?_
        refine lv_iload_n hx hb dX11_ofSort_30 rfl (lv_at hl 1 rfl) ?_
        refine lv_iadd hx hb dX11_ofSort_31 ?_
        obtain ⟨hi32, h⟩ := zg_s h
        refine va_iald hx hb hK.1 hP 1 0 rfl rfl hi32 dX11_ofSort_32 ?_
        refine lv_goto (tgt := 67) hx hb dX11_ofSort_33 (by decide) ?_
        exact hret (o := ((c_now (((0 : Int32) + p1)).toNatClampNeg))) h hP hD hS dX11_ofSort_67
    · replace h := zi_t hc16 h
      refine lv_iconst (v := (-1 : Int32)) hx hb dX11_ofSort_19 (by decide) ?_
      exact hret (o := ((-1 : Int32))) h hP hD hS dX11_ofSort_20

theorem uX11_isThere_X11 : ∀ w ∈ u_ws RX11 TX11 33, w ∈ wsX11_isThere := fun w h => (List.mem_cons_of_mem _ (List.mem_append_right _ h))
abbrev wdX11_isThere (cy : Nat → ClassId) (b b_now b_imaged b_valueUp b_valueDown b_real b_brief b_order b_waits b_floats b_same b_upOf b_downOf b_tape b_open b_made b_paper b_reachUp b_reachDown b_reachHow b_reachFirst b_reachSecond b_begins b_carried : Nat) (c_hasImage : Int32) (c_above c_below : Int64) (c_orderMany c_waitMany c_seed c_size c_openMany c_paperMany c_reachMany : Int32) (c_now : Nat → Int32) : va_W := [(b, .inr (11, [.ref b_now, .ref b_imaged, .int c_hasImage, .long c_above, .long c_below, .ref b_valueUp, .ref b_valueDown, .ref b_real, .ref b_brief, .ref b_order, .int c_orderMany, .ref b_waits, .int c_waitMany, .ref b_floats, .int c_seed, .ref b_same, .ref b_upOf, .ref b_downOf, .ref b_tape, .int c_size, .ref b_open, .int c_openMany, .ref b_made, .ref b_paper, .int c_paperMany, .ref b_reachUp, .ref b_reachDown, .ref b_reachHow, .ref b_reachFirst, .ref b_reachSecond, .ref b_begins, .int c_reachMany, .ref b_carried])), (b_now, .inl (cy 0, 261, .inl c_now))]
abbrev rmX11_isThere : Room := { frames := 2, cells := 0, slots := 0, locals := 45 }
theorem cdX11_isThere : (yX11_isThere).cls ≠ "java/lang/invoke/MethodHandle" ∧ (yX11_isThere).cls ≠ "java/lang/invoke/VarHandle" ∧ (parseMethodDescriptor (yX11_isThere).desc).map (fun d => d.parameters.length) = some 1 := by decide +kernel
def fX11_isThere (p1 : Int32) (c_now : Nat → Int32) : Option (Int32) :=
  zb1 (fX11_isSort p1) (fun r1 => if r1 = 0 then (some ((0 : Int32))) else (zg (zin ((0 : Int32) + p1) 261) (if (c_now (((0 : Int32) + p1)).toNatClampNeg) ≤ 0 then (some ((0 : Int32))) else (some ((1 : Int32))))))
set_option maxHeartbeats 4000000 in
set_option maxRecDepth 100000 in
theorem mX11_isThere (l : Launch) (D : va_G) (cy : Nat → ClassId) (sz : Nat) (b b_now b_imaged b_valueUp b_valueDown b_real b_brief b_order b_waits b_floats b_same b_upOf b_downOf b_tape b_open b_made b_paper b_reachUp b_reachDown b_reachHow b_reachFirst b_reachSecond b_begins b_carried : Nat) (c_hasImage : Int32) (c_above c_below : Int64) (c_orderMany c_waitMany c_seed c_size c_openMany c_paperMany c_reachMany : Int32) (c_now : Nat → Int32) (p1 : Int32) (res : (Int32)) (h : fX11_isThere p1 c_now = some res) : zMz l yX11_isThere wsX11_isThere rmX11_isThere [.ref b, .int p1] D cy (wdX11_isThere cy b b_now b_imaged b_valueUp b_valueDown b_real b_brief b_order b_waits b_floats b_same b_upOf b_downOf b_tape b_open b_made b_paper b_reachUp b_reachDown b_reachHow b_reachFirst b_reachSecond b_begins b_carried c_hasImage c_above c_below c_orderMany c_waitMany c_seed c_size c_openMany c_paperMany c_reachMany c_now) sz ((fun (o : (Int32)) => o) res) ((fun (o : (Int32)) => (wdX11_isThere cy b b_now b_imaged b_valueUp b_valueDown b_real b_brief b_order b_waits b_floats b_same b_upOf b_downOf b_tape b_open b_made b_paper b_reachUp b_reachDown b_reachHow b_reachFirst b_reachSecond b_begins b_carried c_hasImage c_above c_below c_orderMany c_waitMany c_seed c_size c_openMany c_paperMany c_reachMany c_now)) res) := by
  refine zOfz (res := res) (rf := (fun (o : (Int32)) => o)) (Wf := (fun (o : (Int32)) => (wdX11_isThere cy b b_now b_imaged b_valueUp b_valueDown b_real b_brief b_order b_waits b_floats b_same b_upOf b_downOf b_tape b_open b_made b_paper b_reachUp b_reachDown b_reachHow b_reachFirst b_reachSecond b_begins b_carried c_hasImage c_above c_below c_orderMany c_waitMany c_seed c_size c_openMany c_paperMany c_reachMany c_now))) (by decide +kernel) rfl (Nat.le_of_ble_eq_true rfl) ?_
  intro p e s m args below meth c A ls Q hx hb hml hts hown hP hK hD hA hS hl hret
  have hown : s.vm.findClass RX11 = some m.cls := hown
  have hl : lv_has ls 2 [(0, .ref b), (1, .int p1)] := hl
  refine lv_iload_n hx hb dX11_isThere_0 rfl (lv_at hl 1 rfl) ?_
  obtain ⟨r1, hq1, h⟩ := zb1_s h
  refine zCz0 (r0 := r1) (va_runS (As := [.int p1]) (rest := []) ⟨hx, hb, hml, hown, hts⟩ (mX11_isSort l D cy s.heap.size p1 (r1) hq1) (va_cwS 1 hts gX11_isThere_X11_isSort rfl rfl rfl cdX11_isSort ⟨Nat.le_of_ble_eq_true rfl, Nat.le_of_ble_eq_true rfl⟩) (zPS hK hP hD [] rfl rfl) rfl rfl hl.1 rfl (lv_room (Nat.le_of_ble_eq_true rfl)) dX11_isThere_1 ⟨Nat.zero_le _, Nat.zero_le _⟩) hP hD hS hA (fun H locs hn1 hP hD hS => ?_)
  refine lv_if_eq (tgt := 22) hx hb dX11_isThere_4 (by decide) (fun hc4 => ?_) (fun hc4 => ?_)
  · replace h := zi_t hc4 h
    refine lv_iconst (v := (0 : Int32)) hx hb dX11_isThere_22 (by decide) ?_
    exact hret (o := ((0 : Int32))) h (show narrow .boolean (.int (0 : Int32)) = .int (0 : Int32) from by decide) hP hD hS dX11_isThere_23
  · replace h := zi_f hc4 h
    refine lv_aload_n hx hb dX11_isThere_7 rfl (lv_at hl 0 rfl) ?_
    refine va_get (D := D) (ci := 11) (v := .ref b_now) (C := RX11) (T := TX11) (N := 33) hx hb hts uX11_isThere_X11 hown hK.1 hP 0 rfl rfl 0 (by decide) (hts (.fieldLink RX11 9 "WishedResistorModel" "now" "[I") (List.mem_of_getElem? (i := 1) rfl)) (fun _ h9 => h9) rfl dX11_isThere_8 ?_
    refine lv_iconst (v := (0 : Int32)) hx hb dX11_isThere_11 (by decide) ?_
    refine lv_iload_n hx hb dX11_isThere_12 rfl (lv_at hl 1 rfl) ?_
    refine lv_iadd hx hb dX11_isThere_13 ?_
    obtain ⟨hi14, h⟩ := zg_s h
    refine va_iald hx hb hK.1 hP 1 0 rfl rfl hi14 dX11_isThere_14 ?_
    refine lv_if_le (tgt := 22) hx hb dX11_isThere_15 (by decide) (fun hc15 => ?_) (fun hc15 => ?_)
    · replace h := zi_t hc15 h
      refine lv_iconst (v := (0 : Int32)) hx hb dX11_isThere_22 (by decide) ?_
      exact hret (o := ((0 : Int32))) h (show narrow .boolean (.int (0 : Int32)) = .int (0 : Int32) from by decide) hP hD hS dX11_isThere_23
    · replace h := zi_f hc15 h
      refine lv_iconst (v := (1 : Int32)) hx hb dX11_isThere_18 (by decide) ?_
      refine lv_goto (tgt := 23) hx hb dX11_isThere_19 (by decide) ?_
      exact hret (o := ((1 : Int32))) h (show narrow .boolean (.int (1 : Int32)) = .int (1 : Int32) from by decide) hP hD hS dX11_isThere_23

abbrev wdX11_part (cy : Nat → ClassId) (b b_now b_imaged b_valueUp b_valueDown b_real b_brief b_order b_waits b_floats b_same b_upOf b_downOf b_tape b_open b_made b_paper b_reachUp b_reachDown b_reachHow b_reachFirst b_reachSecond b_begins b_carried : Nat) (c_hasImage : Int32) (c_above c_below : Int64) (c_orderMany c_waitMany c_seed c_size c_openMany c_paperMany c_reachMany : Int32) (c_now : Nat → Int32) : va_W := [(b, .inr (11, [.ref b_now, .ref b_imaged, .int c_hasImage, .long c_above, .long c_below, .ref b_valueUp, .ref b_valueDown, .ref b_real, .ref b_brief, .ref b_order, .int c_orderMany, .ref b_waits, .int c_waitMany, .ref b_floats, .int c_seed, .ref b_same, .ref b_upOf, .ref b_downOf, .ref b_tape, .int c_size, .ref b_open, .int c_openMany, .ref b_made, .ref b_paper, .int c_paperMany, .ref b_reachUp, .ref b_reachDown, .ref b_reachHow, .ref b_reachFirst, .ref b_reachSecond, .ref b_begins, .int c_reachMany, .ref b_carried])), (b_now, .inl (cy 0, 261, .inl c_now))]
abbrev rmX11_part : Room := { frames := 3, cells := 0, slots := 0, locals := 70 }
theorem cdX11_part : (yX11_part).cls ≠ "java/lang/invoke/MethodHandle" ∧ (yX11_part).cls ≠ "java/lang/invoke/VarHandle" ∧ (parseMethodDescriptor (yX11_part).desc).map (fun d => d.parameters.length) = some 1 := by decide +kernel
def fX11_part (p1 : Int32) (c_now : Nat → Int32) : Option (Int32 × (Nat → Int32)) :=
  zb1 (fX11_isSort p1) (fun r1 => if r1 = 0 then (some ((-1 : Int32), c_now)) else (zb1 (fX11_isThere p1 c_now) (fun r11 => if r11 = 0 then (some ((-5 : Int32), c_now)) else (zb2 (fX11_kept (0 : Int32) p1 (0 : Int32) (1 : Int32) c_now) (fun r22 c_now_r22 => some (r22, c_now_r22))))))
set_option maxHeartbeats 4000000 in
set_option maxRecDepth 100000 in
theorem mX11_part (l : Launch) (D : va_G) (cy : Nat → ClassId) (sz : Nat) (b b_now b_imaged b_valueUp b_valueDown b_real b_brief b_order b_waits b_floats b_same b_upOf b_downOf b_tape b_open b_made b_paper b_reachUp b_reachDown b_reachHow b_reachFirst b_reachSecond b_begins b_carried : Nat) (c_hasImage : Int32) (c_above c_below : Int64) (c_orderMany c_waitMany c_seed c_size c_openMany c_paperMany c_reachMany : Int32) (c_now : Nat → Int32) (p1 : Int32) (res : (Int32 × (Nat → Int32))) (h : fX11_part p1 c_now = some res) : zMi l yX11_part wsX11_part rmX11_part [.ref b, .int p1] D cy (wdX11_part cy b b_now b_imaged b_valueUp b_valueDown b_real b_brief b_order b_waits b_floats b_same b_upOf b_downOf b_tape b_open b_made b_paper b_reachUp b_reachDown b_reachHow b_reachFirst b_reachSecond b_begins b_carried c_hasImage c_above c_below c_orderMany c_waitMany c_seed c_size c_openMany c_paperMany c_reachMany c_now) sz ((fun (o : (Int32 × (Nat → Int32))) => o.1) res) ((fun (o : (Int32 × (Nat → Int32))) => (wdX11_part cy b b_now b_imaged b_valueUp b_valueDown b_real b_brief b_order b_waits b_floats b_same b_upOf b_downOf b_tape b_open b_made b_paper b_reachUp b_reachDown b_reachHow b_reachFirst b_reachSecond b_begins b_carried c_hasImage c_above c_below c_orderMany c_waitMany c_seed c_size c_openMany c_paperMany c_reachMany (o.2))) res) := by
  refine zOfi (res := res) (rf := (fun (o : (Int32 × (Nat → Int32))) => o.1)) (Wf := (fun (o : (Int32 × (Nat → Int32))) => (wdX11_part cy b b_now b_imaged b_valueUp b_valueDown b_real b_brief b_order b_waits b_floats b_same b_upOf b_downOf b_tape b_open b_made b_paper b_reachUp b_reachDown b_reachHow b_reachFirst b_reachSecond b_begins b_carried c_hasImage c_above c_below c_orderMany c_waitMany c_seed c_size c_openMany c_paperMany c_reachMany (o.2)))) (by decide +kernel) rfl (Nat.le_of_ble_eq_true rfl) ?_
  intro p e s m args below meth c A ls Q hx hb hml hts hown hP hK hD hA hS hl hret
  have hown : s.vm.findClass RX11 = some m.cls := hown
  have hl : lv_has ls 2 [(0, .ref b), (1, .int p1)] := hl
  refine lv_iload_n hx hb dX11_part_0 rfl (lv_at hl 1 rfl) ?_
  obtain ⟨r1, hq1, h⟩ := zb1_s h
  refine zCz0 (r0 := r1) (va_runS (As := [.int p1]) (rest := []) ⟨hx, hb, hml, hown, hts⟩ (mX11_isSort l D cy s.heap.size p1 (r1) hq1) (va_cwS 1 hts gX11_part_X11_isSort rfl rfl rfl cdX11_isSort ⟨Nat.le_of_ble_eq_true rfl, Nat.le_of_ble_eq_true rfl⟩) (zPS hK hP hD [] rfl rfl) rfl rfl hl.1 rfl (lv_room (Nat.le_of_ble_eq_true rfl)) dX11_part_1 ⟨Nat.zero_le _, Nat.zero_le _⟩) hP hD hS hA (fun H locs hn1 hP hD hS => ?_)
  refine lv_if_ne (tgt := 9) hx hb dX11_part_4 (by decide) (fun hc4 => ?_) (fun hc4 => ?_)
  · replace h := zi_f hc4 h
    refine lv_aload_n hx hb dX11_part_9 rfl (lv_at hl 0 rfl) ?_
    refine lv_iload_n hx hb dX11_part_10 rfl (lv_at hl 1 rfl) ?_
    obtain ⟨r11, hq11, h⟩ := zb1_s h
    refine zCz (r0 := r11) (w1 := (wdX11_isThere cy b b_now b_imaged b_valueUp b_valueDown b_real b_brief b_order b_waits b_floats b_same b_upOf b_downOf b_tape b_open b_made b_paper b_reachUp b_reachDown b_reachHow b_reachFirst b_reachSecond b_begins b_carried c_hasImage c_above c_below c_orderMany c_waitMany c_seed c_size c_openMany c_paperMany c_reachMany c_now)) (ws' := (wdX11_part cy b b_now b_imaged b_valueUp b_valueDown b_real b_brief b_order b_waits b_floats b_same b_upOf b_downOf b_tape b_open b_made b_paper b_reachUp b_reachDown b_reachHow b_reachFirst b_reachSecond b_begins b_carried c_hasImage c_above c_below c_orderMany c_waitMany c_seed c_size c_openMany c_paperMany c_reachMany c_now)) (va_runV (As := [.int p1]) (rest := []) ⟨hx, hb, hml, hown, hts⟩ (mX11_isThere l D cy H.size b b_now b_imaged b_valueUp b_valueDown b_real b_brief b_order b_waits b_floats b_same b_upOf b_downOf b_tape b_open b_made b_paper b_reachUp b_reachDown b_reachHow b_reachFirst b_reachSecond b_begins b_carried c_hasImage c_above c_below c_orderMany c_waitMany c_seed c_size c_openMany c_paperMany c_reachMany c_now p1 (r11) hq11) (cwV 1 hts gX11_part_X11_isThere rfl rfl rfl ⟨rfl, cdX11_isThere⟩ ⟨Nat.le_of_ble_eq_true rfl, Nat.le_of_ble_eq_true rfl⟩) (zPV hK hP hD [0, 1] rfl rfl (q0 := 0) (ci := 11) rfl rfl rfl) rfl rfl hl.1 rfl (lv_room (Nat.le_of_ble_eq_true rfl)) dX11_part_11 ⟨Nat.zero_le _, Nat.zero_le _⟩) hP hD hS hA [0, 1] [] [0, 1] rfl rfl rfl rfl (fun H locs hn11 hP hD hS => ?_)
    refine lv_if_eq (tgt := 28) hx hb dX11_part_14 (by decide) (fun hc14 => ?_) (fun hc14 => ?_)
    · replace h := zi_t hc14 h
      refine lv_bipush (v := (-5 : Int32)) hx hb dX11_part_28 (by decide) ?_
      exact hret (o := ((-5 : Int32), c_now)) h hP hD hS dX11_part_30
    · replace h := zi_f hc14 h
      refine lv_aload_n hx hb dX11_part_17 rfl (lv_at hl 0 rfl) ?_
      refine lv_iconst (v := (0 : Int32)) hx hb dX11_part_18 (by decide) ?_
      refine lv_iload_n hx hb dX11_part_19 rfl (lv_at hl 1 rfl) ?_
      refine lv_iconst (v := (0 : Int32)) hx hb dX11_part_20 (by decide) ?_
      refine lv_iconst (v := (1 : Int32)) hx hb dX11_part_21 (by decide) ?_
      obtain ⟨r22, c_now_r22, hq22, h⟩ := zb2_s h
      refine zCi (r0 := r22) (w1 := (wdX11_kept cy b b_now b_imaged b_valueUp b_valueDown b_real b_brief b_order b_waits b_floats b_same b_upOf b_downOf b_tape b_open b_made b_paper b_reachUp b_reachDown b_reachHow b_reachFirst b_reachSecond b_begins b_carried c_hasImage c_above c_below c_orderMany c_waitMany c_seed c_size c_openMany c_paperMany c_reachMany c_now_r22)) (ws' := (wdX11_part cy b b_now b_imaged b_valueUp b_valueDown b_real b_brief b_order b_waits b_floats b_same b_upOf b_downOf b_tape b_open b_made b_paper b_reachUp b_reachDown b_reachHow b_reachFirst b_reachSecond b_begins b_carried c_hasImage c_above c_below c_orderMany c_waitMany c_seed c_size c_openMany c_paperMany c_reachMany c_now_r22)) (va_runV (As := [.int (0 : Int32), .int p1, .int (0 : Int32), .int (1 : Int32)]) (rest := []) ⟨hx, hb, hml, hown, hts⟩ (mX11_kept l D cy H.size b b_now b_imaged b_valueUp b_valueDown b_real b_brief b_order b_waits b_floats b_same b_upOf b_downOf b_tape b_open b_made b_paper b_reachUp b_reachDown b_reachHow b_reachFirst b_reachSecond b_begins b_carried c_hasImage c_above c_below c_orderMany c_waitMany c_seed c_size c_openMany c_paperMany c_reachMany c_now (0 : Int32) p1 (0 : Int32) (1 : Int32) (r22, c_now_r22) hq22) (cwV 4 hts gX11_part_X11_kept rfl rfl rfl ⟨rfl, cdX11_kept⟩ ⟨Nat.le_of_ble_eq_true rfl, Nat.le_of_ble_eq_true rfl⟩) (zPV hK hP hD [0, 1] rfl rfl (q0 := 0) (ci := 11) rfl rfl rfl) rfl rfl hl.1 rfl (lv_room (Nat.le_of_ble_eq_true rfl)) dX11_part_22 ⟨Nat.zero_le _, Nat.zero_le _⟩) hP hD hS hA [0, 1] [] [0, 1] rfl rfl rfl rfl (fun H locs hP hD hS => ?_)
      refine lv_goto (tgt := 30) hx hb dX11_part_25 (by decide) ?_
      exact hret (o := (r22, c_now_r22)) h hP hD hS dX11_part_30
  · replace h := zi_t hc4 h
    refine lv_iconst (v := (-1 : Int32)) hx hb dX11_part_7 (by decide) ?_
    exact hret (o := ((-1 : Int32), c_now)) h hP hD hS dX11_part_8

abbrev wdX11_join (cy : Nat → ClassId) (b b_now b_imaged b_valueUp b_valueDown b_real b_brief b_order b_waits b_floats b_same b_upOf b_downOf b_tape b_open b_made b_paper b_reachUp b_reachDown b_reachHow b_reachFirst b_reachSecond b_begins b_carried : Nat) (c_hasImage : Int32) (c_above c_below : Int64) (c_orderMany c_waitMany c_seed c_size c_openMany c_paperMany c_reachMany : Int32) (c_now : Nat → Int32) : va_W := [(b, .inr (11, [.ref b_now, .ref b_imaged, .int c_hasImage, .long c_above, .long c_below, .ref b_valueUp, .ref b_valueDown, .ref b_real, .ref b_brief, .ref b_order, .int c_orderMany, .ref b_waits, .int c_waitMany, .ref b_floats, .int c_seed, .ref b_same, .ref b_upOf, .ref b_downOf, .ref b_tape, .int c_size, .ref b_open, .int c_openMany, .ref b_made, .ref b_paper, .int c_paperMany, .ref b_reachUp, .ref b_reachDown, .ref b_reachHow, .ref b_reachFirst, .ref b_reachSecond, .ref b_begins, .int c_reachMany, .ref b_carried])), (b_now, .inl (cy 0, 261, .inl c_now))]
abbrev rmX11_join : Room := { frames := 3, cells := 0, slots := 0, locals := 70 }
theorem cdX11_join : (yX11_join).cls ≠ "java/lang/invoke/MethodHandle" ∧ (yX11_join).cls ≠ "java/lang/invoke/VarHandle" ∧ (parseMethodDescriptor (yX11_join).desc).map (fun d => d.parameters.length) = some 3 := by decide +kernel
def fX11_join (p1 p2 p3 : Int32) (c_now : Nat → Int32) : Option (Int32 × (Nat → Int32)) :=
  zb1 (fX11_in ((p1).toInt64) (0 : Int64) (1 : Int64)) (fun r4 => if r4 = 0 then (some ((-1 : Int32), c_now)) else (zb1 (fX11_isNet p2 c_now) (fun r12 => if r12 = 0 then (some ((-1 : Int32), c_now)) else (zb1 (fX11_isNet p3 c_now) (fun r20 => if r20 = 0 then (some ((-1 : Int32), c_now)) else (zb1 (fX11_partsOf p2 c_now) (fun r30 => zb1 (fX11_partsOf p3 c_now) (fun r35 => if (r30 + r35) ≤ (12 : Int32) then (zb2 (fX11_kept ((1 : Int32) + p1) p2 p3 (r30 + r35) c_now) (fun r61 c_now_r61 => some (r61, c_now_r61))) else (some ((-7 : Int32), c_now))))))))))
set_option maxHeartbeats 4000000 in
set_option maxRecDepth 100000 in
theorem mX11_join (l : Launch) (D : va_G) (cy : Nat → ClassId) (sz : Nat) (b b_now b_imaged b_valueUp b_valueDown b_real b_brief b_order b_waits b_floats b_same b_upOf b_downOf b_tape b_open b_made b_paper b_reachUp b_reachDown b_reachHow b_reachFirst b_reachSecond b_begins b_carried : Nat) (c_hasImage : Int32) (c_above c_below : Int64) (c_orderMany c_waitMany c_seed c_size c_openMany c_paperMany c_reachMany : Int32) (c_now : Nat → Int32) (p1 p2 p3 : Int32) (res : (Int32 × (Nat → Int32))) (h : fX11_join p1 p2 p3 c_now = some res) : zMi l yX11_join wsX11_join rmX11_join [.ref b, .int p1, .int p2, .int p3] D cy (wdX11_join cy b b_now b_imaged b_valueUp b_valueDown b_real b_brief b_order b_waits b_floats b_same b_upOf b_downOf b_tape b_open b_made b_paper b_reachUp b_reachDown b_reachHow b_reachFirst b_reachSecond b_begins b_carried c_hasImage c_above c_below c_orderMany c_waitMany c_seed c_size c_openMany c_paperMany c_reachMany c_now) sz ((fun (o : (Int32 × (Nat → Int32))) => o.1) res) ((fun (o : (Int32 × (Nat → Int32))) => (wdX11_join cy b b_now b_imaged b_valueUp b_valueDown b_real b_brief b_order b_waits b_floats b_same b_upOf b_downOf b_tape b_open b_made b_paper b_reachUp b_reachDown b_reachHow b_reachFirst b_reachSecond b_begins b_carried c_hasImage c_above c_below c_orderMany c_waitMany c_seed c_size c_openMany c_paperMany c_reachMany (o.2))) res) := by
  refine zOfi (res := res) (rf := (fun (o : (Int32 × (Nat → Int32))) => o.1)) (Wf := (fun (o : (Int32 × (Nat → Int32))) => (wdX11_join cy b b_now b_imaged b_valueUp b_valueDown b_real b_brief b_order b_waits b_floats b_same b_upOf b_downOf b_tape b_open b_made b_paper b_reachUp b_reachDown b_reachHow b_reachFirst b_reachSecond b_begins b_carried c_hasImage c_above c_below c_orderMany c_waitMany c_seed c_size c_openMany c_paperMany c_reachMany (o.2)))) (by decide +kernel) rfl (Nat.le_of_ble_eq_true rfl) ?_
  intro p e s m args below meth c A ls Q hx hb hml hts hown hP hK hD hA hS hl hret
  have hown : s.vm.findClass RX11 = some m.cls := hown
  have hl : lv_has ls 5 [(0, .ref b), (1, .int p1), (2, .int p2), (3, .int p3)] := hl
  refine lv_iload_n hx hb dX11_join_0 rfl (lv_at hl 1 rfl) ?_
  refine lv_i2l hx hb dX11_join_1 rfl ?_
  refine lv_lconst (v := (0 : Int64)) hx hb dX11_join_2 (by decide) ?_
  refine lv_lconst (v := (1 : Int64)) hx hb dX11_join_3 (by decide) ?_
  obtain ⟨r4, hq4, h⟩ := zb1_s h
  refine zCz0 (r0 := r4) (va_runS (As := [.long ((p1).toInt64), .long (0 : Int64), .long (1 : Int64)]) (rest := []) ⟨hx, hb, hml, hown, hts⟩ (mX11_in l D cy s.heap.size ((p1).toInt64) (0 : Int64) (1 : Int64) (r4) hq4) (va_cwS 3 hts gX11_join_X11_in rfl rfl rfl cdX11_in ⟨Nat.le_of_ble_eq_true rfl, Nat.le_of_ble_eq_true rfl⟩) (zPS hK hP hD [] rfl rfl) rfl rfl hl.1 rfl (lv_room (Nat.le_of_ble_eq_true rfl)) dX11_join_4 ⟨Nat.zero_le _, Nat.zero_le _⟩) hP hD hS hA (fun H locs hn4 hP hD hS => ?_)
  refine lv_if_eq (tgt := 26) hx hb dX11_join_7 (by decide) (fun hc7 => ?_) (fun hc7 => ?_)
  · replace h := zi_t hc7 h
    refine lv_iconst (v := (-1 : Int32)) hx hb dX11_join_26 (by decide) ?_
    exact hret (o := ((-1 : Int32), c_now)) h hP hD hS dX11_join_27
  · replace h := zi_f hc7 h
    refine lv_aload_n hx hb dX11_join_10 rfl (lv_at hl 0 rfl) ?_
    refine lv_iload_n hx hb dX11_join_11 rfl (lv_at hl 2 rfl) ?_
    obtain ⟨r12, hq12, h⟩ := zb1_s h
    refine zCz (r0 := r12) (w1 := (wdX11_isNet cy b b_now b_imaged b_valueUp b_valueDown b_real b_brief b_order b_waits b_floats b_same b_upOf b_downOf b_tape b_open b_made b_paper b_reachUp b_reachDown b_reachHow b_reachFirst b_reachSecond b_begins b_carried c_hasImage c_above c_below c_orderMany c_waitMany c_seed c_size c_openMany c_paperMany c_reachMany c_now)) (ws' := (wdX11_join cy b b_now b_imaged b_valueUp b_valueDown b_real b_brief b_order b_waits b_floats b_same b_upOf b_downOf b_tape b_open b_made b_paper b_reachUp b_reachDown b_reachHow b_reachFirst b_reachSecond b_begins b_carried c_hasImage c_above c_below c_orderMany c_waitMany c_seed c_size c_openMany c_paperMany c_reachMany c_now)) (va_runV (As := [.int p2]) (rest := []) ⟨hx, hb, hml, hown, hts⟩ (mX11_isNet l D cy H.size b b_now b_imaged b_valueUp b_valueDown b_real b_brief b_order b_waits b_floats b_same b_upOf b_downOf b_tape b_open b_made b_paper b_reachUp b_reachDown b_reachHow b_reachFirst b_reachSecond b_begins b_carried c_hasImage c_above c_below c_orderMany c_waitMany c_seed c_size c_openMany c_paperMany c_reachMany c_now p2 (r12) hq12) (cwV 1 hts gX11_join_X11_isNet rfl rfl rfl ⟨rfl, cdX11_isNet⟩ ⟨Nat.le_of_ble_eq_true rfl, Nat.le_of_ble_eq_true rfl⟩) (zPV hK hP hD [0, 1] rfl rfl (q0 := 0) (ci := 11) rfl rfl rfl) rfl rfl hl.1 rfl (lv_room (Nat.le_of_ble_eq_true rfl)) dX11_join_12 ⟨Nat.zero_le _, Nat.zero_le _⟩) hP hD hS hA [0, 1] [] [0, 1] rfl rfl rfl rfl (fun H locs hn12 hP hD hS => ?_)
    refine lv_if_eq (tgt := 26) hx hb dX11_join_15 (by decide) (fun hc15 => ?_) (fun hc15 => ?_)
    · replace h := zi_t hc15 h
      refine lv_iconst (v := (-1 : Int32)) hx hb dX11_join_26 (by decide) ?_
      exact hret (o := ((-1 : Int32), c_now)) h hP hD hS dX11_join_27
    · replace h := zi_f hc15 h
      refine lv_aload_n hx hb dX11_join_18 rfl (lv_at hl 0 rfl) ?_
      refine lv_iload_n hx hb dX11_join_19 rfl (lv_at hl 3 rfl) ?_
      obtain ⟨r20, hq20, h⟩ := zb1_s h
      refine zCz (r0 := r20) (w1 := (wdX11_isNet cy b b_now b_imaged b_valueUp b_valueDown b_real b_brief b_order b_waits b_floats b_same b_upOf b_downOf b_tape b_open b_made b_paper b_reachUp b_reachDown b_reachHow b_reachFirst b_reachSecond b_begins b_carried c_hasImage c_above c_below c_orderMany c_waitMany c_seed c_size c_openMany c_paperMany c_reachMany c_now)) (ws' := (wdX11_join cy b b_now b_imaged b_valueUp b_valueDown b_real b_brief b_order b_waits b_floats b_same b_upOf b_downOf b_tape b_open b_made b_paper b_reachUp b_reachDown b_reachHow b_reachFirst b_reachSecond b_begins b_carried c_hasImage c_above c_below c_orderMany c_waitMany c_seed c_size c_openMany c_paperMany c_reachMany c_now)) (va_runV (As := [.int p3]) (rest := []) ⟨hx, hb, hml, hown, hts⟩ (mX11_isNet l D cy H.size b b_now b_imaged b_valueUp b_valueDown b_real b_brief b_order b_waits b_floats b_same b_upOf b_downOf b_tape b_open b_made b_paper b_reachUp b_reachDown b_reachHow b_reachFirst b_reachSecond b_begins b_carried c_hasImage c_above c_below c_orderMany c_waitMany c_seed c_size c_openMany c_paperMany c_reachMany c_now p3 (r20) hq20) (cwV 1 hts gX11_join_X11_isNet rfl rfl rfl ⟨rfl, cdX11_isNet⟩ ⟨Nat.le_of_ble_eq_true rfl, Nat.le_of_ble_eq_true rfl⟩) (zPV hK hP hD [0, 1] rfl rfl (q0 := 0) (ci := 11) rfl rfl rfl) rfl rfl hl.1 rfl (lv_room (Nat.le_of_ble_eq_true rfl)) dX11_join_20 ⟨Nat.zero_le _, Nat.zero_le _⟩) hP hD hS hA [0, 1] [] [0, 1] rfl rfl rfl rfl (fun H locs hn20 hP hD hS => ?_)
      refine lv_if_ne (tgt := 28) hx hb dX11_join_23 (by decide) (fun hc23 => ?_) (fun hc23 => ?_)
      · replace h := zi_f hc23 h
        refine lv_aload_n hx hb dX11_join_28 rfl (lv_at hl 0 rfl) ?_
        refine lv_iload_n hx hb dX11_join_29 rfl (lv_at hl 2 rfl) ?_
        obtain ⟨r30, hq30, h⟩ := zb1_s h
        refine zCi (r0 := r30) (w1 := (wdX11_partsOf cy b b_now b_imaged b_valueUp b_valueDown b_real b_brief b_order b_waits b_floats b_same b_upOf b_downOf b_tape b_open b_made b_paper b_reachUp b_reachDown b_reachHow b_reachFirst b_reachSecond b_begins b_carried c_hasImage c_above c_below c_orderMany c_waitMany c_seed c_size c_openMany c_paperMany c_reachMany c_now)) (ws' := (wdX11_join cy b b_now b_imaged b_valueUp b_valueDown b_real b_brief b_order b_waits b_floats b_same b_upOf b_downOf b_tape b_open b_made b_paper b_reachUp b_reachDown b_reachHow b_reachFirst b_reachSecond b_begins b_carried c_hasImage c_above c_below c_orderMany c_waitMany c_seed c_size c_openMany c_paperMany c_reachMany c_now)) (va_runV (As := [.int p2]) (rest := []) ⟨hx, hb, hml, hown, hts⟩ (mX11_partsOf l D cy H.size b b_now b_imaged b_valueUp b_valueDown b_real b_brief b_order b_waits b_floats b_same b_upOf b_downOf b_tape b_open b_made b_paper b_reachUp b_reachDown b_reachHow b_reachFirst b_reachSecond b_begins b_carried c_hasImage c_above c_below c_orderMany c_waitMany c_seed c_size c_openMany c_paperMany c_reachMany c_now p2 (r30) hq30) (cwV 1 hts gX11_join_X11_partsOf rfl rfl rfl ⟨rfl, cdX11_partsOf⟩ ⟨Nat.le_of_ble_eq_true rfl, Nat.le_of_ble_eq_true rfl⟩) (zPV hK hP hD [0, 1] rfl rfl (q0 := 0) (ci := 11) rfl rfl rfl) rfl rfl hl.1 rfl (lv_room (Nat.le_of_ble_eq_true rfl)) dX11_join_30 ⟨Nat.zero_le _, Nat.zero_le _⟩) hP hD hS hA [0, 1] [] [0, 1] rfl rfl rfl rfl (fun H locs hP hD hS => ?_)
        refine lv_aload_n hx hb dX11_join_33 rfl (lv_at hl 0 rfl) ?_
        refine lv_iload_n hx hb dX11_join_34 rfl (lv_at hl 3 rfl) ?_
        obtain ⟨r35, hq35, h⟩ := zb1_s h
        refine zCi (r0 := r35) (w1 := (wdX11_partsOf cy b b_now b_imaged b_valueUp b_valueDown b_real b_brief b_order b_waits b_floats b_same b_upOf b_downOf b_tape b_open b_made b_paper b_reachUp b_reachDown b_reachHow b_reachFirst b_reachSecond b_begins b_carried c_hasImage c_above c_below c_orderMany c_waitMany c_seed c_size c_openMany c_paperMany c_reachMany c_now)) (ws' := (wdX11_join cy b b_now b_imaged b_valueUp b_valueDown b_real b_brief b_order b_waits b_floats b_same b_upOf b_downOf b_tape b_open b_made b_paper b_reachUp b_reachDown b_reachHow b_reachFirst b_reachSecond b_begins b_carried c_hasImage c_above c_below c_orderMany c_waitMany c_seed c_size c_openMany c_paperMany c_reachMany c_now)) (va_runV (As := [.int p3]) (rest := [.int r30]) ⟨hx, hb, hml, hown, hts⟩ (mX11_partsOf l D cy H.size b b_now b_imaged b_valueUp b_valueDown b_real b_brief b_order b_waits b_floats b_same b_upOf b_downOf b_tape b_open b_made b_paper b_reachUp b_reachDown b_reachHow b_reachFirst b_reachSecond b_begins b_carried c_hasImage c_above c_below c_orderMany c_waitMany c_seed c_size c_openMany c_paperMany c_reachMany c_now p3 (r35) hq35) (cwV 1 hts gX11_join_X11_partsOf rfl rfl rfl ⟨rfl, cdX11_partsOf⟩ ⟨Nat.le_of_ble_eq_true rfl, Nat.le_of_ble_eq_true rfl⟩) (zPV hK hP hD [0, 1] rfl rfl (q0 := 0) (ci := 11) rfl rfl rfl) rfl rfl hl.1 rfl (lv_room (Nat.le_of_ble_eq_true rfl)) dX11_join_35 ⟨Nat.zero_le _, Nat.zero_le _⟩) hP hD hS hA [0, 1] [] [0, 1] rfl rfl rfl rfl (fun H locs hP hD hS => ?_)
        refine lv_iadd hx hb dX11_join_38 ?_
        refine lv_istore (lv' := [(4, .int (r30 + r35)), (0, .ref b), (1, .int p1), (2, .int p2), (3, .int p3)]) hx hb dX11_join_39 hl (Nat.le_of_ble_eq_true rfl) rfl (fun ls hl => ?_)
        refine lv_iload hx hb dX11_join_41 (lv_at hl 0 rfl) ?_
        refine lv_bipush (v := (12 : Int32)) hx hb dX11_join_43 (by decide) ?_
        refine lv_icmp_le (tgt := 53) hx hb dX11_join_45 (by decide) (fun hc45 => ?_) (fun hc45 => ?_)
        · replace h := zi_t hc45 h
          refine lv_aload_n hx hb dX11_join_53 rfl (lv_at hl 1 rfl) ?_
          refine lv_iconst (v := (1 : Int32)) hx hb dX11_join_54 (by decide) ?_
          refine lv_iload_n hx hb dX11_join_55 rfl (lv_at hl 2 rfl) ?_
          refine lv_iadd hx hb dX11_join_56 ?_
          refine lv_iload_n hx hb dX11_join_57 rfl (lv_at hl 3 rfl) ?_
          refine lv_iload_n hx hb dX11_join_58 rfl (lv_at hl 4 rfl) ?_
          refine lv_iload hx hb dX11_join_59 (lv_at hl 0 rfl) ?_
          obtain ⟨r61, c_now_r61, hq61, h⟩ := zb2_s h
          refine zCi (r0 := r61) (w1 := (wdX11_kept cy b b_now b_imaged b_valueUp b_valueDown b_real b_brief b_order b_waits b_floats b_same b_upOf b_downOf b_tape b_open b_made b_paper b_reachUp b_reachDown b_reachHow b_reachFirst b_reachSecond b_begins b_carried c_hasImage c_above c_below c_orderMany c_waitMany c_seed c_size c_openMany c_paperMany c_reachMany c_now_r61)) (ws' := (wdX11_join cy b b_now b_imaged b_valueUp b_valueDown b_real b_brief b_order b_waits b_floats b_same b_upOf b_downOf b_tape b_open b_made b_paper b_reachUp b_reachDown b_reachHow b_reachFirst b_reachSecond b_begins b_carried c_hasImage c_above c_below c_orderMany c_waitMany c_seed c_size c_openMany c_paperMany c_reachMany c_now_r61)) (va_runV (As := [.int ((1 : Int32) + p1), .int p2, .int p3, .int (r30 + r35)]) (rest := []) ⟨hx, hb, hml, hown, hts⟩ (mX11_kept l D cy H.size b b_now b_imaged b_valueUp b_valueDown b_real b_brief b_order b_waits b_floats b_same b_upOf b_downOf b_tape b_open b_made b_paper b_reachUp b_reachDown b_reachHow b_reachFirst b_reachSecond b_begins b_carried c_hasImage c_above c_below c_orderMany c_waitMany c_seed c_size c_openMany c_paperMany c_reachMany c_now ((1 : Int32) + p1) p2 p3 (r30 + r35) (r61, c_now_r61) hq61) (cwV 4 hts gX11_join_X11_kept rfl rfl rfl ⟨rfl, cdX11_kept⟩ ⟨Nat.le_of_ble_eq_true rfl, Nat.le_of_ble_eq_true rfl⟩) (zPV hK hP hD [0, 1] rfl rfl (q0 := 0) (ci := 11) rfl rfl rfl) rfl rfl hl.1 rfl (lv_room (Nat.le_of_ble_eq_true rfl)) dX11_join_61 ⟨Nat.zero_le _, Nat.zero_le _⟩) hP hD hS hA [0, 1] [] [0, 1] rfl rfl rfl rfl (fun H locs hP hD hS => ?_)
          exact hret (o := (r61, c_now_r61)) h hP hD hS dX11_join_64
        · replace h := zi_f hc45 h
          refine lv_bipush (v := (-7 : Int32)) hx hb dX11_join_48 (by decide) ?_
          refine lv_goto (tgt := 64) hx hb dX11_join_50 (by decide) ?_
          exact hret (o := ((-7 : Int32), c_now)) h hP hD hS dX11_join_64
      · replace h := zi_t hc23 h
        refine lv_iconst (v := (-1 : Int32)) hx hb dX11_join_26 (by decide) ?_
        exact hret (o := ((-1 : Int32), c_now)) h hP hD hS dX11_join_27

theorem uX11_usedBy_X11 : ∀ w ∈ u_ws RX11 TX11 33, w ∈ wsX11_usedBy := fun w h => (List.mem_cons_of_mem _ (List.mem_append_right _ h))
abbrev wdX11_usedBy (cy : Nat → ClassId) (b b_now b_imaged b_valueUp b_valueDown b_real b_brief b_order b_waits b_floats b_same b_upOf b_downOf b_tape b_open b_made b_paper b_reachUp b_reachDown b_reachHow b_reachFirst b_reachSecond b_begins b_carried : Nat) (c_hasImage : Int32) (c_above c_below : Int64) (c_orderMany c_waitMany c_seed c_size c_openMany c_paperMany c_reachMany : Int32) (c_now : Nat → Int32) : va_W := [(b, .inr (11, [.ref b_now, .ref b_imaged, .int c_hasImage, .long c_above, .long c_below, .ref b_valueUp, .ref b_valueDown, .ref b_real, .ref b_brief, .ref b_order, .int c_orderMany, .ref b_waits, .int c_waitMany, .ref b_floats, .int c_seed, .ref b_same, .ref b_upOf, .ref b_downOf, .ref b_tape, .int c_size, .ref b_open, .int c_openMany, .ref b_made, .ref b_paper, .int c_paperMany, .ref b_reachUp, .ref b_reachDown, .ref b_reachHow, .ref b_reachFirst, .ref b_reachSecond, .ref b_begins, .int c_reachMany, .ref b_carried])), (b_now, .inl (cy 0, 261, .inl c_now))]
abbrev rmX11_usedBy : Room := { frames := 1, cells := 0, slots := 0, locals := 21 }
theorem cdX11_usedBy : (yX11_usedBy).cls ≠ "java/lang/invoke/MethodHandle" ∧ (yX11_usedBy).cls ≠ "java/lang/invoke/VarHandle" ∧ (parseMethodDescriptor (yX11_usedBy).desc).map (fun d => d.parameters.length) = some 1 := by decide +kernel
def fX11_usedBy_L4 (c_now : Nat → Int32) (p1 : Int32) : Nat → Int32 → Int32 → Option (Int32) :=
  zl2 (fun rec4 v2_4 v3_4 => if (c_now ((8 : Int32)).toNatClampNeg) ≤ v3_4 then (some (v2_4)) else (zb1 (fX11_kindOf v3_4 c_now) (fun r18 => if r18 ≤ 0 then (rec4 (v2_4 + (0 : Int32)) (v3_4 + (1 : Int32))) else (zb1 (fX11_firstOf v3_4 c_now) (fun r26 => if r26 = p1 then (rec4 (v2_4 + (1 : Int32)) (v3_4 + (1 : Int32))) else (zb1 (fX11_secondOf v3_4 c_now) (fun r35 => if r35 = p1 then (rec4 (v2_4 + (1 : Int32)) (v3_4 + (1 : Int32))) else (rec4 (v2_4 + (0 : Int32)) (v3_4 + (1 : Int32))))))))))
def fX11_usedBy (p1 : Int32) (c_now : Nat → Int32) : Option (Int32) :=
  fX11_usedBy_L4 c_now p1 5000 (0 : Int32) (0 : Int32)
set_option maxHeartbeats 4000000 in
set_option maxRecDepth 100000 in
theorem mX11_usedBy (l : Launch) (D : va_G) (cy : Nat → ClassId) (sz : Nat) (b b_now b_imaged b_valueUp b_valueDown b_real b_brief b_order b_waits b_floats b_same b_upOf b_downOf b_tape b_open b_made b_paper b_reachUp b_reachDown b_reachHow b_reachFirst b_reachSecond b_begins b_carried : Nat) (c_hasImage : Int32) (c_above c_below : Int64) (c_orderMany c_waitMany c_seed c_size c_openMany c_paperMany c_reachMany : Int32) (c_now : Nat → Int32) (p1 : Int32) (res : (Int32)) (h : fX11_usedBy p1 c_now = some res) : zMi l yX11_usedBy wsX11_usedBy rmX11_usedBy [.ref b, .int p1] D cy (wdX11_usedBy cy b b_now b_imaged b_valueUp b_valueDown b_real b_brief b_order b_waits b_floats b_same b_upOf b_downOf b_tape b_open b_made b_paper b_reachUp b_reachDown b_reachHow b_reachFirst b_reachSecond b_begins b_carried c_hasImage c_above c_below c_orderMany c_waitMany c_seed c_size c_openMany c_paperMany c_reachMany c_now) sz ((fun (o : (Int32)) => o) res) ((fun (o : (Int32)) => (wdX11_usedBy cy b b_now b_imaged b_valueUp b_valueDown b_real b_brief b_order b_waits b_floats b_same b_upOf b_downOf b_tape b_open b_made b_paper b_reachUp b_reachDown b_reachHow b_reachFirst b_reachSecond b_begins b_carried c_hasImage c_above c_below c_orderMany c_waitMany c_seed c_size c_openMany c_paperMany c_reachMany c_now)) res) := by
  refine zOfi (res := res) (rf := (fun (o : (Int32)) => o)) (Wf := (fun (o : (Int32)) => (wdX11_usedBy cy b b_now b_imaged b_valueUp b_valueDown b_real b_brief b_order b_waits b_floats b_same b_upOf b_downOf b_tape b_open b_made b_paper b_reachUp b_reachDown b_reachHow b_reachFirst b_reachSecond b_begins b_carried c_hasImage c_above c_below c_orderMany c_waitMany c_seed c_size c_openMany c_paperMany c_reachMany c_now))) (by decide +kernel) rfl (Nat.le_of_ble_eq_true rfl) ?_
  intro p e s m args below meth c A ls Q hx hb hml hts hown hP hK hD hA hS hl hret
  have hown : s.vm.findClass RX11 = some m.cls := hown
  have hl : lv_has ls 4 [(0, .ref b), (1, .int p1)] := hl
  refine lv_iconst (v := (0 : Int32)) hx hb dX11_usedBy_0 (by decide) ?_
  refine lv_istore_n (lv' := [(2, .int (0 : Int32)), (0, .ref b), (1, .int p1)]) hx hb dX11_usedBy_1 rfl hl (Nat.le_of_ble_eq_true rfl) rfl (fun ls hl => ?_)
  refine lv_iconst (v := (0 : Int32)) hx hb dX11_usedBy_2 (by decide) ?_
  refine lv_istore_n (lv' := [(3, .int (0 : Int32)), (2, .int (0 : Int32)), (0, .ref b), (1, .int p1)]) hx hb dX11_usedBy_3 rfl hl (Nat.le_of_ble_eq_true rfl) rfl (fun ls hl => ?_)
  have hL4 : ∀ n4 : Nat, ∀ (v2_4 v3_4 : Int32) (H : Heap) (locs : List Loc) (ls : Array Slot), va_P D vwCl (wdX11_usedBy cy b b_now b_imaged b_valueUp b_valueDown b_real b_brief b_order b_waits b_floats b_same b_upOf b_downOf b_tape b_open b_made b_paper b_reachUp b_reachDown b_reachHow b_reachFirst b_reachSecond b_begins b_carried c_hasImage c_above c_below c_orderMany c_waitMany c_seed c_size c_openMany c_paperMany c_reachMany c_now) H → va_D A (wdX11_usedBy cy b b_now b_imaged b_valueUp b_valueDown b_real b_brief b_order b_waits b_floats b_same b_upOf b_downOf b_tape b_open b_made b_paper b_reachUp b_reachDown b_reachHow b_reachFirst b_reachSecond b_begins b_carried c_hasImage c_above c_below c_orderMany c_waitMany c_seed c_size c_openMany c_paperMany c_reachMany c_now) → va_S A s.heap H locs → lv_has ls 4 [(0, .ref b), (1, .int p1), (2, .int v2_4), (3, .int v3_4)] → fX11_usedBy_L4 c_now p1 n4 v2_4 v3_4 = some res → W p l e rmX11_usedBy s m args below meth c H locs 0 0 Q (F0 m 4 ls []) := by
    intro n4
    induction n4 with
    | zero =>
      intro v2_4 v3_4 H locs ls hP hD hS hl h
      exact zl2_0 h
    | succ n4 ih4 =>
      intro v2_4 v3_4 H locs ls hP hD hS hl h
      replace h := zl2_s h
      refine lv_iload_n hx hb dX11_usedBy_4 rfl (lv_at hl 3 rfl) ?_
      refine lv_aload_n hx hb dX11_usedBy_5 rfl (lv_at hl 0 rfl) ?_
      refine va_get (D := D) (ci := 11) (v := .ref b_now) (C := RX11) (T := TX11) (N := 33) hx hb hts uX11_usedBy_X11 hown hK.1 hP 0 rfl rfl 0 (by decide) (hts (.fieldLink RX11 9 "WishedResistorModel" "now" "[I") (List.mem_of_getElem? (i := 1) rfl)) (fun _ h9 => h9) rfl dX11_usedBy_6 ?_
      refine lv_bipush (v := (8 : Int32)) hx hb dX11_usedBy_9 (by decide) ?_
      refine va_iald hx hb hK.1 hP 1 0 rfl rfl (show zin (8 : Int32) 261 from by decide) dX11_usedBy_11 ?_
      refine lv_icmp_ge (tgt := 55) hx hb dX11_usedBy_12 (by decide) (fun hc12 => ?_) (fun hc12 => ?_)
      · replace h := zi_t hc12 h
        refine lv_iload_n hx hb dX11_usedBy_55 rfl (lv_at hl 2 rfl) ?_
        exact hret (o := (v2_4)) h hP hD hS dX11_usedBy_56
      · replace h := zi_f hc12 h
        refine lv_iload_n hx hb dX11_usedBy_15 rfl (lv_at hl 2 rfl) ?_
        refine lv_aload_n hx hb dX11_usedBy_16 rfl (lv_at hl 0 rfl) ?_
        refine lv_iload_n hx hb dX11_usedBy_17 rfl (lv_at hl 3 rfl) ?_
        obtain ⟨r18, hq18, h⟩ := zb1_s h
        refine zCi (r0 := r18) (w1 := (wdX11_kindOf cy b b_now b_imaged b_valueUp b_valueDown b_real b_brief b_order b_waits b_floats b_same b_upOf b_downOf b_tape b_open b_made b_paper b_reachUp b_reachDown b_reachHow b_reachFirst b_reachSecond b_begins b_carried c_hasImage c_above c_below c_orderMany c_waitMany c_seed c_size c_openMany c_paperMany c_reachMany c_now)) (ws' := (wdX11_usedBy cy b b_now b_imaged b_valueUp b_valueDown b_real b_brief b_order b_waits b_floats b_same b_upOf b_downOf b_tape b_open b_made b_paper b_reachUp b_reachDown b_reachHow b_reachFirst b_reachSecond b_begins b_carried c_hasImage c_above c_below c_orderMany c_waitMany c_seed c_size c_openMany c_paperMany c_reachMany c_now)) (va_runV (As := [.int v3_4]) (rest := [.int v2_4]) ⟨hx, hb, hml, hown, hts⟩ (mX11_kindOf l D cy H.size b b_now b_imaged b_valueUp b_valueDown b_real b_brief b_order b_waits b_floats b_same b_upOf b_downOf b_tape b_open b_made b_paper b_reachUp b_reachDown b_reachHow b_reachFirst b_reachSecond b_begins b_carried c_hasImage c_above c_below c_orderMany c_waitMany c_seed c_size c_openMany c_paperMany c_reachMany c_now v3_4 (r18) hq18) (cwV 1 hts gX11_usedBy_X11_kindOf rfl rfl rfl ⟨rfl, cdX11_kindOf⟩ ⟨Nat.le_of_ble_eq_true rfl, Nat.le_of_ble_eq_true rfl⟩) (zPV hK hP hD [0, 1] rfl rfl (q0 := 0) (ci := 11) rfl rfl rfl) rfl rfl hl.1 rfl (lv_room (Nat.le_of_ble_eq_true rfl)) dX11_usedBy_18 ⟨Nat.zero_le _, Nat.zero_le _⟩) hP hD hS hA [0, 1] [] [0, 1] rfl rfl rfl rfl (fun H locs hP hD hS => ?_)
        refine lv_if_le (tgt := 46) hx hb dX11_usedBy_21 (by decide) (fun hc21 => ?_) (fun hc21 => ?_)
        · replace h := zi_t hc21 h
          refine lv_iconst (v := (0 : Int32)) hx hb dX11_usedBy_46 (by decide) ?_
          refine lv_iadd hx hb dX11_usedBy_47 ?_
          refine lv_istore_n (lv' := [(2, .int (v2_4 + (0 : Int32))), (0, .ref b), (1, .int p1), (3, .int v3_4)]) hx hb dX11_usedBy_48 rfl hl (Nat.le_of_ble_eq_true rfl) rfl (fun ls hl => ?_)
          refine lv_iinc (v := (v3_4 + (1 : Int32))) (lv' := [(3, .int (v3_4 + (1 : Int32))), (2, .int (v2_4 + (0 : Int32))), (0, .ref b), (1, .int p1)]) hx hb dX11_usedBy_49 hl (k := 3) rfl (by rfl) (Nat.le_of_ble_eq_true rfl) rfl (fun ls hl => ?_)
          refine lv_goto (tgt := 4) hx hb dX11_usedBy_52 (by decide) ?_
          exact ih4 (v2_4 + (0 : Int32)) (v3_4 + (1 : Int32)) _ _ _ hP hD hS (lv_sub hl [2, 3, 1, 0] rfl) h
        · replace h := zi_f hc21 h
          refine lv_aload_n hx hb dX11_usedBy_24 rfl (lv_at hl 0 rfl) ?_
          refine lv_iload_n hx hb dX11_usedBy_25 rfl (lv_at hl 3 rfl) ?_
          obtain ⟨r26, hq26, h⟩ := zb1_s h
          refine zCi (r0 := r26) (w1 := (wdX11_firstOf cy b b_now b_imaged b_valueUp b_valueDown b_real b_brief b_order b_waits b_floats b_same b_upOf b_downOf b_tape b_open b_made b_paper b_reachUp b_reachDown b_reachHow b_reachFirst b_reachSecond b_begins b_carried c_hasImage c_above c_below c_orderMany c_waitMany c_seed c_size c_openMany c_paperMany c_reachMany c_now)) (ws' := (wdX11_usedBy cy b b_now b_imaged b_valueUp b_valueDown b_real b_brief b_order b_waits b_floats b_same b_upOf b_downOf b_tape b_open b_made b_paper b_reachUp b_reachDown b_reachHow b_reachFirst b_reachSecond b_begins b_carried c_hasImage c_above c_below c_orderMany c_waitMany c_seed c_size c_openMany c_paperMany c_reachMany c_now)) (va_runV (As := [.int v3_4]) (rest := [.int v2_4]) ⟨hx, hb, hml, hown, hts⟩ (mX11_firstOf l D cy H.size b b_now b_imaged b_valueUp b_valueDown b_real b_brief b_order b_waits b_floats b_same b_upOf b_downOf b_tape b_open b_made b_paper b_reachUp b_reachDown b_reachHow b_reachFirst b_reachSecond b_begins b_carried c_hasImage c_above c_below c_orderMany c_waitMany c_seed c_size c_openMany c_paperMany c_reachMany c_now v3_4 (r26) hq26) (cwV 1 hts gX11_usedBy_X11_firstOf rfl rfl rfl ⟨rfl, cdX11_firstOf⟩ ⟨Nat.le_of_ble_eq_true rfl, Nat.le_of_ble_eq_true rfl⟩) (zPV hK hP hD [0, 1] rfl rfl (q0 := 0) (ci := 11) rfl rfl rfl) rfl rfl hl.1 rfl (lv_room (Nat.le_of_ble_eq_true rfl)) dX11_usedBy_26 ⟨Nat.zero_le _, Nat.zero_le _⟩) hP hD hS hA [0, 1] [] [0, 1] rfl rfl rfl rfl (fun H locs hP hD hS => ?_)
          refine lv_iload_n hx hb dX11_usedBy_29 rfl (lv_at hl 1 rfl) ?_
          refine lv_icmp_eq (tgt := 42) hx hb dX11_usedBy_30 (by decide) (fun hc30 => ?_) (fun hc30 => ?_)
          · replace h := zi_t hc30 h
            refine lv_iconst (v := (1 : Int32)) hx hb dX11_usedBy_42 (by decide) ?_
            refine lv_goto (tgt := 47) hx hb dX11_usedBy_43 (by decide) ?_
            refine lv_iadd hx hb dX11_usedBy_47 ?_
            refine lv_istore_n (lv' := [(2, .int (v2_4 + (1 : Int32))), (0, .ref b), (1, .int p1), (3, .int v3_4)]) hx hb dX11_usedBy_48 rfl hl (Nat.le_of_ble_eq_true rfl) rfl (fun ls hl => ?_)
            refine lv_iinc (v := (v3_4 + (1 : Int32))) (lv' := [(3, .int (v3_4 + (1 : Int32))), (2, .int (v2_4 + (1 : Int32))), (0, .ref b), (1, .int p1)]) hx hb dX11_usedBy_49 hl (k := 3) rfl (by rfl) (Nat.le_of_ble_eq_true rfl) rfl (fun ls hl => ?_)
            refine lv_goto (tgt := 4) hx hb dX11_usedBy_52 (by decide) ?_
            exact ih4 (v2_4 + (1 : Int32)) (v3_4 + (1 : Int32)) _ _ _ hP hD hS (lv_sub hl [2, 3, 1, 0] rfl) h
          · replace h := zi_f hc30 h
            refine lv_aload_n hx hb dX11_usedBy_33 rfl (lv_at hl 0 rfl) ?_
            refine lv_iload_n hx hb dX11_usedBy_34 rfl (lv_at hl 3 rfl) ?_
            obtain ⟨r35, hq35, h⟩ := zb1_s h
            refine zCi (r0 := r35) (w1 := (wdX11_secondOf cy b b_now b_imaged b_valueUp b_valueDown b_real b_brief b_order b_waits b_floats b_same b_upOf b_downOf b_tape b_open b_made b_paper b_reachUp b_reachDown b_reachHow b_reachFirst b_reachSecond b_begins b_carried c_hasImage c_above c_below c_orderMany c_waitMany c_seed c_size c_openMany c_paperMany c_reachMany c_now)) (ws' := (wdX11_usedBy cy b b_now b_imaged b_valueUp b_valueDown b_real b_brief b_order b_waits b_floats b_same b_upOf b_downOf b_tape b_open b_made b_paper b_reachUp b_reachDown b_reachHow b_reachFirst b_reachSecond b_begins b_carried c_hasImage c_above c_below c_orderMany c_waitMany c_seed c_size c_openMany c_paperMany c_reachMany c_now)) (va_runV (As := [.int v3_4]) (rest := [.int v2_4]) ⟨hx, hb, hml, hown, hts⟩ (mX11_secondOf l D cy H.size b b_now b_imaged b_valueUp b_valueDown b_real b_brief b_order b_waits b_floats b_same b_upOf b_downOf b_tape b_open b_made b_paper b_reachUp b_reachDown b_reachHow b_reachFirst b_reachSecond b_begins b_carried c_hasImage c_above c_below c_orderMany c_waitMany c_seed c_size c_openMany c_paperMany c_reachMany c_now v3_4 (r35) hq35) (cwV 1 hts gX11_usedBy_X11_secondOf rfl rfl rfl ⟨rfl, cdX11_secondOf⟩ ⟨Nat.le_of_ble_eq_true rfl, Nat.le_of_ble_eq_true rfl⟩) (zPV hK hP hD [0, 1] rfl rfl (q0 := 0) (ci := 11) rfl rfl rfl) rfl rfl hl.1 rfl (lv_room (Nat.le_of_ble_eq_true rfl)) dX11_usedBy_35 ⟨Nat.zero_le _, Nat.zero_le _⟩) hP hD hS hA [0, 1] [] [0, 1] rfl rfl rfl rfl (fun H locs hP hD hS => ?_)
            refine lv_iload_n hx hb dX11_usedBy_38 rfl (lv_at hl 1 rfl) ?_
            refine lv_icmp_ne (tgt := 46) hx hb dX11_usedBy_39 (by decide) (fun hc39 => ?_) (fun hc39 => ?_)
            · replace h := zi_f hc39 h
              refine lv_iconst (v := (0 : Int32)) hx hb dX11_usedBy_46 (by decide) ?_
              refine lv_iadd hx hb dX11_usedBy_47 ?_
              refine lv_istore_n (lv' := [(2, .int (v2_4 + (0 : Int32))), (0, .ref b), (1, .int p1), (3, .int v3_4)]) hx hb dX11_usedBy_48 rfl hl (Nat.le_of_ble_eq_true rfl) rfl (fun ls hl => ?_)
              refine lv_iinc (v := (v3_4 + (1 : Int32))) (lv' := [(3, .int (v3_4 + (1 : Int32))), (2, .int (v2_4 + (0 : Int32))), (0, .ref b), (1, .int p1)]) hx hb dX11_usedBy_49 hl (k := 3) rfl (by rfl) (Nat.le_of_ble_eq_true rfl) rfl (fun ls hl => ?_)
              refine lv_goto (tgt := 4) hx hb dX11_usedBy_52 (by decide) ?_
              exact ih4 (v2_4 + (0 : Int32)) (v3_4 + (1 : Int32)) _ _ _ hP hD hS (lv_sub hl [2, 3, 1, 0] rfl) h
            · replace h := zi_t hc39 h
              refine lv_iconst (v := (1 : Int32)) hx hb dX11_usedBy_42 (by decide) ?_
              refine lv_goto (tgt := 47) hx hb dX11_usedBy_43 (by decide) ?_
              refine lv_iadd hx hb dX11_usedBy_47 ?_
              refine lv_istore_n (lv' := [(2, .int (v2_4 + (1 : Int32))), (0, .ref b), (1, .int p1), (3, .int v3_4)]) hx hb dX11_usedBy_48 rfl hl (Nat.le_of_ble_eq_true rfl) rfl (fun ls hl => ?_)
              refine lv_iinc (v := (v3_4 + (1 : Int32))) (lv' := [(3, .int (v3_4 + (1 : Int32))), (2, .int (v2_4 + (1 : Int32))), (0, .ref b), (1, .int p1)]) hx hb dX11_usedBy_49 hl (k := 3) rfl (by rfl) (Nat.le_of_ble_eq_true rfl) rfl (fun ls hl => ?_)
              refine lv_goto (tgt := 4) hx hb dX11_usedBy_52 (by decide) ?_
              exact ih4 (v2_4 + (1 : Int32)) (v3_4 + (1 : Int32)) _ _ _ hP hD hS (lv_sub hl [2, 3, 1, 0] rfl) h
  exact hL4 5000 (0 : Int32) (0 : Int32) _ _ _ hP hD hS (lv_sub hl [2, 3, 1, 0] rfl) h

abbrev wdX11_net (cy : Nat → ClassId) (b b_now b_imaged b_valueUp b_valueDown b_real b_brief b_order b_waits b_floats b_same b_upOf b_downOf b_tape b_open b_made b_paper b_reachUp b_reachDown b_reachHow b_reachFirst b_reachSecond b_begins b_carried : Nat) (c_hasImage : Int32) (c_above c_below : Int64) (c_orderMany c_waitMany c_seed c_size c_openMany c_paperMany c_reachMany : Int32) (c_now : Nat → Int32) : va_W := [(b, .inr (11, [.ref b_now, .ref b_imaged, .int c_hasImage, .long c_above, .long c_below, .ref b_valueUp, .ref b_valueDown, .ref b_real, .ref b_brief, .ref b_order, .int c_orderMany, .ref b_waits, .int c_waitMany, .ref b_floats, .int c_seed, .ref b_same, .ref b_upOf, .ref b_downOf, .ref b_tape, .int c_size, .ref b_open, .int c_openMany, .ref b_made, .ref b_paper, .int c_paperMany, .ref b_reachUp, .ref b_reachDown, .ref b_reachHow, .ref b_reachFirst, .ref b_reachSecond, .ref b_begins, .int c_reachMany, .ref b_carried])), (b_now, .inl (cy 0, 261, .inl c_now))]
abbrev rmX11_net : Room := { frames := 2, cells := 0, slots := 0, locals := 46 }
theorem cdX11_net : (yX11_net).cls ≠ "java/lang/invoke/MethodHandle" ∧ (yX11_net).cls ≠ "java/lang/invoke/VarHandle" ∧ (parseMethodDescriptor (yX11_net).desc).map (fun d => d.parameters.length) = some 2 := by decide +kernel
def fX11_net (p1 p2 : Int32) (c_now : Nat → Int32) : Option (Int32) :=
  zb1 (fX11_isNet p1 c_now) (fun r2 => if r2 = 0 then (some ((-1 : Int32))) else (zb1 (fX11_in ((p2).toInt64) (0 : Int64) (4 : Int64)) (fun r14 => if r14 = 0 then (some ((-1 : Int32))) else (if p2 = (0 : Int32) then (zb1 (fX11_kindOf p1 c_now) (fun r54 => some (r54))) else (if p2 = (1 : Int32) then (zb1 (fX11_firstOf p1 c_now) (fun r60 => some (r60))) else (if p2 = (2 : Int32) then (zb1 (fX11_kindOf p1 c_now) (fun r66 => if r66 = 0 then (some ((-2 : Int32))) else (zb1 (fX11_secondOf p1 c_now) (fun r79 => some (r79))))) else (if p2 = (3 : Int32) then (zb1 (fX11_partsOf p1 c_now) (fun r85 => some (r85))) else (zb1 (fX11_usedBy p1 c_now) (fun r91 => some (r91))))))))))
set_option maxHeartbeats 4000000 in
set_option maxRecDepth 100000 in
theorem mX11_net (l : Launch) (D : va_G) (cy : Nat → ClassId) (sz : Nat) (b b_now b_imaged b_valueUp b_valueDown b_real b_brief b_order b_waits b_floats b_same b_upOf b_downOf b_tape b_open b_made b_paper b_reachUp b_reachDown b_reachHow b_reachFirst b_reachSecond b_begins b_carried : Nat) (c_hasImage : Int32) (c_above c_below : Int64) (c_orderMany c_waitMany c_seed c_size c_openMany c_paperMany c_reachMany : Int32) (c_now : Nat → Int32) (p1 p2 : Int32) (res : (Int32)) (h : fX11_net p1 p2 c_now = some res) : zMi l yX11_net wsX11_net rmX11_net [.ref b, .int p1, .int p2] D cy (wdX11_net cy b b_now b_imaged b_valueUp b_valueDown b_real b_brief b_order b_waits b_floats b_same b_upOf b_downOf b_tape b_open b_made b_paper b_reachUp b_reachDown b_reachHow b_reachFirst b_reachSecond b_begins b_carried c_hasImage c_above c_below c_orderMany c_waitMany c_seed c_size c_openMany c_paperMany c_reachMany c_now) sz ((fun (o : (Int32)) => o) res) ((fun (o : (Int32)) => (wdX11_net cy b b_now b_imaged b_valueUp b_valueDown b_real b_brief b_order b_waits b_floats b_same b_upOf b_downOf b_tape b_open b_made b_paper b_reachUp b_reachDown b_reachHow b_reachFirst b_reachSecond b_begins b_carried c_hasImage c_above c_below c_orderMany c_waitMany c_seed c_size c_openMany c_paperMany c_reachMany c_now)) res) := by
  refine zOfi (res := res) (rf := (fun (o : (Int32)) => o)) (Wf := (fun (o : (Int32)) => (wdX11_net cy b b_now b_imaged b_valueUp b_valueDown b_real b_brief b_order b_waits b_floats b_same b_upOf b_downOf b_tape b_open b_made b_paper b_reachUp b_reachDown b_reachHow b_reachFirst b_reachSecond b_begins b_carried c_hasImage c_above c_below c_orderMany c_waitMany c_seed c_size c_openMany c_paperMany c_reachMany c_now))) (by decide +kernel) rfl (Nat.le_of_ble_eq_true rfl) ?_
  intro p e s m args below meth c A ls Q hx hb hml hts hown hP hK hD hA hS hl hret
  have hown : s.vm.findClass RX11 = some m.cls := hown
  have hl : lv_has ls 3 [(0, .ref b), (1, .int p1), (2, .int p2)] := hl
  refine lv_aload_n hx hb dX11_net_0 rfl (lv_at hl 0 rfl) ?_
  refine lv_iload_n hx hb dX11_net_1 rfl (lv_at hl 1 rfl) ?_
  obtain ⟨r2, hq2, h⟩ := zb1_s h
  refine zCz (r0 := r2) (w1 := (wdX11_isNet cy b b_now b_imaged b_valueUp b_valueDown b_real b_brief b_order b_waits b_floats b_same b_upOf b_downOf b_tape b_open b_made b_paper b_reachUp b_reachDown b_reachHow b_reachFirst b_reachSecond b_begins b_carried c_hasImage c_above c_below c_orderMany c_waitMany c_seed c_size c_openMany c_paperMany c_reachMany c_now)) (ws' := (wdX11_net cy b b_now b_imaged b_valueUp b_valueDown b_real b_brief b_order b_waits b_floats b_same b_upOf b_downOf b_tape b_open b_made b_paper b_reachUp b_reachDown b_reachHow b_reachFirst b_reachSecond b_begins b_carried c_hasImage c_above c_below c_orderMany c_waitMany c_seed c_size c_openMany c_paperMany c_reachMany c_now)) (va_runV (As := [.int p1]) (rest := []) ⟨hx, hb, hml, hown, hts⟩ (mX11_isNet l D cy s.heap.size b b_now b_imaged b_valueUp b_valueDown b_real b_brief b_order b_waits b_floats b_same b_upOf b_downOf b_tape b_open b_made b_paper b_reachUp b_reachDown b_reachHow b_reachFirst b_reachSecond b_begins b_carried c_hasImage c_above c_below c_orderMany c_waitMany c_seed c_size c_openMany c_paperMany c_reachMany c_now p1 (r2) hq2) (cwV 1 hts gX11_net_X11_isNet rfl rfl rfl ⟨rfl, cdX11_isNet⟩ ⟨Nat.le_of_ble_eq_true rfl, Nat.le_of_ble_eq_true rfl⟩) (zPV hK hP hD [0, 1] rfl rfl (q0 := 0) (ci := 11) rfl rfl rfl) rfl rfl hl.1 rfl (lv_room (Nat.le_of_ble_eq_true rfl)) dX11_net_2 ⟨Nat.zero_le _, Nat.zero_le _⟩) hP hD hS hA [0, 1] [] [0, 1] rfl rfl rfl rfl (fun H locs hn2 hP hD hS => ?_)
  refine lv_if_eq (tgt := 20) hx hb dX11_net_5 (by decide) (fun hc5 => ?_) (fun hc5 => ?_)
  · replace h := zi_t hc5 h
    refine lv_iconst (v := (-1 : Int32)) hx hb dX11_net_20 (by decide) ?_
    exact hret (o := ((-1 : Int32))) h hP hD hS dX11_net_21
  · replace h := zi_f hc5 h
    refine lv_iload_n hx hb dX11_net_8 rfl (lv_at hl 2 rfl) ?_
    refine lv_i2l hx hb dX11_net_9 rfl ?_
    refine lv_lconst (v := (0 : Int64)) hx hb dX11_net_10 (by decide) ?_
    refine lv_ldc2 hx hb hown (hts (.constantLong RX11 127 (4)) (List.mem_of_getElem? (i := 1) rfl)) dX11_net_11 ?_
    obtain ⟨r14, hq14, h⟩ := zb1_s h
    refine zCz0 (r0 := r14) (va_runS (As := [.long ((p2).toInt64), .long (0 : Int64), .long (4 : Int64)]) (rest := []) ⟨hx, hb, hml, hown, hts⟩ (mX11_in l D cy H.size ((p2).toInt64) (0 : Int64) (4 : Int64) (r14) hq14) (va_cwS 3 hts gX11_net_X11_in rfl rfl rfl cdX11_in ⟨Nat.le_of_ble_eq_true rfl, Nat.le_of_ble_eq_true rfl⟩) (zPS hK hP hD [] rfl rfl) rfl rfl hl.1 rfl (lv_room (Nat.le_of_ble_eq_true rfl)) dX11_net_14 ⟨Nat.zero_le _, Nat.zero_le _⟩) hP hD hS hA (fun H locs hn14 hP hD hS => ?_)
    refine lv_if_ne (tgt := 22) hx hb dX11_net_17 (by decide) (fun hc17 => ?_) (fun hc17 => ?_)
    · replace h := zi_f hc17 h
      refine lv_iload_n hx hb dX11_net_22 rfl (lv_at hl 2 rfl) ?_
      by_cases hw23_0 : p2 = (0 : Int32)
      · replace h := zi_t hw23_0 h
        refine lv_tableIn (tgt := 52) (off := 29) hx hb dX11_net_23 (by rw [hw23_0]; decide) (by rw [hw23_0]; decide) (by rw [hw23_0]; rfl) (by decide) ?_
        refine lv_aload_n hx hb dX11_net_52 rfl (lv_at hl 0 rfl) ?_
        refine lv_iload_n hx hb dX11_net_53 rfl (lv_at hl 1 rfl) ?_
        obtain ⟨r54, hq54, h⟩ := zb1_s h
        refine zCi (r0 := r54) (w1 := (wdX11_kindOf cy b b_now b_imaged b_valueUp b_valueDown b_real b_brief b_order b_waits b_floats b_same b_upOf b_downOf b_tape b_open b_made b_paper b_reachUp b_reachDown b_reachHow b_reachFirst b_reachSecond b_begins b_carried c_hasImage c_above c_below c_orderMany c_waitMany c_seed c_size c_openMany c_paperMany c_reachMany c_now)) (ws' := (wdX11_net cy b b_now b_imaged b_valueUp b_valueDown b_real b_brief b_order b_waits b_floats b_same b_upOf b_downOf b_tape b_open b_made b_paper b_reachUp b_reachDown b_reachHow b_reachFirst b_reachSecond b_begins b_carried c_hasImage c_above c_below c_orderMany c_waitMany c_seed c_size c_openMany c_paperMany c_reachMany c_now)) (va_runV (As := [.int p1]) (rest := []) ⟨hx, hb, hml, hown, hts⟩ (mX11_kindOf l D cy H.size b b_now b_imaged b_valueUp b_valueDown b_real b_brief b_order b_waits b_floats b_same b_upOf b_downOf b_tape b_open b_made b_paper b_reachUp b_reachDown b_reachHow b_reachFirst b_reachSecond b_begins b_carried c_hasImage c_above c_below c_orderMany c_waitMany c_seed c_size c_openMany c_paperMany c_reachMany c_now p1 (r54) hq54) (cwV 1 hts gX11_net_X11_kindOf rfl rfl rfl ⟨rfl, cdX11_kindOf⟩ ⟨Nat.le_of_ble_eq_true rfl, Nat.le_of_ble_eq_true rfl⟩) (zPV hK hP hD [0, 1] rfl rfl (q0 := 0) (ci := 11) rfl rfl rfl) rfl rfl hl.1 rfl (lv_room (Nat.le_of_ble_eq_true rfl)) dX11_net_54 ⟨Nat.zero_le _, Nat.zero_le _⟩) hP hD hS hA [0, 1] [] [0, 1] rfl rfl rfl rfl (fun H locs hP hD hS => ?_)
        exact hret (o := (r54)) h hP hD hS dX11_net_57
      · replace h := zi_f hw23_0 h
        by_cases hw23_1 : p2 = (1 : Int32)
        · replace h := zi_t hw23_1 h
          refine lv_tableIn (tgt := 58) (off := 35) hx hb dX11_net_23 (by rw [hw23_1]; decide) (by rw [hw23_1]; decide) (by rw [hw23_1]; rfl) (by decide) ?_
          refine lv_aload_n hx hb dX11_net_58 rfl (lv_at hl 0 rfl) ?_
          refine lv_iload_n hx hb dX11_net_59 rfl (lv_at hl 1 rfl) ?_
          obtain ⟨r60, hq60, h⟩ := zb1_s h
          refine zCi (r0 := r60) (w1 := (wdX11_firstOf cy b b_now b_imaged b_valueUp b_valueDown b_real b_brief b_order b_waits b_floats b_same b_upOf b_downOf b_tape b_open b_made b_paper b_reachUp b_reachDown b_reachHow b_reachFirst b_reachSecond b_begins b_carried c_hasImage c_above c_below c_orderMany c_waitMany c_seed c_size c_openMany c_paperMany c_reachMany c_now)) (ws' := (wdX11_net cy b b_now b_imaged b_valueUp b_valueDown b_real b_brief b_order b_waits b_floats b_same b_upOf b_downOf b_tape b_open b_made b_paper b_reachUp b_reachDown b_reachHow b_reachFirst b_reachSecond b_begins b_carried c_hasImage c_above c_below c_orderMany c_waitMany c_seed c_size c_openMany c_paperMany c_reachMany c_now)) (va_runV (As := [.int p1]) (rest := []) ⟨hx, hb, hml, hown, hts⟩ (mX11_firstOf l D cy H.size b b_now b_imaged b_valueUp b_valueDown b_real b_brief b_order b_waits b_floats b_same b_upOf b_downOf b_tape b_open b_made b_paper b_reachUp b_reachDown b_reachHow b_reachFirst b_reachSecond b_begins b_carried c_hasImage c_above c_below c_orderMany c_waitMany c_seed c_size c_openMany c_paperMany c_reachMany c_now p1 (r60) hq60) (cwV 1 hts gX11_net_X11_firstOf rfl rfl rfl ⟨rfl, cdX11_firstOf⟩ ⟨Nat.le_of_ble_eq_true rfl, Nat.le_of_ble_eq_true rfl⟩) (zPV hK hP hD [0, 1] rfl rfl (q0 := 0) (ci := 11) rfl rfl rfl) rfl rfl hl.1 rfl (lv_room (Nat.le_of_ble_eq_true rfl)) dX11_net_60 ⟨Nat.zero_le _, Nat.zero_le _⟩) hP hD hS hA [0, 1] [] [0, 1] rfl rfl rfl rfl (fun H locs hP hD hS => ?_)
          exact hret (o := (r60)) h hP hD hS dX11_net_63
        · replace h := zi_f hw23_1 h
          by_cases hw23_2 : p2 = (2 : Int32)
          · replace h := zi_t hw23_2 h
            refine lv_tableIn (tgt := 64) (off := 41) hx hb dX11_net_23 (by rw [hw23_2]; decide) (by rw [hw23_2]; decide) (by rw [hw23_2]; rfl) (by decide) ?_
            refine lv_aload_n hx hb dX11_net_64 rfl (lv_at hl 0 rfl) ?_
            refine lv_iload_n hx hb dX11_net_65 rfl (lv_at hl 1 rfl) ?_
            obtain ⟨r66, hq66, h⟩ := zb1_s h
            refine zCi (r0 := r66) (w1 := (wdX11_kindOf cy b b_now b_imaged b_valueUp b_valueDown b_real b_brief b_order b_waits b_floats b_same b_upOf b_downOf b_tape b_open b_made b_paper b_reachUp b_reachDown b_reachHow b_reachFirst b_reachSecond b_begins b_carried c_hasImage c_above c_below c_orderMany c_waitMany c_seed c_size c_openMany c_paperMany c_reachMany c_now)) (ws' := (wdX11_net cy b b_now b_imaged b_valueUp b_valueDown b_real b_brief b_order b_waits b_floats b_same b_upOf b_downOf b_tape b_open b_made b_paper b_reachUp b_reachDown b_reachHow b_reachFirst b_reachSecond b_begins b_carried c_hasImage c_above c_below c_orderMany c_waitMany c_seed c_size c_openMany c_paperMany c_reachMany c_now)) (va_runV (As := [.int p1]) (rest := []) ⟨hx, hb, hml, hown, hts⟩ (mX11_kindOf l D cy H.size b b_now b_imaged b_valueUp b_valueDown b_real b_brief b_order b_waits b_floats b_same b_upOf b_downOf b_tape b_open b_made b_paper b_reachUp b_reachDown b_reachHow b_reachFirst b_reachSecond b_begins b_carried c_hasImage c_above c_below c_orderMany c_waitMany c_seed c_size c_openMany c_paperMany c_reachMany c_now p1 (r66) hq66) (cwV 1 hts gX11_net_X11_kindOf rfl rfl rfl ⟨rfl, cdX11_kindOf⟩ ⟨Nat.le_of_ble_eq_true rfl, Nat.le_of_ble_eq_true rfl⟩) (zPV hK hP hD [0, 1] rfl rfl (q0 := 0) (ci := 11) rfl rfl rfl) rfl rfl hl.1 rfl (lv_room (Nat.le_of_ble_eq_true rfl)) dX11_net_66 ⟨Nat.zero_le _, Nat.zero_le _⟩) hP hD hS hA [0, 1] [] [0, 1] rfl rfl rfl rfl (fun H locs hP hD hS => ?_)
            refine lv_if_ne (tgt := 77) hx hb dX11_net_69 (by decide) (fun hc69 => ?_) (fun hc69 => ?_)
            · replace h := zi_f hc69 h
              refine lv_aload_n hx hb dX11_net_77 rfl (lv_at hl 0 rfl) ?_
              refine lv_iload_n hx hb dX11_net_78 rfl (lv_at hl 1 rfl) ?_
              obtain ⟨r79, hq79, h⟩ := zb1_s h
              refine zCi (r0 := r79) (w1 := (wdX11_secondOf cy b b_now b_imaged b_valueUp b_valueDown b_real b_brief b_order b_waits b_floats b_same b_upOf b_downOf b_tape b_open b_made b_paper b_reachUp b_reachDown b_reachHow b_reachFirst b_reachSecond b_begins b_carried c_hasImage c_above c_below c_orderMany c_waitMany c_seed c_size c_openMany c_paperMany c_reachMany c_now)) (ws' := (wdX11_net cy b b_now b_imaged b_valueUp b_valueDown b_real b_brief b_order b_waits b_floats b_same b_upOf b_downOf b_tape b_open b_made b_paper b_reachUp b_reachDown b_reachHow b_reachFirst b_reachSecond b_begins b_carried c_hasImage c_above c_below c_orderMany c_waitMany c_seed c_size c_openMany c_paperMany c_reachMany c_now)) (va_runV (As := [.int p1]) (rest := []) ⟨hx, hb, hml, hown, hts⟩ (mX11_secondOf l D cy H.size b b_now b_imaged b_valueUp b_valueDown b_real b_brief b_order b_waits b_floats b_same b_upOf b_downOf b_tape b_open b_made b_paper b_reachUp b_reachDown b_reachHow b_reachFirst b_reachSecond b_begins b_carried c_hasImage c_above c_below c_orderMany c_waitMany c_seed c_size c_openMany c_paperMany c_reachMany c_now p1 (r79) hq79) (cwV 1 hts gX11_net_X11_secondOf rfl rfl rfl ⟨rfl, cdX11_secondOf⟩ ⟨Nat.le_of_ble_eq_true rfl, Nat.le_of_ble_eq_true rfl⟩) (zPV hK hP hD [0, 1] rfl rfl (q0 := 0) (ci := 11) rfl rfl rfl) rfl rfl hl.1 rfl (lv_room (Nat.le_of_ble_eq_true rfl)) dX11_net_79 ⟨Nat.zero_le _, Nat.zero_le _⟩) hP hD hS hA [0, 1] [] [0, 1] rfl rfl rfl rfl (fun H locs hP hD hS => ?_)
              exact hret (o := (r79)) h hP hD hS dX11_net_82
            · replace h := zi_t hc69 h
              refine lv_bipush (v := (-2 : Int32)) hx hb dX11_net_72 (by decide) ?_
              refine lv_goto (tgt := 82) hx hb dX11_net_74 (by decide) ?_
              exact hret (o := ((-2 : Int32))) h hP hD hS dX11_net_82
          · replace h := zi_f hw23_2 h
            by_cases hw23_3 : p2 = (3 : Int32)
            · replace h := zi_t hw23_3 h
              refine lv_tableIn (tgt := 83) (off := 60) hx hb dX11_net_23 (by rw [hw23_3]; decide) (by rw [hw23_3]; decide) (by rw [hw23_3]; rfl) (by decide) ?_
              refine lv_aload_n hx hb dX11_net_83 rfl (lv_at hl 0 rfl) ?_
              refine lv_iload_n hx hb dX11_net_84 rfl (lv_at hl 1 rfl) ?_
              obtain ⟨r85, hq85, h⟩ := zb1_s h
              refine zCi (r0 := r85) (w1 := (wdX11_partsOf cy b b_now b_imaged b_valueUp b_valueDown b_real b_brief b_order b_waits b_floats b_same b_upOf b_downOf b_tape b_open b_made b_paper b_reachUp b_reachDown b_reachHow b_reachFirst b_reachSecond b_begins b_carried c_hasImage c_above c_below c_orderMany c_waitMany c_seed c_size c_openMany c_paperMany c_reachMany c_now)) (ws' := (wdX11_net cy b b_now b_imaged b_valueUp b_valueDown b_real b_brief b_order b_waits b_floats b_same b_upOf b_downOf b_tape b_open b_made b_paper b_reachUp b_reachDown b_reachHow b_reachFirst b_reachSecond b_begins b_carried c_hasImage c_above c_below c_orderMany c_waitMany c_seed c_size c_openMany c_paperMany c_reachMany c_now)) (va_runV (As := [.int p1]) (rest := []) ⟨hx, hb, hml, hown, hts⟩ (mX11_partsOf l D cy H.size b b_now b_imaged b_valueUp b_valueDown b_real b_brief b_order b_waits b_floats b_same b_upOf b_downOf b_tape b_open b_made b_paper b_reachUp b_reachDown b_reachHow b_reachFirst b_reachSecond b_begins b_carried c_hasImage c_above c_below c_orderMany c_waitMany c_seed c_size c_openMany c_paperMany c_reachMany c_now p1 (r85) hq85) (cwV 1 hts gX11_net_X11_partsOf rfl rfl rfl ⟨rfl, cdX11_partsOf⟩ ⟨Nat.le_of_ble_eq_true rfl, Nat.le_of_ble_eq_true rfl⟩) (zPV hK hP hD [0, 1] rfl rfl (q0 := 0) (ci := 11) rfl rfl rfl) rfl rfl hl.1 rfl (lv_room (Nat.le_of_ble_eq_true rfl)) dX11_net_85 ⟨Nat.zero_le _, Nat.zero_le _⟩) hP hD hS hA [0, 1] [] [0, 1] rfl rfl rfl rfl (fun H locs hP hD hS => ?_)
              exact hret (o := (r85)) h hP hD hS dX11_net_88
            · replace h := zi_f hw23_3 h
              refine lv_tableOut (tgt := 89) hx hb dX11_net_23 (by
                  have e0 : (p2).toInt ≠ 0 := fun e => hw23_0 (Int32.toInt_inj.mp (e.trans (by decide)))
                  have e1 : (p2).toInt ≠ 1 := fun e => hw23_1 (Int32.toInt_inj.mp (e.trans (by decide)))
                  have e2 : (p2).toInt ≠ 2 := fun e => hw23_2 (Int32.toInt_inj.mp (e.trans (by decide)))
                  have e3 : (p2).toInt ≠ 3 := fun e => hw23_3 (Int32.toInt_inj.mp (e.trans (by decide)))
                  omega) (by decide) ?_
              refine lv_aload_n hx hb dX11_net_89 rfl (lv_at hl 0 rfl) ?_
              refine lv_iload_n hx hb dX11_net_90 rfl (lv_at hl 1 rfl) ?_
              obtain ⟨r91, hq91, h⟩ := zb1_s h
              refine zCi (r0 := r91) (w1 := (wdX11_usedBy cy b b_now b_imaged b_valueUp b_valueDown b_real b_brief b_order b_waits b_floats b_same b_upOf b_downOf b_tape b_open b_made b_paper b_reachUp b_reachDown b_reachHow b_reachFirst b_reachSecond b_begins b_carried c_hasImage c_above c_below c_orderMany c_waitMany c_seed c_size c_openMany c_paperMany c_reachMany c_now)) (ws' := (wdX11_net cy b b_now b_imaged b_valueUp b_valueDown b_real b_brief b_order b_waits b_floats b_same b_upOf b_downOf b_tape b_open b_made b_paper b_reachUp b_reachDown b_reachHow b_reachFirst b_reachSecond b_begins b_carried c_hasImage c_above c_below c_orderMany c_waitMany c_seed c_size c_openMany c_paperMany c_reachMany c_now)) (va_runV (As := [.int p1]) (rest := []) ⟨hx, hb, hml, hown, hts⟩ (mX11_usedBy l D cy H.size b b_now b_imaged b_valueUp b_valueDown b_real b_brief b_order b_waits b_floats b_same b_upOf b_downOf b_tape b_open b_made b_paper b_reachUp b_reachDown b_reachHow b_reachFirst b_reachSecond b_begins b_carried c_hasImage c_above c_below c_orderMany c_waitMany c_seed c_size c_openMany c_paperMany c_reachMany c_now p1 (r91) hq91) (cwV 1 hts gX11_net_X11_usedBy rfl rfl rfl ⟨rfl, cdX11_usedBy⟩ ⟨Nat.le_of_ble_eq_true rfl, Nat.le_of_ble_eq_true rfl⟩) (zPV hK hP hD [0, 1] rfl rfl (q0 := 0) (ci := 11) rfl rfl rfl) rfl rfl hl.1 rfl (lv_room (Nat.le_of_ble_eq_true rfl)) dX11_net_91 ⟨Nat.zero_le _, Nat.zero_le _⟩) hP hD hS hA [0, 1] [] [0, 1] rfl rfl rfl rfl (fun H locs hP hD hS => ?_)
              exact hret (o := (r91)) h hP hD hS dX11_net_94
    · replace h := zi_t hc17 h
      refine lv_iconst (v := (-1 : Int32)) hx hb dX11_net_20 (by decide) ?_
      exact hret (o := ((-1 : Int32))) h hP hD hS dX11_net_21

abbrev rmX11_divisor : Room := { frames := 0, cells := 0, slots := 0, locals := 0 }
theorem cdX11_divisor : (yX11_divisor).cls ≠ "java/lang/invoke/MethodHandle" ∧ (yX11_divisor).cls ≠ "java/lang/invoke/VarHandle" ∧ (parseMethodDescriptor (yX11_divisor).desc).map (fun d => d.parameters.length) = some 2 := by decide +kernel
def fX11_divisor_L6  : Nat → Int64 → Int64 → Option (Int64) :=
  zl2 (fun rec6 v4_6 v6_6 => if v6_6 = (0 : Int64) then (some (v4_6)) else (zg (¬ v6_6 = 0) (rec6 v6_6 (v4_6 - v4_6 / v6_6 * v6_6))))
def fX11_divisor (p1 p2 : Int64) : Option (Int64) :=
  fX11_divisor_L6 5000 p1 p2
set_option maxHeartbeats 4000000 in
set_option maxRecDepth 100000 in
theorem mX11_divisor (l : Launch) (D : va_G) (cy : Nat → ClassId) (sz : Nat) (p1 p2 : Int64) (res : (Int64)) (h : fX11_divisor p1 p2 = some res) : zMl l yX11_divisor wsX11_divisor rmX11_divisor [.long p1, .long p2] D cy ([] : va_W) sz ((fun (o : (Int64)) => o) res) ((fun (_ : (Int64)) => ([] : va_W)) res) := by
  refine zOfl (res := res) (rf := (fun (o : (Int64)) => o)) (Wf := (fun (_ : (Int64)) => ([] : va_W))) (by decide +kernel) rfl (Nat.le_of_ble_eq_true rfl) ?_
  intro p e s m args below meth c A ls Q hx hb hml hts hown hP hK hD hA hS hl hret
  have hown : s.vm.findClass RX11 = some m.cls := hown
  have hl : lv_has ls 10 [(0, .long p1), (2, .long p2)] := hl
  refine lv_lload_n hx hb dX11_divisor_0 rfl (lv_at hl 0 rfl) ?_
  refine lv_lstore (lv' := [(4, .long p1), (0, .long p1), (2, .long p2)]) hx hb dX11_divisor_1 hl (Nat.le_of_ble_eq_true rfl) rfl (fun ls hl => ?_)
  refine lv_lload_n hx hb dX11_divisor_3 rfl (lv_at hl 2 rfl) ?_
  refine lv_lstore (lv' := [(6, .long p2), (4, .long p1), (0, .long p1), (2, .long p2)]) hx hb dX11_divisor_4 hl (Nat.le_of_ble_eq_true rfl) rfl (fun ls hl => ?_)
  have hL6 : ∀ n6 : Nat, ∀ (v4_6 v6_6 : Int64) (H : Heap) (locs : List Loc) (ls : Array Slot), va_P D vwCl ([] : va_W) H → va_D A ([] : va_W) → va_S A s.heap H locs → lv_has ls 10 [(4, .long v4_6), (6, .long v6_6)] → fX11_divisor_L6 n6 v4_6 v6_6 = some res → W p l e rmX11_divisor s m args below meth c H locs 0 0 Q (F0 m 6 ls []) := by
    intro n6
    induction n6 with
    | zero =>
      intro v4_6 v6_6 H locs ls hP hD hS hl h
      exact zl2_0 h
    | succ n6 ih6 =>
      intro v4_6 v6_6 H locs ls hP hD hS hl h
      replace h := zl2_s h
      refine lv_lload hx hb dX11_divisor_6 (lv_at hl 1 rfl) ?_
      refine lv_lconst (v := (0 : Int64)) hx hb dX11_divisor_8 (by decide) ?_
      refine W.lcmp hx hb dX11_divisor_9 ?_
      refine lv_if_eq (tgt := 31) hx hb dX11_divisor_10 (by decide) (fun hc10 => ?_) (fun hc10 => ?_)
      · replace hc10 := (zc_eq _ _).mp hc10
        replace h := zi_t hc10 h
        refine lv_lload hx hb dX11_divisor_31 (lv_at hl 0 rfl) ?_
        exact hret (o := (v4_6)) h hP hD hS dX11_divisor_33
      · replace hc10 := fun q => hc10 ((zc_eq _ _).mpr q)
        replace h := zi_f hc10 h
        refine lv_lload hx hb dX11_divisor_13 (lv_at hl 0 rfl) ?_
        refine lv_lload hx hb dX11_divisor_15 (lv_at hl 1 rfl) ?_
        obtain ⟨hz17, h⟩ := zg_s h
        refine lv_lrem hx hb dX11_divisor_17 hz17 ?_
        refine lv_lstore (lv' := [(8, .long (v4_6 - v4_6 / v6_6 * v6_6)), (4, .long v4_6), (6, .long v6_6)]) hx hb dX11_divisor_18 hl (Nat.le_of_ble_eq_true rfl) rfl (fun ls hl => ?_)
        refine lv_lload hx hb dX11_divisor_20 (lv_at hl 2 rfl) ?_
        refine lv_lstore (lv' := [(4, .long v6_6), (8, .long (v4_6 - v4_6 / v6_6 * v6_6)), (6, .long v6_6)]) hx hb dX11_divisor_22 hl (Nat.le_of_ble_eq_true rfl) rfl (fun ls hl => ?_)
        refine lv_lload hx hb dX11_divisor_24 (lv_at hl 1 rfl) ?_
        refine lv_lstore (lv' := [(6, .long (v4_6 - v4_6 / v6_6 * v6_6)), (4, .long v6_6), (8, .long (v4_6 - v4_6 / v6_6 * v6_6))]) hx hb dX11_divisor_26 hl (Nat.le_of_ble_eq_true rfl) rfl (fun ls hl => ?_)
        refine lv_goto (tgt := 6) hx hb dX11_divisor_28 (by decide) ?_
        exact ih6 v6_6 (v4_6 - v4_6 / v6_6 * v6_6) _ _ _ hP hD hS (lv_sub hl [1, 0] rfl) h
  exact hL6 5000 p1 p2 _ _ _ hP hD hS (lv_sub hl [1, 0] rfl) h

theorem uX11_becomes_X11 : ∀ w ∈ u_ws RX11 TX11 33, w ∈ wsX11_becomes := fun w h => (List.mem_cons_of_mem _ (List.mem_append_right _ h))
abbrev wdX11_becomes (cy : Nat → ClassId) (b b_now b_imaged b_valueUp b_valueDown b_real b_brief b_order b_waits b_floats b_same b_upOf b_downOf b_tape b_open b_made b_paper b_reachUp b_reachDown b_reachHow b_reachFirst b_reachSecond b_begins b_carried : Nat) (c_hasImage : Int32) (c_above c_below : Int64) (c_orderMany c_waitMany c_seed c_size c_openMany c_paperMany c_reachMany : Int32) : va_W := [(b, .inr (11, [.ref b_now, .ref b_imaged, .int c_hasImage, .long c_above, .long c_below, .ref b_valueUp, .ref b_valueDown, .ref b_real, .ref b_brief, .ref b_order, .int c_orderMany, .ref b_waits, .int c_waitMany, .ref b_floats, .int c_seed, .ref b_same, .ref b_upOf, .ref b_downOf, .ref b_tape, .int c_size, .ref b_open, .int c_openMany, .ref b_made, .ref b_paper, .int c_paperMany, .ref b_reachUp, .ref b_reachDown, .ref b_reachHow, .ref b_reachFirst, .ref b_reachSecond, .ref b_begins, .int c_reachMany, .ref b_carried]))]
abbrev rmX11_becomes : Room := { frames := 1, cells := 0, slots := 0, locals := 29 }
theorem cdX11_becomes : (yX11_becomes).cls ≠ "java/lang/invoke/MethodHandle" ∧ (yX11_becomes).cls ≠ "java/lang/invoke/VarHandle" ∧ (parseMethodDescriptor (yX11_becomes).desc).map (fun d => d.parameters.length) = some 2 := by decide +kernel
def fX11_becomes_J45   : Option (Int64 × Int64) :=
  some ((-7 : Int64), (-7 : Int64))
def fX11_becomes (p1 p2 c_above c_below : Int64) : Option (Int64 × Int64) :=
  zb1 (fX11_divisor p1 p2) (fun r2 => zg (¬ r2 = 0) (zg (¬ r2 = 0) (if (1000000000 : Int64) < (p1 / r2) then (fX11_becomes_J45) else (if (p2 / r2) ≤ (1000000000 : Int64) then (some ((p1 / r2), (p2 / r2))) else (fX11_becomes_J45)))))
set_option maxHeartbeats 4000000 in
set_option maxRecDepth 100000 in
theorem mX11_becomes (l : Launch) (D : va_G) (cy : Nat → ClassId) (sz : Nat) (b b_now b_imaged b_valueUp b_valueDown b_real b_brief b_order b_waits b_floats b_same b_upOf b_downOf b_tape b_open b_made b_paper b_reachUp b_reachDown b_reachHow b_reachFirst b_reachSecond b_begins b_carried : Nat) (c_hasImage : Int32) (c_above c_below : Int64) (c_orderMany c_waitMany c_seed c_size c_openMany c_paperMany c_reachMany : Int32) (p1 p2 : Int64) (res : (Int64 × Int64)) (h : fX11_becomes p1 p2 c_above c_below = some res) : zMv l yX11_becomes wsX11_becomes rmX11_becomes [.ref b, .long p1, .long p2] D cy (wdX11_becomes cy b b_now b_imaged b_valueUp b_valueDown b_real b_brief b_order b_waits b_floats b_same b_upOf b_downOf b_tape b_open b_made b_paper b_reachUp b_reachDown b_reachHow b_reachFirst b_reachSecond b_begins b_carried c_hasImage c_above c_below c_orderMany c_waitMany c_seed c_size c_openMany c_paperMany c_reachMany) sz  ((fun (o : (Int64 × Int64)) => (wdX11_becomes cy b b_now b_imaged b_valueUp b_valueDown b_real b_brief b_order b_waits b_floats b_same b_upOf b_downOf b_tape b_open b_made b_paper b_reachUp b_reachDown b_reachHow b_reachFirst b_reachSecond b_begins b_carried c_hasImage (o.1) (o.2) c_orderMany c_waitMany c_seed c_size c_openMany c_paperMany c_reachMany)) res) := by
  refine zOfv (res := res) (Wf := (fun (o : (Int64 × Int64)) => (wdX11_becomes cy b b_now b_imaged b_valueUp b_valueDown b_real b_brief b_order b_waits b_floats b_same b_upOf b_downOf b_tape b_open b_made b_paper b_reachUp b_reachDown b_reachHow b_reachFirst b_reachSecond b_begins b_carried c_hasImage (o.1) (o.2) c_orderMany c_waitMany c_seed c_size c_openMany c_paperMany c_reachMany))) (by decide +kernel) rfl (Nat.le_of_ble_eq_true rfl) ?_
  intro p e s m args below meth c A ls Q hx hb hml hts hown hP hK hD hA hS hl hret
  have hown : s.vm.findClass RX11 = some m.cls := hown
  have hl : lv_has ls 7 [(0, .ref b), (1, .long p1), (3, .long p2)] := hl
  refine lv_lload_n hx hb dX11_becomes_0 rfl (lv_at hl 1 rfl) ?_
  refine lv_lload_n hx hb dX11_becomes_1 rfl (lv_at hl 2 rfl) ?_
  obtain ⟨r2, hq2, h⟩ := zb1_s h
  refine zCl0 (r0 := r2) (va_runS (As := [.long p1, .long p2]) (rest := []) ⟨hx, hb, hml, hown, hts⟩ (mX11_divisor l D cy s.heap.size p1 p2 (r2) hq2) (va_cwS 2 hts gX11_becomes_X11_divisor rfl rfl rfl cdX11_divisor ⟨Nat.le_of_ble_eq_true rfl, Nat.le_of_ble_eq_true rfl⟩) (zPS hK hP hD [] rfl rfl) rfl rfl hl.1 rfl (lv_room (Nat.le_of_ble_eq_true rfl)) dX11_becomes_2 ⟨Nat.zero_le _, Nat.zero_le _⟩) hP hD hS hA (fun H locs hP hD hS => ?_)
  refine lv_lstore (lv' := [(5, .long r2), (0, .ref b), (1, .long p1), (3, .long p2)]) hx hb dX11_becomes_5 hl (Nat.le_of_ble_eq_true rfl) rfl (fun ls hl => ?_)
  refine lv_aload_n hx hb dX11_becomes_7 rfl (lv_at hl 1 rfl) ?_
  refine lv_lload_n hx hb dX11_becomes_8 rfl (lv_at hl 2 rfl) ?_
  refine lv_lload hx hb dX11_becomes_9 (lv_at hl 0 rfl) ?_
  obtain ⟨hz11, h⟩ := zg_s h
  refine lv_ldiv hx hb dX11_becomes_11 hz11 ?_
  refine va_put (D := D) (ci := 11) (v := .long (p1 / r2)) (ty := .long) (C := RX11) (T := TX11) (N := 33) hx hb hts uX11_becomes_X11 tyX11 tyX11_ok nmX11 hown hK.1 hP hD hS 0 rfl rfl 3 (by decide) (hts (.fieldLink RX11 136 "WishedResistorModel" "above" "J") (List.mem_of_getElem? (i := 1) rfl)) (fun _ h9 => h9) rfl (by decide +kernel) rfl rfl (Nat.le_of_ble_eq_true rfl) dX11_becomes_12 (fun H locs hP hD hS => ?_)
  have hP : va_P D vwCl (wdX11_becomes cy b b_now b_imaged b_valueUp b_valueDown b_real b_brief b_order b_waits b_floats b_same b_upOf b_downOf b_tape b_open b_made b_paper b_reachUp b_reachDown b_reachHow b_reachFirst b_reachSecond b_begins b_carried c_hasImage (p1 / r2) c_below c_orderMany c_waitMany c_seed c_size c_openMany c_paperMany c_reachMany) H := hP
  have hD : va_D A (wdX11_becomes cy b b_now b_imaged b_valueUp b_valueDown b_real b_brief b_order b_waits b_floats b_same b_upOf b_downOf b_tape b_open b_made b_paper b_reachUp b_reachDown b_reachHow b_reachFirst b_reachSecond b_begins b_carried c_hasImage (p1 / r2) c_below c_orderMany c_waitMany c_seed c_size c_openMany c_paperMany c_reachMany) := hD
  refine lv_aload_n hx hb dX11_becomes_15 rfl (lv_at hl 1 rfl) ?_
  refine lv_lload_n hx hb dX11_becomes_16 rfl (lv_at hl 3 rfl) ?_
  refine lv_lload hx hb dX11_becomes_17 (lv_at hl 0 rfl) ?_
  obtain ⟨hz19, h⟩ := zg_s h
  refine lv_ldiv hx hb dX11_becomes_19 hz19 ?_
  refine va_put (D := D) (ci := 11) (v := .long (p2 / r2)) (ty := .long) (C := RX11) (T := TX11) (N := 33) hx hb hts uX11_becomes_X11 tyX11 tyX11_ok nmX11 hown hK.1 hP hD hS 0 rfl rfl 4 (by decide) (hts (.fieldLink RX11 140 "WishedResistorModel" "below" "J") (List.mem_of_getElem? (i := 2) rfl)) (fun _ h9 => h9) rfl (by decide +kernel) rfl rfl (Nat.le_of_ble_eq_true rfl) dX11_becomes_20 (fun H locs hP hD hS => ?_)
  have hP : va_P D vwCl (wdX11_becomes cy b b_now b_imaged b_valueUp b_valueDown b_real b_brief b_order b_waits b_floats b_same b_upOf b_downOf b_tape b_open b_made b_paper b_reachUp b_reachDown b_reachHow b_reachFirst b_reachSecond b_begins b_carried c_hasImage (p1 / r2) (p2 / r2) c_orderMany c_waitMany c_seed c_size c_openMany c_paperMany c_reachMany) H := hP
  have hD : va_D A (wdX11_becomes cy b b_now b_imaged b_valueUp b_valueDown b_real b_brief b_order b_waits b_floats b_same b_upOf b_downOf b_tape b_open b_made b_paper b_reachUp b_reachDown b_reachHow b_reachFirst b_reachSecond b_begins b_carried c_hasImage (p1 / r2) (p2 / r2) c_orderMany c_waitMany c_seed c_size c_openMany c_paperMany c_reachMany) := hD
  refine lv_aload_n hx hb dX11_becomes_23 rfl (lv_at hl 1 rfl) ?_
  refine va_get (D := D) (ci := 11) (v := .long (p1 / r2)) (C := RX11) (T := TX11) (N := 33) hx hb hts uX11_becomes_X11 hown hK.1 hP 0 rfl rfl 3 (by decide) (hts (.fieldLink RX11 136 "WishedResistorModel" "above" "J") (List.mem_of_getElem? (i := 1) rfl)) (fun _ h9 => h9) rfl dX11_becomes_24 ?_
  refine lv_ldc2 hx hb hown (hts (.constantLong RX11 143 (1000000000)) (List.mem_of_getElem? (i := 3) rfl)) dX11_becomes_27 ?_
  refine W.lcmp hx hb dX11_becomes_30 ?_
  have hJ45 : ∀  (H : Heap) (locs : List Loc) (ls : Array Slot), va_P D vwCl (wdX11_becomes cy b b_now b_imaged b_valueUp b_valueDown b_real b_brief b_order b_waits b_floats b_same b_upOf b_downOf b_tape b_open b_made b_paper b_reachUp b_reachDown b_reachHow b_reachFirst b_reachSecond b_begins b_carried c_hasImage (p1 / r2) (p2 / r2) c_orderMany c_waitMany c_seed c_size c_openMany c_paperMany c_reachMany) H → va_D A (wdX11_becomes cy b b_now b_imaged b_valueUp b_valueDown b_real b_brief b_order b_waits b_floats b_same b_upOf b_downOf b_tape b_open b_made b_paper b_reachUp b_reachDown b_reachHow b_reachFirst b_reachSecond b_begins b_carried c_hasImage (p1 / r2) (p2 / r2) c_orderMany c_waitMany c_seed c_size c_openMany c_paperMany c_reachMany) → va_S A s.heap H locs → lv_has ls 7 [(0, .ref b)] → fX11_becomes_J45 = some res → W p l e rmX11_becomes s m args below meth c H locs 0 0 Q (F0 m 45 ls []) := by
    intro  H locs ls hP hD hS hl h
    refine lv_aload_n hx hb dX11_becomes_45 rfl (lv_at hl 0 rfl) ?_
    refine lv_ldc2 hx hb hown (hts (.constantLong RX11 145 (-7)) (List.mem_of_getElem? (i := 4) rfl)) dX11_becomes_46 ?_
    refine va_put (D := D) (ci := 11) (v := .long (-7 : Int64)) (ty := .long) (C := RX11) (T := TX11) (N := 33) hx hb hts uX11_becomes_X11 tyX11 tyX11_ok nmX11 hown hK.1 hP hD hS 0 rfl rfl 3 (by decide) (hts (.fieldLink RX11 136 "WishedResistorModel" "above" "J") (List.mem_of_getElem? (i := 1) rfl)) (fun _ h9 => h9) rfl (by decide +kernel) rfl rfl (Nat.le_of_ble_eq_true rfl) dX11_becomes_49 (fun H locs hP hD hS => ?_)
    have hP : va_P D vwCl (wdX11_becomes cy b b_now b_imaged b_valueUp b_valueDown b_real b_brief b_order b_waits b_floats b_same b_upOf b_downOf b_tape b_open b_made b_paper b_reachUp b_reachDown b_reachHow b_reachFirst b_reachSecond b_begins b_carried c_hasImage (-7 : Int64) (p2 / r2) c_orderMany c_waitMany c_seed c_size c_openMany c_paperMany c_reachMany) H := hP
    have hD : va_D A (wdX11_becomes cy b b_now b_imaged b_valueUp b_valueDown b_real b_brief b_order b_waits b_floats b_same b_upOf b_downOf b_tape b_open b_made b_paper b_reachUp b_reachDown b_reachHow b_reachFirst b_reachSecond b_begins b_carried c_hasImage (-7 : Int64) (p2 / r2) c_orderMany c_waitMany c_seed c_size c_openMany c_paperMany c_reachMany) := hD
    refine lv_aload_n hx hb dX11_becomes_52 rfl (lv_at hl 0 rfl) ?_
    refine lv_ldc2 hx hb hown (hts (.constantLong RX11 145 (-7)) (List.mem_of_getElem? (i := 4) rfl)) dX11_becomes_53 ?_
    refine va_put (D := D) (ci := 11) (v := .long (-7 : Int64)) (ty := .long) (C := RX11) (T := TX11) (N := 33) hx hb hts uX11_becomes_X11 tyX11 tyX11_ok nmX11 hown hK.1 hP hD hS 0 rfl rfl 4 (by decide) (hts (.fieldLink RX11 140 "WishedResistorModel" "below" "J") (List.mem_of_getElem? (i := 2) rfl)) (fun _ h9 => h9) rfl (by decide +kernel) rfl rfl (Nat.le_of_ble_eq_true rfl) dX11_becomes_56 (fun H locs hP hD hS => ?_)
    have hP : va_P D vwCl (wdX11_becomes cy b b_now b_imaged b_valueUp b_valueDown b_real b_brief b_order b_waits b_floats b_same b_upOf b_downOf b_tape b_open b_made b_paper b_reachUp b_reachDown b_reachHow b_reachFirst b_reachSecond b_begins b_carried c_hasImage (-7 : Int64) (-7 : Int64) c_orderMany c_waitMany c_seed c_size c_openMany c_paperMany c_reachMany) H := hP
    have hD : va_D A (wdX11_becomes cy b b_now b_imaged b_valueUp b_valueDown b_real b_brief b_order b_waits b_floats b_same b_upOf b_downOf b_tape b_open b_made b_paper b_reachUp b_reachDown b_reachHow b_reachFirst b_reachSecond b_begins b_carried c_hasImage (-7 : Int64) (-7 : Int64) c_orderMany c_waitMany c_seed c_size c_openMany c_paperMany c_reachMany) := hD
    exact hret (o := ((-7 : Int64), (-7 : Int64))) h hP hD hS dX11_becomes_59
  refine lv_if_gt (tgt := 45) hx hb dX11_becomes_31 (by decide) (fun hc31 => ?_) (fun hc31 => ?_)
  · replace hc31 := (zc_gt _ _).mp hc31
    replace h := zi_t hc31 h
    exact hJ45 _ _ _ hP hD hS (lv_sub hl [1] rfl) h
  · replace hc31 := fun q => hc31 ((zc_gt _ _).mpr q)
    replace h := zi_f hc31 h
    refine lv_aload_n hx hb dX11_becomes_34 rfl (lv_at hl 1 rfl) ?_
    refine va_get (D := D) (ci := 11) (v := .long (p2 / r2)) (C := RX11) (T := TX11) (N := 33) hx hb hts uX11_becomes_X11 hown hK.1 hP 0 rfl rfl 4 (by decide) (hts (.fieldLink RX11 140 "WishedResistorModel" "below" "J") (List.mem_of_getElem? (i := 2) rfl)) (fun _ h9 => h9) rfl dX11_becomes_35 ?_
    refine lv_ldc2 hx hb hown (hts (.constantLong RX11 143 (1000000000)) (List.mem_of_getElem? (i := 3) rfl)) dX11_becomes_38 ?_
    refine W.lcmp hx hb dX11_becomes_41 ?_
    refine lv_if_le (tgt := 59) hx hb dX11_becomes_42 (by decide) (fun hc42 => ?_) (fun hc42 => ?_)
    · replace hc42 := (zc_le _ _).mp hc42
      replace h := zi_t hc42 h
      exact hret (o := ((p1 / r2), (p2 / r2))) h hP hD hS dX11_becomes_59
    · replace hc42 := fun q => hc42 ((zc_le _ _).mpr q)
      replace h := zi_f hc42 h
      exact hJ45 _ _ _ hP hD hS (lv_sub hl [1] rfl) h

theorem uX11_joined_X11 : ∀ w ∈ u_ws RX11 TX11 33, w ∈ wsX11_joined := fun w h => (List.mem_cons_of_mem _ (List.mem_append_right _ h))
abbrev wdX11_joined (cy : Nat → ClassId) (b b_now b_imaged b_valueUp b_valueDown b_real b_brief b_order b_waits b_floats b_same b_upOf b_downOf b_tape b_open b_made b_paper b_reachUp b_reachDown b_reachHow b_reachFirst b_reachSecond b_begins b_carried : Nat) (c_hasImage : Int32) (c_above c_below : Int64) (c_orderMany c_waitMany c_seed c_size c_openMany c_paperMany c_reachMany : Int32) : va_W := [(b, .inr (11, [.ref b_now, .ref b_imaged, .int c_hasImage, .long c_above, .long c_below, .ref b_valueUp, .ref b_valueDown, .ref b_real, .ref b_brief, .ref b_order, .int c_orderMany, .ref b_waits, .int c_waitMany, .ref b_floats, .int c_seed, .ref b_same, .ref b_upOf, .ref b_downOf, .ref b_tape, .int c_size, .ref b_open, .int c_openMany, .ref b_made, .ref b_paper, .int c_paperMany, .ref b_reachUp, .ref b_reachDown, .ref b_reachHow, .ref b_reachFirst, .ref b_reachSecond, .ref b_begins, .int c_reachMany, .ref b_carried]))]
abbrev rmX11_joined : Room := { frames := 2, cells := 0, slots := 0, locals := 55 }
theorem cdX11_joined : (yX11_joined).cls ≠ "java/lang/invoke/MethodHandle" ∧ (yX11_joined).cls ≠ "java/lang/invoke/VarHandle" ∧ (parseMethodDescriptor (yX11_joined).desc).map (fun d => d.parameters.length) = some 5 := by decide +kernel
def fX11_joined_J13   : Option (Int64 × Int64) :=
  some ((-7 : Int64), (-7 : Int64))
def fX11_joined_J98 (c_above c_below : Int64)  : Option (Int64 × Int64) :=
  zb2 (fX11_becomes (0 : Int64) (1 : Int64) c_above c_below) (fun c_above_r101 c_below_r101 => some (c_above_r101, c_below_r101))
def fX11_joined_J149 (c_above c_below s1_135 : Int64) (s2_149 : Int64) : Option (Int64 × Int64) :=
  zb2 (fX11_becomes s1_135 s2_149 c_above c_below) (fun c_above_r149 c_below_r149 => some (c_above_r149, c_below_r149))
def fX11_joined_J135 (c_above c_below p3 p5 : Int64) (s1_135 : Int64) : Option (Int64 × Int64) :=
  if p3 = (0 : Int64) then (fX11_joined_J149 c_above c_below s1_135 p5) else (fX11_joined_J149 c_above c_below s1_135 p3)
def fX11_joined_J121 (c_above c_below p2 p3 p4 p5 : Int64)  : Option (Int64 × Int64) :=
  if p3 = (0 : Int64) then (fX11_joined_J135 c_above c_below p3 p5 p4) else (fX11_joined_J135 c_above c_below p3 p5 p2)
def fX11_joined_J58 (c_above c_below : Int64) (p1 : Int32) (p2 p3 p4 p5 : Int64)  : Option (Int64 × Int64) :=
  if p1 = (1 : Int32) then (zb2 (fX11_becomes ((p2 * p5) + (p4 * p3)) (p3 * p5) c_above c_below) (fun c_above_r79 c_below_r79 => some (c_above_r79, c_below_r79))) else (if p2 = (0 : Int64) then (fX11_joined_J98 c_above c_below) else (if p4 = (0 : Int64) then (fX11_joined_J98 c_above c_below) else (if p3 = (0 : Int64) then (fX11_joined_J121 c_above c_below p2 p3 p4 p5) else (if p5 = (0 : Int64) then (fX11_joined_J121 c_above c_below p2 p3 p4 p5) else (zb2 (fX11_becomes (p2 * p4) ((p2 * p5) + (p4 * p3)) c_above c_below) (fun c_above_r170 c_below_r170 => some (c_above_r170, c_below_r170)))))))
def fX11_joined_J49 (c_above c_below : Int64)  : Option (Int64 × Int64) :=
  zb2 (fX11_becomes (1 : Int64) (0 : Int64) c_above c_below) (fun c_above_r52 c_below_r52 => some (c_above_r52, c_below_r52))
def fX11_joined (p1 : Int32) (p2 p3 p4 p5 c_above c_below : Int64) : Option (Int64 × Int64) :=
  if p2 < (0 : Int64) then (fX11_joined_J13) else (if (0 : Int64) ≤ p4 then (if p1 = (1 : Int32) then (if p3 = (0 : Int64) then (fX11_joined_J49 c_above c_below) else (if p5 = (0 : Int64) then (fX11_joined_J49 c_above c_below) else (fX11_joined_J58 c_above c_below p1 p2 p3 p4 p5))) else (fX11_joined_J58 c_above c_below p1 p2 p3 p4 p5)) else (fX11_joined_J13))
set_option maxHeartbeats 4000000 in
set_option maxRecDepth 100000 in
theorem mX11_joined (l : Launch) (D : va_G) (cy : Nat → ClassId) (sz : Nat) (b b_now b_imaged b_valueUp b_valueDown b_real b_brief b_order b_waits b_floats b_same b_upOf b_downOf b_tape b_open b_made b_paper b_reachUp b_reachDown b_reachHow b_reachFirst b_reachSecond b_begins b_carried : Nat) (c_hasImage : Int32) (c_above c_below : Int64) (c_orderMany c_waitMany c_seed c_size c_openMany c_paperMany c_reachMany p1 : Int32) (p2 p3 p4 p5 : Int64) (res : (Int64 × Int64)) (h : fX11_joined p1 p2 p3 p4 p5 c_above c_below = some res) : zMv l yX11_joined wsX11_joined rmX11_joined [.ref b, .int p1, .long p2, .long p3, .long p4, .long p5] D cy (wdX11_joined cy b b_now b_imaged b_valueUp b_valueDown b_real b_brief b_order b_waits b_floats b_same b_upOf b_downOf b_tape b_open b_made b_paper b_reachUp b_reachDown b_reachHow b_reachFirst b_reachSecond b_begins b_carried c_hasImage c_above c_below c_orderMany c_waitMany c_seed c_size c_openMany c_paperMany c_reachMany) sz  ((fun (o : (Int64 × Int64)) => (wdX11_joined cy b b_now b_imaged b_valueUp b_valueDown b_real b_brief b_order b_waits b_floats b_same b_upOf b_downOf b_tape b_open b_made b_paper b_reachUp b_reachDown b_reachHow b_reachFirst b_reachSecond b_begins b_carried c_hasImage (o.1) (o.2) c_orderMany c_waitMany c_seed c_size c_openMany c_paperMany c_reachMany)) res) := by
  refine zOfv (res := res) (Wf := (fun (o : (Int64 × Int64)) => (wdX11_joined cy b b_now b_imaged b_valueUp b_valueDown b_real b_brief b_order b_waits b_floats b_same b_upOf b_downOf b_tape b_open b_made b_paper b_reachUp b_reachDown b_reachHow b_reachFirst b_reachSecond b_begins b_carried c_hasImage (o.1) (o.2) c_orderMany c_waitMany c_seed c_size c_openMany c_paperMany c_reachMany))) (by decide +kernel) rfl (Nat.le_of_ble_eq_true rfl) ?_
  intro p e s m args below meth c A ls Q hx hb hml hts hown hP hK hD hA hS hl hret
  have hown : s.vm.findClass RX11 = some m.cls := hown
  have hl : lv_has ls 10 [(0, .ref b), (1, .int p1), (2, .long p2), (4, .long p3), (6, .long p4), (8, .long p5)] := hl
  refine lv_lload_n hx hb dX11_joined_0 rfl (lv_at hl 2 rfl) ?_
  refine lv_lconst (v := (0 : Int64)) hx hb dX11_joined_1 (by decide) ?_
  refine W.lcmp hx hb dX11_joined_2 ?_
  have hJ13 : ∀  (H : Heap) (locs : List Loc) (ls : Array Slot), va_P D vwCl (wdX11_joined cy b b_now b_imaged b_valueUp b_valueDown b_real b_brief b_order b_waits b_floats b_same b_upOf b_downOf b_tape b_open b_made b_paper b_reachUp b_reachDown b_reachHow b_reachFirst b_reachSecond b_begins b_carried c_hasImage c_above c_below c_orderMany c_waitMany c_seed c_size c_openMany c_paperMany c_reachMany) H → va_D A (wdX11_joined cy b b_now b_imaged b_valueUp b_valueDown b_real b_brief b_order b_waits b_floats b_same b_upOf b_downOf b_tape b_open b_made b_paper b_reachUp b_reachDown b_reachHow b_reachFirst b_reachSecond b_begins b_carried c_hasImage c_above c_below c_orderMany c_waitMany c_seed c_size c_openMany c_paperMany c_reachMany) → va_S A s.heap H locs → lv_has ls 10 [(0, .ref b)] → fX11_joined_J13 = some res → W p l e rmX11_joined s m args below meth c H locs 0 0 Q (F0 m 13 ls []) := by
    intro  H locs ls hP hD hS hl h
    refine lv_aload_n hx hb dX11_joined_13 rfl (lv_at hl 0 rfl) ?_
    refine lv_ldc2 hx hb hown (hts (.constantLong RX11 145 (-7)) (List.mem_of_getElem? (i := 1) rfl)) dX11_joined_14 ?_
    refine va_put (D := D) (ci := 11) (v := .long (-7 : Int64)) (ty := .long) (C := RX11) (T := TX11) (N := 33) hx hb hts uX11_joined_X11 tyX11 tyX11_ok nmX11 hown hK.1 hP hD hS 0 rfl rfl 3 (by decide) (hts (.fieldLink RX11 136 "WishedResistorModel" "above" "J") (List.mem_of_getElem? (i := 2) rfl)) (fun _ h9 => h9) rfl (by decide +kernel) rfl rfl (Nat.le_of_ble_eq_true rfl) dX11_joined_17 (fun H locs hP hD hS => ?_)
    have hP : va_P D vwCl (wdX11_joined cy b b_now b_imaged b_valueUp b_valueDown b_real b_brief b_order b_waits b_floats b_same b_upOf b_downOf b_tape b_open b_made b_paper b_reachUp b_reachDown b_reachHow b_reachFirst b_reachSecond b_begins b_carried c_hasImage (-7 : Int64) c_below c_orderMany c_waitMany c_seed c_size c_openMany c_paperMany c_reachMany) H := hP
    have hD : va_D A (wdX11_joined cy b b_now b_imaged b_valueUp b_valueDown b_real b_brief b_order b_waits b_floats b_same b_upOf b_downOf b_tape b_open b_made b_paper b_reachUp b_reachDown b_reachHow b_reachFirst b_reachSecond b_begins b_carried c_hasImage (-7 : Int64) c_below c_orderMany c_waitMany c_seed c_size c_openMany c_paperMany c_reachMany) := hD
    refine lv_aload_n hx hb dX11_joined_20 rfl (lv_at hl 0 rfl) ?_
    refine lv_ldc2 hx hb hown (hts (.constantLong RX11 145 (-7)) (List.mem_of_getElem? (i := 1) rfl)) dX11_joined_21 ?_
    refine va_put (D := D) (ci := 11) (v := .long (-7 : Int64)) (ty := .long) (C := RX11) (T := TX11) (N := 33) hx hb hts uX11_joined_X11 tyX11 tyX11_ok nmX11 hown hK.1 hP hD hS 0 rfl rfl 4 (by decide) (hts (.fieldLink RX11 140 "WishedResistorModel" "below" "J") (List.mem_of_getElem? (i := 3) rfl)) (fun _ h9 => h9) rfl (by decide +kernel) rfl rfl (Nat.le_of_ble_eq_true rfl) dX11_joined_24 (fun H locs hP hD hS => ?_)
    have hP : va_P D vwCl (wdX11_joined cy b b_now b_imaged b_valueUp b_valueDown b_real b_brief b_order b_waits b_floats b_same b_upOf b_downOf b_tape b_open b_made b_paper b_reachUp b_reachDown b_reachHow b_reachFirst b_reachSecond b_begins b_carried c_hasImage (-7 : Int64) (-7 : Int64) c_orderMany c_waitMany c_seed c_size c_openMany c_paperMany c_reachMany) H := hP
    have hD : va_D A (wdX11_joined cy b b_now b_imaged b_valueUp b_valueDown b_real b_brief b_order b_waits b_floats b_same b_upOf b_downOf b_tape b_open b_made b_paper b_reachUp b_reachDown b_reachHow b_reachFirst b_reachSecond b_begins b_carried c_hasImage (-7 : Int64) (-7 : Int64) c_orderMany c_waitMany c_seed c_size c_openMany c_paperMany c_reachMany) := hD
    refine lv_goto (tgt := 173) hx hb dX11_joined_27 (by decide) ?_
    exact hret (o := ((-7 : Int64), (-7 : Int64))) h hP hD hS dX11_joined_173
  refine lv_if_lt (tgt := 13) hx hb dX11_joined_3 (by decide) (fun hc3 => ?_) (fun hc3 => ?_)
  · replace hc3 := (zc_lt _ _).mp hc3
    replace h := zi_t hc3 h
    exact hJ13 _ _ _ hP hD hS (lv_sub hl [0] rfl) h
  · replace hc3 := fun q => hc3 ((zc_lt _ _).mpr q)
    replace h := zi_f hc3 h
    refine lv_lload hx hb dX11_joined_6 (lv_at hl 4 rfl) ?_
    refine lv_lconst (v := (0 : Int64)) hx hb dX11_joined_8 (by decide) ?_
    refine W.lcmp hx hb dX11_joined_9 ?_
    refine lv_if_ge (tgt := 30) hx hb dX11_joined_10 (by decide) (fun hc10 => ?_) (fun hc10 => ?_)
    · replace hc10 := (zc_ge _ _).mp hc10
      replace h := zi_t hc10 h
      refine lv_iload_n hx hb dX11_joined_30 rfl (lv_at hl 1 rfl) ?_
      refine lv_iconst (v := (1 : Int32)) hx hb dX11_joined_31 (by decide) ?_
      have hJ58 : ∀  (H : Heap) (locs : List Loc) (ls : Array Slot), va_P D vwCl (wdX11_joined cy b b_now b_imaged b_valueUp b_valueDown b_real b_brief b_order b_waits b_floats b_same b_upOf b_downOf b_tape b_open b_made b_paper b_reachUp b_reachDown b_reachHow b_reachFirst b_reachSecond b_begins b_carried c_hasImage c_above c_below c_orderMany c_waitMany c_seed c_size c_openMany c_paperMany c_reachMany) H → va_D A (wdX11_joined cy b b_now b_imaged b_valueUp b_valueDown b_real b_brief b_order b_waits b_floats b_same b_upOf b_downOf b_tape b_open b_made b_paper b_reachUp b_reachDown b_reachHow b_reachFirst b_reachSecond b_begins b_carried c_hasImage c_above c_below c_orderMany c_waitMany c_seed c_size c_openMany c_paperMany c_reachMany) → va_S A s.heap H locs → lv_has ls 10 [(0, .ref b), (1, .int p1), (2, .long p2), (4, .long p3), (6, .long p4), (8, .long p5)] → fX11_joined_J58 c_above c_below p1 p2 p3 p4 p5 = some res → W p l e rmX11_joined s m args below meth c H locs 0 0 Q (F0 m 58 ls []) := by
        intro  H locs ls hP hD hS hl h
        refine lv_iload_n hx hb dX11_joined_58 rfl (lv_at hl 1 rfl) ?_
        refine lv_iconst (v := (1 : Int32)) hx hb dX11_joined_59 (by decide) ?_
        refine lv_icmp_ne (tgt := 85) hx hb dX11_joined_60 (by decide) (fun hc60 => ?_) (fun hc60 => ?_)
        · replace h := zi_f hc60 h
          refine lv_lload_n hx hb dX11_joined_85 rfl (lv_at hl 2 rfl) ?_
          refine lv_lconst (v := (0 : Int64)) hx hb dX11_joined_86 (by decide) ?_
          refine W.lcmp hx hb dX11_joined_87 ?_
          have hJ98 : ∀  (H : Heap) (locs : List Loc) (ls : Array Slot), va_P D vwCl (wdX11_joined cy b b_now b_imaged b_valueUp b_valueDown b_real b_brief b_order b_waits b_floats b_same b_upOf b_downOf b_tape b_open b_made b_paper b_reachUp b_reachDown b_reachHow b_reachFirst b_reachSecond b_begins b_carried c_hasImage c_above c_below c_orderMany c_waitMany c_seed c_size c_openMany c_paperMany c_reachMany) H → va_D A (wdX11_joined cy b b_now b_imaged b_valueUp b_valueDown b_real b_brief b_order b_waits b_floats b_same b_upOf b_downOf b_tape b_open b_made b_paper b_reachUp b_reachDown b_reachHow b_reachFirst b_reachSecond b_begins b_carried c_hasImage c_above c_below c_orderMany c_waitMany c_seed c_size c_openMany c_paperMany c_reachMany) → va_S A s.heap H locs → lv_has ls 10 [(0, .ref b)] → fX11_joined_J98 c_above c_below = some res → W p l e rmX11_joined s m args below meth c H locs 0 0 Q (F0 m 98 ls []) := by
            intro  H locs ls hP hD hS hl h
            refine lv_aload_n hx hb dX11_joined_98 rfl (lv_at hl 0 rfl) ?_
            refine lv_lconst (v := (0 : Int64)) hx hb dX11_joined_99 (by decide) ?_
            refine lv_lconst (v := (1 : Int64)) hx hb dX11_joined_100 (by decide) ?_
            obtain ⟨c_above_r101, c_below_r101, hq101, h⟩ := zb2_s h
            refine zCv (w1 := (wdX11_becomes cy b b_now b_imaged b_valueUp b_valueDown b_real b_brief b_order b_waits b_floats b_same b_upOf b_downOf b_tape b_open b_made b_paper b_reachUp b_reachDown b_reachHow b_reachFirst b_reachSecond b_begins b_carried c_hasImage c_above_r101 c_below_r101 c_orderMany c_waitMany c_seed c_size c_openMany c_paperMany c_reachMany)) (ws' := (wdX11_joined cy b b_now b_imaged b_valueUp b_valueDown b_real b_brief b_order b_waits b_floats b_same b_upOf b_downOf b_tape b_open b_made b_paper b_reachUp b_reachDown b_reachHow b_reachFirst b_reachSecond b_begins b_carried c_hasImage c_above_r101 c_below_r101 c_orderMany c_waitMany c_seed c_size c_openMany c_paperMany c_reachMany)) (va_runV (As := [.long (0 : Int64), .long (1 : Int64)]) (rest := []) ⟨hx, hb, hml, hown, hts⟩ (mX11_becomes l D cy H.size b b_now b_imaged b_valueUp b_valueDown b_real b_brief b_order b_waits b_floats b_same b_upOf b_downOf b_tape b_open b_made b_paper b_reachUp b_reachDown b_reachHow b_reachFirst b_reachSecond b_begins b_carried c_hasImage c_above c_below c_orderMany c_waitMany c_seed c_size c_openMany c_paperMany c_reachMany (0 : Int64) (1 : Int64) (c_above_r101, c_below_r101) hq101) (cwV 2 hts gX11_joined_X11_becomes rfl rfl rfl ⟨rfl, cdX11_becomes⟩ ⟨Nat.le_of_ble_eq_true rfl, Nat.le_of_ble_eq_true rfl⟩) (zPV hK hP hD [0] rfl rfl (q0 := 0) (ci := 11) rfl rfl rfl) rfl rfl hl.1 rfl (lv_room (Nat.le_of_ble_eq_true rfl)) dX11_joined_101 ⟨Nat.zero_le _, Nat.zero_le _⟩) hP hD hS hA [0] [] [0] rfl rfl rfl rfl (fun H locs hP hD hS => ?_)
            refine lv_goto (tgt := 173) hx hb dX11_joined_104 (by decide) ?_
            exact hret (o := (c_above_r101, c_below_r101)) h hP hD hS dX11_joined_173
          refine lv_if_eq (tgt := 98) hx hb dX11_joined_88 (by decide) (fun hc88 => ?_) (fun hc88 => ?_)
          · replace hc88 := (zc_eq _ _).mp hc88
            replace h := zi_t hc88 h
            exact hJ98 _ _ _ hP hD hS (lv_sub hl [0] rfl) h
          · replace hc88 := fun q => hc88 ((zc_eq _ _).mpr q)
            replace h := zi_f hc88 h
            refine lv_lload hx hb dX11_joined_91 (lv_at hl 4 rfl) ?_
            refine lv_lconst (v := (0 : Int64)) hx hb dX11_joined_93 (by decide) ?_
            refine W.lcmp hx hb dX11_joined_94 ?_
            refine lv_if_ne (tgt := 107) hx hb dX11_joined_95 (by decide) (fun hc95 => ?_) (fun hc95 => ?_)
            · replace hc95 := fun q => hc95 ((zc_eq _ _).mpr q)
              replace h := zi_f hc95 h
              refine lv_lload hx hb dX11_joined_107 (lv_at hl 3 rfl) ?_
              refine lv_lconst (v := (0 : Int64)) hx hb dX11_joined_109 (by decide) ?_
              refine W.lcmp hx hb dX11_joined_110 ?_
              have hJ121 : ∀  (H : Heap) (locs : List Loc) (ls : Array Slot), va_P D vwCl (wdX11_joined cy b b_now b_imaged b_valueUp b_valueDown b_real b_brief b_order b_waits b_floats b_same b_upOf b_downOf b_tape b_open b_made b_paper b_reachUp b_reachDown b_reachHow b_reachFirst b_reachSecond b_begins b_carried c_hasImage c_above c_below c_orderMany c_waitMany c_seed c_size c_openMany c_paperMany c_reachMany) H → va_D A (wdX11_joined cy b b_now b_imaged b_valueUp b_valueDown b_real b_brief b_order b_waits b_floats b_same b_upOf b_downOf b_tape b_open b_made b_paper b_reachUp b_reachDown b_reachHow b_reachFirst b_reachSecond b_begins b_carried c_hasImage c_above c_below c_orderMany c_waitMany c_seed c_size c_openMany c_paperMany c_reachMany) → va_S A s.heap H locs → lv_has ls 10 [(0, .ref b), (2, .long p2), (4, .long p3), (6, .long p4), (8, .long p5)] → fX11_joined_J121 c_above c_below p2 p3 p4 p5 = some res → W p l e rmX11_joined s m args below meth c H locs 0 0 Q (F0 m 121 ls []) := by
                intro  H locs ls hP hD hS hl h
                refine lv_aload_n hx hb dX11_joined_121 rfl (lv_at hl 0 rfl) ?_
                refine lv_lload hx hb dX11_joined_122 (lv_at hl 2 rfl) ?_
                refine lv_lconst (v := (0 : Int64)) hx hb dX11_joined_124 (by decide) ?_
                refine W.lcmp hx hb dX11_joined_125 ?_
                have hJ135 : ∀ (s1_135 : Int64) (H : Heap) (locs : List Loc) (ls : Array Slot), va_P D vwCl (wdX11_joined cy b b_now b_imaged b_valueUp b_valueDown b_real b_brief b_order b_waits b_floats b_same b_upOf b_downOf b_tape b_open b_made b_paper b_reachUp b_reachDown b_reachHow b_reachFirst b_reachSecond b_begins b_carried c_hasImage c_above c_below c_orderMany c_waitMany c_seed c_size c_openMany c_paperMany c_reachMany) H → va_D A (wdX11_joined cy b b_now b_imaged b_valueUp b_valueDown b_real b_brief b_order b_waits b_floats b_same b_upOf b_downOf b_tape b_open b_made b_paper b_reachUp b_reachDown b_reachHow b_reachFirst b_reachSecond b_begins b_carried c_hasImage c_above c_below c_orderMany c_waitMany c_seed c_size c_openMany c_paperMany c_reachMany) → va_S A s.heap H locs → lv_has ls 10 [(4, .long p3), (8, .long p5)] → fX11_joined_J135 c_above c_below p3 p5 s1_135 = some res → W p l e rmX11_joined s m args below meth c H locs 0 0 Q (F0 m 135 ls [.long s1_135, .ref b]) := by
                  intro s1_135 H locs ls hP hD hS hl h
                  refine lv_lload hx hb dX11_joined_135 (lv_at hl 0 rfl) ?_
                  refine lv_lconst (v := (0 : Int64)) hx hb dX11_joined_137 (by decide) ?_
                  refine W.lcmp hx hb dX11_joined_138 ?_
                  have hJ149 : ∀ (s2_149 : Int64) (H : Heap) (locs : List Loc) (ls : Array Slot), va_P D vwCl (wdX11_joined cy b b_now b_imaged b_valueUp b_valueDown b_real b_brief b_order b_waits b_floats b_same b_upOf b_downOf b_tape b_open b_made b_paper b_reachUp b_reachDown b_reachHow b_reachFirst b_reachSecond b_begins b_carried c_hasImage c_above c_below c_orderMany c_waitMany c_seed c_size c_openMany c_paperMany c_reachMany) H → va_D A (wdX11_joined cy b b_now b_imaged b_valueUp b_valueDown b_real b_brief b_order b_waits b_floats b_same b_upOf b_downOf b_tape b_open b_made b_paper b_reachUp b_reachDown b_reachHow b_reachFirst b_reachSecond b_begins b_carried c_hasImage c_above c_below c_orderMany c_waitMany c_seed c_size c_openMany c_paperMany c_reachMany) → va_S A s.heap H locs → lv_has ls 10 [] → fX11_joined_J149 c_above c_below s1_135 s2_149 = some res → W p l e rmX11_joined s m args below meth c H locs 0 0 Q (F0 m 149 ls [.long s2_149, .long s1_135, .ref b]) := by
                    intro s2_149 H locs ls hP hD hS hl h
                    obtain ⟨c_above_r149, c_below_r149, hq149, h⟩ := zb2_s h
                    refine zCv (w1 := (wdX11_becomes cy b b_now b_imaged b_valueUp b_valueDown b_real b_brief b_order b_waits b_floats b_same b_upOf b_downOf b_tape b_open b_made b_paper b_reachUp b_reachDown b_reachHow b_reachFirst b_reachSecond b_begins b_carried c_hasImage c_above_r149 c_below_r149 c_orderMany c_waitMany c_seed c_size c_openMany c_paperMany c_reachMany)) (ws' := (wdX11_joined cy b b_now b_imaged b_valueUp b_valueDown b_real b_brief b_order b_waits b_floats b_same b_upOf b_downOf b_tape b_open b_made b_paper b_reachUp b_reachDown b_reachHow b_reachFirst b_reachSecond b_begins b_carried c_hasImage c_above_r149 c_below_r149 c_orderMany c_waitMany c_seed c_size c_openMany c_paperMany c_reachMany)) (va_runV (As := [.long s1_135, .long s2_149]) (rest := []) ⟨hx, hb, hml, hown, hts⟩ (mX11_becomes l D cy H.size b b_now b_imaged b_valueUp b_valueDown b_real b_brief b_order b_waits b_floats b_same b_upOf b_downOf b_tape b_open b_made b_paper b_reachUp b_reachDown b_reachHow b_reachFirst b_reachSecond b_begins b_carried c_hasImage c_above c_below c_orderMany c_waitMany c_seed c_size c_openMany c_paperMany c_reachMany s1_135 s2_149 (c_above_r149, c_below_r149) hq149) (cwV 2 hts gX11_joined_X11_becomes rfl rfl rfl ⟨rfl, cdX11_becomes⟩ ⟨Nat.le_of_ble_eq_true rfl, Nat.le_of_ble_eq_true rfl⟩) (zPV hK hP hD [0] rfl rfl (q0 := 0) (ci := 11) rfl rfl rfl) rfl rfl hl.1 rfl (lv_room (Nat.le_of_ble_eq_true rfl)) dX11_joined_149 ⟨Nat.zero_le _, Nat.zero_le _⟩) hP hD hS hA [0] [] [0] rfl rfl rfl rfl (fun H locs hP hD hS => ?_)
                    refine lv_goto (tgt := 173) hx hb dX11_joined_152 (by decide) ?_
                    exact hret (o := (c_above_r149, c_below_r149)) h hP hD hS dX11_joined_173
                  refine lv_if_ne (tgt := 147) hx hb dX11_joined_139 (by decide) (fun hc139 => ?_) (fun hc139 => ?_)
                  · replace hc139 := fun q => hc139 ((zc_eq _ _).mpr q)
                    replace h := zi_f hc139 h
                    refine lv_lload hx hb dX11_joined_147 (lv_at hl 0 rfl) ?_
                    exact hJ149 p3 _ _ _ hP hD hS (lv_sub hl [] rfl) h
                  · replace hc139 := (zc_eq _ _).mp hc139
                    replace h := zi_t hc139 h
                    refine lv_lload hx hb dX11_joined_142 (lv_at hl 1 rfl) ?_
                    refine lv_goto (tgt := 149) hx hb dX11_joined_144 (by decide) ?_
                    exact hJ149 p5 _ _ _ hP hD hS (lv_sub hl [] rfl) h
                refine lv_if_ne (tgt := 134) hx hb dX11_joined_126 (by decide) (fun hc126 => ?_) (fun hc126 => ?_)
                · replace hc126 := fun q => hc126 ((zc_eq _ _).mpr q)
                  replace h := zi_f hc126 h
                  refine lv_lload_n hx hb dX11_joined_134 rfl (lv_at hl 1 rfl) ?_
                  exact hJ135 p2 _ _ _ hP hD hS (lv_sub hl [2, 4] rfl) h
                · replace hc126 := (zc_eq _ _).mp hc126
                  replace h := zi_t hc126 h
                  refine lv_lload hx hb dX11_joined_129 (lv_at hl 3 rfl) ?_
                  refine lv_goto (tgt := 135) hx hb dX11_joined_131 (by decide) ?_
                  exact hJ135 p4 _ _ _ hP hD hS (lv_sub hl [2, 4] rfl) h
              refine lv_if_eq (tgt := 121) hx hb dX11_joined_111 (by decide) (fun hc111 => ?_) (fun hc111 => ?_)
              · replace hc111 := (zc_eq _ _).mp hc111
                replace h := zi_t hc111 h
                exact hJ121 _ _ _ hP hD hS (lv_sub hl [0, 2, 3, 4, 5] rfl) h
              · replace hc111 := fun q => hc111 ((zc_eq _ _).mpr q)
                replace h := zi_f hc111 h
                refine lv_lload hx hb dX11_joined_114 (lv_at hl 5 rfl) ?_
                refine lv_lconst (v := (0 : Int64)) hx hb dX11_joined_116 (by decide) ?_
                refine W.lcmp hx hb dX11_joined_117 ?_
                refine lv_if_ne (tgt := 155) hx hb dX11_joined_118 (by decide) (fun hc118 => ?_) (fun hc118 => ?_)
                · replace hc118 := fun q => hc118 ((zc_eq _ _).mpr q)
                  replace h := zi_f hc118 h
                  refine lv_aload_n hx hb dX11_joined_155 rfl (lv_at hl 0 rfl) ?_
                  refine lv_lload_n hx hb dX11_joined_156 rfl (lv_at hl 2 rfl) ?_
                  refine lv_lload hx hb dX11_joined_157 (lv_at hl 4 rfl) ?_
                  refine lv_lmul hx hb dX11_joined_159 ?_
                  refine lv_lload_n hx hb dX11_joined_160 rfl (lv_at hl 2 rfl) ?_
                  refine lv_lload hx hb dX11_joined_161 (lv_at hl 5 rfl) ?_
                  refine lv_lmul hx hb dX11_joined_163 ?_
                  refine lv_lload hx hb dX11_joined_164 (lv_at hl 4 rfl) ?_
                  refine lv_lload hx hb dX11_joined_166 (lv_at hl 3 rfl) ?_
                  refine lv_lmul hx hb dX11_joined_168 ?_
                  refine lv_ladd hx hb dX11_joined_169 ?_
                  obtain ⟨c_above_r170, c_below_r170, hq170, h⟩ := zb2_s h
                  refine zCv (w1 := (wdX11_becomes cy b b_now b_imaged b_valueUp b_valueDown b_real b_brief b_order b_waits b_floats b_same b_upOf b_downOf b_tape b_open b_made b_paper b_reachUp b_reachDown b_reachHow b_reachFirst b_reachSecond b_begins b_carried c_hasImage c_above_r170 c_below_r170 c_orderMany c_waitMany c_seed c_size c_openMany c_paperMany c_reachMany)) (ws' := (wdX11_joined cy b b_now b_imaged b_valueUp b_valueDown b_real b_brief b_order b_waits b_floats b_same b_upOf b_downOf b_tape b_open b_made b_paper b_reachUp b_reachDown b_reachHow b_reachFirst b_reachSecond b_begins b_carried c_hasImage c_above_r170 c_below_r170 c_orderMany c_waitMany c_seed c_size c_openMany c_paperMany c_reachMany)) (va_runV (As := [.long (p2 * p4), .long ((p2 * p5) + (p4 * p3))]) (rest := []) ⟨hx, hb, hml, hown, hts⟩ (mX11_becomes l D cy H.size b b_now b_imaged b_valueUp b_valueDown b_real b_brief b_order b_waits b_floats b_same b_upOf b_downOf b_tape b_open b_made b_paper b_reachUp b_reachDown b_reachHow b_reachFirst b_reachSecond b_begins b_carried c_hasImage c_above c_below c_orderMany c_waitMany c_seed c_size c_openMany c_paperMany c_reachMany (p2 * p4) ((p2 * p5) + (p4 * p3)) (c_above_r170, c_below_r170) hq170) (cwV 2 hts gX11_joined_X11_becomes rfl rfl rfl ⟨rfl, cdX11_becomes⟩ ⟨Nat.le_of_ble_eq_true rfl, Nat.le_of_ble_eq_true rfl⟩) (zPV hK hP hD [0] rfl rfl (q0 := 0) (ci := 11) rfl rfl rfl) rfl rfl hl.1 rfl (lv_room (Nat.le_of_ble_eq_true rfl)) dX11_joined_170 ⟨Nat.zero_le _, Nat.zero_le _⟩) hP hD hS hA [0] [] [0] rfl rfl rfl rfl (fun H locs hP hD hS => ?_)
                  exact hret (o := (c_above_r170, c_below_r170)) h hP hD hS dX11_joined_173
                · replace hc118 := (zc_eq _ _).mp hc118
                  replace h := zi_t hc118 h
                  exact hJ121 _ _ _ hP hD hS (lv_sub hl [0, 2, 3, 4, 5] rfl) h
            · replace hc95 := (zc_eq _ _).mp hc95
              replace h := zi_t hc95 h
              exact hJ98 _ _ _ hP hD hS (lv_sub hl [0] rfl) h
        · replace h := zi_t hc60 h
          refine lv_aload_n hx hb dX11_joined_63 rfl (lv_at hl 0 rfl) ?_
          refine lv_lload_n hx hb dX11_joined_64 rfl (lv_at hl 2 rfl) ?_
          refine lv_lload hx hb dX11_joined_65 (lv_at hl 5 rfl) ?_
          refine lv_lmul hx hb dX11_joined_67 ?_
          refine lv_lload hx hb dX11_joined_68 (lv_at hl 4 rfl) ?_
          refine lv_lload hx hb dX11_joined_70 (lv_at hl 3 rfl) ?_
          refine lv_lmul hx hb dX11_joined_72 ?_
          refine lv_ladd hx hb dX11_joined_73 ?_
          refine lv_lload hx hb dX11_joined_74 (lv_at hl 3 rfl) ?_
          refine lv_lload hx hb dX11_joined_76 (lv_at hl 5 rfl) ?_
          refine lv_lmul hx hb dX11_joined_78 ?_
          obtain ⟨c_above_r79, c_below_r79, hq79, h⟩ := zb2_s h
          refine zCv (w1 := (wdX11_becomes cy b b_now b_imaged b_valueUp b_valueDown b_real b_brief b_order b_waits b_floats b_same b_upOf b_downOf b_tape b_open b_made b_paper b_reachUp b_reachDown b_reachHow b_reachFirst b_reachSecond b_begins b_carried c_hasImage c_above_r79 c_below_r79 c_orderMany c_waitMany c_seed c_size c_openMany c_paperMany c_reachMany)) (ws' := (wdX11_joined cy b b_now b_imaged b_valueUp b_valueDown b_real b_brief b_order b_waits b_floats b_same b_upOf b_downOf b_tape b_open b_made b_paper b_reachUp b_reachDown b_reachHow b_reachFirst b_reachSecond b_begins b_carried c_hasImage c_above_r79 c_below_r79 c_orderMany c_waitMany c_seed c_size c_openMany c_paperMany c_reachMany)) (va_runV (As := [.long ((p2 * p5) + (p4 * p3)), .long (p3 * p5)]) (rest := []) ⟨hx, hb, hml, hown, hts⟩ (mX11_becomes l D cy H.size b b_now b_imaged b_valueUp b_valueDown b_real b_brief b_order b_waits b_floats b_same b_upOf b_downOf b_tape b_open b_made b_paper b_reachUp b_reachDown b_reachHow b_reachFirst b_reachSecond b_begins b_carried c_hasImage c_above c_below c_orderMany c_waitMany c_seed c_size c_openMany c_paperMany c_reachMany ((p2 * p5) + (p4 * p3)) (p3 * p5) (c_above_r79, c_below_r79) hq79) (cwV 2 hts gX11_joined_X11_becomes rfl rfl rfl ⟨rfl, cdX11_becomes⟩ ⟨Nat.le_of_ble_eq_true rfl, Nat.le_of_ble_eq_true rfl⟩) (zPV hK hP hD [0] rfl rfl (q0 := 0) (ci := 11) rfl rfl rfl) rfl rfl hl.1 rfl (lv_room (Nat.le_of_ble_eq_true rfl)) dX11_joined_79 ⟨Nat.zero_le _, Nat.zero_le _⟩) hP hD hS hA [0] [] [0] rfl rfl rfl rfl (fun H locs hP hD hS => ?_)
          refine lv_goto (tgt := 173) hx hb dX11_joined_82 (by decide) ?_
          exact hret (o := (c_above_r79, c_below_r79)) h hP hD hS dX11_joined_173
      refine lv_icmp_ne (tgt := 58) hx hb dX11_joined_32 (by decide) (fun hc32 => ?_) (fun hc32 => ?_)
      · replace h := zi_f hc32 h
        exact hJ58 _ _ _ hP hD hS (lv_sub hl [0, 1, 2, 3, 4, 5] rfl) h
      · replace h := zi_t hc32 h
        refine lv_lload hx hb dX11_joined_35 (lv_at hl 3 rfl) ?_
        refine lv_lconst (v := (0 : Int64)) hx hb dX11_joined_37 (by decide) ?_
        refine W.lcmp hx hb dX11_joined_38 ?_
        have hJ49 : ∀  (H : Heap) (locs : List Loc) (ls : Array Slot), va_P D vwCl (wdX11_joined cy b b_now b_imaged b_valueUp b_valueDown b_real b_brief b_order b_waits b_floats b_same b_upOf b_downOf b_tape b_open b_made b_paper b_reachUp b_reachDown b_reachHow b_reachFirst b_reachSecond b_begins b_carried c_hasImage c_above c_below c_orderMany c_waitMany c_seed c_size c_openMany c_paperMany c_reachMany) H → va_D A (wdX11_joined cy b b_now b_imaged b_valueUp b_valueDown b_real b_brief b_order b_waits b_floats b_same b_upOf b_downOf b_tape b_open b_made b_paper b_reachUp b_reachDown b_reachHow b_reachFirst b_reachSecond b_begins b_carried c_hasImage c_above c_below c_orderMany c_waitMany c_seed c_size c_openMany c_paperMany c_reachMany) → va_S A s.heap H locs → lv_has ls 10 [(0, .ref b)] → fX11_joined_J49 c_above c_below = some res → W p l e rmX11_joined s m args below meth c H locs 0 0 Q (F0 m 49 ls []) := by
          intro  H locs ls hP hD hS hl h
          refine lv_aload_n hx hb dX11_joined_49 rfl (lv_at hl 0 rfl) ?_
          refine lv_lconst (v := (1 : Int64)) hx hb dX11_joined_50 (by decide) ?_
          refine lv_lconst (v := (0 : Int64)) hx hb dX11_joined_51 (by decide) ?_
          obtain ⟨c_above_r52, c_below_r52, hq52, h⟩ := zb2_s h
          refine zCv (w1 := (wdX11_becomes cy b b_now b_imaged b_valueUp b_valueDown b_real b_brief b_order b_waits b_floats b_same b_upOf b_downOf b_tape b_open b_made b_paper b_reachUp b_reachDown b_reachHow b_reachFirst b_reachSecond b_begins b_carried c_hasImage c_above_r52 c_below_r52 c_orderMany c_waitMany c_seed c_size c_openMany c_paperMany c_reachMany)) (ws' := (wdX11_joined cy b b_now b_imaged b_valueUp b_valueDown b_real b_brief b_order b_waits b_floats b_same b_upOf b_downOf b_tape b_open b_made b_paper b_reachUp b_reachDown b_reachHow b_reachFirst b_reachSecond b_begins b_carried c_hasImage c_above_r52 c_below_r52 c_orderMany c_waitMany c_seed c_size c_openMany c_paperMany c_reachMany)) (va_runV (As := [.long (1 : Int64), .long (0 : Int64)]) (rest := []) ⟨hx, hb, hml, hown, hts⟩ (mX11_becomes l D cy H.size b b_now b_imaged b_valueUp b_valueDown b_real b_brief b_order b_waits b_floats b_same b_upOf b_downOf b_tape b_open b_made b_paper b_reachUp b_reachDown b_reachHow b_reachFirst b_reachSecond b_begins b_carried c_hasImage c_above c_below c_orderMany c_waitMany c_seed c_size c_openMany c_paperMany c_reachMany (1 : Int64) (0 : Int64) (c_above_r52, c_below_r52) hq52) (cwV 2 hts gX11_joined_X11_becomes rfl rfl rfl ⟨rfl, cdX11_becomes⟩ ⟨Nat.le_of_ble_eq_true rfl, Nat.le_of_ble_eq_true rfl⟩) (zPV hK hP hD [0] rfl rfl (q0 := 0) (ci := 11) rfl rfl rfl) rfl rfl hl.1 rfl (lv_room (Nat.le_of_ble_eq_true rfl)) dX11_joined_52 ⟨Nat.zero_le _, Nat.zero_le _⟩) hP hD hS hA [0] [] [0] rfl rfl rfl rfl (fun H locs hP hD hS => ?_)
          refine lv_goto (tgt := 173) hx hb dX11_joined_55 (by decide) ?_
          exact hret (o := (c_above_r52, c_below_r52)) h hP hD hS dX11_joined_173
        refine lv_if_eq (tgt := 49) hx hb dX11_joined_39 (by decide) (fun hc39 => ?_) (fun hc39 => ?_)
        · replace hc39 := (zc_eq _ _).mp hc39
          replace h := zi_t hc39 h
          exact hJ49 _ _ _ hP hD hS (lv_sub hl [0] rfl) h
        · replace hc39 := fun q => hc39 ((zc_eq _ _).mpr q)
          replace h := zi_f hc39 h
          refine lv_lload hx hb dX11_joined_42 (lv_at hl 5 rfl) ?_
          refine lv_lconst (v := (0 : Int64)) hx hb dX11_joined_44 (by decide) ?_
          refine W.lcmp hx hb dX11_joined_45 ?_
          refine lv_if_ne (tgt := 58) hx hb dX11_joined_46 (by decide) (fun hc46 => ?_) (fun hc46 => ?_)
          · replace hc46 := fun q => hc46 ((zc_eq _ _).mpr q)
            replace h := zi_f hc46 h
            exact hJ58 _ _ _ hP hD hS (lv_sub hl [0, 1, 2, 3, 4, 5] rfl) h
          · replace hc46 := (zc_eq _ _).mp hc46
            replace h := zi_t hc46 h
            exact hJ49 _ _ _ hP hD hS (lv_sub hl [0] rfl) h
    · replace hc10 := fun q => hc10 ((zc_ge _ _).mpr q)
      replace h := zi_f hc10 h
      exact hJ13 _ _ _ hP hD hS (lv_sub hl [0] rfl) h

theorem uX11_values_X11 : ∀ w ∈ u_ws RX11 TX11 33, w ∈ wsX11_values := fun w h => (List.mem_cons_of_mem _ (List.mem_append_right _ h))
abbrev wdX11_values (cy : Nat → ClassId) (b b_now b_imaged b_valueUp b_valueDown b_real b_brief b_order b_waits b_floats b_same b_upOf b_downOf b_tape b_open b_made b_paper b_reachUp b_reachDown b_reachHow b_reachFirst b_reachSecond b_begins b_carried : Nat) (c_hasImage : Int32) (c_above c_below : Int64) (c_orderMany c_waitMany c_seed c_size c_openMany c_paperMany c_reachMany : Int32) (c_now : Nat → Int32) (c_valueUp c_valueDown : Nat → Int64) : va_W := [(b, .inr (11, [.ref b_now, .ref b_imaged, .int c_hasImage, .long c_above, .long c_below, .ref b_valueUp, .ref b_valueDown, .ref b_real, .ref b_brief, .ref b_order, .int c_orderMany, .ref b_waits, .int c_waitMany, .ref b_floats, .int c_seed, .ref b_same, .ref b_upOf, .ref b_downOf, .ref b_tape, .int c_size, .ref b_open, .int c_openMany, .ref b_made, .ref b_paper, .int c_paperMany, .ref b_reachUp, .ref b_reachDown, .ref b_reachHow, .ref b_reachFirst, .ref b_reachSecond, .ref b_begins, .int c_reachMany, .ref b_carried])), (b_now, .inl (cy 0, 261, .inl c_now)), (b_valueUp, .inl (cy 1, 40, .inr (.inl c_valueUp))), (b_valueDown, .inl (cy 1, 40, .inr (.inl c_valueDown)))]
abbrev rmX11_values : Room := { frames := 3, cells := 0, slots := 0, locals := 84 }
theorem cdX11_values : (yX11_values).cls ≠ "java/lang/invoke/MethodHandle" ∧ (yX11_values).cls ≠ "java/lang/invoke/VarHandle" ∧ (parseMethodDescriptor (yX11_values).desc).map (fun d => d.parameters.length) = some 0 := by decide +kernel
def fX11_values_J91 (v1_2 : Int32) (c_valueUp_2 c_valueDown_2 : Nat → Int64) (rec2 : Int32 → Int64 → Int64 → (Nat → Int64) → (Nat → Int64) → Option (Int64 × Int64 × (Nat → Int64) × (Nat → Int64))) (c_above_91 c_below_91 : Int64) : Option (Int64 × Int64 × (Nat → Int64) × (Nat → Int64)) :=
  zg (zin v1_2 40) (zg (zin v1_2 40) (rec2 (v1_2 + (1 : Int32)) c_above_91 c_below_91 (vp_updL c_valueUp_2 (v1_2).toNatClampNeg c_above_91) (vp_updL c_valueDown_2 (v1_2).toNatClampNeg c_below_91)))
def fX11_values_L2 (c_now : Nat → Int32) : Nat → Int32 → Int64 → Int64 → (Nat → Int64) → (Nat → Int64) → Option (Int64 × Int64 × (Nat → Int64) × (Nat → Int64)) :=
  zl5 (fun rec2 v1_2 c_above_2 c_below_2 c_valueUp_2 c_valueDown_2 => if (c_now ((8 : Int32)).toNatClampNeg) ≤ v1_2 then (some (c_above_2, c_below_2, c_valueUp_2, c_valueDown_2)) else (zb1 (fX11_kindOf v1_2 c_now) (fun r15 => if r15 = 0 then (zb1 (fX11_firstOf v1_2 c_now) (fun r29 => zg (zin ((0 : Int32) + r29) 261) (zb2 (fX11_becomes (((c_now (((0 : Int32) + r29)).toNatClampNeg)).toInt64) (1 : Int64) c_above_2 c_below_2) (fun c_above_r36 c_below_r36 => fX11_values_J91 v1_2 c_valueUp_2 c_valueDown_2 rec2 c_above_r36 c_below_r36)))) else (zb1 (fX11_kindOf v1_2 c_now) (fun r45 => zb1 (fX11_firstOf v1_2 c_now) (fun r54 => zg (zin r54 40) (zb1 (fX11_firstOf v1_2 c_now) (fun r64 => zg (zin r64 40) (zb1 (fX11_secondOf v1_2 c_now) (fun r74 => zg (zin r74 40) (zb1 (fX11_secondOf v1_2 c_now) (fun r84 => zg (zin r84 40) (zb2 (fX11_joined r45 (c_valueUp_2 (r54).toNatClampNeg) (c_valueDown_2 (r64).toNatClampNeg) (c_valueUp_2 (r74).toNatClampNeg) (c_valueDown_2 (r84).toNatClampNeg) c_above_2 c_below_2) (fun c_above_r88 c_below_r88 => fX11_values_J91 v1_2 c_valueUp_2 c_valueDown_2 rec2 c_above_r88 c_below_r88))))))))))))))
def fX11_values (c_above c_below : Int64) (c_now : Nat → Int32) (c_valueUp c_valueDown : Nat → Int64) : Option (Int64 × Int64 × (Nat → Int64) × (Nat → Int64)) :=
  fX11_values_L2 c_now 5000 (0 : Int32) c_above c_below c_valueUp c_valueDown
set_option maxHeartbeats 4000000 in
set_option maxRecDepth 100000 in
theorem mX11_values (l : Launch) (D : va_G) (cy : Nat → ClassId) (sz : Nat) (b b_now b_imaged b_valueUp b_valueDown b_real b_brief b_order b_waits b_floats b_same b_upOf b_downOf b_tape b_open b_made b_paper b_reachUp b_reachDown b_reachHow b_reachFirst b_reachSecond b_begins b_carried : Nat) (c_hasImage : Int32) (c_above c_below : Int64) (c_orderMany c_waitMany c_seed c_size c_openMany c_paperMany c_reachMany : Int32) (c_now : Nat → Int32) (c_valueUp c_valueDown : Nat → Int64) (res : (Int64 × Int64 × (Nat → Int64) × (Nat → Int64))) (h : fX11_values c_above c_below c_now c_valueUp c_valueDown = some res) : zMv l yX11_values wsX11_values rmX11_values [.ref b] D cy (wdX11_values cy b b_now b_imaged b_valueUp b_valueDown b_real b_brief b_order b_waits b_floats b_same b_upOf b_downOf b_tape b_open b_made b_paper b_reachUp b_reachDown b_reachHow b_reachFirst b_reachSecond b_begins b_carried c_hasImage c_above c_below c_orderMany c_waitMany c_seed c_size c_openMany c_paperMany c_reachMany c_now c_valueUp c_valueDown) sz  ((fun (o : (Int64 × Int64 × (Nat → Int64) × (Nat → Int64))) => (wdX11_values cy b b_now b_imaged b_valueUp b_valueDown b_real b_brief b_order b_waits b_floats b_same b_upOf b_downOf b_tape b_open b_made b_paper b_reachUp b_reachDown b_reachHow b_reachFirst b_reachSecond b_begins b_carried c_hasImage (o.1) (o.2.1) c_orderMany c_waitMany c_seed c_size c_openMany c_paperMany c_reachMany c_now (o.2.2.1) (o.2.2.2))) res) := by
  refine zOfv (res := res) (Wf := (fun (o : (Int64 × Int64 × (Nat → Int64) × (Nat → Int64))) => (wdX11_values cy b b_now b_imaged b_valueUp b_valueDown b_real b_brief b_order b_waits b_floats b_same b_upOf b_downOf b_tape b_open b_made b_paper b_reachUp b_reachDown b_reachHow b_reachFirst b_reachSecond b_begins b_carried c_hasImage (o.1) (o.2.1) c_orderMany c_waitMany c_seed c_size c_openMany c_paperMany c_reachMany c_now (o.2.2.1) (o.2.2.2)))) (by decide +kernel) rfl (Nat.le_of_ble_eq_true rfl) ?_
  intro p e s m args below meth c A ls Q hx hb hml hts hown hP hK hD hA hS hl hret
  have hown : s.vm.findClass RX11 = some m.cls := hown
  have hl : lv_has ls 2 [(0, .ref b)] := hl
  refine lv_iconst (v := (0 : Int32)) hx hb dX11_values_0 (by decide) ?_
  refine lv_istore_n (lv' := [(1, .int (0 : Int32)), (0, .ref b)]) hx hb dX11_values_1 rfl hl (Nat.le_of_ble_eq_true rfl) rfl (fun ls hl => ?_)
  have hL2 : ∀ n2 : Nat, ∀ (v1_2 : Int32) (c_above_2 c_below_2 : Int64) (c_valueUp_2 c_valueDown_2 : Nat → Int64) (H : Heap) (locs : List Loc) (ls : Array Slot), va_P D vwCl (wdX11_values cy b b_now b_imaged b_valueUp b_valueDown b_real b_brief b_order b_waits b_floats b_same b_upOf b_downOf b_tape b_open b_made b_paper b_reachUp b_reachDown b_reachHow b_reachFirst b_reachSecond b_begins b_carried c_hasImage c_above_2 c_below_2 c_orderMany c_waitMany c_seed c_size c_openMany c_paperMany c_reachMany c_now c_valueUp_2 c_valueDown_2) H → va_D A (wdX11_values cy b b_now b_imaged b_valueUp b_valueDown b_real b_brief b_order b_waits b_floats b_same b_upOf b_downOf b_tape b_open b_made b_paper b_reachUp b_reachDown b_reachHow b_reachFirst b_reachSecond b_begins b_carried c_hasImage c_above_2 c_below_2 c_orderMany c_waitMany c_seed c_size c_openMany c_paperMany c_reachMany c_now c_valueUp_2 c_valueDown_2) → va_S A s.heap H locs → lv_has ls 2 [(0, .ref b), (1, .int v1_2)] → fX11_values_L2 c_now n2 v1_2 c_above_2 c_below_2 c_valueUp_2 c_valueDown_2 = some res → W p l e rmX11_values s m args below meth c H locs 0 0 Q (F0 m 2 ls []) := by
    intro n2
    induction n2 with
    | zero =>
      intro v1_2 c_above_2 c_below_2 c_valueUp_2 c_valueDown_2 H locs ls hP hD hS hl h
      exact zl5_0 h
    | succ n2 ih2 =>
      intro v1_2 c_above_2 c_below_2 c_valueUp_2 c_valueDown_2 H locs ls hP hD hS hl h
      replace h := zl5_s h
      refine lv_iload_n hx hb dX11_values_2 rfl (lv_at hl 1 rfl) ?_
      refine lv_aload_n hx hb dX11_values_3 rfl (lv_at hl 0 rfl) ?_
      refine va_get (D := D) (ci := 11) (v := .ref b_now) (C := RX11) (T := TX11) (N := 33) hx hb hts uX11_values_X11 hown hK.1 hP 0 rfl rfl 0 (by decide) (hts (.fieldLink RX11 9 "WishedResistorModel" "now" "[I") (List.mem_of_getElem? (i := 1) rfl)) (fun _ h9 => h9) rfl dX11_values_4 ?_
      refine lv_bipush (v := (8 : Int32)) hx hb dX11_values_7 (by decide) ?_
      refine va_iald hx hb hK.1 hP 1 0 rfl rfl (show zin (8 : Int32) 261 from by decide) dX11_values_9 ?_
      refine lv_icmp_ge (tgt := 117) hx hb dX11_values_10 (by decide) (fun hc10 => ?_) (fun hc10 => ?_)
      · replace h := zi_t hc10 h
        exact hret (o := (c_above_2, c_below_2, c_valueUp_2, c_valueDown_2)) h hP hD hS dX11_values_117
      · replace h := zi_f hc10 h
        refine lv_aload_n hx hb dX11_values_13 rfl (lv_at hl 0 rfl) ?_
        refine lv_iload_n hx hb dX11_values_14 rfl (lv_at hl 1 rfl) ?_
        obtain ⟨r15, hq15, h⟩ := zb1_s h
        refine zCi (r0 := r15) (w1 := (wdX11_kindOf cy b b_now b_imaged b_valueUp b_valueDown b_real b_brief b_order b_waits b_floats b_same b_upOf b_downOf b_tape b_open b_made b_paper b_reachUp b_reachDown b_reachHow b_reachFirst b_reachSecond b_begins b_carried c_hasImage c_above_2 c_below_2 c_orderMany c_waitMany c_seed c_size c_openMany c_paperMany c_reachMany c_now)) (ws' := (wdX11_values cy b b_now b_imaged b_valueUp b_valueDown b_real b_brief b_order b_waits b_floats b_same b_upOf b_downOf b_tape b_open b_made b_paper b_reachUp b_reachDown b_reachHow b_reachFirst b_reachSecond b_begins b_carried c_hasImage c_above_2 c_below_2 c_orderMany c_waitMany c_seed c_size c_openMany c_paperMany c_reachMany c_now c_valueUp_2 c_valueDown_2)) (va_runV (As := [.int v1_2]) (rest := []) ⟨hx, hb, hml, hown, hts⟩ (mX11_kindOf l D cy H.size b b_now b_imaged b_valueUp b_valueDown b_real b_brief b_order b_waits b_floats b_same b_upOf b_downOf b_tape b_open b_made b_paper b_reachUp b_reachDown b_reachHow b_reachFirst b_reachSecond b_begins b_carried c_hasImage c_above_2 c_below_2 c_orderMany c_waitMany c_seed c_size c_openMany c_paperMany c_reachMany c_now v1_2 (r15) hq15) (cwV 1 hts gX11_values_X11_kindOf rfl rfl rfl ⟨rfl, cdX11_kindOf⟩ ⟨Nat.le_of_ble_eq_true rfl, Nat.le_of_ble_eq_true rfl⟩) (zPV hK hP hD [0, 1] rfl rfl (q0 := 0) (ci := 11) rfl rfl rfl) rfl rfl hl.1 rfl (lv_room (Nat.le_of_ble_eq_true rfl)) dX11_values_15 ⟨Nat.zero_le _, Nat.zero_le _⟩) hP hD hS hA [0, 1] [2, 3] [2, 3, 0, 1] rfl rfl rfl rfl (fun H locs hP hD hS => ?_)
        have hJ91 : ∀ (c_above_91 c_below_91 : Int64) (H : Heap) (locs : List Loc) (ls : Array Slot), va_P D vwCl (wdX11_values cy b b_now b_imaged b_valueUp b_valueDown b_real b_brief b_order b_waits b_floats b_same b_upOf b_downOf b_tape b_open b_made b_paper b_reachUp b_reachDown b_reachHow b_reachFirst b_reachSecond b_begins b_carried c_hasImage c_above_91 c_below_91 c_orderMany c_waitMany c_seed c_size c_openMany c_paperMany c_reachMany c_now c_valueUp_2 c_valueDown_2) H → va_D A (wdX11_values cy b b_now b_imaged b_valueUp b_valueDown b_real b_brief b_order b_waits b_floats b_same b_upOf b_downOf b_tape b_open b_made b_paper b_reachUp b_reachDown b_reachHow b_reachFirst b_reachSecond b_begins b_carried c_hasImage c_above_91 c_below_91 c_orderMany c_waitMany c_seed c_size c_openMany c_paperMany c_reachMany c_now c_valueUp_2 c_valueDown_2) → va_S A s.heap H locs → lv_has ls 2 [(0, .ref b), (1, .int v1_2)] → fX11_values_J91 v1_2 c_valueUp_2 c_valueDown_2 (fX11_values_L2 c_now n2) c_above_91 c_below_91 = some res → W p l e rmX11_values s m args below meth c H locs 0 0 Q (F0 m 91 ls []) := by
          intro c_above_91 c_below_91 H locs ls hP hD hS hl h
          refine lv_aload_n hx hb dX11_values_91 rfl (lv_at hl 0 rfl) ?_
          refine va_get (D := D) (ci := 11) (v := .ref b_valueUp) (C := RX11) (T := TX11) (N := 33) hx hb hts uX11_values_X11 hown hK.1 hP 0 rfl rfl 5 (by decide) (hts (.fieldLink RX11 18 "WishedResistorModel" "valueUp" "[J") (List.mem_of_getElem? (i := 2) rfl)) (fun _ h9 => h9) rfl dX11_values_92 ?_
          refine lv_iload_n hx hb dX11_values_95 rfl (lv_at hl 1 rfl) ?_
          refine lv_aload_n hx hb dX11_values_96 rfl (lv_at hl 0 rfl) ?_
          refine va_get (D := D) (ci := 11) (v := .long c_above_91) (C := RX11) (T := TX11) (N := 33) hx hb hts uX11_values_X11 hown hK.1 hP 0 rfl rfl 3 (by decide) (hts (.fieldLink RX11 136 "WishedResistorModel" "above" "J") (List.mem_of_getElem? (i := 4) rfl)) (fun _ h9 => h9) rfl dX11_values_97 ?_
          obtain ⟨hi100, h⟩ := zg_s h
          refine va_last hx hb hK.1 hP hD hS 2 1 rfl rfl hi100 dX11_values_100 (fun H locs hP hD hS => ?_)
          have hP : va_P D vwCl (wdX11_values cy b b_now b_imaged b_valueUp b_valueDown b_real b_brief b_order b_waits b_floats b_same b_upOf b_downOf b_tape b_open b_made b_paper b_reachUp b_reachDown b_reachHow b_reachFirst b_reachSecond b_begins b_carried c_hasImage c_above_91 c_below_91 c_orderMany c_waitMany c_seed c_size c_openMany c_paperMany c_reachMany c_now (vp_updL c_valueUp_2 (v1_2).toNatClampNeg c_above_91) c_valueDown_2) H := hP
          have hD : va_D A (wdX11_values cy b b_now b_imaged b_valueUp b_valueDown b_real b_brief b_order b_waits b_floats b_same b_upOf b_downOf b_tape b_open b_made b_paper b_reachUp b_reachDown b_reachHow b_reachFirst b_reachSecond b_begins b_carried c_hasImage c_above_91 c_below_91 c_orderMany c_waitMany c_seed c_size c_openMany c_paperMany c_reachMany c_now (vp_updL c_valueUp_2 (v1_2).toNatClampNeg c_above_91) c_valueDown_2) := hD
          refine lv_aload_n hx hb dX11_values_101 rfl (lv_at hl 0 rfl) ?_
          refine va_get (D := D) (ci := 11) (v := .ref b_valueDown) (C := RX11) (T := TX11) (N := 33) hx hb hts uX11_values_X11 hown hK.1 hP 0 rfl rfl 6 (by decide) (hts (.fieldLink RX11 22 "WishedResistorModel" "valueDown" "[J") (List.mem_of_getElem? (i := 3) rfl)) (fun _ h9 => h9) rfl dX11_values_102 ?_
          refine lv_iload_n hx hb dX11_values_105 rfl (lv_at hl 1 rfl) ?_
          refine lv_aload_n hx hb dX11_values_106 rfl (lv_at hl 0 rfl) ?_
          refine va_get (D := D) (ci := 11) (v := .long c_below_91) (C := RX11) (T := TX11) (N := 33) hx hb hts uX11_values_X11 hown hK.1 hP 0 rfl rfl 4 (by decide) (hts (.fieldLink RX11 140 "WishedResistorModel" "below" "J") (List.mem_of_getElem? (i := 5) rfl)) (fun _ h9 => h9) rfl dX11_values_107 ?_
          obtain ⟨hi110, h⟩ := zg_s h
          refine va_last hx hb hK.1 hP hD hS 3 1 rfl rfl hi110 dX11_values_110 (fun H locs hP hD hS => ?_)
          have hP : va_P D vwCl (wdX11_values cy b b_now b_imaged b_valueUp b_valueDown b_real b_brief b_order b_waits b_floats b_same b_upOf b_downOf b_tape b_open b_made b_paper b_reachUp b_reachDown b_reachHow b_reachFirst b_reachSecond b_begins b_carried c_hasImage c_above_91 c_below_91 c_orderMany c_waitMany c_seed c_size c_openMany c_paperMany c_reachMany c_now (vp_updL c_valueUp_2 (v1_2).toNatClampNeg c_above_91) (vp_updL c_valueDown_2 (v1_2).toNatClampNeg c_below_91)) H := hP
          have hD : va_D A (wdX11_values cy b b_now b_imaged b_valueUp b_valueDown b_real b_brief b_order b_waits b_floats b_same b_upOf b_downOf b_tape b_open b_made b_paper b_reachUp b_reachDown b_reachHow b_reachFirst b_reachSecond b_begins b_carried c_hasImage c_above_91 c_below_91 c_orderMany c_waitMany c_seed c_size c_openMany c_paperMany c_reachMany c_now (vp_updL c_valueUp_2 (v1_2).toNatClampNeg c_above_91) (vp_updL c_valueDown_2 (v1_2).toNatClampNeg c_below_91)) := hD
          refine lv_iinc (v := (v1_2 + (1 : Int32))) (lv' := [(1, .int (v1_2 + (1 : Int32))), (0, .ref b)]) hx hb dX11_values_111 hl (k := 1) rfl (by rfl) (Nat.le_of_ble_eq_true rfl) rfl (fun ls hl => ?_)
          refine lv_goto (tgt := 2) hx hb dX11_values_114 (by decide) ?_
          exact ih2 (v1_2 + (1 : Int32)) c_above_91 c_below_91 (vp_updL c_valueUp_2 (v1_2).toNatClampNeg c_above_91) (vp_updL c_valueDown_2 (v1_2).toNatClampNeg c_below_91) _ _ _ hP hD hS (lv_sub hl [1, 0] rfl) h
        refine lv_if_ne (tgt := 42) hx hb dX11_values_18 (by decide) (fun hc18 => ?_) (fun hc18 => ?_)
        · replace h := zi_f hc18 h
          refine lv_aload_n hx hb dX11_values_42 rfl (lv_at hl 0 rfl) ?_
          refine lv_aload_n hx hb dX11_values_43 rfl (lv_at hl 0 rfl) ?_
          refine lv_iload_n hx hb dX11_values_44 rfl (lv_at hl 1 rfl) ?_
          obtain ⟨r45, hq45, h⟩ := zb1_s h
          refine zCi (r0 := r45) (w1 := (wdX11_kindOf cy b b_now b_imaged b_valueUp b_valueDown b_real b_brief b_order b_waits b_floats b_same b_upOf b_downOf b_tape b_open b_made b_paper b_reachUp b_reachDown b_reachHow b_reachFirst b_reachSecond b_begins b_carried c_hasImage c_above_2 c_below_2 c_orderMany c_waitMany c_seed c_size c_openMany c_paperMany c_reachMany c_now)) (ws' := (wdX11_values cy b b_now b_imaged b_valueUp b_valueDown b_real b_brief b_order b_waits b_floats b_same b_upOf b_downOf b_tape b_open b_made b_paper b_reachUp b_reachDown b_reachHow b_reachFirst b_reachSecond b_begins b_carried c_hasImage c_above_2 c_below_2 c_orderMany c_waitMany c_seed c_size c_openMany c_paperMany c_reachMany c_now c_valueUp_2 c_valueDown_2)) (va_runV (As := [.int v1_2]) (rest := [.ref b]) ⟨hx, hb, hml, hown, hts⟩ (mX11_kindOf l D cy H.size b b_now b_imaged b_valueUp b_valueDown b_real b_brief b_order b_waits b_floats b_same b_upOf b_downOf b_tape b_open b_made b_paper b_reachUp b_reachDown b_reachHow b_reachFirst b_reachSecond b_begins b_carried c_hasImage c_above_2 c_below_2 c_orderMany c_waitMany c_seed c_size c_openMany c_paperMany c_reachMany c_now v1_2 (r45) hq45) (cwV 1 hts gX11_values_X11_kindOf rfl rfl rfl ⟨rfl, cdX11_kindOf⟩ ⟨Nat.le_of_ble_eq_true rfl, Nat.le_of_ble_eq_true rfl⟩) (zPV hK hP hD [0, 1] rfl rfl (q0 := 0) (ci := 11) rfl rfl rfl) rfl rfl hl.1 rfl (lv_room (Nat.le_of_ble_eq_true rfl)) dX11_values_45 ⟨Nat.zero_le _, Nat.zero_le _⟩) hP hD hS hA [0, 1] [2, 3] [2, 3, 0, 1] rfl rfl rfl rfl (fun H locs hP hD hS => ?_)
          refine lv_aload_n hx hb dX11_values_48 rfl (lv_at hl 0 rfl) ?_
          refine va_get (D := D) (ci := 11) (v := .ref b_valueUp) (C := RX11) (T := TX11) (N := 33) hx hb hts uX11_values_X11 hown hK.1 hP 0 rfl rfl 5 (by decide) (hts (.fieldLink RX11 18 "WishedResistorModel" "valueUp" "[J") (List.mem_of_getElem? (i := 2) rfl)) (fun _ h9 => h9) rfl dX11_values_49 ?_
          refine lv_aload_n hx hb dX11_values_52 rfl (lv_at hl 0 rfl) ?_
          refine lv_iload_n hx hb dX11_values_53 rfl (lv_at hl 1 rfl) ?_
          obtain ⟨r54, hq54, h⟩ := zb1_s h
          refine zCi (r0 := r54) (w1 := (wdX11_firstOf cy b b_now b_imaged b_valueUp b_valueDown b_real b_brief b_order b_waits b_floats b_same b_upOf b_downOf b_tape b_open b_made b_paper b_reachUp b_reachDown b_reachHow b_reachFirst b_reachSecond b_begins b_carried c_hasImage c_above_2 c_below_2 c_orderMany c_waitMany c_seed c_size c_openMany c_paperMany c_reachMany c_now)) (ws' := (wdX11_values cy b b_now b_imaged b_valueUp b_valueDown b_real b_brief b_order b_waits b_floats b_same b_upOf b_downOf b_tape b_open b_made b_paper b_reachUp b_reachDown b_reachHow b_reachFirst b_reachSecond b_begins b_carried c_hasImage c_above_2 c_below_2 c_orderMany c_waitMany c_seed c_size c_openMany c_paperMany c_reachMany c_now c_valueUp_2 c_valueDown_2)) (va_runV (As := [.int v1_2]) (rest := [.ref b_valueUp, .int r45, .ref b]) ⟨hx, hb, hml, hown, hts⟩ (mX11_firstOf l D cy H.size b b_now b_imaged b_valueUp b_valueDown b_real b_brief b_order b_waits b_floats b_same b_upOf b_downOf b_tape b_open b_made b_paper b_reachUp b_reachDown b_reachHow b_reachFirst b_reachSecond b_begins b_carried c_hasImage c_above_2 c_below_2 c_orderMany c_waitMany c_seed c_size c_openMany c_paperMany c_reachMany c_now v1_2 (r54) hq54) (cwV 1 hts gX11_values_X11_firstOf rfl rfl rfl ⟨rfl, cdX11_firstOf⟩ ⟨Nat.le_of_ble_eq_true rfl, Nat.le_of_ble_eq_true rfl⟩) (zPV hK hP hD [0, 1] rfl rfl (q0 := 0) (ci := 11) rfl rfl rfl) rfl rfl hl.1 rfl (lv_room (Nat.le_of_ble_eq_true rfl)) dX11_values_54 ⟨Nat.zero_le _, Nat.zero_le _⟩) hP hD hS hA [0, 1] [2, 3] [2, 3, 0, 1] rfl rfl rfl rfl (fun H locs hP hD hS => ?_)
          obtain ⟨hi57, h⟩ := zg_s h
          refine va_lald hx hb hK.1 hP 2 1 rfl rfl hi57 dX11_values_57 ?_
          refine lv_aload_n hx hb dX11_values_58 rfl (lv_at hl 0 rfl) ?_
          refine va_get (D := D) (ci := 11) (v := .ref b_valueDown) (C := RX11) (T := TX11) (N := 33) hx hb hts uX11_values_X11 hown hK.1 hP 0 rfl rfl 6 (by decide) (hts (.fieldLink RX11 22 "WishedResistorModel" "valueDown" "[J") (List.mem_of_getElem? (i := 3) rfl)) (fun _ h9 => h9) rfl dX11_values_59 ?_
          refine lv_aload_n hx hb dX11_values_62 rfl (lv_at hl 0 rfl) ?_
          refine lv_iload_n hx hb dX11_values_63 rfl (lv_at hl 1 rfl) ?_
          obtain ⟨r64, hq64, h⟩ := zb1_s h
          refine zCi (r0 := r64) (w1 := (wdX11_firstOf cy b b_now b_imaged b_valueUp b_valueDown b_real b_brief b_order b_waits b_floats b_same b_upOf b_downOf b_tape b_open b_made b_paper b_reachUp b_reachDown b_reachHow b_reachFirst b_reachSecond b_begins b_carried c_hasImage c_above_2 c_below_2 c_orderMany c_waitMany c_seed c_size c_openMany c_paperMany c_reachMany c_now)) (ws' := (wdX11_values cy b b_now b_imaged b_valueUp b_valueDown b_real b_brief b_order b_waits b_floats b_same b_upOf b_downOf b_tape b_open b_made b_paper b_reachUp b_reachDown b_reachHow b_reachFirst b_reachSecond b_begins b_carried c_hasImage c_above_2 c_below_2 c_orderMany c_waitMany c_seed c_size c_openMany c_paperMany c_reachMany c_now c_valueUp_2 c_valueDown_2)) (va_runV (As := [.int v1_2]) (rest := [.ref b_valueDown, .long (c_valueUp_2 (r54).toNatClampNeg), .int r45, .ref b]) ⟨hx, hb, hml, hown, hts⟩ (mX11_firstOf l D cy H.size b b_now b_imaged b_valueUp b_valueDown b_real b_brief b_order b_waits b_floats b_same b_upOf b_downOf b_tape b_open b_made b_paper b_reachUp b_reachDown b_reachHow b_reachFirst b_reachSecond b_begins b_carried c_hasImage c_above_2 c_below_2 c_orderMany c_waitMany c_seed c_size c_openMany c_paperMany c_reachMany c_now v1_2 (r64) hq64) (cwV 1 hts gX11_values_X11_firstOf rfl rfl rfl ⟨rfl, cdX11_firstOf⟩ ⟨Nat.le_of_ble_eq_true rfl, Nat.le_of_ble_eq_true rfl⟩) (zPV hK hP hD [0, 1] rfl rfl (q0 := 0) (ci := 11) rfl rfl rfl) rfl rfl hl.1 rfl (lv_room (Nat.le_of_ble_eq_true rfl)) dX11_values_64 ⟨Nat.zero_le _, Nat.zero_le _⟩) hP hD hS hA [0, 1] [2, 3] [2, 3, 0, 1] rfl rfl rfl rfl (fun H locs hP hD hS => ?_)
          obtain ⟨hi67, h⟩ := zg_s h
          refine va_lald hx hb hK.1 hP 3 1 rfl rfl hi67 dX11_values_67 ?_
          refine lv_aload_n hx hb dX11_values_68 rfl (lv_at hl 0 rfl) ?_
          refine va_get (D := D) (ci := 11) (v := .ref b_valueUp) (C := RX11) (T := TX11) (N := 33) hx hb hts uX11_values_X11 hown hK.1 hP 0 rfl rfl 5 (by decide) (hts (.fieldLink RX11 18 "WishedResistorModel" "valueUp" "[J") (List.mem_of_getElem? (i := 2) rfl)) (fun _ h9 => h9) rfl dX11_values_69 ?_
          refine lv_aload_n hx hb dX11_values_72 rfl (lv_at hl 0 rfl) ?_
          refine lv_iload_n hx hb dX11_values_73 rfl (lv_at hl 1 rfl) ?_
          obtain ⟨r74, hq74, h⟩ := zb1_s h
          refine zCi (r0 := r74) (w1 := (wdX11_secondOf cy b b_now b_imaged b_valueUp b_valueDown b_real b_brief b_order b_waits b_floats b_same b_upOf b_downOf b_tape b_open b_made b_paper b_reachUp b_reachDown b_reachHow b_reachFirst b_reachSecond b_begins b_carried c_hasImage c_above_2 c_below_2 c_orderMany c_waitMany c_seed c_size c_openMany c_paperMany c_reachMany c_now)) (ws' := (wdX11_values cy b b_now b_imaged b_valueUp b_valueDown b_real b_brief b_order b_waits b_floats b_same b_upOf b_downOf b_tape b_open b_made b_paper b_reachUp b_reachDown b_reachHow b_reachFirst b_reachSecond b_begins b_carried c_hasImage c_above_2 c_below_2 c_orderMany c_waitMany c_seed c_size c_openMany c_paperMany c_reachMany c_now c_valueUp_2 c_valueDown_2)) (va_runV (As := [.int v1_2]) (rest := [.ref b_valueUp, .long (c_valueDown_2 (r64).toNatClampNeg), .long (c_valueUp_2 (r54).toNatClampNeg), .int r45, .ref b]) ⟨hx, hb, hml, hown, hts⟩ (mX11_secondOf l D cy H.size b b_now b_imaged b_valueUp b_valueDown b_real b_brief b_order b_waits b_floats b_same b_upOf b_downOf b_tape b_open b_made b_paper b_reachUp b_reachDown b_reachHow b_reachFirst b_reachSecond b_begins b_carried c_hasImage c_above_2 c_below_2 c_orderMany c_waitMany c_seed c_size c_openMany c_paperMany c_reachMany c_now v1_2 (r74) hq74) (cwV 1 hts gX11_values_X11_secondOf rfl rfl rfl ⟨rfl, cdX11_secondOf⟩ ⟨Nat.le_of_ble_eq_true rfl, Nat.le_of_ble_eq_true rfl⟩) (zPV hK hP hD [0, 1] rfl rfl (q0 := 0) (ci := 11) rfl rfl rfl) rfl rfl hl.1 rfl (lv_room (Nat.le_of_ble_eq_true rfl)) dX11_values_74 ⟨Nat.zero_le _, Nat.zero_le _⟩) hP hD hS hA [0, 1] [2, 3] [2, 3, 0, 1] rfl rfl rfl rfl (fun H locs hP hD hS => ?_)
          obtain ⟨hi77, h⟩ := zg_s h
          refine va_lald hx hb hK.1 hP 2 1 rfl rfl hi77 dX11_values_77 ?_
          refine lv_aload_n hx hb dX11_values_78 rfl (lv_at hl 0 rfl) ?_
          refine va_get (D := D) (ci := 11) (v := .ref b_valueDown) (C := RX11) (T := TX11) (N := 33) hx hb hts uX11_values_X11 hown hK.1 hP 0 rfl rfl 6 (by decide) (hts (.fieldLink RX11 22 "WishedResistorModel" "valueDown" "[J") (List.mem_of_getElem? (i := 3) rfl)) (fun _ h9 => h9) rfl dX11_values_79 ?_
          refine lv_aload_n hx hb dX11_values_82 rfl (lv_at hl 0 rfl) ?_
          refine lv_iload_n hx hb dX11_values_83 rfl (lv_at hl 1 rfl) ?_
          obtain ⟨r84, hq84, h⟩ := zb1_s h
          refine zCi (r0 := r84) (w1 := (wdX11_secondOf cy b b_now b_imaged b_valueUp b_valueDown b_real b_brief b_order b_waits b_floats b_same b_upOf b_downOf b_tape b_open b_made b_paper b_reachUp b_reachDown b_reachHow b_reachFirst b_reachSecond b_begins b_carried c_hasImage c_above_2 c_below_2 c_orderMany c_waitMany c_seed c_size c_openMany c_paperMany c_reachMany c_now)) (ws' := (wdX11_values cy b b_now b_imaged b_valueUp b_valueDown b_real b_brief b_order b_waits b_floats b_same b_upOf b_downOf b_tape b_open b_made b_paper b_reachUp b_reachDown b_reachHow b_reachFirst b_reachSecond b_begins b_carried c_hasImage c_above_2 c_below_2 c_orderMany c_waitMany c_seed c_size c_openMany c_paperMany c_reachMany c_now c_valueUp_2 c_valueDown_2)) (zrunVW 9 (As := [.int v1_2]) (rest := [.ref b_valueDown, .long (c_valueUp_2 (r74).toNatClampNeg), .long (c_valueDown_2 (r64).toNatClampNeg), .long (c_valueUp_2 (r54).toNatClampNeg), .int r45, .ref b]) ⟨hx, hb, hml, hown, hts⟩ (mX11_secondOf l D cy H.size b b_now b_imaged b_valueUp b_valueDown b_real b_brief b_order b_waits b_floats b_same b_upOf b_downOf b_tape b_open b_made b_paper b_reachUp b_reachDown b_reachHow b_reachFirst b_reachSecond b_begins b_carried c_hasImage c_above_2 c_below_2 c_orderMany c_waitMany c_seed c_size c_openMany c_paperMany c_reachMany c_now v1_2 (r84) hq84) (cwV 1 hts gX11_values_X11_secondOf rfl rfl rfl ⟨rfl, cdX11_secondOf⟩ ⟨Nat.le_of_ble_eq_true rfl, Nat.le_of_ble_eq_true rfl⟩) (Nat.le_of_ble_eq_true rfl) (zPV hK hP hD [0, 1] rfl rfl (q0 := 0) (ci := 11) rfl rfl rfl) rfl rfl hl.1 rfl (zroomW (Nat.le_of_ble_eq_true rfl)) dX11_values_84 ⟨Nat.zero_le _, Nat.zero_le _⟩) hP hD hS hA [0, 1] [2, 3] [2, 3, 0, 1] rfl rfl rfl rfl (fun H locs hP hD hS => ?_)
          obtain ⟨hi87, h⟩ := zg_s h
          refine va_lald hx hb hK.1 hP 3 1 rfl rfl hi87 dX11_values_87 ?_
          obtain ⟨c_above_r88, c_below_r88, hq88, h⟩ := zb2_s h
          refine zCv (w1 := (wdX11_joined cy b b_now b_imaged b_valueUp b_valueDown b_real b_brief b_order b_waits b_floats b_same b_upOf b_downOf b_tape b_open b_made b_paper b_reachUp b_reachDown b_reachHow b_reachFirst b_reachSecond b_begins b_carried c_hasImage c_above_r88 c_below_r88 c_orderMany c_waitMany c_seed c_size c_openMany c_paperMany c_reachMany)) (ws' := (wdX11_values cy b b_now b_imaged b_valueUp b_valueDown b_real b_brief b_order b_waits b_floats b_same b_upOf b_downOf b_tape b_open b_made b_paper b_reachUp b_reachDown b_reachHow b_reachFirst b_reachSecond b_begins b_carried c_hasImage c_above_r88 c_below_r88 c_orderMany c_waitMany c_seed c_size c_openMany c_paperMany c_reachMany c_now c_valueUp_2 c_valueDown_2)) (va_runV (As := [.int r45, .long (c_valueUp_2 (r54).toNatClampNeg), .long (c_valueDown_2 (r64).toNatClampNeg), .long (c_valueUp_2 (r74).toNatClampNeg), .long (c_valueDown_2 (r84).toNatClampNeg)]) (rest := []) ⟨hx, hb, hml, hown, hts⟩ (mX11_joined l D cy H.size b b_now b_imaged b_valueUp b_valueDown b_real b_brief b_order b_waits b_floats b_same b_upOf b_downOf b_tape b_open b_made b_paper b_reachUp b_reachDown b_reachHow b_reachFirst b_reachSecond b_begins b_carried c_hasImage c_above_2 c_below_2 c_orderMany c_waitMany c_seed c_size c_openMany c_paperMany c_reachMany r45 (c_valueUp_2 (r54).toNatClampNeg) (c_valueDown_2 (r64).toNatClampNeg) (c_valueUp_2 (r74).toNatClampNeg) (c_valueDown_2 (r84).toNatClampNeg) (c_above_r88, c_below_r88) hq88) (cwV 5 hts gX11_values_X11_joined rfl rfl rfl ⟨rfl, cdX11_joined⟩ ⟨Nat.le_of_ble_eq_true rfl, Nat.le_of_ble_eq_true rfl⟩) (zPV hK hP hD [0] rfl rfl (q0 := 0) (ci := 11) rfl rfl rfl) rfl rfl hl.1 rfl (lv_room (Nat.le_of_ble_eq_true rfl)) dX11_values_88 ⟨Nat.zero_le _, Nat.zero_le _⟩) hP hD hS hA [0] [1, 2, 3] [3, 0, 1, 2] rfl rfl rfl rfl (fun H locs hP hD hS => ?_)
          exact hJ91 c_above_r88 c_below_r88 _ _ _ hP hD hS (lv_sub hl [0, 1] rfl) h
        · replace h := zi_t hc18 h
          refine lv_aload_n hx hb dX11_values_21 rfl (lv_at hl 0 rfl) ?_
          refine lv_aload_n hx hb dX11_values_22 rfl (lv_at hl 0 rfl) ?_
          refine va_get (D := D) (ci := 11) (v := .ref b_now) (C := RX11) (T := TX11) (N := 33) hx hb hts uX11_values_X11 hown hK.1 hP 0 rfl rfl 0 (by decide) (hts (.fieldLink RX11 9 "WishedResistorModel" "now" "[I") (List.mem_of_getElem? (i := 1) rfl)) (fun _ h9 => h9) rfl dX11_values_23 ?_
          refine lv_iconst (v := (0 : Int32)) hx hb dX11_values_26 (by decide) ?_
          refine lv_aload_n hx hb dX11_values_27 rfl (lv_at hl 0 rfl) ?_
          refine lv_iload_n hx hb dX11_values_28 rfl (lv_at hl 1 rfl) ?_
          obtain ⟨r29, hq29, h⟩ := zb1_s h
          refine zCi (r0 := r29) (w1 := (wdX11_firstOf cy b b_now b_imaged b_valueUp b_valueDown b_real b_brief b_order b_waits b_floats b_same b_upOf b_downOf b_tape b_open b_made b_paper b_reachUp b_reachDown b_reachHow b_reachFirst b_reachSecond b_begins b_carried c_hasImage c_above_2 c_below_2 c_orderMany c_waitMany c_seed c_size c_openMany c_paperMany c_reachMany c_now)) (ws' := (wdX11_values cy b b_now b_imaged b_valueUp b_valueDown b_real b_brief b_order b_waits b_floats b_same b_upOf b_downOf b_tape b_open b_made b_paper b_reachUp b_reachDown b_reachHow b_reachFirst b_reachSecond b_begins b_carried c_hasImage c_above_2 c_below_2 c_orderMany c_waitMany c_seed c_size c_openMany c_paperMany c_reachMany c_now c_valueUp_2 c_valueDown_2)) (va_runV (As := [.int v1_2]) (rest := [.int (0 : Int32), .ref b_now, .ref b]) ⟨hx, hb, hml, hown, hts⟩ (mX11_firstOf l D cy H.size b b_now b_imaged b_valueUp b_valueDown b_real b_brief b_order b_waits b_floats b_same b_upOf b_downOf b_tape b_open b_made b_paper b_reachUp b_reachDown b_reachHow b_reachFirst b_reachSecond b_begins b_carried c_hasImage c_above_2 c_below_2 c_orderMany c_waitMany c_seed c_size c_openMany c_paperMany c_reachMany c_now v1_2 (r29) hq29) (cwV 1 hts gX11_values_X11_firstOf rfl rfl rfl ⟨rfl, cdX11_firstOf⟩ ⟨Nat.le_of_ble_eq_true rfl, Nat.le_of_ble_eq_true rfl⟩) (zPV hK hP hD [0, 1] rfl rfl (q0 := 0) (ci := 11) rfl rfl rfl) rfl rfl hl.1 rfl (lv_room (Nat.le_of_ble_eq_true rfl)) dX11_values_29 ⟨Nat.zero_le _, Nat.zero_le _⟩) hP hD hS hA [0, 1] [2, 3] [2, 3, 0, 1] rfl rfl rfl rfl (fun H locs hP hD hS => ?_)
          refine lv_iadd hx hb dX11_values_32 ?_
          obtain ⟨hi33, h⟩ := zg_s h
          refine va_iald hx hb hK.1 hP 1 0 rfl rfl hi33 dX11_values_33 ?_
          refine lv_i2l hx hb dX11_values_34 rfl ?_
          refine lv_lconst (v := (1 : Int64)) hx hb dX11_values_35 (by decide) ?_
          obtain ⟨c_above_r36, c_below_r36, hq36, h⟩ := zb2_s h
          refine zCv (w1 := (wdX11_becomes cy b b_now b_imaged b_valueUp b_valueDown b_real b_brief b_order b_waits b_floats b_same b_upOf b_downOf b_tape b_open b_made b_paper b_reachUp b_reachDown b_reachHow b_reachFirst b_reachSecond b_begins b_carried c_hasImage c_above_r36 c_below_r36 c_orderMany c_waitMany c_seed c_size c_openMany c_paperMany c_reachMany)) (ws' := (wdX11_values cy b b_now b_imaged b_valueUp b_valueDown b_real b_brief b_order b_waits b_floats b_same b_upOf b_downOf b_tape b_open b_made b_paper b_reachUp b_reachDown b_reachHow b_reachFirst b_reachSecond b_begins b_carried c_hasImage c_above_r36 c_below_r36 c_orderMany c_waitMany c_seed c_size c_openMany c_paperMany c_reachMany c_now c_valueUp_2 c_valueDown_2)) (va_runV (As := [.long (((c_now (((0 : Int32) + r29)).toNatClampNeg)).toInt64), .long (1 : Int64)]) (rest := []) ⟨hx, hb, hml, hown, hts⟩ (mX11_becomes l D cy H.size b b_now b_imaged b_valueUp b_valueDown b_real b_brief b_order b_waits b_floats b_same b_upOf b_downOf b_tape b_open b_made b_paper b_reachUp b_reachDown b_reachHow b_reachFirst b_reachSecond b_begins b_carried c_hasImage c_above_2 c_below_2 c_orderMany c_waitMany c_seed c_size c_openMany c_paperMany c_reachMany (((c_now (((0 : Int32) + r29)).toNatClampNeg)).toInt64) (1 : Int64) (c_above_r36, c_below_r36) hq36) (cwV 2 hts gX11_values_X11_becomes rfl rfl rfl ⟨rfl, cdX11_becomes⟩ ⟨Nat.le_of_ble_eq_true rfl, Nat.le_of_ble_eq_true rfl⟩) (zPV hK hP hD [0] rfl rfl (q0 := 0) (ci := 11) rfl rfl rfl) rfl rfl hl.1 rfl (lv_room (Nat.le_of_ble_eq_true rfl)) dX11_values_36 ⟨Nat.zero_le _, Nat.zero_le _⟩) hP hD hS hA [0] [1, 2, 3] [3, 0, 1, 2] rfl rfl rfl rfl (fun H locs hP hD hS => ?_)
          refine lv_goto (tgt := 91) hx hb dX11_values_39 (by decide) ?_
          exact hJ91 c_above_r36 c_below_r36 _ _ _ hP hD hS (lv_sub hl [0, 1] rfl) h
  exact hL2 5000 (0 : Int32) c_above c_below c_valueUp c_valueDown _ _ _ hP hD hS (lv_sub hl [1, 0] rfl) h

theorem uX11_value_X11 : ∀ w ∈ u_ws RX11 TX11 33, w ∈ wsX11_value := fun w h => (List.mem_cons_of_mem _ (List.mem_append_right _ h))
abbrev wdX11_value (cy : Nat → ClassId) (b b_now b_imaged b_valueUp b_valueDown b_real b_brief b_order b_waits b_floats b_same b_upOf b_downOf b_tape b_open b_made b_paper b_reachUp b_reachDown b_reachHow b_reachFirst b_reachSecond b_begins b_carried : Nat) (c_hasImage : Int32) (c_above c_below : Int64) (c_orderMany c_waitMany c_seed c_size c_openMany c_paperMany c_reachMany : Int32) (c_now : Nat → Int32) (c_valueUp c_valueDown : Nat → Int64) : va_W := [(b, .inr (11, [.ref b_now, .ref b_imaged, .int c_hasImage, .long c_above, .long c_below, .ref b_valueUp, .ref b_valueDown, .ref b_real, .ref b_brief, .ref b_order, .int c_orderMany, .ref b_waits, .int c_waitMany, .ref b_floats, .int c_seed, .ref b_same, .ref b_upOf, .ref b_downOf, .ref b_tape, .int c_size, .ref b_open, .int c_openMany, .ref b_made, .ref b_paper, .int c_paperMany, .ref b_reachUp, .ref b_reachDown, .ref b_reachHow, .ref b_reachFirst, .ref b_reachSecond, .ref b_begins, .int c_reachMany, .ref b_carried])), (b_now, .inl (cy 0, 261, .inl c_now)), (b_valueUp, .inl (cy 1, 40, .inr (.inl c_valueUp))), (b_valueDown, .inl (cy 1, 40, .inr (.inl c_valueDown)))]
abbrev rmX11_value : Room := { frames := 4, cells := 0, slots := 0, locals := 105 }
theorem cdX11_value : (yX11_value).cls ≠ "java/lang/invoke/MethodHandle" ∧ (yX11_value).cls ≠ "java/lang/invoke/VarHandle" ∧ (parseMethodDescriptor (yX11_value).desc).map (fun d => d.parameters.length) = some 2 := by decide +kernel
def fX11_value (p1 p2 : Int32) (c_above c_below : Int64) (c_now : Nat → Int32) (c_valueUp c_valueDown : Nat → Int64) : Option (Int64 × Int64 × Int64 × (Nat → Int64) × (Nat → Int64)) :=
  zb1 (fX11_isNet p1 c_now) (fun r2 => if r2 = 0 then (some ((-9223372036854775808 : Int64), c_above, c_below, c_valueUp, c_valueDown)) else (zb1 (fX11_in ((p2).toInt64) (0 : Int64) (1 : Int64)) (fun r12 => if r12 = 0 then (some ((-9223372036854775808 : Int64), c_above, c_below, c_valueUp, c_valueDown)) else (zb4 (fX11_values c_above c_below c_now c_valueUp c_valueDown) (fun c_above_r23 c_below_r23 c_valueUp_r23 c_valueDown_r23 => if p2 = 0 then (zg (zin p1 40) (some ((c_valueUp_r23 (p1).toNatClampNeg), c_above_r23, c_below_r23, c_valueUp_r23, c_valueDown_r23))) else (zg (zin p1 40) (some ((c_valueDown_r23 (p1).toNatClampNeg), c_above_r23, c_below_r23, c_valueUp_r23, c_valueDown_r23))))))))
set_option maxHeartbeats 4000000 in
set_option maxRecDepth 100000 in
theorem mX11_value (l : Launch) (D : va_G) (cy : Nat → ClassId) (sz : Nat) (b b_now b_imaged b_valueUp b_valueDown b_real b_brief b_order b_waits b_floats b_same b_upOf b_downOf b_tape b_open b_made b_paper b_reachUp b_reachDown b_reachHow b_reachFirst b_reachSecond b_begins b_carried : Nat) (c_hasImage : Int32) (c_above c_below : Int64) (c_orderMany c_waitMany c_seed c_size c_openMany c_paperMany c_reachMany : Int32) (c_now : Nat → Int32) (c_valueUp c_valueDown : Nat → Int64) (p1 p2 : Int32) (res : (Int64 × Int64 × Int64 × (Nat → Int64) × (Nat → Int64))) (h : fX11_value p1 p2 c_above c_below c_now c_valueUp c_valueDown = some res) : zMl l yX11_value wsX11_value rmX11_value [.ref b, .int p1, .int p2] D cy (wdX11_value cy b b_now b_imaged b_valueUp b_valueDown b_real b_brief b_order b_waits b_floats b_same b_upOf b_downOf b_tape b_open b_made b_paper b_reachUp b_reachDown b_reachHow b_reachFirst b_reachSecond b_begins b_carried c_hasImage c_above c_below c_orderMany c_waitMany c_seed c_size c_openMany c_paperMany c_reachMany c_now c_valueUp c_valueDown) sz ((fun (o : (Int64 × Int64 × Int64 × (Nat → Int64) × (Nat → Int64))) => o.1) res) ((fun (o : (Int64 × Int64 × Int64 × (Nat → Int64) × (Nat → Int64))) => (wdX11_value cy b b_now b_imaged b_valueUp b_valueDown b_real b_brief b_order b_waits b_floats b_same b_upOf b_downOf b_tape b_open b_made b_paper b_reachUp b_reachDown b_reachHow b_reachFirst b_reachSecond b_begins b_carried c_hasImage (o.2.1) (o.2.2.1) c_orderMany c_waitMany c_seed c_size c_openMany c_paperMany c_reachMany c_now (o.2.2.2.1) (o.2.2.2.2))) res) := by
  refine zOfl (res := res) (rf := (fun (o : (Int64 × Int64 × Int64 × (Nat → Int64) × (Nat → Int64))) => o.1)) (Wf := (fun (o : (Int64 × Int64 × Int64 × (Nat → Int64) × (Nat → Int64))) => (wdX11_value cy b b_now b_imaged b_valueUp b_valueDown b_real b_brief b_order b_waits b_floats b_same b_upOf b_downOf b_tape b_open b_made b_paper b_reachUp b_reachDown b_reachHow b_reachFirst b_reachSecond b_begins b_carried c_hasImage (o.2.1) (o.2.2.1) c_orderMany c_waitMany c_seed c_size c_openMany c_paperMany c_reachMany c_now (o.2.2.2.1) (o.2.2.2.2)))) (by decide +kernel) rfl (Nat.le_of_ble_eq_true rfl) ?_
  intro p e s m args below meth c A ls Q hx hb hml hts hown hP hK hD hA hS hl hret
  have hown : s.vm.findClass RX11 = some m.cls := hown
  have hl : lv_has ls 3 [(0, .ref b), (1, .int p1), (2, .int p2)] := hl
  refine lv_aload_n hx hb dX11_value_0 rfl (lv_at hl 0 rfl) ?_
  refine lv_iload_n hx hb dX11_value_1 rfl (lv_at hl 1 rfl) ?_
  obtain ⟨r2, hq2, h⟩ := zb1_s h
  refine zCz (r0 := r2) (w1 := (wdX11_isNet cy b b_now b_imaged b_valueUp b_valueDown b_real b_brief b_order b_waits b_floats b_same b_upOf b_downOf b_tape b_open b_made b_paper b_reachUp b_reachDown b_reachHow b_reachFirst b_reachSecond b_begins b_carried c_hasImage c_above c_below c_orderMany c_waitMany c_seed c_size c_openMany c_paperMany c_reachMany c_now)) (ws' := (wdX11_value cy b b_now b_imaged b_valueUp b_valueDown b_real b_brief b_order b_waits b_floats b_same b_upOf b_downOf b_tape b_open b_made b_paper b_reachUp b_reachDown b_reachHow b_reachFirst b_reachSecond b_begins b_carried c_hasImage c_above c_below c_orderMany c_waitMany c_seed c_size c_openMany c_paperMany c_reachMany c_now c_valueUp c_valueDown)) (va_runV (As := [.int p1]) (rest := []) ⟨hx, hb, hml, hown, hts⟩ (mX11_isNet l D cy s.heap.size b b_now b_imaged b_valueUp b_valueDown b_real b_brief b_order b_waits b_floats b_same b_upOf b_downOf b_tape b_open b_made b_paper b_reachUp b_reachDown b_reachHow b_reachFirst b_reachSecond b_begins b_carried c_hasImage c_above c_below c_orderMany c_waitMany c_seed c_size c_openMany c_paperMany c_reachMany c_now p1 (r2) hq2) (cwV 1 hts gX11_value_X11_isNet rfl rfl rfl ⟨rfl, cdX11_isNet⟩ ⟨Nat.le_of_ble_eq_true rfl, Nat.le_of_ble_eq_true rfl⟩) (zPV hK hP hD [0, 1] rfl rfl (q0 := 0) (ci := 11) rfl rfl rfl) rfl rfl hl.1 rfl (lv_room (Nat.le_of_ble_eq_true rfl)) dX11_value_2 ⟨Nat.zero_le _, Nat.zero_le _⟩) hP hD hS hA [0, 1] [2, 3] [2, 3, 0, 1] rfl rfl rfl rfl (fun H locs hn2 hP hD hS => ?_)
  refine lv_if_eq (tgt := 18) hx hb dX11_value_5 (by decide) (fun hc5 => ?_) (fun hc5 => ?_)
  · replace h := zi_t hc5 h
    refine lv_ldc2 hx hb hown (hts (.constantLong RX11 155 (-9223372036854775808)) (List.mem_of_getElem? (i := 1) rfl)) dX11_value_18 ?_
    exact hret (o := ((-9223372036854775808 : Int64), c_above, c_below, c_valueUp, c_valueDown)) h hP hD hS dX11_value_21
  · replace h := zi_f hc5 h
    refine lv_iload_n hx hb dX11_value_8 rfl (lv_at hl 2 rfl) ?_
    refine lv_i2l hx hb dX11_value_9 rfl ?_
    refine lv_lconst (v := (0 : Int64)) hx hb dX11_value_10 (by decide) ?_
    refine lv_lconst (v := (1 : Int64)) hx hb dX11_value_11 (by decide) ?_
    obtain ⟨r12, hq12, h⟩ := zb1_s h
    refine zCz0 (r0 := r12) (va_runS (As := [.long ((p2).toInt64), .long (0 : Int64), .long (1 : Int64)]) (rest := []) ⟨hx, hb, hml, hown, hts⟩ (mX11_in l D cy H.size ((p2).toInt64) (0 : Int64) (1 : Int64) (r12) hq12) (va_cwS 3 hts gX11_value_X11_in rfl rfl rfl cdX11_in ⟨Nat.le_of_ble_eq_true rfl, Nat.le_of_ble_eq_true rfl⟩) (zPS hK hP hD [] rfl rfl) rfl rfl hl.1 rfl (lv_room (Nat.le_of_ble_eq_true rfl)) dX11_value_12 ⟨Nat.zero_le _, Nat.zero_le _⟩) hP hD hS hA (fun H locs hn12 hP hD hS => ?_)
    refine lv_if_ne (tgt := 22) hx hb dX11_value_15 (by decide) (fun hc15 => ?_) (fun hc15 => ?_)
    · replace h := zi_f hc15 h
      refine lv_aload_n hx hb dX11_value_22 rfl (lv_at hl 0 rfl) ?_
      obtain ⟨c_above_r23, c_below_r23, c_valueUp_r23, c_valueDown_r23, hq23, h⟩ := zb4_s h
      refine zCv (w1 := (wdX11_values cy b b_now b_imaged b_valueUp b_valueDown b_real b_brief b_order b_waits b_floats b_same b_upOf b_downOf b_tape b_open b_made b_paper b_reachUp b_reachDown b_reachHow b_reachFirst b_reachSecond b_begins b_carried c_hasImage c_above_r23 c_below_r23 c_orderMany c_waitMany c_seed c_size c_openMany c_paperMany c_reachMany c_now c_valueUp_r23 c_valueDown_r23)) (ws' := (wdX11_value cy b b_now b_imaged b_valueUp b_valueDown b_real b_brief b_order b_waits b_floats b_same b_upOf b_downOf b_tape b_open b_made b_paper b_reachUp b_reachDown b_reachHow b_reachFirst b_reachSecond b_begins b_carried c_hasImage c_above_r23 c_below_r23 c_orderMany c_waitMany c_seed c_size c_openMany c_paperMany c_reachMany c_now c_valueUp_r23 c_valueDown_r23)) (va_runV (As := []) (rest := []) ⟨hx, hb, hml, hown, hts⟩ (mX11_values l D cy H.size b b_now b_imaged b_valueUp b_valueDown b_real b_brief b_order b_waits b_floats b_same b_upOf b_downOf b_tape b_open b_made b_paper b_reachUp b_reachDown b_reachHow b_reachFirst b_reachSecond b_begins b_carried c_hasImage c_above c_below c_orderMany c_waitMany c_seed c_size c_openMany c_paperMany c_reachMany c_now c_valueUp c_valueDown (c_above_r23, c_below_r23, c_valueUp_r23, c_valueDown_r23) hq23) (cwV 0 hts gX11_value_X11_values rfl rfl rfl ⟨rfl, cdX11_values⟩ ⟨Nat.le_of_ble_eq_true rfl, Nat.le_of_ble_eq_true rfl⟩) (zPV hK hP hD [0, 1, 2, 3] rfl rfl (q0 := 0) (ci := 11) rfl rfl rfl) rfl rfl hl.1 rfl (lv_room (Nat.le_of_ble_eq_true rfl)) dX11_value_23 ⟨Nat.zero_le _, Nat.zero_le _⟩) hP hD hS hA [0, 1, 2, 3] [] [0, 1, 2, 3] rfl rfl rfl rfl (fun H locs hP hD hS => ?_)
      refine lv_iload_n hx hb dX11_value_26 rfl (lv_at hl 2 rfl) ?_
      refine lv_if_ne (tgt := 39) hx hb dX11_value_27 (by decide) (fun hc27 => ?_) (fun hc27 => ?_)
      · replace h := zi_f hc27 h
        refine lv_aload_n hx hb dX11_value_39 rfl (lv_at hl 0 rfl) ?_
        refine va_get (D := D) (ci := 11) (v := .ref b_valueDown) (C := RX11) (T := TX11) (N := 33) hx hb hts uX11_value_X11 hown hK.1 hP 0 rfl rfl 6 (by decide) (hts (.fieldLink RX11 22 "WishedResistorModel" "valueDown" "[J") (List.mem_of_getElem? (i := 3) rfl)) (fun _ h9 => h9) rfl dX11_value_40 ?_
        refine lv_iload_n hx hb dX11_value_43 rfl (lv_at hl 1 rfl) ?_
        obtain ⟨hi44, h⟩ := zg_s h
        refine va_lald hx hb hK.1 hP 3 1 rfl rfl hi44 dX11_value_44 ?_
        exact hret (o := ((c_valueDown_r23 (p1).toNatClampNeg), c_above_r23, c_below_r23, c_valueUp_r23, c_valueDown_r23)) h hP hD hS dX11_value_45
      · replace h := zi_t hc27 h
        refine lv_aload_n hx hb dX11_value_30 rfl (lv_at hl 0 rfl) ?_
        refine va_get (D := D) (ci := 11) (v := .ref b_valueUp) (C := RX11) (T := TX11) (N := 33) hx hb hts uX11_value_X11 hown hK.1 hP 0 rfl rfl 5 (by decide) (hts (.fieldLink RX11 18 "WishedResistorModel" "valueUp" "[J") (List.mem_of_getElem? (i := 2) rfl)) (fun _ h9 => h9) rfl dX11_value_31 ?_
        refine lv_iload_n hx hb dX11_value_34 rfl (lv_at hl 1 rfl) ?_
        obtain ⟨hi35, h⟩ := zg_s h
        refine va_lald hx hb hK.1 hP 2 1 rfl rfl hi35 dX11_value_35 ?_
        refine lv_goto (tgt := 45) hx hb dX11_value_36 (by decide) ?_
        exact hret (o := ((c_valueUp_r23 (p1).toNatClampNeg), c_above_r23, c_below_r23, c_valueUp_r23, c_valueDown_r23)) h hP hD hS dX11_value_45
    · replace h := zi_t hc15 h
      refine lv_ldc2 hx hb hown (hts (.constantLong RX11 155 (-9223372036854775808)) (List.mem_of_getElem? (i := 1) rfl)) dX11_value_18 ?_
      exact hret (o := ((-9223372036854775808 : Int64), c_above, c_below, c_valueUp, c_valueDown)) h hP hD hS dX11_value_21
