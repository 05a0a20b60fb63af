abbrev wdX11_fewest (cy : Nat → ClassId) (b b_now b_imaged b_valueUp b_valueDown b_real b_brief b_order b_waits b_floats b_same b_upOf b_downOf b_tape b_open b_made b_paper b_reachUp b_reachDown b_reachHow b_reachFirst b_reachSecond b_begins b_carried : Nat) (c_hasImage : Int32) (c_above c_below : Int64) (c_orderMany c_waitMany c_seed c_size c_openMany c_paperMany c_reachMany : Int32) (c_begins c_now : Nat → Int32) (c_reachUp c_reachDown : Nat → Int64) (c_reachHow c_reachFirst c_reachSecond : Nat → Int32) : va_W := [(b, .inr (11, [.ref b_now, .ref b_imaged, .int c_hasImage, .long c_above, .long c_below, .ref b_valueUp, .ref b_valueDown, .ref b_real, .ref b_brief, .ref b_order, .int c_orderMany, .ref b_waits, .int c_waitMany, .ref b_floats, .int c_seed, .ref b_same, .ref b_upOf, .ref b_downOf, .ref b_tape, .int c_size, .ref b_open, .int c_openMany, .ref b_made, .ref b_paper, .int c_paperMany, .ref b_reachUp, .ref b_reachDown, .ref b_reachHow, .ref b_reachFirst, .ref b_reachSecond, .ref b_begins, .int c_reachMany, .ref b_carried])), (b_begins, .inl (cy 0, 6, .inl c_begins)), (b_now, .inl (cy 0, 261, .inl c_now)), (b_reachUp, .inl (cy 1, 2000, .inr (.inl c_reachUp))), (b_reachDown, .inl (cy 1, 2000, .inr (.inl c_reachDown))), (b_reachHow, .inl (cy 0, 2000, .inl c_reachHow)), (b_reachFirst, .inl (cy 0, 2000, .inl c_reachFirst)), (b_reachSecond, .inl (cy 0, 2000, .inl c_reachSecond))]
abbrev rmX11_fewest : Room := { frames := 6, cells := 0, slots := 0, locals := 154 }
theorem cdX11_fewest : (yX11_fewest).cls ≠ "java/lang/invoke/MethodHandle" ∧ (yX11_fewest).cls ≠ "java/lang/invoke/VarHandle" ∧ (parseMethodDescriptor (yX11_fewest).desc).map (fun d => d.parameters.length) = some 2 := by decide +kernel
def fX11_fewest (p1 p2 : Int32) (c_above c_below : Int64) (c_reachMany : Int32) (c_begins c_now : Nat → Int32) (c_reachUp c_reachDown : Nat → Int64) (c_reachHow c_reachFirst c_reachSecond : Nat → Int32) : Option (Int32 × Int64 × Int64 × Int32 × (Nat → Int32) × (Nat → Int64) × (Nat → Int64) × (Nat → Int32) × (Nat → Int32) × (Nat → Int32)) :=
  zb1 (fX11_isWish p1 p2) (fun r2 => if r2 = 0 then (some ((-1 : Int32), c_above, c_below, c_reachMany, c_begins, c_reachUp, c_reachDown, c_reachHow, c_reachFirst, c_reachSecond)) else (zb10 (fX11_wished p1 p2 c_above c_below c_reachMany c_begins c_now c_reachUp c_reachDown c_reachHow c_reachFirst c_reachSecond) (fun r13 c_above_r13 c_below_r13 c_reachMany_r13 c_begins_r13 c_reachUp_r13 c_reachDown_r13 c_reachHow_r13 c_reachFirst_r13 c_reachSecond_r13 => if 0 ≤ r13 then (zb1 (fX11_partsOfReached r13 c_begins_r13) (fun r28 => some (r28, c_above_r13, c_below_r13, c_reachMany_r13, c_begins_r13, c_reachUp_r13, c_reachDown_r13, c_reachHow_r13, c_reachFirst_r13, c_reachSecond_r13))) else (some ((-2 : Int32), c_above_r13, c_below_r13, c_reachMany_r13, c_begins_r13, c_reachUp_r13, c_reachDown_r13, c_reachHow_r13, c_reachFirst_r13, c_reachSecond_r13)))))
set_option maxHeartbeats 4000000 in
set_option maxRecDepth 100000 in
theorem mX11_fewest (l : Launch) (D : va_G) (cy : Nat → ClassId) (sz : Nat) (b b_now b_imaged b_valueUp b_valueDown b_real b_brief b_order b_waits b_floats b_same b_upOf b_downOf b_tape b_open b_made b_paper b_reachUp b_reachDown b_reachHow b_reachFirst b_reachSecond b_begins b_carried : Nat) (c_hasImage : Int32) (c_above c_below : Int64) (c_orderMany c_waitMany c_seed c_size c_openMany c_paperMany c_reachMany : Int32) (c_begins c_now : Nat → Int32) (c_reachUp c_reachDown : Nat → Int64) (c_reachHow c_reachFirst c_reachSecond : Nat → Int32) (p1 p2 : Int32) (res : (Int32 × Int64 × Int64 × Int32 × (Nat → Int32) × (Nat → Int64) × (Nat → Int64) × (Nat → Int32) × (Nat → Int32) × (Nat → Int32))) (h : fX11_fewest p1 p2 c_above c_below c_reachMany c_begins c_now c_reachUp c_reachDown c_reachHow c_reachFirst c_reachSecond = some res) : zMi l yX11_fewest wsX11_fewest rmX11_fewest [.ref b, .int p1, .int p2] D cy (wdX11_fewest cy b b_now b_imaged b_valueUp b_valueDown b_real b_brief b_order b_waits b_floats b_same b_upOf b_downOf b_tape b_open b_made b_paper b_reachUp b_reachDown b_reachHow b_reachFirst b_reachSecond b_begins b_carried c_hasImage c_above c_below c_orderMany c_waitMany c_seed c_size c_openMany c_paperMany c_reachMany c_begins c_now c_reachUp c_reachDown c_reachHow c_reachFirst c_reachSecond) sz ((fun (o : (Int32 × Int64 × Int64 × Int32 × (Nat → Int32) × (Nat → Int64) × (Nat → Int64) × (Nat → Int32) × (Nat → Int32) × (Nat → Int32))) => o.1) res) ((fun (o : (Int32 × Int64 × Int64 × Int32 × (Nat → Int32) × (Nat → Int64) × (Nat → Int64) × (Nat → Int32) × (Nat → Int32) × (Nat → Int32))) => (wdX11_fewest cy b b_now b_imaged b_valueUp b_valueDown b_real b_brief b_order b_waits b_floats b_same b_upOf b_downOf b_tape b_open b_made b_paper b_reachUp b_reachDown b_reachHow b_reachFirst b_reachSecond b_begins b_carried c_hasImage (o.2.1) (o.2.2.1) c_orderMany c_waitMany c_seed c_size c_openMany c_paperMany (o.2.2.2.1) (o.2.2.2.2.1) c_now (o.2.2.2.2.2.1) (o.2.2.2.2.2.2.1) (o.2.2.2.2.2.2.2.1) (o.2.2.2.2.2.2.2.2.1) (o.2.2.2.2.2.2.2.2.2))) res) := by
  refine zOfi (res := res) (rf := (fun (o : (Int32 × Int64 × Int64 × Int32 × (Nat → Int32) × (Nat → Int64) × (Nat → Int64) × (Nat → Int32) × (Nat → Int32) × (Nat → Int32))) => o.1)) (Wf := (fun (o : (Int32 × Int64 × Int64 × Int32 × (Nat → Int32) × (Nat → Int64) × (Nat → Int64) × (Nat → Int32) × (Nat → Int32) × (Nat → Int32))) => (wdX11_fewest cy b b_now b_imaged b_valueUp b_valueDown b_real b_brief b_order b_waits b_floats b_same b_upOf b_downOf b_tape b_open b_made b_paper b_reachUp b_reachDown b_reachHow b_reachFirst b_reachSecond b_begins b_carried c_hasImage (o.2.1) (o.2.2.1) c_orderMany c_waitMany c_seed c_size c_openMany c_paperMany (o.2.2.2.1) (o.2.2.2.2.1) c_now (o.2.2.2.2.2.1) (o.2.2.2.2.2.2.1) (o.2.2.2.2.2.2.2.1) (o.2.2.2.2.2.2.2.2.1) (o.2.2.2.2.2.2.2.2.2)))) (by decide +kernel) rfl (Nat.le_of_ble_eq_true rfl) ?_
  intro p e s m args below meth c A ls Q hx hb hml hts hown hP hK hD hA hS hl hret
  have hown : s.vm.findClass RX11 = some m.cls := hown
  have hl : lv_has ls 4 [(0, .ref b), (1, .int p1), (2, .int p2)] := hl
  refine lv_iload_n hx hb dX11_fewest_0 rfl (lv_at hl 1 rfl) ?_
  refine lv_iload_n hx hb dX11_fewest_1 rfl (lv_at hl 2 rfl) ?_
  obtain ⟨r2, hq2, h⟩ := zb1_s h
  refine zCz0 (r0 := r2) (va_runS (As := [.int p1, .int p2]) (rest := []) ⟨hx, hb, hml, hown, hts⟩ (mX11_isWish l D cy s.heap.size p1 p2 (r2) hq2) (va_cwS 2 hts gX11_fewest_X11_isWish rfl rfl rfl cdX11_isWish ⟨Nat.le_of_ble_eq_true rfl, Nat.le_of_ble_eq_true rfl⟩) (zPS hK hP hD [] rfl rfl) rfl rfl hl.1 rfl (lv_room (Nat.le_of_ble_eq_true rfl)) dX11_fewest_2 ⟨Nat.zero_le _, Nat.zero_le _⟩) hP hD hS hA (fun H locs hn2 hP hD hS => ?_)
  refine lv_if_ne (tgt := 10) hx hb dX11_fewest_5 (by decide) (fun hc5 => ?_) (fun hc5 => ?_)
  · replace h := zi_f hc5 h
    refine lv_aload_n hx hb dX11_fewest_10 rfl (lv_at hl 0 rfl) ?_
    refine lv_iload_n hx hb dX11_fewest_11 rfl (lv_at hl 1 rfl) ?_
    refine lv_iload_n hx hb dX11_fewest_12 rfl (lv_at hl 2 rfl) ?_
    obtain ⟨r13, c_above_r13, c_below_r13, c_reachMany_r13, c_begins_r13, c_reachUp_r13, c_reachDown_r13, c_reachHow_r13, c_reachFirst_r13, c_reachSecond_r13, hq13, h⟩ := zb10_s h
    refine zCi (r0 := r13) (w1 := (wdX11_wished cy b b_now b_imaged b_valueUp b_valueDown b_real b_brief b_order b_waits b_floats b_same b_upOf b_downOf b_tape b_open b_made b_paper b_reachUp b_reachDown b_reachHow b_reachFirst b_reachSecond b_begins b_carried c_hasImage c_above_r13 c_below_r13 c_orderMany c_waitMany c_seed c_size c_openMany c_paperMany c_reachMany_r13 c_begins_r13 c_now c_reachUp_r13 c_reachDown_r13 c_reachHow_r13 c_reachFirst_r13 c_reachSecond_r13)) (ws' := (wdX11_fewest cy b b_now b_imaged b_valueUp b_valueDown b_real b_brief b_order b_waits b_floats b_same b_upOf b_downOf b_tape b_open b_made b_paper b_reachUp b_reachDown b_reachHow b_reachFirst b_reachSecond b_begins b_carried c_hasImage c_above_r13 c_below_r13 c_orderMany c_waitMany c_seed c_size c_openMany c_paperMany c_reachMany_r13 c_begins_r13 c_now c_reachUp_r13 c_reachDown_r13 c_reachHow_r13 c_reachFirst_r13 c_reachSecond_r13)) (va_runV (As := [.int p1, .int p2]) (rest := []) ⟨hx, hb, hml, hown, hts⟩ (mX11_wished l D cy H.size b b_now b_imaged b_valueUp b_valueDown b_real b_brief b_order b_waits b_floats b_same b_upOf b_downOf b_tape b_open b_made b_paper b_reachUp b_reachDown b_reachHow b_reachFirst b_reachSecond b_begins b_carried c_hasImage c_above c_below c_orderMany c_waitMany c_seed c_size c_openMany c_paperMany c_reachMany c_begins c_now c_reachUp c_reachDown c_reachHow c_reachFirst c_reachSecond p1 p2 (r13, c_above_r13, c_below_r13, c_reachMany_r13, c_begins_r13, c_reachUp_r13, c_reachDown_r13, c_reachHow_r13, c_reachFirst_r13, c_reachSecond_r13) hq13) (cwV 2 hts gX11_fewest_X11_wished rfl rfl rfl ⟨rfl, cdX11_wished⟩ ⟨Nat.le_of_ble_eq_true rfl, Nat.le_of_ble_eq_true rfl⟩) (zPV hK hP hD [0, 1, 2, 3, 4, 5, 6, 7] rfl rfl (q0 := 0) (ci := 11) rfl rfl rfl) rfl rfl hl.1 rfl (lv_room (Nat.le_of_ble_eq_true rfl)) dX11_fewest_13 ⟨Nat.zero_le _, Nat.zero_le _⟩) hP hD hS hA [0, 1, 2, 3, 4, 5, 6, 7] [] [0, 1, 2, 3, 4, 5, 6, 7] rfl rfl rfl rfl (fun H locs hP hD hS => ?_)
    refine lv_istore_n (lv' := [(3, .int r13), (0, .ref b), (1, .int p1), (2, .int p2)]) hx hb dX11_fewest_16 rfl hl (Nat.le_of_ble_eq_true rfl) rfl (fun ls hl => ?_)
    refine lv_iload_n hx hb dX11_fewest_17 rfl (lv_at hl 0 rfl) ?_
    refine lv_if_ge (tgt := 26) hx hb dX11_fewest_18 (by decide) (fun hc18 => ?_) (fun hc18 => ?_)
    · replace h := zi_t hc18 h
      refine lv_aload_n hx hb dX11_fewest_26 rfl (lv_at hl 1 rfl) ?_
      refine lv_iload_n hx hb dX11_fewest_27 rfl (lv_at hl 0 rfl) ?_
      obtain ⟨r28, hq28, h⟩ := zb1_s h
      refine zCi (r0 := r28) (w1 := (wdX11_partsOfReached cy b b_now b_imaged b_valueUp b_valueDown b_real b_brief b_order b_waits b_floats b_same b_upOf b_downOf b_tape b_open b_made b_paper b_reachUp b_reachDown b_reachHow b_reachFirst b_reachSecond b_begins b_carried c_hasImage c_above_r13 c_below_r13 c_orderMany c_waitMany c_seed c_size c_openMany c_paperMany c_reachMany_r13 c_begins_r13)) (ws' := (wdX11_fewest cy b b_now b_imaged b_valueUp b_valueDown b_real b_brief b_order b_waits b_floats b_same b_upOf b_downOf b_tape b_open b_made b_paper b_reachUp b_reachDown b_reachHow b_reachFirst b_reachSecond b_begins b_carried c_hasImage c_above_r13 c_below_r13 c_orderMany c_waitMany c_seed c_size c_openMany c_paperMany c_reachMany_r13 c_begins_r13 c_now c_reachUp_r13 c_reachDown_r13 c_reachHow_r13 c_reachFirst_r13 c_reachSecond_r13)) (va_runV (As := [.int r13]) (rest := []) ⟨hx, hb, hml, hown, hts⟩ (mX11_partsOfReached l D cy H.size b b_now b_imaged b_valueUp b_valueDown b_real b_brief b_order b_waits b_floats b_same b_upOf b_downOf b_tape b_open b_made b_paper b_reachUp b_reachDown b_reachHow b_reachFirst b_reachSecond b_begins b_carried c_hasImage c_above_r13 c_below_r13 c_orderMany c_waitMany c_seed c_size c_openMany c_paperMany c_reachMany_r13 c_begins_r13 r13 (r28) hq28) (cwV 1 hts gX11_fewest_X11_partsOfReached rfl rfl rfl ⟨rfl, cdX11_partsOfReached⟩ ⟨Nat.le_of_ble_eq_true rfl, Nat.le_of_ble_eq_true rfl⟩) (zPV hK hP hD [0, 1] rfl rfl (q0 := 0) (ci := 11) rfl rfl rfl) rfl rfl hl.1 rfl (lv_room (Nat.le_of_ble_eq_true rfl)) dX11_fewest_28 ⟨Nat.zero_le _, Nat.zero_le _⟩) hP hD hS hA [0, 1] [2, 3, 4, 5, 6, 7] [6, 7, 0, 1, 2, 3, 4, 5] rfl rfl rfl rfl (fun H locs hP hD hS => ?_)
      exact hret (o := (r28, c_above_r13, c_below_r13, c_reachMany_r13, c_begins_r13, c_reachUp_r13, c_reachDown_r13, c_reachHow_r13, c_reachFirst_r13, c_reachSecond_r13)) h hP hD hS dX11_fewest_31
    · replace h := zi_f hc18 h
      refine lv_bipush (v := (-2 : Int32)) hx hb dX11_fewest_21 (by decide) ?_
      refine lv_goto (tgt := 31) hx hb dX11_fewest_23 (by decide) ?_
      exact hret (o := ((-2 : Int32), c_above_r13, c_below_r13, c_reachMany_r13, c_begins_r13, c_reachUp_r13, c_reachDown_r13, c_reachHow_r13, c_reachFirst_r13, c_reachSecond_r13)) h hP hD hS dX11_fewest_31
  · replace h := zi_t hc5 h
    refine lv_iconst (v := (-1 : Int32)) hx hb dX11_fewest_8 (by decide) ?_
    exact hret (o := ((-1 : Int32), c_above, c_below, c_reachMany, c_begins, c_reachUp, c_reachDown, c_reachHow, c_reachFirst, c_reachSecond)) h hP hD hS dX11_fewest_9

theorem uX11_nearest_X11 : ∀ w ∈ u_ws RX11 TX11 33, w ∈ wsX11_nearest := fun w h => (List.mem_cons_of_mem _ (List.mem_append_right _ h))
abbrev wdX11_nearest (cy : Nat → ClassId) (b b_now b_imaged b_valueUp b_valueDown b_real b_brief b_order b_waits b_floats b_same b_upOf b_downOf b_tape b_open b_made b_paper b_reachUp b_reachDown b_reachHow b_reachFirst b_reachSecond b_begins b_carried : Nat) (c_hasImage : Int32) (c_above c_below : Int64) (c_orderMany c_waitMany c_seed c_size c_openMany c_paperMany c_reachMany : Int32) (c_begins c_now : Nat → Int32) (c_reachUp c_reachDown : Nat → Int64) (c_reachHow c_reachFirst c_reachSecond : Nat → Int32) : va_W := [(b, .inr (11, [.ref b_now, .ref b_imaged, .int c_hasImage, .long c_above, .long c_below, .ref b_valueUp, .ref b_valueDown, .ref b_real, .ref b_brief, .ref b_order, .int c_orderMany, .ref b_waits, .int c_waitMany, .ref b_floats, .int c_seed, .ref b_same, .ref b_upOf, .ref b_downOf, .ref b_tape, .int c_size, .ref b_open, .int c_openMany, .ref b_made, .ref b_paper, .int c_paperMany, .ref b_reachUp, .ref b_reachDown, .ref b_reachHow, .ref b_reachFirst, .ref b_reachSecond, .ref b_begins, .int c_reachMany, .ref b_carried])), (b_begins, .inl (cy 0, 6, .inl c_begins)), (b_now, .inl (cy 0, 261, .inl c_now)), (b_reachUp, .inl (cy 1, 2000, .inr (.inl c_reachUp))), (b_reachDown, .inl (cy 1, 2000, .inr (.inl c_reachDown))), (b_reachHow, .inl (cy 0, 2000, .inl c_reachHow)), (b_reachFirst, .inl (cy 0, 2000, .inl c_reachFirst)), (b_reachSecond, .inl (cy 0, 2000, .inl c_reachSecond))]
abbrev rmX11_nearest : Room := { frames := 5, cells := 0, slots := 0, locals := 132 }
theorem cdX11_nearest : (yX11_nearest).cls ≠ "java/lang/invoke/MethodHandle" ∧ (yX11_nearest).cls ≠ "java/lang/invoke/VarHandle" ∧ (parseMethodDescriptor (yX11_nearest).desc).map (fun d => d.parameters.length) = some 4 := by decide +kernel
def fX11_nearest_J277 (p4 : Int32) (c_above_r39 c_below_r39 : Int64) (c_reachMany_r39 : Int32) (c_begins_r39 : Nat → Int32) (c_reachUp_r39 c_reachDown_r39 : Nat → Int64) (c_reachHow_r39 c_reachFirst_r39 c_reachSecond_r39 : Nat → Int32) (v5_277 : Int32) : Option (Int64 × Int64 × Int64 × Int32 × (Nat → Int32) × (Nat → Int64) × (Nat → Int64) × (Nat → Int32) × (Nat → Int32) × (Nat → Int32)) :=
  if 0 ≤ v5_277 then (if p4 = 0 then (zg (zin v5_277 2000) (some ((c_reachUp_r39 (v5_277).toNatClampNeg), c_above_r39, c_below_r39, c_reachMany_r39, c_begins_r39, c_reachUp_r39, c_reachDown_r39, c_reachHow_r39, c_reachFirst_r39, c_reachSecond_r39))) else (if p4 = (1 : Int32) then (zg (zin v5_277 2000) (some ((c_reachDown_r39 (v5_277).toNatClampNeg), c_above_r39, c_below_r39, c_reachMany_r39, c_begins_r39, c_reachUp_r39, c_reachDown_r39, c_reachHow_r39, c_reachFirst_r39, c_reachSecond_r39))) else (zb1 (fX11_partsOfReached v5_277 c_begins_r39) (fun r320 => some (((r320).toInt64), c_above_r39, c_below_r39, c_reachMany_r39, c_begins_r39, c_reachUp_r39, c_reachDown_r39, c_reachHow_r39, c_reachFirst_r39, c_reachSecond_r39))))) else (some ((-2 : Int64), c_above_r39, c_below_r39, c_reachMany_r39, c_begins_r39, c_reachUp_r39, c_reachDown_r39, c_reachHow_r39, c_reachFirst_r39, c_reachSecond_r39))
def fX11_nearest_J255 (v6_51 : Int64) (v8_51 : Int32) (rec51 : Int32 → Int64 → Int32 → Option (Int64 × Int64 × Int64 × Int32 × (Nat → Int32) × (Nat → Int64) × (Nat → Int64) × (Nat → Int32) × (Nat → Int32) × (Nat → Int32))) (s0_98 : Int64) (s0_241 : Int32) (s0_255 : Int32) : Option (Int64 × Int64 × Int64 × Int32 × (Nat → Int32) × (Nat → Int64) × (Nat → Int64) × (Nat → Int32) × (Nat → Int32) × (Nat → Int32)) :=
  if s0_241 = 0 then (rec51 s0_255 v6_51 (v8_51 + (1 : Int32))) else (rec51 s0_255 s0_98 (v8_51 + (1 : Int32)))
def fX11_nearest_J241 (v5_51 : Int32) (v6_51 : Int64) (v8_51 : Int32) (rec51 : Int32 → Int64 → Int32 → Option (Int64 × Int64 × Int64 × Int32 × (Nat → Int32) × (Nat → Int64) × (Nat → Int64) × (Nat → Int32) × (Nat → Int32) × (Nat → Int32))) (s0_98 : Int64) (s0_241 : Int32) : Option (Int64 × Int64 × Int64 × Int32 × (Nat → Int32) × (Nat → Int64) × (Nat → Int64) × (Nat → Int32) × (Nat → Int32) × (Nat → Int32)) :=
  if s0_241 = 0 then (fX11_nearest_J255 v6_51 v8_51 rec51 s0_98 s0_241 v5_51) else (fX11_nearest_J255 v6_51 v8_51 rec51 s0_98 s0_241 v8_51)
def fX11_nearest_J175 (c_begins_r39 : Nat → Int32) (c_reachUp_r39 c_reachDown_r39 : Nat → Int64) (v5_51 : Int32) (v6_51 : Int64) (v8_51 : Int32) (rec51 : Int32 → Int64 → Int32 → Option (Int64 × Int64 × Int64 × Int32 × (Nat → Int32) × (Nat → Int64) × (Nat → Int64) × (Nat → Int32) × (Nat → Int32) × (Nat → Int32))) (s0_98 : Int64) (s0_134 : Int32) (s0_175 : Int32) : Option (Int64 × Int64 × Int64 × Int32 × (Nat → Int32) × (Nat → Int64) × (Nat → Int64) × (Nat → Int32) × (Nat → Int32) × (Nat → Int32)) :=
  if s0_134 = 0 then (if s0_175 = 0 then (fX11_nearest_J241 v5_51 v6_51 v8_51 rec51 s0_98 (0 : Int32)) else (zb1 (fX11_partsOfReached v8_51 c_begins_r39) (fun r190 => zb1 (fX11_partsOfReached v5_51 c_begins_r39) (fun r196 => if r190 = r196 then (zg (zin v8_51 2000) (zg (zin v8_51 2000) (zg (zin v5_51 2000) (zg (zin v5_51 2000) (zb1 (fX11_isLess (c_reachUp_r39 (v8_51).toNatClampNeg) (c_reachDown_r39 (v8_51).toNatClampNeg) (c_reachUp_r39 (v5_51).toNatClampNeg) (c_reachDown_r39 (v5_51).toNatClampNeg)) (fun r230 => if r230 = 0 then (fX11_nearest_J241 v5_51 v6_51 v8_51 rec51 s0_98 (0 : Int32)) else (fX11_nearest_J241 v5_51 v6_51 v8_51 rec51 s0_98 (1 : Int32)))))))) else (fX11_nearest_J241 v5_51 v6_51 v8_51 rec51 s0_98 (0 : Int32)))))) else (fX11_nearest_J241 v5_51 v6_51 v8_51 rec51 s0_98 (1 : Int32))
def fX11_nearest_J134 (c_begins_r39 : Nat → Int32) (c_reachUp_r39 c_reachDown_r39 : Nat → Int64) (v5_51 : Int32) (v6_51 : Int64) (v8_51 : Int32) (rec51 : Int32 → Int64 → Int32 → Option (Int64 × Int64 × Int64 × Int32 × (Nat → Int32) × (Nat → Int64) × (Nat → Int64) × (Nat → Int32) × (Nat → Int32) × (Nat → Int32))) (s0_98 : Int64) (s0_134 : Int32) : Option (Int64 × Int64 × Int64 × Int32 × (Nat → Int32) × (Nat → Int64) × (Nat → Int64) × (Nat → Int32) × (Nat → Int32) × (Nat → Int32)) :=
  if v5_51 < 0 then (fX11_nearest_J175 c_begins_r39 c_reachUp_r39 c_reachDown_r39 v5_51 v6_51 v8_51 rec51 s0_98 s0_134 (0 : Int32)) else (if s0_134 = 0 then (zg (zin v5_51 2000) (zg (zin v8_51 2000) (zb1 (fX11_isLess v6_51 (c_reachDown_r39 (v5_51).toNatClampNeg) s0_98 (c_reachDown_r39 (v8_51).toNatClampNeg)) (fun r164 => if r164 = 0 then (fX11_nearest_J175 c_begins_r39 c_reachUp_r39 c_reachDown_r39 v5_51 v6_51 v8_51 rec51 s0_98 s0_134 (1 : Int32)) else (fX11_nearest_J175 c_begins_r39 c_reachUp_r39 c_reachDown_r39 v5_51 v6_51 v8_51 rec51 s0_98 s0_134 (0 : Int32)))))) else (fX11_nearest_J175 c_begins_r39 c_reachUp_r39 c_reachDown_r39 v5_51 v6_51 v8_51 rec51 s0_98 s0_134 (0 : Int32)))
def fX11_nearest_J98 (c_begins_r39 : Nat → Int32) (c_reachUp_r39 c_reachDown_r39 : Nat → Int64) (v5_51 : Int32) (v6_51 : Int64) (v8_51 : Int32) (rec51 : Int32 → Int64 → Int32 → Option (Int64 × Int64 × Int64 × Int32 × (Nat → Int32) × (Nat → Int64) × (Nat → Int64) × (Nat → Int32) × (Nat → Int32) × (Nat → Int32))) (s0_98 : Int64) : Option (Int64 × Int64 × Int64 × Int32 × (Nat → Int32) × (Nat → Int64) × (Nat → Int64) × (Nat → Int32) × (Nat → Int32) × (Nat → Int32)) :=
  if v5_51 < 0 then (fX11_nearest_J134 c_begins_r39 c_reachUp_r39 c_reachDown_r39 v5_51 v6_51 v8_51 rec51 s0_98 (1 : Int32)) else (zg (zin v8_51 2000) (zg (zin v5_51 2000) (zb1 (fX11_isLess s0_98 (c_reachDown_r39 (v8_51).toNatClampNeg) v6_51 (c_reachDown_r39 (v5_51).toNatClampNeg)) (fun r123 => if r123 = 0 then (fX11_nearest_J134 c_begins_r39 c_reachUp_r39 c_reachDown_r39 v5_51 v6_51 v8_51 rec51 s0_98 (0 : Int32)) else (fX11_nearest_J134 c_begins_r39 c_reachUp_r39 c_reachDown_r39 v5_51 v6_51 v8_51 rec51 s0_98 (1 : Int32))))))
def fX11_nearest_L51 (k277_51 : Int32 → Option (Int64 × Int64 × Int64 × Int32 × (Nat → Int32) × (Nat → Int64) × (Nat → Int64) × (Nat → Int32) × (Nat → Int32) × (Nat → Int32))) (p1 p2 c_reachMany_r39 : Int32) (c_begins_r39 : Nat → Int32) (c_reachUp_r39 c_reachDown_r39 : Nat → Int64) : Nat → Int32 → Int64 → Int32 → Option (Int64 × Int64 × Int64 × Int32 × (Nat → Int32) × (Nat → Int64) × (Nat → Int64) × (Nat → Int32) × (Nat → Int32) × (Nat → Int32)) :=
  zl3 (fun rec51 v5_51 v6_51 v8_51 => if c_reachMany_r39 ≤ v8_51 then (k277_51 v5_51) else (zg (zin v8_51 2000) (zg (zin v8_51 2000) (if (0 : Int64) ≤ (((c_reachUp_r39 (v8_51).toNatClampNeg) * ((p2).toInt64)) - (((p1).toInt64) * (c_reachDown_r39 (v8_51).toNatClampNeg))) then (fX11_nearest_J98 c_begins_r39 c_reachUp_r39 c_reachDown_r39 v5_51 v6_51 v8_51 rec51 (((c_reachUp_r39 (v8_51).toNatClampNeg) * ((p2).toInt64)) - (((p1).toInt64) * (c_reachDown_r39 (v8_51).toNatClampNeg)))) else (fX11_nearest_J98 c_begins_r39 c_reachUp_r39 c_reachDown_r39 v5_51 v6_51 v8_51 rec51 (-(((c_reachUp_r39 (v8_51).toNatClampNeg) * ((p2).toInt64)) - (((p1).toInt64) * (c_reachDown_r39 (v8_51).toNatClampNeg)))))))))
def fX11_nearest (p1 p2 p3 p4 : Int32) (c_above c_below : Int64) (c_reachMany : Int32) (c_begins c_now : Nat → Int32) (c_reachUp c_reachDown : Nat → Int64) (c_reachHow c_reachFirst c_reachSecond : Nat → Int32) : Option (Int64 × Int64 × Int64 × Int32 × (Nat → Int32) × (Nat → Int64) × (Nat → Int64) × (Nat → Int32) × (Nat → Int32) × (Nat → Int32)) :=
  zb1 (fX11_isWish p1 p2) (fun r2 => if r2 = 0 then (some ((-9223372036854775808 : Int64), c_above, c_below, c_reachMany, c_begins, c_reachUp, c_reachDown, c_reachHow, c_reachFirst, c_reachSecond)) else (zb1 (fX11_in ((p3).toInt64) (1 : Int64) (4 : Int64)) (fun r14 => if r14 = 0 then (some ((-9223372036854775808 : Int64), c_above, c_below, c_reachMany, c_begins, c_reachUp, c_reachDown, c_reachHow, c_reachFirst, c_reachSecond)) else (zb1 (fX11_in ((p4).toInt64) (0 : Int64) (2 : Int64)) (fun r27 => if r27 = 0 then (some ((-9223372036854775808 : Int64), c_above, c_below, c_reachMany, c_begins, c_reachUp, c_reachDown, c_reachHow, c_reachFirst, c_reachSecond)) else (zb9 (fX11_layReached p3 c_above c_below c_reachMany c_begins c_now c_reachUp c_reachDown c_reachHow c_reachFirst c_reachSecond) (fun c_above_r39 c_below_r39 c_reachMany_r39 c_begins_r39 c_reachUp_r39 c_reachDown_r39 c_reachHow_r39 c_reachFirst_r39 c_reachSecond_r39 => fX11_nearest_L51 (fX11_nearest_J277 p4 c_above_r39 c_below_r39 c_reachMany_r39 c_begins_r39 c_reachUp_r39 c_reachDown_r39 c_reachHow_r39 c_reachFirst_r39 c_reachSecond_r39) p1 p2 c_reachMany_r39 c_begins_r39 c_reachUp_r39 c_reachDown_r39 5000 (-1 : Int32) (0 : Int64) (0 : Int32))))))))
set_option maxHeartbeats 4000000 in
set_option maxRecDepth 100000 in
theorem mX11_nearest (l : Launch) (D : va_G) (cy : Nat → ClassId) (sz : Nat) (b b_now b_imaged b_valueUp b_valueDown b_real b_brief b_order b_waits b_floats b_same b_upOf b_downOf b_tape b_open b_made b_paper b_reachUp b_reachDown b_reachHow b_reachFirst b_reachSecond b_begins b_carried : Nat) (c_hasImage : Int32) (c_above c_below : Int64) (c_orderMany c_waitMany c_seed c_size c_openMany c_paperMany c_reachMany : Int32) (c_begins c_now : Nat → Int32) (c_reachUp c_reachDown : Nat → Int64) (c_reachHow c_reachFirst c_reachSecond : Nat → Int32) (p1 p2 p3 p4 : Int32) (res : (Int64 × Int64 × Int64 × Int32 × (Nat → Int32) × (Nat → Int64) × (Nat → Int64) × (Nat → Int32) × (Nat → Int32) × (Nat → Int32))) (h : fX11_nearest p1 p2 p3 p4 c_above c_below c_reachMany c_begins c_now c_reachUp c_reachDown c_reachHow c_reachFirst c_reachSecond = some res) : zMl l yX11_nearest wsX11_nearest rmX11_nearest [.ref b, .int p1, .int p2, .int p3, .int p4] D cy (wdX11_nearest cy b b_now b_imaged b_valueUp b_valueDown b_real b_brief b_order b_waits b_floats b_same b_upOf b_downOf b_tape b_open b_made b_paper b_reachUp b_reachDown b_reachHow b_reachFirst b_reachSecond b_begins b_carried c_hasImage c_above c_below c_orderMany c_waitMany c_seed c_size c_openMany c_paperMany c_reachMany c_begins c_now c_reachUp c_reachDown c_reachHow c_reachFirst c_reachSecond) sz ((fun (o : (Int64 × Int64 × Int64 × Int32 × (Nat → Int32) × (Nat → Int64) × (Nat → Int64) × (Nat → Int32) × (Nat → Int32) × (Nat → Int32))) => o.1) res) ((fun (o : (Int64 × Int64 × Int64 × Int32 × (Nat → Int32) × (Nat → Int64) × (Nat → Int64) × (Nat → Int32) × (Nat → Int32) × (Nat → Int32))) => (wdX11_nearest cy b b_now b_imaged b_valueUp b_valueDown b_real b_brief b_order b_waits b_floats b_same b_upOf b_downOf b_tape b_open b_made b_paper b_reachUp b_reachDown b_reachHow b_reachFirst b_reachSecond b_begins b_carried c_hasImage (o.2.1) (o.2.2.1) c_orderMany c_waitMany c_seed c_size c_openMany c_paperMany (o.2.2.2.1) (o.2.2.2.2.1) c_now (o.2.2.2.2.2.1) (o.2.2.2.2.2.2.1) (o.2.2.2.2.2.2.2.1) (o.2.2.2.2.2.2.2.2.1) (o.2.2.2.2.2.2.2.2.2))) res) := by
  refine zOfl (res := res) (rf := (fun (o : (Int64 × Int64 × Int64 × Int32 × (Nat → Int32) × (Nat → Int64) × (Nat → Int64) × (Nat → Int32) × (Nat → Int32) × (Nat → Int32))) => o.1)) (Wf := (fun (o : (Int64 × Int64 × Int64 × Int32 × (Nat → Int32) × (Nat → Int64) × (Nat → Int64) × (Nat → Int32) × (Nat → Int32) × (Nat → Int32))) => (wdX11_nearest cy b b_now b_imaged b_valueUp b_valueDown b_real b_brief b_order b_waits b_floats b_same b_upOf b_downOf b_tape b_open b_made b_paper b_reachUp b_reachDown b_reachHow b_reachFirst b_reachSecond b_begins b_carried c_hasImage (o.2.1) (o.2.2.1) c_orderMany c_waitMany c_seed c_size c_openMany c_paperMany (o.2.2.2.1) (o.2.2.2.2.1) c_now (o.2.2.2.2.2.1) (o.2.2.2.2.2.2.1) (o.2.2.2.2.2.2.2.1) (o.2.2.2.2.2.2.2.2.1) (o.2.2.2.2.2.2.2.2.2)))) (by decide +kernel) rfl (Nat.le_of_ble_eq_true rfl) ?_
  intro p e s m args below meth c A ls Q hx hb hml hts hown hP hK hD hA hS hl hret
  have hown : s.vm.findClass RX11 = some m.cls := hown
  have hl : lv_has ls 13 [(0, .ref b), (1, .int p1), (2, .int p2), (3, .int p3), (4, .int p4)] := hl
  refine lv_iload_n hx hb dX11_nearest_0 rfl (lv_at hl 1 rfl) ?_
  refine lv_iload_n hx hb dX11_nearest_1 rfl (lv_at hl 2 rfl) ?_
  obtain ⟨r2, hq2, h⟩ := zb1_s h
  refine zCz0 (r0 := r2) (va_runS (As := [.int p1, .int p2]) (rest := []) ⟨hx, hb, hml, hown, hts⟩ (mX11_isWish l D cy s.heap.size p1 p2 (r2) hq2) (va_cwS 2 hts gX11_nearest_X11_isWish rfl rfl rfl cdX11_isWish ⟨Nat.le_of_ble_eq_true rfl, Nat.le_of_ble_eq_true rfl⟩) (zPS hK hP hD [] rfl rfl) rfl rfl hl.1 rfl (lv_room (Nat.le_of_ble_eq_true rfl)) dX11_nearest_2 ⟨Nat.zero_le _, Nat.zero_le _⟩) hP hD hS hA (fun H locs hn2 hP hD hS => ?_)
  refine lv_if_eq (tgt := 33) hx hb dX11_nearest_5 (by decide) (fun hc5 => ?_) (fun hc5 => ?_)
  · replace h := zi_t hc5 h
    refine lv_ldc2 hx hb hown (hts (.constantLong RX11 155 (-9223372036854775808)) (List.mem_of_getElem? (i := 3) rfl)) dX11_nearest_33 ?_
    exact hret (o := ((-9223372036854775808 : Int64), c_above, c_below, c_reachMany, c_begins, c_reachUp, c_reachDown, c_reachHow, c_reachFirst, c_reachSecond)) h hP hD hS dX11_nearest_36
  · replace h := zi_f hc5 h
    refine lv_iload_n hx hb dX11_nearest_8 rfl (lv_at hl 3 rfl) ?_
    refine lv_i2l hx hb dX11_nearest_9 rfl ?_
    refine lv_lconst (v := (1 : Int64)) hx hb dX11_nearest_10 (by decide) ?_
    refine lv_ldc2 hx hb hown (hts (.constantLong RX11 127 (4)) (List.mem_of_getElem? (i := 1) rfl)) dX11_nearest_11 ?_
    obtain ⟨r14, hq14, h⟩ := zb1_s h
    refine zCz0 (r0 := r14) (va_runS (As := [.long ((p3).toInt64), .long (1 : Int64), .long (4 : Int64)]) (rest := []) ⟨hx, hb, hml, hown, hts⟩ (mX11_in l D cy H.size ((p3).toInt64) (1 : Int64) (4 : Int64) (r14) hq14) (va_cwS 3 hts gX11_nearest_X11_in rfl rfl rfl cdX11_in ⟨Nat.le_of_ble_eq_true rfl, Nat.le_of_ble_eq_true rfl⟩) (zPS hK hP hD [] rfl rfl) rfl rfl hl.1 rfl (lv_room (Nat.le_of_ble_eq_true rfl)) dX11_nearest_14 ⟨Nat.zero_le _, Nat.zero_le _⟩) hP hD hS hA (fun H locs hn14 hP hD hS => ?_)
    refine lv_if_eq (tgt := 33) hx hb dX11_nearest_17 (by decide) (fun hc17 => ?_) (fun hc17 => ?_)
    · replace h := zi_t hc17 h
      refine lv_ldc2 hx hb hown (hts (.constantLong RX11 155 (-9223372036854775808)) (List.mem_of_getElem? (i := 3) rfl)) dX11_nearest_33 ?_
      exact hret (o := ((-9223372036854775808 : Int64), c_above, c_below, c_reachMany, c_begins, c_reachUp, c_reachDown, c_reachHow, c_reachFirst, c_reachSecond)) h hP hD hS dX11_nearest_36
    · replace h := zi_f hc17 h
      refine lv_iload hx hb dX11_nearest_20 (lv_at hl 4 rfl) ?_
      refine lv_i2l hx hb dX11_nearest_22 rfl ?_
      refine lv_lconst (v := (0 : Int64)) hx hb dX11_nearest_23 (by decide) ?_
      refine lv_ldc2 hx hb hown (hts (.constantLong RX11 112 (2)) (List.mem_of_getElem? (i := 2) rfl)) dX11_nearest_24 ?_
      obtain ⟨r27, hq27, h⟩ := zb1_s h
      refine zCz0 (r0 := r27) (va_runS (As := [.long ((p4).toInt64), .long (0 : Int64), .long (2 : Int64)]) (rest := []) ⟨hx, hb, hml, hown, hts⟩ (mX11_in l D cy H.size ((p4).toInt64) (0 : Int64) (2 : Int64) (r27) hq27) (va_cwS 3 hts gX11_nearest_X11_in rfl rfl rfl cdX11_in ⟨Nat.le_of_ble_eq_true rfl, Nat.le_of_ble_eq_true rfl⟩) (zPS hK hP hD [] rfl rfl) rfl rfl hl.1 rfl (lv_room (Nat.le_of_ble_eq_true rfl)) dX11_nearest_27 ⟨Nat.zero_le _, Nat.zero_le _⟩) hP hD hS hA (fun H locs hn27 hP hD hS => ?_)
      refine lv_if_ne (tgt := 37) hx hb dX11_nearest_30 (by decide) (fun hc30 => ?_) (fun hc30 => ?_)
      · replace h := zi_f hc30 h
        refine lv_aload_n hx hb dX11_nearest_37 rfl (lv_at hl 0 rfl) ?_
        refine lv_iload_n hx hb dX11_nearest_38 rfl (lv_at hl 3 rfl) ?_
        obtain ⟨c_above_r39, c_below_r39, c_reachMany_r39, c_begins_r39, c_reachUp_r39, c_reachDown_r39, c_reachHow_r39, c_reachFirst_r39, c_reachSecond_r39, hq39, h⟩ := zb9_s h
        refine zCv (w1 := (wdX11_layReached cy b b_now b_imaged b_valueUp b_valueDown b_real b_brief b_order b_waits b_floats b_same b_upOf b_downOf b_tape b_open b_made b_paper b_reachUp b_reachDown b_reachHow b_reachFirst b_reachSecond b_begins b_carried c_hasImage c_above_r39 c_below_r39 c_orderMany c_waitMany c_seed c_size c_openMany c_paperMany c_reachMany_r39 c_begins_r39 c_now c_reachUp_r39 c_reachDown_r39 c_reachHow_r39 c_reachFirst_r39 c_reachSecond_r39)) (ws' := (wdX11_nearest cy b b_now b_imaged b_valueUp b_valueDown b_real b_brief b_order b_waits b_floats b_same b_upOf b_downOf b_tape b_open b_made b_paper b_reachUp b_reachDown b_reachHow b_reachFirst b_reachSecond b_begins b_carried c_hasImage c_above_r39 c_below_r39 c_orderMany c_waitMany c_seed c_size c_openMany c_paperMany c_reachMany_r39 c_begins_r39 c_now c_reachUp_r39 c_reachDown_r39 c_reachHow_r39 c_reachFirst_r39 c_reachSecond_r39)) (va_runV (As := [.int p3]) (rest := []) ⟨hx, hb, hml, hown, hts⟩ (mX11_layReached l D cy H.size b b_now b_imaged b_valueUp b_valueDown b_real b_brief b_order b_waits b_floats b_same b_upOf b_downOf b_tape b_open b_made b_paper b_reachUp b_reachDown b_reachHow b_reachFirst b_reachSecond b_begins b_carried c_hasImage c_above c_below c_orderMany c_waitMany c_seed c_size c_openMany c_paperMany c_reachMany c_begins c_now c_reachUp c_reachDown c_reachHow c_reachFirst c_reachSecond p3 (c_above_r39, c_below_r39, c_reachMany_r39, c_begins_r39, c_reachUp_r39, c_reachDown_r39, c_reachHow_r39, c_reachFirst_r39, c_reachSecond_r39) hq39) (cwV 1 hts gX11_nearest_X11_layReached rfl rfl rfl ⟨rfl, cdX11_layReached⟩ ⟨Nat.le_of_ble_eq_true rfl, Nat.le_of_ble_eq_true rfl⟩) (zPV hK hP hD [0, 1, 2, 3, 4, 5, 6, 7] rfl rfl (q0 := 0) (ci := 11) rfl rfl rfl) rfl rfl hl.1 rfl (lv_room (Nat.le_of_ble_eq_true rfl)) dX11_nearest_39 ⟨Nat.zero_le _, Nat.zero_le _⟩) hP hD hS hA [0, 1, 2, 3, 4, 5, 6, 7] [] [0, 1, 2, 3, 4, 5, 6, 7] rfl rfl rfl rfl (fun H locs hP hD hS => ?_)
        refine lv_iconst (v := (-1 : Int32)) hx hb dX11_nearest_42 (by decide) ?_
        refine lv_istore (lv' := [(5, .int (-1 : Int32)), (0, .ref b), (1, .int p1), (2, .int p2), (3, .int p3), (4, .int p4)]) hx hb dX11_nearest_43 hl (Nat.le_of_ble_eq_true rfl) rfl (fun ls hl => ?_)
        refine lv_lconst (v := (0 : Int64)) hx hb dX11_nearest_45 (by decide) ?_
        refine lv_lstore (lv' := [(6, .long (0 : Int64)), (5, .int (-1 : Int32)), (0, .ref b), (1, .int p1), (2, .int p2), (3, .int p3), (4, .int p4)]) hx hb dX11_nearest_46 hl (Nat.le_of_ble_eq_true rfl) rfl (fun ls hl => ?_)
        refine lv_iconst (v := (0 : Int32)) hx hb dX11_nearest_48 (by decide) ?_
        refine lv_istore (lv' := [(8, .int (0 : Int32)), (6, .long (0 : Int64)), (5, .int (-1 : Int32)), (0, .ref b), (1, .int p1), (2, .int p2), (3, .int p3), (4, .int p4)]) hx hb dX11_nearest_49 hl (Nat.le_of_ble_eq_true rfl) rfl (fun ls hl => ?_)
        have hJ277 : ∀ (v5_277 : Int32) (H : Heap) (locs : List Loc) (ls : Array Slot), va_P D vwCl (wdX11_nearest cy b b_now b_imaged b_valueUp b_valueDown b_real b_brief b_order b_waits b_floats b_same b_upOf b_downOf b_tape b_open b_made b_paper b_reachUp b_reachDown b_reachHow b_reachFirst b_reachSecond b_begins b_carried c_hasImage c_above_r39 c_below_r39 c_orderMany c_waitMany c_seed c_size c_openMany c_paperMany c_reachMany_r39 c_begins_r39 c_now c_reachUp_r39 c_reachDown_r39 c_reachHow_r39 c_reachFirst_r39 c_reachSecond_r39) H → va_D A (wdX11_nearest cy b b_now b_imaged b_valueUp b_valueDown b_real b_brief b_order b_waits b_floats b_same b_upOf b_downOf b_tape b_open b_made b_paper b_reachUp b_reachDown b_reachHow b_reachFirst b_reachSecond b_begins b_carried c_hasImage c_above_r39 c_below_r39 c_orderMany c_waitMany c_seed c_size c_openMany c_paperMany c_reachMany_r39 c_begins_r39 c_now c_reachUp_r39 c_reachDown_r39 c_reachHow_r39 c_reachFirst_r39 c_reachSecond_r39) → va_S A s.heap H locs → lv_has ls 13 [(0, .ref b), (4, .int p4), (5, .int v5_277)] → fX11_nearest_J277 p4 c_above_r39 c_below_r39 c_reachMany_r39 c_begins_r39 c_reachUp_r39 c_reachDown_r39 c_reachHow_r39 c_reachFirst_r39 c_reachSecond_r39 v5_277 = some res → W p l e rmX11_nearest s m args below meth c H locs 0 0 Q (F0 m 277 ls []) := by
          intro v5_277 H locs ls hP hD hS hl h
          refine lv_iload hx hb dX11_nearest_277 (lv_at hl 2 rfl) ?_
          refine lv_if_ge (tgt := 286) hx hb dX11_nearest_279 (by decide) (fun hc279 => ?_) (fun hc279 => ?_)
          · replace h := zi_t hc279 h
            refine lv_iload hx hb dX11_nearest_286 (lv_at hl 1 rfl) ?_
            refine lv_if_ne (tgt := 301) hx hb dX11_nearest_288 (by decide) (fun hc288 => ?_) (fun hc288 => ?_)
            · replace h := zi_f hc288 h
              refine lv_iload hx hb dX11_nearest_301 (lv_at hl 1 rfl) ?_
              refine lv_iconst (v := (1 : Int32)) hx hb dX11_nearest_303 (by decide) ?_
              refine lv_icmp_ne (tgt := 317) hx hb dX11_nearest_304 (by decide) (fun hc304 => ?_) (fun hc304 => ?_)
              · replace h := zi_f hc304 h
                refine lv_aload_n hx hb dX11_nearest_317 rfl (lv_at hl 0 rfl) ?_
                refine lv_iload hx hb dX11_nearest_318 (lv_at hl 2 rfl) ?_
                obtain ⟨r320, hq320, h⟩ := zb1_s h
                refine zCi (r0 := r320) (w1 := (wdX11_partsOfReached cy b b_now b_imaged b_valueUp b_valueDown b_real b_brief b_order b_waits b_floats b_same b_upOf b_downOf b_tape b_open b_made b_paper b_reachUp b_reachDown b_reachHow b_reachFirst b_reachSecond b_begins b_carried c_hasImage c_above_r39 c_below_r39 c_orderMany c_waitMany c_seed c_size c_openMany c_paperMany c_reachMany_r39 c_begins_r39)) (ws' := (wdX11_nearest cy b b_now b_imaged b_valueUp b_valueDown b_real b_brief b_order b_waits b_floats b_same b_upOf b_downOf b_tape b_open b_made b_paper b_reachUp b_reachDown b_reachHow b_reachFirst b_reachSecond b_begins b_carried c_hasImage c_above_r39 c_below_r39 c_orderMany c_waitMany c_seed c_size c_openMany c_paperMany c_reachMany_r39 c_begins_r39 c_now c_reachUp_r39 c_reachDown_r39 c_reachHow_r39 c_reachFirst_r39 c_reachSecond_r39)) (va_runV (As := [.int v5_277]) (rest := []) ⟨hx, hb, hml, hown, hts⟩ (mX11_partsOfReached l D cy H.size b b_now b_imaged b_valueUp b_valueDown b_real b_brief b_order b_waits b_floats b_same b_upOf b_downOf b_tape b_open b_made b_paper b_reachUp b_reachDown b_reachHow b_reachFirst b_reachSecond b_begins b_carried c_hasImage c_above_r39 c_below_r39 c_orderMany c_waitMany c_seed c_size c_openMany c_paperMany c_reachMany_r39 c_begins_r39 v5_277 (r320) hq320) (cwV 1 hts gX11_nearest_X11_partsOfReached rfl rfl rfl ⟨rfl, cdX11_partsOfReached⟩ ⟨Nat.le_of_ble_eq_true rfl, Nat.le_of_ble_eq_true rfl⟩) (zPV hK hP hD [0, 1] rfl rfl (q0 := 0) (ci := 11) rfl rfl rfl) rfl rfl hl.1 rfl (lv_room (Nat.le_of_ble_eq_true rfl)) dX11_nearest_320 ⟨Nat.zero_le _, Nat.zero_le _⟩) hP hD hS hA [0, 1] [2, 3, 4, 5, 6, 7] [6, 7, 0, 1, 2, 3, 4, 5] rfl rfl rfl rfl (fun H locs hP hD hS => ?_)
                refine lv_i2l hx hb dX11_nearest_323 rfl ?_
                exact hret (o := (((r320).toInt64), c_above_r39, c_below_r39, c_reachMany_r39, c_begins_r39, c_reachUp_r39, c_reachDown_r39, c_reachHow_r39, c_reachFirst_r39, c_reachSecond_r39)) h hP hD hS dX11_nearest_324
              · replace h := zi_t hc304 h
                refine lv_aload_n hx hb dX11_nearest_307 rfl (lv_at hl 0 rfl) ?_
                refine va_get (D := D) (ci := 11) (v := .ref b_reachDown) (C := RX11) (T := TX11) (N := 33) hx hb hts uX11_nearest_X11 hown hK.1 hP 0 rfl rfl 26 (by decide) (hts (.fieldLink RX11 66 "WishedResistorModel" "reachDown" "[J") (List.mem_of_getElem? (i := 6) rfl)) (fun _ h9 => h9) rfl dX11_nearest_308 ?_
                refine lv_iload hx hb dX11_nearest_311 (lv_at hl 2 rfl) ?_
                obtain ⟨hi313, h⟩ := zg_s h
                refine va_lald hx hb hK.1 hP 4 1 rfl rfl hi313 dX11_nearest_313 ?_
                refine lv_goto (tgt := 324) hx hb dX11_nearest_314 (by decide) ?_
                exact hret (o := ((c_reachDown_r39 (v5_277).toNatClampNeg), c_above_r39, c_below_r39, c_reachMany_r39, c_begins_r39, c_reachUp_r39, c_reachDown_r39, c_reachHow_r39, c_reachFirst_r39, c_reachSecond_r39)) h hP hD hS dX11_nearest_324
            · replace h := zi_t hc288 h
              refine lv_aload_n hx hb dX11_nearest_291 rfl (lv_at hl 0 rfl) ?_
              refine va_get (D := D) (ci := 11) (v := .ref b_reachUp) (C := RX11) (T := TX11) (N := 33) hx hb hts uX11_nearest_X11 hown hK.1 hP 0 rfl rfl 25 (by decide) (hts (.fieldLink RX11 63 "WishedResistorModel" "reachUp" "[J") (List.mem_of_getElem? (i := 5) rfl)) (fun _ h9 => h9) rfl dX11_nearest_292 ?_
              refine lv_iload hx hb dX11_nearest_295 (lv_at hl 2 rfl) ?_
              obtain ⟨hi297, h⟩ := zg_s h
              refine va_lald hx hb hK.1 hP 3 1 rfl rfl hi297 dX11_nearest_297 ?_
              refine lv_goto (tgt := 324) hx hb dX11_nearest_298 (by decide) ?_
              exact hret (o := ((c_reachUp_r39 (v5_277).toNatClampNeg), c_above_r39, c_below_r39, c_reachMany_r39, c_begins_r39, c_reachUp_r39, c_reachDown_r39, c_reachHow_r39, c_reachFirst_r39, c_reachSecond_r39)) h hP hD hS dX11_nearest_324
          · replace h := zi_f hc279 h
            refine lv_ldc2 hx hb hown (hts (.constantLong RX11 276 (-2)) (List.mem_of_getElem? (i := 7) rfl)) dX11_nearest_282 ?_
            exact hret (o := ((-2 : Int64), c_above_r39, c_below_r39, c_reachMany_r39, c_begins_r39, c_reachUp_r39, c_reachDown_r39, c_reachHow_r39, c_reachFirst_r39, c_reachSecond_r39)) h hP hD hS dX11_nearest_285
        have hL51 : ∀ n51 : Nat, ∀ (v5_51 : Int32) (v6_51 : Int64) (v8_51 : Int32) (H : Heap) (locs : List Loc) (ls : Array Slot), va_P D vwCl (wdX11_nearest cy b b_now b_imaged b_valueUp b_valueDown b_real b_brief b_order b_waits b_floats b_same b_upOf b_downOf b_tape b_open b_made b_paper b_reachUp b_reachDown b_reachHow b_reachFirst b_reachSecond b_begins b_carried c_hasImage c_above_r39 c_below_r39 c_orderMany c_waitMany c_seed c_size c_openMany c_paperMany c_reachMany_r39 c_begins_r39 c_now c_reachUp_r39 c_reachDown_r39 c_reachHow_r39 c_reachFirst_r39 c_reachSecond_r39) H → va_D A (wdX11_nearest cy b b_now b_imaged b_valueUp b_valueDown b_real b_brief b_order b_waits b_floats b_same b_upOf b_downOf b_tape b_open b_made b_paper b_reachUp b_reachDown b_reachHow b_reachFirst b_reachSecond b_begins b_carried c_hasImage c_above_r39 c_below_r39 c_orderMany c_waitMany c_seed c_size c_openMany c_paperMany c_reachMany_r39 c_begins_r39 c_now c_reachUp_r39 c_reachDown_r39 c_reachHow_r39 c_reachFirst_r39 c_reachSecond_r39) → va_S A s.heap H locs → lv_has ls 13 [(0, .ref b), (1, .int p1), (2, .int p2), (4, .int p4), (5, .int v5_51), (6, .long v6_51), (8, .int v8_51)] → fX11_nearest_L51 (fX11_nearest_J277 p4 c_above_r39 c_below_r39 c_reachMany_r39 c_begins_r39 c_reachUp_r39 c_reachDown_r39 c_reachHow_r39 c_reachFirst_r39 c_reachSecond_r39) p1 p2 c_reachMany_r39 c_begins_r39 c_reachUp_r39 c_reachDown_r39 n51 v5_51 v6_51 v8_51 = some res → W p l e rmX11_nearest s m args below meth c H locs 0 0 Q (F0 m 51 ls []) := by
          intro n51
          induction n51 with
          | zero =>
            intro v5_51 v6_51 v8_51 H locs ls hP hD hS hl h
            exact zl3_0 h
          | succ n51 ih51 =>
            intro v5_51 v6_51 v8_51 H locs ls hP hD hS hl h
            replace h := zl3_s h
            refine lv_iload hx hb dX11_nearest_51 (lv_at hl 6 rfl) ?_
            refine lv_aload_n hx hb dX11_nearest_53 rfl (lv_at hl 0 rfl) ?_
            refine va_get (D := D) (ci := 11) (v := .int c_reachMany_r39) (C := RX11) (T := TX11) (N := 33) hx hb hts uX11_nearest_X11 hown hK.1 hP 0 rfl rfl 31 (by decide) (hts (.fieldLink RX11 256 "WishedResistorModel" "reachMany" "I") (List.mem_of_getElem? (i := 4) rfl)) (fun _ h9 => h9) rfl dX11_nearest_54 ?_
            refine lv_icmp_ge (tgt := 277) hx hb dX11_nearest_57 (by decide) (fun hc57 => ?_) (fun hc57 => ?_)
            · replace h := zi_t hc57 h
              exact hJ277 v5_51 _ _ _ hP hD hS (lv_sub hl [0, 3, 4] rfl) h
            · replace h := zi_f hc57 h
              refine lv_aload_n hx hb dX11_nearest_60 rfl (lv_at hl 0 rfl) ?_
              refine va_get (D := D) (ci := 11) (v := .ref b_reachUp) (C := RX11) (T := TX11) (N := 33) hx hb hts uX11_nearest_X11 hown hK.1 hP 0 rfl rfl 25 (by decide) (hts (.fieldLink RX11 63 "WishedResistorModel" "reachUp" "[J") (List.mem_of_getElem? (i := 5) rfl)) (fun _ h9 => h9) rfl dX11_nearest_61 ?_
              refine lv_iload hx hb dX11_nearest_64 (lv_at hl 6 rfl) ?_
              obtain ⟨hi66, h⟩ := zg_s h
              refine va_lald hx hb hK.1 hP 3 1 rfl rfl hi66 dX11_nearest_66 ?_
              refine lv_iload_n hx hb dX11_nearest_67 rfl (lv_at hl 2 rfl) ?_
              refine lv_i2l hx hb dX11_nearest_68 rfl ?_
              refine lv_lmul hx hb dX11_nearest_69 ?_
              refine lv_iload_n hx hb dX11_nearest_70 rfl (lv_at hl 1 rfl) ?_
              refine lv_i2l hx hb dX11_nearest_71 rfl ?_
              refine lv_aload_n hx hb dX11_nearest_72 rfl (lv_at hl 0 rfl) ?_
              refine va_get (D := D) (ci := 11) (v := .ref b_reachDown) (C := RX11) (T := TX11) (N := 33) hx hb hts uX11_nearest_X11 hown hK.1 hP 0 rfl rfl 26 (by decide) (hts (.fieldLink RX11 66 "WishedResistorModel" "reachDown" "[J") (List.mem_of_getElem? (i := 6) rfl)) (fun _ h9 => h9) rfl dX11_nearest_73 ?_
              refine lv_iload hx hb dX11_nearest_76 (lv_at hl 6 rfl) ?_
              obtain ⟨hi78, h⟩ := zg_s h
              refine va_lald hx hb hK.1 hP 4 1 rfl rfl hi78 dX11_nearest_78 ?_
              refine lv_lmul hx hb dX11_nearest_79 ?_
              refine lv_lsub hx hb dX11_nearest_80 ?_
              refine lv_lstore (lv' := [(9, .long (((c_reachUp_r39 (v8_51).toNatClampNeg) * ((p2).toInt64)) - (((p1).toInt64) * (c_reachDown_r39 (v8_51).toNatClampNeg)))), (0, .ref b), (1, .int p1), (2, .int p2), (4, .int p4), (5, .int v5_51), (6, .long v6_51), (8, .int v8_51)]) hx hb dX11_nearest_81 hl (Nat.le_of_ble_eq_true rfl) rfl (fun ls hl => ?_)
              refine lv_lload hx hb dX11_nearest_83 (lv_at hl 0 rfl) ?_
              refine lv_lconst (v := (0 : Int64)) hx hb dX11_nearest_85 (by decide) ?_
              refine W.lcmp hx hb dX11_nearest_86 ?_
              have hJ98 : ∀ (s0_98 : Int64) (H : Heap) (locs : List Loc) (ls : Array Slot), va_P D vwCl (wdX11_nearest cy b b_now b_imaged b_valueUp b_valueDown b_real b_brief b_order b_waits b_floats b_same b_upOf b_downOf b_tape b_open b_made b_paper b_reachUp b_reachDown b_reachHow b_reachFirst b_reachSecond b_begins b_carried c_hasImage c_above_r39 c_below_r39 c_orderMany c_waitMany c_seed c_size c_openMany c_paperMany c_reachMany_r39 c_begins_r39 c_now c_reachUp_r39 c_reachDown_r39 c_reachHow_r39 c_reachFirst_r39 c_reachSecond_r39) H → va_D A (wdX11_nearest cy b b_now b_imaged b_valueUp b_valueDown b_real b_brief b_order b_waits b_floats b_same b_upOf b_downOf b_tape b_open b_made b_paper b_reachUp b_reachDown b_reachHow b_reachFirst b_reachSecond b_begins b_carried c_hasImage c_above_r39 c_below_r39 c_orderMany c_waitMany c_seed c_size c_openMany c_paperMany c_reachMany_r39 c_begins_r39 c_now c_reachUp_r39 c_reachDown_r39 c_reachHow_r39 c_reachFirst_r39 c_reachSecond_r39) → va_S A s.heap H locs → lv_has ls 13 [(0, .ref b), (1, .int p1), (2, .int p2), (4, .int p4), (5, .int v5_51), (6, .long v6_51), (8, .int v8_51)] → fX11_nearest_J98 c_begins_r39 c_reachUp_r39 c_reachDown_r39 v5_51 v6_51 v8_51 (fX11_nearest_L51 (fX11_nearest_J277 p4 c_above_r39 c_below_r39 c_reachMany_r39 c_begins_r39 c_reachUp_r39 c_reachDown_r39 c_reachHow_r39 c_reachFirst_r39 c_reachSecond_r39) p1 p2 c_reachMany_r39 c_begins_r39 c_reachUp_r39 c_reachDown_r39 n51) s0_98 = some res → W p l e rmX11_nearest s m args below meth c H locs 0 0 Q (F0 m 98 ls [.long s0_98]) := by
                intro s0_98 H locs ls hP hD hS hl h
                refine lv_lstore (lv' := [(9, .long s0_98), (0, .ref b), (1, .int p1), (2, .int p2), (4, .int p4), (5, .int v5_51), (6, .long v6_51), (8, .int v8_51)]) hx hb dX11_nearest_98 hl (Nat.le_of_ble_eq_true rfl) rfl (fun ls hl => ?_)
                refine lv_iload hx hb dX11_nearest_100 (lv_at hl 5 rfl) ?_
                have hJ134 : ∀ (s0_134 : Int32) (H : Heap) (locs : List Loc) (ls : Array Slot), va_P D vwCl (wdX11_nearest cy b b_now b_imaged b_valueUp b_valueDown b_real b_brief b_order b_waits b_floats b_same b_upOf b_downOf b_tape b_open b_made b_paper b_reachUp b_reachDown b_reachHow b_reachFirst b_reachSecond b_begins b_carried c_hasImage c_above_r39 c_below_r39 c_orderMany c_waitMany c_seed c_size c_openMany c_paperMany c_reachMany_r39 c_begins_r39 c_now c_reachUp_r39 c_reachDown_r39 c_reachHow_r39 c_reachFirst_r39 c_reachSecond_r39) H → va_D A (wdX11_nearest cy b b_now b_imaged b_valueUp b_valueDown b_real b_brief b_order b_waits b_floats b_same b_upOf b_downOf b_tape b_open b_made b_paper b_reachUp b_reachDown b_reachHow b_reachFirst b_reachSecond b_begins b_carried c_hasImage c_above_r39 c_below_r39 c_orderMany c_waitMany c_seed c_size c_openMany c_paperMany c_reachMany_r39 c_begins_r39 c_now c_reachUp_r39 c_reachDown_r39 c_reachHow_r39 c_reachFirst_r39 c_reachSecond_r39) → va_S A s.heap H locs → lv_has ls 13 [(0, .ref b), (1, .int p1), (2, .int p2), (4, .int p4), (5, .int v5_51), (6, .long v6_51), (8, .int v8_51), (9, .long s0_98)] → fX11_nearest_J134 c_begins_r39 c_reachUp_r39 c_reachDown_r39 v5_51 v6_51 v8_51 (fX11_nearest_L51 (fX11_nearest_J277 p4 c_above_r39 c_below_r39 c_reachMany_r39 c_begins_r39 c_reachUp_r39 c_reachDown_r39 c_reachHow_r39 c_reachFirst_r39 c_reachSecond_r39) p1 p2 c_reachMany_r39 c_begins_r39 c_reachUp_r39 c_reachDown_r39 n51) s0_98 s0_134 = some res → W p l e rmX11_nearest s m args below meth c H locs 0 0 Q (F0 m 134 ls [.int s0_134]) := by
                  intro s0_134 H locs ls hP hD hS hl h
                  refine lv_istore (lv' := [(11, .int s0_134), (0, .ref b), (1, .int p1), (2, .int p2), (4, .int p4), (5, .int v5_51), (6, .long v6_51), (8, .int v8_51), (9, .long s0_98)]) hx hb dX11_nearest_134 hl (Nat.le_of_ble_eq_true rfl) rfl (fun ls hl => ?_)
                  refine lv_iload hx hb dX11_nearest_136 (lv_at hl 5 rfl) ?_
                  have hJ175 : ∀ (s0_175 : Int32) (H : Heap) (locs : List Loc) (ls : Array Slot), va_P D vwCl (wdX11_nearest cy b b_now b_imaged b_valueUp b_valueDown b_real b_brief b_order b_waits b_floats b_same b_upOf b_downOf b_tape b_open b_made b_paper b_reachUp b_reachDown b_reachHow b_reachFirst b_reachSecond b_begins b_carried c_hasImage c_above_r39 c_below_r39 c_orderMany c_waitMany c_seed c_size c_openMany c_paperMany c_reachMany_r39 c_begins_r39 c_now c_reachUp_r39 c_reachDown_r39 c_reachHow_r39 c_reachFirst_r39 c_reachSecond_r39) H → va_D A (wdX11_nearest cy b b_now b_imaged b_valueUp b_valueDown b_real b_brief b_order b_waits b_floats b_same b_upOf b_downOf b_tape b_open b_made b_paper b_reachUp b_reachDown b_reachHow b_reachFirst b_reachSecond b_begins b_carried c_hasImage c_above_r39 c_below_r39 c_orderMany c_waitMany c_seed c_size c_openMany c_paperMany c_reachMany_r39 c_begins_r39 c_now c_reachUp_r39 c_reachDown_r39 c_reachHow_r39 c_reachFirst_r39 c_reachSecond_r39) → va_S A s.heap H locs → lv_has ls 13 [(0, .ref b), (1, .int p1), (2, .int p2), (4, .int p4), (5, .int v5_51), (6, .long v6_51), (8, .int v8_51), (9, .long s0_98), (11, .int s0_134)] → fX11_nearest_J175 c_begins_r39 c_reachUp_r39 c_reachDown_r39 v5_51 v6_51 v8_51 (fX11_nearest_L51 (fX11_nearest_J277 p4 c_above_r39 c_below_r39 c_reachMany_r39 c_begins_r39 c_reachUp_r39 c_reachDown_r39 c_reachHow_r39 c_reachFirst_r39 c_reachSecond_r39) p1 p2 c_reachMany_r39 c_begins_r39 c_reachUp_r39 c_reachDown_r39 n51) s0_98 s0_134 s0_175 = some res → W p l e rmX11_nearest s m args below meth c H locs 0 0 Q (F0 m 175 ls [.int s0_175]) := by
                    intro s0_175 H locs ls hP hD hS hl h
                    refine lv_istore (lv' := [(12, .int s0_175), (0, .ref b), (1, .int p1), (2, .int p2), (4, .int p4), (5, .int v5_51), (6, .long v6_51), (8, .int v8_51), (9, .long s0_98), (11, .int s0_134)]) hx hb dX11_nearest_175 hl (Nat.le_of_ble_eq_true rfl) rfl (fun ls hl => ?_)
                    refine lv_iload hx hb dX11_nearest_177 (lv_at hl 9 rfl) ?_
                    have hJ241 : ∀ (s0_241 : Int32) (H : Heap) (locs : List Loc) (ls : Array Slot), va_P D vwCl (wdX11_nearest cy b b_now b_imaged b_valueUp b_valueDown b_real b_brief b_order b_waits b_floats b_same b_upOf b_downOf b_tape b_open b_made b_paper b_reachUp b_reachDown b_reachHow b_reachFirst b_reachSecond b_begins b_carried c_hasImage c_above_r39 c_below_r39 c_orderMany c_waitMany c_seed c_size c_openMany c_paperMany c_reachMany_r39 c_begins_r39 c_now c_reachUp_r39 c_reachDown_r39 c_reachHow_r39 c_reachFirst_r39 c_reachSecond_r39) H → va_D A (wdX11_nearest cy b b_now b_imaged b_valueUp b_valueDown b_real b_brief b_order b_waits b_floats b_same b_upOf b_downOf b_tape b_open b_made b_paper b_reachUp b_reachDown b_reachHow b_reachFirst b_reachSecond b_begins b_carried c_hasImage c_above_r39 c_below_r39 c_orderMany c_waitMany c_seed c_size c_openMany c_paperMany c_reachMany_r39 c_begins_r39 c_now c_reachUp_r39 c_reachDown_r39 c_reachHow_r39 c_reachFirst_r39 c_reachSecond_r39) → va_S A s.heap H locs → lv_has ls 13 [(0, .ref b), (1, .int p1), (2, .int p2), (4, .int p4), (5, .int v5_51), (6, .long v6_51), (8, .int v8_51), (9, .long s0_98)] → fX11_nearest_J241 v5_51 v6_51 v8_51 (fX11_nearest_L51 (fX11_nearest_J277 p4 c_above_r39 c_below_r39 c_reachMany_r39 c_begins_r39 c_reachUp_r39 c_reachDown_r39 c_reachHow_r39 c_reachFirst_r39 c_reachSecond_r39) p1 p2 c_reachMany_r39 c_begins_r39 c_reachUp_r39 c_reachDown_r39 n51) s0_98 s0_241 = some res → W p l e rmX11_nearest s m args below meth c H locs 0 0 Q (F0 m 241 ls [.int s0_241]) := by
                      intro s0_241 H locs ls hP hD hS hl h
                      refine lv_istore (lv' := [(11, .int s0_241), (0, .ref b), (1, .int p1), (2, .int p2), (4, .int p4), (5, .int v5_51), (6, .long v6_51), (8, .int v8_51), (9, .long s0_98)]) hx hb dX11_nearest_241 hl (Nat.le_of_ble_eq_true rfl) rfl (fun ls hl => ?_)
                      refine lv_iload hx hb dX11_nearest_243 (lv_at hl 0 rfl) ?_
                      have hJ255 : ∀ (s0_255 : Int32) (H : Heap) (locs : List Loc) (ls : Array Slot), va_P D vwCl (wdX11_nearest cy b b_now b_imaged b_valueUp b_valueDown b_real b_brief b_order b_waits b_floats b_same b_upOf b_downOf b_tape b_open b_made b_paper b_reachUp b_reachDown b_reachHow b_reachFirst b_reachSecond b_begins b_carried c_hasImage c_above_r39 c_below_r39 c_orderMany c_waitMany c_seed c_size c_openMany c_paperMany c_reachMany_r39 c_begins_r39 c_now c_reachUp_r39 c_reachDown_r39 c_reachHow_r39 c_reachFirst_r39 c_reachSecond_r39) H → va_D A (wdX11_nearest cy b b_now b_imaged b_valueUp b_valueDown b_real b_brief b_order b_waits b_floats b_same b_upOf b_downOf b_tape b_open b_made b_paper b_reachUp b_reachDown b_reachHow b_reachFirst b_reachSecond b_begins b_carried c_hasImage c_above_r39 c_below_r39 c_orderMany c_waitMany c_seed c_size c_openMany c_paperMany c_reachMany_r39 c_begins_r39 c_now c_reachUp_r39 c_reachDown_r39 c_reachHow_r39 c_reachFirst_r39 c_reachSecond_r39) → va_S A s.heap H locs → lv_has ls 13 [(0, .ref b), (1, .int p1), (2, .int p2), (4, .int p4), (6, .long v6_51), (8, .int v8_51), (9, .long s0_98), (11, .int s0_241)] → fX11_nearest_J255 v6_51 v8_51 (fX11_nearest_L51 (fX11_nearest_J277 p4 c_above_r39 c_below_r39 c_reachMany_r39 c_begins_r39 c_reachUp_r39 c_reachDown_r39 c_reachHow_r39 c_reachFirst_r39 c_reachSecond_r39) p1 p2 c_reachMany_r39 c_begins_r39 c_reachUp_r39 c_reachDown_r39 n51) s0_98 s0_241 s0_255 = some res → W p l e rmX11_nearest s m args below meth c H locs 0 0 Q (F0 m 255 ls [.int s0_255]) := by
                        intro s0_255 H locs ls hP hD hS hl h
                        refine lv_istore (lv' := [(5, .int s0_255), (0, .ref b), (1, .int p1), (2, .int p2), (4, .int p4), (6, .long v6_51), (8, .int v8_51), (9, .long s0_98), (11, .int s0_241)]) hx hb dX11_nearest_255 hl (Nat.le_of_ble_eq_true rfl) rfl (fun ls hl => ?_)
                        refine lv_iload hx hb dX11_nearest_257 (lv_at hl 8 rfl) ?_
                        refine lv_if_eq (tgt := 267) hx hb dX11_nearest_259 (by decide) (fun hc259 => ?_) (fun hc259 => ?_)
                        · replace h := zi_t hc259 h
                          refine lv_lload hx hb dX11_nearest_267 (lv_at hl 5 rfl) ?_
                          refine lv_lstore (lv' := [(6, .long v6_51), (5, .int s0_255), (0, .ref b), (1, .int p1), (2, .int p2), (4, .int p4), (8, .int v8_51), (9, .long s0_98), (11, .int s0_241)]) hx hb dX11_nearest_269 hl (Nat.le_of_ble_eq_true rfl) rfl (fun ls hl => ?_)
                          refine lv_iinc (v := (v8_51 + (1 : Int32))) (lv' := [(8, .int (v8_51 + (1 : Int32))), (6, .long v6_51), (5, .int s0_255), (0, .ref b), (1, .int p1), (2, .int p2), (4, .int p4), (9, .long s0_98), (11, .int s0_241)]) hx hb dX11_nearest_271 hl (k := 6) rfl (by rfl) (Nat.le_of_ble_eq_true rfl) rfl (fun ls hl => ?_)
                          refine lv_goto (tgt := 51) hx hb dX11_nearest_274 (by decide) ?_
                          exact ih51 s0_255 v6_51 (v8_51 + (1 : Int32)) _ _ _ hP hD hS (lv_sub hl [3, 4, 5, 6, 2, 1, 0] rfl) h
                        · replace h := zi_f hc259 h
                          refine lv_lload hx hb dX11_nearest_262 (lv_at hl 7 rfl) ?_
                          refine lv_goto (tgt := 269) hx hb dX11_nearest_264 (by decide) ?_
                          refine lv_lstore (lv' := [(6, .long s0_98), (5, .int s0_255), (0, .ref b), (1, .int p1), (2, .int p2), (4, .int p4), (8, .int v8_51), (9, .long s0_98), (11, .int s0_241)]) hx hb dX11_nearest_269 hl (Nat.le_of_ble_eq_true rfl) rfl (fun ls hl => ?_)
                          refine lv_iinc (v := (v8_51 + (1 : Int32))) (lv' := [(8, .int (v8_51 + (1 : Int32))), (6, .long s0_98), (5, .int s0_255), (0, .ref b), (1, .int p1), (2, .int p2), (4, .int p4), (9, .long s0_98), (11, .int s0_241)]) hx hb dX11_nearest_271 hl (k := 6) rfl (by rfl) (Nat.le_of_ble_eq_true rfl) rfl (fun ls hl => ?_)
                          refine lv_goto (tgt := 51) hx hb dX11_nearest_274 (by decide) ?_
                          exact ih51 s0_255 s0_98 (v8_51 + (1 : Int32)) _ _ _ hP hD hS (lv_sub hl [3, 4, 5, 6, 2, 1, 0] rfl) h
                      refine lv_if_eq (tgt := 253) hx hb dX11_nearest_245 (by decide) (fun hc245 => ?_) (fun hc245 => ?_)
                      · replace h := zi_t hc245 h
                        refine lv_iload hx hb dX11_nearest_253 (lv_at hl 5 rfl) ?_
                        exact hJ255 v5_51 _ _ _ hP hD hS (lv_sub hl [1, 2, 3, 4, 6, 7, 8, 0] rfl) h
                      · replace h := zi_f hc245 h
                        refine lv_iload hx hb dX11_nearest_248 (lv_at hl 7 rfl) ?_
                        refine lv_goto (tgt := 255) hx hb dX11_nearest_250 (by decide) ?_
                        exact hJ255 v8_51 _ _ _ hP hD hS (lv_sub hl [1, 2, 3, 4, 6, 7, 8, 0] rfl) h
                    refine lv_if_ne (tgt := 236) hx hb dX11_nearest_179 (by decide) (fun hc179 => ?_) (fun hc179 => ?_)
                    · replace h := zi_f hc179 h
                      refine lv_iconst (v := (1 : Int32)) hx hb dX11_nearest_236 (by decide) ?_
                      refine lv_goto (tgt := 241) hx hb dX11_nearest_237 (by decide) ?_
                      exact hJ241 (1 : Int32) _ _ _ hP hD hS (lv_sub hl [1, 2, 3, 4, 5, 6, 7, 8] rfl) h
                    · replace h := zi_t hc179 h
                      refine lv_iload hx hb dX11_nearest_182 (lv_at hl 0 rfl) ?_
                      refine lv_if_eq (tgt := 240) hx hb dX11_nearest_184 (by decide) (fun hc184 => ?_) (fun hc184 => ?_)
                      · replace h := zi_t hc184 h
                        refine lv_iconst (v := (0 : Int32)) hx hb dX11_nearest_240 (by decide) ?_
                        exact hJ241 (0 : Int32) _ _ _ hP hD hS (lv_sub hl [1, 2, 3, 4, 5, 6, 7, 8] rfl) h
                      · replace h := zi_f hc184 h
                        refine lv_aload_n hx hb dX11_nearest_187 rfl (lv_at hl 1 rfl) ?_
                        refine lv_iload hx hb dX11_nearest_188 (lv_at hl 7 rfl) ?_
                        obtain ⟨r190, hq190, h⟩ := zb1_s h
                        refine zCi (r0 := r190) (w1 := (wdX11_partsOfReached cy b b_now b_imaged b_valueUp b_valueDown b_real b_brief b_order b_waits b_floats b_same b_upOf b_downOf b_tape b_open b_made b_paper b_reachUp b_reachDown b_reachHow b_reachFirst b_reachSecond b_begins b_carried c_hasImage c_above_r39 c_below_r39 c_orderMany c_waitMany c_seed c_size c_openMany c_paperMany c_reachMany_r39 c_begins_r39)) (ws' := (wdX11_nearest cy b b_now b_imaged b_valueUp b_valueDown b_real b_brief b_order b_waits b_floats b_same b_upOf b_downOf b_tape b_open b_made b_paper b_reachUp b_reachDown b_reachHow b_reachFirst b_reachSecond b_begins b_carried c_hasImage c_above_r39 c_below_r39 c_orderMany c_waitMany c_seed c_size c_openMany c_paperMany c_reachMany_r39 c_begins_r39 c_now c_reachUp_r39 c_reachDown_r39 c_reachHow_r39 c_reachFirst_r39 c_reachSecond_r39)) (va_runV (As := [.int v8_51]) (rest := []) ⟨hx, hb, hml, hown, hts⟩ (mX11_partsOfReached l D cy H.size b b_now b_imaged b_valueUp b_valueDown b_real b_brief b_order b_waits b_floats b_same b_upOf b_downOf b_tape b_open b_made b_paper b_reachUp b_reachDown b_reachHow b_reachFirst b_reachSecond b_begins b_carried c_hasImage c_above_r39 c_below_r39 c_orderMany c_waitMany c_seed c_size c_openMany c_paperMany c_reachMany_r39 c_begins_r39 v8_51 (r190) hq190) (cwV 1 hts gX11_nearest_X11_partsOfReached rfl rfl rfl ⟨rfl, cdX11_partsOfReached⟩ ⟨Nat.le_of_ble_eq_true rfl, Nat.le_of_ble_eq_true rfl⟩) (zPV hK hP hD [0, 1] rfl rfl (q0 := 0) (ci := 11) rfl rfl rfl) rfl rfl hl.1 rfl (lv_room (Nat.le_of_ble_eq_true rfl)) dX11_nearest_190 ⟨Nat.zero_le _, Nat.zero_le _⟩) hP hD hS hA [0, 1] [2, 3, 4, 5, 6, 7] [6, 7, 0, 1, 2, 3, 4, 5] rfl rfl rfl rfl (fun H locs hP hD hS => ?_)
                        refine lv_aload_n hx hb dX11_nearest_193 rfl (lv_at hl 1 rfl) ?_
                        refine lv_iload hx hb dX11_nearest_194 (lv_at hl 5 rfl) ?_
                        obtain ⟨r196, hq196, h⟩ := zb1_s h
                        refine zCi (r0 := r196) (w1 := (wdX11_partsOfReached cy b b_now b_imaged b_valueUp b_valueDown b_real b_brief b_order b_waits b_floats b_same b_upOf b_downOf b_tape b_open b_made b_paper b_reachUp b_reachDown b_reachHow b_reachFirst b_reachSecond b_begins b_carried c_hasImage c_above_r39 c_below_r39 c_orderMany c_waitMany c_seed c_size c_openMany c_paperMany c_reachMany_r39 c_begins_r39)) (ws' := (wdX11_nearest cy b b_now b_imaged b_valueUp b_valueDown b_real b_brief b_order b_waits b_floats b_same b_upOf b_downOf b_tape b_open b_made b_paper b_reachUp b_reachDown b_reachHow b_reachFirst b_reachSecond b_begins b_carried c_hasImage c_above_r39 c_below_r39 c_orderMany c_waitMany c_seed c_size c_openMany c_paperMany c_reachMany_r39 c_begins_r39 c_now c_reachUp_r39 c_reachDown_r39 c_reachHow_r39 c_reachFirst_r39 c_reachSecond_r39)) (va_runV (As := [.int v5_51]) (rest := [.int r190]) ⟨hx, hb, hml, hown, hts⟩ (mX11_partsOfReached l D cy H.size b b_now b_imaged b_valueUp b_valueDown b_real b_brief b_order b_waits b_floats b_same b_upOf b_downOf b_tape b_open b_made b_paper b_reachUp b_reachDown b_reachHow b_reachFirst b_reachSecond b_begins b_carried c_hasImage c_above_r39 c_below_r39 c_orderMany c_waitMany c_seed c_size c_openMany c_paperMany c_reachMany_r39 c_begins_r39 v5_51 (r196) hq196) (cwV 1 hts gX11_nearest_X11_partsOfReached rfl rfl rfl ⟨rfl, cdX11_partsOfReached⟩ ⟨Nat.le_of_ble_eq_true rfl, Nat.le_of_ble_eq_true rfl⟩) (zPV hK hP hD [0, 1] rfl rfl (q0 := 0) (ci := 11) rfl rfl rfl) rfl rfl hl.1 rfl (lv_room (Nat.le_of_ble_eq_true rfl)) dX11_nearest_196 ⟨Nat.zero_le _, Nat.zero_le _⟩) hP hD hS hA [0, 1] [2, 3, 4, 5, 6, 7] [6, 7, 0, 1, 2, 3, 4, 5] rfl rfl rfl rfl (fun H locs hP hD hS => ?_)
                        refine lv_icmp_ne (tgt := 240) hx hb dX11_nearest_199 (by decide) (fun hc199 => ?_) (fun hc199 => ?_)
                        · replace h := zi_f hc199 h
                          refine lv_iconst (v := (0 : Int32)) hx hb dX11_nearest_240 (by decide) ?_
                          exact hJ241 (0 : Int32) _ _ _ hP hD hS (lv_sub hl [1, 2, 3, 4, 5, 6, 7, 8] rfl) h
                        · replace h := zi_t hc199 h
                          refine lv_aload_n hx hb dX11_nearest_202 rfl (lv_at hl 1 rfl) ?_
                          refine va_get (D := D) (ci := 11) (v := .ref b_reachUp) (C := RX11) (T := TX11) (N := 33) hx hb hts uX11_nearest_X11 hown hK.1 hP 0 rfl rfl 25 (by decide) (hts (.fieldLink RX11 63 "WishedResistorModel" "reachUp" "[J") (List.mem_of_getElem? (i := 5) rfl)) (fun _ h9 => h9) rfl dX11_nearest_203 ?_
                          refine lv_iload hx hb dX11_nearest_206 (lv_at hl 7 rfl) ?_
                          obtain ⟨hi208, h⟩ := zg_s h
                          refine va_lald hx hb hK.1 hP 3 1 rfl rfl hi208 dX11_nearest_208 ?_
                          refine lv_aload_n hx hb dX11_nearest_209 rfl (lv_at hl 1 rfl) ?_
                          refine va_get (D := D) (ci := 11) (v := .ref b_reachDown) (C := RX11) (T := TX11) (N := 33) hx hb hts uX11_nearest_X11 hown hK.1 hP 0 rfl rfl 26 (by decide) (hts (.fieldLink RX11 66 "WishedResistorModel" "reachDown" "[J") (List.mem_of_getElem? (i := 6) rfl)) (fun _ h9 => h9) rfl dX11_nearest_210 ?_
                          refine lv_iload hx hb dX11_nearest_213 (lv_at hl 7 rfl) ?_
                          obtain ⟨hi215, h⟩ := zg_s h
                          refine va_lald hx hb hK.1 hP 4 1 rfl rfl hi215 dX11_nearest_215 ?_
                          refine lv_aload_n hx hb dX11_nearest_216 rfl (lv_at hl 1 rfl) ?_
                          refine va_get (D := D) (ci := 11) (v := .ref b_reachUp) (C := RX11) (T := TX11) (N := 33) hx hb hts uX11_nearest_X11 hown hK.1 hP 0 rfl rfl 25 (by decide) (hts (.fieldLink RX11 63 "WishedResistorModel" "reachUp" "[J") (List.mem_of_getElem? (i := 5) rfl)) (fun _ h9 => h9) rfl dX11_nearest_217 ?_
                          refine lv_iload hx hb dX11_nearest_220 (lv_at hl 5 rfl) ?_
                          obtain ⟨hi222, h⟩ := zg_s h
                          refine va_lald hx hb hK.1 hP 3 1 rfl rfl hi222 dX11_nearest_222 ?_
                          refine lv_aload_n hx hb dX11_nearest_223 rfl (lv_at hl 1 rfl) ?_
                          refine va_get (D := D) (ci := 11) (v := .ref b_reachDown) (C := RX11) (T := TX11) (N := 33) hx hb hts uX11_nearest_X11 hown hK.1 hP 0 rfl rfl 26 (by decide) (hts (.fieldLink RX11 66 "WishedResistorModel" "reachDown" "[J") (List.mem_of_getElem? (i := 6) rfl)) (fun _ h9 => h9) rfl dX11_nearest_224 ?_
                          refine lv_iload hx hb dX11_nearest_227 (lv_at hl 5 rfl) ?_
                          obtain ⟨hi229, h⟩ := zg_s h
                          refine va_lald hx hb hK.1 hP 4 1 rfl rfl hi229 dX11_nearest_229 ?_
                          obtain ⟨r230, hq230, h⟩ := zb1_s h
                          refine zCz0 (r0 := r230) (va_runS (As := [.long (c_reachUp_r39 (v8_51).toNatClampNeg), .long (c_reachDown_r39 (v8_51).toNatClampNeg), .long (c_reachUp_r39 (v5_51).toNatClampNeg), .long (c_reachDown_r39 (v5_51).toNatClampNeg)]) (rest := []) ⟨hx, hb, hml, hown, hts⟩ (mX11_isLess l D cy H.size (c_reachUp_r39 (v8_51).toNatClampNeg) (c_reachDown_r39 (v8_51).toNatClampNeg) (c_reachUp_r39 (v5_51).toNatClampNeg) (c_reachDown_r39 (v5_51).toNatClampNeg) (r230) hq230) (va_cwS 4 hts gX11_nearest_X11_isLess rfl rfl rfl cdX11_isLess ⟨Nat.le_of_ble_eq_true rfl, Nat.le_of_ble_eq_true rfl⟩) (zPS hK hP hD [] rfl rfl) rfl rfl hl.1 rfl (lv_room (Nat.le_of_ble_eq_true rfl)) dX11_nearest_230 ⟨Nat.zero_le _, Nat.zero_le _⟩) hP hD hS hA (fun H locs hn230 hP hD hS => ?_)
                          refine lv_if_eq (tgt := 240) hx hb dX11_nearest_233 (by decide) (fun hc233 => ?_) (fun hc233 => ?_)
                          · replace h := zi_t hc233 h
                            refine lv_iconst (v := (0 : Int32)) hx hb dX11_nearest_240 (by decide) ?_
                            exact hJ241 (0 : Int32) _ _ _ hP hD hS (lv_sub hl [1, 2, 3, 4, 5, 6, 7, 8] rfl) h
                          · replace h := zi_f hc233 h
                            refine lv_iconst (v := (1 : Int32)) hx hb dX11_nearest_236 (by decide) ?_
                            refine lv_goto (tgt := 241) hx hb dX11_nearest_237 (by decide) ?_
                            exact hJ241 (1 : Int32) _ _ _ hP hD hS (lv_sub hl [1, 2, 3, 4, 5, 6, 7, 8] rfl) h
                  refine lv_if_lt (tgt := 174) hx hb dX11_nearest_138 (by decide) (fun hc138 => ?_) (fun hc138 => ?_)
                  · replace h := zi_t hc138 h
                    refine lv_iconst (v := (0 : Int32)) hx hb dX11_nearest_174 (by decide) ?_
                    exact hJ175 (0 : Int32) _ _ _ hP hD hS (lv_sub hl [1, 2, 3, 4, 5, 6, 7, 8, 0] rfl) h
                  · replace h := zi_f hc138 h
                    refine lv_iload hx hb dX11_nearest_141 (lv_at hl 0 rfl) ?_
                    refine lv_if_ne (tgt := 174) hx hb dX11_nearest_143 (by decide) (fun hc143 => ?_) (fun hc143 => ?_)
                    · replace h := zi_f hc143 h
                      refine lv_iconst (v := (0 : Int32)) hx hb dX11_nearest_174 (by decide) ?_
                      exact hJ175 (0 : Int32) _ _ _ hP hD hS (lv_sub hl [1, 2, 3, 4, 5, 6, 7, 8, 0] rfl) h
                    · replace h := zi_t hc143 h
                      refine lv_lload hx hb dX11_nearest_146 (lv_at hl 6 rfl) ?_
                      refine lv_aload_n hx hb dX11_nearest_148 rfl (lv_at hl 1 rfl) ?_
                      refine va_get (D := D) (ci := 11) (v := .ref b_reachDown) (C := RX11) (T := TX11) (N := 33) hx hb hts uX11_nearest_X11 hown hK.1 hP 0 rfl rfl 26 (by decide) (hts (.fieldLink RX11 66 "WishedResistorModel" "reachDown" "[J") (List.mem_of_getElem? (i := 6) rfl)) (fun _ h9 => h9) rfl dX11_nearest_149 ?_
                      refine lv_iload hx hb dX11_nearest_152 (lv_at hl 5 rfl) ?_
                      obtain ⟨hi154, h⟩ := zg_s h
                      refine va_lald hx hb hK.1 hP 4 1 rfl rfl hi154 dX11_nearest_154 ?_
                      refine lv_lload hx hb dX11_nearest_155 (lv_at hl 8 rfl) ?_
                      refine lv_aload_n hx hb dX11_nearest_157 rfl (lv_at hl 1 rfl) ?_
                      refine va_get (D := D) (ci := 11) (v := .ref b_reachDown) (C := RX11) (T := TX11) (N := 33) hx hb hts uX11_nearest_X11 hown hK.1 hP 0 rfl rfl 26 (by decide) (hts (.fieldLink RX11 66 "WishedResistorModel" "reachDown" "[J") (List.mem_of_getElem? (i := 6) rfl)) (fun _ h9 => h9) rfl dX11_nearest_158 ?_
                      refine lv_iload hx hb dX11_nearest_161 (lv_at hl 7 rfl) ?_
                      obtain ⟨hi163, h⟩ := zg_s h
                      refine va_lald hx hb hK.1 hP 4 1 rfl rfl hi163 dX11_nearest_163 ?_
                      obtain ⟨r164, hq164, h⟩ := zb1_s h
                      refine zCz0 (r0 := r164) (va_runS (As := [.long v6_51, .long (c_reachDown_r39 (v5_51).toNatClampNeg), .long s0_98, .long (c_reachDown_r39 (v8_51).toNatClampNeg)]) (rest := []) ⟨hx, hb, hml, hown, hts⟩ (mX11_isLess l D cy H.size v6_51 (c_reachDown_r39 (v5_51).toNatClampNeg) s0_98 (c_reachDown_r39 (v8_51).toNatClampNeg) (r164) hq164) (va_cwS 4 hts gX11_nearest_X11_isLess rfl rfl rfl cdX11_isLess ⟨Nat.le_of_ble_eq_true rfl, Nat.le_of_ble_eq_true rfl⟩) (zPS hK hP hD [] rfl rfl) rfl rfl hl.1 rfl (lv_room (Nat.le_of_ble_eq_true rfl)) dX11_nearest_164 ⟨Nat.zero_le _, Nat.zero_le _⟩) hP hD hS hA (fun H locs hn164 hP hD hS => ?_)
                      refine lv_if_ne (tgt := 174) hx hb dX11_nearest_167 (by decide) (fun hc167 => ?_) (fun hc167 => ?_)
                      · replace h := zi_f hc167 h
                        refine lv_iconst (v := (0 : Int32)) hx hb dX11_nearest_174 (by decide) ?_
                        exact hJ175 (0 : Int32) _ _ _ hP hD hS (lv_sub hl [1, 2, 3, 4, 5, 6, 7, 8, 0] rfl) h
                      · replace h := zi_t hc167 h
                        refine lv_iconst (v := (1 : Int32)) hx hb dX11_nearest_170 (by decide) ?_
                        refine lv_goto (tgt := 175) hx hb dX11_nearest_171 (by decide) ?_
                        exact hJ175 (1 : Int32) _ _ _ hP hD hS (lv_sub hl [1, 2, 3, 4, 5, 6, 7, 8, 0] rfl) h
                refine lv_if_lt (tgt := 129) hx hb dX11_nearest_102 (by decide) (fun hc102 => ?_) (fun hc102 => ?_)
                · replace h := zi_t hc102 h
                  refine lv_iconst (v := (1 : Int32)) hx hb dX11_nearest_129 (by decide) ?_
                  refine lv_goto (tgt := 134) hx hb dX11_nearest_130 (by decide) ?_
                  exact hJ134 (1 : Int32) _ _ _ hP hD hS (lv_sub hl [1, 2, 3, 4, 5, 6, 7, 0] rfl) h
                · replace h := zi_f hc102 h
                  refine lv_lload hx hb dX11_nearest_105 (lv_at hl 0 rfl) ?_
                  refine lv_aload_n hx hb dX11_nearest_107 rfl (lv_at hl 1 rfl) ?_
                  refine va_get (D := D) (ci := 11) (v := .ref b_reachDown) (C := RX11) (T := TX11) (N := 33) hx hb hts uX11_nearest_X11 hown hK.1 hP 0 rfl rfl 26 (by decide) (hts (.fieldLink RX11 66 "WishedResistorModel" "reachDown" "[J") (List.mem_of_getElem? (i := 6) rfl)) (fun _ h9 => h9) rfl dX11_nearest_108 ?_
                  refine lv_iload hx hb dX11_nearest_111 (lv_at hl 7 rfl) ?_
                  obtain ⟨hi113, h⟩ := zg_s h
                  refine va_lald hx hb hK.1 hP 4 1 rfl rfl hi113 dX11_nearest_113 ?_
                  refine lv_lload hx hb dX11_nearest_114 (lv_at hl 6 rfl) ?_
                  refine lv_aload_n hx hb dX11_nearest_116 rfl (lv_at hl 1 rfl) ?_
                  refine va_get (D := D) (ci := 11) (v := .ref b_reachDown) (C := RX11) (T := TX11) (N := 33) hx hb hts uX11_nearest_X11 hown hK.1 hP 0 rfl rfl 26 (by decide) (hts (.fieldLink RX11 66 "WishedResistorModel" "reachDown" "[J") (List.mem_of_getElem? (i := 6) rfl)) (fun _ h9 => h9) rfl dX11_nearest_117 ?_
                  refine lv_iload hx hb dX11_nearest_120 (lv_at hl 5 rfl) ?_
                  obtain ⟨hi122, h⟩ := zg_s h
                  refine va_lald hx hb hK.1 hP 4 1 rfl rfl hi122 dX11_nearest_122 ?_
                  obtain ⟨r123, hq123, h⟩ := zb1_s h
                  refine zCz0 (r0 := r123) (va_runS (As := [.long s0_98, .long (c_reachDown_r39 (v8_51).toNatClampNeg), .long v6_51, .long (c_reachDown_r39 (v5_51).toNatClampNeg)]) (rest := []) ⟨hx, hb, hml, hown, hts⟩ (mX11_isLess l D cy H.size s0_98 (c_reachDown_r39 (v8_51).toNatClampNeg) v6_51 (c_reachDown_r39 (v5_51).toNatClampNeg) (r123) hq123) (va_cwS 4 hts gX11_nearest_X11_isLess rfl rfl rfl cdX11_isLess ⟨Nat.le_of_ble_eq_true rfl, Nat.le_of_ble_eq_true rfl⟩) (zPS hK hP hD [] rfl rfl) rfl rfl hl.1 rfl (lv_room (Nat.le_of_ble_eq_true rfl)) dX11_nearest_123 ⟨Nat.zero_le _, Nat.zero_le _⟩) hP hD hS hA (fun H locs hn123 hP hD hS => ?_)
                  refine lv_if_eq (tgt := 133) hx hb dX11_nearest_126 (by decide) (fun hc126 => ?_) (fun hc126 => ?_)
                  · replace h := zi_t hc126 h
                    refine lv_iconst (v := (0 : Int32)) hx hb dX11_nearest_133 (by decide) ?_
                    exact hJ134 (0 : Int32) _ _ _ hP hD hS (lv_sub hl [1, 2, 3, 4, 5, 6, 7, 0] rfl) h
                  · replace h := zi_f hc126 h
                    refine lv_iconst (v := (1 : Int32)) hx hb dX11_nearest_129 (by decide) ?_
                    refine lv_goto (tgt := 134) hx hb dX11_nearest_130 (by decide) ?_
                    exact hJ134 (1 : Int32) _ _ _ hP hD hS (lv_sub hl [1, 2, 3, 4, 5, 6, 7, 0] rfl) h
              refine lv_if_ge (tgt := 96) hx hb dX11_nearest_87 (by decide) (fun hc87 => ?_) (fun hc87 => ?_)
              · replace hc87 := (zc_ge _ _).mp hc87
                replace h := zi_t hc87 h
                refine lv_lload hx hb dX11_nearest_96 (lv_at hl 0 rfl) ?_
                exact hJ98 (((c_reachUp_r39 (v8_51).toNatClampNeg) * ((p2).toInt64)) - (((p1).toInt64) * (c_reachDown_r39 (v8_51).toNatClampNeg))) _ _ _ hP hD hS (lv_sub hl [1, 2, 3, 4, 5, 6, 7] rfl) h
              · replace hc87 := fun q => hc87 ((zc_ge _ _).mpr q)
                replace h := zi_f hc87 h
                refine lv_lload hx hb dX11_nearest_90 (lv_at hl 0 rfl) ?_
                refine lv_lneg hx hb dX11_nearest_92 ?_
                refine lv_goto (tgt := 98) hx hb dX11_nearest_93 (by decide) ?_
                exact hJ98 (-(((c_reachUp_r39 (v8_51).toNatClampNeg) * ((p2).toInt64)) - (((p1).toInt64) * (c_reachDown_r39 (v8_51).toNatClampNeg)))) _ _ _ hP hD hS (lv_sub hl [1, 2, 3, 4, 5, 6, 7] rfl) h
        exact hL51 5000 (-1 : Int32) (0 : Int64) (0 : Int32) _ _ _ hP hD hS (lv_sub hl [3, 4, 5, 7, 2, 1, 0] rfl) h
      · replace h := zi_t hc30 h
        refine lv_ldc2 hx hb hown (hts (.constantLong RX11 155 (-9223372036854775808)) (List.mem_of_getElem? (i := 3) rfl)) dX11_nearest_33 ?_
        exact hret (o := ((-9223372036854775808 : Int64), c_above, c_below, c_reachMany, c_begins, c_reachUp, c_reachDown, c_reachHow, c_reachFirst, c_reachSecond)) h hP hD hS dX11_nearest_36

theorem uX11_makes_X11 : ∀ w ∈ u_ws RX11 TX11 33, w ∈ wsX11_makes := fun w h => (List.mem_cons_of_mem _ (List.mem_append_right _ h))
abbrev wdX11_makes (cy : Nat → ClassId) (b b_now b_imaged b_valueUp b_valueDown b_real b_brief b_order b_waits b_floats b_same b_upOf b_downOf b_tape b_open b_made b_paper b_reachUp b_reachDown b_reachHow b_reachFirst b_reachSecond b_begins b_carried : Nat) (c_hasImage : Int32) (c_above c_below : Int64) (c_orderMany c_waitMany c_seed c_size c_openMany c_paperMany c_reachMany : Int32) (c_waits c_reachHow c_reachSecond c_reachFirst c_now c_made : Nat → Int32) : va_W := [(b, .inr (11, [.ref b_now, .ref b_imaged, .int c_hasImage, .long c_above, .long c_below, .ref b_valueUp, .ref b_valueDown, .ref b_real, .ref b_brief, .ref b_order, .int c_orderMany, .ref b_waits, .int c_waitMany, .ref b_floats, .int c_seed, .ref b_same, .ref b_upOf, .ref b_downOf, .ref b_tape, .int c_size, .ref b_open, .int c_openMany, .ref b_made, .ref b_paper, .int c_paperMany, .ref b_reachUp, .ref b_reachDown, .ref b_reachHow, .ref b_reachFirst, .ref b_reachSecond, .ref b_begins, .int c_reachMany, .ref b_carried])), (b_waits, .inl (cy 0, 40, .inl c_waits)), (b_reachHow, .inl (cy 0, 2000, .inl c_reachHow)), (b_reachSecond, .inl (cy 0, 2000, .inl c_reachSecond)), (b_reachFirst, .inl (cy 0, 2000, .inl c_reachFirst)), (b_now, .inl (cy 0, 261, .inl c_now)), (b_made, .inl (cy 0, 24, .inl c_made))]
abbrev rmX11_makes : Room := { frames := 3, cells := 0, slots := 0, locals := 70 }
theorem cdX11_makes : (yX11_makes).cls ≠ "java/lang/invoke/MethodHandle" ∧ (yX11_makes).cls ≠ "java/lang/invoke/VarHandle" ∧ (parseMethodDescriptor (yX11_makes).desc).map (fun d => d.parameters.length) = some 1 := by decide +kernel
def fX11_makes_J224  (c_waitMany_224 : Int32) (c_waits_224 c_now_224 c_made_224 : Nat → Int32) : Option (Int32 × Int32 × (Nat → Int32) × (Nat → Int32) × (Nat → Int32)) :=
  some ((c_made_224 ((0 : Int32)).toNatClampNeg), c_waitMany_224, c_waits_224, c_now_224, c_made_224)
def fX11_makes_J213 (rec14 : Int32 → Int32 → (Nat → Int32) → (Nat → Int32) → (Nat → Int32) → Option (Int32 × Int32 × (Nat → Int32) × (Nat → Int32) × (Nat → Int32))) (v2_213 v4_213 c_waitMany_213 : Int32) (c_waits_213 c_now_213 c_made_213 : Nat → Int32) : Option (Int32 × Int32 × (Nat → Int32) × (Nat → Int32) × (Nat → Int32)) :=
  if 0 ≤ v4_213 then (rec14 v2_213 c_waitMany_213 c_waits_213 c_now_213 c_made_213) else (some ((-3 : Int32), c_waitMany_213, c_waits_213, c_now_213, c_made_213))
def fX11_makes_J116 (c_reachHow c_reachFirst : Nat → Int32) (v2_14 c_waitMany_14 : Int32) (c_waits_14 c_now_14 c_made_14 : Nat → Int32) (rec14 : Int32 → Int32 → (Nat → Int32) → (Nat → Int32) → (Nat → Int32) → Option (Int32 × Int32 × (Nat → Int32) × (Nat → Int32) × (Nat → Int32)))  : Option (Int32 × Int32 × (Nat → Int32) × (Nat → Int32) × (Nat → Int32)) :=
  if (c_waits_14 ((c_waitMany_14 - (1 : Int32))).toNatClampNeg) < 0 then (zg (zin ((-1 : Int32) - (c_waits_14 ((c_waitMany_14 - (1 : Int32))).toNatClampNeg)) 2000) (zg (zin ((v2_14 + (-1 : Int32)) - (1 : Int32)) 24) (zg (zin (v2_14 + (-1 : Int32)) 24) (zg (zin ((v2_14 + (-1 : Int32)) - (1 : Int32)) 24) (zb1 (fX11_partsOf (c_made_14 (((v2_14 + (-1 : Int32)) - (1 : Int32))).toNatClampNeg) c_now_14) (fun r184 => zg (zin (v2_14 + (-1 : Int32)) 24) (zb1 (fX11_partsOf (c_made_14 ((v2_14 + (-1 : Int32))).toNatClampNeg) c_now_14) (fun r194 => zb2 (fX11_kept (c_reachHow (((-1 : Int32) - (c_waits_14 ((c_waitMany_14 - (1 : Int32))).toNatClampNeg))).toNatClampNeg) (c_made_14 (((v2_14 + (-1 : Int32)) - (1 : Int32))).toNatClampNeg) (c_made_14 ((v2_14 + (-1 : Int32))).toNatClampNeg) (r184 + r194) c_now_14) (fun r198 c_now_r198 => zg (zin ((v2_14 + (-1 : Int32)) - (1 : Int32)) 24) (fX11_makes_J213 rec14 (v2_14 + (-1 : Int32)) r198 (c_waitMany_14 - (1 : Int32)) c_waits_14 c_now_r198 (upd c_made_14 (((v2_14 + (-1 : Int32)) - (1 : Int32))).toNatClampNeg r198))))))))))) else (zg (zin (c_waits_14 ((c_waitMany_14 - (1 : Int32))).toNatClampNeg) 2000) (zb2 (fX11_kept (0 : Int32) (c_reachFirst ((c_waits_14 ((c_waitMany_14 - (1 : Int32))).toNatClampNeg)).toNatClampNeg) (0 : Int32) (1 : Int32) c_now_14) (fun r130 c_now_r130 => zg (zin v2_14 24) (fX11_makes_J213 rec14 (v2_14 + (1 : Int32)) r130 (c_waitMany_14 - (1 : Int32)) c_waits_14 c_now_r130 (upd c_made_14 (v2_14).toNatClampNeg r130)))))
def fX11_makes_L14 (k224_14 : Int32 → (Nat → Int32) → (Nat → Int32) → (Nat → Int32) → Option (Int32 × Int32 × (Nat → Int32) × (Nat → Int32) × (Nat → Int32))) (c_reachHow c_reachSecond c_reachFirst : Nat → Int32) : Nat → Int32 → Int32 → (Nat → Int32) → (Nat → Int32) → (Nat → Int32) → Option (Int32 × Int32 × (Nat → Int32) × (Nat → Int32) × (Nat → Int32)) :=
  zl5 (fun rec14 v2_14 c_waitMany_14 c_waits_14 c_now_14 c_made_14 => if c_waitMany_14 ≤ 0 then (k224_14 c_waitMany_14 c_waits_14 c_now_14 c_made_14) else (zg (zin (c_waitMany_14 - (1 : Int32)) 40) (if (c_waits_14 ((c_waitMany_14 - (1 : Int32))).toNatClampNeg) < 0 then (fX11_makes_J116 c_reachHow c_reachFirst v2_14 c_waitMany_14 c_waits_14 c_now_14 c_made_14 rec14) else (zg (zin (c_waits_14 ((c_waitMany_14 - (1 : Int32))).toNatClampNeg) 2000) (if (c_reachHow ((c_waits_14 ((c_waitMany_14 - (1 : Int32))).toNatClampNeg)).toNatClampNeg) ≤ 0 then (fX11_makes_J116 c_reachHow c_reachFirst v2_14 c_waitMany_14 c_waits_14 c_now_14 c_made_14 rec14) else (zg (zin (c_waitMany_14 - (1 : Int32)) 40) (zg (zin (c_waits_14 ((c_waitMany_14 - (1 : Int32))).toNatClampNeg) 2000) (zg (zin ((c_waitMany_14 - (1 : Int32)) + (1 : Int32)) 40) (zg (zin (c_waits_14 ((c_waitMany_14 - (1 : Int32))).toNatClampNeg) 2000) (zg (zin ((c_waitMany_14 - (1 : Int32)) + (2 : Int32)) 40) (fX11_makes_J213 rec14 v2_14 (0 : Int32) ((c_waitMany_14 - (1 : Int32)) + (3 : Int32)) (upd (upd (upd c_waits_14 ((c_waitMany_14 - (1 : Int32))).toNatClampNeg ((-1 : Int32) - (c_waits_14 ((c_waitMany_14 - (1 : Int32))).toNatClampNeg))) (((c_waitMany_14 - (1 : Int32)) + (1 : Int32))).toNatClampNeg (c_reachSecond ((c_waits_14 ((c_waitMany_14 - (1 : Int32))).toNatClampNeg)).toNatClampNeg)) (((c_waitMany_14 - (1 : Int32)) + (2 : Int32))).toNatClampNeg (c_reachFirst ((c_waits_14 ((c_waitMany_14 - (1 : Int32))).toNatClampNeg)).toNatClampNeg)) c_now_14 c_made_14)))))))))))
def fX11_makes (p1 c_waitMany : Int32) (c_waits c_reachHow c_reachSecond c_reachFirst c_now c_made : Nat → Int32) : Option (Int32 × Int32 × (Nat → Int32) × (Nat → Int32) × (Nat → Int32)) :=
  fX11_makes_L14 fX11_makes_J224 c_reachHow c_reachSecond c_reachFirst 5000 (0 : Int32) (1 : Int32) (upd c_waits ((0 : Int32)).toNatClampNeg p1) c_now c_made
set_option maxHeartbeats 4000000 in
set_option maxRecDepth 100000 in
theorem mX11_makes (l : Launch) (D : va_G) (cy : Nat → ClassId) (sz : Nat) (b b_now b_imaged b_valueUp b_valueDown b_real b_brief b_order b_waits b_floats b_same b_upOf b_downOf b_tape b_open b_made b_paper b_reachUp b_reachDown b_reachHow b_reachFirst b_reachSecond b_begins b_carried : Nat) (c_hasImage : Int32) (c_above c_below : Int64) (c_orderMany c_waitMany c_seed c_size c_openMany c_paperMany c_reachMany : Int32) (c_waits c_reachHow c_reachSecond c_reachFirst c_now c_made : Nat → Int32) (p1 : Int32) (res : (Int32 × Int32 × (Nat → Int32) × (Nat → Int32) × (Nat → Int32))) (h : fX11_makes p1 c_waitMany c_waits c_reachHow c_reachSecond c_reachFirst c_now c_made = some res) : zMi l yX11_makes wsX11_makes rmX11_makes [.ref b, .int p1] D cy (wdX11_makes cy b b_now b_imaged b_valueUp b_valueDown b_real b_brief b_order b_waits b_floats b_same b_upOf b_downOf b_tape b_open b_made b_paper b_reachUp b_reachDown b_reachHow b_reachFirst b_reachSecond b_begins b_carried c_hasImage c_above c_below c_orderMany c_waitMany c_seed c_size c_openMany c_paperMany c_reachMany c_waits c_reachHow c_reachSecond c_reachFirst c_now c_made) sz ((fun (o : (Int32 × Int32 × (Nat → Int32) × (Nat → Int32) × (Nat → Int32))) => o.1) res) ((fun (o : (Int32 × Int32 × (Nat → Int32) × (Nat → Int32) × (Nat → Int32))) => (wdX11_makes cy b b_now b_imaged b_valueUp b_valueDown b_real b_brief b_order b_waits b_floats b_same b_upOf b_downOf b_tape b_open b_made b_paper b_reachUp b_reachDown b_reachHow b_reachFirst b_reachSecond b_begins b_carried c_hasImage c_above c_below c_orderMany (o.2.1) c_seed c_size c_openMany c_paperMany c_reachMany (o.2.2.1) c_reachHow c_reachSecond c_reachFirst (o.2.2.2.1) (o.2.2.2.2))) res) := by
  refine zOfi (res := res) (rf := (fun (o : (Int32 × Int32 × (Nat → Int32) × (Nat → Int32) × (Nat → Int32))) => o.1)) (Wf := (fun (o : (Int32 × Int32 × (Nat → Int32) × (Nat → Int32) × (Nat → Int32))) => (wdX11_makes cy b b_now b_imaged b_valueUp b_valueDown b_real b_brief b_order b_waits b_floats b_same b_upOf b_downOf b_tape b_open b_made b_paper b_reachUp b_reachDown b_reachHow b_reachFirst b_reachSecond b_begins b_carried c_hasImage c_above c_below c_orderMany (o.2.1) c_seed c_size c_openMany c_paperMany c_reachMany (o.2.2.1) c_reachHow c_reachSecond c_reachFirst (o.2.2.2.1) (o.2.2.2.2)))) (by decide +kernel) rfl (Nat.le_of_ble_eq_true rfl) ?_
  intro p e s m args below meth c A ls Q hx hb hml hts hown hP hK hD hA hS hl hret
  have hown : s.vm.findClass RX11 = some m.cls := hown
  have hl : lv_has ls 5 [(0, .ref b), (1, .int p1)] := hl
  refine lv_iconst (v := (0 : Int32)) hx hb dX11_makes_0 (by decide) ?_
  refine lv_istore_n (lv' := [(2, .int (0 : Int32)), (0, .ref b), (1, .int p1)]) hx hb dX11_makes_1 rfl hl (Nat.le_of_ble_eq_true rfl) rfl (fun ls hl => ?_)
  refine lv_aload_n hx hb dX11_makes_2 rfl (lv_at hl 1 rfl) ?_
  refine lv_iconst (v := (1 : Int32)) hx hb dX11_makes_3 (by decide) ?_
  refine va_put (D := D) (ci := 11) (v := .int (1 : Int32)) (ty := .int) (C := RX11) (T := TX11) (N := 33) hx hb hts uX11_makes_X11 tyX11 tyX11_ok nmX11 hown hK.1 hP hD hS 0 rfl rfl 12 (by decide) (hts (.fieldLink RX11 186 "WishedResistorModel" "waitMany" "I") (List.mem_of_getElem? (i := 1) rfl)) (fun _ h9 => h9) rfl (by decide +kernel) rfl rfl (Nat.le_of_ble_eq_true rfl) dX11_makes_4 (fun H locs hP hD hS => ?_)
  have hP : va_P D vwCl (wdX11_makes cy b b_now b_imaged b_valueUp b_valueDown b_real b_brief b_order b_waits b_floats b_same b_upOf b_downOf b_tape b_open b_made b_paper b_reachUp b_reachDown b_reachHow b_reachFirst b_reachSecond b_begins b_carried c_hasImage c_above c_below c_orderMany (1 : Int32) c_seed c_size c_openMany c_paperMany c_reachMany c_waits c_reachHow c_reachSecond c_reachFirst c_now c_made) H := hP
  have hD : va_D A (wdX11_makes cy b b_now b_imaged b_valueUp b_valueDown b_real b_brief b_order b_waits b_floats b_same b_upOf b_downOf b_tape b_open b_made b_paper b_reachUp b_reachDown b_reachHow b_reachFirst b_reachSecond b_begins b_carried c_hasImage c_above c_below c_orderMany (1 : Int32) c_seed c_size c_openMany c_paperMany c_reachMany c_waits c_reachHow c_reachSecond c_reachFirst c_now c_made) := hD
  refine lv_aload_n hx hb dX11_makes_7 rfl (lv_at hl 1 rfl) ?_
  refine va_get (D := D) (ci := 11) (v := .ref b_waits) (C := RX11) (T := TX11) (N := 33) hx hb hts uX11_makes_X11 hown hK.1 hP 0 rfl rfl 11 (by decide) (hts (.fieldLink RX11 36 "WishedResistorModel" "waits" "[I") (List.mem_of_getElem? (i := 2) rfl)) (fun _ h9 => h9) rfl dX11_makes_8 ?_
  refine lv_iconst (v := (0 : Int32)) hx hb dX11_makes_11 (by decide) ?_
  refine lv_iload_n hx hb dX11_makes_12 rfl (lv_at hl 2 rfl) ?_
  refine va_iast hx hb hK.1 hP hD hS 1 0 rfl rfl (show zin (0 : Int32) 40 from by decide) dX11_makes_13 (fun H locs hP hD hS => ?_)
  have hP : va_P D vwCl (wdX11_makes cy b b_now b_imaged b_valueUp b_valueDown b_real b_brief b_order b_waits b_floats b_same b_upOf b_downOf b_tape b_open b_made b_paper b_reachUp b_reachDown b_reachHow b_reachFirst b_reachSecond b_begins b_carried c_hasImage c_above c_below c_orderMany (1 : Int32) c_seed c_size c_openMany c_paperMany c_reachMany (upd c_waits ((0 : Int32)).toNatClampNeg p1) c_reachHow c_reachSecond c_reachFirst c_now c_made) H := hP
  have hD : va_D A (wdX11_makes cy b b_now b_imaged b_valueUp b_valueDown b_real b_brief b_order b_waits b_floats b_same b_upOf b_downOf b_tape b_open b_made b_paper b_reachUp b_reachDown b_reachHow b_reachFirst b_reachSecond b_begins b_carried c_hasImage c_above c_below c_orderMany (1 : Int32) c_seed c_size c_openMany c_paperMany c_reachMany (upd c_waits ((0 : Int32)).toNatClampNeg p1) c_reachHow c_reachSecond c_reachFirst c_now c_made) := hD
  have hJ224 : ∀ (c_waitMany_224 : Int32) (c_waits_224 c_now_224 c_made_224 : Nat → Int32) (H : Heap) (locs : List Loc) (ls : Array Slot), va_P D vwCl (wdX11_makes cy b b_now b_imaged b_valueUp b_valueDown b_real b_brief b_order b_waits b_floats b_same b_upOf b_downOf b_tape b_open b_made b_paper b_reachUp b_reachDown b_reachHow b_reachFirst b_reachSecond b_begins b_carried c_hasImage c_above c_below c_orderMany c_waitMany_224 c_seed c_size c_openMany c_paperMany c_reachMany c_waits_224 c_reachHow c_reachSecond c_reachFirst c_now_224 c_made_224) H → va_D A (wdX11_makes cy b b_now b_imaged b_valueUp b_valueDown b_real b_brief b_order b_waits b_floats b_same b_upOf b_downOf b_tape b_open b_made b_paper b_reachUp b_reachDown b_reachHow b_reachFirst b_reachSecond b_begins b_carried c_hasImage c_above c_below c_orderMany c_waitMany_224 c_seed c_size c_openMany c_paperMany c_reachMany c_waits_224 c_reachHow c_reachSecond c_reachFirst c_now_224 c_made_224) → va_S A s.heap H locs → lv_has ls 5 [(0, .ref b)] → fX11_makes_J224 c_waitMany_224 c_waits_224 c_now_224 c_made_224 = some res → W p l e rmX11_makes s m args below meth c H locs 0 0 Q (F0 m 224 ls []) := by
    intro c_waitMany_224 c_waits_224 c_now_224 c_made_224 H locs ls hP hD hS hl h
    refine lv_aload_n hx hb dX11_makes_224 rfl (lv_at hl 0 rfl) ?_
    refine va_get (D := D) (ci := 11) (v := .ref b_made) (C := RX11) (T := TX11) (N := 33) hx hb hts uX11_makes_X11 hown hK.1 hP 0 rfl rfl 22 (by decide) (hts (.fieldLink RX11 57 "WishedResistorModel" "made" "[I") (List.mem_of_getElem? (i := 6) rfl)) (fun _ h9 => h9) rfl dX11_makes_225 ?_
    refine lv_iconst (v := (0 : Int32)) hx hb dX11_makes_228 (by decide) ?_
    refine va_iald hx hb hK.1 hP 6 0 rfl rfl (show zin (0 : Int32) 24 from by decide) dX11_makes_229 ?_
    exact hret (o := ((c_made_224 ((0 : Int32)).toNatClampNeg), c_waitMany_224, c_waits_224, c_now_224, c_made_224)) h hP hD hS dX11_makes_230
  have hL14 : ∀ n14 : Nat, ∀ (v2_14 c_waitMany_14 : Int32) (c_waits_14 c_now_14 c_made_14 : Nat → Int32) (H : Heap) (locs : List Loc) (ls : Array Slot), va_P D vwCl (wdX11_makes cy b b_now b_imaged b_valueUp b_valueDown b_real b_brief b_order b_waits b_floats b_same b_upOf b_downOf b_tape b_open b_made b_paper b_reachUp b_reachDown b_reachHow b_reachFirst b_reachSecond b_begins b_carried c_hasImage c_above c_below c_orderMany c_waitMany_14 c_seed c_size c_openMany c_paperMany c_reachMany c_waits_14 c_reachHow c_reachSecond c_reachFirst c_now_14 c_made_14) H → va_D A (wdX11_makes cy b b_now b_imaged b_valueUp b_valueDown b_real b_brief b_order b_waits b_floats b_same b_upOf b_downOf b_tape b_open b_made b_paper b_reachUp b_reachDown b_reachHow b_reachFirst b_reachSecond b_begins b_carried c_hasImage c_above c_below c_orderMany c_waitMany_14 c_seed c_size c_openMany c_paperMany c_reachMany c_waits_14 c_reachHow c_reachSecond c_reachFirst c_now_14 c_made_14) → va_S A s.heap H locs → lv_has ls 5 [(0, .ref b), (2, .int v2_14)] → fX11_makes_L14 fX11_makes_J224 c_reachHow c_reachSecond c_reachFirst n14 v2_14 c_waitMany_14 c_waits_14 c_now_14 c_made_14 = some res → W p l e rmX11_makes s m args below meth c H locs 0 0 Q (F0 m 14 ls []) := by
    intro n14
    induction n14 with
    | zero =>
      intro v2_14 c_waitMany_14 c_waits_14 c_now_14 c_made_14 H locs ls hP hD hS hl h
      exact zl5_0 h
    | succ n14 ih14 =>
      intro v2_14 c_waitMany_14 c_waits_14 c_now_14 c_made_14 H locs ls hP hD hS hl h
      replace h := zl5_s h
      refine lv_aload_n hx hb dX11_makes_14 rfl (lv_at hl 0 rfl) ?_
      refine va_get (D := D) (ci := 11) (v := .int c_waitMany_14) (C := RX11) (T := TX11) (N := 33) hx hb hts uX11_makes_X11 hown hK.1 hP 0 rfl rfl 12 (by decide) (hts (.fieldLink RX11 186 "WishedResistorModel" "waitMany" "I") (List.mem_of_getElem? (i := 1) rfl)) (fun _ h9 => h9) rfl dX11_makes_15 ?_
      refine lv_if_le (tgt := 224) hx hb dX11_makes_18 (by decide) (fun hc18 => ?_) (fun hc18 => ?_)
      · replace h := zi_t hc18 h
        exact hJ224 c_waitMany_14 c_waits_14 c_now_14 c_made_14 _ _ _ hP hD hS (lv_sub hl [0] rfl) h
      · replace h := zi_f hc18 h
        refine lv_aload_n hx hb dX11_makes_21 rfl (lv_at hl 0 rfl) ?_
        refine lv_dup hx hb dX11_makes_22 rfl ?_
        refine va_get (D := D) (ci := 11) (v := .int c_waitMany_14) (C := RX11) (T := TX11) (N := 33) hx hb hts uX11_makes_X11 hown hK.1 hP 0 rfl rfl 12 (by decide) (hts (.fieldLink RX11 186 "WishedResistorModel" "waitMany" "I") (List.mem_of_getElem? (i := 1) rfl)) (fun _ h9 => h9) rfl dX11_makes_23 ?_
        refine lv_iconst (v := (1 : Int32)) hx hb dX11_makes_26 (by decide) ?_
        refine lv_isub hx hb dX11_makes_27 ?_
        refine va_put (D := D) (ci := 11) (v := .int (c_waitMany_14 - (1 : Int32))) (ty := .int) (C := RX11) (T := TX11) (N := 33) hx hb hts uX11_makes_X11 tyX11 tyX11_ok nmX11 hown hK.1 hP hD hS 0 rfl rfl 12 (by decide) (hts (.fieldLink RX11 186 "WishedResistorModel" "waitMany" "I") (List.mem_of_getElem? (i := 1) rfl)) (fun _ h9 => h9) rfl (by decide +kernel) rfl rfl (Nat.le_of_ble_eq_true rfl) dX11_makes_28 (fun H locs hP hD hS => ?_)
        have hP : va_P D vwCl (wdX11_makes cy b b_now b_imaged b_valueUp b_valueDown b_real b_brief b_order b_waits b_floats b_same b_upOf b_downOf b_tape b_open b_made b_paper b_reachUp b_reachDown b_reachHow b_reachFirst b_reachSecond b_begins b_carried c_hasImage c_above c_below c_orderMany (c_waitMany_14 - (1 : Int32)) c_seed c_size c_openMany c_paperMany c_reachMany c_waits_14 c_reachHow c_reachSecond c_reachFirst c_now_14 c_made_14) H := hP
        have hD : va_D A (wdX11_makes cy b b_now b_imaged b_valueUp b_valueDown b_real b_brief b_order b_waits b_floats b_same b_upOf b_downOf b_tape b_open b_made b_paper b_reachUp b_reachDown b_reachHow b_reachFirst b_reachSecond b_begins b_carried c_hasImage c_above c_below c_orderMany (c_waitMany_14 - (1 : Int32)) c_seed c_size c_openMany c_paperMany c_reachMany c_waits_14 c_reachHow c_reachSecond c_reachFirst c_now_14 c_made_14) := hD
        refine lv_aload_n hx hb dX11_makes_31 rfl (lv_at hl 0 rfl) ?_
        refine va_get (D := D) (ci := 11) (v := .ref b_waits) (C := RX11) (T := TX11) (N := 33) hx hb hts uX11_makes_X11 hown hK.1 hP 0 rfl rfl 11 (by decide) (hts (.fieldLink RX11 36 "WishedResistorModel" "waits" "[I") (List.mem_of_getElem? (i := 2) rfl)) (fun _ h9 => h9) rfl dX11_makes_32 ?_
        refine lv_aload_n hx hb dX11_makes_35 rfl (lv_at hl 0 rfl) ?_
        refine va_get (D := D) (ci := 11) (v := .int (c_waitMany_14 - (1 : Int32))) (C := RX11) (T := TX11) (N := 33) hx hb hts uX11_makes_X11 hown hK.1 hP 0 rfl rfl 12 (by decide) (hts (.fieldLink RX11 186 "WishedResistorModel" "waitMany" "I") (List.mem_of_getElem? (i := 1) rfl)) (fun _ h9 => h9) rfl dX11_makes_36 ?_
        obtain ⟨hi39, h⟩ := zg_s h
        refine va_iald hx hb hK.1 hP 1 0 rfl rfl hi39 dX11_makes_39 ?_
        refine lv_istore_n (lv' := [(3, .int (c_waits_14 ((c_waitMany_14 - (1 : Int32))).toNatClampNeg)), (0, .ref b), (2, .int v2_14)]) hx hb dX11_makes_40 rfl hl (Nat.le_of_ble_eq_true rfl) rfl (fun ls hl => ?_)
        refine lv_iconst (v := (0 : Int32)) hx hb dX11_makes_41 (by decide) ?_
        refine lv_istore (lv' := [(4, .int (0 : Int32)), (3, .int (c_waits_14 ((c_waitMany_14 - (1 : Int32))).toNatClampNeg)), (0, .ref b), (2, .int v2_14)]) hx hb dX11_makes_42 hl (Nat.le_of_ble_eq_true rfl) rfl (fun ls hl => ?_)
        refine lv_iload_n hx hb dX11_makes_44 rfl (lv_at hl 1 rfl) ?_
        have hJ213 : ∀ (v2_213 v4_213 c_waitMany_213 : Int32) (c_waits_213 c_now_213 c_made_213 : Nat → Int32) (H : Heap) (locs : List Loc) (ls : Array Slot), va_P D vwCl (wdX11_makes cy b b_now b_imaged b_valueUp b_valueDown b_real b_brief b_order b_waits b_floats b_same b_upOf b_downOf b_tape b_open b_made b_paper b_reachUp b_reachDown b_reachHow b_reachFirst b_reachSecond b_begins b_carried c_hasImage c_above c_below c_orderMany c_waitMany_213 c_seed c_size c_openMany c_paperMany c_reachMany c_waits_213 c_reachHow c_reachSecond c_reachFirst c_now_213 c_made_213) H → va_D A (wdX11_makes cy b b_now b_imaged b_valueUp b_valueDown b_real b_brief b_order b_waits b_floats b_same b_upOf b_downOf b_tape b_open b_made b_paper b_reachUp b_reachDown b_reachHow b_reachFirst b_reachSecond b_begins b_carried c_hasImage c_above c_below c_orderMany c_waitMany_213 c_seed c_size c_openMany c_paperMany c_reachMany c_waits_213 c_reachHow c_reachSecond c_reachFirst c_now_213 c_made_213) → va_S A s.heap H locs → lv_has ls 5 [(0, .ref b), (2, .int v2_213), (4, .int v4_213)] → fX11_makes_J213 (fX11_makes_L14 fX11_makes_J224 c_reachHow c_reachSecond c_reachFirst n14) v2_213 v4_213 c_waitMany_213 c_waits_213 c_now_213 c_made_213 = some res → W p l e rmX11_makes s m args below meth c H locs 0 0 Q (F0 m 213 ls []) := by
          intro v2_213 v4_213 c_waitMany_213 c_waits_213 c_now_213 c_made_213 H locs ls hP hD hS hl h
          refine lv_iload hx hb dX11_makes_213 (lv_at hl 2 rfl) ?_
          refine lv_if_ge (tgt := 221) hx hb dX11_makes_215 (by decide) (fun hc215 => ?_) (fun hc215 => ?_)
          · replace h := zi_t hc215 h
            refine lv_goto (tgt := 14) hx hb dX11_makes_221 (by decide) ?_
            exact ih14 v2_213 c_waitMany_213 c_waits_213 c_now_213 c_made_213 _ _ _ hP hD hS (lv_sub hl [0, 1] rfl) h
          · replace h := zi_f hc215 h
            refine lv_bipush (v := (-3 : Int32)) hx hb dX11_makes_218 (by decide) ?_
            exact hret (o := ((-3 : Int32), c_waitMany_213, c_waits_213, c_now_213, c_made_213)) h hP hD hS dX11_makes_220
        have hJ116 : ∀  (H : Heap) (locs : List Loc) (ls : Array Slot), va_P D vwCl (wdX11_makes cy b b_now b_imaged b_valueUp b_valueDown b_real b_brief b_order b_waits b_floats b_same b_upOf b_downOf b_tape b_open b_made b_paper b_reachUp b_reachDown b_reachHow b_reachFirst b_reachSecond b_begins b_carried c_hasImage c_above c_below c_orderMany (c_waitMany_14 - (1 : Int32)) c_seed c_size c_openMany c_paperMany c_reachMany c_waits_14 c_reachHow c_reachSecond c_reachFirst c_now_14 c_made_14) H → va_D A (wdX11_makes cy b b_now b_imaged b_valueUp b_valueDown b_real b_brief b_order b_waits b_floats b_same b_upOf b_downOf b_tape b_open b_made b_paper b_reachUp b_reachDown b_reachHow b_reachFirst b_reachSecond b_begins b_carried c_hasImage c_above c_below c_orderMany (c_waitMany_14 - (1 : Int32)) c_seed c_size c_openMany c_paperMany c_reachMany c_waits_14 c_reachHow c_reachSecond c_reachFirst c_now_14 c_made_14) → va_S A s.heap H locs → lv_has ls 5 [(0, .ref b), (2, .int v2_14), (3, .int (c_waits_14 ((c_waitMany_14 - (1 : Int32))).toNatClampNeg))] → fX11_makes_J116 c_reachHow c_reachFirst v2_14 c_waitMany_14 c_waits_14 c_now_14 c_made_14 (fX11_makes_L14 fX11_makes_J224 c_reachHow c_reachSecond c_reachFirst n14) = some res → W p l e rmX11_makes s m args below meth c H locs 0 0 Q (F0 m 116 ls []) := by
          intro  H locs ls hP hD hS hl h
          refine lv_iload_n hx hb dX11_makes_116 rfl (lv_at hl 2 rfl) ?_
          refine lv_if_lt (tgt := 149) hx hb dX11_makes_117 (by decide) (fun hc117 => ?_) (fun hc117 => ?_)
          · replace h := zi_t hc117 h
            refine lv_iinc (v := (v2_14 + (-1 : Int32))) (lv' := [(2, .int (v2_14 + (-1 : Int32))), (0, .ref b), (3, .int (c_waits_14 ((c_waitMany_14 - (1 : Int32))).toNatClampNeg))]) hx hb dX11_makes_149 hl (k := 1) rfl (by rw [show (Int32.ofInt (-1)) = (-1 : Int32) from by decide]) (Nat.le_of_ble_eq_true rfl) rfl (fun ls hl => ?_)
            refine lv_aload_n hx hb dX11_makes_152 rfl (lv_at hl 1 rfl) ?_
            refine lv_aload_n hx hb dX11_makes_153 rfl (lv_at hl 1 rfl) ?_
            refine va_get (D := D) (ci := 11) (v := .ref b_reachHow) (C := RX11) (T := TX11) (N := 33) hx hb hts uX11_makes_X11 hown hK.1 hP 0 rfl rfl 27 (by decide) (hts (.fieldLink RX11 69 "WishedResistorModel" "reachHow" "[I") (List.mem_of_getElem? (i := 3) rfl)) (fun _ h9 => h9) rfl dX11_makes_154 ?_
            refine lv_iconst (v := (-1 : Int32)) hx hb dX11_makes_157 (by decide) ?_
            refine lv_iload_n hx hb dX11_makes_158 rfl (lv_at hl 2 rfl) ?_
            refine lv_isub hx hb dX11_makes_159 ?_
            obtain ⟨hi160, h⟩ := zg_s h
            refine va_iald hx hb hK.1 hP 2 0 rfl rfl hi160 dX11_makes_160 ?_
            refine lv_aload_n hx hb dX11_makes_161 rfl (lv_at hl 1 rfl) ?_
            refine va_get (D := D) (ci := 11) (v := .ref b_made) (C := RX11) (T := TX11) (N := 33) hx hb hts uX11_makes_X11 hown hK.1 hP 0 rfl rfl 22 (by decide) (hts (.fieldLink RX11 57 "WishedResistorModel" "made" "[I") (List.mem_of_getElem? (i := 6) rfl)) (fun _ h9 => h9) rfl dX11_makes_162 ?_
            refine lv_iload_n hx hb dX11_makes_165 rfl (lv_at hl 0 rfl) ?_
            refine lv_iconst (v := (1 : Int32)) hx hb dX11_makes_166 (by decide) ?_
            refine lv_isub hx hb dX11_makes_167 ?_
            obtain ⟨hi168, h⟩ := zg_s h
            refine va_iald hx hb hK.1 hP 6 0 rfl rfl hi168 dX11_makes_168 ?_
            refine lv_aload_n hx hb dX11_makes_169 rfl (lv_at hl 1 rfl) ?_
            refine va_get (D := D) (ci := 11) (v := .ref b_made) (C := RX11) (T := TX11) (N := 33) hx hb hts uX11_makes_X11 hown hK.1 hP 0 rfl rfl 22 (by decide) (hts (.fieldLink RX11 57 "WishedResistorModel" "made" "[I") (List.mem_of_getElem? (i := 6) rfl)) (fun _ h9 => h9) rfl dX11_makes_170 ?_
            refine lv_iload_n hx hb dX11_makes_173 rfl (lv_at hl 0 rfl) ?_
            obtain ⟨hi174, h⟩ := zg_s h
            refine va_iald hx hb hK.1 hP 6 0 rfl rfl hi174 dX11_makes_174 ?_
            refine lv_aload_n hx hb dX11_makes_175 rfl (lv_at hl 1 rfl) ?_
            refine lv_aload_n hx hb dX11_makes_176 rfl (lv_at hl 1 rfl) ?_
            refine va_get (D := D) (ci := 11) (v := .ref b_made) (C := RX11) (T := TX11) (N := 33) hx hb hts uX11_makes_X11 hown hK.1 hP 0 rfl rfl 22 (by decide) (hts (.fieldLink RX11 57 "WishedResistorModel" "made" "[I") (List.mem_of_getElem? (i := 6) rfl)) (fun _ h9 => h9) rfl dX11_makes_177 ?_
            refine lv_iload_n hx hb dX11_makes_180 rfl (lv_at hl 0 rfl) ?_
            refine lv_iconst (v := (1 : Int32)) hx hb dX11_makes_181 (by decide) ?_
            refine lv_isub hx hb dX11_makes_182 ?_
            obtain ⟨hi183, h⟩ := zg_s h
            refine va_iald hx hb hK.1 hP 6 0 rfl rfl hi183 dX11_makes_183 ?_
            obtain ⟨r184, hq184, h⟩ := zb1_s h
            refine zCi (r0 := r184) (w1 := (wdX11_partsOf cy b b_now b_imaged b_valueUp b_valueDown b_real b_brief b_order b_waits b_floats b_same b_upOf b_downOf b_tape b_open b_made b_paper b_reachUp b_reachDown b_reachHow b_reachFirst b_reachSecond b_begins b_carried c_hasImage c_above c_below c_orderMany (c_waitMany_14 - (1 : Int32)) c_seed c_size c_openMany c_paperMany c_reachMany c_now_14)) (ws' := (wdX11_makes cy b b_now b_imaged b_valueUp b_valueDown b_real b_brief b_order b_waits b_floats b_same b_upOf b_downOf b_tape b_open b_made b_paper b_reachUp b_reachDown b_reachHow b_reachFirst b_reachSecond b_begins b_carried c_hasImage c_above c_below c_orderMany (c_waitMany_14 - (1 : Int32)) c_seed c_size c_openMany c_paperMany c_reachMany c_waits_14 c_reachHow c_reachSecond c_reachFirst c_now_14 c_made_14)) (va_runV (As := [.int (c_made_14 (((v2_14 + (-1 : Int32)) - (1 : Int32))).toNatClampNeg)]) (rest := [.int (c_made_14 ((v2_14 + (-1 : Int32))).toNatClampNeg), .int (c_made_14 (((v2_14 + (-1 : Int32)) - (1 : Int32))).toNatClampNeg), .int (c_reachHow (((-1 : Int32) - (c_waits_14 ((c_waitMany_14 - (1 : Int32))).toNatClampNeg))).toNatClampNeg), .ref b]) ⟨hx, hb, hml, hown, hts⟩ (mX11_partsOf l D cy H.size b b_now b_imaged b_valueUp b_valueDown b_real b_brief b_order b_waits b_floats b_same b_upOf b_downOf b_tape b_open b_made b_paper b_reachUp b_reachDown b_reachHow b_reachFirst b_reachSecond b_begins b_carried c_hasImage c_above c_below c_orderMany (c_waitMany_14 - (1 : Int32)) c_seed c_size c_openMany c_paperMany c_reachMany c_now_14 (c_made_14 (((v2_14 + (-1 : Int32)) - (1 : Int32))).toNatClampNeg) (r184) hq184) (cwV 1 hts gX11_makes_X11_partsOf rfl rfl rfl ⟨rfl, cdX11_partsOf⟩ ⟨Nat.le_of_ble_eq_true rfl, Nat.le_of_ble_eq_true rfl⟩) (zPV hK hP hD [0, 5] rfl rfl (q0 := 0) (ci := 11) rfl rfl rfl) rfl rfl hl.1 rfl (lv_room (Nat.le_of_ble_eq_true rfl)) dX11_makes_184 ⟨Nat.zero_le _, Nat.zero_le _⟩) hP hD hS hA [0, 5] [1, 2, 3, 4, 6] [5, 0, 1, 2, 3, 6, 4] rfl rfl rfl rfl (fun H locs hP hD hS => ?_)
            refine lv_aload_n hx hb dX11_makes_187 rfl (lv_at hl 1 rfl) ?_
            refine lv_aload_n hx hb dX11_makes_188 rfl (lv_at hl 1 rfl) ?_
            refine va_get (D := D) (ci := 11) (v := .ref b_made) (C := RX11) (T := TX11) (N := 33) hx hb hts uX11_makes_X11 hown hK.1 hP 0 rfl rfl 22 (by decide) (hts (.fieldLink RX11 57 "WishedResistorModel" "made" "[I") (List.mem_of_getElem? (i := 6) rfl)) (fun _ h9 => h9) rfl dX11_makes_189 ?_
            refine lv_iload_n hx hb dX11_makes_192 rfl (lv_at hl 0 rfl) ?_
            obtain ⟨hi193, h⟩ := zg_s h
            refine va_iald hx hb hK.1 hP 6 0 rfl rfl hi193 dX11_makes_193 ?_
            obtain ⟨r194, hq194, h⟩ := zb1_s h
            refine zCi (r0 := r194) (w1 := (wdX11_partsOf cy b b_now b_imaged b_valueUp b_valueDown b_real b_brief b_order b_waits b_floats b_same b_upOf b_downOf b_tape b_open b_made b_paper b_reachUp b_reachDown b_reachHow b_reachFirst b_reachSecond b_begins b_carried c_hasImage c_above c_below c_orderMany (c_waitMany_14 - (1 : Int32)) c_seed c_size c_openMany c_paperMany c_reachMany c_now_14)) (ws' := (wdX11_makes cy b b_now b_imaged b_valueUp b_valueDown b_real b_brief b_order b_waits b_floats b_same b_upOf b_downOf b_tape b_open b_made b_paper b_reachUp b_reachDown b_reachHow b_reachFirst b_reachSecond b_begins b_carried c_hasImage c_above c_below c_orderMany (c_waitMany_14 - (1 : Int32)) c_seed c_size c_openMany c_paperMany c_reachMany c_waits_14 c_reachHow c_reachSecond c_reachFirst c_now_14 c_made_14)) (va_runV (As := [.int (c_made_14 ((v2_14 + (-1 : Int32))).toNatClampNeg)]) (rest := [.int r184, .int (c_made_14 ((v2_14 + (-1 : Int32))).toNatClampNeg), .int (c_made_14 (((v2_14 + (-1 : Int32)) - (1 : Int32))).toNatClampNeg), .int (c_reachHow (((-1 : Int32) - (c_waits_14 ((c_waitMany_14 - (1 : Int32))).toNatClampNeg))).toNatClampNeg), .ref b]) ⟨hx, hb, hml, hown, hts⟩ (mX11_partsOf l D cy H.size b b_now b_imaged b_valueUp b_valueDown b_real b_brief b_order b_waits b_floats b_same b_upOf b_downOf b_tape b_open b_made b_paper b_reachUp b_reachDown b_reachHow b_reachFirst b_reachSecond b_begins b_carried c_hasImage c_above c_below c_orderMany (c_waitMany_14 - (1 : Int32)) c_seed c_size c_openMany c_paperMany c_reachMany c_now_14 (c_made_14 ((v2_14 + (-1 : Int32))).toNatClampNeg) (r194) hq194) (cwV 1 hts gX11_makes_X11_partsOf rfl rfl rfl ⟨rfl, cdX11_partsOf⟩ ⟨Nat.le_of_ble_eq_true rfl, Nat.le_of_ble_eq_true rfl⟩) (zPV hK hP hD [0, 5] rfl rfl (q0 := 0) (ci := 11) rfl rfl rfl) rfl rfl hl.1 rfl (lv_room (Nat.le_of_ble_eq_true rfl)) dX11_makes_194 ⟨Nat.zero_le _, Nat.zero_le _⟩) hP hD hS hA [0, 5] [1, 2, 3, 4, 6] [5, 0, 1, 2, 3, 6, 4] rfl rfl rfl rfl (fun H locs hP hD hS => ?_)
            refine lv_iadd hx hb dX11_makes_197 ?_
            obtain ⟨r198, c_now_r198, hq198, h⟩ := zb2_s h
            refine zCi (r0 := r198) (w1 := (wdX11_kept cy b b_now b_imaged b_valueUp b_valueDown b_real b_brief b_order b_waits b_floats b_same b_upOf b_downOf b_tape b_open b_made b_paper b_reachUp b_reachDown b_reachHow b_reachFirst b_reachSecond b_begins b_carried c_hasImage c_above c_below c_orderMany (c_waitMany_14 - (1 : Int32)) c_seed c_size c_openMany c_paperMany c_reachMany c_now_r198)) (ws' := (wdX11_makes cy b b_now b_imaged b_valueUp b_valueDown b_real b_brief b_order b_waits b_floats b_same b_upOf b_downOf b_tape b_open b_made b_paper b_reachUp b_reachDown b_reachHow b_reachFirst b_reachSecond b_begins b_carried c_hasImage c_above c_below c_orderMany (c_waitMany_14 - (1 : Int32)) c_seed c_size c_openMany c_paperMany c_reachMany c_waits_14 c_reachHow c_reachSecond c_reachFirst c_now_r198 c_made_14)) (va_runV (As := [.int (c_reachHow (((-1 : Int32) - (c_waits_14 ((c_waitMany_14 - (1 : Int32))).toNatClampNeg))).toNatClampNeg), .int (c_made_14 (((v2_14 + (-1 : Int32)) - (1 : Int32))).toNatClampNeg), .int (c_made_14 ((v2_14 + (-1 : Int32))).toNatClampNeg), .int (r184 + r194)]) (rest := []) ⟨hx, hb, hml, hown, hts⟩ (mX11_kept l D cy H.size b b_now b_imaged b_valueUp b_valueDown b_real b_brief b_order b_waits b_floats b_same b_upOf b_downOf b_tape b_open b_made b_paper b_reachUp b_reachDown b_reachHow b_reachFirst b_reachSecond b_begins b_carried c_hasImage c_above c_below c_orderMany (c_waitMany_14 - (1 : Int32)) c_seed c_size c_openMany c_paperMany c_reachMany c_now_14 (c_reachHow (((-1 : Int32) - (c_waits_14 ((c_waitMany_14 - (1 : Int32))).toNatClampNeg))).toNatClampNeg) (c_made_14 (((v2_14 + (-1 : Int32)) - (1 : Int32))).toNatClampNeg) (c_made_14 ((v2_14 + (-1 : Int32))).toNatClampNeg) (r184 + r194) (r198, c_now_r198) hq198) (cwV 4 hts gX11_makes_X11_kept rfl rfl rfl ⟨rfl, cdX11_kept⟩ ⟨Nat.le_of_ble_eq_true rfl, Nat.le_of_ble_eq_true rfl⟩) (zPV hK hP hD [0, 5] rfl rfl (q0 := 0) (ci := 11) rfl rfl rfl) rfl rfl hl.1 rfl (lv_room (Nat.le_of_ble_eq_true rfl)) dX11_makes_198 ⟨Nat.zero_le _, Nat.zero_le _⟩) hP hD hS hA [0, 5] [1, 2, 3, 4, 6] [5, 0, 1, 2, 3, 6, 4] rfl rfl rfl rfl (fun H locs hP hD hS => ?_)
            refine lv_istore (lv' := [(4, .int r198), (2, .int (v2_14 + (-1 : Int32))), (0, .ref b), (3, .int (c_waits_14 ((c_waitMany_14 - (1 : Int32))).toNatClampNeg))]) hx hb dX11_makes_201 hl (Nat.le_of_ble_eq_true rfl) rfl (fun ls hl => ?_)
            refine lv_aload_n hx hb dX11_makes_203 rfl (lv_at hl 2 rfl) ?_
            refine va_get (D := D) (ci := 11) (v := .ref b_made) (C := RX11) (T := TX11) (N := 33) hx hb hts uX11_makes_X11 hown hK.1 hP 0 rfl rfl 22 (by decide) (hts (.fieldLink RX11 57 "WishedResistorModel" "made" "[I") (List.mem_of_getElem? (i := 6) rfl)) (fun _ h9 => h9) rfl dX11_makes_204 ?_
            refine lv_iload_n hx hb dX11_makes_207 rfl (lv_at hl 1 rfl) ?_
            refine lv_iconst (v := (1 : Int32)) hx hb dX11_makes_208 (by decide) ?_
            refine lv_isub hx hb dX11_makes_209 ?_
            refine lv_iload hx hb dX11_makes_210 (lv_at hl 0 rfl) ?_
            obtain ⟨hi212, h⟩ := zg_s h
            refine va_iast hx hb hK.1 hP hD hS 6 0 rfl rfl hi212 dX11_makes_212 (fun H locs hP hD hS => ?_)
            have hP : va_P D vwCl (wdX11_makes cy b b_now b_imaged b_valueUp b_valueDown b_real b_brief b_order b_waits b_floats b_same b_upOf b_downOf b_tape b_open b_made b_paper b_reachUp b_reachDown b_reachHow b_reachFirst b_reachSecond b_begins b_carried c_hasImage c_above c_below c_orderMany (c_waitMany_14 - (1 : Int32)) c_seed c_size c_openMany c_paperMany c_reachMany c_waits_14 c_reachHow c_reachSecond c_reachFirst c_now_r198 (upd c_made_14 (((v2_14 + (-1 : Int32)) - (1 : Int32))).toNatClampNeg r198)) H := hP
            have hD : va_D A (wdX11_makes cy b b_now b_imaged b_valueUp b_valueDown b_real b_brief b_order b_waits b_floats b_same b_upOf b_downOf b_tape b_open b_made b_paper b_reachUp b_reachDown b_reachHow b_reachFirst b_reachSecond b_begins b_carried c_hasImage c_above c_below c_orderMany (c_waitMany_14 - (1 : Int32)) c_seed c_size c_openMany c_paperMany c_reachMany c_waits_14 c_reachHow c_reachSecond c_reachFirst c_now_r198 (upd c_made_14 (((v2_14 + (-1 : Int32)) - (1 : Int32))).toNatClampNeg r198)) := hD
            exact hJ213 (v2_14 + (-1 : Int32)) r198 (c_waitMany_14 - (1 : Int32)) c_waits_14 c_now_r198 (upd c_made_14 (((v2_14 + (-1 : Int32)) - (1 : Int32))).toNatClampNeg r198) _ _ _ hP hD hS (lv_sub hl [2, 1, 0] rfl) h
          · replace h := zi_f hc117 h
            refine lv_aload_n hx hb dX11_makes_120 rfl (lv_at hl 0 rfl) ?_
            refine lv_iconst (v := (0 : Int32)) hx hb dX11_makes_121 (by decide) ?_
            refine lv_aload_n hx hb dX11_makes_122 rfl (lv_at hl 0 rfl) ?_
            refine va_get (D := D) (ci := 11) (v := .ref b_reachFirst) (C := RX11) (T := TX11) (N := 33) hx hb hts uX11_makes_X11 hown hK.1 hP 0 rfl rfl 28 (by decide) (hts (.fieldLink RX11 72 "WishedResistorModel" "reachFirst" "[I") (List.mem_of_getElem? (i := 5) rfl)) (fun _ h9 => h9) rfl dX11_makes_123 ?_
            refine lv_iload_n hx hb dX11_makes_126 rfl (lv_at hl 2 rfl) ?_
            obtain ⟨hi127, h⟩ := zg_s h
            refine va_iald hx hb hK.1 hP 4 0 rfl rfl hi127 dX11_makes_127 ?_
            refine lv_iconst (v := (0 : Int32)) hx hb dX11_makes_128 (by decide) ?_
            refine lv_iconst (v := (1 : Int32)) hx hb dX11_makes_129 (by decide) ?_
            obtain ⟨r130, c_now_r130, hq130, h⟩ := zb2_s h
            refine zCi (r0 := r130) (w1 := (wdX11_kept cy b b_now b_imaged b_valueUp b_valueDown b_real b_brief b_order b_waits b_floats b_same b_upOf b_downOf b_tape b_open b_made b_paper b_reachUp b_reachDown b_reachHow b_reachFirst b_reachSecond b_begins b_carried c_hasImage c_above c_below c_orderMany (c_waitMany_14 - (1 : Int32)) c_seed c_size c_openMany c_paperMany c_reachMany c_now_r130)) (ws' := (wdX11_makes cy b b_now b_imaged b_valueUp b_valueDown b_real b_brief b_order b_waits b_floats b_same b_upOf b_downOf b_tape b_open b_made b_paper b_reachUp b_reachDown b_reachHow b_reachFirst b_reachSecond b_begins b_carried c_hasImage c_above c_below c_orderMany (c_waitMany_14 - (1 : Int32)) c_seed c_size c_openMany c_paperMany c_reachMany c_waits_14 c_reachHow c_reachSecond c_reachFirst c_now_r130 c_made_14)) (va_runV (As := [.int (0 : Int32), .int (c_reachFirst ((c_waits_14 ((c_waitMany_14 - (1 : Int32))).toNatClampNeg)).toNatClampNeg), .int (0 : Int32), .int (1 : Int32)]) (rest := []) ⟨hx, hb, hml, hown, hts⟩ (mX11_kept l D cy H.size b b_now b_imaged b_valueUp b_valueDown b_real b_brief b_order b_waits b_floats b_same b_upOf b_downOf b_tape b_open b_made b_paper b_reachUp b_reachDown b_reachHow b_reachFirst b_reachSecond b_begins b_carried c_hasImage c_above c_below c_orderMany (c_waitMany_14 - (1 : Int32)) c_seed c_size c_openMany c_paperMany c_reachMany c_now_14 (0 : Int32) (c_reachFirst ((c_waits_14 ((c_waitMany_14 - (1 : Int32))).toNatClampNeg)).toNatClampNeg) (0 : Int32) (1 : Int32) (r130, c_now_r130) hq130) (cwV 4 hts gX11_makes_X11_kept rfl rfl rfl ⟨rfl, cdX11_kept⟩ ⟨Nat.le_of_ble_eq_true rfl, Nat.le_of_ble_eq_true rfl⟩) (zPV hK hP hD [0, 5] rfl rfl (q0 := 0) (ci := 11) rfl rfl rfl) rfl rfl hl.1 rfl (lv_room (Nat.le_of_ble_eq_true rfl)) dX11_makes_130 ⟨Nat.zero_le _, Nat.zero_le _⟩) hP hD hS hA [0, 5] [1, 2, 3, 4, 6] [5, 0, 1, 2, 3, 6, 4] rfl rfl rfl rfl (fun H locs hP hD hS => ?_)
            refine lv_istore (lv' := [(4, .int r130), (0, .ref b), (2, .int v2_14), (3, .int (c_waits_14 ((c_waitMany_14 - (1 : Int32))).toNatClampNeg))]) hx hb dX11_makes_133 hl (Nat.le_of_ble_eq_true rfl) rfl (fun ls hl => ?_)
            refine lv_aload_n hx hb dX11_makes_135 rfl (lv_at hl 1 rfl) ?_
            refine va_get (D := D) (ci := 11) (v := .ref b_made) (C := RX11) (T := TX11) (N := 33) hx hb hts uX11_makes_X11 hown hK.1 hP 0 rfl rfl 22 (by decide) (hts (.fieldLink RX11 57 "WishedResistorModel" "made" "[I") (List.mem_of_getElem? (i := 6) rfl)) (fun _ h9 => h9) rfl dX11_makes_136 ?_
            refine lv_iload_n hx hb dX11_makes_139 rfl (lv_at hl 2 rfl) ?_
            refine lv_iload hx hb dX11_makes_140 (lv_at hl 0 rfl) ?_
            obtain ⟨hi142, h⟩ := zg_s h
            refine va_iast hx hb hK.1 hP hD hS 6 0 rfl rfl hi142 dX11_makes_142 (fun H locs hP hD hS => ?_)
            have hP : va_P D vwCl (wdX11_makes cy b b_now b_imaged b_valueUp b_valueDown b_real b_brief b_order b_waits b_floats b_same b_upOf b_downOf b_tape b_open b_made b_paper b_reachUp b_reachDown b_reachHow b_reachFirst b_reachSecond b_begins b_carried c_hasImage c_above c_below c_orderMany (c_waitMany_14 - (1 : Int32)) c_seed c_size c_openMany c_paperMany c_reachMany c_waits_14 c_reachHow c_reachSecond c_reachFirst c_now_r130 (upd c_made_14 (v2_14).toNatClampNeg r130)) H := hP
            have hD : va_D A (wdX11_makes cy b b_now b_imaged b_valueUp b_valueDown b_real b_brief b_order b_waits b_floats b_same b_upOf b_downOf b_tape b_open b_made b_paper b_reachUp b_reachDown b_reachHow b_reachFirst b_reachSecond b_begins b_carried c_hasImage c_above c_below c_orderMany (c_waitMany_14 - (1 : Int32)) c_seed c_size c_openMany c_paperMany c_reachMany c_waits_14 c_reachHow c_reachSecond c_reachFirst c_now_r130 (upd c_made_14 (v2_14).toNatClampNeg r130)) := hD
            refine lv_iinc (v := (v2_14 + (1 : Int32))) (lv' := [(2, .int (v2_14 + (1 : Int32))), (4, .int r130), (0, .ref b), (3, .int (c_waits_14 ((c_waitMany_14 - (1 : Int32))).toNatClampNeg))]) hx hb dX11_makes_143 hl (k := 2) rfl (by rfl) (Nat.le_of_ble_eq_true rfl) rfl (fun ls hl => ?_)
            refine lv_goto (tgt := 213) hx hb dX11_makes_146 (by decide) ?_
            exact hJ213 (v2_14 + (1 : Int32)) r130 (c_waitMany_14 - (1 : Int32)) c_waits_14 c_now_r130 (upd c_made_14 (v2_14).toNatClampNeg r130) _ _ _ hP hD hS (lv_sub hl [2, 0, 1] rfl) h
        refine lv_if_lt (tgt := 116) hx hb dX11_makes_45 (by decide) (fun hc45 => ?_) (fun hc45 => ?_)
        · replace h := zi_t hc45 h
          exact hJ116 _ _ _ hP hD hS (lv_sub hl [2, 3, 1] rfl) h
        · replace h := zi_f hc45 h
          refine lv_aload_n hx hb dX11_makes_48 rfl (lv_at hl 2 rfl) ?_
          refine va_get (D := D) (ci := 11) (v := .ref b_reachHow) (C := RX11) (T := TX11) (N := 33) hx hb hts uX11_makes_X11 hown hK.1 hP 0 rfl rfl 27 (by decide) (hts (.fieldLink RX11 69 "WishedResistorModel" "reachHow" "[I") (List.mem_of_getElem? (i := 3) rfl)) (fun _ h9 => h9) rfl dX11_makes_49 ?_
          refine lv_iload_n hx hb dX11_makes_52 rfl (lv_at hl 1 rfl) ?_
          obtain ⟨hi53, h⟩ := zg_s h
          refine va_iald hx hb hK.1 hP 2 0 rfl rfl hi53 dX11_makes_53 ?_
          refine lv_if_le (tgt := 116) hx hb dX11_makes_54 (by decide) (fun hc54 => ?_) (fun hc54 => ?_)
          · replace h := zi_t hc54 h
            exact hJ116 _ _ _ hP hD hS (lv_sub hl [2, 3, 1] rfl) h
          · replace h := zi_f hc54 h
            refine lv_aload_n hx hb dX11_makes_57 rfl (lv_at hl 2 rfl) ?_
            refine va_get (D := D) (ci := 11) (v := .ref b_waits) (C := RX11) (T := TX11) (N := 33) hx hb hts uX11_makes_X11 hown hK.1 hP 0 rfl rfl 11 (by decide) (hts (.fieldLink RX11 36 "WishedResistorModel" "waits" "[I") (List.mem_of_getElem? (i := 2) rfl)) (fun _ h9 => h9) rfl dX11_makes_58 ?_
            refine lv_aload_n hx hb dX11_makes_61 rfl (lv_at hl 2 rfl) ?_
            refine va_get (D := D) (ci := 11) (v := .int (c_waitMany_14 - (1 : Int32))) (C := RX11) (T := TX11) (N := 33) hx hb hts uX11_makes_X11 hown hK.1 hP 0 rfl rfl 12 (by decide) (hts (.fieldLink RX11 186 "WishedResistorModel" "waitMany" "I") (List.mem_of_getElem? (i := 1) rfl)) (fun _ h9 => h9) rfl dX11_makes_62 ?_
            refine lv_iconst (v := (-1 : Int32)) hx hb dX11_makes_65 (by decide) ?_
            refine lv_iload_n hx hb dX11_makes_66 rfl (lv_at hl 1 rfl) ?_
            refine lv_isub hx hb dX11_makes_67 ?_
            obtain ⟨hi68, h⟩ := zg_s h
            refine va_iast hx hb hK.1 hP hD hS 1 0 rfl rfl hi68 dX11_makes_68 (fun H locs hP hD hS => ?_)
            have hP : va_P D vwCl (wdX11_makes cy b b_now b_imaged b_valueUp b_valueDown b_real b_brief b_order b_waits b_floats b_same b_upOf b_downOf b_tape b_open b_made b_paper b_reachUp b_reachDown b_reachHow b_reachFirst b_reachSecond b_begins b_carried c_hasImage c_above c_below c_orderMany (c_waitMany_14 - (1 : Int32)) c_seed c_size c_openMany c_paperMany c_reachMany (upd c_waits_14 ((c_waitMany_14 - (1 : Int32))).toNatClampNeg ((-1 : Int32) - (c_waits_14 ((c_waitMany_14 - (1 : Int32))).toNatClampNeg))) c_reachHow c_reachSecond c_reachFirst c_now_14 c_made_14) H := hP
            have hD : va_D A (wdX11_makes cy b b_now b_imaged b_valueUp b_valueDown b_real b_brief b_order b_waits b_floats b_same b_upOf b_downOf b_tape b_open b_made b_paper b_reachUp b_reachDown b_reachHow b_reachFirst b_reachSecond b_begins b_carried c_hasImage c_above c_below c_orderMany (c_waitMany_14 - (1 : Int32)) c_seed c_size c_openMany c_paperMany c_reachMany (upd c_waits_14 ((c_waitMany_14 - (1 : Int32))).toNatClampNeg ((-1 : Int32) - (c_waits_14 ((c_waitMany_14 - (1 : Int32))).toNatClampNeg))) c_reachHow c_reachSecond c_reachFirst c_now_14 c_made_14) := hD
            refine lv_aload_n hx hb dX11_makes_69 rfl (lv_at hl 2 rfl) ?_
            refine va_get (D := D) (ci := 11) (v := .ref b_waits) (C := RX11) (T := TX11) (N := 33) hx hb hts uX11_makes_X11 hown hK.1 hP 0 rfl rfl 11 (by decide) (hts (.fieldLink RX11 36 "WishedResistorModel" "waits" "[I") (List.mem_of_getElem? (i := 2) rfl)) (fun _ h9 => h9) rfl dX11_makes_70 ?_
            refine lv_aload_n hx hb dX11_makes_73 rfl (lv_at hl 2 rfl) ?_
            refine va_get (D := D) (ci := 11) (v := .int (c_waitMany_14 - (1 : Int32))) (C := RX11) (T := TX11) (N := 33) hx hb hts uX11_makes_X11 hown hK.1 hP 0 rfl rfl 12 (by decide) (hts (.fieldLink RX11 186 "WishedResistorModel" "waitMany" "I") (List.mem_of_getElem? (i := 1) rfl)) (fun _ h9 => h9) rfl dX11_makes_74 ?_
            refine lv_iconst (v := (1 : Int32)) hx hb dX11_makes_77 (by decide) ?_
            refine lv_iadd hx hb dX11_makes_78 ?_
            refine lv_aload_n hx hb dX11_makes_79 rfl (lv_at hl 2 rfl) ?_
            refine va_get (D := D) (ci := 11) (v := .ref b_reachSecond) (C := RX11) (T := TX11) (N := 33) hx hb hts uX11_makes_X11 hown hK.1 hP 0 rfl rfl 29 (by decide) (hts (.fieldLink RX11 75 "WishedResistorModel" "reachSecond" "[I") (List.mem_of_getElem? (i := 4) rfl)) (fun _ h9 => h9) rfl dX11_makes_80 ?_
            refine lv_iload_n hx hb dX11_makes_83 rfl (lv_at hl 1 rfl) ?_
            obtain ⟨hi84, h⟩ := zg_s h
            refine va_iald hx hb hK.1 hP 3 0 rfl rfl hi84 dX11_makes_84 ?_
            obtain ⟨hi85, h⟩ := zg_s h
            refine va_iast hx hb hK.1 hP hD hS 1 0 rfl rfl hi85 dX11_makes_85 (fun H locs hP hD hS => ?_)
            have hP : va_P D vwCl (wdX11_makes cy b b_now b_imaged b_valueUp b_valueDown b_real b_brief b_order b_waits b_floats b_same b_upOf b_downOf b_tape b_open b_made b_paper b_reachUp b_reachDown b_reachHow b_reachFirst b_reachSecond b_begins b_carried c_hasImage c_above c_below c_orderMany (c_waitMany_14 - (1 : Int32)) c_seed c_size c_openMany c_paperMany c_reachMany (upd (upd c_waits_14 ((c_waitMany_14 - (1 : Int32))).toNatClampNeg ((-1 : Int32) - (c_waits_14 ((c_waitMany_14 - (1 : Int32))).toNatClampNeg))) (((c_waitMany_14 - (1 : Int32)) + (1 : Int32))).toNatClampNeg (c_reachSecond ((c_waits_14 ((c_waitMany_14 - (1 : Int32))).toNatClampNeg)).toNatClampNeg)) c_reachHow c_reachSecond c_reachFirst c_now_14 c_made_14) H := hP
            have hD : va_D A (wdX11_makes cy b b_now b_imaged b_valueUp b_valueDown b_real b_brief b_order b_waits b_floats b_same b_upOf b_downOf b_tape b_open b_made b_paper b_reachUp b_reachDown b_reachHow b_reachFirst b_reachSecond b_begins b_carried c_hasImage c_above c_below c_orderMany (c_waitMany_14 - (1 : Int32)) c_seed c_size c_openMany c_paperMany c_reachMany (upd (upd c_waits_14 ((c_waitMany_14 - (1 : Int32))).toNatClampNeg ((-1 : Int32) - (c_waits_14 ((c_waitMany_14 - (1 : Int32))).toNatClampNeg))) (((c_waitMany_14 - (1 : Int32)) + (1 : Int32))).toNatClampNeg (c_reachSecond ((c_waits_14 ((c_waitMany_14 - (1 : Int32))).toNatClampNeg)).toNatClampNeg)) c_reachHow c_reachSecond c_reachFirst c_now_14 c_made_14) := hD
            refine lv_aload_n hx hb dX11_makes_86 rfl (lv_at hl 2 rfl) ?_
            refine va_get (D := D) (ci := 11) (v := .ref b_waits) (C := RX11) (T := TX11) (N := 33) hx hb hts uX11_makes_X11 hown hK.1 hP 0 rfl rfl 11 (by decide) (hts (.fieldLink RX11 36 "WishedResistorModel" "waits" "[I") (List.mem_of_getElem? (i := 2) rfl)) (fun _ h9 => h9) rfl dX11_makes_87 ?_
            refine lv_aload_n hx hb dX11_makes_90 rfl (lv_at hl 2 rfl) ?_
            refine va_get (D := D) (ci := 11) (v := .int (c_waitMany_14 - (1 : Int32))) (C := RX11) (T := TX11) (N := 33) hx hb hts uX11_makes_X11 hown hK.1 hP 0 rfl rfl 12 (by decide) (hts (.fieldLink RX11 186 "WishedResistorModel" "waitMany" "I") (List.mem_of_getElem? (i := 1) rfl)) (fun _ h9 => h9) rfl dX11_makes_91 ?_
            refine lv_iconst (v := (2 : Int32)) hx hb dX11_makes_94 (by decide) ?_
            refine lv_iadd hx hb dX11_makes_95 ?_
            refine lv_aload_n hx hb dX11_makes_96 rfl (lv_at hl 2 rfl) ?_
            refine va_get (D := D) (ci := 11) (v := .ref b_reachFirst) (C := RX11) (T := TX11) (N := 33) hx hb hts uX11_makes_X11 hown hK.1 hP 0 rfl rfl 28 (by decide) (hts (.fieldLink RX11 72 "WishedResistorModel" "reachFirst" "[I") (List.mem_of_getElem? (i := 5) rfl)) (fun _ h9 => h9) rfl dX11_makes_97 ?_
            refine lv_iload_n hx hb dX11_makes_100 rfl (lv_at hl 1 rfl) ?_
            obtain ⟨hi101, h⟩ := zg_s h
            refine va_iald hx hb hK.1 hP 4 0 rfl rfl hi101 dX11_makes_101 ?_
            obtain ⟨hi102, h⟩ := zg_s h
            refine va_iast hx hb hK.1 hP hD hS 1 0 rfl rfl hi102 dX11_makes_102 (fun H locs hP hD hS => ?_)
            have hP : va_P D vwCl (wdX11_makes cy b b_now b_imaged b_valueUp b_valueDown b_real b_brief b_order b_waits b_floats b_same b_upOf b_downOf b_tape b_open b_made b_paper b_reachUp b_reachDown b_reachHow b_reachFirst b_reachSecond b_begins b_carried c_hasImage c_above c_below c_orderMany (c_waitMany_14 - (1 : Int32)) c_seed c_size c_openMany c_paperMany c_reachMany (upd (upd (upd c_waits_14 ((c_waitMany_14 - (1 : Int32))).toNatClampNeg ((-1 : Int32) - (c_waits_14 ((c_waitMany_14 - (1 : Int32))).toNatClampNeg))) (((c_waitMany_14 - (1 : Int32)) + (1 : Int32))).toNatClampNeg (c_reachSecond ((c_waits_14 ((c_waitMany_14 - (1 : Int32))).toNatClampNeg)).toNatClampNeg)) (((c_waitMany_14 - (1 : Int32)) + (2 : Int32))).toNatClampNeg (c_reachFirst ((c_waits_14 ((c_waitMany_14 - (1 : Int32))).toNatClampNeg)).toNatClampNeg)) c_reachHow c_reachSecond c_reachFirst c_now_14 c_made_14) H := hP
            have hD : va_D A (wdX11_makes cy b b_now b_imaged b_valueUp b_valueDown b_real b_brief b_order b_waits b_floats b_same b_upOf b_downOf b_tape b_open b_made b_paper b_reachUp b_reachDown b_reachHow b_reachFirst b_reachSecond b_begins b_carried c_hasImage c_above c_below c_orderMany (c_waitMany_14 - (1 : Int32)) c_seed c_size c_openMany c_paperMany c_reachMany (upd (upd (upd c_waits_14 ((c_waitMany_14 - (1 : Int32))).toNatClampNeg ((-1 : Int32) - (c_waits_14 ((c_waitMany_14 - (1 : Int32))).toNatClampNeg))) (((c_waitMany_14 - (1 : Int32)) + (1 : Int32))).toNatClampNeg (c_reachSecond ((c_waits_14 ((c_waitMany_14 - (1 : Int32))).toNatClampNeg)).toNatClampNeg)) (((c_waitMany_14 - (1 : Int32)) + (2 : Int32))).toNatClampNeg (c_reachFirst ((c_waits_14 ((c_waitMany_14 - (1 : Int32))).toNatClampNeg)).toNatClampNeg)) c_reachHow c_reachSecond c_reachFirst c_now_14 c_made_14) := hD
            refine lv_aload_n hx hb dX11_makes_103 rfl (lv_at hl 2 rfl) ?_
            refine lv_dup hx hb dX11_makes_104 rfl ?_
            refine va_get (D := D) (ci := 11) (v := .int (c_waitMany_14 - (1 : Int32))) (C := RX11) (T := TX11) (N := 33) hx hb hts uX11_makes_X11 hown hK.1 hP 0 rfl rfl 12 (by decide) (hts (.fieldLink RX11 186 "WishedResistorModel" "waitMany" "I") (List.mem_of_getElem? (i := 1) rfl)) (fun _ h9 => h9) rfl dX11_makes_105 ?_
            refine lv_iconst (v := (3 : Int32)) hx hb dX11_makes_108 (by decide) ?_
            refine lv_iadd hx hb dX11_makes_109 ?_
            refine va_put (D := D) (ci := 11) (v := .int ((c_waitMany_14 - (1 : Int32)) + (3 : Int32))) (ty := .int) (C := RX11) (T := TX11) (N := 33) hx hb hts uX11_makes_X11 tyX11 tyX11_ok nmX11 hown hK.1 hP hD hS 0 rfl rfl 12 (by decide) (hts (.fieldLink RX11 186 "WishedResistorModel" "waitMany" "I") (List.mem_of_getElem? (i := 1) rfl)) (fun _ h9 => h9) rfl (by decide +kernel) rfl rfl (Nat.le_of_ble_eq_true rfl) dX11_makes_110 (fun H locs hP hD hS => ?_)
            have hP : va_P D vwCl (wdX11_makes cy b b_now b_imaged b_valueUp b_valueDown b_real b_brief b_order b_waits b_floats b_same b_upOf b_downOf b_tape b_open b_made b_paper b_reachUp b_reachDown b_reachHow b_reachFirst b_reachSecond b_begins b_carried c_hasImage c_above c_below c_orderMany ((c_waitMany_14 - (1 : Int32)) + (3 : Int32)) c_seed c_size c_openMany c_paperMany c_reachMany (upd (upd (upd c_waits_14 ((c_waitMany_14 - (1 : Int32))).toNatClampNeg ((-1 : Int32) - (c_waits_14 ((c_waitMany_14 - (1 : Int32))).toNatClampNeg))) (((c_waitMany_14 - (1 : Int32)) + (1 : Int32))).toNatClampNeg (c_reachSecond ((c_waits_14 ((c_waitMany_14 - (1 : Int32))).toNatClampNeg)).toNatClampNeg)) (((c_waitMany_14 - (1 : Int32)) + (2 : Int32))).toNatClampNeg (c_reachFirst ((c_waits_14 ((c_waitMany_14 - (1 : Int32))).toNatClampNeg)).toNatClampNeg)) c_reachHow c_reachSecond c_reachFirst c_now_14 c_made_14) H := hP
            have hD : va_D A (wdX11_makes cy b b_now b_imaged b_valueUp b_valueDown b_real b_brief b_order b_waits b_floats b_same b_upOf b_downOf b_tape b_open b_made b_paper b_reachUp b_reachDown b_reachHow b_reachFirst b_reachSecond b_begins b_carried c_hasImage c_above c_below c_orderMany ((c_waitMany_14 - (1 : Int32)) + (3 : Int32)) c_seed c_size c_openMany c_paperMany c_reachMany (upd (upd (upd c_waits_14 ((c_waitMany_14 - (1 : Int32))).toNatClampNeg ((-1 : Int32) - (c_waits_14 ((c_waitMany_14 - (1 : Int32))).toNatClampNeg))) (((c_waitMany_14 - (1 : Int32)) + (1 : Int32))).toNatClampNeg (c_reachSecond ((c_waits_14 ((c_waitMany_14 - (1 : Int32))).toNatClampNeg)).toNatClampNeg)) (((c_waitMany_14 - (1 : Int32)) + (2 : Int32))).toNatClampNeg (c_reachFirst ((c_waits_14 ((c_waitMany_14 - (1 : Int32))).toNatClampNeg)).toNatClampNeg)) c_reachHow c_reachSecond c_reachFirst c_now_14 c_made_14) := hD
            refine lv_goto (tgt := 213) hx hb dX11_makes_113 (by decide) ?_
            exact hJ213 v2_14 (0 : Int32) ((c_waitMany_14 - (1 : Int32)) + (3 : Int32)) (upd (upd (upd c_waits_14 ((c_waitMany_14 - (1 : Int32))).toNatClampNeg ((-1 : Int32) - (c_waits_14 ((c_waitMany_14 - (1 : Int32))).toNatClampNeg))) (((c_waitMany_14 - (1 : Int32)) + (1 : Int32))).toNatClampNeg (c_reachSecond ((c_waits_14 ((c_waitMany_14 - (1 : Int32))).toNatClampNeg)).toNatClampNeg)) (((c_waitMany_14 - (1 : Int32)) + (2 : Int32))).toNatClampNeg (c_reachFirst ((c_waits_14 ((c_waitMany_14 - (1 : Int32))).toNatClampNeg)).toNatClampNeg)) c_now_14 c_made_14 _ _ _ hP hD hS (lv_sub hl [2, 3, 0] rfl) h
  exact hL14 5000 (0 : Int32) (1 : Int32) (upd c_waits ((0 : Int32)).toNatClampNeg p1) c_now c_made _ _ _ hP hD hS (lv_sub hl [1, 0] rfl) h

abbrev wdX11_make (cy : Nat → ClassId) (b b_now b_imaged b_valueUp b_valueDown b_real b_brief b_order b_waits b_floats b_same b_upOf b_downOf b_tape b_open b_made b_paper b_reachUp b_reachDown b_reachHow b_reachFirst b_reachSecond b_begins b_carried : Nat) (c_hasImage : Int32) (c_above c_below : Int64) (c_orderMany c_waitMany c_seed c_size c_openMany c_paperMany c_reachMany : Int32) (c_begins c_now : Nat → Int32) (c_reachUp c_reachDown : Nat → Int64) (c_reachHow c_reachFirst c_reachSecond c_waits c_made : Nat → Int32) : va_W := [(b, .inr (11, [.ref b_now, .ref b_imaged, .int c_hasImage, .long c_above, .long c_below, .ref b_valueUp, .ref b_valueDown, .ref b_real, .ref b_brief, .ref b_order, .int c_orderMany, .ref b_waits, .int c_waitMany, .ref b_floats, .int c_seed, .ref b_same, .ref b_upOf, .ref b_downOf, .ref b_tape, .int c_size, .ref b_open, .int c_openMany, .ref b_made, .ref b_paper, .int c_paperMany, .ref b_reachUp, .ref b_reachDown, .ref b_reachHow, .ref b_reachFirst, .ref b_reachSecond, .ref b_begins, .int c_reachMany, .ref b_carried])), (b_begins, .inl (cy 0, 6, .inl c_begins)), (b_now, .inl (cy 0, 261, .inl c_now)), (b_reachUp, .inl (cy 1, 2000, .inr (.inl c_reachUp))), (b_reachDown, .inl (cy 1, 2000, .inr (.inl c_reachDown))), (b_reachHow, .inl (cy 0, 2000, .inl c_reachHow)), (b_reachFirst, .inl (cy 0, 2000, .inl c_reachFirst)), (b_reachSecond, .inl (cy 0, 2000, .inl c_reachSecond)), (b_waits, .inl (cy 0, 40, .inl c_waits)), (b_made, .inl (cy 0, 24, .inl c_made))]
abbrev rmX11_make : Room := { frames := 6, cells := 0, slots := 0, locals := 154 }
theorem cdX11_make : (yX11_make).cls ≠ "java/lang/invoke/MethodHandle" ∧ (yX11_make).cls ≠ "java/lang/invoke/VarHandle" ∧ (parseMethodDescriptor (yX11_make).desc).map (fun d => d.parameters.length) = some 2 := by decide +kernel
def fX11_make (p1 p2 : Int32) (c_above c_below : Int64) (c_waitMany c_reachMany : Int32) (c_begins c_now : Nat → Int32) (c_reachUp c_reachDown : Nat → Int64) (c_reachHow c_reachFirst c_reachSecond c_waits c_made : Nat → Int32) : Option (Int32 × Int64 × Int64 × Int32 × Int32 × (Nat → Int32) × (Nat → Int32) × (Nat → Int64) × (Nat → Int64) × (Nat → Int32) × (Nat → Int32) × (Nat → Int32) × (Nat → Int32) × (Nat → Int32)) :=
  zb1 (fX11_isWish p1 p2) (fun r2 => if r2 = 0 then (some ((-1 : Int32), c_above, c_below, c_waitMany, c_reachMany, c_begins, c_now, c_reachUp, c_reachDown, c_reachHow, c_reachFirst, c_reachSecond, c_waits, c_made)) else (zb10 (fX11_wished p1 p2 c_above c_below c_reachMany c_begins c_now c_reachUp c_reachDown c_reachHow c_reachFirst c_reachSecond) (fun r13 c_above_r13 c_below_r13 c_reachMany_r13 c_begins_r13 c_reachUp_r13 c_reachDown_r13 c_reachHow_r13 c_reachFirst_r13 c_reachSecond_r13 => if 0 ≤ r13 then (zb5 (fX11_makes r13 c_waitMany c_waits c_reachHow_r13 c_reachSecond_r13 c_reachFirst_r13 c_now c_made) (fun r28 c_waitMany_r28 c_waits_r28 c_now_r28 c_made_r28 => some (r28, c_above_r13, c_below_r13, c_waitMany_r28, c_reachMany_r13, c_begins_r13, c_now_r28, c_reachUp_r13, c_reachDown_r13, c_reachHow_r13, c_reachFirst_r13, c_reachSecond_r13, c_waits_r28, c_made_r28))) else (some ((-2 : Int32), c_above_r13, c_below_r13, c_waitMany, c_reachMany_r13, c_begins_r13, c_now, c_reachUp_r13, c_reachDown_r13, c_reachHow_r13, c_reachFirst_r13, c_reachSecond_r13, c_waits, c_made)))))
set_option maxHeartbeats 4000000 in
set_option maxRecDepth 100000 in
theorem mX11_make (l : Launch) (D : va_G) (cy : Nat → ClassId) (sz : Nat) (b b_now b_imaged b_valueUp b_valueDown b_real b_brief b_order b_waits b_floats b_same b_upOf b_downOf b_tape b_open b_made b_paper b_reachUp b_reachDown b_reachHow b_reachFirst b_reachSecond b_begins b_carried : Nat) (c_hasImage : Int32) (c_above c_below : Int64) (c_orderMany c_waitMany c_seed c_size c_openMany c_paperMany c_reachMany : Int32) (c_begins c_now : Nat → Int32) (c_reachUp c_reachDown : Nat → Int64) (c_reachHow c_reachFirst c_reachSecond c_waits c_made : Nat → Int32) (p1 p2 : Int32) (res : (Int32 × Int64 × Int64 × Int32 × Int32 × (Nat → Int32) × (Nat → Int32) × (Nat → Int64) × (Nat → Int64) × (Nat → Int32) × (Nat → Int32) × (Nat → Int32) × (Nat → Int32) × (Nat → Int32))) (h : fX11_make p1 p2 c_above c_below c_waitMany c_reachMany c_begins c_now c_reachUp c_reachDown c_reachHow c_reachFirst c_reachSecond c_waits c_made = some res) : zMi l yX11_make wsX11_make rmX11_make [.ref b, .int p1, .int p2] D cy (wdX11_make cy b b_now b_imaged b_valueUp b_valueDown b_real b_brief b_order b_waits b_floats b_same b_upOf b_downOf b_tape b_open b_made b_paper b_reachUp b_reachDown b_reachHow b_reachFirst b_reachSecond b_begins b_carried c_hasImage c_above c_below c_orderMany c_waitMany c_seed c_size c_openMany c_paperMany c_reachMany c_begins c_now c_reachUp c_reachDown c_reachHow c_reachFirst c_reachSecond c_waits c_made) sz ((fun (o : (Int32 × Int64 × Int64 × Int32 × Int32 × (Nat → Int32) × (Nat → Int32) × (Nat → Int64) × (Nat → Int64) × (Nat → Int32) × (Nat → Int32) × (Nat → Int32) × (Nat → Int32) × (Nat → Int32))) => o.1) res) ((fun (o : (Int32 × Int64 × Int64 × Int32 × Int32 × (Nat → Int32) × (Nat → Int32) × (Nat → Int64) × (Nat → Int64) × (Nat → Int32) × (Nat → Int32) × (Nat → Int32) × (Nat → Int32) × (Nat → Int32))) => (wdX11_make cy b b_now b_imaged b_valueUp b_valueDown b_real b_brief b_order b_waits b_floats b_same b_upOf b_downOf b_tape b_open b_made b_paper b_reachUp b_reachDown b_reachHow b_reachFirst b_reachSecond b_begins b_carried c_hasImage (o.2.1) (o.2.2.1) c_orderMany (o.2.2.2.1) c_seed c_size c_openMany c_paperMany (o.2.2.2.2.1) (o.2.2.2.2.2.1) (o.2.2.2.2.2.2.1) (o.2.2.2.2.2.2.2.1) (o.2.2.2.2.2.2.2.2.1) (o.2.2.2.2.2.2.2.2.2.1) (o.2.2.2.2.2.2.2.2.2.2.1) (o.2.2.2.2.2.2.2.2.2.2.2.1) (o.2.2.2.2.2.2.2.2.2.2.2.2.1) (o.2.2.2.2.2.2.2.2.2.2.2.2.2))) res) := by
  refine zOfi (res := res) (rf := (fun (o : (Int32 × Int64 × Int64 × Int32 × Int32 × (Nat → Int32) × (Nat → Int32) × (Nat → Int64) × (Nat → Int64) × (Nat → Int32) × (Nat → Int32) × (Nat → Int32) × (Nat → Int32) × (Nat → Int32))) => o.1)) (Wf := (fun (o : (Int32 × Int64 × Int64 × Int32 × Int32 × (Nat → Int32) × (Nat → Int32) × (Nat → Int64) × (Nat → Int64) × (Nat → Int32) × (Nat → Int32) × (Nat → Int32) × (Nat → Int32) × (Nat → Int32))) => (wdX11_make cy b b_now b_imaged b_valueUp b_valueDown b_real b_brief b_order b_waits b_floats b_same b_upOf b_downOf b_tape b_open b_made b_paper b_reachUp b_reachDown b_reachHow b_reachFirst b_reachSecond b_begins b_carried c_hasImage (o.2.1) (o.2.2.1) c_orderMany (o.2.2.2.1) c_seed c_size c_openMany c_paperMany (o.2.2.2.2.1) (o.2.2.2.2.2.1) (o.2.2.2.2.2.2.1) (o.2.2.2.2.2.2.2.1) (o.2.2.2.2.2.2.2.2.1) (o.2.2.2.2.2.2.2.2.2.1) (o.2.2.2.2.2.2.2.2.2.2.1) (o.2.2.2.2.2.2.2.2.2.2.2.1) (o.2.2.2.2.2.2.2.2.2.2.2.2.1) (o.2.2.2.2.2.2.2.2.2.2.2.2.2)))) (by decide +kernel) rfl (Nat.le_of_ble_eq_true rfl) ?_
  intro p e s m args below meth c A ls Q hx hb hml hts hown hP hK hD hA hS hl hret
  have hown : s.vm.findClass RX11 = some m.cls := hown
  have hl : lv_has ls 4 [(0, .ref b), (1, .int p1), (2, .int p2)] := hl
  refine lv_iload_n hx hb dX11_make_0 rfl (lv_at hl 1 rfl) ?_
  refine lv_iload_n hx hb dX11_make_1 rfl (lv_at hl 2 rfl) ?_
  obtain ⟨r2, hq2, h⟩ := zb1_s h
  refine zCz0 (r0 := r2) (va_runS (As := [.int p1, .int p2]) (rest := []) ⟨hx, hb, hml, hown, hts⟩ (mX11_isWish l D cy s.heap.size p1 p2 (r2) hq2) (va_cwS 2 hts gX11_make_X11_isWish rfl rfl rfl cdX11_isWish ⟨Nat.le_of_ble_eq_true rfl, Nat.le_of_ble_eq_true rfl⟩) (zPS hK hP hD [] rfl rfl) rfl rfl hl.1 rfl (lv_room (Nat.le_of_ble_eq_true rfl)) dX11_make_2 ⟨Nat.zero_le _, Nat.zero_le _⟩) hP hD hS hA (fun H locs hn2 hP hD hS => ?_)
  refine lv_if_ne (tgt := 10) hx hb dX11_make_5 (by decide) (fun hc5 => ?_) (fun hc5 => ?_)
  · replace h := zi_f hc5 h
    refine lv_aload_n hx hb dX11_make_10 rfl (lv_at hl 0 rfl) ?_
    refine lv_iload_n hx hb dX11_make_11 rfl (lv_at hl 1 rfl) ?_
    refine lv_iload_n hx hb dX11_make_12 rfl (lv_at hl 2 rfl) ?_
    obtain ⟨r13, c_above_r13, c_below_r13, c_reachMany_r13, c_begins_r13, c_reachUp_r13, c_reachDown_r13, c_reachHow_r13, c_reachFirst_r13, c_reachSecond_r13, hq13, h⟩ := zb10_s h
    refine zCi (r0 := r13) (w1 := (wdX11_wished cy b b_now b_imaged b_valueUp b_valueDown b_real b_brief b_order b_waits b_floats b_same b_upOf b_downOf b_tape b_open b_made b_paper b_reachUp b_reachDown b_reachHow b_reachFirst b_reachSecond b_begins b_carried c_hasImage c_above_r13 c_below_r13 c_orderMany c_waitMany c_seed c_size c_openMany c_paperMany c_reachMany_r13 c_begins_r13 c_now c_reachUp_r13 c_reachDown_r13 c_reachHow_r13 c_reachFirst_r13 c_reachSecond_r13)) (ws' := (wdX11_make cy b b_now b_imaged b_valueUp b_valueDown b_real b_brief b_order b_waits b_floats b_same b_upOf b_downOf b_tape b_open b_made b_paper b_reachUp b_reachDown b_reachHow b_reachFirst b_reachSecond b_begins b_carried c_hasImage c_above_r13 c_below_r13 c_orderMany c_waitMany c_seed c_size c_openMany c_paperMany c_reachMany_r13 c_begins_r13 c_now c_reachUp_r13 c_reachDown_r13 c_reachHow_r13 c_reachFirst_r13 c_reachSecond_r13 c_waits c_made)) (va_runV (As := [.int p1, .int p2]) (rest := []) ⟨hx, hb, hml, hown, hts⟩ (mX11_wished l D cy H.size b b_now b_imaged b_valueUp b_valueDown b_real b_brief b_order b_waits b_floats b_same b_upOf b_downOf b_tape b_open b_made b_paper b_reachUp b_reachDown b_reachHow b_reachFirst b_reachSecond b_begins b_carried c_hasImage c_above c_below c_orderMany c_waitMany c_seed c_size c_openMany c_paperMany c_reachMany c_begins c_now c_reachUp c_reachDown c_reachHow c_reachFirst c_reachSecond p1 p2 (r13, c_above_r13, c_below_r13, c_reachMany_r13, c_begins_r13, c_reachUp_r13, c_reachDown_r13, c_reachHow_r13, c_reachFirst_r13, c_reachSecond_r13) hq13) (cwV 2 hts gX11_make_X11_wished rfl rfl rfl ⟨rfl, cdX11_wished⟩ ⟨Nat.le_of_ble_eq_true rfl, Nat.le_of_ble_eq_true rfl⟩) (zPV hK hP hD [0, 1, 2, 3, 4, 5, 6, 7] rfl rfl (q0 := 0) (ci := 11) rfl rfl rfl) rfl rfl hl.1 rfl (lv_room (Nat.le_of_ble_eq_true rfl)) dX11_make_13 ⟨Nat.zero_le _, Nat.zero_le _⟩) hP hD hS hA [0, 1, 2, 3, 4, 5, 6, 7] [8, 9] [2, 3, 4, 5, 6, 7, 8, 9, 0, 1] rfl rfl rfl rfl (fun H locs hP hD hS => ?_)
    refine lv_istore_n (lv' := [(3, .int r13), (0, .ref b), (1, .int p1), (2, .int p2)]) hx hb dX11_make_16 rfl hl (Nat.le_of_ble_eq_true rfl) rfl (fun ls hl => ?_)
    refine lv_iload_n hx hb dX11_make_17 rfl (lv_at hl 0 rfl) ?_
    refine lv_if_ge (tgt := 26) hx hb dX11_make_18 (by decide) (fun hc18 => ?_) (fun hc18 => ?_)
    · replace h := zi_t hc18 h
      refine lv_aload_n hx hb dX11_make_26 rfl (lv_at hl 1 rfl) ?_
      refine lv_iload_n hx hb dX11_make_27 rfl (lv_at hl 0 rfl) ?_
      obtain ⟨r28, c_waitMany_r28, c_waits_r28, c_now_r28, c_made_r28, hq28, h⟩ := zb5_s h
      refine zCi (r0 := r28) (w1 := (wdX11_makes cy b b_now b_imaged b_valueUp b_valueDown b_real b_brief b_order b_waits b_floats b_same b_upOf b_downOf b_tape b_open b_made b_paper b_reachUp b_reachDown b_reachHow b_reachFirst b_reachSecond b_begins b_carried c_hasImage c_above_r13 c_below_r13 c_orderMany c_waitMany_r28 c_seed c_size c_openMany c_paperMany c_reachMany_r13 c_waits_r28 c_reachHow_r13 c_reachSecond_r13 c_reachFirst_r13 c_now_r28 c_made_r28)) (ws' := (wdX11_make cy b b_now b_imaged b_valueUp b_valueDown b_real b_brief b_order b_waits b_floats b_same b_upOf b_downOf b_tape b_open b_made b_paper b_reachUp b_reachDown b_reachHow b_reachFirst b_reachSecond b_begins b_carried c_hasImage c_above_r13 c_below_r13 c_orderMany c_waitMany_r28 c_seed c_size c_openMany c_paperMany c_reachMany_r13 c_begins_r13 c_now_r28 c_reachUp_r13 c_reachDown_r13 c_reachHow_r13 c_reachFirst_r13 c_reachSecond_r13 c_waits_r28 c_made_r28)) (va_runV (As := [.int r13]) (rest := []) ⟨hx, hb, hml, hown, hts⟩ (mX11_makes l D cy H.size b b_now b_imaged b_valueUp b_valueDown b_real b_brief b_order b_waits b_floats b_same b_upOf b_downOf b_tape b_open b_made b_paper b_reachUp b_reachDown b_reachHow b_reachFirst b_reachSecond b_begins b_carried c_hasImage c_above_r13 c_below_r13 c_orderMany c_waitMany c_seed c_size c_openMany c_paperMany c_reachMany_r13 c_waits c_reachHow_r13 c_reachSecond_r13 c_reachFirst_r13 c_now c_made r13 (r28, c_waitMany_r28, c_waits_r28, c_now_r28, c_made_r28) hq28) (cwV 1 hts gX11_make_X11_makes rfl rfl rfl ⟨rfl, cdX11_makes⟩ ⟨Nat.le_of_ble_eq_true rfl, Nat.le_of_ble_eq_true rfl⟩) (zPV hK hP hD [0, 8, 5, 7, 6, 2, 9] rfl rfl (q0 := 0) (ci := 11) rfl rfl rfl) rfl rfl hl.1 rfl (lv_room (Nat.le_of_ble_eq_true rfl)) dX11_make_28 ⟨Nat.zero_le _, Nat.zero_le _⟩) hP hD hS hA [0, 8, 5, 7, 6, 2, 9] [1, 3, 4] [3, 0, 8, 1, 2, 5, 7, 6, 4, 9] rfl rfl rfl rfl (fun H locs hP hD hS => ?_)
      exact hret (o := (r28, c_above_r13, c_below_r13, c_waitMany_r28, c_reachMany_r13, c_begins_r13, c_now_r28, c_reachUp_r13, c_reachDown_r13, c_reachHow_r13, c_reachFirst_r13, c_reachSecond_r13, c_waits_r28, c_made_r28)) h hP hD hS dX11_make_31
    · replace h := zi_f hc18 h
      refine lv_bipush (v := (-2 : Int32)) hx hb dX11_make_21 (by decide) ?_
      refine lv_goto (tgt := 31) hx hb dX11_make_23 (by decide) ?_
      exact hret (o := ((-2 : Int32), c_above_r13, c_below_r13, c_waitMany, c_reachMany_r13, c_begins_r13, c_now, c_reachUp_r13, c_reachDown_r13, c_reachHow_r13, c_reachFirst_r13, c_reachSecond_r13, c_waits, c_made)) h hP hD hS dX11_make_31
  · replace h := zi_t hc5 h
    refine lv_iconst (v := (-1 : Int32)) hx hb dX11_make_8 (by decide) ?_
    exact hret (o := ((-1 : Int32), c_above, c_below, c_waitMany, c_reachMany, c_begins, c_now, c_reachUp, c_reachDown, c_reachHow, c_reachFirst, c_reachSecond, c_waits, c_made)) h hP hD hS dX11_make_9

theorem uX11_isPoint_X11 : ∀ w ∈ u_ws RX11 TX11 33, w ∈ wsX11_isPoint := fun w h => (List.mem_cons_of_mem _ (List.mem_append_right _ h))
abbrev wdX11_isPoint (cy : Nat → ClassId) (b b_now b_imaged b_valueUp b_valueDown b_real b_brief b_order b_waits b_floats b_same b_upOf b_downOf b_tape b_open b_made b_paper b_reachUp b_reachDown b_reachHow b_reachFirst b_reachSecond b_begins b_carried : Nat) (c_hasImage : Int32) (c_above c_below : Int64) (c_orderMany c_waitMany c_seed c_size c_openMany c_paperMany c_reachMany : Int32) (c_now : Nat → Int32) : va_W := [(b, .inr (11, [.ref b_now, .ref b_imaged, .int c_hasImage, .long c_above, .long c_below, .ref b_valueUp, .ref b_valueDown, .ref b_real, .ref b_brief, .ref b_order, .int c_orderMany, .ref b_waits, .int c_waitMany, .ref b_floats, .int c_seed, .ref b_same, .ref b_upOf, .ref b_downOf, .ref b_tape, .int c_size, .ref b_open, .int c_openMany, .ref b_made, .ref b_paper, .int c_paperMany, .ref b_reachUp, .ref b_reachDown, .ref b_reachHow, .ref b_reachFirst, .ref b_reachSecond, .ref b_begins, .int c_reachMany, .ref b_carried])), (b_now, .inl (cy 0, 261, .inl c_now))]
abbrev rmX11_isPoint : Room := { frames := 1, cells := 0, slots := 0, locals := 25 }
theorem cdX11_isPoint : (yX11_isPoint).cls ≠ "java/lang/invoke/MethodHandle" ∧ (yX11_isPoint).cls ≠ "java/lang/invoke/VarHandle" ∧ (parseMethodDescriptor (yX11_isPoint).desc).map (fun d => d.parameters.length) = some 1 := by decide +kernel
def fX11_isPoint (p1 : Int32) (c_now : Nat → Int32) : Option (Int32) :=
  zb1 (fX11_in ((p1).toInt64) (0 : Int64) ((((c_now ((169 : Int32)).toNatClampNeg) - (1 : Int32))).toInt64)) (fun r14 => some (r14))
set_option maxHeartbeats 4000000 in
set_option maxRecDepth 100000 in
theorem mX11_isPoint (l : Launch) (D : va_G) (cy : Nat → ClassId) (sz : Nat) (b b_now b_imaged b_valueUp b_valueDown b_real b_brief b_order b_waits b_floats b_same b_upOf b_downOf b_tape b_open b_made b_paper b_reachUp b_reachDown b_reachHow b_reachFirst b_reachSecond b_begins b_carried : Nat) (c_hasImage : Int32) (c_above c_below : Int64) (c_orderMany c_waitMany c_seed c_size c_openMany c_paperMany c_reachMany : Int32) (c_now : Nat → Int32) (p1 : Int32) (res : (Int32)) (h : fX11_isPoint p1 c_now = some res) : zMz l yX11_isPoint wsX11_isPoint rmX11_isPoint [.ref b, .int p1] D cy (wdX11_isPoint cy b b_now b_imaged b_valueUp b_valueDown b_real b_brief b_order b_waits b_floats b_same b_upOf b_downOf b_tape b_open b_made b_paper b_reachUp b_reachDown b_reachHow b_reachFirst b_reachSecond b_begins b_carried c_hasImage c_above c_below c_orderMany c_waitMany c_seed c_size c_openMany c_paperMany c_reachMany c_now) sz ((fun (o : (Int32)) => o) res) ((fun (o : (Int32)) => (wdX11_isPoint cy b b_now b_imaged b_valueUp b_valueDown b_real b_brief b_order b_waits b_floats b_same b_upOf b_downOf b_tape b_open b_made b_paper b_reachUp b_reachDown b_reachHow b_reachFirst b_reachSecond b_begins b_carried c_hasImage c_above c_below c_orderMany c_waitMany c_seed c_size c_openMany c_paperMany c_reachMany c_now)) res) := by
  refine zOfz (res := res) (rf := (fun (o : (Int32)) => o)) (Wf := (fun (o : (Int32)) => (wdX11_isPoint cy b b_now b_imaged b_valueUp b_valueDown b_real b_brief b_order b_waits b_floats b_same b_upOf b_downOf b_tape b_open b_made b_paper b_reachUp b_reachDown b_reachHow b_reachFirst b_reachSecond b_begins b_carried c_hasImage c_above c_below c_orderMany c_waitMany c_seed c_size c_openMany c_paperMany c_reachMany c_now))) (by decide +kernel) rfl (Nat.le_of_ble_eq_true rfl) ?_
  intro p e s m args below meth c A ls Q hx hb hml hts hown hP hK hD hA hS hl hret
  have hown : s.vm.findClass RX11 = some m.cls := hown
  have hl : lv_has ls 2 [(0, .ref b), (1, .int p1)] := hl
  refine lv_iload_n hx hb dX11_isPoint_0 rfl (lv_at hl 1 rfl) ?_
  refine lv_i2l hx hb dX11_isPoint_1 rfl ?_
  refine lv_lconst (v := (0 : Int64)) hx hb dX11_isPoint_2 (by decide) ?_
  refine lv_aload_n hx hb dX11_isPoint_3 rfl (lv_at hl 0 rfl) ?_
  refine va_get (D := D) (ci := 11) (v := .ref b_now) (C := RX11) (T := TX11) (N := 33) hx hb hts uX11_isPoint_X11 hown hK.1 hP 0 rfl rfl 0 (by decide) (hts (.fieldLink RX11 9 "WishedResistorModel" "now" "[I") (List.mem_of_getElem? (i := 1) rfl)) (fun _ h9 => h9) rfl dX11_isPoint_4 ?_
  refine lv_sipush (v := (169 : Int32)) hx hb dX11_isPoint_7 (by decide) ?_
  refine va_iald hx hb hK.1 hP 1 0 rfl rfl (show zin (169 : Int32) 261 from by decide) dX11_isPoint_10 ?_
  refine lv_iconst (v := (1 : Int32)) hx hb dX11_isPoint_11 (by decide) ?_
  refine lv_isub hx hb dX11_isPoint_12 ?_
  refine lv_i2l hx hb dX11_isPoint_13 rfl ?_
  obtain ⟨r14, hq14, h⟩ := zb1_s h
  refine zCz0 (r0 := r14) (va_runS (As := [.long ((p1).toInt64), .long (0 : Int64), .long ((((c_now ((169 : Int32)).toNatClampNeg) - (1 : Int32))).toInt64)]) (rest := []) ⟨hx, hb, hml, hown, hts⟩ (mX11_in l D cy s.heap.size ((p1).toInt64) (0 : Int64) ((((c_now ((169 : Int32)).toNatClampNeg) - (1 : Int32))).toInt64) (r14) hq14) (va_cwS 3 hts gX11_isPoint_X11_in rfl rfl rfl cdX11_in ⟨Nat.le_of_ble_eq_true rfl, Nat.le_of_ble_eq_true rfl⟩) (zPS hK hP hD [] rfl rfl) rfl rfl hl.1 rfl (lv_room (Nat.le_of_ble_eq_true rfl)) dX11_isPoint_14 ⟨Nat.zero_le _, Nat.zero_le _⟩) hP hD hS hA (fun H locs hn14 hP hD hS => ?_)
  exact hret (o := (r14)) h hn14 hP hD hS dX11_isPoint_17

theorem uX11_isEdge_X11 : ∀ w ∈ u_ws RX11 TX11 33, w ∈ wsX11_isEdge := fun w h => (List.mem_cons_of_mem _ (List.mem_append_right _ h))
abbrev wdX11_isEdge (cy : Nat → ClassId) (b b_now b_imaged b_valueUp b_valueDown b_real b_brief b_order b_waits b_floats b_same b_upOf b_downOf b_tape b_open b_made b_paper b_reachUp b_reachDown b_reachHow b_reachFirst b_reachSecond b_begins b_carried : Nat) (c_hasImage : Int32) (c_above c_below : Int64) (c_orderMany c_waitMany c_seed c_size c_openMany c_paperMany c_reachMany : Int32) (c_now : Nat → Int32) : va_W := [(b, .inr (11, [.ref b_now, .ref b_imaged, .int c_hasImage, .long c_above, .long c_below, .ref b_valueUp, .ref b_valueDown, .ref b_real, .ref b_brief, .ref b_order, .int c_orderMany, .ref b_waits, .int c_waitMany, .ref b_floats, .int c_seed, .ref b_same, .ref b_upOf, .ref b_downOf, .ref b_tape, .int c_size, .ref b_open, .int c_openMany, .ref b_made, .ref b_paper, .int c_paperMany, .ref b_reachUp, .ref b_reachDown, .ref b_reachHow, .ref b_reachFirst, .ref b_reachSecond, .ref b_begins, .int c_reachMany, .ref b_carried])), (b_now, .inl (cy 0, 261, .inl c_now))]
abbrev rmX11_isEdge : Room := { frames := 1, cells := 0, slots := 0, locals := 25 }
theorem cdX11_isEdge : (yX11_isEdge).cls ≠ "java/lang/invoke/MethodHandle" ∧ (yX11_isEdge).cls ≠ "java/lang/invoke/VarHandle" ∧ (parseMethodDescriptor (yX11_isEdge).desc).map (fun d => d.parameters.length) = some 1 := by decide +kernel
def fX11_isEdge (p1 : Int32) (c_now : Nat → Int32) : Option (Int32) :=
  zb1 (fX11_in ((p1).toInt64) (0 : Int64) ((((c_now ((170 : Int32)).toNatClampNeg) - (1 : Int32))).toInt64)) (fun r14 => some (r14))
set_option maxHeartbeats 4000000 in
set_option maxRecDepth 100000 in
theorem mX11_isEdge (l : Launch) (D : va_G) (cy : Nat → ClassId) (sz : Nat) (b b_now b_imaged b_valueUp b_valueDown b_real b_brief b_order b_waits b_floats b_same b_upOf b_downOf b_tape b_open b_made b_paper b_reachUp b_reachDown b_reachHow b_reachFirst b_reachSecond b_begins b_carried : Nat) (c_hasImage : Int32) (c_above c_below : Int64) (c_orderMany c_waitMany c_seed c_size c_openMany c_paperMany c_reachMany : Int32) (c_now : Nat → Int32) (p1 : Int32) (res : (Int32)) (h : fX11_isEdge p1 c_now = some res) : zMz l yX11_isEdge wsX11_isEdge rmX11_isEdge [.ref b, .int p1] D cy (wdX11_isEdge cy b b_now b_imaged b_valueUp b_valueDown b_real b_brief b_order b_waits b_floats b_same b_upOf b_downOf b_tape b_open b_made b_paper b_reachUp b_reachDown b_reachHow b_reachFirst b_reachSecond b_begins b_carried c_hasImage c_above c_below c_orderMany c_waitMany c_seed c_size c_openMany c_paperMany c_reachMany c_now) sz ((fun (o : (Int32)) => o) res) ((fun (o : (Int32)) => (wdX11_isEdge cy b b_now b_imaged b_valueUp b_valueDown b_real b_brief b_order b_waits b_floats b_same b_upOf b_downOf b_tape b_open b_made b_paper b_reachUp b_reachDown b_reachHow b_reachFirst b_reachSecond b_begins b_carried c_hasImage c_above c_below c_orderMany c_waitMany c_seed c_size c_openMany c_paperMany c_reachMany c_now)) res) := by
  refine zOfz (res := res) (rf := (fun (o : (Int32)) => o)) (Wf := (fun (o : (Int32)) => (wdX11_isEdge cy b b_now b_imaged b_valueUp b_valueDown b_real b_brief b_order b_waits b_floats b_same b_upOf b_downOf b_tape b_open b_made b_paper b_reachUp b_reachDown b_reachHow b_reachFirst b_reachSecond b_begins b_carried c_hasImage c_above c_below c_orderMany c_waitMany c_seed c_size c_openMany c_paperMany c_reachMany c_now))) (by decide +kernel) rfl (Nat.le_of_ble_eq_true rfl) ?_
  intro p e s m args below meth c A ls Q hx hb hml hts hown hP hK hD hA hS hl hret
  have hown : s.vm.findClass RX11 = some m.cls := hown
  have hl : lv_has ls 2 [(0, .ref b), (1, .int p1)] := hl
  refine lv_iload_n hx hb dX11_isEdge_0 rfl (lv_at hl 1 rfl) ?_
  refine lv_i2l hx hb dX11_isEdge_1 rfl ?_
  refine lv_lconst (v := (0 : Int64)) hx hb dX11_isEdge_2 (by decide) ?_
  refine lv_aload_n hx hb dX11_isEdge_3 rfl (lv_at hl 0 rfl) ?_
  refine va_get (D := D) (ci := 11) (v := .ref b_now) (C := RX11) (T := TX11) (N := 33) hx hb hts uX11_isEdge_X11 hown hK.1 hP 0 rfl rfl 0 (by decide) (hts (.fieldLink RX11 9 "WishedResistorModel" "now" "[I") (List.mem_of_getElem? (i := 1) rfl)) (fun _ h9 => h9) rfl dX11_isEdge_4 ?_
  refine lv_sipush (v := (170 : Int32)) hx hb dX11_isEdge_7 (by decide) ?_
  refine va_iald hx hb hK.1 hP 1 0 rfl rfl (show zin (170 : Int32) 261 from by decide) dX11_isEdge_10 ?_
  refine lv_iconst (v := (1 : Int32)) hx hb dX11_isEdge_11 (by decide) ?_
  refine lv_isub hx hb dX11_isEdge_12 ?_
  refine lv_i2l hx hb dX11_isEdge_13 rfl ?_
  obtain ⟨r14, hq14, h⟩ := zb1_s h
  refine zCz0 (r0 := r14) (va_runS (As := [.long ((p1).toInt64), .long (0 : Int64), .long ((((c_now ((170 : Int32)).toNatClampNeg) - (1 : Int32))).toInt64)]) (rest := []) ⟨hx, hb, hml, hown, hts⟩ (mX11_in l D cy s.heap.size ((p1).toInt64) (0 : Int64) ((((c_now ((170 : Int32)).toNatClampNeg) - (1 : Int32))).toInt64) (r14) hq14) (va_cwS 3 hts gX11_isEdge_X11_in rfl rfl rfl cdX11_in ⟨Nat.le_of_ble_eq_true rfl, Nat.le_of_ble_eq_true rfl⟩) (zPS hK hP hD [] rfl rfl) rfl rfl hl.1 rfl (lv_room (Nat.le_of_ble_eq_true rfl)) dX11_isEdge_14 ⟨Nat.zero_le _, Nat.zero_le _⟩) hP hD hS hA (fun H locs hn14 hP hD hS => ?_)
  exact hret (o := (r14)) h hn14 hP hD hS dX11_isEdge_17

theorem uX11_points_X11 : ∀ w ∈ u_ws RX11 TX11 33, w ∈ wsX11_points := fun w h => (List.mem_cons_of_mem _ (List.mem_append_right _ h))
abbrev wdX11_points (cy : Nat → ClassId) (b b_now b_imaged b_valueUp b_valueDown b_real b_brief b_order b_waits b_floats b_same b_upOf b_downOf b_tape b_open b_made b_paper b_reachUp b_reachDown b_reachHow b_reachFirst b_reachSecond b_begins b_carried : Nat) (c_hasImage : Int32) (c_above c_below : Int64) (c_orderMany c_waitMany c_seed c_size c_openMany c_paperMany c_reachMany : Int32) (c_now : Nat → Int32) : va_W := [(b, .inr (11, [.ref b_now, .ref b_imaged, .int c_hasImage, .long c_above, .long c_below, .ref b_valueUp, .ref b_valueDown, .ref b_real, .ref b_brief, .ref b_order, .int c_orderMany, .ref b_waits, .int c_waitMany, .ref b_floats, .int c_seed, .ref b_same, .ref b_upOf, .ref b_downOf, .ref b_tape, .int c_size, .ref b_open, .int c_openMany, .ref b_made, .ref b_paper, .int c_paperMany, .ref b_reachUp, .ref b_reachDown, .ref b_reachHow, .ref b_reachFirst, .ref b_reachSecond, .ref b_begins, .int c_reachMany, .ref b_carried])), (b_now, .inl (cy 0, 261, .inl c_now))]
abbrev rmX11_points : Room := { frames := 1, cells := 0, slots := 0, locals := 25 }
theorem cdX11_points : (yX11_points).cls ≠ "java/lang/invoke/MethodHandle" ∧ (yX11_points).cls ≠ "java/lang/invoke/VarHandle" ∧ (parseMethodDescriptor (yX11_points).desc).map (fun d => d.parameters.length) = some 1 := by decide +kernel
def fX11_points (p1 : Int32) (c_now : Nat → Int32) : Option (Int32 × (Nat → Int32)) :=
  zb1 (fX11_in ((p1).toInt64) (2 : Int64) (6 : Int64)) (fun r8 => if r8 = 0 then (some ((-1 : Int32), c_now)) else (some ((c_now ((169 : Int32)).toNatClampNeg), (upd (upd c_now ((169 : Int32)).toNatClampNeg p1) ((170 : Int32)).toNatClampNeg (0 : Int32)))))
set_option maxHeartbeats 4000000 in
set_option maxRecDepth 100000 in
theorem mX11_points (l : Launch) (D : va_G) (cy : Nat → ClassId) (sz : Nat) (b b_now b_imaged b_valueUp b_valueDown b_real b_brief b_order b_waits b_floats b_same b_upOf b_downOf b_tape b_open b_made b_paper b_reachUp b_reachDown b_reachHow b_reachFirst b_reachSecond b_begins b_carried : Nat) (c_hasImage : Int32) (c_above c_below : Int64) (c_orderMany c_waitMany c_seed c_size c_openMany c_paperMany c_reachMany : Int32) (c_now : Nat → Int32) (p1 : Int32) (res : (Int32 × (Nat → Int32))) (h : fX11_points p1 c_now = some res) : zMi l yX11_points wsX11_points rmX11_points [.ref b, .int p1] D cy (wdX11_points cy b b_now b_imaged b_valueUp b_valueDown b_real b_brief b_order b_waits b_floats b_same b_upOf b_downOf b_tape b_open b_made b_paper b_reachUp b_reachDown b_reachHow b_reachFirst b_reachSecond b_begins b_carried c_hasImage c_above c_below c_orderMany c_waitMany c_seed c_size c_openMany c_paperMany c_reachMany c_now) sz ((fun (o : (Int32 × (Nat → Int32))) => o.1) res) ((fun (o : (Int32 × (Nat → Int32))) => (wdX11_points cy b b_now b_imaged b_valueUp b_valueDown b_real b_brief b_order b_waits b_floats b_same b_upOf b_downOf b_tape b_open b_made b_paper b_reachUp b_reachDown b_reachHow b_reachFirst b_reachSecond b_begins b_carried c_hasImage c_above c_below c_orderMany c_waitMany c_seed c_size c_openMany c_paperMany c_reachMany (o.2))) res) := by
  refine zOfi (res := res) (rf := (fun (o : (Int32 × (Nat → Int32))) => o.1)) (Wf := (fun (o : (Int32 × (Nat → Int32))) => (wdX11_points cy b b_now b_imaged b_valueUp b_valueDown b_real b_brief b_order b_waits b_floats b_same b_upOf b_downOf b_tape b_open b_made b_paper b_reachUp b_reachDown b_reachHow b_reachFirst b_reachSecond b_begins b_carried c_hasImage c_above c_below c_orderMany c_waitMany c_seed c_size c_openMany c_paperMany c_reachMany (o.2)))) (by decide +kernel) rfl (Nat.le_of_ble_eq_true rfl) ?_
  intro p e s m args below meth c A ls Q hx hb hml hts hown hP hK hD hA hS hl hret
  have hown : s.vm.findClass RX11 = some m.cls := hown
  have hl : lv_has ls 3 [(0, .ref b), (1, .int p1)] := hl
  refine lv_iload_n hx hb dX11_points_0 rfl (lv_at hl 1 rfl) ?_
  refine lv_i2l hx hb dX11_points_1 rfl ?_
  refine lv_ldc2 hx hb hown (hts (.constantLong RX11 112 (2)) (List.mem_of_getElem? (i := 1) rfl)) dX11_points_2 ?_
  refine lv_ldc2 hx hb hown (hts (.constantLong RX11 288 (6)) (List.mem_of_getElem? (i := 2) rfl)) dX11_points_5 ?_
  obtain ⟨r8, hq8, h⟩ := zb1_s h
  refine zCz0 (r0 := r8) (va_runS (As := [.long ((p1).toInt64), .long (2 : Int64), .long (6 : Int64)]) (rest := []) ⟨hx, hb, hml, hown, hts⟩ (mX11_in l D cy s.heap.size ((p1).toInt64) (2 : Int64) (6 : Int64) (r8) hq8) (va_cwS 3 hts gX11_points_X11_in rfl rfl rfl cdX11_in ⟨Nat.le_of_ble_eq_true rfl, Nat.le_of_ble_eq_true rfl⟩) (zPS hK hP hD [] rfl rfl) rfl rfl hl.1 rfl (lv_room (Nat.le_of_ble_eq_true rfl)) dX11_points_8 ⟨Nat.zero_le _, Nat.zero_le _⟩) hP hD hS hA (fun H locs hn8 hP hD hS => ?_)
  refine lv_if_ne (tgt := 16) hx hb dX11_points_11 (by decide) (fun hc11 => ?_) (fun hc11 => ?_)
  · replace h := zi_f hc11 h
    refine lv_aload_n hx hb dX11_points_16 rfl (lv_at hl 0 rfl) ?_
    refine va_get (D := D) (ci := 11) (v := .ref b_now) (C := RX11) (T := TX11) (N := 33) hx hb hts uX11_points_X11 hown hK.1 hP 0 rfl rfl 0 (by decide) (hts (.fieldLink RX11 9 "WishedResistorModel" "now" "[I") (List.mem_of_getElem? (i := 3) rfl)) (fun _ h9 => h9) rfl dX11_points_17 ?_
    refine lv_sipush (v := (169 : Int32)) hx hb dX11_points_20 (by decide) ?_
    refine va_iald hx hb hK.1 hP 1 0 rfl rfl (show zin (169 : Int32) 261 from by decide) dX11_points_23 ?_
    refine lv_istore_n (lv' := [(2, .int (c_now ((169 : Int32)).toNatClampNeg)), (0, .ref b), (1, .int p1)]) hx hb dX11_points_24 rfl hl (Nat.le_of_ble_eq_true rfl) rfl (fun ls hl => ?_)
    refine lv_aload_n hx hb dX11_points_25 rfl (lv_at hl 1 rfl) ?_
    refine va_get (D := D) (ci := 11) (v := .ref b_now) (C := RX11) (T := TX11) (N := 33) hx hb hts uX11_points_X11 hown hK.1 hP 0 rfl rfl 0 (by decide) (hts (.fieldLink RX11 9 "WishedResistorModel" "now" "[I") (List.mem_of_getElem? (i := 3) rfl)) (fun _ h9 => h9) rfl dX11_points_26 ?_
    refine lv_sipush (v := (169 : Int32)) hx hb dX11_points_29 (by decide) ?_
    refine lv_iload_n hx hb dX11_points_32 rfl (lv_at hl 2 rfl) ?_
    refine va_iast hx hb hK.1 hP hD hS 1 0 rfl rfl (show zin (169 : Int32) 261 from by decide) dX11_points_33 (fun H locs hP hD hS => ?_)
    have hP : va_P D vwCl (wdX11_points cy b b_now b_imaged b_valueUp b_valueDown b_real b_brief b_order b_waits b_floats b_same b_upOf b_downOf b_tape b_open b_made b_paper b_reachUp b_reachDown b_reachHow b_reachFirst b_reachSecond b_begins b_carried c_hasImage c_above c_below c_orderMany c_waitMany c_seed c_size c_openMany c_paperMany c_reachMany (upd c_now ((169 : Int32)).toNatClampNeg p1)) H := hP
    have hD : va_D A (wdX11_points cy b b_now b_imaged b_valueUp b_valueDown b_real b_brief b_order b_waits b_floats b_same b_upOf b_downOf b_tape b_open b_made b_paper b_reachUp b_reachDown b_reachHow b_reachFirst b_reachSecond b_begins b_carried c_hasImage c_above c_below c_orderMany c_waitMany c_seed c_size c_openMany c_paperMany c_reachMany (upd c_now ((169 : Int32)).toNatClampNeg p1)) := hD
    refine lv_aload_n hx hb dX11_points_34 rfl (lv_at hl 1 rfl) ?_
    refine va_get (D := D) (ci := 11) (v := .ref b_now) (C := RX11) (T := TX11) (N := 33) hx hb hts uX11_points_X11 hown hK.1 hP 0 rfl rfl 0 (by decide) (hts (.fieldLink RX11 9 "WishedResistorModel" "now" "[I") (List.mem_of_getElem? (i := 3) rfl)) (fun _ h9 => h9) rfl dX11_points_35 ?_
    refine lv_sipush (v := (170 : Int32)) hx hb dX11_points_38 (by decide) ?_
    refine lv_iconst (v := (0 : Int32)) hx hb dX11_points_41 (by decide) ?_
    refine va_iast hx hb hK.1 hP hD hS 1 0 rfl rfl (show zin (170 : Int32) 261 from by decide) dX11_points_42 (fun H locs hP hD hS => ?_)
    have hP : va_P D vwCl (wdX11_points cy b b_now b_imaged b_valueUp b_valueDown b_real b_brief b_order b_waits b_floats b_same b_upOf b_downOf b_tape b_open b_made b_paper b_reachUp b_reachDown b_reachHow b_reachFirst b_reachSecond b_begins b_carried c_hasImage c_above c_below c_orderMany c_waitMany c_seed c_size c_openMany c_paperMany c_reachMany (upd (upd c_now ((169 : Int32)).toNatClampNeg p1) ((170 : Int32)).toNatClampNeg (0 : Int32))) H := hP
    have hD : va_D A (wdX11_points cy b b_now b_imaged b_valueUp b_valueDown b_real b_brief b_order b_waits b_floats b_same b_upOf b_downOf b_tape b_open b_made b_paper b_reachUp b_reachDown b_reachHow b_reachFirst b_reachSecond b_begins b_carried c_hasImage c_above c_below c_orderMany c_waitMany c_seed c_size c_openMany c_paperMany c_reachMany (upd (upd c_now ((169 : Int32)).toNatClampNeg p1) ((170 : Int32)).toNatClampNeg (0 : Int32))) := hD
    refine lv_iload_n hx hb dX11_points_43 rfl (lv_at hl 0 rfl) ?_
    exact hret (o := ((c_now ((169 : Int32)).toNatClampNeg), (upd (upd c_now ((169 : Int32)).toNatClampNeg p1) ((170 : Int32)).toNatClampNeg (0 : Int32)))) h hP hD hS dX11_points_44
  · replace h := zi_t hc11 h
    refine lv_iconst (v := (-1 : Int32)) hx hb dX11_points_14 (by decide) ?_
    exact hret (o := ((-1 : Int32), c_now)) h hP hD hS dX11_points_15

theorem uX11_edge_X11 : ∀ w ∈ u_ws RX11 TX11 33, w ∈ wsX11_edge := fun w h => (List.mem_cons_of_mem _ (List.mem_append_right _ h))
abbrev wdX11_edge (cy : Nat → ClassId) (b b_now b_imaged b_valueUp b_valueDown b_real b_brief b_order b_waits b_floats b_same b_upOf b_downOf b_tape b_open b_made b_paper b_reachUp b_reachDown b_reachHow b_reachFirst b_reachSecond b_begins b_carried : Nat) (c_hasImage : Int32) (c_above c_below : Int64) (c_orderMany c_waitMany c_seed c_size c_openMany c_paperMany c_reachMany : Int32) (c_now : Nat → Int32) : va_W := [(b, .inr (11, [.ref b_now, .ref b_imaged, .int c_hasImage, .long c_above, .long c_below, .ref b_valueUp, .ref b_valueDown, .ref b_real, .ref b_brief, .ref b_order, .int c_orderMany, .ref b_waits, .int c_waitMany, .ref b_floats, .int c_seed, .ref b_same, .ref b_upOf, .ref b_downOf, .ref b_tape, .int c_size, .ref b_open, .int c_openMany, .ref b_made, .ref b_paper, .int c_paperMany, .ref b_reachUp, .ref b_reachDown, .ref b_reachHow, .ref b_reachFirst, .ref b_reachSecond, .ref b_begins, .int c_reachMany, .ref b_carried])), (b_now, .inl (cy 0, 261, .inl c_now))]
abbrev rmX11_edge : Room := { frames := 2, cells := 0, slots := 0, locals := 46 }
theorem cdX11_edge : (yX11_edge).cls ≠ "java/lang/invoke/MethodHandle" ∧ (yX11_edge).cls ≠ "java/lang/invoke/VarHandle" ∧ (parseMethodDescriptor (yX11_edge).desc).map (fun d => d.parameters.length) = some 3 := by decide +kernel
def fX11_edge (p1 p2 p3 : Int32) (c_now : Nat → Int32) : Option (Int32 × (Nat → Int32)) :=
  zb1 (fX11_isPoint p1 c_now) (fun r2 => if r2 = 0 then (some ((-1 : Int32), c_now)) else (zb1 (fX11_isPoint p2 c_now) (fun r10 => if r10 = 0 then (some ((-1 : Int32), c_now)) else (if p1 = p2 then (some ((-1 : Int32), c_now)) else (zb1 (fX11_in ((p3).toInt64) (1 : Int64) (99 : Int64)) (fun r27 => if r27 = 0 then (some ((-1 : Int32), c_now)) else (if (c_now ((170 : Int32)).toNatClampNeg) = (8 : Int32) then (some ((-3 : Int32), c_now)) else (zg (zin ((171 : Int32) + ((3 : Int32) * (c_now ((170 : Int32)).toNatClampNeg))) 261) (zg (zin (((171 : Int32) + ((3 : Int32) * (c_now ((170 : Int32)).toNatClampNeg))) + (1 : Int32)) 261) (zg (zin (((171 : Int32) + ((3 : Int32) * (c_now ((170 : Int32)).toNatClampNeg))) + (2 : Int32)) 261) (some ((((upd (upd (upd (upd c_now (((171 : Int32) + ((3 : Int32) * (c_now ((170 : Int32)).toNatClampNeg)))).toNatClampNeg p1) ((((171 : Int32) + ((3 : Int32) * (c_now ((170 : Int32)).toNatClampNeg))) + (1 : Int32))).toNatClampNeg p2) ((((171 : Int32) + ((3 : Int32) * (c_now ((170 : Int32)).toNatClampNeg))) + (2 : Int32))).toNatClampNeg p3) ((170 : Int32)).toNatClampNeg (((upd (upd (upd c_now (((171 : Int32) + ((3 : Int32) * (c_now ((170 : Int32)).toNatClampNeg)))).toNatClampNeg p1) ((((171 : Int32) + ((3 : Int32) * (c_now ((170 : Int32)).toNatClampNeg))) + (1 : Int32))).toNatClampNeg p2) ((((171 : Int32) + ((3 : Int32) * (c_now ((170 : Int32)).toNatClampNeg))) + (2 : Int32))).toNatClampNeg p3) ((170 : Int32)).toNatClampNeg) + (1 : Int32))) ((170 : Int32)).toNatClampNeg) - (1 : Int32)), (upd (upd (upd (upd c_now (((171 : Int32) + ((3 : Int32) * (c_now ((170 : Int32)).toNatClampNeg)))).toNatClampNeg p1) ((((171 : Int32) + ((3 : Int32) * (c_now ((170 : Int32)).toNatClampNeg))) + (1 : Int32))).toNatClampNeg p2) ((((171 : Int32) + ((3 : Int32) * (c_now ((170 : Int32)).toNatClampNeg))) + (2 : Int32))).toNatClampNeg p3) ((170 : Int32)).toNatClampNeg (((upd (upd (upd c_now (((171 : Int32) + ((3 : Int32) * (c_now ((170 : Int32)).toNatClampNeg)))).toNatClampNeg p1) ((((171 : Int32) + ((3 : Int32) * (c_now ((170 : Int32)).toNatClampNeg))) + (1 : Int32))).toNatClampNeg p2) ((((171 : Int32) + ((3 : Int32) * (c_now ((170 : Int32)).toNatClampNeg))) + (2 : Int32))).toNatClampNeg p3) ((170 : Int32)).toNatClampNeg) + (1 : Int32)))))))))))))))
set_option maxHeartbeats 4000000 in
set_option maxRecDepth 100000 in
theorem mX11_edge (l : Launch) (D : va_G) (cy : Nat → ClassId) (sz : Nat) (b b_now b_imaged b_valueUp b_valueDown b_real b_brief b_order b_waits b_floats b_same b_upOf b_downOf b_tape b_open b_made b_paper b_reachUp b_reachDown b_reachHow b_reachFirst b_reachSecond b_begins b_carried : Nat) (c_hasImage : Int32) (c_above c_below : Int64) (c_orderMany c_waitMany c_seed c_size c_openMany c_paperMany c_reachMany : Int32) (c_now : Nat → Int32) (p1 p2 p3 : Int32) (res : (Int32 × (Nat → Int32))) (h : fX11_edge p1 p2 p3 c_now = some res) : zMi l yX11_edge wsX11_edge rmX11_edge [.ref b, .int p1, .int p2, .int p3] D cy (wdX11_edge cy b b_now b_imaged b_valueUp b_valueDown b_real b_brief b_order b_waits b_floats b_same b_upOf b_downOf b_tape b_open b_made b_paper b_reachUp b_reachDown b_reachHow b_reachFirst b_reachSecond b_begins b_carried c_hasImage c_above c_below c_orderMany c_waitMany c_seed c_size c_openMany c_paperMany c_reachMany c_now) sz ((fun (o : (Int32 × (Nat → Int32))) => o.1) res) ((fun (o : (Int32 × (Nat → Int32))) => (wdX11_edge cy b b_now b_imaged b_valueUp b_valueDown b_real b_brief b_order b_waits b_floats b_same b_upOf b_downOf b_tape b_open b_made b_paper b_reachUp b_reachDown b_reachHow b_reachFirst b_reachSecond b_begins b_carried c_hasImage c_above c_below c_orderMany c_waitMany c_seed c_size c_openMany c_paperMany c_reachMany (o.2))) res) := by
  refine zOfi (res := res) (rf := (fun (o : (Int32 × (Nat → Int32))) => o.1)) (Wf := (fun (o : (Int32 × (Nat → Int32))) => (wdX11_edge cy b b_now b_imaged b_valueUp b_valueDown b_real b_brief b_order b_waits b_floats b_same b_upOf b_downOf b_tape b_open b_made b_paper b_reachUp b_reachDown b_reachHow b_reachFirst b_reachSecond b_begins b_carried c_hasImage c_above c_below c_orderMany c_waitMany c_seed c_size c_openMany c_paperMany c_reachMany (o.2)))) (by decide +kernel) rfl (Nat.le_of_ble_eq_true rfl) ?_
  intro p e s m args below meth c A ls Q hx hb hml hts hown hP hK hD hA hS hl hret
  have hown : s.vm.findClass RX11 = some m.cls := hown
  have hl : lv_has ls 5 [(0, .ref b), (1, .int p1), (2, .int p2), (3, .int p3)] := hl
  refine lv_aload_n hx hb dX11_edge_0 rfl (lv_at hl 0 rfl) ?_
  refine lv_iload_n hx hb dX11_edge_1 rfl (lv_at hl 1 rfl) ?_
  obtain ⟨r2, hq2, h⟩ := zb1_s h
  refine zCz (r0 := r2) (w1 := (wdX11_isPoint cy b b_now b_imaged b_valueUp b_valueDown b_real b_brief b_order b_waits b_floats b_same b_upOf b_downOf b_tape b_open b_made b_paper b_reachUp b_reachDown b_reachHow b_reachFirst b_reachSecond b_begins b_carried c_hasImage c_above c_below c_orderMany c_waitMany c_seed c_size c_openMany c_paperMany c_reachMany c_now)) (ws' := (wdX11_edge cy b b_now b_imaged b_valueUp b_valueDown b_real b_brief b_order b_waits b_floats b_same b_upOf b_downOf b_tape b_open b_made b_paper b_reachUp b_reachDown b_reachHow b_reachFirst b_reachSecond b_begins b_carried c_hasImage c_above c_below c_orderMany c_waitMany c_seed c_size c_openMany c_paperMany c_reachMany c_now)) (va_runV (As := [.int p1]) (rest := []) ⟨hx, hb, hml, hown, hts⟩ (mX11_isPoint l D cy s.heap.size b b_now b_imaged b_valueUp b_valueDown b_real b_brief b_order b_waits b_floats b_same b_upOf b_downOf b_tape b_open b_made b_paper b_reachUp b_reachDown b_reachHow b_reachFirst b_reachSecond b_begins b_carried c_hasImage c_above c_below c_orderMany c_waitMany c_seed c_size c_openMany c_paperMany c_reachMany c_now p1 (r2) hq2) (cwV 1 hts gX11_edge_X11_isPoint rfl rfl rfl ⟨rfl, cdX11_isPoint⟩ ⟨Nat.le_of_ble_eq_true rfl, Nat.le_of_ble_eq_true rfl⟩) (zPV hK hP hD [0, 1] rfl rfl (q0 := 0) (ci := 11) rfl rfl rfl) rfl rfl hl.1 rfl (lv_room (Nat.le_of_ble_eq_true rfl)) dX11_edge_2 ⟨Nat.zero_le _, Nat.zero_le _⟩) hP hD hS hA [0, 1] [] [0, 1] rfl rfl rfl rfl (fun H locs hn2 hP hD hS => ?_)
  refine lv_if_eq (tgt := 33) hx hb dX11_edge_5 (by decide) (fun hc5 => ?_) (fun hc5 => ?_)
  · replace h := zi_t hc5 h
    refine lv_iconst (v := (-1 : Int32)) hx hb dX11_edge_33 (by decide) ?_
    exact hret (o := ((-1 : Int32), c_now)) h hP hD hS dX11_edge_34
  · replace h := zi_f hc5 h
    refine lv_aload_n hx hb dX11_edge_8 rfl (lv_at hl 0 rfl) ?_
    refine lv_iload_n hx hb dX11_edge_9 rfl (lv_at hl 2 rfl) ?_
    obtain ⟨r10, hq10, h⟩ := zb1_s h
    refine zCz (r0 := r10) (w1 := (wdX11_isPoint cy b b_now b_imaged b_valueUp b_valueDown b_real b_brief b_order b_waits b_floats b_same b_upOf b_downOf b_tape b_open b_made b_paper b_reachUp b_reachDown b_reachHow b_reachFirst b_reachSecond b_begins b_carried c_hasImage c_above c_below c_orderMany c_waitMany c_seed c_size c_openMany c_paperMany c_reachMany c_now)) (ws' := (wdX11_edge cy b b_now b_imaged b_valueUp b_valueDown b_real b_brief b_order b_waits b_floats b_same b_upOf b_downOf b_tape b_open b_made b_paper b_reachUp b_reachDown b_reachHow b_reachFirst b_reachSecond b_begins b_carried c_hasImage c_above c_below c_orderMany c_waitMany c_seed c_size c_openMany c_paperMany c_reachMany c_now)) (va_runV (As := [.int p2]) (rest := []) ⟨hx, hb, hml, hown, hts⟩ (mX11_isPoint l D cy H.size b b_now b_imaged b_valueUp b_valueDown b_real b_brief b_order b_waits b_floats b_same b_upOf b_downOf b_tape b_open b_made b_paper b_reachUp b_reachDown b_reachHow b_reachFirst b_reachSecond b_begins b_carried c_hasImage c_above c_below c_orderMany c_waitMany c_seed c_size c_openMany c_paperMany c_reachMany c_now p2 (r10) hq10) (cwV 1 hts gX11_edge_X11_isPoint rfl rfl rfl ⟨rfl, cdX11_isPoint⟩ ⟨Nat.le_of_ble_eq_true rfl, Nat.le_of_ble_eq_true rfl⟩) (zPV hK hP hD [0, 1] rfl rfl (q0 := 0) (ci := 11) rfl rfl rfl) rfl rfl hl.1 rfl (lv_room (Nat.le_of_ble_eq_true rfl)) dX11_edge_10 ⟨Nat.zero_le _, Nat.zero_le _⟩) hP hD hS hA [0, 1] [] [0, 1] rfl rfl rfl rfl (fun H locs hn10 hP hD hS => ?_)
    refine lv_if_eq (tgt := 33) hx hb dX11_edge_13 (by decide) (fun hc13 => ?_) (fun hc13 => ?_)
    · replace h := zi_t hc13 h
      refine lv_iconst (v := (-1 : Int32)) hx hb dX11_edge_33 (by decide) ?_
      exact hret (o := ((-1 : Int32), c_now)) h hP hD hS dX11_edge_34
    · replace h := zi_f hc13 h
      refine lv_iload_n hx hb dX11_edge_16 rfl (lv_at hl 1 rfl) ?_
      refine lv_iload_n hx hb dX11_edge_17 rfl (lv_at hl 2 rfl) ?_
      refine lv_icmp_eq (tgt := 33) hx hb dX11_edge_18 (by decide) (fun hc18 => ?_) (fun hc18 => ?_)
      · replace h := zi_t hc18 h
        refine lv_iconst (v := (-1 : Int32)) hx hb dX11_edge_33 (by decide) ?_
        exact hret (o := ((-1 : Int32), c_now)) h hP hD hS dX11_edge_34
      · replace h := zi_f hc18 h
        refine lv_iload_n hx hb dX11_edge_21 rfl (lv_at hl 3 rfl) ?_
        refine lv_i2l hx hb dX11_edge_22 rfl ?_
        refine lv_lconst (v := (1 : Int64)) hx hb dX11_edge_23 (by decide) ?_
        refine lv_ldc2 hx hb hown (hts (.constantLong RX11 108 (99)) (List.mem_of_getElem? (i := 1) rfl)) dX11_edge_24 ?_
        obtain ⟨r27, hq27, h⟩ := zb1_s h
        refine zCz0 (r0 := r27) (va_runS (As := [.long ((p3).toInt64), .long (1 : Int64), .long (99 : Int64)]) (rest := []) ⟨hx, hb, hml, hown, hts⟩ (mX11_in l D cy H.size ((p3).toInt64) (1 : Int64) (99 : Int64) (r27) hq27) (va_cwS 3 hts gX11_edge_X11_in rfl rfl rfl cdX11_in ⟨Nat.le_of_ble_eq_true rfl, Nat.le_of_ble_eq_true rfl⟩) (zPS hK hP hD [] rfl rfl) rfl rfl hl.1 rfl (lv_room (Nat.le_of_ble_eq_true rfl)) dX11_edge_27 ⟨Nat.zero_le _, Nat.zero_le _⟩) hP hD hS hA (fun H locs hn27 hP hD hS => ?_)
        refine lv_if_ne (tgt := 35) hx hb dX11_edge_30 (by decide) (fun hc30 => ?_) (fun hc30 => ?_)
        · replace h := zi_f hc30 h
          refine lv_aload_n hx hb dX11_edge_35 rfl (lv_at hl 0 rfl) ?_
          refine va_get (D := D) (ci := 11) (v := .ref b_now) (C := RX11) (T := TX11) (N := 33) hx hb hts uX11_edge_X11 hown hK.1 hP 0 rfl rfl 0 (by decide) (hts (.fieldLink RX11 9 "WishedResistorModel" "now" "[I") (List.mem_of_getElem? (i := 2) rfl)) (fun _ h9 => h9) rfl dX11_edge_36 ?_
          refine lv_sipush (v := (170 : Int32)) hx hb dX11_edge_39 (by decide) ?_
          refine va_iald hx hb hK.1 hP 1 0 rfl rfl (show zin (170 : Int32) 261 from by decide) dX11_edge_42 ?_
          refine lv_bipush (v := (8 : Int32)) hx hb dX11_edge_43 (by decide) ?_
          refine lv_icmp_ne (tgt := 51) hx hb dX11_edge_45 (by decide) (fun hc45 => ?_) (fun hc45 => ?_)
          · replace h := zi_f hc45 h
            refine lv_sipush (v := (171 : Int32)) hx hb dX11_edge_51 (by decide) ?_
            refine lv_iconst (v := (3 : Int32)) hx hb dX11_edge_54 (by decide) ?_
            refine lv_aload_n hx hb dX11_edge_55 rfl (lv_at hl 0 rfl) ?_
            refine va_get (D := D) (ci := 11) (v := .ref b_now) (C := RX11) (T := TX11) (N := 33) hx hb hts uX11_edge_X11 hown hK.1 hP 0 rfl rfl 0 (by decide) (hts (.fieldLink RX11 9 "WishedResistorModel" "now" "[I") (List.mem_of_getElem? (i := 2) rfl)) (fun _ h9 => h9) rfl dX11_edge_56 ?_
            refine lv_sipush (v := (170 : Int32)) hx hb dX11_edge_59 (by decide) ?_
            refine va_iald hx hb hK.1 hP 1 0 rfl rfl (show zin (170 : Int32) 261 from by decide) dX11_edge_62 ?_
            refine lv_imul hx hb dX11_edge_63 ?_
            refine lv_iadd hx hb dX11_edge_64 ?_
            refine lv_istore (lv' := [(4, .int ((171 : Int32) + ((3 : Int32) * (c_now ((170 : Int32)).toNatClampNeg)))), (0, .ref b), (1, .int p1), (2, .int p2), (3, .int p3)]) hx hb dX11_edge_65 hl (Nat.le_of_ble_eq_true rfl) rfl (fun ls hl => ?_)
            refine lv_aload_n hx hb dX11_edge_67 rfl (lv_at hl 1 rfl) ?_
            refine va_get (D := D) (ci := 11) (v := .ref b_now) (C := RX11) (T := TX11) (N := 33) hx hb hts uX11_edge_X11 hown hK.1 hP 0 rfl rfl 0 (by decide) (hts (.fieldLink RX11 9 "WishedResistorModel" "now" "[I") (List.mem_of_getElem? (i := 2) rfl)) (fun _ h9 => h9) rfl dX11_edge_68 ?_
            refine lv_iload hx hb dX11_edge_71 (lv_at hl 0 rfl) ?_
            refine lv_iload_n hx hb dX11_edge_73 rfl (lv_at hl 2 rfl) ?_
            obtain ⟨hi74, h⟩ := zg_s h
            refine va_iast hx hb hK.1 hP hD hS 1 0 rfl rfl hi74 dX11_edge_74 (fun H locs hP hD hS => ?_)
            have hP : va_P D vwCl (wdX11_edge cy b b_now b_imaged b_valueUp b_valueDown b_real b_brief b_order b_waits b_floats b_same b_upOf b_downOf b_tape b_open b_made b_paper b_reachUp b_reachDown b_reachHow b_reachFirst b_reachSecond b_begins b_carried c_hasImage c_above c_below c_orderMany c_waitMany c_seed c_size c_openMany c_paperMany c_reachMany (upd c_now (((171 : Int32) + ((3 : Int32) * (c_now ((170 : Int32)).toNatClampNeg)))).toNatClampNeg p1)) H := hP
            have hD : va_D A (wdX11_edge cy b b_now b_imaged b_valueUp b_valueDown b_real b_brief b_order b_waits b_floats b_same b_upOf b_downOf b_tape b_open b_made b_paper b_reachUp b_reachDown b_reachHow b_reachFirst b_reachSecond b_begins b_carried c_hasImage c_above c_below c_orderMany c_waitMany c_seed c_size c_openMany c_paperMany c_reachMany (upd c_now (((171 : Int32) + ((3 : Int32) * (c_now ((170 : Int32)).toNatClampNeg)))).toNatClampNeg p1)) := hD
            refine lv_aload_n hx hb dX11_edge_75 rfl (lv_at hl 1 rfl) ?_
            refine va_get (D := D) (ci := 11) (v := .ref b_now) (C := RX11) (T := TX11) (N := 33) hx hb hts uX11_edge_X11 hown hK.1 hP 0 rfl rfl 0 (by decide) (hts (.fieldLink RX11 9 "WishedResistorModel" "now" "[I") (List.mem_of_getElem? (i := 2) rfl)) (fun _ h9 => h9) rfl dX11_edge_76 ?_
            refine lv_iload hx hb dX11_edge_79 (lv_at hl 0 rfl) ?_
            refine lv_iconst (v := (1 : Int32)) hx hb dX11_edge_81 (by decide) ?_
            refine lv_iadd hx hb dX11_edge_82 ?_
            refine lv_iload_n hx hb dX11_edge_83 rfl (lv_at hl 3 rfl) ?_
            obtain ⟨hi84, h⟩ := zg_s h
            refine va_iast hx hb hK.1 hP hD hS 1 0 rfl rfl hi84 dX11_edge_84 (fun H locs hP hD hS => ?_)
            have hP : va_P D vwCl (wdX11_edge cy b b_now b_imaged b_valueUp b_valueDown b_real b_brief b_order b_waits b_floats b_same b_upOf b_downOf b_tape b_open b_made b_paper b_reachUp b_reachDown b_reachHow b_reachFirst b_reachSecond b_begins b_carried c_hasImage c_above c_below c_orderMany c_waitMany c_seed c_size c_openMany c_paperMany c_reachMany (upd (upd c_now (((171 : Int32) + ((3 : Int32) * (c_now ((170 : Int32)).toNatClampNeg)))).toNatClampNeg p1) ((((171 : Int32) + ((3 : Int32) * (c_now ((170 : Int32)).toNatClampNeg))) + (1 : Int32))).toNatClampNeg p2)) H := hP
            have hD : va_D A (wdX11_edge cy b b_now b_imaged b_valueUp b_valueDown b_real b_brief b_order b_waits b_floats b_same b_upOf b_downOf b_tape b_open b_made b_paper b_reachUp b_reachDown b_reachHow b_reachFirst b_reachSecond b_begins b_carried c_hasImage c_above c_below c_orderMany c_waitMany c_seed c_size c_openMany c_paperMany c_reachMany (upd (upd c_now (((171 : Int32) + ((3 : Int32) * (c_now ((170 : Int32)).toNatClampNeg)))).toNatClampNeg p1) ((((171 : Int32) + ((3 : Int32) * (c_now ((170 : Int32)).toNatClampNeg))) + (1 : Int32))).toNatClampNeg p2)) := hD
            refine lv_aload_n hx hb dX11_edge_85 rfl (lv_at hl 1 rfl) ?_
            refine va_get (D := D) (ci := 11) (v := .ref b_now) (C := RX11) (T := TX11) (N := 33) hx hb hts uX11_edge_X11 hown hK.1 hP 0 rfl rfl 0 (by decide) (hts (.fieldLink RX11 9 "WishedResistorModel" "now" "[I") (List.mem_of_getElem? (i := 2) rfl)) (fun _ h9 => h9) rfl dX11_edge_86 ?_
            refine lv_iload hx hb dX11_edge_89 (lv_at hl 0 rfl) ?_
            refine lv_iconst (v := (2 : Int32)) hx hb dX11_edge_91 (by decide) ?_
            refine lv_iadd hx hb dX11_edge_92 ?_
            refine lv_iload_n hx hb dX11_edge_93 rfl (lv_at hl 4 rfl) ?_
            obtain ⟨hi94, h⟩ := zg_s h
            refine va_iast hx hb hK.1 hP hD hS 1 0 rfl rfl hi94 dX11_edge_94 (fun H locs hP hD hS => ?_)
            have hP : va_P D vwCl (wdX11_edge cy b b_now b_imaged b_valueUp b_valueDown b_real b_brief b_order b_waits b_floats b_same b_upOf b_downOf b_tape b_open b_made b_paper b_reachUp b_reachDown b_reachHow b_reachFirst b_reachSecond b_begins b_carried c_hasImage c_above c_below c_orderMany c_waitMany c_seed c_size c_openMany c_paperMany c_reachMany (upd (upd (upd c_now (((171 : Int32) + ((3 : Int32) * (c_now ((170 : Int32)).toNatClampNeg)))).toNatClampNeg p1) ((((171 : Int32) + ((3 : Int32) * (c_now ((170 : Int32)).toNatClampNeg))) + (1 : Int32))).toNatClampNeg p2) ((((171 : Int32) + ((3 : Int32) * (c_now ((170 : Int32)).toNatClampNeg))) + (2 : Int32))).toNatClampNeg p3)) H := hP
            have hD : va_D A (wdX11_edge cy b b_now b_imaged b_valueUp b_valueDown b_real b_brief b_order b_waits b_floats b_same b_upOf b_downOf b_tape b_open b_made b_paper b_reachUp b_reachDown b_reachHow b_reachFirst b_reachSecond b_begins b_carried c_hasImage c_above c_below c_orderMany c_waitMany c_seed c_size c_openMany c_paperMany c_reachMany (upd (upd (upd c_now (((171 : Int32) + ((3 : Int32) * (c_now ((170 : Int32)).toNatClampNeg)))).toNatClampNeg p1) ((((171 : Int32) + ((3 : Int32) * (c_now ((170 : Int32)).toNatClampNeg))) + (1 : Int32))).toNatClampNeg p2) ((((171 : Int32) + ((3 : Int32) * (c_now ((170 : Int32)).toNatClampNeg))) + (2 : Int32))).toNatClampNeg p3)) := hD
            refine lv_aload_n hx hb dX11_edge_95 rfl (lv_at hl 1 rfl) ?_
            refine va_get (D := D) (ci := 11) (v := .ref b_now) (C := RX11) (T := TX11) (N := 33) hx hb hts uX11_edge_X11 hown hK.1 hP 0 rfl rfl 0 (by decide) (hts (.fieldLink RX11 9 "WishedResistorModel" "now" "[I") (List.mem_of_getElem? (i := 2) rfl)) (fun _ h9 => h9) rfl dX11_edge_96 ?_
            refine lv_sipush (v := (170 : Int32)) hx hb dX11_edge_99 (by decide) ?_
            refine lv_dup2_11 hx hb dX11_edge_102 rfl rfl ?_
            refine va_iald hx hb hK.1 hP 1 0 rfl rfl (show zin (170 : Int32) 261 from by decide) dX11_edge_103 ?_
            refine lv_iconst (v := (1 : Int32)) hx hb dX11_edge_104 (by decide) ?_
            refine lv_iadd hx hb dX11_edge_105 ?_
            refine va_iast hx hb hK.1 hP hD hS 1 0 rfl rfl (show zin (170 : Int32) 261 from by decide) dX11_edge_106 (fun H locs hP hD hS => ?_)
            have hP : va_P D vwCl (wdX11_edge cy b b_now b_imaged b_valueUp b_valueDown b_real b_brief b_order b_waits b_floats b_same b_upOf b_downOf b_tape b_open b_made b_paper b_reachUp b_reachDown b_reachHow b_reachFirst b_reachSecond b_begins b_carried c_hasImage c_above c_below c_orderMany c_waitMany c_seed c_size c_openMany c_paperMany c_reachMany (upd (upd (upd (upd c_now (((171 : Int32) + ((3 : Int32) * (c_now ((170 : Int32)).toNatClampNeg)))).toNatClampNeg p1) ((((171 : Int32) + ((3 : Int32) * (c_now ((170 : Int32)).toNatClampNeg))) + (1 : Int32))).toNatClampNeg p2) ((((171 : Int32) + ((3 : Int32) * (c_now ((170 : Int32)).toNatClampNeg))) + (2 : Int32))).toNatClampNeg p3) ((170 : Int32)).toNatClampNeg (((upd (upd (upd c_now (((171 : Int32) + ((3 : Int32) * (c_now ((170 : Int32)).toNatClampNeg)))).toNatClampNeg p1) ((((171 : Int32) + ((3 : Int32) * (c_now ((170 : Int32)).toNatClampNeg))) + (1 : Int32))).toNatClampNeg p2) ((((171 : Int32) + ((3 : Int32) * (c_now ((170 : Int32)).toNatClampNeg))) + (2 : Int32))).toNatClampNeg p3) ((170 : Int32)).toNatClampNeg) + (1 : Int32)))) H := hP
            have hD : va_D A (wdX11_edge cy b b_now b_imaged b_valueUp b_valueDown b_real b_brief b_order b_waits b_floats b_same b_upOf b_downOf b_tape b_open b_made b_paper b_reachUp b_reachDown b_reachHow b_reachFirst b_reachSecond b_begins b_carried c_hasImage c_above c_below c_orderMany c_waitMany c_seed c_size c_openMany c_paperMany c_reachMany (upd (upd (upd (upd c_now (((171 : Int32) + ((3 : Int32) * (c_now ((170 : Int32)).toNatClampNeg)))).toNatClampNeg p1) ((((171 : Int32) + ((3 : Int32) * (c_now ((170 : Int32)).toNatClampNeg))) + (1 : Int32))).toNatClampNeg p2) ((((171 : Int32) + ((3 : Int32) * (c_now ((170 : Int32)).toNatClampNeg))) + (2 : Int32))).toNatClampNeg p3) ((170 : Int32)).toNatClampNeg (((upd (upd (upd c_now (((171 : Int32) + ((3 : Int32) * (c_now ((170 : Int32)).toNatClampNeg)))).toNatClampNeg p1) ((((171 : Int32) + ((3 : Int32) * (c_now ((170 : Int32)).toNatClampNeg))) + (1 : Int32))).toNatClampNeg p2) ((((171 : Int32) + ((3 : Int32) * (c_now ((170 : Int32)).toNatClampNeg))) + (2 : Int32))).toNatClampNeg p3) ((170 : Int32)).toNatClampNeg) + (1 : Int32)))) := hD
            refine lv_aload_n hx hb dX11_edge_107 rfl (lv_at hl 1 rfl) ?_
            refine va_get (D := D) (ci := 11) (v := .ref b_now) (C := RX11) (T := TX11) (N := 33) hx hb hts uX11_edge_X11 hown hK.1 hP 0 rfl rfl 0 (by decide) (hts (.fieldLink RX11 9 "WishedResistorModel" "now" "[I") (List.mem_of_getElem? (i := 2) rfl)) (fun _ h9 => h9) rfl dX11_edge_108 ?_
            refine lv_sipush (v := (170 : Int32)) hx hb dX11_edge_111 (by decide) ?_
            refine va_iald hx hb hK.1 hP 1 0 rfl rfl (show zin (170 : Int32) 261 from by decide) dX11_edge_114 ?_
            refine lv_iconst (v := (1 : Int32)) hx hb dX11_edge_115 (by decide) ?_
            refine lv_isub hx hb dX11_edge_116 ?_
            exact hret (o := ((((upd (upd (upd (upd c_now (((171 : Int32) + ((3 : Int32) * (c_now ((170 : Int32)).toNatClampNeg)))).toNatClampNeg p1) ((((171 : Int32) + ((3 : Int32) * (c_now ((170 : Int32)).toNatClampNeg))) + (1 : Int32))).toNatClampNeg p2) ((((171 : Int32) + ((3 : Int32) * (c_now ((170 : Int32)).toNatClampNeg))) + (2 : Int32))).toNatClampNeg p3) ((170 : Int32)).toNatClampNeg (((upd (upd (upd c_now (((171 : Int32) + ((3 : Int32) * (c_now ((170 : Int32)).toNatClampNeg)))).toNatClampNeg p1) ((((171 : Int32) + ((3 : Int32) * (c_now ((170 : Int32)).toNatClampNeg))) + (1 : Int32))).toNatClampNeg p2) ((((171 : Int32) + ((3 : Int32) * (c_now ((170 : Int32)).toNatClampNeg))) + (2 : Int32))).toNatClampNeg p3) ((170 : Int32)).toNatClampNeg) + (1 : Int32))) ((170 : Int32)).toNatClampNeg) - (1 : Int32)), (upd (upd (upd (upd c_now (((171 : Int32) + ((3 : Int32) * (c_now ((170 : Int32)).toNatClampNeg)))).toNatClampNeg p1) ((((171 : Int32) + ((3 : Int32) * (c_now ((170 : Int32)).toNatClampNeg))) + (1 : Int32))).toNatClampNeg p2) ((((171 : Int32) + ((3 : Int32) * (c_now ((170 : Int32)).toNatClampNeg))) + (2 : Int32))).toNatClampNeg p3) ((170 : Int32)).toNatClampNeg (((upd (upd (upd c_now (((171 : Int32) + ((3 : Int32) * (c_now ((170 : Int32)).toNatClampNeg)))).toNatClampNeg p1) ((((171 : Int32) + ((3 : Int32) * (c_now ((170 : Int32)).toNatClampNeg))) + (1 : Int32))).toNatClampNeg p2) ((((171 : Int32) + ((3 : Int32) * (c_now ((170 : Int32)).toNatClampNeg))) + (2 : Int32))).toNatClampNeg p3) ((170 : Int32)).toNatClampNeg) + (1 : Int32))))) h hP hD hS dX11_edge_117
          · replace h := zi_t hc45 h
            refine lv_bipush (v := (-3 : Int32)) hx hb dX11_edge_48 (by decide) ?_
            exact hret (o := ((-3 : Int32), c_now)) h hP hD hS dX11_edge_50
        · replace h := zi_t hc30 h
          refine lv_iconst (v := (-1 : Int32)) hx hb dX11_edge_33 (by decide) ?_
          exact hret (o := ((-1 : Int32), c_now)) h hP hD hS dX11_edge_34

theorem uX11_tell_X11 : ∀ w ∈ u_ws RX11 TX11 33, w ∈ wsX11_tell := fun w h => (List.mem_cons_of_mem _ (List.mem_append_right _ h))
abbrev wdX11_tell (cy : Nat → ClassId) (b b_now b_imaged b_valueUp b_valueDown b_real b_brief b_order b_waits b_floats b_same b_upOf b_downOf b_tape b_open b_made b_paper b_reachUp b_reachDown b_reachHow b_reachFirst b_reachSecond b_begins b_carried : Nat) (c_hasImage : Int32) (c_above c_below : Int64) (c_orderMany c_waitMany c_seed c_size c_openMany c_paperMany c_reachMany : Int32) (c_now : Nat → Int32) : va_W := [(b, .inr (11, [.ref b_now, .ref b_imaged, .int c_hasImage, .long c_above, .long c_below, .ref b_valueUp, .ref b_valueDown, .ref b_real, .ref b_brief, .ref b_order, .int c_orderMany, .ref b_waits, .int c_waitMany, .ref b_floats, .int c_seed, .ref b_same, .ref b_upOf, .ref b_downOf, .ref b_tape, .int c_size, .ref b_open, .int c_openMany, .ref b_made, .ref b_paper, .int c_paperMany, .ref b_reachUp, .ref b_reachDown, .ref b_reachHow, .ref b_reachFirst, .ref b_reachSecond, .ref b_begins, .int c_reachMany, .ref b_carried])), (b_now, .inl (cy 0, 261, .inl c_now))]
abbrev rmX11_tell : Room := { frames := 2, cells := 0, slots := 0, locals := 46 }
theorem cdX11_tell : (yX11_tell).cls ≠ "java/lang/invoke/MethodHandle" ∧ (yX11_tell).cls ≠ "java/lang/invoke/VarHandle" ∧ (parseMethodDescriptor (yX11_tell).desc).map (fun d => d.parameters.length) = some 2 := by decide +kernel
def fX11_tell (p1 p2 : Int32) (c_now : Nat → Int32) : Option (Int32 × (Nat → Int32)) :=
  zb1 (fX11_isEdge p1 c_now) (fun r2 => if r2 = 0 then (some ((-1 : Int32), c_now)) else (zb1 (fX11_in ((p2).toInt64) (0 : Int64) (99 : Int64)) (fun r14 => if r14 = 0 then (some ((-1 : Int32), c_now)) else (zg (zin (((171 : Int32) + ((3 : Int32) * p1)) + (2 : Int32)) 261) (zg (zin (((171 : Int32) + ((3 : Int32) * p1)) + (2 : Int32)) 261) (some ((c_now ((((171 : Int32) + ((3 : Int32) * p1)) + (2 : Int32))).toNatClampNeg), (upd c_now ((((171 : Int32) + ((3 : Int32) * p1)) + (2 : Int32))).toNatClampNeg p2))))))))
set_option maxHeartbeats 4000000 in
set_option maxRecDepth 100000 in
theorem mX11_tell (l : Launch) (D : va_G) (cy : Nat → ClassId) (sz : Nat) (b b_now b_imaged b_valueUp b_valueDown b_real b_brief b_order b_waits b_floats b_same b_upOf b_downOf b_tape b_open b_made b_paper b_reachUp b_reachDown b_reachHow b_reachFirst b_reachSecond b_begins b_carried : Nat) (c_hasImage : Int32) (c_above c_below : Int64) (c_orderMany c_waitMany c_seed c_size c_openMany c_paperMany c_reachMany : Int32) (c_now : Nat → Int32) (p1 p2 : Int32) (res : (Int32 × (Nat → Int32))) (h : fX11_tell p1 p2 c_now = some res) : zMi l yX11_tell wsX11_tell rmX11_tell [.ref b, .int p1, .int p2] D cy (wdX11_tell cy b b_now b_imaged b_valueUp b_valueDown b_real b_brief b_order b_waits b_floats b_same b_upOf b_downOf b_tape b_open b_made b_paper b_reachUp b_reachDown b_reachHow b_reachFirst b_reachSecond b_begins b_carried c_hasImage c_above c_below c_orderMany c_waitMany c_seed c_size c_openMany c_paperMany c_reachMany c_now) sz ((fun (o : (Int32 × (Nat → Int32))) => o.1) res) ((fun (o : (Int32 × (Nat → Int32))) => (wdX11_tell cy b b_now b_imaged b_valueUp b_valueDown b_real b_brief b_order b_waits b_floats b_same b_upOf b_downOf b_tape b_open b_made b_paper b_reachUp b_reachDown b_reachHow b_reachFirst b_reachSecond b_begins b_carried c_hasImage c_above c_below c_orderMany c_waitMany c_seed c_size c_openMany c_paperMany c_reachMany (o.2))) res) := by
  refine zOfi (res := res) (rf := (fun (o : (Int32 × (Nat → Int32))) => o.1)) (Wf := (fun (o : (Int32 × (Nat → Int32))) => (wdX11_tell cy b b_now b_imaged b_valueUp b_valueDown b_real b_brief b_order b_waits b_floats b_same b_upOf b_downOf b_tape b_open b_made b_paper b_reachUp b_reachDown b_reachHow b_reachFirst b_reachSecond b_begins b_carried c_hasImage c_above c_below c_orderMany c_waitMany c_seed c_size c_openMany c_paperMany c_reachMany (o.2)))) (by decide +kernel) rfl (Nat.le_of_ble_eq_true rfl) ?_
  intro p e s m args below meth c A ls Q hx hb hml hts hown hP hK hD hA hS hl hret
  have hown : s.vm.findClass RX11 = some m.cls := hown
  have hl : lv_has ls 4 [(0, .ref b), (1, .int p1), (2, .int p2)] := hl
  refine lv_aload_n hx hb dX11_tell_0 rfl (lv_at hl 0 rfl) ?_
  refine lv_iload_n hx hb dX11_tell_1 rfl (lv_at hl 1 rfl) ?_
  obtain ⟨r2, hq2, h⟩ := zb1_s h
  refine zCz (r0 := r2) (w1 := (wdX11_isEdge cy b b_now b_imaged b_valueUp b_valueDown b_real b_brief b_order b_waits b_floats b_same b_upOf b_downOf b_tape b_open b_made b_paper b_reachUp b_reachDown b_reachHow b_reachFirst b_reachSecond b_begins b_carried c_hasImage c_above c_below c_orderMany c_waitMany c_seed c_size c_openMany c_paperMany c_reachMany c_now)) (ws' := (wdX11_tell cy b b_now b_imaged b_valueUp b_valueDown b_real b_brief b_order b_waits b_floats b_same b_upOf b_downOf b_tape b_open b_made b_paper b_reachUp b_reachDown b_reachHow b_reachFirst b_reachSecond b_begins b_carried c_hasImage c_above c_below c_orderMany c_waitMany c_seed c_size c_openMany c_paperMany c_reachMany c_now)) (va_runV (As := [.int p1]) (rest := []) ⟨hx, hb, hml, hown, hts⟩ (mX11_isEdge l D cy s.heap.size b b_now b_imaged b_valueUp b_valueDown b_real b_brief b_order b_waits b_floats b_same b_upOf b_downOf b_tape b_open b_made b_paper b_reachUp b_reachDown b_reachHow b_reachFirst b_reachSecond b_begins b_carried c_hasImage c_above c_below c_orderMany c_waitMany c_seed c_size c_openMany c_paperMany c_reachMany c_now p1 (r2) hq2) (cwV 1 hts gX11_tell_X11_isEdge rfl rfl rfl ⟨rfl, cdX11_isEdge⟩ ⟨Nat.le_of_ble_eq_true rfl, Nat.le_of_ble_eq_true rfl⟩) (zPV hK hP hD [0, 1] rfl rfl (q0 := 0) (ci := 11) rfl rfl rfl) rfl rfl hl.1 rfl (lv_room (Nat.le_of_ble_eq_true rfl)) dX11_tell_2 ⟨Nat.zero_le _, Nat.zero_le _⟩) hP hD hS hA [0, 1] [] [0, 1] rfl rfl rfl rfl (fun H locs hn2 hP hD hS => ?_)
  refine lv_if_eq (tgt := 20) hx hb dX11_tell_5 (by decide) (fun hc5 => ?_) (fun hc5 => ?_)
  · replace h := zi_t hc5 h
    refine lv_iconst (v := (-1 : Int32)) hx hb dX11_tell_20 (by decide) ?_
    exact hret (o := ((-1 : Int32), c_now)) h hP hD hS dX11_tell_21
  · replace h := zi_f hc5 h
    refine lv_iload_n hx hb dX11_tell_8 rfl (lv_at hl 2 rfl) ?_
    refine lv_i2l hx hb dX11_tell_9 rfl ?_
    refine lv_lconst (v := (0 : Int64)) hx hb dX11_tell_10 (by decide) ?_
    refine lv_ldc2 hx hb hown (hts (.constantLong RX11 108 (99)) (List.mem_of_getElem? (i := 1) rfl)) dX11_tell_11 ?_
    obtain ⟨r14, hq14, h⟩ := zb1_s h
    refine zCz0 (r0 := r14) (va_runS (As := [.long ((p2).toInt64), .long (0 : Int64), .long (99 : Int64)]) (rest := []) ⟨hx, hb, hml, hown, hts⟩ (mX11_in l D cy H.size ((p2).toInt64) (0 : Int64) (99 : Int64) (r14) hq14) (va_cwS 3 hts gX11_tell_X11_in rfl rfl rfl cdX11_in ⟨Nat.le_of_ble_eq_true rfl, Nat.le_of_ble_eq_true rfl⟩) (zPS hK hP hD [] rfl rfl) rfl rfl hl.1 rfl (lv_room (Nat.le_of_ble_eq_true rfl)) dX11_tell_14 ⟨Nat.zero_le _, Nat.zero_le _⟩) hP hD hS hA (fun H locs hn14 hP hD hS => ?_)
    refine lv_if_ne (tgt := 22) hx hb dX11_tell_17 (by decide) (fun hc17 => ?_) (fun hc17 => ?_)
    · replace h := zi_f hc17 h
      refine lv_aload_n hx hb dX11_tell_22 rfl (lv_at hl 0 rfl) ?_
      refine va_get (D := D) (ci := 11) (v := .ref b_now) (C := RX11) (T := TX11) (N := 33) hx hb hts uX11_tell_X11 hown hK.1 hP 0 rfl rfl 0 (by decide) (hts (.fieldLink RX11 9 "WishedResistorModel" "now" "[I") (List.mem_of_getElem? (i := 2) rfl)) (fun _ h9 => h9) rfl dX11_tell_23 ?_
      refine lv_sipush (v := (171 : Int32)) hx hb dX11_tell_26 (by decide) ?_
      refine lv_iconst (v := (3 : Int32)) hx hb dX11_tell_29 (by decide) ?_
      refine lv_iload_n hx hb dX11_tell_30 rfl (lv_at hl 1 rfl) ?_
      refine lv_imul hx hb dX11_tell_31 ?_
      refine lv_iadd hx hb dX11_tell_32 ?_
      refine lv_iconst (v := (2 : Int32)) hx hb dX11_tell_33 (by decide) ?_
      refine lv_iadd hx hb dX11_tell_34 ?_
      obtain ⟨hi35, h⟩ := zg_s h
      refine va_iald hx hb hK.1 hP 1 0 rfl rfl hi35 dX11_tell_35 ?_
      refine lv_istore_n (lv' := [(3, .int (c_now ((((171 : Int32) + ((3 : Int32) * p1)) + (2 : Int32))).toNatClampNeg)), (0, .ref b), (1, .int p1), (2, .int p2)]) hx hb dX11_tell_36 rfl hl (Nat.le_of_ble_eq_true rfl) rfl (fun ls hl => ?_)
      refine lv_aload_n hx hb dX11_tell_37 rfl (lv_at hl 1 rfl) ?_
      refine va_get (D := D) (ci := 11) (v := .ref b_now) (C := RX11) (T := TX11) (N := 33) hx hb hts uX11_tell_X11 hown hK.1 hP 0 rfl rfl 0 (by decide) (hts (.fieldLink RX11 9 "WishedResistorModel" "now" "[I") (List.mem_of_getElem? (i := 2) rfl)) (fun _ h9 => h9) rfl dX11_tell_38 ?_
      refine lv_sipush (v := (171 : Int32)) hx hb dX11_tell_41 (by decide) ?_
      refine lv_iconst (v := (3 : Int32)) hx hb dX11_tell_44 (by decide) ?_
      refine lv_iload_n hx hb dX11_tell_45 rfl (lv_at hl 2 rfl) ?_
      refine lv_imul hx hb dX11_tell_46 ?_
      refine lv_iadd hx hb dX11_tell_47 ?_
      refine lv_iconst (v := (2 : Int32)) hx hb dX11_tell_48 (by decide) ?_
      refine lv_iadd hx hb dX11_tell_49 ?_
      refine lv_iload_n hx hb dX11_tell_50 rfl (lv_at hl 3 rfl) ?_
      obtain ⟨hi51, h⟩ := zg_s h
      refine va_iast hx hb hK.1 hP hD hS 1 0 rfl rfl hi51 dX11_tell_51 (fun H locs hP hD hS => ?_)
      have hP : va_P D vwCl (wdX11_tell cy b b_now b_imaged b_valueUp b_valueDown b_real b_brief b_order b_waits b_floats b_same b_upOf b_downOf b_tape b_open b_made b_paper b_reachUp b_reachDown b_reachHow b_reachFirst b_reachSecond b_begins b_carried c_hasImage c_above c_below c_orderMany c_waitMany c_seed c_size c_openMany c_paperMany c_reachMany (upd c_now ((((171 : Int32) + ((3 : Int32) * p1)) + (2 : Int32))).toNatClampNeg p2)) H := hP
      have hD : va_D A (wdX11_tell cy b b_now b_imaged b_valueUp b_valueDown b_real b_brief b_order b_waits b_floats b_same b_upOf b_downOf b_tape b_open b_made b_paper b_reachUp b_reachDown b_reachHow b_reachFirst b_reachSecond b_begins b_carried c_hasImage c_above c_below c_orderMany c_waitMany c_seed c_size c_openMany c_paperMany c_reachMany (upd c_now ((((171 : Int32) + ((3 : Int32) * p1)) + (2 : Int32))).toNatClampNeg p2)) := hD
      refine lv_iload_n hx hb dX11_tell_52 rfl (lv_at hl 0 rfl) ?_
      exact hret (o := ((c_now ((((171 : Int32) + ((3 : Int32) * p1)) + (2 : Int32))).toNatClampNeg), (upd c_now ((((171 : Int32) + ((3 : Int32) * p1)) + (2 : Int32))).toNatClampNeg p2))) h hP hD hS dX11_tell_53
    · replace h := zi_t hc17 h
      refine lv_iconst (v := (-1 : Int32)) hx hb dX11_tell_20 (by decide) ?_
      exact hret (o := ((-1 : Int32), c_now)) h hP hD hS dX11_tell_21

theorem uX11_comesTo_X11 : ∀ w ∈ u_ws RX11 TX11 33, w ∈ wsX11_comesTo := fun w h => (List.mem_cons_of_mem _ (List.mem_append_right _ h))
abbrev wdX11_comesTo (cy : Nat → ClassId) (b b_now b_imaged b_valueUp b_valueDown b_real b_brief b_order b_waits b_floats b_same b_upOf b_downOf b_tape b_open b_made b_paper b_reachUp b_reachDown b_reachHow b_reachFirst b_reachSecond b_begins b_carried : Nat) (c_hasImage : Int32) (c_above c_below : Int64) (c_orderMany c_waitMany c_seed c_size c_openMany c_paperMany c_reachMany : Int32) (c_now : Nat → Int32) : va_W := [(b, .inr (11, [.ref b_now, .ref b_imaged, .int c_hasImage, .long c_above, .long c_below, .ref b_valueUp, .ref b_valueDown, .ref b_real, .ref b_brief, .ref b_order, .int c_orderMany, .ref b_waits, .int c_waitMany, .ref b_floats, .int c_seed, .ref b_same, .ref b_upOf, .ref b_downOf, .ref b_tape, .int c_size, .ref b_open, .int c_openMany, .ref b_made, .ref b_paper, .int c_paperMany, .ref b_reachUp, .ref b_reachDown, .ref b_reachHow, .ref b_reachFirst, .ref b_reachSecond, .ref b_begins, .int c_reachMany, .ref b_carried])), (b_now, .inl (cy 0, 261, .inl c_now))]
abbrev rmX11_comesTo : Room := { frames := 0, cells := 0, slots := 0, locals := 0 }
theorem cdX11_comesTo : (yX11_comesTo).cls ≠ "java/lang/invoke/MethodHandle" ∧ (yX11_comesTo).cls ≠ "java/lang/invoke/VarHandle" ∧ (parseMethodDescriptor (yX11_comesTo).desc).map (fun d => d.parameters.length) = some 2 := by decide +kernel
def fX11_comesTo_L17 (k7_17 : Int32 → Int32 → Option (Int32)) (c_now : Nat → Int32) (p2 v4_7 : Int32) : Nat → Int32 → Int32 → Option (Int32) :=
  zl2 (fun rec17 v3_17 v5_17 => if (c_now ((170 : Int32)).toNatClampNeg) ≤ v5_17 then (k7_17 v3_17 (v4_7 + (1 : Int32))) else (zg (zin ((171 : Int32) + ((3 : Int32) * v5_17)) 261) (zg (zin (((171 : Int32) + ((3 : Int32) * v5_17)) + (1 : Int32)) 261) (if ((p2 >>> (v5_17 &&& 31)) &&& (1 : Int32)) = (1 : Int32) then (if (v3_17 &&& (((1 : Int32) <<< ((c_now (((171 : Int32) + ((3 : Int32) * v5_17))).toNatClampNeg) &&& 31)) ||| ((1 : Int32) <<< ((c_now ((((171 : Int32) + ((3 : Int32) * v5_17)) + (1 : Int32))).toNatClampNeg) &&& 31)))) = 0 then (rec17 (v3_17 ||| (0 : Int32)) (v5_17 + (1 : Int32))) else (rec17 (v3_17 ||| (((1 : Int32) <<< ((c_now (((171 : Int32) + ((3 : Int32) * v5_17))).toNatClampNeg) &&& 31)) ||| ((1 : Int32) <<< ((c_now ((((171 : Int32) + ((3 : Int32) * v5_17)) + (1 : Int32))).toNatClampNeg) &&& 31)))) (v5_17 + (1 : Int32)))) else (rec17 (v3_17 ||| (0 : Int32)) (v5_17 + (1 : Int32)))))))
def fX11_comesTo_L7 (c_now : Nat → Int32) (p2 : Int32) : Nat → Int32 → Int32 → Option (Int32) :=
  zl2 (fun rec7 v3_7 v4_7 => if (6 : Int32) ≤ v4_7 then (some (v3_7)) else (fX11_comesTo_L17 rec7 c_now p2 v4_7 5000 v3_7 (0 : Int32)))
def fX11_comesTo (p1 p2 : Int32) (c_now : Nat → Int32) : Option (Int32) :=
  fX11_comesTo_L7 c_now p2 5000 ((1 : Int32) <<< (p1 &&& 31)) (0 : Int32)
set_option maxHeartbeats 4000000 in
set_option maxRecDepth 100000 in
theorem mX11_comesTo (l : Launch) (D : va_G) (cy : Nat → ClassId) (sz : Nat) (b b_now b_imaged b_valueUp b_valueDown b_real b_brief b_order b_waits b_floats b_same b_upOf b_downOf b_tape b_open b_made b_paper b_reachUp b_reachDown b_reachHow b_reachFirst b_reachSecond b_begins b_carried : Nat) (c_hasImage : Int32) (c_above c_below : Int64) (c_orderMany c_waitMany c_seed c_size c_openMany c_paperMany c_reachMany : Int32) (c_now : Nat → Int32) (p1 p2 : Int32) (res : (Int32)) (h : fX11_comesTo p1 p2 c_now = some res) : zMi l yX11_comesTo wsX11_comesTo rmX11_comesTo [.ref b, .int p1, .int p2] D cy (wdX11_comesTo cy b b_now b_imaged b_valueUp b_valueDown b_real b_brief b_order b_waits b_floats b_same b_upOf b_downOf b_tape b_open b_made b_paper b_reachUp b_reachDown b_reachHow b_reachFirst b_reachSecond b_begins b_carried c_hasImage c_above c_below c_orderMany c_waitMany c_seed c_size c_openMany c_paperMany c_reachMany c_now) sz ((fun (o : (Int32)) => o) res) ((fun (o : (Int32)) => (wdX11_comesTo cy b b_now b_imaged b_valueUp b_valueDown b_real b_brief b_order b_waits b_floats b_same b_upOf b_downOf b_tape b_open b_made b_paper b_reachUp b_reachDown b_reachHow b_reachFirst b_reachSecond b_begins b_carried c_hasImage c_above c_below c_orderMany c_waitMany c_seed c_size c_openMany c_paperMany c_reachMany c_now)) res) := by
  refine zOfi (res := res) (rf := (fun (o : (Int32)) => o)) (Wf := (fun (o : (Int32)) => (wdX11_comesTo cy b b_now b_imaged b_valueUp b_valueDown b_real b_brief b_order b_waits b_floats b_same b_upOf b_downOf b_tape b_open b_made b_paper b_reachUp b_reachDown b_reachHow b_reachFirst b_reachSecond b_begins b_carried c_hasImage c_above c_below c_orderMany c_waitMany c_seed c_size c_openMany c_paperMany c_reachMany c_now))) (by decide +kernel) rfl (Nat.le_of_ble_eq_true rfl) ?_
  intro p e s m args below meth c A ls Q hx hb hml hts hown hP hK hD hA hS hl hret
  have hown : s.vm.findClass RX11 = some m.cls := hown
  have hl : lv_has ls 7 [(0, .ref b), (1, .int p1), (2, .int p2)] := hl
  refine lv_iconst (v := (1 : Int32)) hx hb dX11_comesTo_0 (by decide) ?_
  refine lv_iload_n hx hb dX11_comesTo_1 rfl (lv_at hl 1 rfl) ?_
  refine lv_ishl hx hb dX11_comesTo_2 ?_
  refine lv_istore_n (lv' := [(3, .int ((1 : Int32) <<< (p1 &&& 31))), (0, .ref b), (1, .int p1), (2, .int p2)]) hx hb dX11_comesTo_3 rfl hl (Nat.le_of_ble_eq_true rfl) rfl (fun ls hl => ?_)
  refine lv_iconst (v := (0 : Int32)) hx hb dX11_comesTo_4 (by decide) ?_
  refine lv_istore (lv' := [(4, .int (0 : Int32)), (3, .int ((1 : Int32) <<< (p1 &&& 31))), (0, .ref b), (1, .int p1), (2, .int p2)]) hx hb dX11_comesTo_5 hl (Nat.le_of_ble_eq_true rfl) rfl (fun ls hl => ?_)
  have hL7 : ∀ n7 : Nat, ∀ (v3_7 v4_7 : Int32) (H : Heap) (locs : List Loc) (ls : Array Slot), va_P D vwCl (wdX11_comesTo cy b b_now b_imaged b_valueUp b_valueDown b_real b_brief b_order b_waits b_floats b_same b_upOf b_downOf b_tape b_open b_made b_paper b_reachUp b_reachDown b_reachHow b_reachFirst b_reachSecond b_begins b_carried c_hasImage c_above c_below c_orderMany c_waitMany c_seed c_size c_openMany c_paperMany c_reachMany c_now) H → va_D A (wdX11_comesTo cy b b_now b_imaged b_valueUp b_valueDown b_real b_brief b_order b_waits b_floats b_same b_upOf b_downOf b_tape b_open b_made b_paper b_reachUp b_reachDown b_reachHow b_reachFirst b_reachSecond b_begins b_carried c_hasImage c_above c_below c_orderMany c_waitMany c_seed c_size c_openMany c_paperMany c_reachMany c_now) → va_S A s.heap H locs → lv_has ls 7 [(0, .ref b), (2, .int p2), (3, .int v3_7), (4, .int v4_7)] → fX11_comesTo_L7 c_now p2 n7 v3_7 v4_7 = some res → W p l e rmX11_comesTo s m args below meth c H locs 0 0 Q (F0 m 7 ls []) := by
    intro n7
    induction n7 with
    | zero =>
      intro v3_7 v4_7 H locs ls hP hD hS hl h
      exact zl2_0 h
    | succ n7 ih7 =>
      intro v3_7 v4_7 H locs ls hP hD hS hl h
      replace h := zl2_s h
      refine lv_iload hx hb dX11_comesTo_7 (lv_at hl 3 rfl) ?_
      refine lv_bipush (v := (6 : Int32)) hx hb dX11_comesTo_9 (by decide) ?_
      refine lv_icmp_ge (tgt := 103) hx hb dX11_comesTo_11 (by decide) (fun hc11 => ?_) (fun hc11 => ?_)
      · replace h := zi_t hc11 h
        refine lv_iload_n hx hb dX11_comesTo_103 rfl (lv_at hl 2 rfl) ?_
        exact hret (o := (v3_7)) h hP hD hS dX11_comesTo_104
      · replace h := zi_f hc11 h
        refine lv_iconst (v := (0 : Int32)) hx hb dX11_comesTo_14 (by decide) ?_
        refine lv_istore (lv' := [(5, .int (0 : Int32)), (0, .ref b), (2, .int p2), (3, .int v3_7), (4, .int v4_7)]) hx hb dX11_comesTo_15 hl (Nat.le_of_ble_eq_true rfl) rfl (fun ls hl => ?_)
        have hL17 : ∀ n17 : Nat, ∀ (v3_17 v5_17 : Int32) (H : Heap) (locs : List Loc) (ls : Array Slot), va_P D vwCl (wdX11_comesTo cy b b_now b_imaged b_valueUp b_valueDown b_real b_brief b_order b_waits b_floats b_same b_upOf b_downOf b_tape b_open b_made b_paper b_reachUp b_reachDown b_reachHow b_reachFirst b_reachSecond b_begins b_carried c_hasImage c_above c_below c_orderMany c_waitMany c_seed c_size c_openMany c_paperMany c_reachMany c_now) H → va_D A (wdX11_comesTo cy b b_now b_imaged b_valueUp b_valueDown b_real b_brief b_order b_waits b_floats b_same b_upOf b_downOf b_tape b_open b_made b_paper b_reachUp b_reachDown b_reachHow b_reachFirst b_reachSecond b_begins b_carried c_hasImage c_above c_below c_orderMany c_waitMany c_seed c_size c_openMany c_paperMany c_reachMany c_now) → va_S A s.heap H locs → lv_has ls 7 [(0, .ref b), (2, .int p2), (3, .int v3_17), (4, .int v4_7), (5, .int v5_17)] → fX11_comesTo_L17 (fX11_comesTo_L7 c_now p2 n7) c_now p2 v4_7 n17 v3_17 v5_17 = some res → W p l e rmX11_comesTo s m args below meth c H locs 0 0 Q (F0 m 17 ls []) := by
          intro n17
          induction n17 with
          | zero =>
            intro v3_17 v5_17 H locs ls hP hD hS hl h
            exact zl2_0 h
          | succ n17 ih17 =>
            intro v3_17 v5_17 H locs ls hP hD hS hl h
            replace h := zl2_s h
            refine lv_iload hx hb dX11_comesTo_17 (lv_at hl 4 rfl) ?_
            refine lv_aload_n hx hb dX11_comesTo_19 rfl (lv_at hl 0 rfl) ?_
            refine va_get (D := D) (ci := 11) (v := .ref b_now) (C := RX11) (T := TX11) (N := 33) hx hb hts uX11_comesTo_X11 hown hK.1 hP 0 rfl rfl 0 (by decide) (hts (.fieldLink RX11 9 "WishedResistorModel" "now" "[I") (List.mem_of_getElem? (i := 1) rfl)) (fun _ h9 => h9) rfl dX11_comesTo_20 ?_
            refine lv_sipush (v := (170 : Int32)) hx hb dX11_comesTo_23 (by decide) ?_
            refine va_iald hx hb hK.1 hP 1 0 rfl rfl (show zin (170 : Int32) 261 from by decide) dX11_comesTo_26 ?_
            refine lv_icmp_ge (tgt := 97) hx hb dX11_comesTo_27 (by decide) (fun hc27 => ?_) (fun hc27 => ?_)
            · replace h := zi_t hc27 h
              refine lv_iinc (v := (v4_7 + (1 : Int32))) (lv' := [(4, .int (v4_7 + (1 : Int32))), (0, .ref b), (2, .int p2), (3, .int v3_17), (5, .int v5_17)]) hx hb dX11_comesTo_97 hl (k := 3) rfl (by rfl) (Nat.le_of_ble_eq_true rfl) rfl (fun ls hl => ?_)
              refine lv_goto (tgt := 7) hx hb dX11_comesTo_100 (by decide) ?_
              exact ih7 v3_17 (v4_7 + (1 : Int32)) _ _ _ hP hD hS (lv_sub hl [1, 2, 3, 0] rfl) h
            · replace h := zi_f hc27 h
              refine lv_iconst (v := (1 : Int32)) hx hb dX11_comesTo_30 (by decide) ?_
              refine lv_aload_n hx hb dX11_comesTo_31 rfl (lv_at hl 0 rfl) ?_
              refine va_get (D := D) (ci := 11) (v := .ref b_now) (C := RX11) (T := TX11) (N := 33) hx hb hts uX11_comesTo_X11 hown hK.1 hP 0 rfl rfl 0 (by decide) (hts (.fieldLink RX11 9 "WishedResistorModel" "now" "[I") (List.mem_of_getElem? (i := 1) rfl)) (fun _ h9 => h9) rfl dX11_comesTo_32 ?_
              refine lv_sipush (v := (171 : Int32)) hx hb dX11_comesTo_35 (by decide) ?_
              refine lv_iconst (v := (3 : Int32)) hx hb dX11_comesTo_38 (by decide) ?_
              refine lv_iload hx hb dX11_comesTo_39 (lv_at hl 4 rfl) ?_
              refine lv_imul hx hb dX11_comesTo_41 ?_
              refine lv_iadd hx hb dX11_comesTo_42 ?_
              obtain ⟨hi43, h⟩ := zg_s h
              refine va_iald hx hb hK.1 hP 1 0 rfl rfl hi43 dX11_comesTo_43 ?_
              refine lv_ishl hx hb dX11_comesTo_44 ?_
              refine lv_iconst (v := (1 : Int32)) hx hb dX11_comesTo_45 (by decide) ?_
              refine lv_aload_n hx hb dX11_comesTo_46 rfl (lv_at hl 0 rfl) ?_
              refine va_get (D := D) (ci := 11) (v := .ref b_now) (C := RX11) (T := TX11) (N := 33) hx hb hts uX11_comesTo_X11 hown hK.1 hP 0 rfl rfl 0 (by decide) (hts (.fieldLink RX11 9 "WishedResistorModel" "now" "[I") (List.mem_of_getElem? (i := 1) rfl)) (fun _ h9 => h9) rfl dX11_comesTo_47 ?_
              refine lv_sipush (v := (171 : Int32)) hx hb dX11_comesTo_50 (by decide) ?_
              refine lv_iconst (v := (3 : Int32)) hx hb dX11_comesTo_53 (by decide) ?_
              refine lv_iload hx hb dX11_comesTo_54 (lv_at hl 4 rfl) ?_
              refine lv_imul hx hb dX11_comesTo_56 ?_
              refine lv_iadd hx hb dX11_comesTo_57 ?_
              refine lv_iconst (v := (1 : Int32)) hx hb dX11_comesTo_58 (by decide) ?_
              refine lv_iadd hx hb dX11_comesTo_59 ?_
              obtain ⟨hi60, h⟩ := zg_s h
              refine va_iald hx hb hK.1 hP 1 0 rfl rfl hi60 dX11_comesTo_60 ?_
              refine lv_ishl hx hb dX11_comesTo_61 ?_
              refine lv_ior hx hb dX11_comesTo_62 ?_
              refine lv_istore (lv' := [(6, .int (((1 : Int32) <<< ((c_now (((171 : Int32) + ((3 : Int32) * v5_17))).toNatClampNeg) &&& 31)) ||| ((1 : Int32) <<< ((c_now ((((171 : Int32) + ((3 : Int32) * v5_17)) + (1 : Int32))).toNatClampNeg) &&& 31)))), (0, .ref b), (2, .int p2), (3, .int v3_17), (4, .int v4_7), (5, .int v5_17)]) hx hb dX11_comesTo_63 hl (Nat.le_of_ble_eq_true rfl) rfl (fun ls hl => ?_)
              refine lv_iload_n hx hb dX11_comesTo_65 rfl (lv_at hl 3 rfl) ?_
              refine lv_iload_n hx hb dX11_comesTo_66 rfl (lv_at hl 2 rfl) ?_
              refine lv_iload hx hb dX11_comesTo_67 (lv_at hl 5 rfl) ?_
              refine lv_ishr hx hb dX11_comesTo_69 ?_
              refine lv_iconst (v := (1 : Int32)) hx hb dX11_comesTo_70 (by decide) ?_
              refine lv_iand hx hb dX11_comesTo_71 ?_
              refine lv_iconst (v := (1 : Int32)) hx hb dX11_comesTo_72 (by decide) ?_
              refine lv_icmp_ne (tgt := 88) hx hb dX11_comesTo_73 (by decide) (fun hc73 => ?_) (fun hc73 => ?_)
              · replace h := zi_f hc73 h
                refine lv_iconst (v := (0 : Int32)) hx hb dX11_comesTo_88 (by decide) ?_
                refine lv_ior hx hb dX11_comesTo_89 ?_
                refine lv_istore_n (lv' := [(3, .int (v3_17 ||| (0 : Int32))), (6, .int (((1 : Int32) <<< ((c_now (((171 : Int32) + ((3 : Int32) * v5_17))).toNatClampNeg) &&& 31)) ||| ((1 : Int32) <<< ((c_now ((((171 : Int32) + ((3 : Int32) * v5_17)) + (1 : Int32))).toNatClampNeg) &&& 31)))), (0, .ref b), (2, .int p2), (4, .int v4_7), (5, .int v5_17)]) hx hb dX11_comesTo_90 rfl hl (Nat.le_of_ble_eq_true rfl) rfl (fun ls hl => ?_)
                refine lv_iinc (v := (v5_17 + (1 : Int32))) (lv' := [(5, .int (v5_17 + (1 : Int32))), (3, .int (v3_17 ||| (0 : Int32))), (6, .int (((1 : Int32) <<< ((c_now (((171 : Int32) + ((3 : Int32) * v5_17))).toNatClampNeg) &&& 31)) ||| ((1 : Int32) <<< ((c_now ((((171 : Int32) + ((3 : Int32) * v5_17)) + (1 : Int32))).toNatClampNeg) &&& 31)))), (0, .ref b), (2, .int p2), (4, .int v4_7)]) hx hb dX11_comesTo_91 hl (k := 5) rfl (by rfl) (Nat.le_of_ble_eq_true rfl) rfl (fun ls hl => ?_)
                refine lv_goto (tgt := 17) hx hb dX11_comesTo_94 (by decide) ?_
                exact ih17 (v3_17 ||| (0 : Int32)) (v5_17 + (1 : Int32)) _ _ _ hP hD hS (lv_sub hl [3, 4, 1, 5, 0] rfl) h
              · replace h := zi_t hc73 h
                refine lv_iload_n hx hb dX11_comesTo_76 rfl (lv_at hl 3 rfl) ?_
                refine lv_iload hx hb dX11_comesTo_77 (lv_at hl 0 rfl) ?_
                refine lv_iand hx hb dX11_comesTo_79 ?_
                refine lv_if_eq (tgt := 88) hx hb dX11_comesTo_80 (by decide) (fun hc80 => ?_) (fun hc80 => ?_)
                · replace h := zi_t hc80 h
                  refine lv_iconst (v := (0 : Int32)) hx hb dX11_comesTo_88 (by decide) ?_
                  refine lv_ior hx hb dX11_comesTo_89 ?_
                  refine lv_istore_n (lv' := [(3, .int (v3_17 ||| (0 : Int32))), (6, .int (((1 : Int32) <<< ((c_now (((171 : Int32) + ((3 : Int32) * v5_17))).toNatClampNeg) &&& 31)) ||| ((1 : Int32) <<< ((c_now ((((171 : Int32) + ((3 : Int32) * v5_17)) + (1 : Int32))).toNatClampNeg) &&& 31)))), (0, .ref b), (2, .int p2), (4, .int v4_7), (5, .int v5_17)]) hx hb dX11_comesTo_90 rfl hl (Nat.le_of_ble_eq_true rfl) rfl (fun ls hl => ?_)
                  refine lv_iinc (v := (v5_17 + (1 : Int32))) (lv' := [(5, .int (v5_17 + (1 : Int32))), (3, .int (v3_17 ||| (0 : Int32))), (6, .int (((1 : Int32) <<< ((c_now (((171 : Int32) + ((3 : Int32) * v5_17))).toNatClampNeg) &&& 31)) ||| ((1 : Int32) <<< ((c_now ((((171 : Int32) + ((3 : Int32) * v5_17)) + (1 : Int32))).toNatClampNeg) &&& 31)))), (0, .ref b), (2, .int p2), (4, .int v4_7)]) hx hb dX11_comesTo_91 hl (k := 5) rfl (by rfl) (Nat.le_of_ble_eq_true rfl) rfl (fun ls hl => ?_)
                  refine lv_goto (tgt := 17) hx hb dX11_comesTo_94 (by decide) ?_
                  exact ih17 (v3_17 ||| (0 : Int32)) (v5_17 + (1 : Int32)) _ _ _ hP hD hS (lv_sub hl [3, 4, 1, 5, 0] rfl) h
                · replace h := zi_f hc80 h
                  refine lv_iload hx hb dX11_comesTo_83 (lv_at hl 0 rfl) ?_
                  refine lv_goto (tgt := 89) hx hb dX11_comesTo_85 (by decide) ?_
                  refine lv_ior hx hb dX11_comesTo_89 ?_
                  refine lv_istore_n (lv' := [(3, .int (v3_17 ||| (((1 : Int32) <<< ((c_now (((171 : Int32) + ((3 : Int32) * v5_17))).toNatClampNeg) &&& 31)) ||| ((1 : Int32) <<< ((c_now ((((171 : Int32) + ((3 : Int32) * v5_17)) + (1 : Int32))).toNatClampNeg) &&& 31))))), (6, .int (((1 : Int32) <<< ((c_now (((171 : Int32) + ((3 : Int32) * v5_17))).toNatClampNeg) &&& 31)) ||| ((1 : Int32) <<< ((c_now ((((171 : Int32) + ((3 : Int32) * v5_17)) + (1 : Int32))).toNatClampNeg) &&& 31)))), (0, .ref b), (2, .int p2), (4, .int v4_7), (5, .int v5_17)]) hx hb dX11_comesTo_90 rfl hl (Nat.le_of_ble_eq_true rfl) rfl (fun ls hl => ?_)
                  refine lv_iinc (v := (v5_17 + (1 : Int32))) (lv' := [(5, .int (v5_17 + (1 : Int32))), (3, .int (v3_17 ||| (((1 : Int32) <<< ((c_now (((171 : Int32) + ((3 : Int32) * v5_17))).toNatClampNeg) &&& 31)) ||| ((1 : Int32) <<< ((c_now ((((171 : Int32) + ((3 : Int32) * v5_17)) + (1 : Int32))).toNatClampNeg) &&& 31))))), (6, .int (((1 : Int32) <<< ((c_now (((171 : Int32) + ((3 : Int32) * v5_17))).toNatClampNeg) &&& 31)) ||| ((1 : Int32) <<< ((c_now ((((171 : Int32) + ((3 : Int32) * v5_17)) + (1 : Int32))).toNatClampNeg) &&& 31)))), (0, .ref b), (2, .int p2), (4, .int v4_7)]) hx hb dX11_comesTo_91 hl (k := 5) rfl (by rfl) (Nat.le_of_ble_eq_true rfl) rfl (fun ls hl => ?_)
                  refine lv_goto (tgt := 17) hx hb dX11_comesTo_94 (by decide) ?_
                  exact ih17 (v3_17 ||| (((1 : Int32) <<< ((c_now (((171 : Int32) + ((3 : Int32) * v5_17))).toNatClampNeg) &&& 31)) ||| ((1 : Int32) <<< ((c_now ((((171 : Int32) + ((3 : Int32) * v5_17)) + (1 : Int32))).toNatClampNeg) &&& 31)))) (v5_17 + (1 : Int32)) _ _ _ hP hD hS (lv_sub hl [3, 4, 1, 5, 0] rfl) h
        exact hL17 5000 v3_7 (0 : Int32) _ _ _ hP hD hS (lv_sub hl [1, 2, 3, 4, 0] rfl) h
  exact hL7 5000 ((1 : Int32) <<< (p1 &&& 31)) (0 : Int32) _ _ _ hP hD hS (lv_sub hl [2, 4, 1, 0] rfl) h

theorem uX11_live_X11 : ∀ w ∈ u_ws RX11 TX11 33, w ∈ wsX11_live := fun w h => (List.mem_cons_of_mem _ (List.mem_append_right _ h))
abbrev wdX11_live (cy : Nat → ClassId) (b b_now b_imaged b_valueUp b_valueDown b_real b_brief b_order b_waits b_floats b_same b_upOf b_downOf b_tape b_open b_made b_paper b_reachUp b_reachDown b_reachHow b_reachFirst b_reachSecond b_begins b_carried : Nat) (c_hasImage : Int32) (c_above c_below : Int64) (c_orderMany c_waitMany c_seed c_size c_openMany c_paperMany c_reachMany : Int32) (c_now : Nat → Int32) : va_W := [(b, .inr (11, [.ref b_now, .ref b_imaged, .int c_hasImage, .long c_above, .long c_below, .ref b_valueUp, .ref b_valueDown, .ref b_real, .ref b_brief, .ref b_order, .int c_orderMany, .ref b_waits, .int c_waitMany, .ref b_floats, .int c_seed, .ref b_same, .ref b_upOf, .ref b_downOf, .ref b_tape, .int c_size, .ref b_open, .int c_openMany, .ref b_made, .ref b_paper, .int c_paperMany, .ref b_reachUp, .ref b_reachDown, .ref b_reachHow, .ref b_reachFirst, .ref b_reachSecond, .ref b_begins, .int c_reachMany, .ref b_carried])), (b_now, .inl (cy 0, 261, .inl c_now))]
abbrev rmX11_live : Room := { frames := 0, cells := 0, slots := 0, locals := 0 }
theorem cdX11_live : (yX11_live).cls ≠ "java/lang/invoke/MethodHandle" ∧ (yX11_live).cls ≠ "java/lang/invoke/VarHandle" ∧ (parseMethodDescriptor (yX11_live).desc).map (fun d => d.parameters.length) = some 0 := by decide +kernel
def fX11_live_L4 (c_now : Nat → Int32) : Nat → Int32 → Int32 → Option (Int32) :=
  zl2 (fun rec4 v1_4 v2_4 => if (c_now ((170 : Int32)).toNatClampNeg) ≤ v2_4 then (some (v1_4)) else (zg (zin (((171 : Int32) + ((3 : Int32) * v2_4)) + (2 : Int32)) 261) (if (c_now ((((171 : Int32) + ((3 : Int32) * v2_4)) + (2 : Int32))).toNatClampNeg) ≤ 0 then (rec4 (v1_4 ||| (0 : Int32)) (v2_4 + (1 : Int32))) else (rec4 (v1_4 ||| ((1 : Int32) <<< (v2_4 &&& 31))) (v2_4 + (1 : Int32))))))
def fX11_live (c_now : Nat → Int32) : Option (Int32) :=
  fX11_live_L4 c_now 5000 (0 : Int32) (0 : Int32)
set_option maxHeartbeats 4000000 in
set_option maxRecDepth 100000 in
theorem mX11_live (l : Launch) (D : va_G) (cy : Nat → ClassId) (sz : Nat) (b b_now b_imaged b_valueUp b_valueDown b_real b_brief b_order b_waits b_floats b_same b_upOf b_downOf b_tape b_open b_made b_paper b_reachUp b_reachDown b_reachHow b_reachFirst b_reachSecond b_begins b_carried : Nat) (c_hasImage : Int32) (c_above c_below : Int64) (c_orderMany c_waitMany c_seed c_size c_openMany c_paperMany c_reachMany : Int32) (c_now : Nat → Int32) (res : (Int32)) (h : fX11_live c_now = some res) : zMi l yX11_live wsX11_live rmX11_live [.ref b] D cy (wdX11_live cy b b_now b_imaged b_valueUp b_valueDown b_real b_brief b_order b_waits b_floats b_same b_upOf b_downOf b_tape b_open b_made b_paper b_reachUp b_reachDown b_reachHow b_reachFirst b_reachSecond b_begins b_carried c_hasImage c_above c_below c_orderMany c_waitMany c_seed c_size c_openMany c_paperMany c_reachMany c_now) sz ((fun (o : (Int32)) => o) res) ((fun (o : (Int32)) => (wdX11_live cy b b_now b_imaged b_valueUp b_valueDown b_real b_brief b_order b_waits b_floats b_same b_upOf b_downOf b_tape b_open b_made b_paper b_reachUp b_reachDown b_reachHow b_reachFirst b_reachSecond b_begins b_carried c_hasImage c_above c_below c_orderMany c_waitMany c_seed c_size c_openMany c_paperMany c_reachMany c_now)) res) := by
  refine zOfi (res := res) (rf := (fun (o : (Int32)) => o)) (Wf := (fun (o : (Int32)) => (wdX11_live cy b b_now b_imaged b_valueUp b_valueDown b_real b_brief b_order b_waits b_floats b_same b_upOf b_downOf b_tape b_open b_made b_paper b_reachUp b_reachDown b_reachHow b_reachFirst b_reachSecond b_begins b_carried c_hasImage c_above c_below c_orderMany c_waitMany c_seed c_size c_openMany c_paperMany c_reachMany c_now))) (by decide +kernel) rfl (Nat.le_of_ble_eq_true rfl) ?_
  intro p e s m args below meth c A ls Q hx hb hml hts hown hP hK hD hA hS hl hret
  have hown : s.vm.findClass RX11 = some m.cls := hown
  have hl : lv_has ls 3 [(0, .ref b)] := hl
  refine lv_iconst (v := (0 : Int32)) hx hb dX11_live_0 (by decide) ?_
  refine lv_istore_n (lv' := [(1, .int (0 : Int32)), (0, .ref b)]) hx hb dX11_live_1 rfl hl (Nat.le_of_ble_eq_true rfl) rfl (fun ls hl => ?_)
  refine lv_iconst (v := (0 : Int32)) hx hb dX11_live_2 (by decide) ?_
  refine lv_istore_n (lv' := [(2, .int (0 : Int32)), (1, .int (0 : Int32)), (0, .ref b)]) hx hb dX11_live_3 rfl hl (Nat.le_of_ble_eq_true rfl) rfl (fun ls hl => ?_)
  have hL4 : ∀ n4 : Nat, ∀ (v1_4 v2_4 : Int32) (H : Heap) (locs : List Loc) (ls : Array Slot), va_P D vwCl (wdX11_live cy b b_now b_imaged b_valueUp b_valueDown b_real b_brief b_order b_waits b_floats b_same b_upOf b_downOf b_tape b_open b_made b_paper b_reachUp b_reachDown b_reachHow b_reachFirst b_reachSecond b_begins b_carried c_hasImage c_above c_below c_orderMany c_waitMany c_seed c_size c_openMany c_paperMany c_reachMany c_now) H → va_D A (wdX11_live cy b b_now b_imaged b_valueUp b_valueDown b_real b_brief b_order b_waits b_floats b_same b_upOf b_downOf b_tape b_open b_made b_paper b_reachUp b_reachDown b_reachHow b_reachFirst b_reachSecond b_begins b_carried c_hasImage c_above c_below c_orderMany c_waitMany c_seed c_size c_openMany c_paperMany c_reachMany c_now) → va_S A s.heap H locs → lv_has ls 3 [(0, .ref b), (1, .int v1_4), (2, .int v2_4)] → fX11_live_L4 c_now n4 v1_4 v2_4 = some res → W p l e rmX11_live s m args below meth c H locs 0 0 Q (F0 m 4 ls []) := by
    intro n4
    induction n4 with
    | zero =>
      intro v1_4 v2_4 H locs ls hP hD hS hl h
      exact zl2_0 h
    | succ n4 ih4 =>
      intro v1_4 v2_4 H locs ls hP hD hS hl h
      replace h := zl2_s h
      refine lv_iload_n hx hb dX11_live_4 rfl (lv_at hl 2 rfl) ?_
      refine lv_aload_n hx hb dX11_live_5 rfl (lv_at hl 0 rfl) ?_
      refine va_get (D := D) (ci := 11) (v := .ref b_now) (C := RX11) (T := TX11) (N := 33) hx hb hts uX11_live_X11 hown hK.1 hP 0 rfl rfl 0 (by decide) (hts (.fieldLink RX11 9 "WishedResistorModel" "now" "[I") (List.mem_of_getElem? (i := 1) rfl)) (fun _ h9 => h9) rfl dX11_live_6 ?_
      refine lv_sipush (v := (170 : Int32)) hx hb dX11_live_9 (by decide) ?_
      refine va_iald hx hb hK.1 hP 1 0 rfl rfl (show zin (170 : Int32) 261 from by decide) dX11_live_12 ?_
      refine lv_icmp_ge (tgt := 49) hx hb dX11_live_13 (by decide) (fun hc13 => ?_) (fun hc13 => ?_)
      · replace h := zi_t hc13 h
        refine lv_iload_n hx hb dX11_live_49 rfl (lv_at hl 1 rfl) ?_
        exact hret (o := (v1_4)) h hP hD hS dX11_live_50
      · replace h := zi_f hc13 h
        refine lv_iload_n hx hb dX11_live_16 rfl (lv_at hl 1 rfl) ?_
        refine lv_aload_n hx hb dX11_live_17 rfl (lv_at hl 0 rfl) ?_
        refine va_get (D := D) (ci := 11) (v := .ref b_now) (C := RX11) (T := TX11) (N := 33) hx hb hts uX11_live_X11 hown hK.1 hP 0 rfl rfl 0 (by decide) (hts (.fieldLink RX11 9 "WishedResistorModel" "now" "[I") (List.mem_of_getElem? (i := 1) rfl)) (fun _ h9 => h9) rfl dX11_live_18 ?_
        refine lv_sipush (v := (171 : Int32)) hx hb dX11_live_21 (by decide) ?_
        refine lv_iconst (v := (3 : Int32)) hx hb dX11_live_24 (by decide) ?_
        refine lv_iload_n hx hb dX11_live_25 rfl (lv_at hl 2 rfl) ?_
        refine lv_imul hx hb dX11_live_26 ?_
        refine lv_iadd hx hb dX11_live_27 ?_
        refine lv_iconst (v := (2 : Int32)) hx hb dX11_live_28 (by decide) ?_
        refine lv_iadd hx hb dX11_live_29 ?_
        obtain ⟨hi30, h⟩ := zg_s h
        refine va_iald hx hb hK.1 hP 1 0 rfl rfl hi30 dX11_live_30 ?_
        refine lv_if_le (tgt := 40) hx hb dX11_live_31 (by decide) (fun hc31 => ?_) (fun hc31 => ?_)
        · replace h := zi_t hc31 h
          refine lv_iconst (v := (0 : Int32)) hx hb dX11_live_40 (by decide) ?_
          refine lv_ior hx hb dX11_live_41 ?_
          refine lv_istore_n (lv' := [(1, .int (v1_4 ||| (0 : Int32))), (0, .ref b), (2, .int v2_4)]) hx hb dX11_live_42 rfl hl (Nat.le_of_ble_eq_true rfl) rfl (fun ls hl => ?_)
          refine lv_iinc (v := (v2_4 + (1 : Int32))) (lv' := [(2, .int (v2_4 + (1 : Int32))), (1, .int (v1_4 ||| (0 : Int32))), (0, .ref b)]) hx hb dX11_live_43 hl (k := 2) rfl (by rfl) (Nat.le_of_ble_eq_true rfl) rfl (fun ls hl => ?_)
          refine lv_goto (tgt := 4) hx hb dX11_live_46 (by decide) ?_
          exact ih4 (v1_4 ||| (0 : Int32)) (v2_4 + (1 : Int32)) _ _ _ hP hD hS (lv_sub hl [2, 1, 0] rfl) h
        · replace h := zi_f hc31 h
          refine lv_iconst (v := (1 : Int32)) hx hb dX11_live_34 (by decide) ?_
          refine lv_iload_n hx hb dX11_live_35 rfl (lv_at hl 2 rfl) ?_
          refine lv_ishl hx hb dX11_live_36 ?_
          refine lv_goto (tgt := 41) hx hb dX11_live_37 (by decide) ?_
          refine lv_ior hx hb dX11_live_41 ?_
          refine lv_istore_n (lv' := [(1, .int (v1_4 ||| ((1 : Int32) <<< (v2_4 &&& 31)))), (0, .ref b), (2, .int v2_4)]) hx hb dX11_live_42 rfl hl (Nat.le_of_ble_eq_true rfl) rfl (fun ls hl => ?_)
          refine lv_iinc (v := (v2_4 + (1 : Int32))) (lv' := [(2, .int (v2_4 + (1 : Int32))), (1, .int (v1_4 ||| ((1 : Int32) <<< (v2_4 &&& 31)))), (0, .ref b)]) hx hb dX11_live_43 hl (k := 2) rfl (by rfl) (Nat.le_of_ble_eq_true rfl) rfl (fun ls hl => ?_)
          refine lv_goto (tgt := 4) hx hb dX11_live_46 (by decide) ?_
          exact ih4 (v1_4 ||| ((1 : Int32) <<< (v2_4 &&& 31))) (v2_4 + (1 : Int32)) _ _ _ hP hD hS (lv_sub hl [2, 1, 0] rfl) h
  exact hL4 5000 (0 : Int32) (0 : Int32) _ _ _ hP hD hS (lv_sub hl [2, 1, 0] rfl) h

abbrev rmX11_countOf : Room := { frames := 0, cells := 0, slots := 0, locals := 0 }
theorem cdX11_countOf : (yX11_countOf).cls ≠ "java/lang/invoke/MethodHandle" ∧ (yX11_countOf).cls ≠ "java/lang/invoke/VarHandle" ∧ (parseMethodDescriptor (yX11_countOf).desc).map (fun d => d.parameters.length) = some 1 := by decide +kernel
def fX11_countOf_L4 (p1 : Int32) : Nat → Int32 → Int32 → Option (Int32) :=
  zl2 (fun rec4 v1_4 v2_4 => if (8 : Int32) ≤ v2_4 then (some (v1_4)) else (rec4 (v1_4 + ((p1 >>> (v2_4 &&& 31)) &&& (1 : Int32))) (v2_4 + (1 : Int32))))
def fX11_countOf (p1 : Int32) : Option (Int32) :=
  fX11_countOf_L4 p1 5000 (0 : Int32) (0 : Int32)
set_option maxHeartbeats 4000000 in
set_option maxRecDepth 100000 in
theorem mX11_countOf (l : Launch) (D : va_G) (cy : Nat → ClassId) (sz : Nat) (p1 : Int32) (res : (Int32)) (h : fX11_countOf p1 = some res) : zMi l yX11_countOf wsX11_countOf rmX11_countOf [.int p1] D cy ([] : va_W) sz ((fun (o : (Int32)) => o) res) ((fun (_ : (Int32)) => ([] : va_W)) res) := by
  refine zOfi (res := res) (rf := (fun (o : (Int32)) => o)) (Wf := (fun (_ : (Int32)) => ([] : va_W))) (by decide +kernel) rfl (Nat.le_of_ble_eq_true rfl) ?_
  intro p e s m args below meth c A ls Q hx hb hml hts hown hP hK hD hA hS hl hret
  have hown : s.vm.findClass RX11 = some m.cls := hown
  have hl : lv_has ls 3 [(0, .int p1)] := hl
  refine lv_iconst (v := (0 : Int32)) hx hb dX11_countOf_0 (by decide) ?_
  refine lv_istore_n (lv' := [(1, .int (0 : Int32)), (0, .int p1)]) hx hb dX11_countOf_1 rfl hl (Nat.le_of_ble_eq_true rfl) rfl (fun ls hl => ?_)
  refine lv_iconst (v := (0 : Int32)) hx hb dX11_countOf_2 (by decide) ?_
  refine lv_istore_n (lv' := [(2, .int (0 : Int32)), (1, .int (0 : Int32)), (0, .int p1)]) hx hb dX11_countOf_3 rfl hl (Nat.le_of_ble_eq_true rfl) rfl (fun ls hl => ?_)
  have hL4 : ∀ n4 : Nat, ∀ (v1_4 v2_4 : Int32) (H : Heap) (locs : List Loc) (ls : Array Slot), va_P D vwCl ([] : va_W) H → va_D A ([] : va_W) → va_S A s.heap H locs → lv_has ls 3 [(0, .int p1), (1, .int v1_4), (2, .int v2_4)] → fX11_countOf_L4 p1 n4 v1_4 v2_4 = some res → W p l e rmX11_countOf s m args below meth c H locs 0 0 Q (F0 m 4 ls []) := by
    intro n4
    induction n4 with
    | zero =>
      intro v1_4 v2_4 H locs ls hP hD hS hl h
      exact zl2_0 h
    | succ n4 ih4 =>
      intro v1_4 v2_4 H locs ls hP hD hS hl h
      replace h := zl2_s h
      refine lv_iload_n hx hb dX11_countOf_4 rfl (lv_at hl 2 rfl) ?_
      refine lv_bipush (v := (8 : Int32)) hx hb dX11_countOf_5 (by decide) ?_
      refine lv_icmp_ge (tgt := 24) hx hb dX11_countOf_7 (by decide) (fun hc7 => ?_) (fun hc7 => ?_)
      · replace h := zi_t hc7 h
        refine lv_iload_n hx hb dX11_countOf_24 rfl (lv_at hl 1 rfl) ?_
        exact hret (o := (v1_4)) h hP hD hS dX11_countOf_25
      · replace h := zi_f hc7 h
        refine lv_iload_n hx hb dX11_countOf_10 rfl (lv_at hl 1 rfl) ?_
        refine lv_iload_n hx hb dX11_countOf_11 rfl (lv_at hl 0 rfl) ?_
        refine lv_iload_n hx hb dX11_countOf_12 rfl (lv_at hl 2 rfl) ?_
        refine lv_ishr hx hb dX11_countOf_13 ?_
        refine lv_iconst (v := (1 : Int32)) hx hb dX11_countOf_14 (by decide) ?_
        refine lv_iand hx hb dX11_countOf_15 ?_
        refine lv_iadd hx hb dX11_countOf_16 ?_
        refine lv_istore_n (lv' := [(1, .int (v1_4 + ((p1 >>> (v2_4 &&& 31)) &&& (1 : Int32)))), (0, .int p1), (2, .int v2_4)]) hx hb dX11_countOf_17 rfl hl (Nat.le_of_ble_eq_true rfl) rfl (fun ls hl => ?_)
        refine lv_iinc (v := (v2_4 + (1 : Int32))) (lv' := [(2, .int (v2_4 + (1 : Int32))), (1, .int (v1_4 + ((p1 >>> (v2_4 &&& 31)) &&& (1 : Int32)))), (0, .int p1)]) hx hb dX11_countOf_18 hl (k := 2) rfl (by rfl) (Nat.le_of_ble_eq_true rfl) rfl (fun ls hl => ?_)
        refine lv_goto (tgt := 4) hx hb dX11_countOf_21 (by decide) ?_
        exact ih4 (v1_4 + ((p1 >>> (v2_4 &&& 31)) &&& (1 : Int32))) (v2_4 + (1 : Int32)) _ _ _ hP hD hS (lv_sub hl [2, 1, 0] rfl) h
  exact hL4 5000 (0 : Int32) (0 : Int32) _ _ _ hP hD hS (lv_sub hl [2, 1, 0] rfl) h

theorem uX11_othersOf_X11 : ∀ w ∈ u_ws RX11 TX11 33, w ∈ wsX11_othersOf := fun w h => (List.mem_cons_of_mem _ (List.mem_append_right _ h))
abbrev wdX11_othersOf (cy : Nat → ClassId) (b b_now b_imaged b_valueUp b_valueDown b_real b_brief b_order b_waits b_floats b_same b_upOf b_downOf b_tape b_open b_made b_paper b_reachUp b_reachDown b_reachHow b_reachFirst b_reachSecond b_begins b_carried : Nat) (c_hasImage : Int32) (c_above c_below : Int64) (c_orderMany c_waitMany c_seed c_size c_openMany c_paperMany c_reachMany : Int32) (c_now : Nat → Int32) : va_W := [(b, .inr (11, [.ref b_now, .ref b_imaged, .int c_hasImage, .long c_above, .long c_below, .ref b_valueUp, .ref b_valueDown, .ref b_real, .ref b_brief, .ref b_order, .int c_orderMany, .ref b_waits, .int c_waitMany, .ref b_floats, .int c_seed, .ref b_same, .ref b_upOf, .ref b_downOf, .ref b_tape, .int c_size, .ref b_open, .int c_openMany, .ref b_made, .ref b_paper, .int c_paperMany, .ref b_reachUp, .ref b_reachDown, .ref b_reachHow, .ref b_reachFirst, .ref b_reachSecond, .ref b_begins, .int c_reachMany, .ref b_carried])), (b_now, .inl (cy 0, 261, .inl c_now))]
abbrev rmX11_othersOf : Room := { frames := 0, cells := 0, slots := 0, locals := 0 }
theorem cdX11_othersOf : (yX11_othersOf).cls ≠ "java/lang/invoke/MethodHandle" ∧ (yX11_othersOf).cls ≠ "java/lang/invoke/VarHandle" ∧ (parseMethodDescriptor (yX11_othersOf).desc).map (fun d => d.parameters.length) = some 2 := by decide +kernel
def fX11_othersOf_L5 (c_now : Nat → Int32) (p1 p2 : Int32) : Nat → Int64 → Int32 → Option (Int64) :=
  zl2 (fun rec5 v3_5 v5_5 => if (c_now ((170 : Int32)).toNatClampNeg) ≤ v5_5 then (some (v3_5)) else (if (((p1 &&& (p2 ^^^ (-1 : Int32))) >>> (v5_5 &&& 31)) &&& (1 : Int32)) = 0 then (rec5 v3_5 (v5_5 + (1 : Int32))) else (zg (zin (((171 : Int32) + ((3 : Int32) * v5_5)) + (2 : Int32)) 261) (rec5 (v3_5 * (((c_now ((((171 : Int32) + ((3 : Int32) * v5_5)) + (2 : Int32))).toNatClampNeg)).toInt64)) (v5_5 + (1 : Int32))))))
def fX11_othersOf (p1 p2 : Int32) (c_now : Nat → Int32) : Option (Int64) :=
  fX11_othersOf_L5 c_now p1 p2 5000 (1 : Int64) (0 : Int32)
set_option maxHeartbeats 4000000 in
set_option maxRecDepth 100000 in
theorem mX11_othersOf (l : Launch) (D : va_G) (cy : Nat → ClassId) (sz : Nat) (b b_now b_imaged b_valueUp b_valueDown b_real b_brief b_order b_waits b_floats b_same b_upOf b_downOf b_tape b_open b_made b_paper b_reachUp b_reachDown b_reachHow b_reachFirst b_reachSecond b_begins b_carried : Nat) (c_hasImage : Int32) (c_above c_below : Int64) (c_orderMany c_waitMany c_seed c_size c_openMany c_paperMany c_reachMany : Int32) (c_now : Nat → Int32) (p1 p2 : Int32) (res : (Int64)) (h : fX11_othersOf p1 p2 c_now = some res) : zMl l yX11_othersOf wsX11_othersOf rmX11_othersOf [.ref b, .int p1, .int p2] D cy (wdX11_othersOf cy b b_now b_imaged b_valueUp b_valueDown b_real b_brief b_order b_waits b_floats b_same b_upOf b_downOf b_tape b_open b_made b_paper b_reachUp b_reachDown b_reachHow b_reachFirst b_reachSecond b_begins b_carried c_hasImage c_above c_below c_orderMany c_waitMany c_seed c_size c_openMany c_paperMany c_reachMany c_now) sz ((fun (o : (Int64)) => o) res) ((fun (o : (Int64)) => (wdX11_othersOf cy b b_now b_imaged b_valueUp b_valueDown b_real b_brief b_order b_waits b_floats b_same b_upOf b_downOf b_tape b_open b_made b_paper b_reachUp b_reachDown b_reachHow b_reachFirst b_reachSecond b_begins b_carried c_hasImage c_above c_below c_orderMany c_waitMany c_seed c_size c_openMany c_paperMany c_reachMany c_now)) res) := by
  refine zOfl (res := res) (rf := (fun (o : (Int64)) => o)) (Wf := (fun (o : (Int64)) => (wdX11_othersOf cy b b_now b_imaged b_valueUp b_valueDown b_real b_brief b_order b_waits b_floats b_same b_upOf b_downOf b_tape b_open b_made b_paper b_reachUp b_reachDown b_reachHow b_reachFirst b_reachSecond b_begins b_carried c_hasImage c_above c_below c_orderMany c_waitMany c_seed c_size c_openMany c_paperMany c_reachMany c_now))) (by decide +kernel) rfl (Nat.le_of_ble_eq_true rfl) ?_
  intro p e s m args below meth c A ls Q hx hb hml hts hown hP hK hD hA hS hl hret
  have hown : s.vm.findClass RX11 = some m.cls := hown
  have hl : lv_has ls 6 [(0, .ref b), (1, .int p1), (2, .int p2)] := hl
  refine lv_lconst (v := (1 : Int64)) hx hb dX11_othersOf_0 (by decide) ?_
  refine lv_lstore_n (lv' := [(3, .long (1 : Int64)), (0, .ref b), (1, .int p1), (2, .int p2)]) hx hb dX11_othersOf_1 rfl hl (Nat.le_of_ble_eq_true rfl) rfl (fun ls hl => ?_)
  refine lv_iconst (v := (0 : Int32)) hx hb dX11_othersOf_2 (by decide) ?_
  refine lv_istore (lv' := [(5, .int (0 : Int32)), (3, .long (1 : Int64)), (0, .ref b), (1, .int p1), (2, .int p2)]) hx hb dX11_othersOf_3 hl (Nat.le_of_ble_eq_true rfl) rfl (fun ls hl => ?_)
  have hL5 : ∀ n5 : Nat, ∀ (v3_5 : Int64) (v5_5 : Int32) (H : Heap) (locs : List Loc) (ls : Array Slot), va_P D vwCl (wdX11_othersOf cy b b_now b_imaged b_valueUp b_valueDown b_real b_brief b_order b_waits b_floats b_same b_upOf b_downOf b_tape b_open b_made b_paper b_reachUp b_reachDown b_reachHow b_reachFirst b_reachSecond b_begins b_carried c_hasImage c_above c_below c_orderMany c_waitMany c_seed c_size c_openMany c_paperMany c_reachMany c_now) H → va_D A (wdX11_othersOf cy b b_now b_imaged b_valueUp b_valueDown b_real b_brief b_order b_waits b_floats b_same b_upOf b_downOf b_tape b_open b_made b_paper b_reachUp b_reachDown b_reachHow b_reachFirst b_reachSecond b_begins b_carried c_hasImage c_above c_below c_orderMany c_waitMany c_seed c_size c_openMany c_paperMany c_reachMany c_now) → va_S A s.heap H locs → lv_has ls 6 [(0, .ref b), (1, .int p1), (2, .int p2), (3, .long v3_5), (5, .int v5_5)] → fX11_othersOf_L5 c_now p1 p2 n5 v3_5 v5_5 = some res → W p l e rmX11_othersOf s m args below meth c H locs 0 0 Q (F0 m 5 ls []) := by
    intro n5
    induction n5 with
    | zero =>
      intro v3_5 v5_5 H locs ls hP hD hS hl h
      exact zl2_0 h
    | succ n5 ih5 =>
      intro v3_5 v5_5 H locs ls hP hD hS hl h
      replace h := zl2_s h
      refine lv_iload hx hb dX11_othersOf_5 (lv_at hl 4 rfl) ?_
      refine lv_aload_n hx hb dX11_othersOf_7 rfl (lv_at hl 0 rfl) ?_
      refine va_get (D := D) (ci := 11) (v := .ref b_now) (C := RX11) (T := TX11) (N := 33) hx hb hts uX11_othersOf_X11 hown hK.1 hP 0 rfl rfl 0 (by decide) (hts (.fieldLink RX11 9 "WishedResistorModel" "now" "[I") (List.mem_of_getElem? (i := 1) rfl)) (fun _ h9 => h9) rfl dX11_othersOf_8 ?_
      refine lv_sipush (v := (170 : Int32)) hx hb dX11_othersOf_11 (by decide) ?_
      refine va_iald hx hb hK.1 hP 1 0 rfl rfl (show zin (170 : Int32) 261 from by decide) dX11_othersOf_14 ?_
      refine lv_icmp_ge (tgt := 60) hx hb dX11_othersOf_15 (by decide) (fun hc15 => ?_) (fun hc15 => ?_)
      · replace h := zi_t hc15 h
        refine lv_lload_n hx hb dX11_othersOf_60 rfl (lv_at hl 3 rfl) ?_
        exact hret (o := (v3_5)) h hP hD hS dX11_othersOf_61
      · replace h := zi_f hc15 h
        refine lv_iload_n hx hb dX11_othersOf_18 rfl (lv_at hl 1 rfl) ?_
        refine lv_iload_n hx hb dX11_othersOf_19 rfl (lv_at hl 2 rfl) ?_
        refine lv_iconst (v := (-1 : Int32)) hx hb dX11_othersOf_20 (by decide) ?_
        refine lv_ixor hx hb dX11_othersOf_21 ?_
        refine lv_iand hx hb dX11_othersOf_22 ?_
        refine lv_iload hx hb dX11_othersOf_23 (lv_at hl 4 rfl) ?_
        refine lv_ishr hx hb dX11_othersOf_25 ?_
        refine lv_iconst (v := (1 : Int32)) hx hb dX11_othersOf_26 (by decide) ?_
        refine lv_iand hx hb dX11_othersOf_27 ?_
        refine lv_if_ne (tgt := 35) hx hb dX11_othersOf_28 (by decide) (fun hc28 => ?_) (fun hc28 => ?_)
        · replace h := zi_f hc28 h
          refine lv_lload_n hx hb dX11_othersOf_35 rfl (lv_at hl 3 rfl) ?_
          refine lv_aload_n hx hb dX11_othersOf_36 rfl (lv_at hl 0 rfl) ?_
          refine va_get (D := D) (ci := 11) (v := .ref b_now) (C := RX11) (T := TX11) (N := 33) hx hb hts uX11_othersOf_X11 hown hK.1 hP 0 rfl rfl 0 (by decide) (hts (.fieldLink RX11 9 "WishedResistorModel" "now" "[I") (List.mem_of_getElem? (i := 1) rfl)) (fun _ h9 => h9) rfl dX11_othersOf_37 ?_
          refine lv_sipush (v := (171 : Int32)) hx hb dX11_othersOf_40 (by decide) ?_
          refine lv_iconst (v := (3 : Int32)) hx hb dX11_othersOf_43 (by decide) ?_
          refine lv_iload hx hb dX11_othersOf_44 (lv_at hl 4 rfl) ?_
          refine lv_imul hx hb dX11_othersOf_46 ?_
          refine lv_iadd hx hb dX11_othersOf_47 ?_
          refine lv_iconst (v := (2 : Int32)) hx hb dX11_othersOf_48 (by decide) ?_
          refine lv_iadd hx hb dX11_othersOf_49 ?_
          obtain ⟨hi50, h⟩ := zg_s h
          refine va_iald hx hb hK.1 hP 1 0 rfl rfl hi50 dX11_othersOf_50 ?_
          refine lv_i2l hx hb dX11_othersOf_51 rfl ?_
          refine lv_lmul hx hb dX11_othersOf_52 ?_
          refine lv_lstore_n (lv' := [(3, .long (v3_5 * (((c_now ((((171 : Int32) + ((3 : Int32) * v5_5)) + (2 : Int32))).toNatClampNeg)).toInt64))), (0, .ref b), (1, .int p1), (2, .int p2), (5, .int v5_5)]) hx hb dX11_othersOf_53 rfl hl (Nat.le_of_ble_eq_true rfl) rfl (fun ls hl => ?_)
          refine lv_iinc (v := (v5_5 + (1 : Int32))) (lv' := [(5, .int (v5_5 + (1 : Int32))), (3, .long (v3_5 * (((c_now ((((171 : Int32) + ((3 : Int32) * v5_5)) + (2 : Int32))).toNatClampNeg)).toInt64))), (0, .ref b), (1, .int p1), (2, .int p2)]) hx hb dX11_othersOf_54 hl (k := 4) rfl (by rfl) (Nat.le_of_ble_eq_true rfl) rfl (fun ls hl => ?_)
          refine lv_goto (tgt := 5) hx hb dX11_othersOf_57 (by decide) ?_
          exact ih5 (v3_5 * (((c_now ((((171 : Int32) + ((3 : Int32) * v5_5)) + (2 : Int32))).toNatClampNeg)).toInt64)) (v5_5 + (1 : Int32)) _ _ _ hP hD hS (lv_sub hl [2, 3, 4, 1, 0] rfl) h
        · replace h := zi_t hc28 h
          refine lv_lload_n hx hb dX11_othersOf_31 rfl (lv_at hl 3 rfl) ?_
          refine lv_goto (tgt := 53) hx hb dX11_othersOf_32 (by decide) ?_
          refine lv_lstore_n (lv' := [(3, .long v3_5), (0, .ref b), (1, .int p1), (2, .int p2), (5, .int v5_5)]) hx hb dX11_othersOf_53 rfl hl (Nat.le_of_ble_eq_true rfl) rfl (fun ls hl => ?_)
          refine lv_iinc (v := (v5_5 + (1 : Int32))) (lv' := [(5, .int (v5_5 + (1 : Int32))), (3, .long v3_5), (0, .ref b), (1, .int p1), (2, .int p2)]) hx hb dX11_othersOf_54 hl (k := 4) rfl (by rfl) (Nat.le_of_ble_eq_true rfl) rfl (fun ls hl => ?_)
          refine lv_goto (tgt := 5) hx hb dX11_othersOf_57 (by decide) ?_
          exact ih5 v3_5 (v5_5 + (1 : Int32)) _ _ _ hP hD hS (lv_sub hl [2, 3, 4, 1, 0] rfl) h
  exact hL5 5000 (1 : Int64) (0 : Int32) _ _ _ hP hD hS (lv_sub hl [2, 3, 4, 1, 0] rfl) h
