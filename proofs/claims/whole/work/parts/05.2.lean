theorem uX11_valueFailing_X11 : ∀ w ∈ u_ws RX11 TX11 33, w ∈ wsX11_valueFailing := fun w h => (List.mem_cons_of_mem _ (List.mem_append_right _ h))
abbrev wdX11_valueFailing (cy : Nat → ClassId) (b b_now b_imaged b_valueUp b_valueDown b_real b_brief b_order b_waits b_floats b_same b_upOf b_downOf b_tape b_open b_made b_paper b_reachUp b_reachDown b_reachHow b_reachFirst b_reachSecond b_begins b_carried : Nat) (c_hasImage : Int32) (c_above c_below : Int64) (c_orderMany c_waitMany c_seed c_size c_openMany c_paperMany c_reachMany : Int32) (c_order c_now : Nat → Int32) (c_upOf c_downOf : Nat → Int64) : va_W := [(b, .inr (11, [.ref b_now, .ref b_imaged, .int c_hasImage, .long c_above, .long c_below, .ref b_valueUp, .ref b_valueDown, .ref b_real, .ref b_brief, .ref b_order, .int c_orderMany, .ref b_waits, .int c_waitMany, .ref b_floats, .int c_seed, .ref b_same, .ref b_upOf, .ref b_downOf, .ref b_tape, .int c_size, .ref b_open, .int c_openMany, .ref b_made, .ref b_paper, .int c_paperMany, .ref b_reachUp, .ref b_reachDown, .ref b_reachHow, .ref b_reachFirst, .ref b_reachSecond, .ref b_begins, .int c_reachMany, .ref b_carried])), (b_order, .inl (cy 0, 24, .inl c_order)), (b_now, .inl (cy 0, 261, .inl c_now)), (b_upOf, .inl (cy 1, 24, .inr (.inl c_upOf))), (b_downOf, .inl (cy 1, 24, .inr (.inl c_downOf)))]
abbrev rmX11_valueFailing : Room := { frames := 3, cells := 0, slots := 0, locals := 84 }
theorem cdX11_valueFailing : (yX11_valueFailing).cls ≠ "java/lang/invoke/MethodHandle" ∧ (yX11_valueFailing).cls ≠ "java/lang/invoke/VarHandle" ∧ (parseMethodDescriptor (yX11_valueFailing).desc).map (fun d => d.parameters.length) = some 2 := by decide +kernel
def fX11_valueFailing_J178  (c_above_178 c_below_178 : Int64) (c_upOf_178 c_downOf_178 : Nat → Int64) : Option (Int64 × Int64 × (Nat → Int64) × (Nat → Int64)) :=
  some ((c_upOf_178 ((0 : Int32)).toNatClampNeg), (c_downOf_178 ((0 : Int32)).toNatClampNeg), c_upOf_178, c_downOf_178)
def fX11_valueFailing_J101 (v3_8 v4_8 v5_8 : Int32) (c_above_8 c_below_8 : Int64) (c_upOf_8 c_downOf_8 : Nat → Int64) (rec8 : Int32 → Int32 → Int32 → Int64 → Int64 → (Nat → Int64) → (Nat → Int64) → Option (Int64 × Int64 × (Nat → Int64) × (Nat → Int64))) (s2_84 : Int64) (s2_101 : Int64) : Option (Int64 × Int64 × (Nat → Int64) × (Nat → Int64)) :=
  zg (zin v3_8 24) (rec8 (v3_8 + (1 : Int32)) (v4_8 + (1 : Int32)) (v5_8 + (1 : Int32)) c_above_8 c_below_8 (vp_updL c_upOf_8 (v3_8).toNatClampNeg s2_84) (vp_updL c_downOf_8 (v3_8).toNatClampNeg s2_101))
def fX11_valueFailing_J84 (p2 v3_8 v4_8 v5_8 : Int32) (c_above_8 c_below_8 : Int64) (c_upOf_8 c_downOf_8 : Nat → Int64) (rec8 : Int32 → Int32 → Int32 → Int64 → Int64 → (Nat → Int64) → (Nat → Int64) → Option (Int64 × Int64 × (Nat → Int64) × (Nat → Int64))) (s0_46 : Int32) (s2_84 : Int64) : Option (Int64 × Int64 × (Nat → Int64) × (Nat → Int64)) :=
  zg (zin v3_8 24) (if s0_46 = 0 then (fX11_valueFailing_J101 v3_8 v4_8 v5_8 c_above_8 c_below_8 c_upOf_8 c_downOf_8 rec8 s2_84 (1 : Int64)) else (fX11_valueFailing_J101 v3_8 v4_8 v5_8 c_above_8 c_below_8 c_upOf_8 c_downOf_8 rec8 s2_84 ((p2).toInt64)))
def fX11_valueFailing_J46 (c_order c_now : Nat → Int32) (p2 v3_8 v4_8 v5_8 : Int32) (c_above_8 c_below_8 : Int64) (c_upOf_8 c_downOf_8 : Nat → Int64) (rec8 : Int32 → Int32 → Int32 → Int64 → Int64 → (Nat → Int64) → (Nat → Int64) → Option (Int64 × Int64 × (Nat → Int64) × (Nat → Int64))) (s0_46 : Int32) : Option (Int64 × Int64 × (Nat → Int64) × (Nat → Int64)) :=
  if s0_46 = 0 then (zg (zin v5_8 24) (zb1 (fX11_firstOf (c_order (v5_8).toNatClampNeg) c_now) (fun r78 => zg (zin ((0 : Int32) + r78) 261) (fX11_valueFailing_J84 p2 v3_8 v4_8 v5_8 c_above_8 c_below_8 c_upOf_8 c_downOf_8 rec8 s0_46 (((c_now (((0 : Int32) + r78)).toNatClampNeg)).toInt64))))) else (fX11_valueFailing_J84 p2 v3_8 v4_8 v5_8 c_above_8 c_below_8 c_upOf_8 c_downOf_8 rec8 s0_46 ((1 : Int64) - ((p2).toInt64)))
def fX11_valueFailing_L8 (k178_8 : Int64 → Int64 → (Nat → Int64) → (Nat → Int64) → Option (Int64 × Int64 × (Nat → Int64) × (Nat → Int64))) (c_orderMany : Int32) (c_order c_now : Nat → Int32) (p1 p2 : Int32) : Nat → Int32 → Int32 → Int32 → Int64 → Int64 → (Nat → Int64) → (Nat → Int64) → Option (Int64 × Int64 × (Nat → Int64) × (Nat → Int64)) :=
  zl7 (fun rec8 v3_8 v4_8 v5_8 c_above_8 c_below_8 c_upOf_8 c_downOf_8 => if c_orderMany ≤ v5_8 then (k178_8 c_above_8 c_below_8 c_upOf_8 c_downOf_8) else (zg (zin v5_8 24) (zb1 (fX11_kindOf (c_order (v5_8).toNatClampNeg) c_now) (fun r25 => if r25 = 0 then (if v4_8 = p1 then (fX11_valueFailing_J46 c_order c_now p2 v3_8 v4_8 v5_8 c_above_8 c_below_8 c_upOf_8 c_downOf_8 rec8 (1 : Int32)) else (fX11_valueFailing_J46 c_order c_now p2 v3_8 v4_8 v5_8 c_above_8 c_below_8 c_upOf_8 c_downOf_8 rec8 (0 : Int32))) else (zg (zin ((v3_8 + (-1 : Int32)) - (1 : Int32)) 24) (zg (zin ((v3_8 + (-1 : Int32)) - (1 : Int32)) 24) (zg (zin (v3_8 + (-1 : Int32)) 24) (zg (zin (v3_8 + (-1 : Int32)) 24) (zb2 (fX11_joined r25 (c_upOf_8 (((v3_8 + (-1 : Int32)) - (1 : Int32))).toNatClampNeg) (c_downOf_8 (((v3_8 + (-1 : Int32)) - (1 : Int32))).toNatClampNeg) (c_upOf_8 ((v3_8 + (-1 : Int32))).toNatClampNeg) (c_downOf_8 ((v3_8 + (-1 : Int32))).toNatClampNeg) c_above_8 c_below_8) (fun c_above_r145 c_below_r145 => zg (zin ((v3_8 + (-1 : Int32)) - (1 : Int32)) 24) (zg (zin ((v3_8 + (-1 : Int32)) - (1 : Int32)) 24) (rec8 (v3_8 + (-1 : Int32)) v4_8 (v5_8 + (1 : Int32)) c_above_r145 c_below_r145 (vp_updL c_upOf_8 (((v3_8 + (-1 : Int32)) - (1 : Int32))).toNatClampNeg c_above_r145) (vp_updL c_downOf_8 (((v3_8 + (-1 : Int32)) - (1 : Int32))).toNatClampNeg c_below_r145)))))))))))))
def fX11_valueFailing (p1 p2 : Int32) (c_above c_below : Int64) (c_orderMany : Int32) (c_order c_now : Nat → Int32) (c_upOf c_downOf : Nat → Int64) : Option (Int64 × Int64 × (Nat → Int64) × (Nat → Int64)) :=
  fX11_valueFailing_L8 fX11_valueFailing_J178 c_orderMany c_order c_now p1 p2 5000 (0 : Int32) (0 : Int32) (0 : Int32) c_above c_below c_upOf c_downOf
set_option maxHeartbeats 4000000 in
set_option maxRecDepth 100000 in
theorem mX11_valueFailing (l : Launch) (D : va_G) (cy : Nat → ClassId) (sz : Nat) (b b_now b_imaged b_valueUp b_valueDown b_real b_brief b_order b_waits b_floats b_same b_upOf b_downOf b_tape b_open b_made b_paper b_reachUp b_reachDown b_reachHow b_reachFirst b_reachSecond b_begins b_carried : Nat) (c_hasImage : Int32) (c_above c_below : Int64) (c_orderMany c_waitMany c_seed c_size c_openMany c_paperMany c_reachMany : Int32) (c_order c_now : Nat → Int32) (c_upOf c_downOf : Nat → Int64) (p1 p2 : Int32) (res : (Int64 × Int64 × (Nat → Int64) × (Nat → Int64))) (h : fX11_valueFailing p1 p2 c_above c_below c_orderMany c_order c_now c_upOf c_downOf = some res) : zMv l yX11_valueFailing wsX11_valueFailing rmX11_valueFailing [.ref b, .int p1, .int p2] D cy (wdX11_valueFailing cy b b_now b_imaged b_valueUp b_valueDown b_real b_brief b_order b_waits b_floats b_same b_upOf b_downOf b_tape b_open b_made b_paper b_reachUp b_reachDown b_reachHow b_reachFirst b_reachSecond b_begins b_carried c_hasImage c_above c_below c_orderMany c_waitMany c_seed c_size c_openMany c_paperMany c_reachMany c_order c_now c_upOf c_downOf) sz  ((fun (o : (Int64 × Int64 × (Nat → Int64) × (Nat → Int64))) => (wdX11_valueFailing cy b b_now b_imaged b_valueUp b_valueDown b_real b_brief b_order b_waits b_floats b_same b_upOf b_downOf b_tape b_open b_made b_paper b_reachUp b_reachDown b_reachHow b_reachFirst b_reachSecond b_begins b_carried c_hasImage (o.1) (o.2.1) c_orderMany c_waitMany c_seed c_size c_openMany c_paperMany c_reachMany c_order c_now (o.2.2.1) (o.2.2.2))) res) := by
  refine zOfv (res := res) (Wf := (fun (o : (Int64 × Int64 × (Nat → Int64) × (Nat → Int64))) => (wdX11_valueFailing cy b b_now b_imaged b_valueUp b_valueDown b_real b_brief b_order b_waits b_floats b_same b_upOf b_downOf b_tape b_open b_made b_paper b_reachUp b_reachDown b_reachHow b_reachFirst b_reachSecond b_begins b_carried c_hasImage (o.1) (o.2.1) c_orderMany c_waitMany c_seed c_size c_openMany c_paperMany c_reachMany c_order c_now (o.2.2.1) (o.2.2.2)))) (by decide +kernel) rfl (Nat.le_of_ble_eq_true rfl) ?_
  intro p e s m args below meth c A ls Q hx hb hml hts hown hP hK hD hA hS hl hret
  have hown : s.vm.findClass RX11 = some m.cls := hown
  have hl : lv_has ls 8 [(0, .ref b), (1, .int p1), (2, .int p2)] := hl
  refine lv_iconst (v := (0 : Int32)) hx hb dX11_valueFailing_0 (by decide) ?_
  refine lv_istore_n (lv' := [(3, .int (0 : Int32)), (0, .ref b), (1, .int p1), (2, .int p2)]) hx hb dX11_valueFailing_1 rfl hl (Nat.le_of_ble_eq_true rfl) rfl (fun ls hl => ?_)
  refine lv_iconst (v := (0 : Int32)) hx hb dX11_valueFailing_2 (by decide) ?_
  refine lv_istore (lv' := [(4, .int (0 : Int32)), (3, .int (0 : Int32)), (0, .ref b), (1, .int p1), (2, .int p2)]) hx hb dX11_valueFailing_3 hl (Nat.le_of_ble_eq_true rfl) rfl (fun ls hl => ?_)
  refine lv_iconst (v := (0 : Int32)) hx hb dX11_valueFailing_5 (by decide) ?_
  refine lv_istore (lv' := [(5, .int (0 : Int32)), (4, .int (0 : Int32)), (3, .int (0 : Int32)), (0, .ref b), (1, .int p1), (2, .int p2)]) hx hb dX11_valueFailing_6 hl (Nat.le_of_ble_eq_true rfl) rfl (fun ls hl => ?_)
  have hJ178 : ∀ (c_above_178 c_below_178 : Int64) (c_upOf_178 c_downOf_178 : Nat → Int64) (H : Heap) (locs : List Loc) (ls : Array Slot), va_P D vwCl (wdX11_valueFailing cy b b_now b_imaged b_valueUp b_valueDown b_real b_brief b_order b_waits b_floats b_same b_upOf b_downOf b_tape b_open b_made b_paper b_reachUp b_reachDown b_reachHow b_reachFirst b_reachSecond b_begins b_carried c_hasImage c_above_178 c_below_178 c_orderMany c_waitMany c_seed c_size c_openMany c_paperMany c_reachMany c_order c_now c_upOf_178 c_downOf_178) H → va_D A (wdX11_valueFailing cy b b_now b_imaged b_valueUp b_valueDown b_real b_brief b_order b_waits b_floats b_same b_upOf b_downOf b_tape b_open b_made b_paper b_reachUp b_reachDown b_reachHow b_reachFirst b_reachSecond b_begins b_carried c_hasImage c_above_178 c_below_178 c_orderMany c_waitMany c_seed c_size c_openMany c_paperMany c_reachMany c_order c_now c_upOf_178 c_downOf_178) → va_S A s.heap H locs → lv_has ls 8 [(0, .ref b)] → fX11_valueFailing_J178 c_above_178 c_below_178 c_upOf_178 c_downOf_178 = some res → W p l e rmX11_valueFailing s m args below meth c H locs 0 0 Q (F0 m 178 ls []) := by
    intro c_above_178 c_below_178 c_upOf_178 c_downOf_178 H locs ls hP hD hS hl h
    refine lv_aload_n hx hb dX11_valueFailing_178 rfl (lv_at hl 0 rfl) ?_
    refine lv_aload_n hx hb dX11_valueFailing_179 rfl (lv_at hl 0 rfl) ?_
    refine va_get (D := D) (ci := 11) (v := .ref b_upOf) (C := RX11) (T := TX11) (N := 33) hx hb hts uX11_valueFailing_X11 hown hK.1 hP 0 rfl rfl 16 (by decide) (hts (.fieldLink RX11 45 "WishedResistorModel" "upOf" "[J") (List.mem_of_getElem? (i := 3) rfl)) (fun _ h9 => h9) rfl dX11_valueFailing_180 ?_
    refine lv_iconst (v := (0 : Int32)) hx hb dX11_valueFailing_183 (by decide) ?_
    refine va_lald hx hb hK.1 hP 3 1 rfl rfl (show zin (0 : Int32) 24 from by decide) dX11_valueFailing_184 ?_
    refine va_put (D := D) (ci := 11) (v := .long (c_upOf_178 ((0 : Int32)).toNatClampNeg)) (ty := .long) (C := RX11) (T := TX11) (N := 33) hx hb hts uX11_valueFailing_X11 tyX11 tyX11_ok nmX11 hown hK.1 hP hD hS 0 rfl rfl 3 (by decide) (hts (.fieldLink RX11 136 "WishedResistorModel" "above" "J") (List.mem_of_getElem? (i := 6) rfl)) (fun _ h9 => h9) rfl (by decide +kernel) rfl rfl (Nat.le_of_ble_eq_true rfl) dX11_valueFailing_185 (fun H locs hP hD hS => ?_)
    have hP : va_P D vwCl (wdX11_valueFailing cy b b_now b_imaged b_valueUp b_valueDown b_real b_brief b_order b_waits b_floats b_same b_upOf b_downOf b_tape b_open b_made b_paper b_reachUp b_reachDown b_reachHow b_reachFirst b_reachSecond b_begins b_carried c_hasImage (c_upOf_178 ((0 : Int32)).toNatClampNeg) c_below_178 c_orderMany c_waitMany c_seed c_size c_openMany c_paperMany c_reachMany c_order c_now c_upOf_178 c_downOf_178) H := hP
    have hD : va_D A (wdX11_valueFailing cy b b_now b_imaged b_valueUp b_valueDown b_real b_brief b_order b_waits b_floats b_same b_upOf b_downOf b_tape b_open b_made b_paper b_reachUp b_reachDown b_reachHow b_reachFirst b_reachSecond b_begins b_carried c_hasImage (c_upOf_178 ((0 : Int32)).toNatClampNeg) c_below_178 c_orderMany c_waitMany c_seed c_size c_openMany c_paperMany c_reachMany c_order c_now c_upOf_178 c_downOf_178) := hD
    refine lv_aload_n hx hb dX11_valueFailing_188 rfl (lv_at hl 0 rfl) ?_
    refine lv_aload_n hx hb dX11_valueFailing_189 rfl (lv_at hl 0 rfl) ?_
    refine va_get (D := D) (ci := 11) (v := .ref b_downOf) (C := RX11) (T := TX11) (N := 33) hx hb hts uX11_valueFailing_X11 hown hK.1 hP 0 rfl rfl 17 (by decide) (hts (.fieldLink RX11 48 "WishedResistorModel" "downOf" "[J") (List.mem_of_getElem? (i := 5) rfl)) (fun _ h9 => h9) rfl dX11_valueFailing_190 ?_
    refine lv_iconst (v := (0 : Int32)) hx hb dX11_valueFailing_193 (by decide) ?_
    refine va_lald hx hb hK.1 hP 4 1 rfl rfl (show zin (0 : Int32) 24 from by decide) dX11_valueFailing_194 ?_
    refine va_put (D := D) (ci := 11) (v := .long (c_downOf_178 ((0 : Int32)).toNatClampNeg)) (ty := .long) (C := RX11) (T := TX11) (N := 33) hx hb hts uX11_valueFailing_X11 tyX11 tyX11_ok nmX11 hown hK.1 hP hD hS 0 rfl rfl 4 (by decide) (hts (.fieldLink RX11 140 "WishedResistorModel" "below" "J") (List.mem_of_getElem? (i := 7) rfl)) (fun _ h9 => h9) rfl (by decide +kernel) rfl rfl (Nat.le_of_ble_eq_true rfl) dX11_valueFailing_195 (fun H locs hP hD hS => ?_)
    have hP : va_P D vwCl (wdX11_valueFailing cy b b_now b_imaged b_valueUp b_valueDown b_real b_brief b_order b_waits b_floats b_same b_upOf b_downOf b_tape b_open b_made b_paper b_reachUp b_reachDown b_reachHow b_reachFirst b_reachSecond b_begins b_carried c_hasImage (c_upOf_178 ((0 : Int32)).toNatClampNeg) (c_downOf_178 ((0 : Int32)).toNatClampNeg) c_orderMany c_waitMany c_seed c_size c_openMany c_paperMany c_reachMany c_order c_now c_upOf_178 c_downOf_178) H := hP
    have hD : va_D A (wdX11_valueFailing cy b b_now b_imaged b_valueUp b_valueDown b_real b_brief b_order b_waits b_floats b_same b_upOf b_downOf b_tape b_open b_made b_paper b_reachUp b_reachDown b_reachHow b_reachFirst b_reachSecond b_begins b_carried c_hasImage (c_upOf_178 ((0 : Int32)).toNatClampNeg) (c_downOf_178 ((0 : Int32)).toNatClampNeg) c_orderMany c_waitMany c_seed c_size c_openMany c_paperMany c_reachMany c_order c_now c_upOf_178 c_downOf_178) := hD
    exact hret (o := ((c_upOf_178 ((0 : Int32)).toNatClampNeg), (c_downOf_178 ((0 : Int32)).toNatClampNeg), c_upOf_178, c_downOf_178)) h hP hD hS dX11_valueFailing_198
  have hL8 : ∀ n8 : Nat, ∀ (v3_8 v4_8 v5_8 : Int32) (c_above_8 c_below_8 : Int64) (c_upOf_8 c_downOf_8 : Nat → Int64) (H : Heap) (locs : List Loc) (ls : Array Slot), va_P D vwCl (wdX11_valueFailing cy b b_now b_imaged b_valueUp b_valueDown b_real b_brief b_order b_waits b_floats b_same b_upOf b_downOf b_tape b_open b_made b_paper b_reachUp b_reachDown b_reachHow b_reachFirst b_reachSecond b_begins b_carried c_hasImage c_above_8 c_below_8 c_orderMany c_waitMany c_seed c_size c_openMany c_paperMany c_reachMany c_order c_now c_upOf_8 c_downOf_8) H → va_D A (wdX11_valueFailing cy b b_now b_imaged b_valueUp b_valueDown b_real b_brief b_order b_waits b_floats b_same b_upOf b_downOf b_tape b_open b_made b_paper b_reachUp b_reachDown b_reachHow b_reachFirst b_reachSecond b_begins b_carried c_hasImage c_above_8 c_below_8 c_orderMany c_waitMany c_seed c_size c_openMany c_paperMany c_reachMany c_order c_now c_upOf_8 c_downOf_8) → va_S A s.heap H locs → lv_has ls 8 [(0, .ref b), (1, .int p1), (2, .int p2), (3, .int v3_8), (4, .int v4_8), (5, .int v5_8)] → fX11_valueFailing_L8 fX11_valueFailing_J178 c_orderMany c_order c_now p1 p2 n8 v3_8 v4_8 v5_8 c_above_8 c_below_8 c_upOf_8 c_downOf_8 = some res → W p l e rmX11_valueFailing s m args below meth c H locs 0 0 Q (F0 m 8 ls []) := by
    intro n8
    induction n8 with
    | zero =>
      intro v3_8 v4_8 v5_8 c_above_8 c_below_8 c_upOf_8 c_downOf_8 H locs ls hP hD hS hl h
      exact zl7_0 h
    | succ n8 ih8 =>
      intro v3_8 v4_8 v5_8 c_above_8 c_below_8 c_upOf_8 c_downOf_8 H locs ls hP hD hS hl h
      replace h := zl7_s h
      refine lv_iload hx hb dX11_valueFailing_8 (lv_at hl 5 rfl) ?_
      refine lv_aload_n hx hb dX11_valueFailing_10 rfl (lv_at hl 0 rfl) ?_
      refine va_get (D := D) (ci := 11) (v := .int c_orderMany) (C := RX11) (T := TX11) (N := 33) hx hb hts uX11_valueFailing_X11 hown hK.1 hP 0 rfl rfl 10 (by decide) (hts (.fieldLink RX11 182 "WishedResistorModel" "orderMany" "I") (List.mem_of_getElem? (i := 1) rfl)) (fun _ h9 => h9) rfl dX11_valueFailing_11 ?_
      refine lv_icmp_ge (tgt := 178) hx hb dX11_valueFailing_14 (by decide) (fun hc14 => ?_) (fun hc14 => ?_)
      · replace h := zi_t hc14 h
        exact hJ178 c_above_8 c_below_8 c_upOf_8 c_downOf_8 _ _ _ hP hD hS (lv_sub hl [0] rfl) h
      · replace h := zi_f hc14 h
        refine lv_aload_n hx hb dX11_valueFailing_17 rfl (lv_at hl 0 rfl) ?_
        refine lv_aload_n hx hb dX11_valueFailing_18 rfl (lv_at hl 0 rfl) ?_
        refine va_get (D := D) (ci := 11) (v := .ref b_order) (C := RX11) (T := TX11) (N := 33) hx hb hts uX11_valueFailing_X11 hown hK.1 hP 0 rfl rfl 9 (by decide) (hts (.fieldLink RX11 33 "WishedResistorModel" "order" "[I") (List.mem_of_getElem? (i := 2) rfl)) (fun _ h9 => h9) rfl dX11_valueFailing_19 ?_
        refine lv_iload hx hb dX11_valueFailing_22 (lv_at hl 5 rfl) ?_
        obtain ⟨hi24, h⟩ := zg_s h
        refine va_iald hx hb hK.1 hP 1 0 rfl rfl hi24 dX11_valueFailing_24 ?_
        obtain ⟨r25, hq25, h⟩ := zb1_s h
        refine zCi (r0 := r25) (w1 := (wdX11_kindOf cy b b_now b_imaged b_valueUp b_valueDown b_real b_brief b_order b_waits b_floats b_same b_upOf b_downOf b_tape b_open b_made b_paper b_reachUp b_reachDown b_reachHow b_reachFirst b_reachSecond b_begins b_carried c_hasImage c_above_8 c_below_8 c_orderMany c_waitMany c_seed c_size c_openMany c_paperMany c_reachMany c_now)) (ws' := (wdX11_valueFailing cy b b_now b_imaged b_valueUp b_valueDown b_real b_brief b_order b_waits b_floats b_same b_upOf b_downOf b_tape b_open b_made b_paper b_reachUp b_reachDown b_reachHow b_reachFirst b_reachSecond b_begins b_carried c_hasImage c_above_8 c_below_8 c_orderMany c_waitMany c_seed c_size c_openMany c_paperMany c_reachMany c_order c_now c_upOf_8 c_downOf_8)) (va_runV (As := [.int (c_order (v5_8).toNatClampNeg)]) (rest := []) ⟨hx, hb, hml, hown, hts⟩ (mX11_kindOf l D cy H.size b b_now b_imaged b_valueUp b_valueDown b_real b_brief b_order b_waits b_floats b_same b_upOf b_downOf b_tape b_open b_made b_paper b_reachUp b_reachDown b_reachHow b_reachFirst b_reachSecond b_begins b_carried c_hasImage c_above_8 c_below_8 c_orderMany c_waitMany c_seed c_size c_openMany c_paperMany c_reachMany c_now (c_order (v5_8).toNatClampNeg) (r25) hq25) (cwV 1 hts gX11_valueFailing_X11_kindOf rfl rfl rfl ⟨rfl, cdX11_kindOf⟩ ⟨Nat.le_of_ble_eq_true rfl, Nat.le_of_ble_eq_true rfl⟩) (zPV hK hP hD [0, 2] rfl rfl (q0 := 0) (ci := 11) rfl rfl rfl) rfl rfl hl.1 rfl (lv_room (Nat.le_of_ble_eq_true rfl)) dX11_valueFailing_25 ⟨Nat.zero_le _, Nat.zero_le _⟩) hP hD hS hA [0, 2] [1, 3, 4] [3, 0, 4, 1, 2] rfl rfl rfl rfl (fun H locs hP hD hS => ?_)
        refine lv_istore (lv' := [(6, .int r25), (0, .ref b), (1, .int p1), (2, .int p2), (3, .int v3_8), (4, .int v4_8), (5, .int v5_8)]) hx hb dX11_valueFailing_28 hl (Nat.le_of_ble_eq_true rfl) rfl (fun ls hl => ?_)
        refine lv_iload hx hb dX11_valueFailing_30 (lv_at hl 0 rfl) ?_
        refine lv_if_ne (tgt := 111) hx hb dX11_valueFailing_32 (by decide) (fun hc32 => ?_) (fun hc32 => ?_)
        · replace h := zi_f hc32 h
          refine lv_iinc (v := (v3_8 + (-1 : Int32))) (lv' := [(3, .int (v3_8 + (-1 : Int32))), (6, .int r25), (0, .ref b), (1, .int p1), (2, .int p2), (4, .int v4_8), (5, .int v5_8)]) hx hb dX11_valueFailing_111 hl (k := 4) rfl (by rw [show (Int32.ofInt (-1)) = (-1 : Int32) from by decide]) (Nat.le_of_ble_eq_true rfl) rfl (fun ls hl => ?_)
          refine lv_aload_n hx hb dX11_valueFailing_114 rfl (lv_at hl 2 rfl) ?_
          refine lv_iload hx hb dX11_valueFailing_115 (lv_at hl 1 rfl) ?_
          refine lv_aload_n hx hb dX11_valueFailing_117 rfl (lv_at hl 2 rfl) ?_
          refine va_get (D := D) (ci := 11) (v := .ref b_upOf) (C := RX11) (T := TX11) (N := 33) hx hb hts uX11_valueFailing_X11 hown hK.1 hP 0 rfl rfl 16 (by decide) (hts (.fieldLink RX11 45 "WishedResistorModel" "upOf" "[J") (List.mem_of_getElem? (i := 3) rfl)) (fun _ h9 => h9) rfl dX11_valueFailing_118 ?_
          refine lv_iload_n hx hb dX11_valueFailing_121 rfl (lv_at hl 0 rfl) ?_
          refine lv_iconst (v := (1 : Int32)) hx hb dX11_valueFailing_122 (by decide) ?_
          refine lv_isub hx hb dX11_valueFailing_123 ?_
          obtain ⟨hi124, h⟩ := zg_s h
          refine va_lald hx hb hK.1 hP 3 1 rfl rfl hi124 dX11_valueFailing_124 ?_
          refine lv_aload_n hx hb dX11_valueFailing_125 rfl (lv_at hl 2 rfl) ?_
          refine va_get (D := D) (ci := 11) (v := .ref b_downOf) (C := RX11) (T := TX11) (N := 33) hx hb hts uX11_valueFailing_X11 hown hK.1 hP 0 rfl rfl 17 (by decide) (hts (.fieldLink RX11 48 "WishedResistorModel" "downOf" "[J") (List.mem_of_getElem? (i := 5) rfl)) (fun _ h9 => h9) rfl dX11_valueFailing_126 ?_
          refine lv_iload_n hx hb dX11_valueFailing_129 rfl (lv_at hl 0 rfl) ?_
          refine lv_iconst (v := (1 : Int32)) hx hb dX11_valueFailing_130 (by decide) ?_
          refine lv_isub hx hb dX11_valueFailing_131 ?_
          obtain ⟨hi132, h⟩ := zg_s h
          refine va_lald hx hb hK.1 hP 4 1 rfl rfl hi132 dX11_valueFailing_132 ?_
          refine lv_aload_n hx hb dX11_valueFailing_133 rfl (lv_at hl 2 rfl) ?_
          refine va_get (D := D) (ci := 11) (v := .ref b_upOf) (C := RX11) (T := TX11) (N := 33) hx hb hts uX11_valueFailing_X11 hown hK.1 hP 0 rfl rfl 16 (by decide) (hts (.fieldLink RX11 45 "WishedResistorModel" "upOf" "[J") (List.mem_of_getElem? (i := 3) rfl)) (fun _ h9 => h9) rfl dX11_valueFailing_134 ?_
          refine lv_iload_n hx hb dX11_valueFailing_137 rfl (lv_at hl 0 rfl) ?_
          obtain ⟨hi138, h⟩ := zg_s h
          refine va_lald hx hb hK.1 hP 3 1 rfl rfl hi138 dX11_valueFailing_138 ?_
          refine lv_aload_n hx hb dX11_valueFailing_139 rfl (lv_at hl 2 rfl) ?_
          refine va_get (D := D) (ci := 11) (v := .ref b_downOf) (C := RX11) (T := TX11) (N := 33) hx hb hts uX11_valueFailing_X11 hown hK.1 hP 0 rfl rfl 17 (by decide) (hts (.fieldLink RX11 48 "WishedResistorModel" "downOf" "[J") (List.mem_of_getElem? (i := 5) rfl)) (fun _ h9 => h9) rfl dX11_valueFailing_140 ?_
          refine lv_iload_n hx hb dX11_valueFailing_143 rfl (lv_at hl 0 rfl) ?_
          obtain ⟨hi144, h⟩ := zg_s h
          refine va_lald hx hb hK.1 hP 4 1 rfl rfl hi144 dX11_valueFailing_144 ?_
          obtain ⟨c_above_r145, c_below_r145, hq145, h⟩ := zb2_s h
          refine zCv (w1 := (wdX11_joined cy b b_now b_imaged b_valueUp b_valueDown b_real b_brief b_order b_waits b_floats b_same b_upOf b_downOf b_tape b_open b_made b_paper b_reachUp b_reachDown b_reachHow b_reachFirst b_reachSecond b_begins b_carried c_hasImage c_above_r145 c_below_r145 c_orderMany c_waitMany c_seed c_size c_openMany c_paperMany c_reachMany)) (ws' := (wdX11_valueFailing cy b b_now b_imaged b_valueUp b_valueDown b_real b_brief b_order b_waits b_floats b_same b_upOf b_downOf b_tape b_open b_made b_paper b_reachUp b_reachDown b_reachHow b_reachFirst b_reachSecond b_begins b_carried c_hasImage c_above_r145 c_below_r145 c_orderMany c_waitMany c_seed c_size c_openMany c_paperMany c_reachMany c_order c_now c_upOf_8 c_downOf_8)) (va_runV (As := [.int r25, .long (c_upOf_8 (((v3_8 + (-1 : Int32)) - (1 : Int32))).toNatClampNeg), .long (c_downOf_8 (((v3_8 + (-1 : Int32)) - (1 : Int32))).toNatClampNeg), .long (c_upOf_8 ((v3_8 + (-1 : Int32))).toNatClampNeg), .long (c_downOf_8 ((v3_8 + (-1 : Int32))).toNatClampNeg)]) (rest := []) ⟨hx, hb, hml, hown, hts⟩ (mX11_joined l D cy H.size b b_now b_imaged b_valueUp b_valueDown b_real b_brief b_order b_waits b_floats b_same b_upOf b_downOf b_tape b_open b_made b_paper b_reachUp b_reachDown b_reachHow b_reachFirst b_reachSecond b_begins b_carried c_hasImage c_above_8 c_below_8 c_orderMany c_waitMany c_seed c_size c_openMany c_paperMany c_reachMany r25 (c_upOf_8 (((v3_8 + (-1 : Int32)) - (1 : Int32))).toNatClampNeg) (c_downOf_8 (((v3_8 + (-1 : Int32)) - (1 : Int32))).toNatClampNeg) (c_upOf_8 ((v3_8 + (-1 : Int32))).toNatClampNeg) (c_downOf_8 ((v3_8 + (-1 : Int32))).toNatClampNeg) (c_above_r145, c_below_r145) hq145) (cwV 5 hts gX11_valueFailing_X11_joined rfl rfl rfl ⟨rfl, cdX11_joined⟩ ⟨Nat.le_of_ble_eq_true rfl, Nat.le_of_ble_eq_true rfl⟩) (zPV hK hP hD [0] rfl rfl (q0 := 0) (ci := 11) rfl rfl rfl) rfl rfl hl.1 rfl (lv_room (Nat.le_of_ble_eq_true rfl)) dX11_valueFailing_145 ⟨Nat.zero_le _, Nat.zero_le _⟩) hP hD hS hA [0] [1, 2, 3, 4] [4, 0, 1, 2, 3] rfl rfl rfl rfl (fun H locs hP hD hS => ?_)
          refine lv_aload_n hx hb dX11_valueFailing_148 rfl (lv_at hl 2 rfl) ?_
          refine va_get (D := D) (ci := 11) (v := .ref b_upOf) (C := RX11) (T := TX11) (N := 33) hx hb hts uX11_valueFailing_X11 hown hK.1 hP 0 rfl rfl 16 (by decide) (hts (.fieldLink RX11 45 "WishedResistorModel" "upOf" "[J") (List.mem_of_getElem? (i := 3) rfl)) (fun _ h9 => h9) rfl dX11_valueFailing_149 ?_
          refine lv_iload_n hx hb dX11_valueFailing_152 rfl (lv_at hl 0 rfl) ?_
          refine lv_iconst (v := (1 : Int32)) hx hb dX11_valueFailing_153 (by decide) ?_
          refine lv_isub hx hb dX11_valueFailing_154 ?_
          refine lv_aload_n hx hb dX11_valueFailing_155 rfl (lv_at hl 2 rfl) ?_
          refine va_get (D := D) (ci := 11) (v := .long c_above_r145) (C := RX11) (T := TX11) (N := 33) hx hb hts uX11_valueFailing_X11 hown hK.1 hP 0 rfl rfl 3 (by decide) (hts (.fieldLink RX11 136 "WishedResistorModel" "above" "J") (List.mem_of_getElem? (i := 6) rfl)) (fun _ h9 => h9) rfl dX11_valueFailing_156 ?_
          obtain ⟨hi159, h⟩ := zg_s h
          refine va_last hx hb hK.1 hP hD hS 3 1 rfl rfl hi159 dX11_valueFailing_159 (fun H locs hP hD hS => ?_)
          have hP : va_P D vwCl (wdX11_valueFailing cy b b_now b_imaged b_valueUp b_valueDown b_real b_brief b_order b_waits b_floats b_same b_upOf b_downOf b_tape b_open b_made b_paper b_reachUp b_reachDown b_reachHow b_reachFirst b_reachSecond b_begins b_carried c_hasImage c_above_r145 c_below_r145 c_orderMany c_waitMany c_seed c_size c_openMany c_paperMany c_reachMany c_order c_now (vp_updL c_upOf_8 (((v3_8 + (-1 : Int32)) - (1 : Int32))).toNatClampNeg c_above_r145) c_downOf_8) H := hP
          have hD : va_D A (wdX11_valueFailing cy b b_now b_imaged b_valueUp b_valueDown b_real b_brief b_order b_waits b_floats b_same b_upOf b_downOf b_tape b_open b_made b_paper b_reachUp b_reachDown b_reachHow b_reachFirst b_reachSecond b_begins b_carried c_hasImage c_above_r145 c_below_r145 c_orderMany c_waitMany c_seed c_size c_openMany c_paperMany c_reachMany c_order c_now (vp_updL c_upOf_8 (((v3_8 + (-1 : Int32)) - (1 : Int32))).toNatClampNeg c_above_r145) c_downOf_8) := hD
          refine lv_aload_n hx hb dX11_valueFailing_160 rfl (lv_at hl 2 rfl) ?_
          refine va_get (D := D) (ci := 11) (v := .ref b_downOf) (C := RX11) (T := TX11) (N := 33) hx hb hts uX11_valueFailing_X11 hown hK.1 hP 0 rfl rfl 17 (by decide) (hts (.fieldLink RX11 48 "WishedResistorModel" "downOf" "[J") (List.mem_of_getElem? (i := 5) rfl)) (fun _ h9 => h9) rfl dX11_valueFailing_161 ?_
          refine lv_iload_n hx hb dX11_valueFailing_164 rfl (lv_at hl 0 rfl) ?_
          refine lv_iconst (v := (1 : Int32)) hx hb dX11_valueFailing_165 (by decide) ?_
          refine lv_isub hx hb dX11_valueFailing_166 ?_
          refine lv_aload_n hx hb dX11_valueFailing_167 rfl (lv_at hl 2 rfl) ?_
          refine va_get (D := D) (ci := 11) (v := .long c_below_r145) (C := RX11) (T := TX11) (N := 33) hx hb hts uX11_valueFailing_X11 hown hK.1 hP 0 rfl rfl 4 (by decide) (hts (.fieldLink RX11 140 "WishedResistorModel" "below" "J") (List.mem_of_getElem? (i := 7) rfl)) (fun _ h9 => h9) rfl dX11_valueFailing_168 ?_
          obtain ⟨hi171, h⟩ := zg_s h
          refine va_last hx hb hK.1 hP hD hS 4 1 rfl rfl hi171 dX11_valueFailing_171 (fun H locs hP hD hS => ?_)
          have hP : va_P D vwCl (wdX11_valueFailing cy b b_now b_imaged b_valueUp b_valueDown b_real b_brief b_order b_waits b_floats b_same b_upOf b_downOf b_tape b_open b_made b_paper b_reachUp b_reachDown b_reachHow b_reachFirst b_reachSecond b_begins b_carried c_hasImage c_above_r145 c_below_r145 c_orderMany c_waitMany c_seed c_size c_openMany c_paperMany c_reachMany c_order c_now (vp_updL c_upOf_8 (((v3_8 + (-1 : Int32)) - (1 : Int32))).toNatClampNeg c_above_r145) (vp_updL c_downOf_8 (((v3_8 + (-1 : Int32)) - (1 : Int32))).toNatClampNeg c_below_r145)) H := hP
          have hD : va_D A (wdX11_valueFailing cy b b_now b_imaged b_valueUp b_valueDown b_real b_brief b_order b_waits b_floats b_same b_upOf b_downOf b_tape b_open b_made b_paper b_reachUp b_reachDown b_reachHow b_reachFirst b_reachSecond b_begins b_carried c_hasImage c_above_r145 c_below_r145 c_orderMany c_waitMany c_seed c_size c_openMany c_paperMany c_reachMany c_order c_now (vp_updL c_upOf_8 (((v3_8 + (-1 : Int32)) - (1 : Int32))).toNatClampNeg c_above_r145) (vp_updL c_downOf_8 (((v3_8 + (-1 : Int32)) - (1 : Int32))).toNatClampNeg c_below_r145)) := hD
          refine lv_iinc (v := (v5_8 + (1 : Int32))) (lv' := [(5, .int (v5_8 + (1 : Int32))), (3, .int (v3_8 + (-1 : Int32))), (6, .int r25), (0, .ref b), (1, .int p1), (2, .int p2), (4, .int v4_8)]) hx hb dX11_valueFailing_172 hl (k := 6) rfl (by rfl) (Nat.le_of_ble_eq_true rfl) rfl (fun ls hl => ?_)
          refine lv_goto (tgt := 8) hx hb dX11_valueFailing_175 (by decide) ?_
          exact ih8 (v3_8 + (-1 : Int32)) v4_8 (v5_8 + (1 : Int32)) c_above_r145 c_below_r145 (vp_updL c_upOf_8 (((v3_8 + (-1 : Int32)) - (1 : Int32))).toNatClampNeg c_above_r145) (vp_updL c_downOf_8 (((v3_8 + (-1 : Int32)) - (1 : Int32))).toNatClampNeg c_below_r145) _ _ _ hP hD hS (lv_sub hl [3, 4, 5, 1, 6, 0] rfl) h
        · replace h := zi_t hc32 h
          refine lv_iload hx hb dX11_valueFailing_35 (lv_at hl 5 rfl) ?_
          refine lv_iload_n hx hb dX11_valueFailing_37 rfl (lv_at hl 2 rfl) ?_
          have hJ46 : ∀ (s0_46 : Int32) (H : Heap) (locs : List Loc) (ls : Array Slot), va_P D vwCl (wdX11_valueFailing cy b b_now b_imaged b_valueUp b_valueDown b_real b_brief b_order b_waits b_floats b_same b_upOf b_downOf b_tape b_open b_made b_paper b_reachUp b_reachDown b_reachHow b_reachFirst b_reachSecond b_begins b_carried c_hasImage c_above_8 c_below_8 c_orderMany c_waitMany c_seed c_size c_openMany c_paperMany c_reachMany c_order c_now c_upOf_8 c_downOf_8) H → va_D A (wdX11_valueFailing cy b b_now b_imaged b_valueUp b_valueDown b_real b_brief b_order b_waits b_floats b_same b_upOf b_downOf b_tape b_open b_made b_paper b_reachUp b_reachDown b_reachHow b_reachFirst b_reachSecond b_begins b_carried c_hasImage c_above_8 c_below_8 c_orderMany c_waitMany c_seed c_size c_openMany c_paperMany c_reachMany c_order c_now c_upOf_8 c_downOf_8) → va_S A s.heap H locs → lv_has ls 8 [(0, .ref b), (1, .int p1), (2, .int p2), (3, .int v3_8), (4, .int v4_8), (5, .int v5_8)] → fX11_valueFailing_J46 c_order c_now p2 v3_8 v4_8 v5_8 c_above_8 c_below_8 c_upOf_8 c_downOf_8 (fX11_valueFailing_L8 fX11_valueFailing_J178 c_orderMany c_order c_now p1 p2 n8) s0_46 = some res → W p l e rmX11_valueFailing s m args below meth c H locs 0 0 Q (F0 m 46 ls [.int s0_46]) := by
            intro s0_46 H locs ls hP hD hS hl h
            refine lv_istore (lv' := [(7, .int s0_46), (0, .ref b), (1, .int p1), (2, .int p2), (3, .int v3_8), (4, .int v4_8), (5, .int v5_8)]) hx hb dX11_valueFailing_46 hl (Nat.le_of_ble_eq_true rfl) rfl (fun ls hl => ?_)
            refine lv_aload_n hx hb dX11_valueFailing_48 rfl (lv_at hl 1 rfl) ?_
            refine va_get (D := D) (ci := 11) (v := .ref b_upOf) (C := RX11) (T := TX11) (N := 33) hx hb hts uX11_valueFailing_X11 hown hK.1 hP 0 rfl rfl 16 (by decide) (hts (.fieldLink RX11 45 "WishedResistorModel" "upOf" "[J") (List.mem_of_getElem? (i := 3) rfl)) (fun _ h9 => h9) rfl dX11_valueFailing_49 ?_
            refine lv_iload_n hx hb dX11_valueFailing_52 rfl (lv_at hl 4 rfl) ?_
            refine lv_iload hx hb dX11_valueFailing_53 (lv_at hl 0 rfl) ?_
            have hJ84 : ∀ (s2_84 : Int64) (H : Heap) (locs : List Loc) (ls : Array Slot), va_P D vwCl (wdX11_valueFailing cy b b_now b_imaged b_valueUp b_valueDown b_real b_brief b_order b_waits b_floats b_same b_upOf b_downOf b_tape b_open b_made b_paper b_reachUp b_reachDown b_reachHow b_reachFirst b_reachSecond b_begins b_carried c_hasImage c_above_8 c_below_8 c_orderMany c_waitMany c_seed c_size c_openMany c_paperMany c_reachMany c_order c_now c_upOf_8 c_downOf_8) H → va_D A (wdX11_valueFailing cy b b_now b_imaged b_valueUp b_valueDown b_real b_brief b_order b_waits b_floats b_same b_upOf b_downOf b_tape b_open b_made b_paper b_reachUp b_reachDown b_reachHow b_reachFirst b_reachSecond b_begins b_carried c_hasImage c_above_8 c_below_8 c_orderMany c_waitMany c_seed c_size c_openMany c_paperMany c_reachMany c_order c_now c_upOf_8 c_downOf_8) → va_S A s.heap H locs → lv_has ls 8 [(0, .ref b), (1, .int p1), (2, .int p2), (3, .int v3_8), (4, .int v4_8), (5, .int v5_8), (7, .int s0_46)] → fX11_valueFailing_J84 p2 v3_8 v4_8 v5_8 c_above_8 c_below_8 c_upOf_8 c_downOf_8 (fX11_valueFailing_L8 fX11_valueFailing_J178 c_orderMany c_order c_now p1 p2 n8) s0_46 s2_84 = some res → W p l e rmX11_valueFailing s m args below meth c H locs 0 0 Q (F0 m 84 ls [.long s2_84, .int v3_8, .ref b_upOf]) := by
              intro s2_84 H locs ls hP hD hS hl h
              obtain ⟨hi84, h⟩ := zg_s h
              refine va_last hx hb hK.1 hP hD hS 3 1 rfl rfl hi84 dX11_valueFailing_84 (fun H locs hP hD hS => ?_)
              have hP : va_P D vwCl (wdX11_valueFailing cy b b_now b_imaged b_valueUp b_valueDown b_real b_brief b_order b_waits b_floats b_same b_upOf b_downOf b_tape b_open b_made b_paper b_reachUp b_reachDown b_reachHow b_reachFirst b_reachSecond b_begins b_carried c_hasImage c_above_8 c_below_8 c_orderMany c_waitMany c_seed c_size c_openMany c_paperMany c_reachMany c_order c_now (vp_updL c_upOf_8 (v3_8).toNatClampNeg s2_84) c_downOf_8) H := hP
              have hD : va_D A (wdX11_valueFailing cy b b_now b_imaged b_valueUp b_valueDown b_real b_brief b_order b_waits b_floats b_same b_upOf b_downOf b_tape b_open b_made b_paper b_reachUp b_reachDown b_reachHow b_reachFirst b_reachSecond b_begins b_carried c_hasImage c_above_8 c_below_8 c_orderMany c_waitMany c_seed c_size c_openMany c_paperMany c_reachMany c_order c_now (vp_updL c_upOf_8 (v3_8).toNatClampNeg s2_84) c_downOf_8) := hD
              refine lv_aload_n hx hb dX11_valueFailing_85 rfl (lv_at hl 0 rfl) ?_
              refine va_get (D := D) (ci := 11) (v := .ref b_downOf) (C := RX11) (T := TX11) (N := 33) hx hb hts uX11_valueFailing_X11 hown hK.1 hP 0 rfl rfl 17 (by decide) (hts (.fieldLink RX11 48 "WishedResistorModel" "downOf" "[J") (List.mem_of_getElem? (i := 5) rfl)) (fun _ h9 => h9) rfl dX11_valueFailing_86 ?_
              refine lv_iload_n hx hb dX11_valueFailing_89 rfl (lv_at hl 3 rfl) ?_
              refine lv_iload hx hb dX11_valueFailing_90 (lv_at hl 6 rfl) ?_
              have hJ101 : ∀ (s2_101 : Int64) (H : Heap) (locs : List Loc) (ls : Array Slot), va_P D vwCl (wdX11_valueFailing cy b b_now b_imaged b_valueUp b_valueDown b_real b_brief b_order b_waits b_floats b_same b_upOf b_downOf b_tape b_open b_made b_paper b_reachUp b_reachDown b_reachHow b_reachFirst b_reachSecond b_begins b_carried c_hasImage c_above_8 c_below_8 c_orderMany c_waitMany c_seed c_size c_openMany c_paperMany c_reachMany c_order c_now (vp_updL c_upOf_8 (v3_8).toNatClampNeg s2_84) c_downOf_8) H → va_D A (wdX11_valueFailing cy b b_now b_imaged b_valueUp b_valueDown b_real b_brief b_order b_waits b_floats b_same b_upOf b_downOf b_tape b_open b_made b_paper b_reachUp b_reachDown b_reachHow b_reachFirst b_reachSecond b_begins b_carried c_hasImage c_above_8 c_below_8 c_orderMany c_waitMany c_seed c_size c_openMany c_paperMany c_reachMany c_order c_now (vp_updL c_upOf_8 (v3_8).toNatClampNeg s2_84) c_downOf_8) → va_S A s.heap H locs → lv_has ls 8 [(0, .ref b), (1, .int p1), (2, .int p2), (3, .int v3_8), (4, .int v4_8), (5, .int v5_8)] → fX11_valueFailing_J101 v3_8 v4_8 v5_8 c_above_8 c_below_8 c_upOf_8 c_downOf_8 (fX11_valueFailing_L8 fX11_valueFailing_J178 c_orderMany c_order c_now p1 p2 n8) s2_84 s2_101 = some res → W p l e rmX11_valueFailing s m args below meth c H locs 0 0 Q (F0 m 101 ls [.long s2_101, .int v3_8, .ref b_downOf]) := by
                intro s2_101 H locs ls hP hD hS hl h
                obtain ⟨hi101, h⟩ := zg_s h
                refine va_last hx hb hK.1 hP hD hS 4 1 rfl rfl hi101 dX11_valueFailing_101 (fun H locs hP hD hS => ?_)
                have hP : va_P D vwCl (wdX11_valueFailing cy b b_now b_imaged b_valueUp b_valueDown b_real b_brief b_order b_waits b_floats b_same b_upOf b_downOf b_tape b_open b_made b_paper b_reachUp b_reachDown b_reachHow b_reachFirst b_reachSecond b_begins b_carried c_hasImage c_above_8 c_below_8 c_orderMany c_waitMany c_seed c_size c_openMany c_paperMany c_reachMany c_order c_now (vp_updL c_upOf_8 (v3_8).toNatClampNeg s2_84) (vp_updL c_downOf_8 (v3_8).toNatClampNeg s2_101)) H := hP
                have hD : va_D A (wdX11_valueFailing cy b b_now b_imaged b_valueUp b_valueDown b_real b_brief b_order b_waits b_floats b_same b_upOf b_downOf b_tape b_open b_made b_paper b_reachUp b_reachDown b_reachHow b_reachFirst b_reachSecond b_begins b_carried c_hasImage c_above_8 c_below_8 c_orderMany c_waitMany c_seed c_size c_openMany c_paperMany c_reachMany c_order c_now (vp_updL c_upOf_8 (v3_8).toNatClampNeg s2_84) (vp_updL c_downOf_8 (v3_8).toNatClampNeg s2_101)) := hD
                refine lv_iinc (v := (v4_8 + (1 : Int32))) (lv' := [(4, .int (v4_8 + (1 : Int32))), (0, .ref b), (1, .int p1), (2, .int p2), (3, .int v3_8), (5, .int v5_8)]) hx hb dX11_valueFailing_102 hl (k := 4) rfl (by rfl) (Nat.le_of_ble_eq_true rfl) rfl (fun ls hl => ?_)
                refine lv_iinc (v := (v3_8 + (1 : Int32))) (lv' := [(3, .int (v3_8 + (1 : Int32))), (4, .int (v4_8 + (1 : Int32))), (0, .ref b), (1, .int p1), (2, .int p2), (5, .int v5_8)]) hx hb dX11_valueFailing_105 hl (k := 4) rfl (by rfl) (Nat.le_of_ble_eq_true rfl) rfl (fun ls hl => ?_)
                refine lv_goto (tgt := 172) hx hb dX11_valueFailing_108 (by decide) ?_
                refine lv_iinc (v := (v5_8 + (1 : Int32))) (lv' := [(5, .int (v5_8 + (1 : Int32))), (3, .int (v3_8 + (1 : Int32))), (4, .int (v4_8 + (1 : Int32))), (0, .ref b), (1, .int p1), (2, .int p2)]) hx hb dX11_valueFailing_172 hl (k := 5) rfl (by rfl) (Nat.le_of_ble_eq_true rfl) rfl (fun ls hl => ?_)
                refine lv_goto (tgt := 8) hx hb dX11_valueFailing_175 (by decide) ?_
                exact ih8 (v3_8 + (1 : Int32)) (v4_8 + (1 : Int32)) (v5_8 + (1 : Int32)) c_above_8 c_below_8 (vp_updL c_upOf_8 (v3_8).toNatClampNeg s2_84) (vp_updL c_downOf_8 (v3_8).toNatClampNeg s2_101) _ _ _ hP hD hS (lv_sub hl [3, 4, 5, 1, 2, 0] rfl) h
              refine lv_if_eq (tgt := 100) hx hb dX11_valueFailing_92 (by decide) (fun hc92 => ?_) (fun hc92 => ?_)
              · replace h := zi_t hc92 h
                refine lv_lconst (v := (1 : Int64)) hx hb dX11_valueFailing_100 (by decide) ?_
                exact hJ101 (1 : Int64) _ _ _ hP hD hS (lv_sub hl [0, 1, 2, 3, 4, 5] rfl) h
              · replace h := zi_f hc92 h
                refine lv_iload_n hx hb dX11_valueFailing_95 rfl (lv_at hl 2 rfl) ?_
                refine lv_i2l hx hb dX11_valueFailing_96 rfl ?_
                refine lv_goto (tgt := 101) hx hb dX11_valueFailing_97 (by decide) ?_
                exact hJ101 ((p2).toInt64) _ _ _ hP hD hS (lv_sub hl [0, 1, 2, 3, 4, 5] rfl) h
            refine lv_if_eq (tgt := 65) hx hb dX11_valueFailing_55 (by decide) (fun hc55 => ?_) (fun hc55 => ?_)
            · replace h := zi_t hc55 h
              refine lv_aload_n hx hb dX11_valueFailing_65 rfl (lv_at hl 1 rfl) ?_
              refine va_get (D := D) (ci := 11) (v := .ref b_now) (C := RX11) (T := TX11) (N := 33) hx hb hts uX11_valueFailing_X11 hown hK.1 hP 0 rfl rfl 0 (by decide) (hts (.fieldLink RX11 9 "WishedResistorModel" "now" "[I") (List.mem_of_getElem? (i := 4) rfl)) (fun _ h9 => h9) rfl dX11_valueFailing_66 ?_
              refine lv_iconst (v := (0 : Int32)) hx hb dX11_valueFailing_69 (by decide) ?_
              refine lv_aload_n hx hb dX11_valueFailing_70 rfl (lv_at hl 1 rfl) ?_
              refine lv_aload_n hx hb dX11_valueFailing_71 rfl (lv_at hl 1 rfl) ?_
              refine va_get (D := D) (ci := 11) (v := .ref b_order) (C := RX11) (T := TX11) (N := 33) hx hb hts uX11_valueFailing_X11 hown hK.1 hP 0 rfl rfl 9 (by decide) (hts (.fieldLink RX11 33 "WishedResistorModel" "order" "[I") (List.mem_of_getElem? (i := 2) rfl)) (fun _ h9 => h9) rfl dX11_valueFailing_72 ?_
              refine lv_iload hx hb dX11_valueFailing_75 (lv_at hl 6 rfl) ?_
              obtain ⟨hi77, h⟩ := zg_s h
              refine va_iald hx hb hK.1 hP 1 0 rfl rfl hi77 dX11_valueFailing_77 ?_
              obtain ⟨r78, hq78, h⟩ := zb1_s h
              refine zCi (r0 := r78) (w1 := (wdX11_firstOf cy b b_now b_imaged b_valueUp b_valueDown b_real b_brief b_order b_waits b_floats b_same b_upOf b_downOf b_tape b_open b_made b_paper b_reachUp b_reachDown b_reachHow b_reachFirst b_reachSecond b_begins b_carried c_hasImage c_above_8 c_below_8 c_orderMany c_waitMany c_seed c_size c_openMany c_paperMany c_reachMany c_now)) (ws' := (wdX11_valueFailing cy b b_now b_imaged b_valueUp b_valueDown b_real b_brief b_order b_waits b_floats b_same b_upOf b_downOf b_tape b_open b_made b_paper b_reachUp b_reachDown b_reachHow b_reachFirst b_reachSecond b_begins b_carried c_hasImage c_above_8 c_below_8 c_orderMany c_waitMany c_seed c_size c_openMany c_paperMany c_reachMany c_order c_now c_upOf_8 c_downOf_8)) (va_runV (As := [.int (c_order (v5_8).toNatClampNeg)]) (rest := [.int (0 : Int32), .ref b_now, .int v3_8, .ref b_upOf]) ⟨hx, hb, hml, hown, hts⟩ (mX11_firstOf l D cy H.size b b_now b_imaged b_valueUp b_valueDown b_real b_brief b_order b_waits b_floats b_same b_upOf b_downOf b_tape b_open b_made b_paper b_reachUp b_reachDown b_reachHow b_reachFirst b_reachSecond b_begins b_carried c_hasImage c_above_8 c_below_8 c_orderMany c_waitMany c_seed c_size c_openMany c_paperMany c_reachMany c_now (c_order (v5_8).toNatClampNeg) (r78) hq78) (cwV 1 hts gX11_valueFailing_X11_firstOf rfl rfl rfl ⟨rfl, cdX11_firstOf⟩ ⟨Nat.le_of_ble_eq_true rfl, Nat.le_of_ble_eq_true rfl⟩) (zPV hK hP hD [0, 2] rfl rfl (q0 := 0) (ci := 11) rfl rfl rfl) rfl rfl hl.1 rfl (lv_room (Nat.le_of_ble_eq_true rfl)) dX11_valueFailing_78 ⟨Nat.zero_le _, Nat.zero_le _⟩) hP hD hS hA [0, 2] [1, 3, 4] [3, 0, 4, 1, 2] rfl rfl rfl rfl (fun H locs hP hD hS => ?_)
              refine lv_iadd hx hb dX11_valueFailing_81 ?_
              obtain ⟨hi82, h⟩ := zg_s h
              refine va_iald hx hb hK.1 hP 2 0 rfl rfl hi82 dX11_valueFailing_82 ?_
              refine lv_i2l hx hb dX11_valueFailing_83 rfl ?_
              exact hJ84 (((c_now (((0 : Int32) + r78)).toNatClampNeg)).toInt64) _ _ _ hP hD hS (lv_sub hl [1, 2, 3, 4, 5, 6, 0] rfl) h
            · replace h := zi_f hc55 h
              refine lv_lconst (v := (1 : Int64)) hx hb dX11_valueFailing_58 (by decide) ?_
              refine lv_iload_n hx hb dX11_valueFailing_59 rfl (lv_at hl 3 rfl) ?_
              refine lv_i2l hx hb dX11_valueFailing_60 rfl ?_
              refine lv_lsub hx hb dX11_valueFailing_61 ?_
              refine lv_goto (tgt := 84) hx hb dX11_valueFailing_62 (by decide) ?_
              exact hJ84 ((1 : Int64) - ((p2).toInt64)) _ _ _ hP hD hS (lv_sub hl [1, 2, 3, 4, 5, 6, 0] rfl) h
          refine lv_icmp_ne (tgt := 45) hx hb dX11_valueFailing_38 (by decide) (fun hc38 => ?_) (fun hc38 => ?_)
          · replace h := zi_f hc38 h
            refine lv_iconst (v := (0 : Int32)) hx hb dX11_valueFailing_45 (by decide) ?_
            exact hJ46 (0 : Int32) _ _ _ hP hD hS (lv_sub hl [1, 2, 3, 4, 5, 6] rfl) h
          · replace h := zi_t hc38 h
            refine lv_iconst (v := (1 : Int32)) hx hb dX11_valueFailing_41 (by decide) ?_
            refine lv_goto (tgt := 46) hx hb dX11_valueFailing_42 (by decide) ?_
            exact hJ46 (1 : Int32) _ _ _ hP hD hS (lv_sub hl [1, 2, 3, 4, 5, 6] rfl) h
  exact hL8 5000 (0 : Int32) (0 : Int32) (0 : Int32) c_above c_below c_upOf c_downOf _ _ _ hP hD hS (lv_sub hl [3, 4, 5, 2, 1, 0] rfl) h

theorem uX11_fails_X11 : ∀ w ∈ u_ws RX11 TX11 33, w ∈ wsX11_fails := fun w h => (List.mem_cons_of_mem _ (List.mem_append_right _ h))
abbrev wdX11_fails (cy : Nat → ClassId) (b b_now b_imaged b_valueUp b_valueDown b_real b_brief b_order b_waits b_floats b_same b_upOf b_downOf b_tape b_open b_made b_paper b_reachUp b_reachDown b_reachHow b_reachFirst b_reachSecond b_begins b_carried : Nat) (c_hasImage : Int32) (c_above c_below : Int64) (c_orderMany c_waitMany c_seed c_size c_openMany c_paperMany c_reachMany : Int32) (c_now c_waits c_order : Nat → Int32) (c_upOf c_downOf : Nat → Int64) : va_W := [(b, .inr (11, [.ref b_now, .ref b_imaged, .int c_hasImage, .long c_above, .long c_below, .ref b_valueUp, .ref b_valueDown, .ref b_real, .ref b_brief, .ref b_order, .int c_orderMany, .ref b_waits, .int c_waitMany, .ref b_floats, .int c_seed, .ref b_same, .ref b_upOf, .ref b_downOf, .ref b_tape, .int c_size, .ref b_open, .int c_openMany, .ref b_made, .ref b_paper, .int c_paperMany, .ref b_reachUp, .ref b_reachDown, .ref b_reachHow, .ref b_reachFirst, .ref b_reachSecond, .ref b_begins, .int c_reachMany, .ref b_carried])), (b_now, .inl (cy 0, 261, .inl c_now)), (b_waits, .inl (cy 0, 40, .inl c_waits)), (b_order, .inl (cy 0, 24, .inl c_order)), (b_upOf, .inl (cy 1, 24, .inr (.inl c_upOf))), (b_downOf, .inl (cy 1, 24, .inr (.inl c_downOf)))]
abbrev rmX11_fails : Room := { frames := 4, cells := 0, slots := 0, locals := 111 }
theorem cdX11_fails : (yX11_fails).cls ≠ "java/lang/invoke/MethodHandle" ∧ (yX11_fails).cls ≠ "java/lang/invoke/VarHandle" ∧ (parseMethodDescriptor (yX11_fails).desc).map (fun d => d.parameters.length) = some 4 := by decide +kernel
def fX11_fails (p1 p2 p3 p4 : Int32) (c_above c_below : Int64) (c_orderMany c_waitMany : Int32) (c_now c_waits c_order : Nat → Int32) (c_upOf c_downOf : Nat → Int64) : Option (Int64 × Int64 × Int64 × Int32 × Int32 × (Nat → Int32) × (Nat → Int32) × (Nat → Int64) × (Nat → Int64)) :=
  zb1 (fX11_isNet p1 c_now) (fun r2 => if r2 = 0 then (some ((-9223372036854775808 : Int64), c_above, c_below, c_orderMany, c_waitMany, c_waits, c_order, c_upOf, c_downOf)) else (zb1 (fX11_partsOf p1 c_now) (fun r13 => zb1 (fX11_in ((p2).toInt64) (0 : Int64) (((r13 - (1 : Int32))).toInt64)) (fun r19 => if r19 = 0 then (some ((-9223372036854775808 : Int64), c_above, c_below, c_orderMany, c_waitMany, c_waits, c_order, c_upOf, c_downOf)) else (zb1 (fX11_in ((p3).toInt64) (0 : Int64) (1 : Int64)) (fun r29 => if r29 = 0 then (some ((-9223372036854775808 : Int64), c_above, c_below, c_orderMany, c_waitMany, c_waits, c_order, c_upOf, c_downOf)) else (zb1 (fX11_in ((p4).toInt64) (0 : Int64) (1 : Int64)) (fun r40 => if r40 = 0 then (some ((-9223372036854775808 : Int64), c_above, c_below, c_orderMany, c_waitMany, c_waits, c_order, c_upOf, c_downOf)) else (zb4 (fX11_goes p1 c_orderMany c_waitMany c_waits c_now c_order) (fun c_orderMany_r52 c_waitMany_r52 c_waits_r52 c_order_r52 => zb4 (fX11_valueFailing p2 p3 c_above c_below c_orderMany_r52 c_order_r52 c_now c_upOf c_downOf) (fun c_above_r58 c_below_r58 c_upOf_r58 c_downOf_r58 => if p4 = 0 then (some (c_above_r58, c_above_r58, c_below_r58, c_orderMany_r52, c_waitMany_r52, c_waits_r52, c_order_r52, c_upOf_r58, c_downOf_r58)) else (some (c_below_r58, c_above_r58, c_below_r58, c_orderMany_r52, c_waitMany_r52, c_waits_r52, c_order_r52, c_upOf_r58, c_downOf_r58)))))))))))))
set_option maxHeartbeats 4000000 in
set_option maxRecDepth 100000 in
theorem mX11_fails (l : Launch) (D : va_G) (cy : Nat → ClassId) (sz : Nat) (b b_now b_imaged b_valueUp b_valueDown b_real b_brief b_order b_waits b_floats b_same b_upOf b_downOf b_tape b_open b_made b_paper b_reachUp b_reachDown b_reachHow b_reachFirst b_reachSecond b_begins b_carried : Nat) (c_hasImage : Int32) (c_above c_below : Int64) (c_orderMany c_waitMany c_seed c_size c_openMany c_paperMany c_reachMany : Int32) (c_now c_waits c_order : Nat → Int32) (c_upOf c_downOf : Nat → Int64) (p1 p2 p3 p4 : Int32) (res : (Int64 × Int64 × Int64 × Int32 × Int32 × (Nat → Int32) × (Nat → Int32) × (Nat → Int64) × (Nat → Int64))) (h : fX11_fails p1 p2 p3 p4 c_above c_below c_orderMany c_waitMany c_now c_waits c_order c_upOf c_downOf = some res) : zMl l yX11_fails wsX11_fails rmX11_fails [.ref b, .int p1, .int p2, .int p3, .int p4] D cy (wdX11_fails cy b b_now b_imaged b_valueUp b_valueDown b_real b_brief b_order b_waits b_floats b_same b_upOf b_downOf b_tape b_open b_made b_paper b_reachUp b_reachDown b_reachHow b_reachFirst b_reachSecond b_begins b_carried c_hasImage c_above c_below c_orderMany c_waitMany c_seed c_size c_openMany c_paperMany c_reachMany c_now c_waits c_order c_upOf c_downOf) sz ((fun (o : (Int64 × Int64 × Int64 × Int32 × Int32 × (Nat → Int32) × (Nat → Int32) × (Nat → Int64) × (Nat → Int64))) => o.1) res) ((fun (o : (Int64 × Int64 × Int64 × Int32 × Int32 × (Nat → Int32) × (Nat → Int32) × (Nat → Int64) × (Nat → Int64))) => (wdX11_fails cy b b_now b_imaged b_valueUp b_valueDown b_real b_brief b_order b_waits b_floats b_same b_upOf b_downOf b_tape b_open b_made b_paper b_reachUp b_reachDown b_reachHow b_reachFirst b_reachSecond b_begins b_carried c_hasImage (o.2.1) (o.2.2.1) (o.2.2.2.1) (o.2.2.2.2.1) c_seed c_size c_openMany c_paperMany c_reachMany c_now (o.2.2.2.2.2.1) (o.2.2.2.2.2.2.1) (o.2.2.2.2.2.2.2.1) (o.2.2.2.2.2.2.2.2))) res) := by
  refine zOfl (res := res) (rf := (fun (o : (Int64 × Int64 × Int64 × Int32 × Int32 × (Nat → Int32) × (Nat → Int32) × (Nat → Int64) × (Nat → Int64))) => o.1)) (Wf := (fun (o : (Int64 × Int64 × Int64 × Int32 × Int32 × (Nat → Int32) × (Nat → Int32) × (Nat → Int64) × (Nat → Int64))) => (wdX11_fails cy b b_now b_imaged b_valueUp b_valueDown b_real b_brief b_order b_waits b_floats b_same b_upOf b_downOf b_tape b_open b_made b_paper b_reachUp b_reachDown b_reachHow b_reachFirst b_reachSecond b_begins b_carried c_hasImage (o.2.1) (o.2.2.1) (o.2.2.2.1) (o.2.2.2.2.1) c_seed c_size c_openMany c_paperMany c_reachMany c_now (o.2.2.2.2.2.1) (o.2.2.2.2.2.2.1) (o.2.2.2.2.2.2.2.1) (o.2.2.2.2.2.2.2.2)))) (by decide +kernel) rfl (Nat.le_of_ble_eq_true rfl) ?_
  intro p e s m args below meth c A ls Q hx hb hml hts hown hP hK hD hA hS hl hret
  have hown : s.vm.findClass RX11 = some m.cls := hown
  have hl : lv_has ls 5 [(0, .ref b), (1, .int p1), (2, .int p2), (3, .int p3), (4, .int p4)] := hl
  refine lv_aload_n hx hb dX11_fails_0 rfl (lv_at hl 0 rfl) ?_
  refine lv_iload_n hx hb dX11_fails_1 rfl (lv_at hl 1 rfl) ?_
  obtain ⟨r2, hq2, h⟩ := zb1_s h
  refine zCz (r0 := r2) (w1 := (wdX11_isNet cy b b_now b_imaged b_valueUp b_valueDown b_real b_brief b_order b_waits b_floats b_same b_upOf b_downOf b_tape b_open b_made b_paper b_reachUp b_reachDown b_reachHow b_reachFirst b_reachSecond b_begins b_carried c_hasImage c_above c_below c_orderMany c_waitMany c_seed c_size c_openMany c_paperMany c_reachMany c_now)) (ws' := (wdX11_fails cy b b_now b_imaged b_valueUp b_valueDown b_real b_brief b_order b_waits b_floats b_same b_upOf b_downOf b_tape b_open b_made b_paper b_reachUp b_reachDown b_reachHow b_reachFirst b_reachSecond b_begins b_carried c_hasImage c_above c_below c_orderMany c_waitMany c_seed c_size c_openMany c_paperMany c_reachMany c_now c_waits c_order c_upOf c_downOf)) (va_runV (As := [.int p1]) (rest := []) ⟨hx, hb, hml, hown, hts⟩ (mX11_isNet l D cy s.heap.size b b_now b_imaged b_valueUp b_valueDown b_real b_brief b_order b_waits b_floats b_same b_upOf b_downOf b_tape b_open b_made b_paper b_reachUp b_reachDown b_reachHow b_reachFirst b_reachSecond b_begins b_carried c_hasImage c_above c_below c_orderMany c_waitMany c_seed c_size c_openMany c_paperMany c_reachMany c_now p1 (r2) hq2) (cwV 1 hts gX11_fails_X11_isNet rfl rfl rfl ⟨rfl, cdX11_isNet⟩ ⟨Nat.le_of_ble_eq_true rfl, Nat.le_of_ble_eq_true rfl⟩) (zPV hK hP hD [0, 1] rfl rfl (q0 := 0) (ci := 11) rfl rfl rfl) rfl rfl hl.1 rfl (lv_room (Nat.le_of_ble_eq_true rfl)) dX11_fails_2 ⟨Nat.zero_le _, Nat.zero_le _⟩) hP hD hS hA [0, 1] [2, 3, 4, 5] [4, 5, 0, 1, 2, 3] rfl rfl rfl rfl (fun H locs hn2 hP hD hS => ?_)
  refine lv_if_eq (tgt := 46) hx hb dX11_fails_5 (by decide) (fun hc5 => ?_) (fun hc5 => ?_)
  · replace h := zi_t hc5 h
    refine lv_ldc2 hx hb hown (hts (.constantLong RX11 155 (-9223372036854775808)) (List.mem_of_getElem? (i := 1) rfl)) dX11_fails_46 ?_
    exact hret (o := ((-9223372036854775808 : Int64), c_above, c_below, c_orderMany, c_waitMany, c_waits, c_order, c_upOf, c_downOf)) h hP hD hS dX11_fails_49
  · replace h := zi_f hc5 h
    refine lv_iload_n hx hb dX11_fails_8 rfl (lv_at hl 2 rfl) ?_
    refine lv_i2l hx hb dX11_fails_9 rfl ?_
    refine lv_lconst (v := (0 : Int64)) hx hb dX11_fails_10 (by decide) ?_
    refine lv_aload_n hx hb dX11_fails_11 rfl (lv_at hl 0 rfl) ?_
    refine lv_iload_n hx hb dX11_fails_12 rfl (lv_at hl 1 rfl) ?_
    obtain ⟨r13, hq13, h⟩ := zb1_s h
    refine zCi (r0 := r13) (w1 := (wdX11_partsOf cy b b_now b_imaged b_valueUp b_valueDown b_real b_brief b_order b_waits b_floats b_same b_upOf b_downOf b_tape b_open b_made b_paper b_reachUp b_reachDown b_reachHow b_reachFirst b_reachSecond b_begins b_carried c_hasImage c_above c_below c_orderMany c_waitMany c_seed c_size c_openMany c_paperMany c_reachMany c_now)) (ws' := (wdX11_fails cy b b_now b_imaged b_valueUp b_valueDown b_real b_brief b_order b_waits b_floats b_same b_upOf b_downOf b_tape b_open b_made b_paper b_reachUp b_reachDown b_reachHow b_reachFirst b_reachSecond b_begins b_carried c_hasImage c_above c_below c_orderMany c_waitMany c_seed c_size c_openMany c_paperMany c_reachMany c_now c_waits c_order c_upOf c_downOf)) (va_runV (As := [.int p1]) (rest := [.long (0 : Int64), .long ((p2).toInt64)]) ⟨hx, hb, hml, hown, hts⟩ (mX11_partsOf l D cy H.size b b_now b_imaged b_valueUp b_valueDown b_real b_brief b_order b_waits b_floats b_same b_upOf b_downOf b_tape b_open b_made b_paper b_reachUp b_reachDown b_reachHow b_reachFirst b_reachSecond b_begins b_carried c_hasImage c_above c_below c_orderMany c_waitMany c_seed c_size c_openMany c_paperMany c_reachMany c_now p1 (r13) hq13) (cwV 1 hts gX11_fails_X11_partsOf rfl rfl rfl ⟨rfl, cdX11_partsOf⟩ ⟨Nat.le_of_ble_eq_true rfl, Nat.le_of_ble_eq_true rfl⟩) (zPV hK hP hD [0, 1] rfl rfl (q0 := 0) (ci := 11) rfl rfl rfl) rfl rfl hl.1 rfl (lv_room (Nat.le_of_ble_eq_true rfl)) dX11_fails_13 ⟨Nat.zero_le _, Nat.zero_le _⟩) hP hD hS hA [0, 1] [2, 3, 4, 5] [4, 5, 0, 1, 2, 3] rfl rfl rfl rfl (fun H locs hP hD hS => ?_)
    refine lv_iconst (v := (1 : Int32)) hx hb dX11_fails_16 (by decide) ?_
    refine lv_isub hx hb dX11_fails_17 ?_
    refine lv_i2l hx hb dX11_fails_18 rfl ?_
    obtain ⟨r19, hq19, h⟩ := zb1_s h
    refine zCz0 (r0 := r19) (va_runS (As := [.long ((p2).toInt64), .long (0 : Int64), .long (((r13 - (1 : Int32))).toInt64)]) (rest := []) ⟨hx, hb, hml, hown, hts⟩ (mX11_in l D cy H.size ((p2).toInt64) (0 : Int64) (((r13 - (1 : Int32))).toInt64) (r19) hq19) (va_cwS 3 hts gX11_fails_X11_in rfl rfl rfl cdX11_in ⟨Nat.le_of_ble_eq_true rfl, Nat.le_of_ble_eq_true rfl⟩) (zPS hK hP hD [] rfl rfl) rfl rfl hl.1 rfl (lv_room (Nat.le_of_ble_eq_true rfl)) dX11_fails_19 ⟨Nat.zero_le _, Nat.zero_le _⟩) hP hD hS hA (fun H locs hn19 hP hD hS => ?_)
    refine lv_if_eq (tgt := 46) hx hb dX11_fails_22 (by decide) (fun hc22 => ?_) (fun hc22 => ?_)
    · replace h := zi_t hc22 h
      refine lv_ldc2 hx hb hown (hts (.constantLong RX11 155 (-9223372036854775808)) (List.mem_of_getElem? (i := 1) rfl)) dX11_fails_46 ?_
      exact hret (o := ((-9223372036854775808 : Int64), c_above, c_below, c_orderMany, c_waitMany, c_waits, c_order, c_upOf, c_downOf)) h hP hD hS dX11_fails_49
    · replace h := zi_f hc22 h
      refine lv_iload_n hx hb dX11_fails_25 rfl (lv_at hl 3 rfl) ?_
      refine lv_i2l hx hb dX11_fails_26 rfl ?_
      refine lv_lconst (v := (0 : Int64)) hx hb dX11_fails_27 (by decide) ?_
      refine lv_lconst (v := (1 : Int64)) hx hb dX11_fails_28 (by decide) ?_
      obtain ⟨r29, hq29, h⟩ := zb1_s h
      refine zCz0 (r0 := r29) (va_runS (As := [.long ((p3).toInt64), .long (0 : Int64), .long (1 : Int64)]) (rest := []) ⟨hx, hb, hml, hown, hts⟩ (mX11_in l D cy H.size ((p3).toInt64) (0 : Int64) (1 : Int64) (r29) hq29) (va_cwS 3 hts gX11_fails_X11_in rfl rfl rfl cdX11_in ⟨Nat.le_of_ble_eq_true rfl, Nat.le_of_ble_eq_true rfl⟩) (zPS hK hP hD [] rfl rfl) rfl rfl hl.1 rfl (lv_room (Nat.le_of_ble_eq_true rfl)) dX11_fails_29 ⟨Nat.zero_le _, Nat.zero_le _⟩) hP hD hS hA (fun H locs hn29 hP hD hS => ?_)
      refine lv_if_eq (tgt := 46) hx hb dX11_fails_32 (by decide) (fun hc32 => ?_) (fun hc32 => ?_)
      · replace h := zi_t hc32 h
        refine lv_ldc2 hx hb hown (hts (.constantLong RX11 155 (-9223372036854775808)) (List.mem_of_getElem? (i := 1) rfl)) dX11_fails_46 ?_
        exact hret (o := ((-9223372036854775808 : Int64), c_above, c_below, c_orderMany, c_waitMany, c_waits, c_order, c_upOf, c_downOf)) h hP hD hS dX11_fails_49
      · replace h := zi_f hc32 h
        refine lv_iload hx hb dX11_fails_35 (lv_at hl 4 rfl) ?_
        refine lv_i2l hx hb dX11_fails_37 rfl ?_
        refine lv_lconst (v := (0 : Int64)) hx hb dX11_fails_38 (by decide) ?_
        refine lv_lconst (v := (1 : Int64)) hx hb dX11_fails_39 (by decide) ?_
        obtain ⟨r40, hq40, h⟩ := zb1_s h
        refine zCz0 (r0 := r40) (va_runS (As := [.long ((p4).toInt64), .long (0 : Int64), .long (1 : Int64)]) (rest := []) ⟨hx, hb, hml, hown, hts⟩ (mX11_in l D cy H.size ((p4).toInt64) (0 : Int64) (1 : Int64) (r40) hq40) (va_cwS 3 hts gX11_fails_X11_in rfl rfl rfl cdX11_in ⟨Nat.le_of_ble_eq_true rfl, Nat.le_of_ble_eq_true rfl⟩) (zPS hK hP hD [] rfl rfl) rfl rfl hl.1 rfl (lv_room (Nat.le_of_ble_eq_true rfl)) dX11_fails_40 ⟨Nat.zero_le _, Nat.zero_le _⟩) hP hD hS hA (fun H locs hn40 hP hD hS => ?_)
        refine lv_if_ne (tgt := 50) hx hb dX11_fails_43 (by decide) (fun hc43 => ?_) (fun hc43 => ?_)
        · replace h := zi_f hc43 h
          refine lv_aload_n hx hb dX11_fails_50 rfl (lv_at hl 0 rfl) ?_
          refine lv_iload_n hx hb dX11_fails_51 rfl (lv_at hl 1 rfl) ?_
          obtain ⟨c_orderMany_r52, c_waitMany_r52, c_waits_r52, c_order_r52, hq52, h⟩ := zb4_s h
          refine zCv (w1 := (wdX11_goes cy b b_now b_imaged b_valueUp b_valueDown b_real b_brief b_order b_waits b_floats b_same b_upOf b_downOf b_tape b_open b_made b_paper b_reachUp b_reachDown b_reachHow b_reachFirst b_reachSecond b_begins b_carried c_hasImage c_above c_below c_orderMany_r52 c_waitMany_r52 c_seed c_size c_openMany c_paperMany c_reachMany c_waits_r52 c_now c_order_r52)) (ws' := (wdX11_fails cy b b_now b_imaged b_valueUp b_valueDown b_real b_brief b_order b_waits b_floats b_same b_upOf b_downOf b_tape b_open b_made b_paper b_reachUp b_reachDown b_reachHow b_reachFirst b_reachSecond b_begins b_carried c_hasImage c_above c_below c_orderMany_r52 c_waitMany_r52 c_seed c_size c_openMany c_paperMany c_reachMany c_now c_waits_r52 c_order_r52 c_upOf c_downOf)) (va_runV (As := [.int p1]) (rest := []) ⟨hx, hb, hml, hown, hts⟩ (mX11_goes l D cy H.size b b_now b_imaged b_valueUp b_valueDown b_real b_brief b_order b_waits b_floats b_same b_upOf b_downOf b_tape b_open b_made b_paper b_reachUp b_reachDown b_reachHow b_reachFirst b_reachSecond b_begins b_carried c_hasImage c_above c_below c_orderMany c_waitMany c_seed c_size c_openMany c_paperMany c_reachMany c_waits c_now c_order p1 (c_orderMany_r52, c_waitMany_r52, c_waits_r52, c_order_r52) hq52) (cwV 1 hts gX11_fails_X11_goes rfl rfl rfl ⟨rfl, cdX11_goes⟩ ⟨Nat.le_of_ble_eq_true rfl, Nat.le_of_ble_eq_true rfl⟩) (zPV hK hP hD [0, 2, 1, 3] rfl rfl (q0 := 0) (ci := 11) rfl rfl rfl) rfl rfl hl.1 rfl (lv_room (Nat.le_of_ble_eq_true rfl)) dX11_fails_52 ⟨Nat.zero_le _, Nat.zero_le _⟩) hP hD hS hA [0, 2, 1, 3] [4, 5] [2, 4, 3, 5, 0, 1] rfl rfl rfl rfl (fun H locs hP hD hS => ?_)
          refine lv_aload_n hx hb dX11_fails_55 rfl (lv_at hl 0 rfl) ?_
          refine lv_iload_n hx hb dX11_fails_56 rfl (lv_at hl 2 rfl) ?_
          refine lv_iload_n hx hb dX11_fails_57 rfl (lv_at hl 3 rfl) ?_
          obtain ⟨c_above_r58, c_below_r58, c_upOf_r58, c_downOf_r58, hq58, h⟩ := zb4_s h
          refine zCv (w1 := (wdX11_valueFailing cy b b_now b_imaged b_valueUp b_valueDown b_real b_brief b_order b_waits b_floats b_same b_upOf b_downOf b_tape b_open b_made b_paper b_reachUp b_reachDown b_reachHow b_reachFirst b_reachSecond b_begins b_carried c_hasImage c_above_r58 c_below_r58 c_orderMany_r52 c_waitMany_r52 c_seed c_size c_openMany c_paperMany c_reachMany c_order_r52 c_now c_upOf_r58 c_downOf_r58)) (ws' := (wdX11_fails cy b b_now b_imaged b_valueUp b_valueDown b_real b_brief b_order b_waits b_floats b_same b_upOf b_downOf b_tape b_open b_made b_paper b_reachUp b_reachDown b_reachHow b_reachFirst b_reachSecond b_begins b_carried c_hasImage c_above_r58 c_below_r58 c_orderMany_r52 c_waitMany_r52 c_seed c_size c_openMany c_paperMany c_reachMany c_now c_waits_r52 c_order_r52 c_upOf_r58 c_downOf_r58)) (va_runV (As := [.int p2, .int p3]) (rest := []) ⟨hx, hb, hml, hown, hts⟩ (mX11_valueFailing l D cy H.size b b_now b_imaged b_valueUp b_valueDown b_real b_brief b_order b_waits b_floats b_same b_upOf b_downOf b_tape b_open b_made b_paper b_reachUp b_reachDown b_reachHow b_reachFirst b_reachSecond b_begins b_carried c_hasImage c_above c_below c_orderMany_r52 c_waitMany_r52 c_seed c_size c_openMany c_paperMany c_reachMany c_order_r52 c_now c_upOf c_downOf p2 p3 (c_above_r58, c_below_r58, c_upOf_r58, c_downOf_r58) hq58) (cwV 2 hts gX11_fails_X11_valueFailing rfl rfl rfl ⟨rfl, cdX11_valueFailing⟩ ⟨Nat.le_of_ble_eq_true rfl, Nat.le_of_ble_eq_true rfl⟩) (zPV hK hP hD [0, 3, 1, 4, 5] rfl rfl (q0 := 0) (ci := 11) rfl rfl rfl) rfl rfl hl.1 rfl (lv_room (Nat.le_of_ble_eq_true rfl)) dX11_fails_58 ⟨Nat.zero_le _, Nat.zero_le _⟩) hP hD hS hA [0, 3, 1, 4, 5] [2] [1, 3, 0, 2, 4, 5] rfl rfl rfl rfl (fun H locs hP hD hS => ?_)
          refine lv_iload hx hb dX11_fails_61 (lv_at hl 4 rfl) ?_
          refine lv_if_ne (tgt := 73) hx hb dX11_fails_63 (by decide) (fun hc63 => ?_) (fun hc63 => ?_)
          · replace h := zi_f hc63 h
            refine lv_aload_n hx hb dX11_fails_73 rfl (lv_at hl 0 rfl) ?_
            refine va_get (D := D) (ci := 11) (v := .long c_below_r58) (C := RX11) (T := TX11) (N := 33) hx hb hts uX11_fails_X11 hown hK.1 hP 0 rfl rfl 4 (by decide) (hts (.fieldLink RX11 140 "WishedResistorModel" "below" "J") (List.mem_of_getElem? (i := 3) rfl)) (fun _ h9 => h9) rfl dX11_fails_74 ?_
            exact hret (o := (c_below_r58, c_above_r58, c_below_r58, c_orderMany_r52, c_waitMany_r52, c_waits_r52, c_order_r52, c_upOf_r58, c_downOf_r58)) h hP hD hS dX11_fails_77
          · replace h := zi_t hc63 h
            refine lv_aload_n hx hb dX11_fails_66 rfl (lv_at hl 0 rfl) ?_
            refine va_get (D := D) (ci := 11) (v := .long c_above_r58) (C := RX11) (T := TX11) (N := 33) hx hb hts uX11_fails_X11 hown hK.1 hP 0 rfl rfl 3 (by decide) (hts (.fieldLink RX11 136 "WishedResistorModel" "above" "J") (List.mem_of_getElem? (i := 2) rfl)) (fun _ h9 => h9) rfl dX11_fails_67 ?_
            refine lv_goto (tgt := 77) hx hb dX11_fails_70 (by decide) ?_
            exact hret (o := (c_above_r58, c_above_r58, c_below_r58, c_orderMany_r52, c_waitMany_r52, c_waits_r52, c_order_r52, c_upOf_r58, c_downOf_r58)) h hP hD hS dX11_fails_77
        · replace h := zi_t hc43 h
          refine lv_ldc2 hx hb hown (hts (.constantLong RX11 155 (-9223372036854775808)) (List.mem_of_getElem? (i := 1) rfl)) dX11_fails_46 ?_
          exact hret (o := ((-9223372036854775808 : Int64), c_above, c_below, c_orderMany, c_waitMany, c_waits, c_order, c_upOf, c_downOf)) h hP hD hS dX11_fails_49

abbrev rmX11_isLess : Room := { frames := 0, cells := 0, slots := 0, locals := 0 }
theorem cdX11_isLess : (yX11_isLess).cls ≠ "java/lang/invoke/MethodHandle" ∧ (yX11_isLess).cls ≠ "java/lang/invoke/VarHandle" ∧ (parseMethodDescriptor (yX11_isLess).desc).map (fun d => d.parameters.length) = some 4 := by decide +kernel
def fX11_isLess_J90  (v8_90 v10_90 v12_90 v14_90 : Int64) (v16_90 : Int32) : Option (Int32) :=
  if v10_90 = (0 : Int64) then (if v14_90 = (0 : Int64) then (if v16_90 = 0 then (some ((0 : Int32))) else (some ((0 : Int32)))) else (if v10_90 = (0 : Int64) then (if v16_90 = 0 then (some ((0 : Int32))) else (some ((1 : Int32)))) else (zg (¬ v14_90 = 0) (zg (¬ v10_90 = 0) (if (v8_90 / v10_90) ≤ (v12_90 / v14_90) then (if v16_90 = 0 then (some ((0 : Int32))) else (some ((0 : Int32)))) else (if v16_90 = 0 then (some ((0 : Int32))) else (some ((1 : Int32))))))))) else (if v14_90 = (0 : Int64) then (if v14_90 = (0 : Int64) then (if v16_90 = 0 then (some ((1 : Int32))) else (some ((0 : Int32)))) else (if v10_90 = (0 : Int64) then (if v16_90 = 0 then (some ((1 : Int32))) else (some ((1 : Int32)))) else (zg (¬ v14_90 = 0) (zg (¬ v10_90 = 0) (if (v8_90 / v10_90) ≤ (v12_90 / v14_90) then (if v16_90 = 0 then (some ((1 : Int32))) else (some ((0 : Int32)))) else (if v16_90 = 0 then (some ((1 : Int32))) else (some ((1 : Int32))))))))) else (zg (¬ v10_90 = 0) (zg (¬ v14_90 = 0) (if (v12_90 / v14_90) ≤ (v8_90 / v10_90) then (if v14_90 = (0 : Int64) then (if v16_90 = 0 then (some ((0 : Int32))) else (some ((0 : Int32)))) else (if v10_90 = (0 : Int64) then (if v16_90 = 0 then (some ((0 : Int32))) else (some ((1 : Int32)))) else (zg (¬ v14_90 = 0) (zg (¬ v10_90 = 0) (if (v8_90 / v10_90) ≤ (v12_90 / v14_90) then (if v16_90 = 0 then (some ((0 : Int32))) else (some ((0 : Int32)))) else (if v16_90 = 0 then (some ((0 : Int32))) else (some ((1 : Int32))))))))) else (if v14_90 = (0 : Int64) then (if v16_90 = 0 then (some ((1 : Int32))) else (some ((0 : Int32)))) else (if v10_90 = (0 : Int64) then (if v16_90 = 0 then (some ((1 : Int32))) else (some ((1 : Int32)))) else (zg (¬ v14_90 = 0) (zg (¬ v10_90 = 0) (if (v8_90 / v10_90) ≤ (v12_90 / v14_90) then (if v16_90 = 0 then (some ((1 : Int32))) else (some ((0 : Int32)))) else (if v16_90 = 0 then (some ((1 : Int32))) else (some ((1 : Int32)))))))))))))
def fX11_isLess_L17 (k90_17 : Int64 → Int64 → Int64 → Int64 → Int32 → Option (Int32)) : Nat → Int64 → Int64 → Int64 → Int64 → Int32 → Option (Int32) :=
  zl5 (fun rec17 v8_17 v10_17 v12_17 v14_17 v16_17 => if v10_17 = (0 : Int64) then (k90_17 v8_17 v10_17 v12_17 v14_17 v16_17) else (if v14_17 = (0 : Int64) then (k90_17 v8_17 v10_17 v12_17 v14_17 v16_17) else (zg (¬ v10_17 = 0) (zg (¬ v14_17 = 0) (if (v8_17 / v10_17) = (v12_17 / v14_17) then (zg (¬ v10_17 = 0) (zg (¬ v14_17 = 0) (if v16_17 = 0 then (rec17 v10_17 (v8_17 - v8_17 / v10_17 * v10_17) v14_17 (v12_17 - v12_17 / v14_17 * v14_17) (1 : Int32)) else (rec17 v10_17 (v8_17 - v8_17 / v10_17 * v10_17) v14_17 (v12_17 - v12_17 / v14_17 * v14_17) (0 : Int32))))) else (k90_17 v8_17 v10_17 v12_17 v14_17 v16_17))))))
def fX11_isLess (p1 p2 p3 p4 : Int64) : Option (Int32) :=
  fX11_isLess_L17 fX11_isLess_J90 5000 p1 p2 p3 p4 (0 : Int32)
set_option maxHeartbeats 4000000 in
set_option maxRecDepth 100000 in
theorem mX11_isLess (l : Launch) (D : va_G) (cy : Nat → ClassId) (sz : Nat) (p1 p2 p3 p4 : Int64) (res : (Int32)) (h : fX11_isLess p1 p2 p3 p4 = some res) : zMz l yX11_isLess wsX11_isLess rmX11_isLess [.long p1, .long p2, .long p3, .long p4] D cy ([] : va_W) sz ((fun (o : (Int32)) => o) res) ((fun (_ : (Int32)) => ([] : va_W)) res) := by
  refine zOfz (res := res) (rf := (fun (o : (Int32)) => o)) (Wf := (fun (_ : (Int32)) => ([] : va_W))) (by decide +kernel) rfl (Nat.le_of_ble_eq_true rfl) ?_
  intro p e s m args below meth c A ls Q hx hb hml hts hown hP hK hD hA hS hl hret
  have hown : s.vm.findClass RX11 = some m.cls := hown
  have hl : lv_has ls 21 [(0, .long p1), (2, .long p2), (4, .long p3), (6, .long p4)] := hl
  refine lv_lload_n hx hb dX11_isLess_0 rfl (lv_at hl 0 rfl) ?_
  refine lv_lstore (lv' := [(8, .long p1), (0, .long p1), (2, .long p2), (4, .long p3), (6, .long p4)]) hx hb dX11_isLess_1 hl (Nat.le_of_ble_eq_true rfl) rfl (fun ls hl => ?_)
  refine lv_lload_n hx hb dX11_isLess_3 rfl (lv_at hl 2 rfl) ?_
  refine lv_lstore (lv' := [(10, .long p2), (8, .long p1), (0, .long p1), (2, .long p2), (4, .long p3), (6, .long p4)]) hx hb dX11_isLess_4 hl (Nat.le_of_ble_eq_true rfl) rfl (fun ls hl => ?_)
  refine lv_lload hx hb dX11_isLess_6 (lv_at hl 4 rfl) ?_
  refine lv_lstore (lv' := [(12, .long p3), (10, .long p2), (8, .long p1), (0, .long p1), (2, .long p2), (4, .long p3), (6, .long p4)]) hx hb dX11_isLess_8 hl (Nat.le_of_ble_eq_true rfl) rfl (fun ls hl => ?_)
  refine lv_lload hx hb dX11_isLess_10 (lv_at hl 6 rfl) ?_
  refine lv_lstore (lv' := [(14, .long p4), (12, .long p3), (10, .long p2), (8, .long p1), (0, .long p1), (2, .long p2), (4, .long p3), (6, .long p4)]) hx hb dX11_isLess_12 hl (Nat.le_of_ble_eq_true rfl) rfl (fun ls hl => ?_)
  refine lv_iconst (v := (0 : Int32)) hx hb dX11_isLess_14 (by decide) ?_
  refine lv_istore (lv' := [(16, .int (0 : Int32)), (14, .long p4), (12, .long p3), (10, .long p2), (8, .long p1), (0, .long p1), (2, .long p2), (4, .long p3), (6, .long p4)]) hx hb dX11_isLess_15 hl (Nat.le_of_ble_eq_true rfl) rfl (fun ls hl => ?_)
  have hJ90 : ∀ (v8_90 v10_90 v12_90 v14_90 : Int64) (v16_90 : Int32) (H : Heap) (locs : List Loc) (ls : Array Slot), va_P D vwCl ([] : va_W) H → va_D A ([] : va_W) → va_S A s.heap H locs → lv_has ls 21 [(8, .long v8_90), (10, .long v10_90), (12, .long v12_90), (14, .long v14_90), (16, .int v16_90)] → fX11_isLess_J90 v8_90 v10_90 v12_90 v14_90 v16_90 = some res → W p l e rmX11_isLess s m args below meth c H locs 0 0 Q (F0 m 90 ls []) := by
    intro v8_90 v10_90 v12_90 v14_90 v16_90 H locs ls hP hD hS hl h
    refine lv_lload hx hb dX11_isLess_90 (lv_at hl 1 rfl) ?_
    refine lv_lconst (v := (0 : Int64)) hx hb dX11_isLess_92 (by decide) ?_
    refine W.lcmp hx hb dX11_isLess_93 ?_
    refine lv_if_eq (tgt := 122) hx hb dX11_isLess_94 (by decide) (fun hc94 => ?_) (fun hc94 => ?_)
    · replace hc94 := (zc_eq _ _).mp hc94
      replace h := zi_t hc94 h
      refine lv_iconst (v := (0 : Int32)) hx hb dX11_isLess_122 (by decide) ?_
      refine lv_istore (lv' := [(17, .int (0 : Int32)), (8, .long v8_90), (10, .long v10_90), (12, .long v12_90), (14, .long v14_90), (16, .int v16_90)]) hx hb dX11_isLess_123 hl (Nat.le_of_ble_eq_true rfl) rfl (fun ls hl => ?_)
      refine lv_lload hx hb dX11_isLess_125 (lv_at hl 4 rfl) ?_
      refine lv_lconst (v := (0 : Int64)) hx hb dX11_isLess_127 (by decide) ?_
      refine W.lcmp hx hb dX11_isLess_128 ?_
      refine lv_if_eq (tgt := 157) hx hb dX11_isLess_129 (by decide) (fun hc129 => ?_) (fun hc129 => ?_)
      · replace hc129 := (zc_eq _ _).mp hc129
        replace h := zi_t hc129 h
        refine lv_iconst (v := (0 : Int32)) hx hb dX11_isLess_157 (by decide) ?_
        refine lv_istore (lv' := [(18, .int (0 : Int32)), (17, .int (0 : Int32)), (8, .long v8_90), (10, .long v10_90), (12, .long v12_90), (14, .long v14_90), (16, .int v16_90)]) hx hb dX11_isLess_158 hl (Nat.le_of_ble_eq_true rfl) rfl (fun ls hl => ?_)
        refine lv_iload hx hb dX11_isLess_160 (lv_at hl 6 rfl) ?_
        refine lv_if_eq (tgt := 170) hx hb dX11_isLess_162 (by decide) (fun hc162 => ?_) (fun hc162 => ?_)
        · replace h := zi_t hc162 h
          refine lv_iload hx hb dX11_isLess_170 (lv_at hl 1 rfl) ?_
          exact hret (o := ((0 : Int32))) h (show narrow .boolean (.int (0 : Int32)) = .int (0 : Int32) from by decide) hP hD hS dX11_isLess_172
        · replace h := zi_f hc162 h
          refine lv_iload hx hb dX11_isLess_165 (lv_at hl 0 rfl) ?_
          refine lv_goto (tgt := 172) hx hb dX11_isLess_167 (by decide) ?_
          exact hret (o := ((0 : Int32))) h (show narrow .boolean (.int (0 : Int32)) = .int (0 : Int32) from by decide) hP hD hS dX11_isLess_172
      · replace hc129 := fun q => hc129 ((zc_eq _ _).mpr q)
        replace h := zi_f hc129 h
        refine lv_lload hx hb dX11_isLess_132 (lv_at hl 2 rfl) ?_
        refine lv_lconst (v := (0 : Int64)) hx hb dX11_isLess_134 (by decide) ?_
        refine W.lcmp hx hb dX11_isLess_135 ?_
        refine lv_if_eq (tgt := 153) hx hb dX11_isLess_136 (by decide) (fun hc136 => ?_) (fun hc136 => ?_)
        · replace hc136 := (zc_eq _ _).mp hc136
          replace h := zi_t hc136 h
          refine lv_iconst (v := (1 : Int32)) hx hb dX11_isLess_153 (by decide) ?_
          refine lv_goto (tgt := 158) hx hb dX11_isLess_154 (by decide) ?_
          refine lv_istore (lv' := [(18, .int (1 : Int32)), (17, .int (0 : Int32)), (8, .long v8_90), (10, .long v10_90), (12, .long v12_90), (14, .long v14_90), (16, .int v16_90)]) hx hb dX11_isLess_158 hl (Nat.le_of_ble_eq_true rfl) rfl (fun ls hl => ?_)
          refine lv_iload hx hb dX11_isLess_160 (lv_at hl 6 rfl) ?_
          refine lv_if_eq (tgt := 170) hx hb dX11_isLess_162 (by decide) (fun hc162 => ?_) (fun hc162 => ?_)
          · replace h := zi_t hc162 h
            refine lv_iload hx hb dX11_isLess_170 (lv_at hl 1 rfl) ?_
            exact hret (o := ((0 : Int32))) h (show narrow .boolean (.int (0 : Int32)) = .int (0 : Int32) from by decide) hP hD hS dX11_isLess_172
          · replace h := zi_f hc162 h
            refine lv_iload hx hb dX11_isLess_165 (lv_at hl 0 rfl) ?_
            refine lv_goto (tgt := 172) hx hb dX11_isLess_167 (by decide) ?_
            exact hret (o := ((1 : Int32))) h (show narrow .boolean (.int (1 : Int32)) = .int (1 : Int32) from by decide) hP hD hS dX11_isLess_172
        · replace hc136 := fun q => hc136 ((zc_eq _ _).mpr q)
          replace h := zi_f hc136 h
          refine lv_lload hx hb dX11_isLess_139 (lv_at hl 3 rfl) ?_
          refine lv_lload hx hb dX11_isLess_141 (lv_at hl 4 rfl) ?_
          obtain ⟨hz143, h⟩ := zg_s h
          refine lv_ldiv hx hb dX11_isLess_143 hz143 ?_
          refine lv_lload hx hb dX11_isLess_144 (lv_at hl 1 rfl) ?_
          refine lv_lload hx hb dX11_isLess_146 (lv_at hl 2 rfl) ?_
          obtain ⟨hz148, h⟩ := zg_s h
          refine lv_ldiv hx hb dX11_isLess_148 hz148 ?_
          refine W.lcmp hx hb dX11_isLess_149 ?_
          refine lv_if_ge (tgt := 157) hx hb dX11_isLess_150 (by decide) (fun hc150 => ?_) (fun hc150 => ?_)
          · replace hc150 := (zc_ge _ _).mp hc150
            replace h := zi_t hc150 h
            refine lv_iconst (v := (0 : Int32)) hx hb dX11_isLess_157 (by decide) ?_
            refine lv_istore (lv' := [(18, .int (0 : Int32)), (17, .int (0 : Int32)), (8, .long v8_90), (10, .long v10_90), (12, .long v12_90), (14, .long v14_90), (16, .int v16_90)]) hx hb dX11_isLess_158 hl (Nat.le_of_ble_eq_true rfl) rfl (fun ls hl => ?_)
            refine lv_iload hx hb dX11_isLess_160 (lv_at hl 6 rfl) ?_
            refine lv_if_eq (tgt := 170) hx hb dX11_isLess_162 (by decide) (fun hc162 => ?_) (fun hc162 => ?_)
            · replace h := zi_t hc162 h
              refine lv_iload hx hb dX11_isLess_170 (lv_at hl 1 rfl) ?_
              exact hret (o := ((0 : Int32))) h (show narrow .boolean (.int (0 : Int32)) = .int (0 : Int32) from by decide) hP hD hS dX11_isLess_172
            · replace h := zi_f hc162 h
              refine lv_iload hx hb dX11_isLess_165 (lv_at hl 0 rfl) ?_
              refine lv_goto (tgt := 172) hx hb dX11_isLess_167 (by decide) ?_
              exact hret (o := ((0 : Int32))) h (show narrow .boolean (.int (0 : Int32)) = .int (0 : Int32) from by decide) hP hD hS dX11_isLess_172
          · replace hc150 := fun q => hc150 ((zc_ge _ _).mpr q)
            replace h := zi_f hc150 h
            refine lv_iconst (v := (1 : Int32)) hx hb dX11_isLess_153 (by decide) ?_
            refine lv_goto (tgt := 158) hx hb dX11_isLess_154 (by decide) ?_
            refine lv_istore (lv' := [(18, .int (1 : Int32)), (17, .int (0 : Int32)), (8, .long v8_90), (10, .long v10_90), (12, .long v12_90), (14, .long v14_90), (16, .int v16_90)]) hx hb dX11_isLess_158 hl (Nat.le_of_ble_eq_true rfl) rfl (fun ls hl => ?_)
            refine lv_iload hx hb dX11_isLess_160 (lv_at hl 6 rfl) ?_
            refine lv_if_eq (tgt := 170) hx hb dX11_isLess_162 (by decide) (fun hc162 => ?_) (fun hc162 => ?_)
            · replace h := zi_t hc162 h
              refine lv_iload hx hb dX11_isLess_170 (lv_at hl 1 rfl) ?_
              exact hret (o := ((0 : Int32))) h (show narrow .boolean (.int (0 : Int32)) = .int (0 : Int32) from by decide) hP hD hS dX11_isLess_172
            · replace h := zi_f hc162 h
              refine lv_iload hx hb dX11_isLess_165 (lv_at hl 0 rfl) ?_
              refine lv_goto (tgt := 172) hx hb dX11_isLess_167 (by decide) ?_
              exact hret (o := ((1 : Int32))) h (show narrow .boolean (.int (1 : Int32)) = .int (1 : Int32) from by decide) hP hD hS dX11_isLess_172
    · replace hc94 := fun q => hc94 ((zc_eq _ _).mpr q)
      replace h := zi_f hc94 h
      refine lv_lload hx hb dX11_isLess_97 (lv_at hl 3 rfl) ?_
      refine lv_lconst (v := (0 : Int64)) hx hb dX11_isLess_99 (by decide) ?_
      refine W.lcmp hx hb dX11_isLess_100 ?_
      refine lv_if_eq (tgt := 118) hx hb dX11_isLess_101 (by decide) (fun hc101 => ?_) (fun hc101 => ?_)
      · replace hc101 := (zc_eq _ _).mp hc101
        replace h := zi_t hc101 h
        refine lv_iconst (v := (1 : Int32)) hx hb dX11_isLess_118 (by decide) ?_
        refine lv_goto (tgt := 123) hx hb dX11_isLess_119 (by decide) ?_
        refine lv_istore (lv' := [(17, .int (1 : Int32)), (8, .long v8_90), (10, .long v10_90), (12, .long v12_90), (14, .long v14_90), (16, .int v16_90)]) hx hb dX11_isLess_123 hl (Nat.le_of_ble_eq_true rfl) rfl (fun ls hl => ?_)
        refine lv_lload hx hb dX11_isLess_125 (lv_at hl 4 rfl) ?_
        refine lv_lconst (v := (0 : Int64)) hx hb dX11_isLess_127 (by decide) ?_
        refine W.lcmp hx hb dX11_isLess_128 ?_
        refine lv_if_eq (tgt := 157) hx hb dX11_isLess_129 (by decide) (fun hc129 => ?_) (fun hc129 => ?_)
        · replace hc129 := (zc_eq _ _).mp hc129
          replace h := zi_t hc129 h
          refine lv_iconst (v := (0 : Int32)) hx hb dX11_isLess_157 (by decide) ?_
          refine lv_istore (lv' := [(18, .int (0 : Int32)), (17, .int (1 : Int32)), (8, .long v8_90), (10, .long v10_90), (12, .long v12_90), (14, .long v14_90), (16, .int v16_90)]) hx hb dX11_isLess_158 hl (Nat.le_of_ble_eq_true rfl) rfl (fun ls hl => ?_)
          refine lv_iload hx hb dX11_isLess_160 (lv_at hl 6 rfl) ?_
          refine lv_if_eq (tgt := 170) hx hb dX11_isLess_162 (by decide) (fun hc162 => ?_) (fun hc162 => ?_)
          · replace h := zi_t hc162 h
            refine lv_iload hx hb dX11_isLess_170 (lv_at hl 1 rfl) ?_
            exact hret (o := ((1 : Int32))) h (show narrow .boolean (.int (1 : Int32)) = .int (1 : Int32) from by decide) hP hD hS dX11_isLess_172
          · replace h := zi_f hc162 h
            refine lv_iload hx hb dX11_isLess_165 (lv_at hl 0 rfl) ?_
            refine lv_goto (tgt := 172) hx hb dX11_isLess_167 (by decide) ?_
            exact hret (o := ((0 : Int32))) h (show narrow .boolean (.int (0 : Int32)) = .int (0 : Int32) from by decide) hP hD hS dX11_isLess_172
        · replace hc129 := fun q => hc129 ((zc_eq _ _).mpr q)
          replace h := zi_f hc129 h
          refine lv_lload hx hb dX11_isLess_132 (lv_at hl 2 rfl) ?_
          refine lv_lconst (v := (0 : Int64)) hx hb dX11_isLess_134 (by decide) ?_
          refine W.lcmp hx hb dX11_isLess_135 ?_
          refine lv_if_eq (tgt := 153) hx hb dX11_isLess_136 (by decide) (fun hc136 => ?_) (fun hc136 => ?_)
          · replace hc136 := (zc_eq _ _).mp hc136
            replace h := zi_t hc136 h
            refine lv_iconst (v := (1 : Int32)) hx hb dX11_isLess_153 (by decide) ?_
            refine lv_goto (tgt := 158) hx hb dX11_isLess_154 (by decide) ?_
            refine lv_istore (lv' := [(18, .int (1 : Int32)), (17, .int (1 : Int32)), (8, .long v8_90), (10, .long v10_90), (12, .long v12_90), (14, .long v14_90), (16, .int v16_90)]) hx hb dX11_isLess_158 hl (Nat.le_of_ble_eq_true rfl) rfl (fun ls hl => ?_)
            refine lv_iload hx hb dX11_isLess_160 (lv_at hl 6 rfl) ?_
            refine lv_if_eq (tgt := 170) hx hb dX11_isLess_162 (by decide) (fun hc162 => ?_) (fun hc162 => ?_)
            · replace h := zi_t hc162 h
              refine lv_iload hx hb dX11_isLess_170 (lv_at hl 1 rfl) ?_
              exact hret (o := ((1 : Int32))) h (show narrow .boolean (.int (1 : Int32)) = .int (1 : Int32) from by decide) hP hD hS dX11_isLess_172
            · replace h := zi_f hc162 h
              refine lv_iload hx hb dX11_isLess_165 (lv_at hl 0 rfl) ?_
              refine lv_goto (tgt := 172) hx hb dX11_isLess_167 (by decide) ?_
              exact hret (o := ((1 : Int32))) h (show narrow .boolean (.int (1 : Int32)) = .int (1 : Int32) from by decide) hP hD hS dX11_isLess_172
          · replace hc136 := fun q => hc136 ((zc_eq _ _).mpr q)
            replace h := zi_f hc136 h
            refine lv_lload hx hb dX11_isLess_139 (lv_at hl 3 rfl) ?_
            refine lv_lload hx hb dX11_isLess_141 (lv_at hl 4 rfl) ?_
            obtain ⟨hz143, h⟩ := zg_s h
            refine lv_ldiv hx hb dX11_isLess_143 hz143 ?_
            refine lv_lload hx hb dX11_isLess_144 (lv_at hl 1 rfl) ?_
            refine lv_lload hx hb dX11_isLess_146 (lv_at hl 2 rfl) ?_
            obtain ⟨hz148, h⟩ := zg_s h
            refine lv_ldiv hx hb dX11_isLess_148 hz148 ?_
            refine W.lcmp hx hb dX11_isLess_149 ?_
            refine lv_if_ge (tgt := 157) hx hb dX11_isLess_150 (by decide) (fun hc150 => ?_) (fun hc150 => ?_)
            · replace hc150 := (zc_ge _ _).mp hc150
              replace h := zi_t hc150 h
              refine lv_iconst (v := (0 : Int32)) hx hb dX11_isLess_157 (by decide) ?_
              refine lv_istore (lv' := [(18, .int (0 : Int32)), (17, .int (1 : Int32)), (8, .long v8_90), (10, .long v10_90), (12, .long v12_90), (14, .long v14_90), (16, .int v16_90)]) hx hb dX11_isLess_158 hl (Nat.le_of_ble_eq_true rfl) rfl (fun ls hl => ?_)
              refine lv_iload hx hb dX11_isLess_160 (lv_at hl 6 rfl) ?_
              refine lv_if_eq (tgt := 170) hx hb dX11_isLess_162 (by decide) (fun hc162 => ?_) (fun hc162 => ?_)
              · replace h := zi_t hc162 h
                refine lv_iload hx hb dX11_isLess_170 (lv_at hl 1 rfl) ?_
                exact hret (o := ((1 : Int32))) h (show narrow .boolean (.int (1 : Int32)) = .int (1 : Int32) from by decide) hP hD hS dX11_isLess_172
              · replace h := zi_f hc162 h
                refine lv_iload hx hb dX11_isLess_165 (lv_at hl 0 rfl) ?_
                refine lv_goto (tgt := 172) hx hb dX11_isLess_167 (by decide) ?_
                exact hret (o := ((0 : Int32))) h (show narrow .boolean (.int (0 : Int32)) = .int (0 : Int32) from by decide) hP hD hS dX11_isLess_172
            · replace hc150 := fun q => hc150 ((zc_ge _ _).mpr q)
              replace h := zi_f hc150 h
              refine lv_iconst (v := (1 : Int32)) hx hb dX11_isLess_153 (by decide) ?_
              refine lv_goto (tgt := 158) hx hb dX11_isLess_154 (by decide) ?_
              refine lv_istore (lv' := [(18, .int (1 : Int32)), (17, .int (1 : Int32)), (8, .long v8_90), (10, .long v10_90), (12, .long v12_90), (14, .long v14_90), (16, .int v16_90)]) hx hb dX11_isLess_158 hl (Nat.le_of_ble_eq_true rfl) rfl (fun ls hl => ?_)
              refine lv_iload hx hb dX11_isLess_160 (lv_at hl 6 rfl) ?_
              refine lv_if_eq (tgt := 170) hx hb dX11_isLess_162 (by decide) (fun hc162 => ?_) (fun hc162 => ?_)
              · replace h := zi_t hc162 h
                refine lv_iload hx hb dX11_isLess_170 (lv_at hl 1 rfl) ?_
                exact hret (o := ((1 : Int32))) h (show narrow .boolean (.int (1 : Int32)) = .int (1 : Int32) from by decide) hP hD hS dX11_isLess_172
              · replace h := zi_f hc162 h
                refine lv_iload hx hb dX11_isLess_165 (lv_at hl 0 rfl) ?_
                refine lv_goto (tgt := 172) hx hb dX11_isLess_167 (by decide) ?_
                exact hret (o := ((1 : Int32))) h (show narrow .boolean (.int (1 : Int32)) = .int (1 : Int32) from by decide) hP hD hS dX11_isLess_172
      · replace hc101 := fun q => hc101 ((zc_eq _ _).mpr q)
        replace h := zi_f hc101 h
        refine lv_lload hx hb dX11_isLess_104 (lv_at hl 0 rfl) ?_
        refine lv_lload hx hb dX11_isLess_106 (lv_at hl 1 rfl) ?_
        obtain ⟨hz108, h⟩ := zg_s h
        refine lv_ldiv hx hb dX11_isLess_108 hz108 ?_
        refine lv_lload hx hb dX11_isLess_109 (lv_at hl 2 rfl) ?_
        refine lv_lload hx hb dX11_isLess_111 (lv_at hl 3 rfl) ?_
        obtain ⟨hz113, h⟩ := zg_s h
        refine lv_ldiv hx hb dX11_isLess_113 hz113 ?_
        refine W.lcmp hx hb dX11_isLess_114 ?_
        refine lv_if_ge (tgt := 122) hx hb dX11_isLess_115 (by decide) (fun hc115 => ?_) (fun hc115 => ?_)
        · replace hc115 := (zc_ge _ _).mp hc115
          replace h := zi_t hc115 h
          refine lv_iconst (v := (0 : Int32)) hx hb dX11_isLess_122 (by decide) ?_
          refine lv_istore (lv' := [(17, .int (0 : Int32)), (8, .long v8_90), (10, .long v10_90), (12, .long v12_90), (14, .long v14_90), (16, .int v16_90)]) hx hb dX11_isLess_123 hl (Nat.le_of_ble_eq_true rfl) rfl (fun ls hl => ?_)
          refine lv_lload hx hb dX11_isLess_125 (lv_at hl 4 rfl) ?_
          refine lv_lconst (v := (0 : Int64)) hx hb dX11_isLess_127 (by decide) ?_
          refine W.lcmp hx hb dX11_isLess_128 ?_
          refine lv_if_eq (tgt := 157) hx hb dX11_isLess_129 (by decide) (fun hc129 => ?_) (fun hc129 => ?_)
          · replace hc129 := (zc_eq _ _).mp hc129
            replace h := zi_t hc129 h
            refine lv_iconst (v := (0 : Int32)) hx hb dX11_isLess_157 (by decide) ?_
            refine lv_istore (lv' := [(18, .int (0 : Int32)), (17, .int (0 : Int32)), (8, .long v8_90), (10, .long v10_90), (12, .long v12_90), (14, .long v14_90), (16, .int v16_90)]) hx hb dX11_isLess_158 hl (Nat.le_of_ble_eq_true rfl) rfl (fun ls hl => ?_)
            refine lv_iload hx hb dX11_isLess_160 (lv_at hl 6 rfl) ?_
            refine lv_if_eq (tgt := 170) hx hb dX11_isLess_162 (by decide) (fun hc162 => ?_) (fun hc162 => ?_)
            · replace h := zi_t hc162 h
              refine lv_iload hx hb dX11_isLess_170 (lv_at hl 1 rfl) ?_
              exact hret (o := ((0 : Int32))) h (show narrow .boolean (.int (0 : Int32)) = .int (0 : Int32) from by decide) hP hD hS dX11_isLess_172
            · replace h := zi_f hc162 h
              refine lv_iload hx hb dX11_isLess_165 (lv_at hl 0 rfl) ?_
              refine lv_goto (tgt := 172) hx hb dX11_isLess_167 (by decide) ?_
              exact hret (o := ((0 : Int32))) h (show narrow .boolean (.int (0 : Int32)) = .int (0 : Int32) from by decide) hP hD hS dX11_isLess_172
          · replace hc129 := fun q => hc129 ((zc_eq _ _).mpr q)
            replace h := zi_f hc129 h
            refine lv_lload hx hb dX11_isLess_132 (lv_at hl 2 rfl) ?_
            refine lv_lconst (v := (0 : Int64)) hx hb dX11_isLess_134 (by decide) ?_
            refine W.lcmp hx hb dX11_isLess_135 ?_
            refine lv_if_eq (tgt := 153) hx hb dX11_isLess_136 (by decide) (fun hc136 => ?_) (fun hc136 => ?_)
            · replace hc136 := (zc_eq _ _).mp hc136
              replace h := zi_t hc136 h
              refine lv_iconst (v := (1 : Int32)) hx hb dX11_isLess_153 (by decide) ?_
              refine lv_goto (tgt := 158) hx hb dX11_isLess_154 (by decide) ?_
              refine lv_istore (lv' := [(18, .int (1 : Int32)), (17, .int (0 : Int32)), (8, .long v8_90), (10, .long v10_90), (12, .long v12_90), (14, .long v14_90), (16, .int v16_90)]) hx hb dX11_isLess_158 hl (Nat.le_of_ble_eq_true rfl) rfl (fun ls hl => ?_)
              refine lv_iload hx hb dX11_isLess_160 (lv_at hl 6 rfl) ?_
              refine lv_if_eq (tgt := 170) hx hb dX11_isLess_162 (by decide) (fun hc162 => ?_) (fun hc162 => ?_)
              · replace h := zi_t hc162 h
                refine lv_iload hx hb dX11_isLess_170 (lv_at hl 1 rfl) ?_
                exact hret (o := ((0 : Int32))) h (show narrow .boolean (.int (0 : Int32)) = .int (0 : Int32) from by decide) hP hD hS dX11_isLess_172
              · replace h := zi_f hc162 h
                refine lv_iload hx hb dX11_isLess_165 (lv_at hl 0 rfl) ?_
                refine lv_goto (tgt := 172) hx hb dX11_isLess_167 (by decide) ?_
                exact hret (o := ((1 : Int32))) h (show narrow .boolean (.int (1 : Int32)) = .int (1 : Int32) from by decide) hP hD hS dX11_isLess_172
            · replace hc136 := fun q => hc136 ((zc_eq _ _).mpr q)
              replace h := zi_f hc136 h
              refine lv_lload hx hb dX11_isLess_139 (lv_at hl 3 rfl) ?_
              refine lv_lload hx hb dX11_isLess_141 (lv_at hl 4 rfl) ?_
              obtain ⟨hz143, h⟩ := zg_s h
              refine lv_ldiv hx hb dX11_isLess_143 hz143 ?_
              refine lv_lload hx hb dX11_isLess_144 (lv_at hl 1 rfl) ?_
              refine lv_lload hx hb dX11_isLess_146 (lv_at hl 2 rfl) ?_
              obtain ⟨hz148, h⟩ := zg_s h
              refine lv_ldiv hx hb dX11_isLess_148 hz148 ?_
              refine W.lcmp hx hb dX11_isLess_149 ?_
              refine lv_if_ge (tgt := 157) hx hb dX11_isLess_150 (by decide) (fun hc150 => ?_) (fun hc150 => ?_)
              · replace hc150 := (zc_ge _ _).mp hc150
                replace h := zi_t hc150 h
                refine lv_iconst (v := (0 : Int32)) hx hb dX11_isLess_157 (by decide) ?_
                refine lv_istore (lv' := [(18, .int (0 : Int32)), (17, .int (0 : Int32)), (8, .long v8_90), (10, .long v10_90), (12, .long v12_90), (14, .long v14_90), (16, .int v16_90)]) hx hb dX11_isLess_158 hl (Nat.le_of_ble_eq_true rfl) rfl (fun ls hl => ?_)
                refine lv_iload hx hb dX11_isLess_160 (lv_at hl 6 rfl) ?_
                refine lv_if_eq (tgt := 170) hx hb dX11_isLess_162 (by decide) (fun hc162 => ?_) (fun hc162 => ?_)
                · replace h := zi_t hc162 h
                  refine lv_iload hx hb dX11_isLess_170 (lv_at hl 1 rfl) ?_
                  exact hret (o := ((0 : Int32))) h (show narrow .boolean (.int (0 : Int32)) = .int (0 : Int32) from by decide) hP hD hS dX11_isLess_172
                · replace h := zi_f hc162 h
                  refine lv_iload hx hb dX11_isLess_165 (lv_at hl 0 rfl) ?_
                  refine lv_goto (tgt := 172) hx hb dX11_isLess_167 (by decide) ?_
                  exact hret (o := ((0 : Int32))) h (show narrow .boolean (.int (0 : Int32)) = .int (0 : Int32) from by decide) hP hD hS dX11_isLess_172
              · replace hc150 := fun q => hc150 ((zc_ge _ _).mpr q)
                replace h := zi_f hc150 h
                refine lv_iconst (v := (1 : Int32)) hx hb dX11_isLess_153 (by decide) ?_
                refine lv_goto (tgt := 158) hx hb dX11_isLess_154 (by decide) ?_
                refine lv_istore (lv' := [(18, .int (1 : Int32)), (17, .int (0 : Int32)), (8, .long v8_90), (10, .long v10_90), (12, .long v12_90), (14, .long v14_90), (16, .int v16_90)]) hx hb dX11_isLess_158 hl (Nat.le_of_ble_eq_true rfl) rfl (fun ls hl => ?_)
                refine lv_iload hx hb dX11_isLess_160 (lv_at hl 6 rfl) ?_
                refine lv_if_eq (tgt := 170) hx hb dX11_isLess_162 (by decide) (fun hc162 => ?_) (fun hc162 => ?_)
                · replace h := zi_t hc162 h
                  refine lv_iload hx hb dX11_isLess_170 (lv_at hl 1 rfl) ?_
                  exact hret (o := ((0 : Int32))) h (show narrow .boolean (.int (0 : Int32)) = .int (0 : Int32) from by decide) hP hD hS dX11_isLess_172
                · replace h := zi_f hc162 h
                  refine lv_iload hx hb dX11_isLess_165 (lv_at hl 0 rfl) ?_
                  refine lv_goto (tgt := 172) hx hb dX11_isLess_167 (by decide) ?_
                  exact hret (o := ((1 : Int32))) h (show narrow .boolean (.int (1 : Int32)) = .int (1 : Int32) from by decide) hP hD hS dX11_isLess_172
        · replace hc115 := fun q => hc115 ((zc_ge _ _).mpr q)
          replace h := zi_f hc115 h
          refine lv_iconst (v := (1 : Int32)) hx hb dX11_isLess_118 (by decide) ?_
          refine lv_goto (tgt := 123) hx hb dX11_isLess_119 (by decide) ?_
          refine lv_istore (lv' := [(17, .int (1 : Int32)), (8, .long v8_90), (10, .long v10_90), (12, .long v12_90), (14, .long v14_90), (16, .int v16_90)]) hx hb dX11_isLess_123 hl (Nat.le_of_ble_eq_true rfl) rfl (fun ls hl => ?_)
          refine lv_lload hx hb dX11_isLess_125 (lv_at hl 4 rfl) ?_
          refine lv_lconst (v := (0 : Int64)) hx hb dX11_isLess_127 (by decide) ?_
          refine W.lcmp hx hb dX11_isLess_128 ?_
          refine lv_if_eq (tgt := 157) hx hb dX11_isLess_129 (by decide) (fun hc129 => ?_) (fun hc129 => ?_)
          · replace hc129 := (zc_eq _ _).mp hc129
            replace h := zi_t hc129 h
            refine lv_iconst (v := (0 : Int32)) hx hb dX11_isLess_157 (by decide) ?_
            refine lv_istore (lv' := [(18, .int (0 : Int32)), (17, .int (1 : Int32)), (8, .long v8_90), (10, .long v10_90), (12, .long v12_90), (14, .long v14_90), (16, .int v16_90)]) hx hb dX11_isLess_158 hl (Nat.le_of_ble_eq_true rfl) rfl (fun ls hl => ?_)
            refine lv_iload hx hb dX11_isLess_160 (lv_at hl 6 rfl) ?_
            refine lv_if_eq (tgt := 170) hx hb dX11_isLess_162 (by decide) (fun hc162 => ?_) (fun hc162 => ?_)
            · replace h := zi_t hc162 h
              refine lv_iload hx hb dX11_isLess_170 (lv_at hl 1 rfl) ?_
              exact hret (o := ((1 : Int32))) h (show narrow .boolean (.int (1 : Int32)) = .int (1 : Int32) from by decide) hP hD hS dX11_isLess_172
            · replace h := zi_f hc162 h
              refine lv_iload hx hb dX11_isLess_165 (lv_at hl 0 rfl) ?_
              refine lv_goto (tgt := 172) hx hb dX11_isLess_167 (by decide) ?_
              exact hret (o := ((0 : Int32))) h (show narrow .boolean (.int (0 : Int32)) = .int (0 : Int32) from by decide) hP hD hS dX11_isLess_172
          · replace hc129 := fun q => hc129 ((zc_eq _ _).mpr q)
            replace h := zi_f hc129 h
            refine lv_lload hx hb dX11_isLess_132 (lv_at hl 2 rfl) ?_
            refine lv_lconst (v := (0 : Int64)) hx hb dX11_isLess_134 (by decide) ?_
            refine W.lcmp hx hb dX11_isLess_135 ?_
            refine lv_if_eq (tgt := 153) hx hb dX11_isLess_136 (by decide) (fun hc136 => ?_) (fun hc136 => ?_)
            · replace hc136 := (zc_eq _ _).mp hc136
              replace h := zi_t hc136 h
              refine lv_iconst (v := (1 : Int32)) hx hb dX11_isLess_153 (by decide) ?_
              refine lv_goto (tgt := 158) hx hb dX11_isLess_154 (by decide) ?_
              refine lv_istore (lv' := [(18, .int (1 : Int32)), (17, .int (1 : Int32)), (8, .long v8_90), (10, .long v10_90), (12, .long v12_90), (14, .long v14_90), (16, .int v16_90)]) hx hb dX11_isLess_158 hl (Nat.le_of_ble_eq_true rfl) rfl (fun ls hl => ?_)
              refine lv_iload hx hb dX11_isLess_160 (lv_at hl 6 rfl) ?_
              refine lv_if_eq (tgt := 170) hx hb dX11_isLess_162 (by decide) (fun hc162 => ?_) (fun hc162 => ?_)
              · replace h := zi_t hc162 h
                refine lv_iload hx hb dX11_isLess_170 (lv_at hl 1 rfl) ?_
                exact hret (o := ((1 : Int32))) h (show narrow .boolean (.int (1 : Int32)) = .int (1 : Int32) from by decide) hP hD hS dX11_isLess_172
              · replace h := zi_f hc162 h
                refine lv_iload hx hb dX11_isLess_165 (lv_at hl 0 rfl) ?_
                refine lv_goto (tgt := 172) hx hb dX11_isLess_167 (by decide) ?_
                exact hret (o := ((1 : Int32))) h (show narrow .boolean (.int (1 : Int32)) = .int (1 : Int32) from by decide) hP hD hS dX11_isLess_172
            · replace hc136 := fun q => hc136 ((zc_eq _ _).mpr q)
              replace h := zi_f hc136 h
              refine lv_lload hx hb dX11_isLess_139 (lv_at hl 3 rfl) ?_
              refine lv_lload hx hb dX11_isLess_141 (lv_at hl 4 rfl) ?_
              obtain ⟨hz143, h⟩ := zg_s h
              refine lv_ldiv hx hb dX11_isLess_143 hz143 ?_
              refine lv_lload hx hb dX11_isLess_144 (lv_at hl 1 rfl) ?_
              refine lv_lload hx hb dX11_isLess_146 (lv_at hl 2 rfl) ?_
              obtain ⟨hz148, h⟩ := zg_s h
              refine lv_ldiv hx hb dX11_isLess_148 hz148 ?_
              refine W.lcmp hx hb dX11_isLess_149 ?_
              refine lv_if_ge (tgt := 157) hx hb dX11_isLess_150 (by decide) (fun hc150 => ?_) (fun hc150 => ?_)
              · replace hc150 := (zc_ge _ _).mp hc150
                replace h := zi_t hc150 h
                refine lv_iconst (v := (0 : Int32)) hx hb dX11_isLess_157 (by decide) ?_
                refine lv_istore (lv' := [(18, .int (0 : Int32)), (17, .int (1 : Int32)), (8, .long v8_90), (10, .long v10_90), (12, .long v12_90), (14, .long v14_90), (16, .int v16_90)]) hx hb dX11_isLess_158 hl (Nat.le_of_ble_eq_true rfl) rfl (fun ls hl => ?_)
                refine lv_iload hx hb dX11_isLess_160 (lv_at hl 6 rfl) ?_
                refine lv_if_eq (tgt := 170) hx hb dX11_isLess_162 (by decide) (fun hc162 => ?_) (fun hc162 => ?_)
                · replace h := zi_t hc162 h
                  refine lv_iload hx hb dX11_isLess_170 (lv_at hl 1 rfl) ?_
                  exact hret (o := ((1 : Int32))) h (show narrow .boolean (.int (1 : Int32)) = .int (1 : Int32) from by decide) hP hD hS dX11_isLess_172
                · replace h := zi_f hc162 h
                  refine lv_iload hx hb dX11_isLess_165 (lv_at hl 0 rfl) ?_
                  refine lv_goto (tgt := 172) hx hb dX11_isLess_167 (by decide) ?_
                  exact hret (o := ((0 : Int32))) h (show narrow .boolean (.int (0 : Int32)) = .int (0 : Int32) from by decide) hP hD hS dX11_isLess_172
              · replace hc150 := fun q => hc150 ((zc_ge _ _).mpr q)
                replace h := zi_f hc150 h
                refine lv_iconst (v := (1 : Int32)) hx hb dX11_isLess_153 (by decide) ?_
                refine lv_goto (tgt := 158) hx hb dX11_isLess_154 (by decide) ?_
                refine lv_istore (lv' := [(18, .int (1 : Int32)), (17, .int (1 : Int32)), (8, .long v8_90), (10, .long v10_90), (12, .long v12_90), (14, .long v14_90), (16, .int v16_90)]) hx hb dX11_isLess_158 hl (Nat.le_of_ble_eq_true rfl) rfl (fun ls hl => ?_)
                refine lv_iload hx hb dX11_isLess_160 (lv_at hl 6 rfl) ?_
                refine lv_if_eq (tgt := 170) hx hb dX11_isLess_162 (by decide) (fun hc162 => ?_) (fun hc162 => ?_)
                · replace h := zi_t hc162 h
                  refine lv_iload hx hb dX11_isLess_170 (lv_at hl 1 rfl) ?_
                  exact hret (o := ((1 : Int32))) h (show narrow .boolean (.int (1 : Int32)) = .int (1 : Int32) from by decide) hP hD hS dX11_isLess_172
                · replace h := zi_f hc162 h
                  refine lv_iload hx hb dX11_isLess_165 (lv_at hl 0 rfl) ?_
                  refine lv_goto (tgt := 172) hx hb dX11_isLess_167 (by decide) ?_
                  exact hret (o := ((1 : Int32))) h (show narrow .boolean (.int (1 : Int32)) = .int (1 : Int32) from by decide) hP hD hS dX11_isLess_172
  have hL17 : ∀ n17 : Nat, ∀ (v8_17 v10_17 v12_17 v14_17 : Int64) (v16_17 : Int32) (H : Heap) (locs : List Loc) (ls : Array Slot), va_P D vwCl ([] : va_W) H → va_D A ([] : va_W) → va_S A s.heap H locs → lv_has ls 21 [(8, .long v8_17), (10, .long v10_17), (12, .long v12_17), (14, .long v14_17), (16, .int v16_17)] → fX11_isLess_L17 fX11_isLess_J90 n17 v8_17 v10_17 v12_17 v14_17 v16_17 = some res → W p l e rmX11_isLess s m args below meth c H locs 0 0 Q (F0 m 17 ls []) := by
    intro n17
    induction n17 with
    | zero =>
      intro v8_17 v10_17 v12_17 v14_17 v16_17 H locs ls hP hD hS hl h
      exact zl5_0 h
    | succ n17 ih17 =>
      intro v8_17 v10_17 v12_17 v14_17 v16_17 H locs ls hP hD hS hl h
      replace h := zl5_s h
      refine lv_lload hx hb dX11_isLess_17 (lv_at hl 1 rfl) ?_
      refine lv_lconst (v := (0 : Int64)) hx hb dX11_isLess_19 (by decide) ?_
      refine W.lcmp hx hb dX11_isLess_20 ?_
      refine lv_if_eq (tgt := 90) hx hb dX11_isLess_21 (by decide) (fun hc21 => ?_) (fun hc21 => ?_)
      · replace hc21 := (zc_eq _ _).mp hc21
        replace h := zi_t hc21 h
        exact hJ90 v8_17 v10_17 v12_17 v14_17 v16_17 _ _ _ hP hD hS (lv_sub hl [0, 1, 2, 3, 4] rfl) h
      · replace hc21 := fun q => hc21 ((zc_eq _ _).mpr q)
        replace h := zi_f hc21 h
        refine lv_lload hx hb dX11_isLess_24 (lv_at hl 3 rfl) ?_
        refine lv_lconst (v := (0 : Int64)) hx hb dX11_isLess_26 (by decide) ?_
        refine W.lcmp hx hb dX11_isLess_27 ?_
        refine lv_if_eq (tgt := 90) hx hb dX11_isLess_28 (by decide) (fun hc28 => ?_) (fun hc28 => ?_)
        · replace hc28 := (zc_eq _ _).mp hc28
          replace h := zi_t hc28 h
          exact hJ90 v8_17 v10_17 v12_17 v14_17 v16_17 _ _ _ hP hD hS (lv_sub hl [0, 1, 2, 3, 4] rfl) h
        · replace hc28 := fun q => hc28 ((zc_eq _ _).mpr q)
          replace h := zi_f hc28 h
          refine lv_lload hx hb dX11_isLess_31 (lv_at hl 0 rfl) ?_
          refine lv_lload hx hb dX11_isLess_33 (lv_at hl 1 rfl) ?_
          obtain ⟨hz35, h⟩ := zg_s h
          refine lv_ldiv hx hb dX11_isLess_35 hz35 ?_
          refine lv_lload hx hb dX11_isLess_36 (lv_at hl 2 rfl) ?_
          refine lv_lload hx hb dX11_isLess_38 (lv_at hl 3 rfl) ?_
          obtain ⟨hz40, h⟩ := zg_s h
          refine lv_ldiv hx hb dX11_isLess_40 hz40 ?_
          refine W.lcmp hx hb dX11_isLess_41 ?_
          refine lv_if_ne (tgt := 90) hx hb dX11_isLess_42 (by decide) (fun hc42 => ?_) (fun hc42 => ?_)
          · replace hc42 := fun q => hc42 ((zc_eq _ _).mpr q)
            replace h := zi_f hc42 h
            exact hJ90 v8_17 v10_17 v12_17 v14_17 v16_17 _ _ _ hP hD hS (lv_sub hl [0, 1, 2, 3, 4] rfl) h
          · replace hc42 := (zc_eq _ _).mp hc42
            replace h := zi_t hc42 h
            refine lv_lload hx hb dX11_isLess_45 (lv_at hl 0 rfl) ?_
            refine lv_lload hx hb dX11_isLess_47 (lv_at hl 1 rfl) ?_
            obtain ⟨hz49, h⟩ := zg_s h
            refine lv_lrem hx hb dX11_isLess_49 hz49 ?_
            refine lv_lstore (lv' := [(17, .long (v8_17 - v8_17 / v10_17 * v10_17)), (8, .long v8_17), (10, .long v10_17), (12, .long v12_17), (14, .long v14_17), (16, .int v16_17)]) hx hb dX11_isLess_50 hl (Nat.le_of_ble_eq_true rfl) rfl (fun ls hl => ?_)
            refine lv_lload hx hb dX11_isLess_52 (lv_at hl 3 rfl) ?_
            refine lv_lload hx hb dX11_isLess_54 (lv_at hl 4 rfl) ?_
            obtain ⟨hz56, h⟩ := zg_s h
            refine lv_lrem hx hb dX11_isLess_56 hz56 ?_
            refine lv_lstore (lv' := [(19, .long (v12_17 - v12_17 / v14_17 * v14_17)), (17, .long (v8_17 - v8_17 / v10_17 * v10_17)), (8, .long v8_17), (10, .long v10_17), (12, .long v12_17), (14, .long v14_17), (16, .int v16_17)]) hx hb dX11_isLess_57 hl (Nat.le_of_ble_eq_true rfl) rfl (fun ls hl => ?_)
            refine lv_lload hx hb dX11_isLess_59 (lv_at hl 3 rfl) ?_
            refine lv_lstore (lv' := [(8, .long v10_17), (19, .long (v12_17 - v12_17 / v14_17 * v14_17)), (17, .long (v8_17 - v8_17 / v10_17 * v10_17)), (10, .long v10_17), (12, .long v12_17), (14, .long v14_17), (16, .int v16_17)]) hx hb dX11_isLess_61 hl (Nat.le_of_ble_eq_true rfl) rfl (fun ls hl => ?_)
            refine lv_lload hx hb dX11_isLess_63 (lv_at hl 2 rfl) ?_
            refine lv_lstore (lv' := [(10, .long (v8_17 - v8_17 / v10_17 * v10_17)), (8, .long v10_17), (19, .long (v12_17 - v12_17 / v14_17 * v14_17)), (17, .long (v8_17 - v8_17 / v10_17 * v10_17)), (12, .long v12_17), (14, .long v14_17), (16, .int v16_17)]) hx hb dX11_isLess_65 hl (Nat.le_of_ble_eq_true rfl) rfl (fun ls hl => ?_)
            refine lv_lload hx hb dX11_isLess_67 (lv_at hl 5 rfl) ?_
            refine lv_lstore (lv' := [(12, .long v14_17), (10, .long (v8_17 - v8_17 / v10_17 * v10_17)), (8, .long v10_17), (19, .long (v12_17 - v12_17 / v14_17 * v14_17)), (17, .long (v8_17 - v8_17 / v10_17 * v10_17)), (14, .long v14_17), (16, .int v16_17)]) hx hb dX11_isLess_69 hl (Nat.le_of_ble_eq_true rfl) rfl (fun ls hl => ?_)
            refine lv_lload hx hb dX11_isLess_71 (lv_at hl 3 rfl) ?_
            refine lv_lstore (lv' := [(14, .long (v12_17 - v12_17 / v14_17 * v14_17)), (12, .long v14_17), (10, .long (v8_17 - v8_17 / v10_17 * v10_17)), (8, .long v10_17), (19, .long (v12_17 - v12_17 / v14_17 * v14_17)), (17, .long (v8_17 - v8_17 / v10_17 * v10_17)), (16, .int v16_17)]) hx hb dX11_isLess_73 hl (Nat.le_of_ble_eq_true rfl) rfl (fun ls hl => ?_)
            refine lv_iload hx hb dX11_isLess_75 (lv_at hl 6 rfl) ?_
            refine lv_if_ne (tgt := 84) hx hb dX11_isLess_77 (by decide) (fun hc77 => ?_) (fun hc77 => ?_)
            · replace h := zi_f hc77 h
              refine lv_iconst (v := (0 : Int32)) hx hb dX11_isLess_84 (by decide) ?_
              refine lv_istore (lv' := [(16, .int (0 : Int32)), (14, .long (v12_17 - v12_17 / v14_17 * v14_17)), (12, .long v14_17), (10, .long (v8_17 - v8_17 / v10_17 * v10_17)), (8, .long v10_17), (19, .long (v12_17 - v12_17 / v14_17 * v14_17)), (17, .long (v8_17 - v8_17 / v10_17 * v10_17))]) hx hb dX11_isLess_85 hl (Nat.le_of_ble_eq_true rfl) rfl (fun ls hl => ?_)
              refine lv_goto (tgt := 17) hx hb dX11_isLess_87 (by decide) ?_
              exact ih17 v10_17 (v8_17 - v8_17 / v10_17 * v10_17) v14_17 (v12_17 - v12_17 / v14_17 * v14_17) (0 : Int32) _ _ _ hP hD hS (lv_sub hl [4, 3, 2, 1, 0] rfl) h
            · replace h := zi_t hc77 h
              refine lv_iconst (v := (1 : Int32)) hx hb dX11_isLess_80 (by decide) ?_
              refine lv_goto (tgt := 85) hx hb dX11_isLess_81 (by decide) ?_
              refine lv_istore (lv' := [(16, .int (1 : Int32)), (14, .long (v12_17 - v12_17 / v14_17 * v14_17)), (12, .long v14_17), (10, .long (v8_17 - v8_17 / v10_17 * v10_17)), (8, .long v10_17), (19, .long (v12_17 - v12_17 / v14_17 * v14_17)), (17, .long (v8_17 - v8_17 / v10_17 * v10_17))]) hx hb dX11_isLess_85 hl (Nat.le_of_ble_eq_true rfl) rfl (fun ls hl => ?_)
              refine lv_goto (tgt := 17) hx hb dX11_isLess_87 (by decide) ?_
              exact ih17 v10_17 (v8_17 - v8_17 / v10_17 * v10_17) v14_17 (v12_17 - v12_17 / v14_17 * v14_17) (1 : Int32) _ _ _ hP hD hS (lv_sub hl [4, 3, 2, 1, 0] rfl) h
  exact hL17 5000 p1 p2 p3 p4 (0 : Int32) _ _ _ hP hD hS (lv_sub hl [4, 3, 2, 1, 0] rfl) h

theorem uX11_worst_X11 : ∀ w ∈ u_ws RX11 TX11 33, w ∈ wsX11_worst := fun w h => (List.mem_cons_of_mem _ (List.mem_append_right _ h))
abbrev wdX11_worst (cy : Nat → ClassId) (b b_now b_imaged b_valueUp b_valueDown b_real b_brief b_order b_waits b_floats b_same b_upOf b_downOf b_tape b_open b_made b_paper b_reachUp b_reachDown b_reachHow b_reachFirst b_reachSecond b_begins b_carried : Nat) (c_hasImage : Int32) (c_above c_below : Int64) (c_orderMany c_waitMany c_seed c_size c_openMany c_paperMany c_reachMany : Int32) (c_now c_waits c_order : Nat → Int32) (c_upOf c_downOf : Nat → Int64) : va_W := [(b, .inr (11, [.ref b_now, .ref b_imaged, .int c_hasImage, .long c_above, .long c_below, .ref b_valueUp, .ref b_valueDown, .ref b_real, .ref b_brief, .ref b_order, .int c_orderMany, .ref b_waits, .int c_waitMany, .ref b_floats, .int c_seed, .ref b_same, .ref b_upOf, .ref b_downOf, .ref b_tape, .int c_size, .ref b_open, .int c_openMany, .ref b_made, .ref b_paper, .int c_paperMany, .ref b_reachUp, .ref b_reachDown, .ref b_reachHow, .ref b_reachFirst, .ref b_reachSecond, .ref b_begins, .int c_reachMany, .ref b_carried])), (b_now, .inl (cy 0, 261, .inl c_now)), (b_waits, .inl (cy 0, 40, .inl c_waits)), (b_order, .inl (cy 0, 24, .inl c_order)), (b_upOf, .inl (cy 1, 24, .inr (.inl c_upOf))), (b_downOf, .inl (cy 1, 24, .inr (.inl c_downOf)))]
abbrev rmX11_worst : Room := { frames := 4, cells := 0, slots := 0, locals := 111 }
theorem cdX11_worst : (yX11_worst).cls ≠ "java/lang/invoke/MethodHandle" ∧ (yX11_worst).cls ≠ "java/lang/invoke/VarHandle" ∧ (parseMethodDescriptor (yX11_worst).desc).map (fun d => d.parameters.length) = some 2 := by decide +kernel
def fX11_worst_J146 (v6_36 : Int64) (v8_36 : Int32) (rec36 : Int32 → Int64 → Int64 → Int32 → Int64 → Int64 → (Nat → Int64) → (Nat → Int64) → Option (Int32 × Int64 × Int64 × Int32 × Int32 × (Nat → Int32) × (Nat → Int32) × (Nat → Int64) × (Nat → Int64))) (c_above_r50 c_below_r50 : Int64) (c_upOf_r50 c_downOf_r50 : Nat → Int64) (s0_118 s0_131 : Int32) (s0_146 : Int64) : Option (Int32 × Int64 × Int64 × Int32 × Int32 × (Nat → Int32) × (Nat → Int32) × (Nat → Int64) × (Nat → Int64)) :=
  if s0_118 = 0 then (rec36 s0_131 s0_146 v6_36 (v8_36 + (1 : Int32)) c_above_r50 c_below_r50 c_upOf_r50 c_downOf_r50) else (rec36 s0_131 s0_146 c_below_r50 (v8_36 + (1 : Int32)) c_above_r50 c_below_r50 c_upOf_r50 c_downOf_r50)
def fX11_worst_J131 (v4_36 v6_36 : Int64) (v8_36 : Int32) (rec36 : Int32 → Int64 → Int64 → Int32 → Int64 → Int64 → (Nat → Int64) → (Nat → Int64) → Option (Int32 × Int64 × Int64 × Int32 × Int32 × (Nat → Int32) × (Nat → Int32) × (Nat → Int64) × (Nat → Int64))) (c_above_r50 c_below_r50 : Int64) (c_upOf_r50 c_downOf_r50 : Nat → Int64) (s0_118 : Int32) (s0_131 : Int32) : Option (Int32 × Int64 × Int64 × Int32 × Int32 × (Nat → Int32) × (Nat → Int32) × (Nat → Int64) × (Nat → Int64)) :=
  if s0_118 = 0 then (fX11_worst_J146 v6_36 v8_36 rec36 c_above_r50 c_below_r50 c_upOf_r50 c_downOf_r50 s0_118 s0_131 v4_36) else (fX11_worst_J146 v6_36 v8_36 rec36 c_above_r50 c_below_r50 c_upOf_r50 c_downOf_r50 s0_118 s0_131 c_above_r50)
def fX11_worst_J118 (v3_36 : Int32) (v4_36 v6_36 : Int64) (v8_36 : Int32) (rec36 : Int32 → Int64 → Int64 → Int32 → Int64 → Int64 → (Nat → Int64) → (Nat → Int64) → Option (Int32 × Int64 × Int64 × Int32 × Int32 × (Nat → Int32) × (Nat → Int32) × (Nat → Int64) × (Nat → Int64))) (c_above_r50 c_below_r50 : Int64) (c_upOf_r50 c_downOf_r50 : Nat → Int64) (s0_118 : Int32) : Option (Int32 × Int64 × Int64 × Int32 × Int32 × (Nat → Int32) × (Nat → Int32) × (Nat → Int64) × (Nat → Int64)) :=
  if s0_118 = 0 then (fX11_worst_J131 v4_36 v6_36 v8_36 rec36 c_above_r50 c_below_r50 c_upOf_r50 c_downOf_r50 s0_118 v3_36) else (fX11_worst_J131 v4_36 v6_36 v8_36 rec36 c_above_r50 c_below_r50 c_upOf_r50 c_downOf_r50 s0_118 v8_36)
def fX11_worst_L36 (c_now : Nat → Int32) (p1 p2 c_orderMany_r22 c_waitMany_r22 : Int32) (c_waits_r22 c_order_r22 : Nat → Int32) : Nat → Int32 → Int64 → Int64 → Int32 → Int64 → Int64 → (Nat → Int64) → (Nat → Int64) → Option (Int32 × Int64 × Int64 × Int32 × Int32 × (Nat → Int32) × (Nat → Int32) × (Nat → Int64) × (Nat → Int64)) :=
  zl8 (fun rec36 v3_36 v4_36 v6_36 v8_36 c_above_36 c_below_36 c_upOf_36 c_downOf_36 => zb1 (fX11_partsOf p1 c_now) (fun r40 => if r40 ≤ v8_36 then (some (v3_36, c_above_36, c_below_36, c_orderMany_r22, c_waitMany_r22, c_waits_r22, c_order_r22, c_upOf_36, c_downOf_36)) else (zb4 (fX11_valueFailing v8_36 p2 c_above_36 c_below_36 c_orderMany_r22 c_order_r22 c_now c_upOf_36 c_downOf_36) (fun c_above_r50 c_below_r50 c_upOf_r50 c_downOf_r50 => if (0 : Int64) ≤ c_above_r50 then (if v8_36 = 0 then (fX11_worst_J118 v3_36 v4_36 v6_36 v8_36 rec36 c_above_r50 c_below_r50 c_upOf_r50 c_downOf_r50 (1 : Int32)) else (if p2 = 0 then (zb1 (fX11_isLess v4_36 v6_36 c_above_r50 c_below_r50) (fun r86 => if r86 = 0 then (fX11_worst_J118 v3_36 v4_36 v6_36 v8_36 rec36 c_above_r50 c_below_r50 c_upOf_r50 c_downOf_r50 (0 : Int32)) else (fX11_worst_J118 v3_36 v4_36 v6_36 v8_36 rec36 c_above_r50 c_below_r50 c_upOf_r50 c_downOf_r50 (1 : Int32)))) else (zb1 (fX11_isLess c_above_r50 c_below_r50 v4_36 v6_36) (fun r107 => if r107 = 0 then (fX11_worst_J118 v3_36 v4_36 v6_36 v8_36 rec36 c_above_r50 c_below_r50 c_upOf_r50 c_downOf_r50 (0 : Int32)) else (fX11_worst_J118 v3_36 v4_36 v6_36 v8_36 rec36 c_above_r50 c_below_r50 c_upOf_r50 c_downOf_r50 (1 : Int32)))))) else (some ((-7 : Int32), c_above_r50, c_below_r50, c_orderMany_r22, c_waitMany_r22, c_waits_r22, c_order_r22, c_upOf_r50, c_downOf_r50))))))
def fX11_worst (p1 p2 : Int32) (c_above c_below : Int64) (c_orderMany c_waitMany : Int32) (c_now c_waits c_order : Nat → Int32) (c_upOf c_downOf : Nat → Int64) : Option (Int32 × Int64 × Int64 × Int32 × Int32 × (Nat → Int32) × (Nat → Int32) × (Nat → Int64) × (Nat → Int64)) :=
  zb1 (fX11_isNet p1 c_now) (fun r2 => if r2 = 0 then (some ((-1 : Int32), c_above, c_below, c_orderMany, c_waitMany, c_waits, c_order, c_upOf, c_downOf)) else (zb1 (fX11_in ((p2).toInt64) (0 : Int64) (1 : Int64)) (fun r12 => if r12 = 0 then (some ((-1 : Int32), c_above, c_below, c_orderMany, c_waitMany, c_waits, c_order, c_upOf, c_downOf)) else (zb4 (fX11_goes p1 c_orderMany c_waitMany c_waits c_now c_order) (fun c_orderMany_r22 c_waitMany_r22 c_waits_r22 c_order_r22 => fX11_worst_L36 c_now p1 p2 c_orderMany_r22 c_waitMany_r22 c_waits_r22 c_order_r22 5000 (0 : Int32) (0 : Int64) (1 : Int64) (0 : Int32) c_above c_below c_upOf c_downOf)))))
set_option maxHeartbeats 4000000 in
set_option maxRecDepth 100000 in
theorem mX11_worst (l : Launch) (D : va_G) (cy : Nat → ClassId) (sz : Nat) (b b_now b_imaged b_valueUp b_valueDown b_real b_brief b_order b_waits b_floats b_same b_upOf b_downOf b_tape b_open b_made b_paper b_reachUp b_reachDown b_reachHow b_reachFirst b_reachSecond b_begins b_carried : Nat) (c_hasImage : Int32) (c_above c_below : Int64) (c_orderMany c_waitMany c_seed c_size c_openMany c_paperMany c_reachMany : Int32) (c_now c_waits c_order : Nat → Int32) (c_upOf c_downOf : Nat → Int64) (p1 p2 : Int32) (res : (Int32 × Int64 × Int64 × Int32 × Int32 × (Nat → Int32) × (Nat → Int32) × (Nat → Int64) × (Nat → Int64))) (h : fX11_worst p1 p2 c_above c_below c_orderMany c_waitMany c_now c_waits c_order c_upOf c_downOf = some res) : zMi l yX11_worst wsX11_worst rmX11_worst [.ref b, .int p1, .int p2] D cy (wdX11_worst cy b b_now b_imaged b_valueUp b_valueDown b_real b_brief b_order b_waits b_floats b_same b_upOf b_downOf b_tape b_open b_made b_paper b_reachUp b_reachDown b_reachHow b_reachFirst b_reachSecond b_begins b_carried c_hasImage c_above c_below c_orderMany c_waitMany c_seed c_size c_openMany c_paperMany c_reachMany c_now c_waits c_order c_upOf c_downOf) sz ((fun (o : (Int32 × Int64 × Int64 × Int32 × Int32 × (Nat → Int32) × (Nat → Int32) × (Nat → Int64) × (Nat → Int64))) => o.1) res) ((fun (o : (Int32 × Int64 × Int64 × Int32 × Int32 × (Nat → Int32) × (Nat → Int32) × (Nat → Int64) × (Nat → Int64))) => (wdX11_worst cy b b_now b_imaged b_valueUp b_valueDown b_real b_brief b_order b_waits b_floats b_same b_upOf b_downOf b_tape b_open b_made b_paper b_reachUp b_reachDown b_reachHow b_reachFirst b_reachSecond b_begins b_carried c_hasImage (o.2.1) (o.2.2.1) (o.2.2.2.1) (o.2.2.2.2.1) c_seed c_size c_openMany c_paperMany c_reachMany c_now (o.2.2.2.2.2.1) (o.2.2.2.2.2.2.1) (o.2.2.2.2.2.2.2.1) (o.2.2.2.2.2.2.2.2))) res) := by
  refine zOfi (res := res) (rf := (fun (o : (Int32 × Int64 × Int64 × Int32 × Int32 × (Nat → Int32) × (Nat → Int32) × (Nat → Int64) × (Nat → Int64))) => o.1)) (Wf := (fun (o : (Int32 × Int64 × Int64 × Int32 × Int32 × (Nat → Int32) × (Nat → Int32) × (Nat → Int64) × (Nat → Int64))) => (wdX11_worst cy b b_now b_imaged b_valueUp b_valueDown b_real b_brief b_order b_waits b_floats b_same b_upOf b_downOf b_tape b_open b_made b_paper b_reachUp b_reachDown b_reachHow b_reachFirst b_reachSecond b_begins b_carried c_hasImage (o.2.1) (o.2.2.1) (o.2.2.2.1) (o.2.2.2.2.1) c_seed c_size c_openMany c_paperMany c_reachMany c_now (o.2.2.2.2.2.1) (o.2.2.2.2.2.2.1) (o.2.2.2.2.2.2.2.1) (o.2.2.2.2.2.2.2.2)))) (by decide +kernel) rfl (Nat.le_of_ble_eq_true rfl) ?_
  intro p e s m args below meth c A ls Q hx hb hml hts hown hP hK hD hA hS hl hret
  have hown : s.vm.findClass RX11 = some m.cls := hown
  have hl : lv_has ls 10 [(0, .ref b), (1, .int p1), (2, .int p2)] := hl
  refine lv_aload_n hx hb dX11_worst_0 rfl (lv_at hl 0 rfl) ?_
  refine lv_iload_n hx hb dX11_worst_1 rfl (lv_at hl 1 rfl) ?_
  obtain ⟨r2, hq2, h⟩ := zb1_s h
  refine zCz (r0 := r2) (w1 := (wdX11_isNet cy b b_now b_imaged b_valueUp b_valueDown b_real b_brief b_order b_waits b_floats b_same b_upOf b_downOf b_tape b_open b_made b_paper b_reachUp b_reachDown b_reachHow b_reachFirst b_reachSecond b_begins b_carried c_hasImage c_above c_below c_orderMany c_waitMany c_seed c_size c_openMany c_paperMany c_reachMany c_now)) (ws' := (wdX11_worst cy b b_now b_imaged b_valueUp b_valueDown b_real b_brief b_order b_waits b_floats b_same b_upOf b_downOf b_tape b_open b_made b_paper b_reachUp b_reachDown b_reachHow b_reachFirst b_reachSecond b_begins b_carried c_hasImage c_above c_below c_orderMany c_waitMany c_seed c_size c_openMany c_paperMany c_reachMany c_now c_waits c_order c_upOf c_downOf)) (va_runV (As := [.int p1]) (rest := []) ⟨hx, hb, hml, hown, hts⟩ (mX11_isNet l D cy s.heap.size b b_now b_imaged b_valueUp b_valueDown b_real b_brief b_order b_waits b_floats b_same b_upOf b_downOf b_tape b_open b_made b_paper b_reachUp b_reachDown b_reachHow b_reachFirst b_reachSecond b_begins b_carried c_hasImage c_above c_below c_orderMany c_waitMany c_seed c_size c_openMany c_paperMany c_reachMany c_now p1 (r2) hq2) (cwV 1 hts gX11_worst_X11_isNet rfl rfl rfl ⟨rfl, cdX11_isNet⟩ ⟨Nat.le_of_ble_eq_true rfl, Nat.le_of_ble_eq_true rfl⟩) (zPV hK hP hD [0, 1] rfl rfl (q0 := 0) (ci := 11) rfl rfl rfl) rfl rfl hl.1 rfl (lv_room (Nat.le_of_ble_eq_true rfl)) dX11_worst_2 ⟨Nat.zero_le _, Nat.zero_le _⟩) hP hD hS hA [0, 1] [2, 3, 4, 5] [4, 5, 0, 1, 2, 3] rfl rfl rfl rfl (fun H locs hn2 hP hD hS => ?_)
  refine lv_if_eq (tgt := 18) hx hb dX11_worst_5 (by decide) (fun hc5 => ?_) (fun hc5 => ?_)
  · replace h := zi_t hc5 h
    refine lv_iconst (v := (-1 : Int32)) hx hb dX11_worst_18 (by decide) ?_
    exact hret (o := ((-1 : Int32), c_above, c_below, c_orderMany, c_waitMany, c_waits, c_order, c_upOf, c_downOf)) h hP hD hS dX11_worst_19
  · replace h := zi_f hc5 h
    refine lv_iload_n hx hb dX11_worst_8 rfl (lv_at hl 2 rfl) ?_
    refine lv_i2l hx hb dX11_worst_9 rfl ?_
    refine lv_lconst (v := (0 : Int64)) hx hb dX11_worst_10 (by decide) ?_
    refine lv_lconst (v := (1 : Int64)) hx hb dX11_worst_11 (by decide) ?_
    obtain ⟨r12, hq12, h⟩ := zb1_s h
    refine zCz0 (r0 := r12) (va_runS (As := [.long ((p2).toInt64), .long (0 : Int64), .long (1 : Int64)]) (rest := []) ⟨hx, hb, hml, hown, hts⟩ (mX11_in l D cy H.size ((p2).toInt64) (0 : Int64) (1 : Int64) (r12) hq12) (va_cwS 3 hts gX11_worst_X11_in rfl rfl rfl cdX11_in ⟨Nat.le_of_ble_eq_true rfl, Nat.le_of_ble_eq_true rfl⟩) (zPS hK hP hD [] rfl rfl) rfl rfl hl.1 rfl (lv_room (Nat.le_of_ble_eq_true rfl)) dX11_worst_12 ⟨Nat.zero_le _, Nat.zero_le _⟩) hP hD hS hA (fun H locs hn12 hP hD hS => ?_)
    refine lv_if_ne (tgt := 20) hx hb dX11_worst_15 (by decide) (fun hc15 => ?_) (fun hc15 => ?_)
    · replace h := zi_f hc15 h
      refine lv_aload_n hx hb dX11_worst_20 rfl (lv_at hl 0 rfl) ?_
      refine lv_iload_n hx hb dX11_worst_21 rfl (lv_at hl 1 rfl) ?_
      obtain ⟨c_orderMany_r22, c_waitMany_r22, c_waits_r22, c_order_r22, hq22, h⟩ := zb4_s h
      refine zCv (w1 := (wdX11_goes cy b b_now b_imaged b_valueUp b_valueDown b_real b_brief b_order b_waits b_floats b_same b_upOf b_downOf b_tape b_open b_made b_paper b_reachUp b_reachDown b_reachHow b_reachFirst b_reachSecond b_begins b_carried c_hasImage c_above c_below c_orderMany_r22 c_waitMany_r22 c_seed c_size c_openMany c_paperMany c_reachMany c_waits_r22 c_now c_order_r22)) (ws' := (wdX11_worst cy b b_now b_imaged b_valueUp b_valueDown b_real b_brief b_order b_waits b_floats b_same b_upOf b_downOf b_tape b_open b_made b_paper b_reachUp b_reachDown b_reachHow b_reachFirst b_reachSecond b_begins b_carried c_hasImage c_above c_below c_orderMany_r22 c_waitMany_r22 c_seed c_size c_openMany c_paperMany c_reachMany c_now c_waits_r22 c_order_r22 c_upOf c_downOf)) (va_runV (As := [.int p1]) (rest := []) ⟨hx, hb, hml, hown, hts⟩ (mX11_goes l D cy H.size b b_now b_imaged b_valueUp b_valueDown b_real b_brief b_order b_waits b_floats b_same b_upOf b_downOf b_tape b_open b_made b_paper b_reachUp b_reachDown b_reachHow b_reachFirst b_reachSecond b_begins b_carried c_hasImage c_above c_below c_orderMany c_waitMany c_seed c_size c_openMany c_paperMany c_reachMany c_waits c_now c_order p1 (c_orderMany_r22, c_waitMany_r22, c_waits_r22, c_order_r22) hq22) (cwV 1 hts gX11_worst_X11_goes rfl rfl rfl ⟨rfl, cdX11_goes⟩ ⟨Nat.le_of_ble_eq_true rfl, Nat.le_of_ble_eq_true rfl⟩) (zPV hK hP hD [0, 2, 1, 3] rfl rfl (q0 := 0) (ci := 11) rfl rfl rfl) rfl rfl hl.1 rfl (lv_room (Nat.le_of_ble_eq_true rfl)) dX11_worst_22 ⟨Nat.zero_le _, Nat.zero_le _⟩) hP hD hS hA [0, 2, 1, 3] [4, 5] [2, 4, 3, 5, 0, 1] rfl rfl rfl rfl (fun H locs hP hD hS => ?_)
      refine lv_iconst (v := (0 : Int32)) hx hb dX11_worst_25 (by decide) ?_
      refine lv_istore_n (lv' := [(3, .int (0 : Int32)), (0, .ref b), (1, .int p1), (2, .int p2)]) hx hb dX11_worst_26 rfl hl (Nat.le_of_ble_eq_true rfl) rfl (fun ls hl => ?_)
      refine lv_lconst (v := (0 : Int64)) hx hb dX11_worst_27 (by decide) ?_
      refine lv_lstore (lv' := [(4, .long (0 : Int64)), (3, .int (0 : Int32)), (0, .ref b), (1, .int p1), (2, .int p2)]) hx hb dX11_worst_28 hl (Nat.le_of_ble_eq_true rfl) rfl (fun ls hl => ?_)
      refine lv_lconst (v := (1 : Int64)) hx hb dX11_worst_30 (by decide) ?_
      refine lv_lstore (lv' := [(6, .long (1 : Int64)), (4, .long (0 : Int64)), (3, .int (0 : Int32)), (0, .ref b), (1, .int p1), (2, .int p2)]) hx hb dX11_worst_31 hl (Nat.le_of_ble_eq_true rfl) rfl (fun ls hl => ?_)
      refine lv_iconst (v := (0 : Int32)) hx hb dX11_worst_33 (by decide) ?_
      refine lv_istore (lv' := [(8, .int (0 : Int32)), (6, .long (1 : Int64)), (4, .long (0 : Int64)), (3, .int (0 : Int32)), (0, .ref b), (1, .int p1), (2, .int p2)]) hx hb dX11_worst_34 hl (Nat.le_of_ble_eq_true rfl) rfl (fun ls hl => ?_)
      have hL36 : ∀ n36 : Nat, ∀ (v3_36 : Int32) (v4_36 v6_36 : Int64) (v8_36 : Int32) (c_above_36 c_below_36 : Int64) (c_upOf_36 c_downOf_36 : Nat → Int64) (H : Heap) (locs : List Loc) (ls : Array Slot), va_P D vwCl (wdX11_worst cy b b_now b_imaged b_valueUp b_valueDown b_real b_brief b_order b_waits b_floats b_same b_upOf b_downOf b_tape b_open b_made b_paper b_reachUp b_reachDown b_reachHow b_reachFirst b_reachSecond b_begins b_carried c_hasImage c_above_36 c_below_36 c_orderMany_r22 c_waitMany_r22 c_seed c_size c_openMany c_paperMany c_reachMany c_now c_waits_r22 c_order_r22 c_upOf_36 c_downOf_36) H → va_D A (wdX11_worst cy b b_now b_imaged b_valueUp b_valueDown b_real b_brief b_order b_waits b_floats b_same b_upOf b_downOf b_tape b_open b_made b_paper b_reachUp b_reachDown b_reachHow b_reachFirst b_reachSecond b_begins b_carried c_hasImage c_above_36 c_below_36 c_orderMany_r22 c_waitMany_r22 c_seed c_size c_openMany c_paperMany c_reachMany c_now c_waits_r22 c_order_r22 c_upOf_36 c_downOf_36) → va_S A s.heap H locs → lv_has ls 10 [(0, .ref b), (1, .int p1), (2, .int p2), (3, .int v3_36), (4, .long v4_36), (6, .long v6_36), (8, .int v8_36)] → fX11_worst_L36 c_now p1 p2 c_orderMany_r22 c_waitMany_r22 c_waits_r22 c_order_r22 n36 v3_36 v4_36 v6_36 v8_36 c_above_36 c_below_36 c_upOf_36 c_downOf_36 = some res → W p l e rmX11_worst s m args below meth c H locs 0 0 Q (F0 m 36 ls []) := by
        intro n36
        induction n36 with
        | zero =>
          intro v3_36 v4_36 v6_36 v8_36 c_above_36 c_below_36 c_upOf_36 c_downOf_36 H locs ls hP hD hS hl h
          exact zl8_0 h
        | succ n36 ih36 =>
          intro v3_36 v4_36 v6_36 v8_36 c_above_36 c_below_36 c_upOf_36 c_downOf_36 H locs ls hP hD hS hl h
          replace h := zl8_s h
          refine lv_iload hx hb dX11_worst_36 (lv_at hl 6 rfl) ?_
          refine lv_aload_n hx hb dX11_worst_38 rfl (lv_at hl 0 rfl) ?_
          refine lv_iload_n hx hb dX11_worst_39 rfl (lv_at hl 1 rfl) ?_
          obtain ⟨r40, hq40, h⟩ := zb1_s h
          refine zCi (r0 := r40) (w1 := (wdX11_partsOf cy b b_now b_imaged b_valueUp b_valueDown b_real b_brief b_order b_waits b_floats b_same b_upOf b_downOf b_tape b_open b_made b_paper b_reachUp b_reachDown b_reachHow b_reachFirst b_reachSecond b_begins b_carried c_hasImage c_above_36 c_below_36 c_orderMany_r22 c_waitMany_r22 c_seed c_size c_openMany c_paperMany c_reachMany c_now)) (ws' := (wdX11_worst cy b b_now b_imaged b_valueUp b_valueDown b_real b_brief b_order b_waits b_floats b_same b_upOf b_downOf b_tape b_open b_made b_paper b_reachUp b_reachDown b_reachHow b_reachFirst b_reachSecond b_begins b_carried c_hasImage c_above_36 c_below_36 c_orderMany_r22 c_waitMany_r22 c_seed c_size c_openMany c_paperMany c_reachMany c_now c_waits_r22 c_order_r22 c_upOf_36 c_downOf_36)) (va_runV (As := [.int p1]) (rest := [.int v8_36]) ⟨hx, hb, hml, hown, hts⟩ (mX11_partsOf l D cy H.size b b_now b_imaged b_valueUp b_valueDown b_real b_brief b_order b_waits b_floats b_same b_upOf b_downOf b_tape b_open b_made b_paper b_reachUp b_reachDown b_reachHow b_reachFirst b_reachSecond b_begins b_carried c_hasImage c_above_36 c_below_36 c_orderMany_r22 c_waitMany_r22 c_seed c_size c_openMany c_paperMany c_reachMany c_now p1 (r40) hq40) (cwV 1 hts gX11_worst_X11_partsOf rfl rfl rfl ⟨rfl, cdX11_partsOf⟩ ⟨Nat.le_of_ble_eq_true rfl, Nat.le_of_ble_eq_true rfl⟩) (zPV hK hP hD [0, 1] rfl rfl (q0 := 0) (ci := 11) rfl rfl rfl) rfl rfl hl.1 rfl (lv_room (Nat.le_of_ble_eq_true rfl)) dX11_worst_40 ⟨Nat.zero_le _, Nat.zero_le _⟩) hP hD hS hA [0, 1] [2, 3, 4, 5] [4, 5, 0, 1, 2, 3] rfl rfl rfl rfl (fun H locs hP hD hS => ?_)
          refine lv_icmp_ge (tgt := 170) hx hb dX11_worst_43 (by decide) (fun hc43 => ?_) (fun hc43 => ?_)
          · replace h := zi_t hc43 h
            refine lv_iload_n hx hb dX11_worst_170 rfl (lv_at hl 3 rfl) ?_
            exact hret (o := (v3_36, c_above_36, c_below_36, c_orderMany_r22, c_waitMany_r22, c_waits_r22, c_order_r22, c_upOf_36, c_downOf_36)) h hP hD hS dX11_worst_171
          · replace h := zi_f hc43 h
            refine lv_aload_n hx hb dX11_worst_46 rfl (lv_at hl 0 rfl) ?_
            refine lv_iload hx hb dX11_worst_47 (lv_at hl 6 rfl) ?_
            refine lv_iload_n hx hb dX11_worst_49 rfl (lv_at hl 2 rfl) ?_
            obtain ⟨c_above_r50, c_below_r50, c_upOf_r50, c_downOf_r50, hq50, h⟩ := zb4_s h
            refine zCv (w1 := (wdX11_valueFailing cy b b_now b_imaged b_valueUp b_valueDown b_real b_brief b_order b_waits b_floats b_same b_upOf b_downOf b_tape b_open b_made b_paper b_reachUp b_reachDown b_reachHow b_reachFirst b_reachSecond b_begins b_carried c_hasImage c_above_r50 c_below_r50 c_orderMany_r22 c_waitMany_r22 c_seed c_size c_openMany c_paperMany c_reachMany c_order_r22 c_now c_upOf_r50 c_downOf_r50)) (ws' := (wdX11_worst cy b b_now b_imaged b_valueUp b_valueDown b_real b_brief b_order b_waits b_floats b_same b_upOf b_downOf b_tape b_open b_made b_paper b_reachUp b_reachDown b_reachHow b_reachFirst b_reachSecond b_begins b_carried c_hasImage c_above_r50 c_below_r50 c_orderMany_r22 c_waitMany_r22 c_seed c_size c_openMany c_paperMany c_reachMany c_now c_waits_r22 c_order_r22 c_upOf_r50 c_downOf_r50)) (va_runV (As := [.int v8_36, .int p2]) (rest := []) ⟨hx, hb, hml, hown, hts⟩ (mX11_valueFailing l D cy H.size b b_now b_imaged b_valueUp b_valueDown b_real b_brief b_order b_waits b_floats b_same b_upOf b_downOf b_tape b_open b_made b_paper b_reachUp b_reachDown b_reachHow b_reachFirst b_reachSecond b_begins b_carried c_hasImage c_above_36 c_below_36 c_orderMany_r22 c_waitMany_r22 c_seed c_size c_openMany c_paperMany c_reachMany c_order_r22 c_now c_upOf_36 c_downOf_36 v8_36 p2 (c_above_r50, c_below_r50, c_upOf_r50, c_downOf_r50) hq50) (cwV 2 hts gX11_worst_X11_valueFailing rfl rfl rfl ⟨rfl, cdX11_valueFailing⟩ ⟨Nat.le_of_ble_eq_true rfl, Nat.le_of_ble_eq_true rfl⟩) (zPV hK hP hD [0, 3, 1, 4, 5] rfl rfl (q0 := 0) (ci := 11) rfl rfl rfl) rfl rfl hl.1 rfl (lv_room (Nat.le_of_ble_eq_true rfl)) dX11_worst_50 ⟨Nat.zero_le _, Nat.zero_le _⟩) hP hD hS hA [0, 3, 1, 4, 5] [2] [1, 3, 0, 2, 4, 5] rfl rfl rfl rfl (fun H locs hP hD hS => ?_)
            refine lv_aload_n hx hb dX11_worst_53 rfl (lv_at hl 0 rfl) ?_
            refine va_get (D := D) (ci := 11) (v := .long c_above_r50) (C := RX11) (T := TX11) (N := 33) hx hb hts uX11_worst_X11 hown hK.1 hP 0 rfl rfl 3 (by decide) (hts (.fieldLink RX11 136 "WishedResistorModel" "above" "J") (List.mem_of_getElem? (i := 1) rfl)) (fun _ h9 => h9) rfl dX11_worst_54 ?_
            refine lv_lconst (v := (0 : Int64)) hx hb dX11_worst_57 (by decide) ?_
            refine W.lcmp hx hb dX11_worst_58 ?_
            refine lv_if_ge (tgt := 65) hx hb dX11_worst_59 (by decide) (fun hc59 => ?_) (fun hc59 => ?_)
            · replace hc59 := (zc_ge _ _).mp hc59
              replace h := zi_t hc59 h
              refine lv_iload hx hb dX11_worst_65 (lv_at hl 6 rfl) ?_
              have hJ118 : ∀ (s0_118 : Int32) (H : Heap) (locs : List Loc) (ls : Array Slot), va_P D vwCl (wdX11_worst cy b b_now b_imaged b_valueUp b_valueDown b_real b_brief b_order b_waits b_floats b_same b_upOf b_downOf b_tape b_open b_made b_paper b_reachUp b_reachDown b_reachHow b_reachFirst b_reachSecond b_begins b_carried c_hasImage c_above_r50 c_below_r50 c_orderMany_r22 c_waitMany_r22 c_seed c_size c_openMany c_paperMany c_reachMany c_now c_waits_r22 c_order_r22 c_upOf_r50 c_downOf_r50) H → va_D A (wdX11_worst cy b b_now b_imaged b_valueUp b_valueDown b_real b_brief b_order b_waits b_floats b_same b_upOf b_downOf b_tape b_open b_made b_paper b_reachUp b_reachDown b_reachHow b_reachFirst b_reachSecond b_begins b_carried c_hasImage c_above_r50 c_below_r50 c_orderMany_r22 c_waitMany_r22 c_seed c_size c_openMany c_paperMany c_reachMany c_now c_waits_r22 c_order_r22 c_upOf_r50 c_downOf_r50) → va_S A s.heap H locs → lv_has ls 10 [(0, .ref b), (1, .int p1), (2, .int p2), (3, .int v3_36), (4, .long v4_36), (6, .long v6_36), (8, .int v8_36)] → fX11_worst_J118 v3_36 v4_36 v6_36 v8_36 (fX11_worst_L36 c_now p1 p2 c_orderMany_r22 c_waitMany_r22 c_waits_r22 c_order_r22 n36) c_above_r50 c_below_r50 c_upOf_r50 c_downOf_r50 s0_118 = some res → W p l e rmX11_worst s m args below meth c H locs 0 0 Q (F0 m 118 ls [.int s0_118]) := by
                intro s0_118 H locs ls hP hD hS hl h
                refine lv_istore (lv' := [(9, .int s0_118), (0, .ref b), (1, .int p1), (2, .int p2), (3, .int v3_36), (4, .long v4_36), (6, .long v6_36), (8, .int v8_36)]) hx hb dX11_worst_118 hl (Nat.le_of_ble_eq_true rfl) rfl (fun ls hl => ?_)
                refine lv_iload hx hb dX11_worst_120 (lv_at hl 0 rfl) ?_
                have hJ131 : ∀ (s0_131 : Int32) (H : Heap) (locs : List Loc) (ls : Array Slot), va_P D vwCl (wdX11_worst cy b b_now b_imaged b_valueUp b_valueDown b_real b_brief b_order b_waits b_floats b_same b_upOf b_downOf b_tape b_open b_made b_paper b_reachUp b_reachDown b_reachHow b_reachFirst b_reachSecond b_begins b_carried c_hasImage c_above_r50 c_below_r50 c_orderMany_r22 c_waitMany_r22 c_seed c_size c_openMany c_paperMany c_reachMany c_now c_waits_r22 c_order_r22 c_upOf_r50 c_downOf_r50) H → va_D A (wdX11_worst cy b b_now b_imaged b_valueUp b_valueDown b_real b_brief b_order b_waits b_floats b_same b_upOf b_downOf b_tape b_open b_made b_paper b_reachUp b_reachDown b_reachHow b_reachFirst b_reachSecond b_begins b_carried c_hasImage c_above_r50 c_below_r50 c_orderMany_r22 c_waitMany_r22 c_seed c_size c_openMany c_paperMany c_reachMany c_now c_waits_r22 c_order_r22 c_upOf_r50 c_downOf_r50) → va_S A s.heap H locs → lv_has ls 10 [(0, .ref b), (1, .int p1), (2, .int p2), (4, .long v4_36), (6, .long v6_36), (8, .int v8_36), (9, .int s0_118)] → fX11_worst_J131 v4_36 v6_36 v8_36 (fX11_worst_L36 c_now p1 p2 c_orderMany_r22 c_waitMany_r22 c_waits_r22 c_order_r22 n36) c_above_r50 c_below_r50 c_upOf_r50 c_downOf_r50 s0_118 s0_131 = some res → W p l e rmX11_worst s m args below meth c H locs 0 0 Q (F0 m 131 ls [.int s0_131]) := by
                  intro s0_131 H locs ls hP hD hS hl h
                  refine lv_istore_n (lv' := [(3, .int s0_131), (0, .ref b), (1, .int p1), (2, .int p2), (4, .long v4_36), (6, .long v6_36), (8, .int v8_36), (9, .int s0_118)]) hx hb dX11_worst_131 rfl hl (Nat.le_of_ble_eq_true rfl) rfl (fun ls hl => ?_)
                  refine lv_iload hx hb dX11_worst_132 (lv_at hl 7 rfl) ?_
                  have hJ146 : ∀ (s0_146 : Int64) (H : Heap) (locs : List Loc) (ls : Array Slot), va_P D vwCl (wdX11_worst cy b b_now b_imaged b_valueUp b_valueDown b_real b_brief b_order b_waits b_floats b_same b_upOf b_downOf b_tape b_open b_made b_paper b_reachUp b_reachDown b_reachHow b_reachFirst b_reachSecond b_begins b_carried c_hasImage c_above_r50 c_below_r50 c_orderMany_r22 c_waitMany_r22 c_seed c_size c_openMany c_paperMany c_reachMany c_now c_waits_r22 c_order_r22 c_upOf_r50 c_downOf_r50) H → va_D A (wdX11_worst cy b b_now b_imaged b_valueUp b_valueDown b_real b_brief b_order b_waits b_floats b_same b_upOf b_downOf b_tape b_open b_made b_paper b_reachUp b_reachDown b_reachHow b_reachFirst b_reachSecond b_begins b_carried c_hasImage c_above_r50 c_below_r50 c_orderMany_r22 c_waitMany_r22 c_seed c_size c_openMany c_paperMany c_reachMany c_now c_waits_r22 c_order_r22 c_upOf_r50 c_downOf_r50) → va_S A s.heap H locs → lv_has ls 10 [(0, .ref b), (1, .int p1), (2, .int p2), (3, .int s0_131), (6, .long v6_36), (8, .int v8_36), (9, .int s0_118)] → fX11_worst_J146 v6_36 v8_36 (fX11_worst_L36 c_now p1 p2 c_orderMany_r22 c_waitMany_r22 c_waits_r22 c_order_r22 n36) c_above_r50 c_below_r50 c_upOf_r50 c_downOf_r50 s0_118 s0_131 s0_146 = some res → W p l e rmX11_worst s m args below meth c H locs 0 0 Q (F0 m 146 ls [.long s0_146]) := by
                    intro s0_146 H locs ls hP hD hS hl h
                    refine lv_lstore (lv' := [(4, .long s0_146), (0, .ref b), (1, .int p1), (2, .int p2), (3, .int s0_131), (6, .long v6_36), (8, .int v8_36), (9, .int s0_118)]) hx hb dX11_worst_146 hl (Nat.le_of_ble_eq_true rfl) rfl (fun ls hl => ?_)
                    refine lv_iload hx hb dX11_worst_148 (lv_at hl 7 rfl) ?_
                    refine lv_if_eq (tgt := 160) hx hb dX11_worst_150 (by decide) (fun hc150 => ?_) (fun hc150 => ?_)
                    · replace h := zi_t hc150 h
                      refine lv_lload hx hb dX11_worst_160 (lv_at hl 5 rfl) ?_
                      refine lv_lstore (lv' := [(6, .long v6_36), (4, .long s0_146), (0, .ref b), (1, .int p1), (2, .int p2), (3, .int s0_131), (8, .int v8_36), (9, .int s0_118)]) hx hb dX11_worst_162 hl (Nat.le_of_ble_eq_true rfl) rfl (fun ls hl => ?_)
                      refine lv_iinc (v := (v8_36 + (1 : Int32))) (lv' := [(8, .int (v8_36 + (1 : Int32))), (6, .long v6_36), (4, .long s0_146), (0, .ref b), (1, .int p1), (2, .int p2), (3, .int s0_131), (9, .int s0_118)]) hx hb dX11_worst_164 hl (k := 6) rfl (by rfl) (Nat.le_of_ble_eq_true rfl) rfl (fun ls hl => ?_)
                      refine lv_goto (tgt := 36) hx hb dX11_worst_167 (by decide) ?_
                      exact ih36 s0_131 s0_146 v6_36 (v8_36 + (1 : Int32)) c_above_r50 c_below_r50 c_upOf_r50 c_downOf_r50 _ _ _ hP hD hS (lv_sub hl [3, 4, 5, 6, 2, 1, 0] rfl) h
                    · replace h := zi_f hc150 h
                      refine lv_aload_n hx hb dX11_worst_153 rfl (lv_at hl 1 rfl) ?_
                      refine va_get (D := D) (ci := 11) (v := .long c_below_r50) (C := RX11) (T := TX11) (N := 33) hx hb hts uX11_worst_X11 hown hK.1 hP 0 rfl rfl 4 (by decide) (hts (.fieldLink RX11 140 "WishedResistorModel" "below" "J") (List.mem_of_getElem? (i := 2) rfl)) (fun _ h9 => h9) rfl dX11_worst_154 ?_
                      refine lv_goto (tgt := 162) hx hb dX11_worst_157 (by decide) ?_
                      refine lv_lstore (lv' := [(6, .long c_below_r50), (4, .long s0_146), (0, .ref b), (1, .int p1), (2, .int p2), (3, .int s0_131), (8, .int v8_36), (9, .int s0_118)]) hx hb dX11_worst_162 hl (Nat.le_of_ble_eq_true rfl) rfl (fun ls hl => ?_)
                      refine lv_iinc (v := (v8_36 + (1 : Int32))) (lv' := [(8, .int (v8_36 + (1 : Int32))), (6, .long c_below_r50), (4, .long s0_146), (0, .ref b), (1, .int p1), (2, .int p2), (3, .int s0_131), (9, .int s0_118)]) hx hb dX11_worst_164 hl (k := 6) rfl (by rfl) (Nat.le_of_ble_eq_true rfl) rfl (fun ls hl => ?_)
                      refine lv_goto (tgt := 36) hx hb dX11_worst_167 (by decide) ?_
                      exact ih36 s0_131 s0_146 c_below_r50 (v8_36 + (1 : Int32)) c_above_r50 c_below_r50 c_upOf_r50 c_downOf_r50 _ _ _ hP hD hS (lv_sub hl [3, 4, 5, 6, 2, 1, 0] rfl) h
                  refine lv_if_eq (tgt := 144) hx hb dX11_worst_134 (by decide) (fun hc134 => ?_) (fun hc134 => ?_)
                  · replace h := zi_t hc134 h
                    refine lv_lload hx hb dX11_worst_144 (lv_at hl 4 rfl) ?_
                    exact hJ146 v4_36 _ _ _ hP hD hS (lv_sub hl [1, 2, 3, 0, 5, 6, 7] rfl) h
                  · replace h := zi_f hc134 h
                    refine lv_aload_n hx hb dX11_worst_137 rfl (lv_at hl 1 rfl) ?_
                    refine va_get (D := D) (ci := 11) (v := .long c_above_r50) (C := RX11) (T := TX11) (N := 33) hx hb hts uX11_worst_X11 hown hK.1 hP 0 rfl rfl 3 (by decide) (hts (.fieldLink RX11 136 "WishedResistorModel" "above" "J") (List.mem_of_getElem? (i := 1) rfl)) (fun _ h9 => h9) rfl dX11_worst_138 ?_
                    refine lv_goto (tgt := 146) hx hb dX11_worst_141 (by decide) ?_
                    exact hJ146 c_above_r50 _ _ _ hP hD hS (lv_sub hl [1, 2, 3, 0, 5, 6, 7] rfl) h
                refine lv_if_eq (tgt := 130) hx hb dX11_worst_122 (by decide) (fun hc122 => ?_) (fun hc122 => ?_)
                · replace h := zi_t hc122 h
                  refine lv_iload_n hx hb dX11_worst_130 rfl (lv_at hl 4 rfl) ?_
                  exact hJ131 v3_36 _ _ _ hP hD hS (lv_sub hl [1, 2, 3, 5, 6, 7, 0] rfl) h
                · replace h := zi_f hc122 h
                  refine lv_iload hx hb dX11_worst_125 (lv_at hl 7 rfl) ?_
                  refine lv_goto (tgt := 131) hx hb dX11_worst_127 (by decide) ?_
                  exact hJ131 v8_36 _ _ _ hP hD hS (lv_sub hl [1, 2, 3, 5, 6, 7, 0] rfl) h
              refine lv_if_eq (tgt := 113) hx hb dX11_worst_67 (by decide) (fun hc67 => ?_) (fun hc67 => ?_)
              · replace h := zi_t hc67 h
                refine lv_iconst (v := (1 : Int32)) hx hb dX11_worst_113 (by decide) ?_
                refine lv_goto (tgt := 118) hx hb dX11_worst_114 (by decide) ?_
                exact hJ118 (1 : Int32) _ _ _ hP hD hS (lv_sub hl [0, 1, 2, 3, 4, 5, 6] rfl) h
              · replace h := zi_f hc67 h
                refine lv_iload_n hx hb dX11_worst_70 rfl (lv_at hl 2 rfl) ?_
                refine lv_if_ne (tgt := 95) hx hb dX11_worst_71 (by decide) (fun hc71 => ?_) (fun hc71 => ?_)
                · replace h := zi_f hc71 h
                  refine lv_aload_n hx hb dX11_worst_95 rfl (lv_at hl 0 rfl) ?_
                  refine va_get (D := D) (ci := 11) (v := .long c_above_r50) (C := RX11) (T := TX11) (N := 33) hx hb hts uX11_worst_X11 hown hK.1 hP 0 rfl rfl 3 (by decide) (hts (.fieldLink RX11 136 "WishedResistorModel" "above" "J") (List.mem_of_getElem? (i := 1) rfl)) (fun _ h9 => h9) rfl dX11_worst_96 ?_
                  refine lv_aload_n hx hb dX11_worst_99 rfl (lv_at hl 0 rfl) ?_
                  refine va_get (D := D) (ci := 11) (v := .long c_below_r50) (C := RX11) (T := TX11) (N := 33) hx hb hts uX11_worst_X11 hown hK.1 hP 0 rfl rfl 4 (by decide) (hts (.fieldLink RX11 140 "WishedResistorModel" "below" "J") (List.mem_of_getElem? (i := 2) rfl)) (fun _ h9 => h9) rfl dX11_worst_100 ?_
                  refine lv_lload hx hb dX11_worst_103 (lv_at hl 4 rfl) ?_
                  refine lv_lload hx hb dX11_worst_105 (lv_at hl 5 rfl) ?_
                  obtain ⟨r107, hq107, h⟩ := zb1_s h
                  refine zCz0 (r0 := r107) (va_runS (As := [.long c_above_r50, .long c_below_r50, .long v4_36, .long v6_36]) (rest := []) ⟨hx, hb, hml, hown, hts⟩ (mX11_isLess l D cy H.size c_above_r50 c_below_r50 v4_36 v6_36 (r107) hq107) (va_cwS 4 hts gX11_worst_X11_isLess rfl rfl rfl cdX11_isLess ⟨Nat.le_of_ble_eq_true rfl, Nat.le_of_ble_eq_true rfl⟩) (zPS hK hP hD [] rfl rfl) rfl rfl hl.1 rfl (lv_room (Nat.le_of_ble_eq_true rfl)) dX11_worst_107 ⟨Nat.zero_le _, Nat.zero_le _⟩) hP hD hS hA (fun H locs hn107 hP hD hS => ?_)
                  refine lv_if_eq (tgt := 117) hx hb dX11_worst_110 (by decide) (fun hc110 => ?_) (fun hc110 => ?_)
                  · replace h := zi_t hc110 h
                    refine lv_iconst (v := (0 : Int32)) hx hb dX11_worst_117 (by decide) ?_
                    exact hJ118 (0 : Int32) _ _ _ hP hD hS (lv_sub hl [0, 1, 2, 3, 4, 5, 6] rfl) h
                  · replace h := zi_f hc110 h
                    refine lv_iconst (v := (1 : Int32)) hx hb dX11_worst_113 (by decide) ?_
                    refine lv_goto (tgt := 118) hx hb dX11_worst_114 (by decide) ?_
                    exact hJ118 (1 : Int32) _ _ _ hP hD hS (lv_sub hl [0, 1, 2, 3, 4, 5, 6] rfl) h
                · replace h := zi_t hc71 h
                  refine lv_lload hx hb dX11_worst_74 (lv_at hl 4 rfl) ?_
                  refine lv_lload hx hb dX11_worst_76 (lv_at hl 5 rfl) ?_
                  refine lv_aload_n hx hb dX11_worst_78 rfl (lv_at hl 0 rfl) ?_
                  refine va_get (D := D) (ci := 11) (v := .long c_above_r50) (C := RX11) (T := TX11) (N := 33) hx hb hts uX11_worst_X11 hown hK.1 hP 0 rfl rfl 3 (by decide) (hts (.fieldLink RX11 136 "WishedResistorModel" "above" "J") (List.mem_of_getElem? (i := 1) rfl)) (fun _ h9 => h9) rfl dX11_worst_79 ?_
                  refine lv_aload_n hx hb dX11_worst_82 rfl (lv_at hl 0 rfl) ?_
                  refine va_get (D := D) (ci := 11) (v := .long c_below_r50) (C := RX11) (T := TX11) (N := 33) hx hb hts uX11_worst_X11 hown hK.1 hP 0 rfl rfl 4 (by decide) (hts (.fieldLink RX11 140 "WishedResistorModel" "below" "J") (List.mem_of_getElem? (i := 2) rfl)) (fun _ h9 => h9) rfl dX11_worst_83 ?_
                  obtain ⟨r86, hq86, h⟩ := zb1_s h
                  refine zCz0 (r0 := r86) (va_runS (As := [.long v4_36, .long v6_36, .long c_above_r50, .long c_below_r50]) (rest := []) ⟨hx, hb, hml, hown, hts⟩ (mX11_isLess l D cy H.size v4_36 v6_36 c_above_r50 c_below_r50 (r86) hq86) (va_cwS 4 hts gX11_worst_X11_isLess rfl rfl rfl cdX11_isLess ⟨Nat.le_of_ble_eq_true rfl, Nat.le_of_ble_eq_true rfl⟩) (zPS hK hP hD [] rfl rfl) rfl rfl hl.1 rfl (lv_room (Nat.le_of_ble_eq_true rfl)) dX11_worst_86 ⟨Nat.zero_le _, Nat.zero_le _⟩) hP hD hS hA (fun H locs hn86 hP hD hS => ?_)
                  refine lv_if_eq (tgt := 117) hx hb dX11_worst_89 (by decide) (fun hc89 => ?_) (fun hc89 => ?_)
                  · replace h := zi_t hc89 h
                    refine lv_iconst (v := (0 : Int32)) hx hb dX11_worst_117 (by decide) ?_
                    exact hJ118 (0 : Int32) _ _ _ hP hD hS (lv_sub hl [0, 1, 2, 3, 4, 5, 6] rfl) h
                  · replace h := zi_f hc89 h
                    refine lv_goto (tgt := 113) hx hb dX11_worst_92 (by decide) ?_
                    refine lv_iconst (v := (1 : Int32)) hx hb dX11_worst_113 (by decide) ?_
                    refine lv_goto (tgt := 118) hx hb dX11_worst_114 (by decide) ?_
                    exact hJ118 (1 : Int32) _ _ _ hP hD hS (lv_sub hl [0, 1, 2, 3, 4, 5, 6] rfl) h
            · replace hc59 := fun q => hc59 ((zc_ge _ _).mpr q)
              replace h := zi_f hc59 h
              refine lv_bipush (v := (-7 : Int32)) hx hb dX11_worst_62 (by decide) ?_
              exact hret (o := ((-7 : Int32), c_above_r50, c_below_r50, c_orderMany_r22, c_waitMany_r22, c_waits_r22, c_order_r22, c_upOf_r50, c_downOf_r50)) h hP hD hS dX11_worst_64
      exact hL36 5000 (0 : Int32) (0 : Int64) (1 : Int64) (0 : Int32) c_above c_below c_upOf c_downOf _ _ _ hP hD hS (lv_sub hl [4, 5, 6, 3, 2, 1, 0] rfl) h
    · replace h := zi_t hc15 h
      refine lv_iconst (v := (-1 : Int32)) hx hb dX11_worst_18 (by decide) ?_
      exact hret (o := ((-1 : Int32), c_above, c_below, c_orderMany, c_waitMany, c_waits, c_order, c_upOf, c_downOf)) h hP hD hS dX11_worst_19

theorem uX11_feed_X11 : ∀ w ∈ u_ws RX11 TX11 33, w ∈ wsX11_feed := fun w h => (List.mem_cons_of_mem _ (List.mem_append_right _ h))
abbrev wdX11_feed (cy : Nat → ClassId) (b b_now b_imaged b_valueUp b_valueDown b_real b_brief b_order b_waits b_floats b_same b_upOf b_downOf b_tape b_open b_made b_paper b_reachUp b_reachDown b_reachHow b_reachFirst b_reachSecond b_begins b_carried : Nat) (c_hasImage : Int32) (c_above c_below : Int64) (c_orderMany c_waitMany c_seed c_size c_openMany c_paperMany c_reachMany : Int32) (c_tape : Nat → Int32) : va_W := [(b, .inr (11, [.ref b_now, .ref b_imaged, .int c_hasImage, .long c_above, .long c_below, .ref b_valueUp, .ref b_valueDown, .ref b_real, .ref b_brief, .ref b_order, .int c_orderMany, .ref b_waits, .int c_waitMany, .ref b_floats, .int c_seed, .ref b_same, .ref b_upOf, .ref b_downOf, .ref b_tape, .int c_size, .ref b_open, .int c_openMany, .ref b_made, .ref b_paper, .int c_paperMany, .ref b_reachUp, .ref b_reachDown, .ref b_reachHow, .ref b_reachFirst, .ref b_reachSecond, .ref b_begins, .int c_reachMany, .ref b_carried])), (b_tape, .inl (cy 0, 60, .inl c_tape))]
abbrev rmX11_feed : Room := { frames := 1, cells := 0, slots := 0, locals := 25 }
theorem cdX11_feed : (yX11_feed).cls ≠ "java/lang/invoke/MethodHandle" ∧ (yX11_feed).cls ≠ "java/lang/invoke/VarHandle" ∧ (parseMethodDescriptor (yX11_feed).desc).map (fun d => d.parameters.length) = some 1 := by decide +kernel
def fX11_feed (p1 c_size : Int32) (c_tape : Nat → Int32) : Option (Int32 × Int32 × (Nat → Int32)) :=
  zb1 (fX11_in ((p1).toInt64) (32 : Int64) (126 : Int64)) (fun r8 => if r8 = 0 then (some ((-1 : Int32), c_size, c_tape)) else (if c_size = (60 : Int32) then (some ((-3 : Int32), c_size, c_tape)) else (zg (zin c_size 60) (some ((c_size + (1 : Int32)), (c_size + (1 : Int32)), (upd c_tape (c_size).toNatClampNeg p1))))))
set_option maxHeartbeats 4000000 in
set_option maxRecDepth 100000 in
theorem mX11_feed (l : Launch) (D : va_G) (cy : Nat → ClassId) (sz : Nat) (b b_now b_imaged b_valueUp b_valueDown b_real b_brief b_order b_waits b_floats b_same b_upOf b_downOf b_tape b_open b_made b_paper b_reachUp b_reachDown b_reachHow b_reachFirst b_reachSecond b_begins b_carried : Nat) (c_hasImage : Int32) (c_above c_below : Int64) (c_orderMany c_waitMany c_seed c_size c_openMany c_paperMany c_reachMany : Int32) (c_tape : Nat → Int32) (p1 : Int32) (res : (Int32 × Int32 × (Nat → Int32))) (h : fX11_feed p1 c_size c_tape = some res) : zMi l yX11_feed wsX11_feed rmX11_feed [.ref b, .int p1] D cy (wdX11_feed cy b b_now b_imaged b_valueUp b_valueDown b_real b_brief b_order b_waits b_floats b_same b_upOf b_downOf b_tape b_open b_made b_paper b_reachUp b_reachDown b_reachHow b_reachFirst b_reachSecond b_begins b_carried c_hasImage c_above c_below c_orderMany c_waitMany c_seed c_size c_openMany c_paperMany c_reachMany c_tape) sz ((fun (o : (Int32 × Int32 × (Nat → Int32))) => o.1) res) ((fun (o : (Int32 × Int32 × (Nat → Int32))) => (wdX11_feed cy b b_now b_imaged b_valueUp b_valueDown b_real b_brief b_order b_waits b_floats b_same b_upOf b_downOf b_tape b_open b_made b_paper b_reachUp b_reachDown b_reachHow b_reachFirst b_reachSecond b_begins b_carried c_hasImage c_above c_below c_orderMany c_waitMany c_seed (o.2.1) c_openMany c_paperMany c_reachMany (o.2.2))) res) := by
  refine zOfi (res := res) (rf := (fun (o : (Int32 × Int32 × (Nat → Int32))) => o.1)) (Wf := (fun (o : (Int32 × Int32 × (Nat → Int32))) => (wdX11_feed cy b b_now b_imaged b_valueUp b_valueDown b_real b_brief b_order b_waits b_floats b_same b_upOf b_downOf b_tape b_open b_made b_paper b_reachUp b_reachDown b_reachHow b_reachFirst b_reachSecond b_begins b_carried c_hasImage c_above c_below c_orderMany c_waitMany c_seed (o.2.1) c_openMany c_paperMany c_reachMany (o.2.2)))) (by decide +kernel) rfl (Nat.le_of_ble_eq_true rfl) ?_
  intro p e s m args below meth c A ls Q hx hb hml hts hown hP hK hD hA hS hl hret
  have hown : s.vm.findClass RX11 = some m.cls := hown
  have hl : lv_has ls 2 [(0, .ref b), (1, .int p1)] := hl
  refine lv_iload_n hx hb dX11_feed_0 rfl (lv_at hl 1 rfl) ?_
  refine lv_i2l hx hb dX11_feed_1 rfl ?_
  refine lv_ldc2 hx hb hown (hts (.constantLong RX11 226 (32)) (List.mem_of_getElem? (i := 1) rfl)) dX11_feed_2 ?_
  refine lv_ldc2 hx hb hown (hts (.constantLong RX11 228 (126)) (List.mem_of_getElem? (i := 2) rfl)) dX11_feed_5 ?_
  obtain ⟨r8, hq8, h⟩ := zb1_s h
  refine zCz0 (r0 := r8) (va_runS (As := [.long ((p1).toInt64), .long (32 : Int64), .long (126 : Int64)]) (rest := []) ⟨hx, hb, hml, hown, hts⟩ (mX11_in l D cy s.heap.size ((p1).toInt64) (32 : Int64) (126 : Int64) (r8) hq8) (va_cwS 3 hts gX11_feed_X11_in rfl rfl rfl cdX11_in ⟨Nat.le_of_ble_eq_true rfl, Nat.le_of_ble_eq_true rfl⟩) (zPS hK hP hD [] rfl rfl) rfl rfl hl.1 rfl (lv_room (Nat.le_of_ble_eq_true rfl)) dX11_feed_8 ⟨Nat.zero_le _, Nat.zero_le _⟩) hP hD hS hA (fun H locs hn8 hP hD hS => ?_)
  refine lv_if_ne (tgt := 16) hx hb dX11_feed_11 (by decide) (fun hc11 => ?_) (fun hc11 => ?_)
  · replace h := zi_f hc11 h
    refine lv_aload_n hx hb dX11_feed_16 rfl (lv_at hl 0 rfl) ?_
    refine va_get (D := D) (ci := 11) (v := .int c_size) (C := RX11) (T := TX11) (N := 33) hx hb hts uX11_feed_X11 hown hK.1 hP 0 rfl rfl 19 (by decide) (hts (.fieldLink RX11 230 "WishedResistorModel" "size" "I") (List.mem_of_getElem? (i := 3) rfl)) (fun _ h9 => h9) rfl dX11_feed_17 ?_
    refine lv_bipush (v := (60 : Int32)) hx hb dX11_feed_20 (by decide) ?_
    refine lv_icmp_ne (tgt := 28) hx hb dX11_feed_22 (by decide) (fun hc22 => ?_) (fun hc22 => ?_)
    · replace h := zi_f hc22 h
      refine lv_aload_n hx hb dX11_feed_28 rfl (lv_at hl 0 rfl) ?_
      refine va_get (D := D) (ci := 11) (v := .ref b_tape) (C := RX11) (T := TX11) (N := 33) hx hb hts uX11_feed_X11 hown hK.1 hP 0 rfl rfl 18 (by decide) (hts (.fieldLink RX11 51 "WishedResistorModel" "tape" "[I") (List.mem_of_getElem? (i := 4) rfl)) (fun _ h9 => h9) rfl dX11_feed_29 ?_
      refine lv_aload_n hx hb dX11_feed_32 rfl (lv_at hl 0 rfl) ?_
      refine va_get (D := D) (ci := 11) (v := .int c_size) (C := RX11) (T := TX11) (N := 33) hx hb hts uX11_feed_X11 hown hK.1 hP 0 rfl rfl 19 (by decide) (hts (.fieldLink RX11 230 "WishedResistorModel" "size" "I") (List.mem_of_getElem? (i := 3) rfl)) (fun _ h9 => h9) rfl dX11_feed_33 ?_
      refine lv_iload_n hx hb dX11_feed_36 rfl (lv_at hl 1 rfl) ?_
      obtain ⟨hi37, h⟩ := zg_s h
      refine va_iast hx hb hK.1 hP hD hS 1 0 rfl rfl hi37 dX11_feed_37 (fun H locs hP hD hS => ?_)
      have hP : va_P D vwCl (wdX11_feed cy b b_now b_imaged b_valueUp b_valueDown b_real b_brief b_order b_waits b_floats b_same b_upOf b_downOf b_tape b_open b_made b_paper b_reachUp b_reachDown b_reachHow b_reachFirst b_reachSecond b_begins b_carried c_hasImage c_above c_below c_orderMany c_waitMany c_seed c_size c_openMany c_paperMany c_reachMany (upd c_tape (c_size).toNatClampNeg p1)) H := hP
      have hD : va_D A (wdX11_feed cy b b_now b_imaged b_valueUp b_valueDown b_real b_brief b_order b_waits b_floats b_same b_upOf b_downOf b_tape b_open b_made b_paper b_reachUp b_reachDown b_reachHow b_reachFirst b_reachSecond b_begins b_carried c_hasImage c_above c_below c_orderMany c_waitMany c_seed c_size c_openMany c_paperMany c_reachMany (upd c_tape (c_size).toNatClampNeg p1)) := hD
      refine lv_aload_n hx hb dX11_feed_38 rfl (lv_at hl 0 rfl) ?_
      refine lv_dup hx hb dX11_feed_39 rfl ?_
      refine va_get (D := D) (ci := 11) (v := .int c_size) (C := RX11) (T := TX11) (N := 33) hx hb hts uX11_feed_X11 hown hK.1 hP 0 rfl rfl 19 (by decide) (hts (.fieldLink RX11 230 "WishedResistorModel" "size" "I") (List.mem_of_getElem? (i := 3) rfl)) (fun _ h9 => h9) rfl dX11_feed_40 ?_
      refine lv_iconst (v := (1 : Int32)) hx hb dX11_feed_43 (by decide) ?_
      refine lv_iadd hx hb dX11_feed_44 ?_
      refine va_put (D := D) (ci := 11) (v := .int (c_size + (1 : Int32))) (ty := .int) (C := RX11) (T := TX11) (N := 33) hx hb hts uX11_feed_X11 tyX11 tyX11_ok nmX11 hown hK.1 hP hD hS 0 rfl rfl 19 (by decide) (hts (.fieldLink RX11 230 "WishedResistorModel" "size" "I") (List.mem_of_getElem? (i := 3) rfl)) (fun _ h9 => h9) rfl (by decide +kernel) rfl rfl (Nat.le_of_ble_eq_true rfl) dX11_feed_45 (fun H locs hP hD hS => ?_)
      have hP : va_P D vwCl (wdX11_feed cy b b_now b_imaged b_valueUp b_valueDown b_real b_brief b_order b_waits b_floats b_same b_upOf b_downOf b_tape b_open b_made b_paper b_reachUp b_reachDown b_reachHow b_reachFirst b_reachSecond b_begins b_carried c_hasImage c_above c_below c_orderMany c_waitMany c_seed (c_size + (1 : Int32)) c_openMany c_paperMany c_reachMany (upd c_tape (c_size).toNatClampNeg p1)) H := hP
      have hD : va_D A (wdX11_feed cy b b_now b_imaged b_valueUp b_valueDown b_real b_brief b_order b_waits b_floats b_same b_upOf b_downOf b_tape b_open b_made b_paper b_reachUp b_reachDown b_reachHow b_reachFirst b_reachSecond b_begins b_carried c_hasImage c_above c_below c_orderMany c_waitMany c_seed (c_size + (1 : Int32)) c_openMany c_paperMany c_reachMany (upd c_tape (c_size).toNatClampNeg p1)) := hD
      refine lv_aload_n hx hb dX11_feed_48 rfl (lv_at hl 0 rfl) ?_
      refine va_get (D := D) (ci := 11) (v := .int (c_size + (1 : Int32))) (C := RX11) (T := TX11) (N := 33) hx hb hts uX11_feed_X11 hown hK.1 hP 0 rfl rfl 19 (by decide) (hts (.fieldLink RX11 230 "WishedResistorModel" "size" "I") (List.mem_of_getElem? (i := 3) rfl)) (fun _ h9 => h9) rfl dX11_feed_49 ?_
      exact hret (o := ((c_size + (1 : Int32)), (c_size + (1 : Int32)), (upd c_tape (c_size).toNatClampNeg p1))) h hP hD hS dX11_feed_52
    · replace h := zi_t hc22 h
      refine lv_bipush (v := (-3 : Int32)) hx hb dX11_feed_25 (by decide) ?_
      exact hret (o := ((-3 : Int32), c_size, c_tape)) h hP hD hS dX11_feed_27
  · replace h := zi_t hc11 h
    refine lv_iconst (v := (-1 : Int32)) hx hb dX11_feed_14 (by decide) ?_
    exact hret (o := ((-1 : Int32), c_size, c_tape)) h hP hD hS dX11_feed_15

theorem uX11_faultOf_X11 : ∀ w ∈ u_ws RX11 TX11 33, w ∈ wsX11_faultOf := fun w h => (List.mem_cons_of_mem _ (List.mem_append_right _ h))
abbrev wdX11_faultOf (cy : Nat → ClassId) (b b_now b_imaged b_valueUp b_valueDown b_real b_brief b_order b_waits b_floats b_same b_upOf b_downOf b_tape b_open b_made b_paper b_reachUp b_reachDown b_reachHow b_reachFirst b_reachSecond b_begins b_carried : Nat) (c_hasImage : Int32) (c_above c_below : Int64) (c_orderMany c_waitMany c_seed c_size c_openMany c_paperMany c_reachMany : Int32) (c_tape c_now c_open : Nat → Int32) : va_W := [(b, .inr (11, [.ref b_now, .ref b_imaged, .int c_hasImage, .long c_above, .long c_below, .ref b_valueUp, .ref b_valueDown, .ref b_real, .ref b_brief, .ref b_order, .int c_orderMany, .ref b_waits, .int c_waitMany, .ref b_floats, .int c_seed, .ref b_same, .ref b_upOf, .ref b_downOf, .ref b_tape, .int c_size, .ref b_open, .int c_openMany, .ref b_made, .ref b_paper, .int c_paperMany, .ref b_reachUp, .ref b_reachDown, .ref b_reachHow, .ref b_reachFirst, .ref b_reachSecond, .ref b_begins, .int c_reachMany, .ref b_carried])), (b_tape, .inl (cy 0, 60, .inl c_tape)), (b_now, .inl (cy 0, 261, .inl c_now)), (b_open, .inl (cy 0, 12, .inl c_open))]
abbrev rmX11_faultOf : Room := { frames := 3, cells := 0, slots := 0, locals := 66 }
theorem cdX11_faultOf : (yX11_faultOf).cls ≠ "java/lang/invoke/MethodHandle" ∧ (yX11_faultOf).cls ≠ "java/lang/invoke/VarHandle" ∧ (parseMethodDescriptor (yX11_faultOf).desc).map (fun d => d.parameters.length) = some 0 := by decide +kernel
def fX11_faultOf_J254 (c_size : Int32) (v2_254 c_openMany_254 : Int32) (c_open_254 : Nat → Int32) : Option (Int32 × Int32 × (Nat → Int32)) :=
  if v2_254 = 0 then (if c_openMany_254 ≤ 0 then (some ((-1 : Int32), c_openMany_254, c_open_254)) else (some (c_size, c_openMany_254, c_open_254))) else (some (c_size, c_openMany_254, c_open_254))
def fX11_faultOf_J205 (c_tape : Nat → Int32) (v1_11 v2_11 v3_11 c_openMany_11 : Int32) (c_open_11 : Nat → Int32) (rec11 : Int32 → Int32 → Int32 → Int32 → (Nat → Int32) → Option (Int32 × Int32 × (Nat → Int32)))  : Option (Int32 × Int32 × (Nat → Int32)) :=
  if c_openMany_11 ≤ 0 then (some (v3_11, c_openMany_11, c_open_11)) else (zg (zin (c_openMany_11 - (1 : Int32)) 12) (if (c_open_11 ((c_openMany_11 - (1 : Int32))).toNatClampNeg) ≤ 0 then (some (v3_11, c_openMany_11, c_open_11)) else (if (c_tape (v3_11).toNatClampNeg) = (41 : Int32) then (rec11 v1_11 v2_11 (v3_11 + (1 : Int32)) (c_openMany_11 - (1 : Int32)) c_open_11) else (some (v3_11, c_openMany_11, c_open_11)))))
def fX11_faultOf_J199 (v1_11 v3_11 c_openMany_11 : Int32) (c_open_11 : Nat → Int32) (rec11 : Int32 → Int32 → Int32 → Int32 → (Nat → Int32) → Option (Int32 × Int32 × (Nat → Int32))) (s2_199 : Int32) : Option (Int32 × Int32 × (Nat → Int32)) :=
  zg (zin (c_openMany_11 - (1 : Int32)) 12) (rec11 v1_11 (1 : Int32) (v3_11 + (1 : Int32)) c_openMany_11 (upd c_open_11 ((c_openMany_11 - (1 : Int32))).toNatClampNeg s2_199))
def fX11_faultOf_J177 (c_tape : Nat → Int32) (v1_11 v3_11 c_openMany_11 : Int32) (c_open_11 : Nat → Int32) (rec11 : Int32 → Int32 → Int32 → Int32 → (Nat → Int32) → Option (Int32 × Int32 × (Nat → Int32)))  : Option (Int32 × Int32 × (Nat → Int32)) :=
  if (c_tape (v3_11).toNatClampNeg) = (43 : Int32) then (fX11_faultOf_J199 v1_11 v3_11 c_openMany_11 c_open_11 rec11 (1 : Int32)) else (fX11_faultOf_J199 v1_11 v3_11 c_openMany_11 c_open_11 rec11 (2 : Int32))
def fX11_faultOf_J106 (v1_11 v2_11 v3_11 c_openMany_11 : Int32) (c_open_11 : Nat → Int32) (rec11 : Int32 → Int32 → Int32 → Int32 → (Nat → Int32) → Option (Int32 × Int32 × (Nat → Int32))) (s0_92 : Int32)  : Option (Int32 × Int32 × (Nat → Int32)) :=
  if s0_92 = 0 then (rec11 (v1_11 + (1 : Int32)) (0 : Int32) (v3_11 + (1 : Int32)) c_openMany_11 c_open_11) else (zg (zin c_openMany_11 12) (rec11 v1_11 v2_11 (v3_11 + (1 : Int32)) (c_openMany_11 + (1 : Int32)) (upd c_open_11 (c_openMany_11).toNatClampNeg (0 : Int32))))
def fX11_faultOf_J92 (v1_11 v2_11 v3_11 c_openMany_11 : Int32) (c_open_11 : Nat → Int32) (rec11 : Int32 → Int32 → Int32 → Int32 → (Nat → Int32) → Option (Int32 × Int32 × (Nat → Int32))) (s0_69 : Int32) (s0_92 : Int32) : Option (Int32 × Int32 × (Nat → Int32)) :=
  if s0_69 = 0 then (if s0_92 = 0 then (some (v3_11, c_openMany_11, c_open_11)) else (fX11_faultOf_J106 v1_11 v2_11 v3_11 c_openMany_11 c_open_11 rec11 s0_92)) else (fX11_faultOf_J106 v1_11 v2_11 v3_11 c_openMany_11 c_open_11 rec11 s0_92)
def fX11_faultOf_J69 (c_tape : Nat → Int32) (v1_11 v2_11 v3_11 c_openMany_11 : Int32) (c_open_11 : Nat → Int32) (rec11 : Int32 → Int32 → Int32 → Int32 → (Nat → Int32) → Option (Int32 × Int32 × (Nat → Int32))) (s0_69 : Int32) : Option (Int32 × Int32 × (Nat → Int32)) :=
  if (c_tape (v3_11).toNatClampNeg) = (40 : Int32) then (if (11 : Int32) ≤ c_openMany_11 then (fX11_faultOf_J92 v1_11 v2_11 v3_11 c_openMany_11 c_open_11 rec11 s0_69 (0 : Int32)) else (fX11_faultOf_J92 v1_11 v2_11 v3_11 c_openMany_11 c_open_11 rec11 s0_69 (1 : Int32))) else (fX11_faultOf_J92 v1_11 v2_11 v3_11 c_openMany_11 c_open_11 rec11 s0_69 (0 : Int32))
def fX11_faultOf_L11 (k254_11 : Int32 → Int32 → (Nat → Int32) → Option (Int32 × Int32 × (Nat → Int32))) (c_size : Int32) (c_tape c_now : Nat → Int32) : Nat → Int32 → Int32 → Int32 → Int32 → (Nat → Int32) → Option (Int32 × Int32 × (Nat → Int32)) :=
  zl5 (fun rec11 v1_11 v2_11 v3_11 c_openMany_11 c_open_11 => if c_size ≤ v3_11 then (k254_11 v2_11 c_openMany_11 c_open_11) else (zg (zin v3_11 60) (if v2_11 = 0 then (if c_openMany_11 ≤ 0 then (fX11_faultOf_J205 c_tape v1_11 v2_11 v3_11 c_openMany_11 c_open_11 rec11) else (zg (zin (c_openMany_11 - (1 : Int32)) 12) (if (c_open_11 ((c_openMany_11 - (1 : Int32))).toNatClampNeg) = 0 then (if (c_tape (v3_11).toNatClampNeg) = (43 : Int32) then (fX11_faultOf_J177 c_tape v1_11 v3_11 c_openMany_11 c_open_11 rec11) else (if (c_tape (v3_11).toNatClampNeg) = (124 : Int32) then (fX11_faultOf_J177 c_tape v1_11 v3_11 c_openMany_11 c_open_11 rec11) else (fX11_faultOf_J205 c_tape v1_11 v2_11 v3_11 c_openMany_11 c_open_11 rec11))) else (fX11_faultOf_J205 c_tape v1_11 v2_11 v3_11 c_openMany_11 c_open_11 rec11)))) else (zb1 (fX11_in (((c_tape (v3_11).toNatClampNeg)).toInt64) (97 : Int64) (100 : Int64)) (fun r40 => if r40 = 0 then (fX11_faultOf_J69 c_tape v1_11 v2_11 v3_11 c_openMany_11 c_open_11 rec11 (0 : Int32)) else (zb1 (fX11_isThere ((c_tape (v3_11).toNatClampNeg) - (97 : Int32)) c_now) (fun r52 => if r52 = 0 then (fX11_faultOf_J69 c_tape v1_11 v2_11 v3_11 c_openMany_11 c_open_11 rec11 (0 : Int32)) else (if (12 : Int32) ≤ v1_11 then (fX11_faultOf_J69 c_tape v1_11 v2_11 v3_11 c_openMany_11 c_open_11 rec11 (0 : Int32)) else (fX11_faultOf_J69 c_tape v1_11 v2_11 v3_11 c_openMany_11 c_open_11 rec11 (1 : Int32))))))))))
def fX11_faultOf (c_size c_openMany : Int32) (c_tape c_now c_open : Nat → Int32) : Option (Int32 × Int32 × (Nat → Int32)) :=
  fX11_faultOf_L11 (fX11_faultOf_J254 c_size) c_size c_tape c_now 5000 (0 : Int32) (1 : Int32) (0 : Int32) (0 : Int32) c_open
set_option maxHeartbeats 4000000 in
set_option maxRecDepth 100000 in
theorem mX11_faultOf (l : Launch) (D : va_G) (cy : Nat → ClassId) (sz : Nat) (b b_now b_imaged b_valueUp b_valueDown b_real b_brief b_order b_waits b_floats b_same b_upOf b_downOf b_tape b_open b_made b_paper b_reachUp b_reachDown b_reachHow b_reachFirst b_reachSecond b_begins b_carried : Nat) (c_hasImage : Int32) (c_above c_below : Int64) (c_orderMany c_waitMany c_seed c_size c_openMany c_paperMany c_reachMany : Int32) (c_tape c_now c_open : Nat → Int32) (res : (Int32 × Int32 × (Nat → Int32))) (h : fX11_faultOf c_size c_openMany c_tape c_now c_open = some res) : zMi l yX11_faultOf wsX11_faultOf rmX11_faultOf [.ref b] D cy (wdX11_faultOf cy b b_now b_imaged b_valueUp b_valueDown b_real b_brief b_order b_waits b_floats b_same b_upOf b_downOf b_tape b_open b_made b_paper b_reachUp b_reachDown b_reachHow b_reachFirst b_reachSecond b_begins b_carried c_hasImage c_above c_below c_orderMany c_waitMany c_seed c_size c_openMany c_paperMany c_reachMany c_tape c_now c_open) sz ((fun (o : (Int32 × Int32 × (Nat → Int32))) => o.1) res) ((fun (o : (Int32 × Int32 × (Nat → Int32))) => (wdX11_faultOf cy b b_now b_imaged b_valueUp b_valueDown b_real b_brief b_order b_waits b_floats b_same b_upOf b_downOf b_tape b_open b_made b_paper b_reachUp b_reachDown b_reachHow b_reachFirst b_reachSecond b_begins b_carried c_hasImage c_above c_below c_orderMany c_waitMany c_seed c_size (o.2.1) c_paperMany c_reachMany c_tape c_now (o.2.2))) res) := by
  refine zOfi (res := res) (rf := (fun (o : (Int32 × Int32 × (Nat → Int32))) => o.1)) (Wf := (fun (o : (Int32 × Int32 × (Nat → Int32))) => (wdX11_faultOf cy b b_now b_imaged b_valueUp b_valueDown b_real b_brief b_order b_waits b_floats b_same b_upOf b_downOf b_tape b_open b_made b_paper b_reachUp b_reachDown b_reachHow b_reachFirst b_reachSecond b_begins b_carried c_hasImage c_above c_below c_orderMany c_waitMany c_seed c_size (o.2.1) c_paperMany c_reachMany c_tape c_now (o.2.2)))) (by decide +kernel) rfl (Nat.le_of_ble_eq_true rfl) ?_
  intro p e s m args below meth c A ls Q hx hb hml hts hown hP hK hD hA hS hl hret
  have hown : s.vm.findClass RX11 = some m.cls := hown
  have hl : lv_has ls 7 [(0, .ref b)] := hl
  refine lv_aload_n hx hb dX11_faultOf_0 rfl (lv_at hl 0 rfl) ?_
  refine lv_iconst (v := (0 : Int32)) hx hb dX11_faultOf_1 (by decide) ?_
  refine va_put (D := D) (ci := 11) (v := .int (0 : Int32)) (ty := .int) (C := RX11) (T := TX11) (N := 33) hx hb hts uX11_faultOf_X11 tyX11 tyX11_ok nmX11 hown hK.1 hP hD hS 0 rfl rfl 21 (by decide) (hts (.fieldLink RX11 233 "WishedResistorModel" "openMany" "I") (List.mem_of_getElem? (i := 1) rfl)) (fun _ h9 => h9) rfl (by decide +kernel) rfl rfl (Nat.le_of_ble_eq_true rfl) dX11_faultOf_2 (fun H locs hP hD hS => ?_)
  have hP : va_P D vwCl (wdX11_faultOf cy b b_now b_imaged b_valueUp b_valueDown b_real b_brief b_order b_waits b_floats b_same b_upOf b_downOf b_tape b_open b_made b_paper b_reachUp b_reachDown b_reachHow b_reachFirst b_reachSecond b_begins b_carried c_hasImage c_above c_below c_orderMany c_waitMany c_seed c_size (0 : Int32) c_paperMany c_reachMany c_tape c_now c_open) H := hP
  have hD : va_D A (wdX11_faultOf cy b b_now b_imaged b_valueUp b_valueDown b_real b_brief b_order b_waits b_floats b_same b_upOf b_downOf b_tape b_open b_made b_paper b_reachUp b_reachDown b_reachHow b_reachFirst b_reachSecond b_begins b_carried c_hasImage c_above c_below c_orderMany c_waitMany c_seed c_size (0 : Int32) c_paperMany c_reachMany c_tape c_now c_open) := hD
  refine lv_iconst (v := (0 : Int32)) hx hb dX11_faultOf_5 (by decide) ?_
  refine lv_istore_n (lv' := [(1, .int (0 : Int32)), (0, .ref b)]) hx hb dX11_faultOf_6 rfl hl (Nat.le_of_ble_eq_true rfl) rfl (fun ls hl => ?_)
  refine lv_iconst (v := (1 : Int32)) hx hb dX11_faultOf_7 (by decide) ?_
  refine lv_istore_n (lv' := [(2, .int (1 : Int32)), (1, .int (0 : Int32)), (0, .ref b)]) hx hb dX11_faultOf_8 rfl hl (Nat.le_of_ble_eq_true rfl) rfl (fun ls hl => ?_)
  refine lv_iconst (v := (0 : Int32)) hx hb dX11_faultOf_9 (by decide) ?_
  refine lv_istore_n (lv' := [(3, .int (0 : Int32)), (2, .int (1 : Int32)), (1, .int (0 : Int32)), (0, .ref b)]) hx hb dX11_faultOf_10 rfl hl (Nat.le_of_ble_eq_true rfl) rfl (fun ls hl => ?_)
  have hJ254 : ∀ (v2_254 c_openMany_254 : Int32) (c_open_254 : Nat → Int32) (H : Heap) (locs : List Loc) (ls : Array Slot), va_P D vwCl (wdX11_faultOf cy b b_now b_imaged b_valueUp b_valueDown b_real b_brief b_order b_waits b_floats b_same b_upOf b_downOf b_tape b_open b_made b_paper b_reachUp b_reachDown b_reachHow b_reachFirst b_reachSecond b_begins b_carried c_hasImage c_above c_below c_orderMany c_waitMany c_seed c_size c_openMany_254 c_paperMany c_reachMany c_tape c_now c_open_254) H → va_D A (wdX11_faultOf cy b b_now b_imaged b_valueUp b_valueDown b_real b_brief b_order b_waits b_floats b_same b_upOf b_downOf b_tape b_open b_made b_paper b_reachUp b_reachDown b_reachHow b_reachFirst b_reachSecond b_begins b_carried c_hasImage c_above c_below c_orderMany c_waitMany c_seed c_size c_openMany_254 c_paperMany c_reachMany c_tape c_now c_open_254) → va_S A s.heap H locs → lv_has ls 7 [(0, .ref b), (2, .int v2_254)] → fX11_faultOf_J254 c_size v2_254 c_openMany_254 c_open_254 = some res → W p l e rmX11_faultOf s m args below meth c H locs 0 0 Q (F0 m 254 ls []) := by
    intro v2_254 c_openMany_254 c_open_254 H locs ls hP hD hS hl h
    refine lv_iload_n hx hb dX11_faultOf_254 rfl (lv_at hl 1 rfl) ?_
    refine lv_if_ne (tgt := 265) hx hb dX11_faultOf_255 (by decide) (fun hc255 => ?_) (fun hc255 => ?_)
    · replace h := zi_f hc255 h
      refine lv_aload_n hx hb dX11_faultOf_265 rfl (lv_at hl 0 rfl) ?_
      refine va_get (D := D) (ci := 11) (v := .int c_size) (C := RX11) (T := TX11) (N := 33) hx hb hts uX11_faultOf_X11 hown hK.1 hP 0 rfl rfl 19 (by decide) (hts (.fieldLink RX11 230 "WishedResistorModel" "size" "I") (List.mem_of_getElem? (i := 2) rfl)) (fun _ h9 => h9) rfl dX11_faultOf_266 ?_
      refine lv_goto (tgt := 273) hx hb dX11_faultOf_269 (by decide) ?_
      exact hret (o := (c_size, c_openMany_254, c_open_254)) h hP hD hS dX11_faultOf_273
    · replace h := zi_t hc255 h
      refine lv_aload_n hx hb dX11_faultOf_258 rfl (lv_at hl 0 rfl) ?_
      refine va_get (D := D) (ci := 11) (v := .int c_openMany_254) (C := RX11) (T := TX11) (N := 33) hx hb hts uX11_faultOf_X11 hown hK.1 hP 0 rfl rfl 21 (by decide) (hts (.fieldLink RX11 233 "WishedResistorModel" "openMany" "I") (List.mem_of_getElem? (i := 1) rfl)) (fun _ h9 => h9) rfl dX11_faultOf_259 ?_
      refine lv_if_le (tgt := 272) hx hb dX11_faultOf_262 (by decide) (fun hc262 => ?_) (fun hc262 => ?_)
      · replace h := zi_t hc262 h
        refine lv_iconst (v := (-1 : Int32)) hx hb dX11_faultOf_272 (by decide) ?_
        exact hret (o := ((-1 : Int32), c_openMany_254, c_open_254)) h hP hD hS dX11_faultOf_273
      · replace h := zi_f hc262 h
        refine lv_aload_n hx hb dX11_faultOf_265 rfl (lv_at hl 0 rfl) ?_
        refine va_get (D := D) (ci := 11) (v := .int c_size) (C := RX11) (T := TX11) (N := 33) hx hb hts uX11_faultOf_X11 hown hK.1 hP 0 rfl rfl 19 (by decide) (hts (.fieldLink RX11 230 "WishedResistorModel" "size" "I") (List.mem_of_getElem? (i := 2) rfl)) (fun _ h9 => h9) rfl dX11_faultOf_266 ?_
        refine lv_goto (tgt := 273) hx hb dX11_faultOf_269 (by decide) ?_
        exact hret (o := (c_size, c_openMany_254, c_open_254)) h hP hD hS dX11_faultOf_273
  have hL11 : ∀ n11 : Nat, ∀ (v1_11 v2_11 v3_11 c_openMany_11 : Int32) (c_open_11 : Nat → Int32) (H : Heap) (locs : List Loc) (ls : Array Slot), va_P D vwCl (wdX11_faultOf cy b b_now b_imaged b_valueUp b_valueDown b_real b_brief b_order b_waits b_floats b_same b_upOf b_downOf b_tape b_open b_made b_paper b_reachUp b_reachDown b_reachHow b_reachFirst b_reachSecond b_begins b_carried c_hasImage c_above c_below c_orderMany c_waitMany c_seed c_size c_openMany_11 c_paperMany c_reachMany c_tape c_now c_open_11) H → va_D A (wdX11_faultOf cy b b_now b_imaged b_valueUp b_valueDown b_real b_brief b_order b_waits b_floats b_same b_upOf b_downOf b_tape b_open b_made b_paper b_reachUp b_reachDown b_reachHow b_reachFirst b_reachSecond b_begins b_carried c_hasImage c_above c_below c_orderMany c_waitMany c_seed c_size c_openMany_11 c_paperMany c_reachMany c_tape c_now c_open_11) → va_S A s.heap H locs → lv_has ls 7 [(0, .ref b), (1, .int v1_11), (2, .int v2_11), (3, .int v3_11)] → fX11_faultOf_L11 (fX11_faultOf_J254 c_size) c_size c_tape c_now n11 v1_11 v2_11 v3_11 c_openMany_11 c_open_11 = some res → W p l e rmX11_faultOf s m args below meth c H locs 0 0 Q (F0 m 11 ls []) := by
    intro n11
    induction n11 with
    | zero =>
      intro v1_11 v2_11 v3_11 c_openMany_11 c_open_11 H locs ls hP hD hS hl h
      exact zl5_0 h
    | succ n11 ih11 =>
      intro v1_11 v2_11 v3_11 c_openMany_11 c_open_11 H locs ls hP hD hS hl h
      replace h := zl5_s h
      refine lv_iload_n hx hb dX11_faultOf_11 rfl (lv_at hl 3 rfl) ?_
      refine lv_aload_n hx hb dX11_faultOf_12 rfl (lv_at hl 0 rfl) ?_
      refine va_get (D := D) (ci := 11) (v := .int c_size) (C := RX11) (T := TX11) (N := 33) hx hb hts uX11_faultOf_X11 hown hK.1 hP 0 rfl rfl 19 (by decide) (hts (.fieldLink RX11 230 "WishedResistorModel" "size" "I") (List.mem_of_getElem? (i := 2) rfl)) (fun _ h9 => h9) rfl dX11_faultOf_13 ?_
      refine lv_icmp_ge (tgt := 254) hx hb dX11_faultOf_16 (by decide) (fun hc16 => ?_) (fun hc16 => ?_)
      · replace h := zi_t hc16 h
        exact hJ254 v2_11 c_openMany_11 c_open_11 _ _ _ hP hD hS (lv_sub hl [0, 2] rfl) h
      · replace h := zi_f hc16 h
        refine lv_aload_n hx hb dX11_faultOf_19 rfl (lv_at hl 0 rfl) ?_
        refine va_get (D := D) (ci := 11) (v := .ref b_tape) (C := RX11) (T := TX11) (N := 33) hx hb hts uX11_faultOf_X11 hown hK.1 hP 0 rfl rfl 18 (by decide) (hts (.fieldLink RX11 51 "WishedResistorModel" "tape" "[I") (List.mem_of_getElem? (i := 3) rfl)) (fun _ h9 => h9) rfl dX11_faultOf_20 ?_
        refine lv_iload_n hx hb dX11_faultOf_23 rfl (lv_at hl 3 rfl) ?_
        obtain ⟨hi24, h⟩ := zg_s h
        refine va_iald hx hb hK.1 hP 1 0 rfl rfl hi24 dX11_faultOf_24 ?_
        refine lv_istore (lv' := [(4, .int (c_tape (v3_11).toNatClampNeg)), (0, .ref b), (1, .int v1_11), (2, .int v2_11), (3, .int v3_11)]) hx hb dX11_faultOf_25 hl (Nat.le_of_ble_eq_true rfl) rfl (fun ls hl => ?_)
        refine lv_iload_n hx hb dX11_faultOf_27 rfl (lv_at hl 3 rfl) ?_
        refine lv_if_eq (tgt := 142) hx hb dX11_faultOf_28 (by decide) (fun hc28 => ?_) (fun hc28 => ?_)
        · replace h := zi_t hc28 h
          refine lv_aload_n hx hb dX11_faultOf_142 rfl (lv_at hl 1 rfl) ?_
          refine va_get (D := D) (ci := 11) (v := .int c_openMany_11) (C := RX11) (T := TX11) (N := 33) hx hb hts uX11_faultOf_X11 hown hK.1 hP 0 rfl rfl 21 (by decide) (hts (.fieldLink RX11 233 "WishedResistorModel" "openMany" "I") (List.mem_of_getElem? (i := 1) rfl)) (fun _ h9 => h9) rfl dX11_faultOf_143 ?_
          have hJ205 : ∀  (H : Heap) (locs : List Loc) (ls : Array Slot), va_P D vwCl (wdX11_faultOf cy b b_now b_imaged b_valueUp b_valueDown b_real b_brief b_order b_waits b_floats b_same b_upOf b_downOf b_tape b_open b_made b_paper b_reachUp b_reachDown b_reachHow b_reachFirst b_reachSecond b_begins b_carried c_hasImage c_above c_below c_orderMany c_waitMany c_seed c_size c_openMany_11 c_paperMany c_reachMany c_tape c_now c_open_11) H → va_D A (wdX11_faultOf cy b b_now b_imaged b_valueUp b_valueDown b_real b_brief b_order b_waits b_floats b_same b_upOf b_downOf b_tape b_open b_made b_paper b_reachUp b_reachDown b_reachHow b_reachFirst b_reachSecond b_begins b_carried c_hasImage c_above c_below c_orderMany c_waitMany c_seed c_size c_openMany_11 c_paperMany c_reachMany c_tape c_now c_open_11) → va_S A s.heap H locs → lv_has ls 7 [(0, .ref b), (1, .int v1_11), (2, .int v2_11), (3, .int v3_11), (4, .int (c_tape (v3_11).toNatClampNeg))] → fX11_faultOf_J205 c_tape v1_11 v2_11 v3_11 c_openMany_11 c_open_11 (fX11_faultOf_L11 (fX11_faultOf_J254 c_size) c_size c_tape c_now n11) = some res → W p l e rmX11_faultOf s m args below meth c H locs 0 0 Q (F0 m 205 ls []) := by
            intro  H locs ls hP hD hS hl h
            refine lv_aload_n hx hb dX11_faultOf_205 rfl (lv_at hl 0 rfl) ?_
            refine va_get (D := D) (ci := 11) (v := .int c_openMany_11) (C := RX11) (T := TX11) (N := 33) hx hb hts uX11_faultOf_X11 hown hK.1 hP 0 rfl rfl 21 (by decide) (hts (.fieldLink RX11 233 "WishedResistorModel" "openMany" "I") (List.mem_of_getElem? (i := 1) rfl)) (fun _ h9 => h9) rfl dX11_faultOf_206 ?_
            refine lv_if_le (tgt := 246) hx hb dX11_faultOf_209 (by decide) (fun hc209 => ?_) (fun hc209 => ?_)
            · replace h := zi_t hc209 h
              refine lv_iload_n hx hb dX11_faultOf_246 rfl (lv_at hl 3 rfl) ?_
              exact hret (o := (v3_11, c_openMany_11, c_open_11)) h hP hD hS dX11_faultOf_247
            · replace h := zi_f hc209 h
              refine lv_aload_n hx hb dX11_faultOf_212 rfl (lv_at hl 0 rfl) ?_
              refine va_get (D := D) (ci := 11) (v := .ref b_open) (C := RX11) (T := TX11) (N := 33) hx hb hts uX11_faultOf_X11 hown hK.1 hP 0 rfl rfl 20 (by decide) (hts (.fieldLink RX11 54 "WishedResistorModel" "open" "[I") (List.mem_of_getElem? (i := 6) rfl)) (fun _ h9 => h9) rfl dX11_faultOf_213 ?_
              refine lv_aload_n hx hb dX11_faultOf_216 rfl (lv_at hl 0 rfl) ?_
              refine va_get (D := D) (ci := 11) (v := .int c_openMany_11) (C := RX11) (T := TX11) (N := 33) hx hb hts uX11_faultOf_X11 hown hK.1 hP 0 rfl rfl 21 (by decide) (hts (.fieldLink RX11 233 "WishedResistorModel" "openMany" "I") (List.mem_of_getElem? (i := 1) rfl)) (fun _ h9 => h9) rfl dX11_faultOf_217 ?_
              refine lv_iconst (v := (1 : Int32)) hx hb dX11_faultOf_220 (by decide) ?_
              refine lv_isub hx hb dX11_faultOf_221 ?_
              obtain ⟨hi222, h⟩ := zg_s h
              refine va_iald hx hb hK.1 hP 3 0 rfl rfl hi222 dX11_faultOf_222 ?_
              refine lv_if_le (tgt := 246) hx hb dX11_faultOf_223 (by decide) (fun hc223 => ?_) (fun hc223 => ?_)
              · replace h := zi_t hc223 h
                refine lv_iload_n hx hb dX11_faultOf_246 rfl (lv_at hl 3 rfl) ?_
                exact hret (o := (v3_11, c_openMany_11, c_open_11)) h hP hD hS dX11_faultOf_247
              · replace h := zi_f hc223 h
                refine lv_iload hx hb dX11_faultOf_226 (lv_at hl 4 rfl) ?_
                refine lv_bipush (v := (41 : Int32)) hx hb dX11_faultOf_228 (by decide) ?_
                refine lv_icmp_ne (tgt := 246) hx hb dX11_faultOf_230 (by decide) (fun hc230 => ?_) (fun hc230 => ?_)
                · replace h := zi_f hc230 h
                  refine lv_iload_n hx hb dX11_faultOf_246 rfl (lv_at hl 3 rfl) ?_
                  exact hret (o := (v3_11, c_openMany_11, c_open_11)) h hP hD hS dX11_faultOf_247
                · replace h := zi_t hc230 h
                  refine lv_aload_n hx hb dX11_faultOf_233 rfl (lv_at hl 0 rfl) ?_
                  refine lv_dup hx hb dX11_faultOf_234 rfl ?_
                  refine va_get (D := D) (ci := 11) (v := .int c_openMany_11) (C := RX11) (T := TX11) (N := 33) hx hb hts uX11_faultOf_X11 hown hK.1 hP 0 rfl rfl 21 (by decide) (hts (.fieldLink RX11 233 "WishedResistorModel" "openMany" "I") (List.mem_of_getElem? (i := 1) rfl)) (fun _ h9 => h9) rfl dX11_faultOf_235 ?_
                  refine lv_iconst (v := (1 : Int32)) hx hb dX11_faultOf_238 (by decide) ?_
                  refine lv_isub hx hb dX11_faultOf_239 ?_
                  refine va_put (D := D) (ci := 11) (v := .int (c_openMany_11 - (1 : Int32))) (ty := .int) (C := RX11) (T := TX11) (N := 33) hx hb hts uX11_faultOf_X11 tyX11 tyX11_ok nmX11 hown hK.1 hP hD hS 0 rfl rfl 21 (by decide) (hts (.fieldLink RX11 233 "WishedResistorModel" "openMany" "I") (List.mem_of_getElem? (i := 1) rfl)) (fun _ h9 => h9) rfl (by decide +kernel) rfl rfl (Nat.le_of_ble_eq_true rfl) dX11_faultOf_240 (fun H locs hP hD hS => ?_)
                  have hP : va_P D vwCl (wdX11_faultOf cy b b_now b_imaged b_valueUp b_valueDown b_real b_brief b_order b_waits b_floats b_same b_upOf b_downOf b_tape b_open b_made b_paper b_reachUp b_reachDown b_reachHow b_reachFirst b_reachSecond b_begins b_carried c_hasImage c_above c_below c_orderMany c_waitMany c_seed c_size (c_openMany_11 - (1 : Int32)) c_paperMany c_reachMany c_tape c_now c_open_11) H := hP
                  have hD : va_D A (wdX11_faultOf cy b b_now b_imaged b_valueUp b_valueDown b_real b_brief b_order b_waits b_floats b_same b_upOf b_downOf b_tape b_open b_made b_paper b_reachUp b_reachDown b_reachHow b_reachFirst b_reachSecond b_begins b_carried c_hasImage c_above c_below c_orderMany c_waitMany c_seed c_size (c_openMany_11 - (1 : Int32)) c_paperMany c_reachMany c_tape c_now c_open_11) := hD
                  refine lv_goto (tgt := 248) hx hb dX11_faultOf_243 (by decide) ?_
                  refine lv_iinc (v := (v3_11 + (1 : Int32))) (lv' := [(3, .int (v3_11 + (1 : Int32))), (0, .ref b), (1, .int v1_11), (2, .int v2_11), (4, .int (c_tape (v3_11).toNatClampNeg))]) hx hb dX11_faultOf_248 hl (k := 3) rfl (by rfl) (Nat.le_of_ble_eq_true rfl) rfl (fun ls hl => ?_)
                  refine lv_goto (tgt := 11) hx hb dX11_faultOf_251 (by decide) ?_
                  exact ih11 v1_11 v2_11 (v3_11 + (1 : Int32)) (c_openMany_11 - (1 : Int32)) c_open_11 _ _ _ hP hD hS (lv_sub hl [1, 2, 3, 0] rfl) h
          refine lv_if_le (tgt := 205) hx hb dX11_faultOf_146 (by decide) (fun hc146 => ?_) (fun hc146 => ?_)
          · replace h := zi_t hc146 h
            exact hJ205 _ _ _ hP hD hS (lv_sub hl [1, 2, 3, 4, 0] rfl) h
          · replace h := zi_f hc146 h
            refine lv_aload_n hx hb dX11_faultOf_149 rfl (lv_at hl 1 rfl) ?_
            refine va_get (D := D) (ci := 11) (v := .ref b_open) (C := RX11) (T := TX11) (N := 33) hx hb hts uX11_faultOf_X11 hown hK.1 hP 0 rfl rfl 20 (by decide) (hts (.fieldLink RX11 54 "WishedResistorModel" "open" "[I") (List.mem_of_getElem? (i := 6) rfl)) (fun _ h9 => h9) rfl dX11_faultOf_150 ?_
            refine lv_aload_n hx hb dX11_faultOf_153 rfl (lv_at hl 1 rfl) ?_
            refine va_get (D := D) (ci := 11) (v := .int c_openMany_11) (C := RX11) (T := TX11) (N := 33) hx hb hts uX11_faultOf_X11 hown hK.1 hP 0 rfl rfl 21 (by decide) (hts (.fieldLink RX11 233 "WishedResistorModel" "openMany" "I") (List.mem_of_getElem? (i := 1) rfl)) (fun _ h9 => h9) rfl dX11_faultOf_154 ?_
            refine lv_iconst (v := (1 : Int32)) hx hb dX11_faultOf_157 (by decide) ?_
            refine lv_isub hx hb dX11_faultOf_158 ?_
            obtain ⟨hi159, h⟩ := zg_s h
            refine va_iald hx hb hK.1 hP 3 0 rfl rfl hi159 dX11_faultOf_159 ?_
            refine lv_if_ne (tgt := 205) hx hb dX11_faultOf_160 (by decide) (fun hc160 => ?_) (fun hc160 => ?_)
            · replace h := zi_f hc160 h
              exact hJ205 _ _ _ hP hD hS (lv_sub hl [1, 2, 3, 4, 0] rfl) h
            · replace h := zi_t hc160 h
              refine lv_iload hx hb dX11_faultOf_163 (lv_at hl 0 rfl) ?_
              refine lv_bipush (v := (43 : Int32)) hx hb dX11_faultOf_165 (by decide) ?_
              have hJ177 : ∀  (H : Heap) (locs : List Loc) (ls : Array Slot), va_P D vwCl (wdX11_faultOf cy b b_now b_imaged b_valueUp b_valueDown b_real b_brief b_order b_waits b_floats b_same b_upOf b_downOf b_tape b_open b_made b_paper b_reachUp b_reachDown b_reachHow b_reachFirst b_reachSecond b_begins b_carried c_hasImage c_above c_below c_orderMany c_waitMany c_seed c_size c_openMany_11 c_paperMany c_reachMany c_tape c_now c_open_11) H → va_D A (wdX11_faultOf cy b b_now b_imaged b_valueUp b_valueDown b_real b_brief b_order b_waits b_floats b_same b_upOf b_downOf b_tape b_open b_made b_paper b_reachUp b_reachDown b_reachHow b_reachFirst b_reachSecond b_begins b_carried c_hasImage c_above c_below c_orderMany c_waitMany c_seed c_size c_openMany_11 c_paperMany c_reachMany c_tape c_now c_open_11) → va_S A s.heap H locs → lv_has ls 7 [(0, .ref b), (1, .int v1_11), (3, .int v3_11), (4, .int (c_tape (v3_11).toNatClampNeg))] → fX11_faultOf_J177 c_tape v1_11 v3_11 c_openMany_11 c_open_11 (fX11_faultOf_L11 (fX11_faultOf_J254 c_size) c_size c_tape c_now n11) = some res → W p l e rmX11_faultOf s m args below meth c H locs 0 0 Q (F0 m 177 ls []) := by
                intro  H locs ls hP hD hS hl h
                refine lv_aload_n hx hb dX11_faultOf_177 rfl (lv_at hl 0 rfl) ?_
                refine va_get (D := D) (ci := 11) (v := .ref b_open) (C := RX11) (T := TX11) (N := 33) hx hb hts uX11_faultOf_X11 hown hK.1 hP 0 rfl rfl 20 (by decide) (hts (.fieldLink RX11 54 "WishedResistorModel" "open" "[I") (List.mem_of_getElem? (i := 6) rfl)) (fun _ h9 => h9) rfl dX11_faultOf_178 ?_
                refine lv_aload_n hx hb dX11_faultOf_181 rfl (lv_at hl 0 rfl) ?_
                refine va_get (D := D) (ci := 11) (v := .int c_openMany_11) (C := RX11) (T := TX11) (N := 33) hx hb hts uX11_faultOf_X11 hown hK.1 hP 0 rfl rfl 21 (by decide) (hts (.fieldLink RX11 233 "WishedResistorModel" "openMany" "I") (List.mem_of_getElem? (i := 1) rfl)) (fun _ h9 => h9) rfl dX11_faultOf_182 ?_
                refine lv_iconst (v := (1 : Int32)) hx hb dX11_faultOf_185 (by decide) ?_
                refine lv_isub hx hb dX11_faultOf_186 ?_
                refine lv_iload hx hb dX11_faultOf_187 (lv_at hl 3 rfl) ?_
                refine lv_bipush (v := (43 : Int32)) hx hb dX11_faultOf_189 (by decide) ?_
                have hJ199 : ∀ (s2_199 : Int32) (H : Heap) (locs : List Loc) (ls : Array Slot), va_P D vwCl (wdX11_faultOf cy b b_now b_imaged b_valueUp b_valueDown b_real b_brief b_order b_waits b_floats b_same b_upOf b_downOf b_tape b_open b_made b_paper b_reachUp b_reachDown b_reachHow b_reachFirst b_reachSecond b_begins b_carried c_hasImage c_above c_below c_orderMany c_waitMany c_seed c_size c_openMany_11 c_paperMany c_reachMany c_tape c_now c_open_11) H → va_D A (wdX11_faultOf cy b b_now b_imaged b_valueUp b_valueDown b_real b_brief b_order b_waits b_floats b_same b_upOf b_downOf b_tape b_open b_made b_paper b_reachUp b_reachDown b_reachHow b_reachFirst b_reachSecond b_begins b_carried c_hasImage c_above c_below c_orderMany c_waitMany c_seed c_size c_openMany_11 c_paperMany c_reachMany c_tape c_now c_open_11) → va_S A s.heap H locs → lv_has ls 7 [(0, .ref b), (1, .int v1_11), (3, .int v3_11)] → fX11_faultOf_J199 v1_11 v3_11 c_openMany_11 c_open_11 (fX11_faultOf_L11 (fX11_faultOf_J254 c_size) c_size c_tape c_now n11) s2_199 = some res → W p l e rmX11_faultOf s m args below meth c H locs 0 0 Q (F0 m 199 ls [.int s2_199, .int (c_openMany_11 - (1 : Int32)), .ref b_open]) := by
                  intro s2_199 H locs ls hP hD hS hl h
                  obtain ⟨hi199, h⟩ := zg_s h
                  refine va_iast hx hb hK.1 hP hD hS 3 0 rfl rfl hi199 dX11_faultOf_199 (fun H locs hP hD hS => ?_)
                  have hP : va_P D vwCl (wdX11_faultOf cy b b_now b_imaged b_valueUp b_valueDown b_real b_brief b_order b_waits b_floats b_same b_upOf b_downOf b_tape b_open b_made b_paper b_reachUp b_reachDown b_reachHow b_reachFirst b_reachSecond b_begins b_carried c_hasImage c_above c_below c_orderMany c_waitMany c_seed c_size c_openMany_11 c_paperMany c_reachMany c_tape c_now (upd c_open_11 ((c_openMany_11 - (1 : Int32))).toNatClampNeg s2_199)) H := hP
                  have hD : va_D A (wdX11_faultOf cy b b_now b_imaged b_valueUp b_valueDown b_real b_brief b_order b_waits b_floats b_same b_upOf b_downOf b_tape b_open b_made b_paper b_reachUp b_reachDown b_reachHow b_reachFirst b_reachSecond b_begins b_carried c_hasImage c_above c_below c_orderMany c_waitMany c_seed c_size c_openMany_11 c_paperMany c_reachMany c_tape c_now (upd c_open_11 ((c_openMany_11 - (1 : Int32))).toNatClampNeg s2_199)) := hD
                  refine lv_iconst (v := (1 : Int32)) hx hb dX11_faultOf_200 (by decide) ?_
                  refine lv_istore_n (lv' := [(2, .int (1 : Int32)), (0, .ref b), (1, .int v1_11), (3, .int v3_11)]) hx hb dX11_faultOf_201 rfl hl (Nat.le_of_ble_eq_true rfl) rfl (fun ls hl => ?_)
                  refine lv_goto (tgt := 248) hx hb dX11_faultOf_202 (by decide) ?_
                  refine lv_iinc (v := (v3_11 + (1 : Int32))) (lv' := [(3, .int (v3_11 + (1 : Int32))), (2, .int (1 : Int32)), (0, .ref b), (1, .int v1_11)]) hx hb dX11_faultOf_248 hl (k := 3) rfl (by rfl) (Nat.le_of_ble_eq_true rfl) rfl (fun ls hl => ?_)
                  refine lv_goto (tgt := 11) hx hb dX11_faultOf_251 (by decide) ?_
                  exact ih11 v1_11 (1 : Int32) (v3_11 + (1 : Int32)) c_openMany_11 (upd c_open_11 ((c_openMany_11 - (1 : Int32))).toNatClampNeg s2_199) _ _ _ hP hD hS (lv_sub hl [2, 3, 1, 0] rfl) h
                refine lv_icmp_ne (tgt := 198) hx hb dX11_faultOf_191 (by decide) (fun hc191 => ?_) (fun hc191 => ?_)
                · replace h := zi_f hc191 h
                  refine lv_iconst (v := (2 : Int32)) hx hb dX11_faultOf_198 (by decide) ?_
                  exact hJ199 (2 : Int32) _ _ _ hP hD hS (lv_sub hl [0, 1, 2] rfl) h
                · replace h := zi_t hc191 h
                  refine lv_iconst (v := (1 : Int32)) hx hb dX11_faultOf_194 (by decide) ?_
                  refine lv_goto (tgt := 199) hx hb dX11_faultOf_195 (by decide) ?_
                  exact hJ199 (1 : Int32) _ _ _ hP hD hS (lv_sub hl [0, 1, 2] rfl) h
              refine lv_icmp_eq (tgt := 177) hx hb dX11_faultOf_167 (by decide) (fun hc167 => ?_) (fun hc167 => ?_)
              · replace h := zi_t hc167 h
                exact hJ177 _ _ _ hP hD hS (lv_sub hl [1, 2, 4, 0] rfl) h
              · replace h := zi_f hc167 h
                refine lv_iload hx hb dX11_faultOf_170 (lv_at hl 0 rfl) ?_
                refine lv_bipush (v := (124 : Int32)) hx hb dX11_faultOf_172 (by decide) ?_
                refine lv_icmp_ne (tgt := 205) hx hb dX11_faultOf_174 (by decide) (fun hc174 => ?_) (fun hc174 => ?_)
                · replace h := zi_f hc174 h
                  exact hJ205 _ _ _ hP hD hS (lv_sub hl [1, 2, 3, 4, 0] rfl) h
                · replace h := zi_t hc174 h
                  exact hJ177 _ _ _ hP hD hS (lv_sub hl [1, 2, 4, 0] rfl) h
        · replace h := zi_f hc28 h
          refine lv_iload hx hb dX11_faultOf_31 (lv_at hl 0 rfl) ?_
          refine lv_i2l hx hb dX11_faultOf_33 rfl ?_
          refine lv_ldc2 hx hb hown (hts (.constantLong RX11 236 (97)) (List.mem_of_getElem? (i := 4) rfl)) dX11_faultOf_34 ?_
          refine lv_ldc2 hx hb hown (hts (.constantLong RX11 238 (100)) (List.mem_of_getElem? (i := 5) rfl)) dX11_faultOf_37 ?_
          obtain ⟨r40, hq40, h⟩ := zb1_s h
          refine zCz0 (r0 := r40) (va_runS (As := [.long (((c_tape (v3_11).toNatClampNeg)).toInt64), .long (97 : Int64), .long (100 : Int64)]) (rest := []) ⟨hx, hb, hml, hown, hts⟩ (mX11_in l D cy H.size (((c_tape (v3_11).toNatClampNeg)).toInt64) (97 : Int64) (100 : Int64) (r40) hq40) (va_cwS 3 hts gX11_faultOf_X11_in rfl rfl rfl cdX11_in ⟨Nat.le_of_ble_eq_true rfl, Nat.le_of_ble_eq_true rfl⟩) (zPS hK hP hD [] rfl rfl) rfl rfl hl.1 rfl (lv_room (Nat.le_of_ble_eq_true rfl)) dX11_faultOf_40 ⟨Nat.zero_le _, Nat.zero_le _⟩) hP hD hS hA (fun H locs hn40 hP hD hS => ?_)
          have hJ69 : ∀ (s0_69 : Int32) (H : Heap) (locs : List Loc) (ls : Array Slot), va_P D vwCl (wdX11_faultOf cy b b_now b_imaged b_valueUp b_valueDown b_real b_brief b_order b_waits b_floats b_same b_upOf b_downOf b_tape b_open b_made b_paper b_reachUp b_reachDown b_reachHow b_reachFirst b_reachSecond b_begins b_carried c_hasImage c_above c_below c_orderMany c_waitMany c_seed c_size c_openMany_11 c_paperMany c_reachMany c_tape c_now c_open_11) H → va_D A (wdX11_faultOf cy b b_now b_imaged b_valueUp b_valueDown b_real b_brief b_order b_waits b_floats b_same b_upOf b_downOf b_tape b_open b_made b_paper b_reachUp b_reachDown b_reachHow b_reachFirst b_reachSecond b_begins b_carried c_hasImage c_above c_below c_orderMany c_waitMany c_seed c_size c_openMany_11 c_paperMany c_reachMany c_tape c_now c_open_11) → va_S A s.heap H locs → lv_has ls 7 [(0, .ref b), (1, .int v1_11), (2, .int v2_11), (3, .int v3_11), (4, .int (c_tape (v3_11).toNatClampNeg))] → fX11_faultOf_J69 c_tape v1_11 v2_11 v3_11 c_openMany_11 c_open_11 (fX11_faultOf_L11 (fX11_faultOf_J254 c_size) c_size c_tape c_now n11) s0_69 = some res → W p l e rmX11_faultOf s m args below meth c H locs 0 0 Q (F0 m 69 ls [.int s0_69]) := by
            intro s0_69 H locs ls hP hD hS hl h
            refine lv_istore (lv' := [(5, .int s0_69), (0, .ref b), (1, .int v1_11), (2, .int v2_11), (3, .int v3_11), (4, .int (c_tape (v3_11).toNatClampNeg))]) hx hb dX11_faultOf_69 hl (Nat.le_of_ble_eq_true rfl) rfl (fun ls hl => ?_)
            refine lv_iload hx hb dX11_faultOf_71 (lv_at hl 5 rfl) ?_
            refine lv_bipush (v := (40 : Int32)) hx hb dX11_faultOf_73 (by decide) ?_
            have hJ92 : ∀ (s0_92 : Int32) (H : Heap) (locs : List Loc) (ls : Array Slot), va_P D vwCl (wdX11_faultOf cy b b_now b_imaged b_valueUp b_valueDown b_real b_brief b_order b_waits b_floats b_same b_upOf b_downOf b_tape b_open b_made b_paper b_reachUp b_reachDown b_reachHow b_reachFirst b_reachSecond b_begins b_carried c_hasImage c_above c_below c_orderMany c_waitMany c_seed c_size c_openMany_11 c_paperMany c_reachMany c_tape c_now c_open_11) H → va_D A (wdX11_faultOf cy b b_now b_imaged b_valueUp b_valueDown b_real b_brief b_order b_waits b_floats b_same b_upOf b_downOf b_tape b_open b_made b_paper b_reachUp b_reachDown b_reachHow b_reachFirst b_reachSecond b_begins b_carried c_hasImage c_above c_below c_orderMany c_waitMany c_seed c_size c_openMany_11 c_paperMany c_reachMany c_tape c_now c_open_11) → va_S A s.heap H locs → lv_has ls 7 [(0, .ref b), (1, .int v1_11), (2, .int v2_11), (3, .int v3_11), (5, .int s0_69)] → fX11_faultOf_J92 v1_11 v2_11 v3_11 c_openMany_11 c_open_11 (fX11_faultOf_L11 (fX11_faultOf_J254 c_size) c_size c_tape c_now n11) s0_69 s0_92 = some res → W p l e rmX11_faultOf s m args below meth c H locs 0 0 Q (F0 m 92 ls [.int s0_92]) := by
              intro s0_92 H locs ls hP hD hS hl h
              refine lv_istore (lv' := [(6, .int s0_92), (0, .ref b), (1, .int v1_11), (2, .int v2_11), (3, .int v3_11), (5, .int s0_69)]) hx hb dX11_faultOf_92 hl (Nat.le_of_ble_eq_true rfl) rfl (fun ls hl => ?_)
              refine lv_iload hx hb dX11_faultOf_94 (lv_at hl 5 rfl) ?_
              have hJ106 : ∀  (H : Heap) (locs : List Loc) (ls : Array Slot), va_P D vwCl (wdX11_faultOf cy b b_now b_imaged b_valueUp b_valueDown b_real b_brief b_order b_waits b_floats b_same b_upOf b_downOf b_tape b_open b_made b_paper b_reachUp b_reachDown b_reachHow b_reachFirst b_reachSecond b_begins b_carried c_hasImage c_above c_below c_orderMany c_waitMany c_seed c_size c_openMany_11 c_paperMany c_reachMany c_tape c_now c_open_11) H → va_D A (wdX11_faultOf cy b b_now b_imaged b_valueUp b_valueDown b_real b_brief b_order b_waits b_floats b_same b_upOf b_downOf b_tape b_open b_made b_paper b_reachUp b_reachDown b_reachHow b_reachFirst b_reachSecond b_begins b_carried c_hasImage c_above c_below c_orderMany c_waitMany c_seed c_size c_openMany_11 c_paperMany c_reachMany c_tape c_now c_open_11) → va_S A s.heap H locs → lv_has ls 7 [(0, .ref b), (1, .int v1_11), (2, .int v2_11), (3, .int v3_11), (6, .int s0_92)] → fX11_faultOf_J106 v1_11 v2_11 v3_11 c_openMany_11 c_open_11 (fX11_faultOf_L11 (fX11_faultOf_J254 c_size) c_size c_tape c_now n11) s0_92 = some res → W p l e rmX11_faultOf s m args below meth c H locs 0 0 Q (F0 m 106 ls []) := by
                intro  H locs ls hP hD hS hl h
                refine lv_iload hx hb dX11_faultOf_106 (lv_at hl 4 rfl) ?_
                refine lv_if_eq (tgt := 134) hx hb dX11_faultOf_108 (by decide) (fun hc108 => ?_) (fun hc108 => ?_)
                · replace h := zi_t hc108 h
                  refine lv_iinc (v := (v1_11 + (1 : Int32))) (lv' := [(1, .int (v1_11 + (1 : Int32))), (0, .ref b), (2, .int v2_11), (3, .int v3_11), (6, .int s0_92)]) hx hb dX11_faultOf_134 hl (k := 1) rfl (by rfl) (Nat.le_of_ble_eq_true rfl) rfl (fun ls hl => ?_)
                  refine lv_iconst (v := (0 : Int32)) hx hb dX11_faultOf_137 (by decide) ?_
                  refine lv_istore_n (lv' := [(2, .int (0 : Int32)), (1, .int (v1_11 + (1 : Int32))), (0, .ref b), (3, .int v3_11), (6, .int s0_92)]) hx hb dX11_faultOf_138 rfl hl (Nat.le_of_ble_eq_true rfl) rfl (fun ls hl => ?_)
                  refine lv_goto (tgt := 248) hx hb dX11_faultOf_139 (by decide) ?_
                  refine lv_iinc (v := (v3_11 + (1 : Int32))) (lv' := [(3, .int (v3_11 + (1 : Int32))), (2, .int (0 : Int32)), (1, .int (v1_11 + (1 : Int32))), (0, .ref b), (6, .int s0_92)]) hx hb dX11_faultOf_248 hl (k := 3) rfl (by rfl) (Nat.le_of_ble_eq_true rfl) rfl (fun ls hl => ?_)
                  refine lv_goto (tgt := 11) hx hb dX11_faultOf_251 (by decide) ?_
                  exact ih11 (v1_11 + (1 : Int32)) (0 : Int32) (v3_11 + (1 : Int32)) c_openMany_11 c_open_11 _ _ _ hP hD hS (lv_sub hl [3, 2, 1, 0] rfl) h
                · replace h := zi_f hc108 h
                  refine lv_aload_n hx hb dX11_faultOf_111 rfl (lv_at hl 0 rfl) ?_
                  refine va_get (D := D) (ci := 11) (v := .ref b_open) (C := RX11) (T := TX11) (N := 33) hx hb hts uX11_faultOf_X11 hown hK.1 hP 0 rfl rfl 20 (by decide) (hts (.fieldLink RX11 54 "WishedResistorModel" "open" "[I") (List.mem_of_getElem? (i := 6) rfl)) (fun _ h9 => h9) rfl dX11_faultOf_112 ?_
                  refine lv_aload_n hx hb dX11_faultOf_115 rfl (lv_at hl 0 rfl) ?_
                  refine va_get (D := D) (ci := 11) (v := .int c_openMany_11) (C := RX11) (T := TX11) (N := 33) hx hb hts uX11_faultOf_X11 hown hK.1 hP 0 rfl rfl 21 (by decide) (hts (.fieldLink RX11 233 "WishedResistorModel" "openMany" "I") (List.mem_of_getElem? (i := 1) rfl)) (fun _ h9 => h9) rfl dX11_faultOf_116 ?_
                  refine lv_iconst (v := (0 : Int32)) hx hb dX11_faultOf_119 (by decide) ?_
                  obtain ⟨hi120, h⟩ := zg_s h
                  refine va_iast hx hb hK.1 hP hD hS 3 0 rfl rfl hi120 dX11_faultOf_120 (fun H locs hP hD hS => ?_)
                  have hP : va_P D vwCl (wdX11_faultOf cy b b_now b_imaged b_valueUp b_valueDown b_real b_brief b_order b_waits b_floats b_same b_upOf b_downOf b_tape b_open b_made b_paper b_reachUp b_reachDown b_reachHow b_reachFirst b_reachSecond b_begins b_carried c_hasImage c_above c_below c_orderMany c_waitMany c_seed c_size c_openMany_11 c_paperMany c_reachMany c_tape c_now (upd c_open_11 (c_openMany_11).toNatClampNeg (0 : Int32))) H := hP
                  have hD : va_D A (wdX11_faultOf cy b b_now b_imaged b_valueUp b_valueDown b_real b_brief b_order b_waits b_floats b_same b_upOf b_downOf b_tape b_open b_made b_paper b_reachUp b_reachDown b_reachHow b_reachFirst b_reachSecond b_begins b_carried c_hasImage c_above c_below c_orderMany c_waitMany c_seed c_size c_openMany_11 c_paperMany c_reachMany c_tape c_now (upd c_open_11 (c_openMany_11).toNatClampNeg (0 : Int32))) := hD
                  refine lv_aload_n hx hb dX11_faultOf_121 rfl (lv_at hl 0 rfl) ?_
                  refine lv_dup hx hb dX11_faultOf_122 rfl ?_
                  refine va_get (D := D) (ci := 11) (v := .int c_openMany_11) (C := RX11) (T := TX11) (N := 33) hx hb hts uX11_faultOf_X11 hown hK.1 hP 0 rfl rfl 21 (by decide) (hts (.fieldLink RX11 233 "WishedResistorModel" "openMany" "I") (List.mem_of_getElem? (i := 1) rfl)) (fun _ h9 => h9) rfl dX11_faultOf_123 ?_
                  refine lv_iconst (v := (1 : Int32)) hx hb dX11_faultOf_126 (by decide) ?_
                  refine lv_iadd hx hb dX11_faultOf_127 ?_
                  refine va_put (D := D) (ci := 11) (v := .int (c_openMany_11 + (1 : Int32))) (ty := .int) (C := RX11) (T := TX11) (N := 33) hx hb hts uX11_faultOf_X11 tyX11 tyX11_ok nmX11 hown hK.1 hP hD hS 0 rfl rfl 21 (by decide) (hts (.fieldLink RX11 233 "WishedResistorModel" "openMany" "I") (List.mem_of_getElem? (i := 1) rfl)) (fun _ h9 => h9) rfl (by decide +kernel) rfl rfl (Nat.le_of_ble_eq_true rfl) dX11_faultOf_128 (fun H locs hP hD hS => ?_)
                  have hP : va_P D vwCl (wdX11_faultOf cy b b_now b_imaged b_valueUp b_valueDown b_real b_brief b_order b_waits b_floats b_same b_upOf b_downOf b_tape b_open b_made b_paper b_reachUp b_reachDown b_reachHow b_reachFirst b_reachSecond b_begins b_carried c_hasImage c_above c_below c_orderMany c_waitMany c_seed c_size (c_openMany_11 + (1 : Int32)) c_paperMany c_reachMany c_tape c_now (upd c_open_11 (c_openMany_11).toNatClampNeg (0 : Int32))) H := hP
                  have hD : va_D A (wdX11_faultOf cy b b_now b_imaged b_valueUp b_valueDown b_real b_brief b_order b_waits b_floats b_same b_upOf b_downOf b_tape b_open b_made b_paper b_reachUp b_reachDown b_reachHow b_reachFirst b_reachSecond b_begins b_carried c_hasImage c_above c_below c_orderMany c_waitMany c_seed c_size (c_openMany_11 + (1 : Int32)) c_paperMany c_reachMany c_tape c_now (upd c_open_11 (c_openMany_11).toNatClampNeg (0 : Int32))) := hD
                  refine lv_goto (tgt := 139) hx hb dX11_faultOf_131 (by decide) ?_
                  refine lv_goto (tgt := 248) hx hb dX11_faultOf_139 (by decide) ?_
                  refine lv_iinc (v := (v3_11 + (1 : Int32))) (lv' := [(3, .int (v3_11 + (1 : Int32))), (0, .ref b), (1, .int v1_11), (2, .int v2_11), (6, .int s0_92)]) hx hb dX11_faultOf_248 hl (k := 3) rfl (by rfl) (Nat.le_of_ble_eq_true rfl) rfl (fun ls hl => ?_)
                  refine lv_goto (tgt := 11) hx hb dX11_faultOf_251 (by decide) ?_
                  exact ih11 v1_11 v2_11 (v3_11 + (1 : Int32)) (c_openMany_11 + (1 : Int32)) (upd c_open_11 (c_openMany_11).toNatClampNeg (0 : Int32)) _ _ _ hP hD hS (lv_sub hl [1, 2, 3, 0] rfl) h
              refine lv_if_ne (tgt := 106) hx hb dX11_faultOf_96 (by decide) (fun hc96 => ?_) (fun hc96 => ?_)
              · replace h := zi_f hc96 h
                exact hJ106 _ _ _ hP hD hS (lv_sub hl [1, 2, 3, 4, 0] rfl) h
              · replace h := zi_t hc96 h
                refine lv_iload hx hb dX11_faultOf_99 (lv_at hl 0 rfl) ?_
                refine lv_if_ne (tgt := 106) hx hb dX11_faultOf_101 (by decide) (fun hc101 => ?_) (fun hc101 => ?_)
                · replace h := zi_f hc101 h
                  exact hJ106 _ _ _ hP hD hS (lv_sub hl [1, 2, 3, 4, 0] rfl) h
                · replace h := zi_t hc101 h
                  refine lv_iload_n hx hb dX11_faultOf_104 rfl (lv_at hl 4 rfl) ?_
                  exact hret (o := (v3_11, c_openMany_11, c_open_11)) h hP hD hS dX11_faultOf_105
            refine lv_icmp_ne (tgt := 91) hx hb dX11_faultOf_75 (by decide) (fun hc75 => ?_) (fun hc75 => ?_)
            · replace h := zi_f hc75 h
              refine lv_iconst (v := (0 : Int32)) hx hb dX11_faultOf_91 (by decide) ?_
              exact hJ92 (0 : Int32) _ _ _ hP hD hS (lv_sub hl [1, 2, 3, 4, 0] rfl) h
            · replace h := zi_t hc75 h
              refine lv_aload_n hx hb dX11_faultOf_78 rfl (lv_at hl 1 rfl) ?_
              refine va_get (D := D) (ci := 11) (v := .int c_openMany_11) (C := RX11) (T := TX11) (N := 33) hx hb hts uX11_faultOf_X11 hown hK.1 hP 0 rfl rfl 21 (by decide) (hts (.fieldLink RX11 233 "WishedResistorModel" "openMany" "I") (List.mem_of_getElem? (i := 1) rfl)) (fun _ h9 => h9) rfl dX11_faultOf_79 ?_
              refine lv_bipush (v := (11 : Int32)) hx hb dX11_faultOf_82 (by decide) ?_
              refine lv_icmp_ge (tgt := 91) hx hb dX11_faultOf_84 (by decide) (fun hc84 => ?_) (fun hc84 => ?_)
              · replace h := zi_t hc84 h
                refine lv_iconst (v := (0 : Int32)) hx hb dX11_faultOf_91 (by decide) ?_
                exact hJ92 (0 : Int32) _ _ _ hP hD hS (lv_sub hl [1, 2, 3, 4, 0] rfl) h
              · replace h := zi_f hc84 h
                refine lv_iconst (v := (1 : Int32)) hx hb dX11_faultOf_87 (by decide) ?_
                refine lv_goto (tgt := 92) hx hb dX11_faultOf_88 (by decide) ?_
                exact hJ92 (1 : Int32) _ _ _ hP hD hS (lv_sub hl [1, 2, 3, 4, 0] rfl) h
          refine lv_if_eq (tgt := 68) hx hb dX11_faultOf_43 (by decide) (fun hc43 => ?_) (fun hc43 => ?_)
          · replace h := zi_t hc43 h
            refine lv_iconst (v := (0 : Int32)) hx hb dX11_faultOf_68 (by decide) ?_
            exact hJ69 (0 : Int32) _ _ _ hP hD hS (lv_sub hl [1, 2, 3, 4, 0] rfl) h
          · replace h := zi_f hc43 h
            refine lv_aload_n hx hb dX11_faultOf_46 rfl (lv_at hl 1 rfl) ?_
            refine lv_iload hx hb dX11_faultOf_47 (lv_at hl 0 rfl) ?_
            refine lv_bipush (v := (97 : Int32)) hx hb dX11_faultOf_49 (by decide) ?_
            refine lv_isub hx hb dX11_faultOf_51 ?_
            obtain ⟨r52, hq52, h⟩ := zb1_s h
            refine zCz (r0 := r52) (w1 := (wdX11_isThere cy b b_now b_imaged b_valueUp b_valueDown b_real b_brief b_order b_waits b_floats b_same b_upOf b_downOf b_tape b_open b_made b_paper b_reachUp b_reachDown b_reachHow b_reachFirst b_reachSecond b_begins b_carried c_hasImage c_above c_below c_orderMany c_waitMany c_seed c_size c_openMany_11 c_paperMany c_reachMany c_now)) (ws' := (wdX11_faultOf cy b b_now b_imaged b_valueUp b_valueDown b_real b_brief b_order b_waits b_floats b_same b_upOf b_downOf b_tape b_open b_made b_paper b_reachUp b_reachDown b_reachHow b_reachFirst b_reachSecond b_begins b_carried c_hasImage c_above c_below c_orderMany c_waitMany c_seed c_size c_openMany_11 c_paperMany c_reachMany c_tape c_now c_open_11)) (va_runV (As := [.int ((c_tape (v3_11).toNatClampNeg) - (97 : Int32))]) (rest := []) ⟨hx, hb, hml, hown, hts⟩ (mX11_isThere l D cy H.size b b_now b_imaged b_valueUp b_valueDown b_real b_brief b_order b_waits b_floats b_same b_upOf b_downOf b_tape b_open b_made b_paper b_reachUp b_reachDown b_reachHow b_reachFirst b_reachSecond b_begins b_carried c_hasImage c_above c_below c_orderMany c_waitMany c_seed c_size c_openMany_11 c_paperMany c_reachMany c_now ((c_tape (v3_11).toNatClampNeg) - (97 : Int32)) (r52) hq52) (cwV 1 hts gX11_faultOf_X11_isThere rfl rfl rfl ⟨rfl, cdX11_isThere⟩ ⟨Nat.le_of_ble_eq_true rfl, Nat.le_of_ble_eq_true rfl⟩) (zPV hK hP hD [0, 2] rfl rfl (q0 := 0) (ci := 11) rfl rfl rfl) rfl rfl hl.1 rfl (lv_room (Nat.le_of_ble_eq_true rfl)) dX11_faultOf_52 ⟨Nat.zero_le _, Nat.zero_le _⟩) hP hD hS hA [0, 2] [1, 3] [2, 0, 3, 1] rfl rfl rfl rfl (fun H locs hn52 hP hD hS => ?_)
            refine lv_if_eq (tgt := 68) hx hb dX11_faultOf_55 (by decide) (fun hc55 => ?_) (fun hc55 => ?_)
            · replace h := zi_t hc55 h
              refine lv_iconst (v := (0 : Int32)) hx hb dX11_faultOf_68 (by decide) ?_
              exact hJ69 (0 : Int32) _ _ _ hP hD hS (lv_sub hl [1, 2, 3, 4, 0] rfl) h
            · replace h := zi_f hc55 h
              refine lv_iload_n hx hb dX11_faultOf_58 rfl (lv_at hl 2 rfl) ?_
              refine lv_bipush (v := (12 : Int32)) hx hb dX11_faultOf_59 (by decide) ?_
              refine lv_icmp_ge (tgt := 68) hx hb dX11_faultOf_61 (by decide) (fun hc61 => ?_) (fun hc61 => ?_)
              · replace h := zi_t hc61 h
                refine lv_iconst (v := (0 : Int32)) hx hb dX11_faultOf_68 (by decide) ?_
                exact hJ69 (0 : Int32) _ _ _ hP hD hS (lv_sub hl [1, 2, 3, 4, 0] rfl) h
              · replace h := zi_f hc61 h
                refine lv_iconst (v := (1 : Int32)) hx hb dX11_faultOf_64 (by decide) ?_
                refine lv_goto (tgt := 69) hx hb dX11_faultOf_65 (by decide) ?_
                exact hJ69 (1 : Int32) _ _ _ hP hD hS (lv_sub hl [1, 2, 3, 4, 0] rfl) h
  exact hL11 5000 (0 : Int32) (1 : Int32) (0 : Int32) (0 : Int32) c_open _ _ _ hP hD hS (lv_sub hl [3, 2, 1, 0] rfl) h

theorem uX11_keeps_X11 : ∀ w ∈ u_ws RX11 TX11 33, w ∈ wsX11_keeps := fun w h => (List.mem_cons_of_mem _ (List.mem_append_right _ h))
abbrev wdX11_keeps (cy : Nat → ClassId) (b b_now b_imaged b_valueUp b_valueDown b_real b_brief b_order b_waits b_floats b_same b_upOf b_downOf b_tape b_open b_made b_paper b_reachUp b_reachDown b_reachHow b_reachFirst b_reachSecond b_begins b_carried : Nat) (c_hasImage : Int32) (c_above c_below : Int64) (c_orderMany c_waitMany c_seed c_size c_openMany c_paperMany c_reachMany : Int32) (c_tape c_open c_made c_now : Nat → Int32) : va_W := [(b, .inr (11, [.ref b_now, .ref b_imaged, .int c_hasImage, .long c_above, .long c_below, .ref b_valueUp, .ref b_valueDown, .ref b_real, .ref b_brief, .ref b_order, .int c_orderMany, .ref b_waits, .int c_waitMany, .ref b_floats, .int c_seed, .ref b_same, .ref b_upOf, .ref b_downOf, .ref b_tape, .int c_size, .ref b_open, .int c_openMany, .ref b_made, .ref b_paper, .int c_paperMany, .ref b_reachUp, .ref b_reachDown, .ref b_reachHow, .ref b_reachFirst, .ref b_reachSecond, .ref b_begins, .int c_reachMany, .ref b_carried])), (b_tape, .inl (cy 0, 60, .inl c_tape)), (b_open, .inl (cy 0, 12, .inl c_open)), (b_made, .inl (cy 0, 24, .inl c_made)), (b_now, .inl (cy 0, 261, .inl c_now))]
abbrev rmX11_keeps : Room := { frames := 3, cells := 0, slots := 0, locals := 70 }
theorem cdX11_keeps : (yX11_keeps).cls ≠ "java/lang/invoke/MethodHandle" ∧ (yX11_keeps).cls ≠ "java/lang/invoke/VarHandle" ∧ (parseMethodDescriptor (yX11_keeps).desc).map (fun d => d.parameters.length) = some 0 := by decide +kernel
def fX11_keeps_J205  (c_openMany_205 : Int32) (c_open_205 c_made_205 c_now_205 : Nat → Int32) : Option (Int32 × Int32 × (Nat → Int32) × (Nat → Int32) × (Nat → Int32)) :=
  some ((c_made_205 ((0 : Int32)).toNatClampNeg), c_openMany_205, c_open_205, c_made_205, c_now_205)
def fX11_keeps_J191 (v2_9 : Int32) (rec9 : Int32 → Int32 → Int32 → (Nat → Int32) → (Nat → Int32) → (Nat → Int32) → Option (Int32 × Int32 × (Nat → Int32) × (Nat → Int32) × (Nat → Int32))) (v1_191 v4_191 c_openMany_191 : Int32) (c_open_191 c_made_191 c_now_191 : Nat → Int32) : Option (Int32 × Int32 × (Nat → Int32) × (Nat → Int32) × (Nat → Int32)) :=
  if 0 ≤ v4_191 then (rec9 v1_191 (v2_9 + (1 : Int32)) c_openMany_191 c_open_191 c_made_191 c_now_191) else (some ((-3 : Int32), c_openMany_191, c_open_191, c_made_191, c_now_191))
def fX11_keeps_J79 (v1_9 v2_9 c_openMany_9 : Int32) (c_open_9 c_made_9 c_now_9 : Nat → Int32) (rec9 : Int32 → Int32 → Int32 → (Nat → Int32) → (Nat → Int32) → (Nat → Int32) → Option (Int32 × Int32 × (Nat → Int32) × (Nat → Int32) × (Nat → Int32))) (s2_79 : Int32) : Option (Int32 × Int32 × (Nat → Int32) × (Nat → Int32) × (Nat → Int32)) :=
  zg (zin (c_openMany_9 - (1 : Int32)) 12) (fX11_keeps_J191 v2_9 rec9 v1_9 (0 : Int32) c_openMany_9 (upd c_open_9 ((c_openMany_9 - (1 : Int32))).toNatClampNeg s2_79) c_made_9 c_now_9)
def fX11_keeps_J58 (c_tape : Nat → Int32) (v1_9 v2_9 c_openMany_9 : Int32) (c_open_9 c_made_9 c_now_9 : Nat → Int32) (rec9 : Int32 → Int32 → Int32 → (Nat → Int32) → (Nat → Int32) → (Nat → Int32) → Option (Int32 × Int32 × (Nat → Int32) × (Nat → Int32) × (Nat → Int32)))  : Option (Int32 × Int32 × (Nat → Int32) × (Nat → Int32) × (Nat → Int32)) :=
  if (c_tape (v2_9).toNatClampNeg) = (43 : Int32) then (fX11_keeps_J79 v1_9 v2_9 c_openMany_9 c_open_9 c_made_9 c_now_9 rec9 (1 : Int32)) else (fX11_keeps_J79 v1_9 v2_9 c_openMany_9 c_open_9 c_made_9 c_now_9 rec9 (2 : Int32))
def fX11_keeps_L9 (k205_9 : Int32 → (Nat → Int32) → (Nat → Int32) → (Nat → Int32) → Option (Int32 × Int32 × (Nat → Int32) × (Nat → Int32) × (Nat → Int32))) (c_size : Int32) (c_tape : Nat → Int32) : Nat → Int32 → Int32 → Int32 → (Nat → Int32) → (Nat → Int32) → (Nat → Int32) → Option (Int32 × Int32 × (Nat → Int32) × (Nat → Int32) × (Nat → Int32)) :=
  zl6 (fun rec9 v1_9 v2_9 c_openMany_9 c_open_9 c_made_9 c_now_9 => if c_size ≤ v2_9 then (k205_9 c_openMany_9 c_open_9 c_made_9 c_now_9) else (zg (zin v2_9 60) (if (c_tape (v2_9).toNatClampNeg) = (40 : Int32) then (fX11_keeps_J191 v2_9 rec9 v1_9 (0 : Int32) (c_openMany_9 + (1 : Int32)) c_open_9 c_made_9 c_now_9) else (if (c_tape (v2_9).toNatClampNeg) = (43 : Int32) then (fX11_keeps_J58 c_tape v1_9 v2_9 c_openMany_9 c_open_9 c_made_9 c_now_9 rec9) else (if (c_tape (v2_9).toNatClampNeg) = (124 : Int32) then (fX11_keeps_J58 c_tape v1_9 v2_9 c_openMany_9 c_open_9 c_made_9 c_now_9 rec9) else (if (c_tape (v2_9).toNatClampNeg) = (41 : Int32) then (zg (zin (c_openMany_9 - (1 : Int32)) 12) (zg (zin ((v1_9 + (-1 : Int32)) - (1 : Int32)) 24) (zg (zin (v1_9 + (-1 : Int32)) 24) (zg (zin ((v1_9 + (-1 : Int32)) - (1 : Int32)) 24) (zb1 (fX11_partsOf (c_made_9 (((v1_9 + (-1 : Int32)) - (1 : Int32))).toNatClampNeg) c_now_9) (fun r135 => zg (zin (v1_9 + (-1 : Int32)) 24) (zb1 (fX11_partsOf (c_made_9 ((v1_9 + (-1 : Int32))).toNatClampNeg) c_now_9) (fun r145 => zb2 (fX11_kept (c_open_9 ((c_openMany_9 - (1 : Int32))).toNatClampNeg) (c_made_9 (((v1_9 + (-1 : Int32)) - (1 : Int32))).toNatClampNeg) (c_made_9 ((v1_9 + (-1 : Int32))).toNatClampNeg) (r135 + r145) c_now_9) (fun r149 c_now_r149 => zg (zin ((v1_9 + (-1 : Int32)) - (1 : Int32)) 24) (fX11_keeps_J191 v2_9 rec9 (v1_9 + (-1 : Int32)) r149 (c_openMany_9 - (1 : Int32)) c_open_9 (upd c_made_9 (((v1_9 + (-1 : Int32)) - (1 : Int32))).toNatClampNeg r149) c_now_r149)))))))))) else (zb2 (fX11_kept (0 : Int32) ((c_tape (v2_9).toNatClampNeg) - (97 : Int32)) (0 : Int32) (1 : Int32) c_now_9) (fun r175 c_now_r175 => zg (zin v1_9 24) (fX11_keeps_J191 v2_9 rec9 (v1_9 + (1 : Int32)) r175 c_openMany_9 c_open_9 (upd c_made_9 (v1_9).toNatClampNeg r175) c_now_r175)))))))))
def fX11_keeps (c_size c_openMany : Int32) (c_tape c_open c_made c_now : Nat → Int32) : Option (Int32 × Int32 × (Nat → Int32) × (Nat → Int32) × (Nat → Int32)) :=
  fX11_keeps_L9 fX11_keeps_J205 c_size c_tape 5000 (0 : Int32) (0 : Int32) (0 : Int32) c_open c_made c_now
set_option maxHeartbeats 4000000 in
set_option maxRecDepth 100000 in
theorem mX11_keeps (l : Launch) (D : va_G) (cy : Nat → ClassId) (sz : Nat) (b b_now b_imaged b_valueUp b_valueDown b_real b_brief b_order b_waits b_floats b_same b_upOf b_downOf b_tape b_open b_made b_paper b_reachUp b_reachDown b_reachHow b_reachFirst b_reachSecond b_begins b_carried : Nat) (c_hasImage : Int32) (c_above c_below : Int64) (c_orderMany c_waitMany c_seed c_size c_openMany c_paperMany c_reachMany : Int32) (c_tape c_open c_made c_now : Nat → Int32) (res : (Int32 × Int32 × (Nat → Int32) × (Nat → Int32) × (Nat → Int32))) (h : fX11_keeps c_size c_openMany c_tape c_open c_made c_now = some res) : zMi l yX11_keeps wsX11_keeps rmX11_keeps [.ref b] D cy (wdX11_keeps cy b b_now b_imaged b_valueUp b_valueDown b_real b_brief b_order b_waits b_floats b_same b_upOf b_downOf b_tape b_open b_made b_paper b_reachUp b_reachDown b_reachHow b_reachFirst b_reachSecond b_begins b_carried c_hasImage c_above c_below c_orderMany c_waitMany c_seed c_size c_openMany c_paperMany c_reachMany c_tape c_open c_made c_now) sz ((fun (o : (Int32 × Int32 × (Nat → Int32) × (Nat → Int32) × (Nat → Int32))) => o.1) res) ((fun (o : (Int32 × Int32 × (Nat → Int32) × (Nat → Int32) × (Nat → Int32))) => (wdX11_keeps cy b b_now b_imaged b_valueUp b_valueDown b_real b_brief b_order b_waits b_floats b_same b_upOf b_downOf b_tape b_open b_made b_paper b_reachUp b_reachDown b_reachHow b_reachFirst b_reachSecond b_begins b_carried c_hasImage c_above c_below c_orderMany c_waitMany c_seed c_size (o.2.1) c_paperMany c_reachMany c_tape (o.2.2.1) (o.2.2.2.1) (o.2.2.2.2))) res) := by
  refine zOfi (res := res) (rf := (fun (o : (Int32 × Int32 × (Nat → Int32) × (Nat → Int32) × (Nat → Int32))) => o.1)) (Wf := (fun (o : (Int32 × Int32 × (Nat → Int32) × (Nat → Int32) × (Nat → Int32))) => (wdX11_keeps cy b b_now b_imaged b_valueUp b_valueDown b_real b_brief b_order b_waits b_floats b_same b_upOf b_downOf b_tape b_open b_made b_paper b_reachUp b_reachDown b_reachHow b_reachFirst b_reachSecond b_begins b_carried c_hasImage c_above c_below c_orderMany c_waitMany c_seed c_size (o.2.1) c_paperMany c_reachMany c_tape (o.2.2.1) (o.2.2.2.1) (o.2.2.2.2)))) (by decide +kernel) rfl (Nat.le_of_ble_eq_true rfl) ?_
  intro p e s m args below meth c A ls Q hx hb hml hts hown hP hK hD hA hS hl hret
  have hown : s.vm.findClass RX11 = some m.cls := hown
  have hl : lv_has ls 5 [(0, .ref b)] := hl
  refine lv_iconst (v := (0 : Int32)) hx hb dX11_keeps_0 (by decide) ?_
  refine lv_istore_n (lv' := [(1, .int (0 : Int32)), (0, .ref b)]) hx hb dX11_keeps_1 rfl hl (Nat.le_of_ble_eq_true rfl) rfl (fun ls hl => ?_)
  refine lv_aload_n hx hb dX11_keeps_2 rfl (lv_at hl 1 rfl) ?_
  refine lv_iconst (v := (0 : Int32)) hx hb dX11_keeps_3 (by decide) ?_
  refine va_put (D := D) (ci := 11) (v := .int (0 : Int32)) (ty := .int) (C := RX11) (T := TX11) (N := 33) hx hb hts uX11_keeps_X11 tyX11 tyX11_ok nmX11 hown hK.1 hP hD hS 0 rfl rfl 21 (by decide) (hts (.fieldLink RX11 233 "WishedResistorModel" "openMany" "I") (List.mem_of_getElem? (i := 1) rfl)) (fun _ h9 => h9) rfl (by decide +kernel) rfl rfl (Nat.le_of_ble_eq_true rfl) dX11_keeps_4 (fun H locs hP hD hS => ?_)
  have hP : va_P D vwCl (wdX11_keeps cy b b_now b_imaged b_valueUp b_valueDown b_real b_brief b_order b_waits b_floats b_same b_upOf b_downOf b_tape b_open b_made b_paper b_reachUp b_reachDown b_reachHow b_reachFirst b_reachSecond b_begins b_carried c_hasImage c_above c_below c_orderMany c_waitMany c_seed c_size (0 : Int32) c_paperMany c_reachMany c_tape c_open c_made c_now) H := hP
  have hD : va_D A (wdX11_keeps cy b b_now b_imaged b_valueUp b_valueDown b_real b_brief b_order b_waits b_floats b_same b_upOf b_downOf b_tape b_open b_made b_paper b_reachUp b_reachDown b_reachHow b_reachFirst b_reachSecond b_begins b_carried c_hasImage c_above c_below c_orderMany c_waitMany c_seed c_size (0 : Int32) c_paperMany c_reachMany c_tape c_open c_made c_now) := hD
  refine lv_iconst (v := (0 : Int32)) hx hb dX11_keeps_7 (by decide) ?_
  refine lv_istore_n (lv' := [(2, .int (0 : Int32)), (1, .int (0 : Int32)), (0, .ref b)]) hx hb dX11_keeps_8 rfl hl (Nat.le_of_ble_eq_true rfl) rfl (fun ls hl => ?_)
  have hJ205 : ∀ (c_openMany_205 : Int32) (c_open_205 c_made_205 c_now_205 : Nat → Int32) (H : Heap) (locs : List Loc) (ls : Array Slot), va_P D vwCl (wdX11_keeps cy b b_now b_imaged b_valueUp b_valueDown b_real b_brief b_order b_waits b_floats b_same b_upOf b_downOf b_tape b_open b_made b_paper b_reachUp b_reachDown b_reachHow b_reachFirst b_reachSecond b_begins b_carried c_hasImage c_above c_below c_orderMany c_waitMany c_seed c_size c_openMany_205 c_paperMany c_reachMany c_tape c_open_205 c_made_205 c_now_205) H → va_D A (wdX11_keeps cy b b_now b_imaged b_valueUp b_valueDown b_real b_brief b_order b_waits b_floats b_same b_upOf b_downOf b_tape b_open b_made b_paper b_reachUp b_reachDown b_reachHow b_reachFirst b_reachSecond b_begins b_carried c_hasImage c_above c_below c_orderMany c_waitMany c_seed c_size c_openMany_205 c_paperMany c_reachMany c_tape c_open_205 c_made_205 c_now_205) → va_S A s.heap H locs → lv_has ls 5 [(0, .ref b)] → fX11_keeps_J205 c_openMany_205 c_open_205 c_made_205 c_now_205 = some res → W p l e rmX11_keeps s m args below meth c H locs 0 0 Q (F0 m 205 ls []) := by
    intro c_openMany_205 c_open_205 c_made_205 c_now_205 H locs ls hP hD hS hl h
    refine lv_aload_n hx hb dX11_keeps_205 rfl (lv_at hl 0 rfl) ?_
    refine va_get (D := D) (ci := 11) (v := .ref b_made) (C := RX11) (T := TX11) (N := 33) hx hb hts uX11_keeps_X11 hown hK.1 hP 0 rfl rfl 22 (by decide) (hts (.fieldLink RX11 57 "WishedResistorModel" "made" "[I") (List.mem_of_getElem? (i := 5) rfl)) (fun _ h9 => h9) rfl dX11_keeps_206 ?_
    refine lv_iconst (v := (0 : Int32)) hx hb dX11_keeps_209 (by decide) ?_
    refine va_iald hx hb hK.1 hP 3 0 rfl rfl (show zin (0 : Int32) 24 from by decide) dX11_keeps_210 ?_
    exact hret (o := ((c_made_205 ((0 : Int32)).toNatClampNeg), c_openMany_205, c_open_205, c_made_205, c_now_205)) h hP hD hS dX11_keeps_211
  have hL9 : ∀ n9 : Nat, ∀ (v1_9 v2_9 c_openMany_9 : Int32) (c_open_9 c_made_9 c_now_9 : Nat → Int32) (H : Heap) (locs : List Loc) (ls : Array Slot), va_P D vwCl (wdX11_keeps cy b b_now b_imaged b_valueUp b_valueDown b_real b_brief b_order b_waits b_floats b_same b_upOf b_downOf b_tape b_open b_made b_paper b_reachUp b_reachDown b_reachHow b_reachFirst b_reachSecond b_begins b_carried c_hasImage c_above c_below c_orderMany c_waitMany c_seed c_size c_openMany_9 c_paperMany c_reachMany c_tape c_open_9 c_made_9 c_now_9) H → va_D A (wdX11_keeps cy b b_now b_imaged b_valueUp b_valueDown b_real b_brief b_order b_waits b_floats b_same b_upOf b_downOf b_tape b_open b_made b_paper b_reachUp b_reachDown b_reachHow b_reachFirst b_reachSecond b_begins b_carried c_hasImage c_above c_below c_orderMany c_waitMany c_seed c_size c_openMany_9 c_paperMany c_reachMany c_tape c_open_9 c_made_9 c_now_9) → va_S A s.heap H locs → lv_has ls 5 [(0, .ref b), (1, .int v1_9), (2, .int v2_9)] → fX11_keeps_L9 fX11_keeps_J205 c_size c_tape n9 v1_9 v2_9 c_openMany_9 c_open_9 c_made_9 c_now_9 = some res → W p l e rmX11_keeps s m args below meth c H locs 0 0 Q (F0 m 9 ls []) := by
    intro n9
    induction n9 with
    | zero =>
      intro v1_9 v2_9 c_openMany_9 c_open_9 c_made_9 c_now_9 H locs ls hP hD hS hl h
      exact zl6_0 h
    | succ n9 ih9 =>
      intro v1_9 v2_9 c_openMany_9 c_open_9 c_made_9 c_now_9 H locs ls hP hD hS hl h
      replace h := zl6_s h
      refine lv_iload_n hx hb dX11_keeps_9 rfl (lv_at hl 2 rfl) ?_
      refine lv_aload_n hx hb dX11_keeps_10 rfl (lv_at hl 0 rfl) ?_
      refine va_get (D := D) (ci := 11) (v := .int c_size) (C := RX11) (T := TX11) (N := 33) hx hb hts uX11_keeps_X11 hown hK.1 hP 0 rfl rfl 19 (by decide) (hts (.fieldLink RX11 230 "WishedResistorModel" "size" "I") (List.mem_of_getElem? (i := 2) rfl)) (fun _ h9 => h9) rfl dX11_keeps_11 ?_
      refine lv_icmp_ge (tgt := 205) hx hb dX11_keeps_14 (by decide) (fun hc14 => ?_) (fun hc14 => ?_)
      · replace h := zi_t hc14 h
        exact hJ205 c_openMany_9 c_open_9 c_made_9 c_now_9 _ _ _ hP hD hS (lv_sub hl [0] rfl) h
      · replace h := zi_f hc14 h
        refine lv_aload_n hx hb dX11_keeps_17 rfl (lv_at hl 0 rfl) ?_
        refine va_get (D := D) (ci := 11) (v := .ref b_tape) (C := RX11) (T := TX11) (N := 33) hx hb hts uX11_keeps_X11 hown hK.1 hP 0 rfl rfl 18 (by decide) (hts (.fieldLink RX11 51 "WishedResistorModel" "tape" "[I") (List.mem_of_getElem? (i := 3) rfl)) (fun _ h9 => h9) rfl dX11_keeps_18 ?_
        refine lv_iload_n hx hb dX11_keeps_21 rfl (lv_at hl 2 rfl) ?_
        obtain ⟨hi22, h⟩ := zg_s h
        refine va_iald hx hb hK.1 hP 1 0 rfl rfl hi22 dX11_keeps_22 ?_
        refine lv_istore_n (lv' := [(3, .int (c_tape (v2_9).toNatClampNeg)), (0, .ref b), (1, .int v1_9), (2, .int v2_9)]) hx hb dX11_keeps_23 rfl hl (Nat.le_of_ble_eq_true rfl) rfl (fun ls hl => ?_)
        refine lv_iconst (v := (0 : Int32)) hx hb dX11_keeps_24 (by decide) ?_
        refine lv_istore (lv' := [(4, .int (0 : Int32)), (3, .int (c_tape (v2_9).toNatClampNeg)), (0, .ref b), (1, .int v1_9), (2, .int v2_9)]) hx hb dX11_keeps_25 hl (Nat.le_of_ble_eq_true rfl) rfl (fun ls hl => ?_)
        refine lv_iload_n hx hb dX11_keeps_27 rfl (lv_at hl 1 rfl) ?_
        refine lv_bipush (v := (40 : Int32)) hx hb dX11_keeps_28 (by decide) ?_
        have hJ191 : ∀ (v1_191 v4_191 c_openMany_191 : Int32) (c_open_191 c_made_191 c_now_191 : Nat → Int32) (H : Heap) (locs : List Loc) (ls : Array Slot), va_P D vwCl (wdX11_keeps cy b b_now b_imaged b_valueUp b_valueDown b_real b_brief b_order b_waits b_floats b_same b_upOf b_downOf b_tape b_open b_made b_paper b_reachUp b_reachDown b_reachHow b_reachFirst b_reachSecond b_begins b_carried c_hasImage c_above c_below c_orderMany c_waitMany c_seed c_size c_openMany_191 c_paperMany c_reachMany c_tape c_open_191 c_made_191 c_now_191) H → va_D A (wdX11_keeps cy b b_now b_imaged b_valueUp b_valueDown b_real b_brief b_order b_waits b_floats b_same b_upOf b_downOf b_tape b_open b_made b_paper b_reachUp b_reachDown b_reachHow b_reachFirst b_reachSecond b_begins b_carried c_hasImage c_above c_below c_orderMany c_waitMany c_seed c_size c_openMany_191 c_paperMany c_reachMany c_tape c_open_191 c_made_191 c_now_191) → va_S A s.heap H locs → lv_has ls 5 [(0, .ref b), (1, .int v1_191), (2, .int v2_9), (4, .int v4_191)] → fX11_keeps_J191 v2_9 (fX11_keeps_L9 fX11_keeps_J205 c_size c_tape n9) v1_191 v4_191 c_openMany_191 c_open_191 c_made_191 c_now_191 = some res → W p l e rmX11_keeps s m args below meth c H locs 0 0 Q (F0 m 191 ls []) := by
          intro v1_191 v4_191 c_openMany_191 c_open_191 c_made_191 c_now_191 H locs ls hP hD hS hl h
          refine lv_iload hx hb dX11_keeps_191 (lv_at hl 3 rfl) ?_
          refine lv_if_ge (tgt := 199) hx hb dX11_keeps_193 (by decide) (fun hc193 => ?_) (fun hc193 => ?_)
          · replace h := zi_t hc193 h
            refine lv_iinc (v := (v2_9 + (1 : Int32))) (lv' := [(2, .int (v2_9 + (1 : Int32))), (0, .ref b), (1, .int v1_191), (4, .int v4_191)]) hx hb dX11_keeps_199 hl (k := 2) rfl (by rfl) (Nat.le_of_ble_eq_true rfl) rfl (fun ls hl => ?_)
            refine lv_goto (tgt := 9) hx hb dX11_keeps_202 (by decide) ?_
            exact ih9 v1_191 (v2_9 + (1 : Int32)) c_openMany_191 c_open_191 c_made_191 c_now_191 _ _ _ hP hD hS (lv_sub hl [1, 2, 0] rfl) h
          · replace h := zi_f hc193 h
            refine lv_bipush (v := (-3 : Int32)) hx hb dX11_keeps_196 (by decide) ?_
            exact hret (o := ((-3 : Int32), c_openMany_191, c_open_191, c_made_191, c_now_191)) h hP hD hS dX11_keeps_198
        refine lv_icmp_ne (tgt := 46) hx hb dX11_keeps_30 (by decide) (fun hc30 => ?_) (fun hc30 => ?_)
        · replace h := zi_f hc30 h
          refine lv_iload_n hx hb dX11_keeps_46 rfl (lv_at hl 1 rfl) ?_
          refine lv_bipush (v := (43 : Int32)) hx hb dX11_keeps_47 (by decide) ?_
          have hJ58 : ∀  (H : Heap) (locs : List Loc) (ls : Array Slot), va_P D vwCl (wdX11_keeps cy b b_now b_imaged b_valueUp b_valueDown b_real b_brief b_order b_waits b_floats b_same b_upOf b_downOf b_tape b_open b_made b_paper b_reachUp b_reachDown b_reachHow b_reachFirst b_reachSecond b_begins b_carried c_hasImage c_above c_below c_orderMany c_waitMany c_seed c_size c_openMany_9 c_paperMany c_reachMany c_tape c_open_9 c_made_9 c_now_9) H → va_D A (wdX11_keeps cy b b_now b_imaged b_valueUp b_valueDown b_real b_brief b_order b_waits b_floats b_same b_upOf b_downOf b_tape b_open b_made b_paper b_reachUp b_reachDown b_reachHow b_reachFirst b_reachSecond b_begins b_carried c_hasImage c_above c_below c_orderMany c_waitMany c_seed c_size c_openMany_9 c_paperMany c_reachMany c_tape c_open_9 c_made_9 c_now_9) → va_S A s.heap H locs → lv_has ls 5 [(0, .ref b), (1, .int v1_9), (2, .int v2_9), (3, .int (c_tape (v2_9).toNatClampNeg)), (4, .int (0 : Int32))] → fX11_keeps_J58 c_tape v1_9 v2_9 c_openMany_9 c_open_9 c_made_9 c_now_9 (fX11_keeps_L9 fX11_keeps_J205 c_size c_tape n9) = some res → W p l e rmX11_keeps s m args below meth c H locs 0 0 Q (F0 m 58 ls []) := by
            intro  H locs ls hP hD hS hl h
            refine lv_aload_n hx hb dX11_keeps_58 rfl (lv_at hl 0 rfl) ?_
            refine va_get (D := D) (ci := 11) (v := .ref b_open) (C := RX11) (T := TX11) (N := 33) hx hb hts uX11_keeps_X11 hown hK.1 hP 0 rfl rfl 20 (by decide) (hts (.fieldLink RX11 54 "WishedResistorModel" "open" "[I") (List.mem_of_getElem? (i := 4) rfl)) (fun _ h9 => h9) rfl dX11_keeps_59 ?_
            refine lv_aload_n hx hb dX11_keeps_62 rfl (lv_at hl 0 rfl) ?_
            refine va_get (D := D) (ci := 11) (v := .int c_openMany_9) (C := RX11) (T := TX11) (N := 33) hx hb hts uX11_keeps_X11 hown hK.1 hP 0 rfl rfl 21 (by decide) (hts (.fieldLink RX11 233 "WishedResistorModel" "openMany" "I") (List.mem_of_getElem? (i := 1) rfl)) (fun _ h9 => h9) rfl dX11_keeps_63 ?_
            refine lv_iconst (v := (1 : Int32)) hx hb dX11_keeps_66 (by decide) ?_
            refine lv_isub hx hb dX11_keeps_67 ?_
            refine lv_iload_n hx hb dX11_keeps_68 rfl (lv_at hl 3 rfl) ?_
            refine lv_bipush (v := (43 : Int32)) hx hb dX11_keeps_69 (by decide) ?_
            have hJ79 : ∀ (s2_79 : Int32) (H : Heap) (locs : List Loc) (ls : Array Slot), va_P D vwCl (wdX11_keeps cy b b_now b_imaged b_valueUp b_valueDown b_real b_brief b_order b_waits b_floats b_same b_upOf b_downOf b_tape b_open b_made b_paper b_reachUp b_reachDown b_reachHow b_reachFirst b_reachSecond b_begins b_carried c_hasImage c_above c_below c_orderMany c_waitMany c_seed c_size c_openMany_9 c_paperMany c_reachMany c_tape c_open_9 c_made_9 c_now_9) H → va_D A (wdX11_keeps cy b b_now b_imaged b_valueUp b_valueDown b_real b_brief b_order b_waits b_floats b_same b_upOf b_downOf b_tape b_open b_made b_paper b_reachUp b_reachDown b_reachHow b_reachFirst b_reachSecond b_begins b_carried c_hasImage c_above c_below c_orderMany c_waitMany c_seed c_size c_openMany_9 c_paperMany c_reachMany c_tape c_open_9 c_made_9 c_now_9) → va_S A s.heap H locs → lv_has ls 5 [(0, .ref b), (1, .int v1_9), (2, .int v2_9), (4, .int (0 : Int32))] → fX11_keeps_J79 v1_9 v2_9 c_openMany_9 c_open_9 c_made_9 c_now_9 (fX11_keeps_L9 fX11_keeps_J205 c_size c_tape n9) s2_79 = some res → W p l e rmX11_keeps s m args below meth c H locs 0 0 Q (F0 m 79 ls [.int s2_79, .int (c_openMany_9 - (1 : Int32)), .ref b_open]) := by
              intro s2_79 H locs ls hP hD hS hl h
              obtain ⟨hi79, h⟩ := zg_s h
              refine va_iast hx hb hK.1 hP hD hS 2 0 rfl rfl hi79 dX11_keeps_79 (fun H locs hP hD hS => ?_)
              have hP : va_P D vwCl (wdX11_keeps cy b b_now b_imaged b_valueUp b_valueDown b_real b_brief b_order b_waits b_floats b_same b_upOf b_downOf b_tape b_open b_made b_paper b_reachUp b_reachDown b_reachHow b_reachFirst b_reachSecond b_begins b_carried c_hasImage c_above c_below c_orderMany c_waitMany c_seed c_size c_openMany_9 c_paperMany c_reachMany c_tape (upd c_open_9 ((c_openMany_9 - (1 : Int32))).toNatClampNeg s2_79) c_made_9 c_now_9) H := hP
              have hD : va_D A (wdX11_keeps cy b b_now b_imaged b_valueUp b_valueDown b_real b_brief b_order b_waits b_floats b_same b_upOf b_downOf b_tape b_open b_made b_paper b_reachUp b_reachDown b_reachHow b_reachFirst b_reachSecond b_begins b_carried c_hasImage c_above c_below c_orderMany c_waitMany c_seed c_size c_openMany_9 c_paperMany c_reachMany c_tape (upd c_open_9 ((c_openMany_9 - (1 : Int32))).toNatClampNeg s2_79) c_made_9 c_now_9) := hD
              refine lv_goto (tgt := 191) hx hb dX11_keeps_80 (by decide) ?_
              exact hJ191 v1_9 (0 : Int32) c_openMany_9 (upd c_open_9 ((c_openMany_9 - (1 : Int32))).toNatClampNeg s2_79) c_made_9 c_now_9 _ _ _ hP hD hS (lv_sub hl [0, 1, 2, 3] rfl) h
            refine lv_icmp_ne (tgt := 78) hx hb dX11_keeps_71 (by decide) (fun hc71 => ?_) (fun hc71 => ?_)
            · replace h := zi_f hc71 h
              refine lv_iconst (v := (2 : Int32)) hx hb dX11_keeps_78 (by decide) ?_
              exact hJ79 (2 : Int32) _ _ _ hP hD hS (lv_sub hl [0, 1, 2, 4] rfl) h
            · replace h := zi_t hc71 h
              refine lv_iconst (v := (1 : Int32)) hx hb dX11_keeps_74 (by decide) ?_
              refine lv_goto (tgt := 79) hx hb dX11_keeps_75 (by decide) ?_
              exact hJ79 (1 : Int32) _ _ _ hP hD hS (lv_sub hl [0, 1, 2, 4] rfl) h
          refine lv_icmp_eq (tgt := 58) hx hb dX11_keeps_49 (by decide) (fun hc49 => ?_) (fun hc49 => ?_)
          · replace h := zi_t hc49 h
            exact hJ58 _ _ _ hP hD hS (lv_sub hl [2, 3, 4, 1, 0] rfl) h
          · replace h := zi_f hc49 h
            refine lv_iload_n hx hb dX11_keeps_52 rfl (lv_at hl 1 rfl) ?_
            refine lv_bipush (v := (124 : Int32)) hx hb dX11_keeps_53 (by decide) ?_
            refine lv_icmp_ne (tgt := 83) hx hb dX11_keeps_55 (by decide) (fun hc55 => ?_) (fun hc55 => ?_)
            · replace h := zi_f hc55 h
              refine lv_iload_n hx hb dX11_keeps_83 rfl (lv_at hl 1 rfl) ?_
              refine lv_bipush (v := (41 : Int32)) hx hb dX11_keeps_84 (by decide) ?_
              refine lv_icmp_ne (tgt := 167) hx hb dX11_keeps_86 (by decide) (fun hc86 => ?_) (fun hc86 => ?_)
              · replace h := zi_f hc86 h
                refine lv_aload_n hx hb dX11_keeps_167 rfl (lv_at hl 2 rfl) ?_
                refine lv_iconst (v := (0 : Int32)) hx hb dX11_keeps_168 (by decide) ?_
                refine lv_iload_n hx hb dX11_keeps_169 rfl (lv_at hl 1 rfl) ?_
                refine lv_bipush (v := (97 : Int32)) hx hb dX11_keeps_170 (by decide) ?_
                refine lv_isub hx hb dX11_keeps_172 ?_
                refine lv_iconst (v := (0 : Int32)) hx hb dX11_keeps_173 (by decide) ?_
                refine lv_iconst (v := (1 : Int32)) hx hb dX11_keeps_174 (by decide) ?_
                obtain ⟨r175, c_now_r175, hq175, h⟩ := zb2_s h
                refine zCi (r0 := r175) (w1 := (wdX11_kept cy b b_now b_imaged b_valueUp b_valueDown b_real b_brief b_order b_waits b_floats b_same b_upOf b_downOf b_tape b_open b_made b_paper b_reachUp b_reachDown b_reachHow b_reachFirst b_reachSecond b_begins b_carried c_hasImage c_above c_below c_orderMany c_waitMany c_seed c_size c_openMany_9 c_paperMany c_reachMany c_now_r175)) (ws' := (wdX11_keeps cy b b_now b_imaged b_valueUp b_valueDown b_real b_brief b_order b_waits b_floats b_same b_upOf b_downOf b_tape b_open b_made b_paper b_reachUp b_reachDown b_reachHow b_reachFirst b_reachSecond b_begins b_carried c_hasImage c_above c_below c_orderMany c_waitMany c_seed c_size c_openMany_9 c_paperMany c_reachMany c_tape c_open_9 c_made_9 c_now_r175)) (va_runV (As := [.int (0 : Int32), .int ((c_tape (v2_9).toNatClampNeg) - (97 : Int32)), .int (0 : Int32), .int (1 : Int32)]) (rest := []) ⟨hx, hb, hml, hown, hts⟩ (mX11_kept l D cy H.size b b_now b_imaged b_valueUp b_valueDown b_real b_brief b_order b_waits b_floats b_same b_upOf b_downOf b_tape b_open b_made b_paper b_reachUp b_reachDown b_reachHow b_reachFirst b_reachSecond b_begins b_carried c_hasImage c_above c_below c_orderMany c_waitMany c_seed c_size c_openMany_9 c_paperMany c_reachMany c_now_9 (0 : Int32) ((c_tape (v2_9).toNatClampNeg) - (97 : Int32)) (0 : Int32) (1 : Int32) (r175, c_now_r175) hq175) (cwV 4 hts gX11_keeps_X11_kept rfl rfl rfl ⟨rfl, cdX11_kept⟩ ⟨Nat.le_of_ble_eq_true rfl, Nat.le_of_ble_eq_true rfl⟩) (zPV hK hP hD [0, 4] rfl rfl (q0 := 0) (ci := 11) rfl rfl rfl) rfl rfl hl.1 rfl (lv_room (Nat.le_of_ble_eq_true rfl)) dX11_keeps_175 ⟨Nat.zero_le _, Nat.zero_le _⟩) hP hD hS hA [0, 4] [1, 2, 3] [3, 0, 1, 2, 4] rfl rfl rfl rfl (fun H locs hP hD hS => ?_)
                refine lv_istore (lv' := [(4, .int r175), (3, .int (c_tape (v2_9).toNatClampNeg)), (0, .ref b), (1, .int v1_9), (2, .int v2_9)]) hx hb dX11_keeps_178 hl (Nat.le_of_ble_eq_true rfl) rfl (fun ls hl => ?_)
                refine lv_aload_n hx hb dX11_keeps_180 rfl (lv_at hl 2 rfl) ?_
                refine va_get (D := D) (ci := 11) (v := .ref b_made) (C := RX11) (T := TX11) (N := 33) hx hb hts uX11_keeps_X11 hown hK.1 hP 0 rfl rfl 22 (by decide) (hts (.fieldLink RX11 57 "WishedResistorModel" "made" "[I") (List.mem_of_getElem? (i := 5) rfl)) (fun _ h9 => h9) rfl dX11_keeps_181 ?_
                refine lv_iload_n hx hb dX11_keeps_184 rfl (lv_at hl 3 rfl) ?_
                refine lv_iload hx hb dX11_keeps_185 (lv_at hl 0 rfl) ?_
                obtain ⟨hi187, h⟩ := zg_s h
                refine va_iast hx hb hK.1 hP hD hS 3 0 rfl rfl hi187 dX11_keeps_187 (fun H locs hP hD hS => ?_)
                have hP : va_P D vwCl (wdX11_keeps cy b b_now b_imaged b_valueUp b_valueDown b_real b_brief b_order b_waits b_floats b_same b_upOf b_downOf b_tape b_open b_made b_paper b_reachUp b_reachDown b_reachHow b_reachFirst b_reachSecond b_begins b_carried c_hasImage c_above c_below c_orderMany c_waitMany c_seed c_size c_openMany_9 c_paperMany c_reachMany c_tape c_open_9 (upd c_made_9 (v1_9).toNatClampNeg r175) c_now_r175) H := hP
                have hD : va_D A (wdX11_keeps cy b b_now b_imaged b_valueUp b_valueDown b_real b_brief b_order b_waits b_floats b_same b_upOf b_downOf b_tape b_open b_made b_paper b_reachUp b_reachDown b_reachHow b_reachFirst b_reachSecond b_begins b_carried c_hasImage c_above c_below c_orderMany c_waitMany c_seed c_size c_openMany_9 c_paperMany c_reachMany c_tape c_open_9 (upd c_made_9 (v1_9).toNatClampNeg r175) c_now_r175) := hD
                refine lv_iinc (v := (v1_9 + (1 : Int32))) (lv' := [(1, .int (v1_9 + (1 : Int32))), (4, .int r175), (3, .int (c_tape (v2_9).toNatClampNeg)), (0, .ref b), (2, .int v2_9)]) hx hb dX11_keeps_188 hl (k := 3) rfl (by rfl) (Nat.le_of_ble_eq_true rfl) rfl (fun ls hl => ?_)
                exact hJ191 (v1_9 + (1 : Int32)) r175 c_openMany_9 c_open_9 (upd c_made_9 (v1_9).toNatClampNeg r175) c_now_r175 _ _ _ hP hD hS (lv_sub hl [3, 0, 4, 1] rfl) h
              · replace h := zi_t hc86 h
                refine lv_aload_n hx hb dX11_keeps_89 rfl (lv_at hl 2 rfl) ?_
                refine lv_dup hx hb dX11_keeps_90 rfl ?_
                refine va_get (D := D) (ci := 11) (v := .int c_openMany_9) (C := RX11) (T := TX11) (N := 33) hx hb hts uX11_keeps_X11 hown hK.1 hP 0 rfl rfl 21 (by decide) (hts (.fieldLink RX11 233 "WishedResistorModel" "openMany" "I") (List.mem_of_getElem? (i := 1) rfl)) (fun _ h9 => h9) rfl dX11_keeps_91 ?_
                refine lv_iconst (v := (1 : Int32)) hx hb dX11_keeps_94 (by decide) ?_
                refine lv_isub hx hb dX11_keeps_95 ?_
                refine va_put (D := D) (ci := 11) (v := .int (c_openMany_9 - (1 : Int32))) (ty := .int) (C := RX11) (T := TX11) (N := 33) hx hb hts uX11_keeps_X11 tyX11 tyX11_ok nmX11 hown hK.1 hP hD hS 0 rfl rfl 21 (by decide) (hts (.fieldLink RX11 233 "WishedResistorModel" "openMany" "I") (List.mem_of_getElem? (i := 1) rfl)) (fun _ h9 => h9) rfl (by decide +kernel) rfl rfl (Nat.le_of_ble_eq_true rfl) dX11_keeps_96 (fun H locs hP hD hS => ?_)
                have hP : va_P D vwCl (wdX11_keeps cy b b_now b_imaged b_valueUp b_valueDown b_real b_brief b_order b_waits b_floats b_same b_upOf b_downOf b_tape b_open b_made b_paper b_reachUp b_reachDown b_reachHow b_reachFirst b_reachSecond b_begins b_carried c_hasImage c_above c_below c_orderMany c_waitMany c_seed c_size (c_openMany_9 - (1 : Int32)) c_paperMany c_reachMany c_tape c_open_9 c_made_9 c_now_9) H := hP
                have hD : va_D A (wdX11_keeps cy b b_now b_imaged b_valueUp b_valueDown b_real b_brief b_order b_waits b_floats b_same b_upOf b_downOf b_tape b_open b_made b_paper b_reachUp b_reachDown b_reachHow b_reachFirst b_reachSecond b_begins b_carried c_hasImage c_above c_below c_orderMany c_waitMany c_seed c_size (c_openMany_9 - (1 : Int32)) c_paperMany c_reachMany c_tape c_open_9 c_made_9 c_now_9) := hD
                refine lv_iinc (v := (v1_9 + (-1 : Int32))) (lv' := [(1, .int (v1_9 + (-1 : Int32))), (4, .int (0 : Int32)), (3, .int (c_tape (v2_9).toNatClampNeg)), (0, .ref b), (2, .int v2_9)]) hx hb dX11_keeps_99 hl (k := 3) rfl (by rw [show (Int32.ofInt (-1)) = (-1 : Int32) from by decide]) (Nat.le_of_ble_eq_true rfl) rfl (fun ls hl => ?_)
                refine lv_aload_n hx hb dX11_keeps_102 rfl (lv_at hl 3 rfl) ?_
                refine lv_aload_n hx hb dX11_keeps_103 rfl (lv_at hl 3 rfl) ?_
                refine va_get (D := D) (ci := 11) (v := .ref b_open) (C := RX11) (T := TX11) (N := 33) hx hb hts uX11_keeps_X11 hown hK.1 hP 0 rfl rfl 20 (by decide) (hts (.fieldLink RX11 54 "WishedResistorModel" "open" "[I") (List.mem_of_getElem? (i := 4) rfl)) (fun _ h9 => h9) rfl dX11_keeps_104 ?_
                refine lv_aload_n hx hb dX11_keeps_107 rfl (lv_at hl 3 rfl) ?_
                refine va_get (D := D) (ci := 11) (v := .int (c_openMany_9 - (1 : Int32))) (C := RX11) (T := TX11) (N := 33) hx hb hts uX11_keeps_X11 hown hK.1 hP 0 rfl rfl 21 (by decide) (hts (.fieldLink RX11 233 "WishedResistorModel" "openMany" "I") (List.mem_of_getElem? (i := 1) rfl)) (fun _ h9 => h9) rfl dX11_keeps_108 ?_
                obtain ⟨hi111, h⟩ := zg_s h
                refine va_iald hx hb hK.1 hP 2 0 rfl rfl hi111 dX11_keeps_111 ?_
                refine lv_aload_n hx hb dX11_keeps_112 rfl (lv_at hl 3 rfl) ?_
                refine va_get (D := D) (ci := 11) (v := .ref b_made) (C := RX11) (T := TX11) (N := 33) hx hb hts uX11_keeps_X11 hown hK.1 hP 0 rfl rfl 22 (by decide) (hts (.fieldLink RX11 57 "WishedResistorModel" "made" "[I") (List.mem_of_getElem? (i := 5) rfl)) (fun _ h9 => h9) rfl dX11_keeps_113 ?_
                refine lv_iload_n hx hb dX11_keeps_116 rfl (lv_at hl 0 rfl) ?_
                refine lv_iconst (v := (1 : Int32)) hx hb dX11_keeps_117 (by decide) ?_
                refine lv_isub hx hb dX11_keeps_118 ?_
                obtain ⟨hi119, h⟩ := zg_s h
                refine va_iald hx hb hK.1 hP 3 0 rfl rfl hi119 dX11_keeps_119 ?_
                refine lv_aload_n hx hb dX11_keeps_120 rfl (lv_at hl 3 rfl) ?_
                refine va_get (D := D) (ci := 11) (v := .ref b_made) (C := RX11) (T := TX11) (N := 33) hx hb hts uX11_keeps_X11 hown hK.1 hP 0 rfl rfl 22 (by decide) (hts (.fieldLink RX11 57 "WishedResistorModel" "made" "[I") (List.mem_of_getElem? (i := 5) rfl)) (fun _ h9 => h9) rfl dX11_keeps_121 ?_
                refine lv_iload_n hx hb dX11_keeps_124 rfl (lv_at hl 0 rfl) ?_
                obtain ⟨hi125, h⟩ := zg_s h
                refine va_iald hx hb hK.1 hP 3 0 rfl rfl hi125 dX11_keeps_125 ?_
                refine lv_aload_n hx hb dX11_keeps_126 rfl (lv_at hl 3 rfl) ?_
                refine lv_aload_n hx hb dX11_keeps_127 rfl (lv_at hl 3 rfl) ?_
                refine va_get (D := D) (ci := 11) (v := .ref b_made) (C := RX11) (T := TX11) (N := 33) hx hb hts uX11_keeps_X11 hown hK.1 hP 0 rfl rfl 22 (by decide) (hts (.fieldLink RX11 57 "WishedResistorModel" "made" "[I") (List.mem_of_getElem? (i := 5) rfl)) (fun _ h9 => h9) rfl dX11_keeps_128 ?_
                refine lv_iload_n hx hb dX11_keeps_131 rfl (lv_at hl 0 rfl) ?_
                refine lv_iconst (v := (1 : Int32)) hx hb dX11_keeps_132 (by decide) ?_
                refine lv_isub hx hb dX11_keeps_133 ?_
                obtain ⟨hi134, h⟩ := zg_s h
                refine va_iald hx hb hK.1 hP 3 0 rfl rfl hi134 dX11_keeps_134 ?_
                obtain ⟨r135, hq135, h⟩ := zb1_s h
                refine zCi (r0 := r135) (w1 := (wdX11_partsOf cy b b_now b_imaged b_valueUp b_valueDown b_real b_brief b_order b_waits b_floats b_same b_upOf b_downOf b_tape b_open b_made b_paper b_reachUp b_reachDown b_reachHow b_reachFirst b_reachSecond b_begins b_carried c_hasImage c_above c_below c_orderMany c_waitMany c_seed c_size (c_openMany_9 - (1 : Int32)) c_paperMany c_reachMany c_now_9)) (ws' := (wdX11_keeps cy b b_now b_imaged b_valueUp b_valueDown b_real b_brief b_order b_waits b_floats b_same b_upOf b_downOf b_tape b_open b_made b_paper b_reachUp b_reachDown b_reachHow b_reachFirst b_reachSecond b_begins b_carried c_hasImage c_above c_below c_orderMany c_waitMany c_seed c_size (c_openMany_9 - (1 : Int32)) c_paperMany c_reachMany c_tape c_open_9 c_made_9 c_now_9)) (va_runV (As := [.int (c_made_9 (((v1_9 + (-1 : Int32)) - (1 : Int32))).toNatClampNeg)]) (rest := [.int (c_made_9 ((v1_9 + (-1 : Int32))).toNatClampNeg), .int (c_made_9 (((v1_9 + (-1 : Int32)) - (1 : Int32))).toNatClampNeg), .int (c_open_9 ((c_openMany_9 - (1 : Int32))).toNatClampNeg), .ref b]) ⟨hx, hb, hml, hown, hts⟩ (mX11_partsOf l D cy H.size b b_now b_imaged b_valueUp b_valueDown b_real b_brief b_order b_waits b_floats b_same b_upOf b_downOf b_tape b_open b_made b_paper b_reachUp b_reachDown b_reachHow b_reachFirst b_reachSecond b_begins b_carried c_hasImage c_above c_below c_orderMany c_waitMany c_seed c_size (c_openMany_9 - (1 : Int32)) c_paperMany c_reachMany c_now_9 (c_made_9 (((v1_9 + (-1 : Int32)) - (1 : Int32))).toNatClampNeg) (r135) hq135) (cwV 1 hts gX11_keeps_X11_partsOf rfl rfl rfl ⟨rfl, cdX11_partsOf⟩ ⟨Nat.le_of_ble_eq_true rfl, Nat.le_of_ble_eq_true rfl⟩) (zPV hK hP hD [0, 4] rfl rfl (q0 := 0) (ci := 11) rfl rfl rfl) rfl rfl hl.1 rfl (lv_room (Nat.le_of_ble_eq_true rfl)) dX11_keeps_135 ⟨Nat.zero_le _, Nat.zero_le _⟩) hP hD hS hA [0, 4] [1, 2, 3] [3, 0, 1, 2, 4] rfl rfl rfl rfl (fun H locs hP hD hS => ?_)
                refine lv_aload_n hx hb dX11_keeps_138 rfl (lv_at hl 3 rfl) ?_
                refine lv_aload_n hx hb dX11_keeps_139 rfl (lv_at hl 3 rfl) ?_
                refine va_get (D := D) (ci := 11) (v := .ref b_made) (C := RX11) (T := TX11) (N := 33) hx hb hts uX11_keeps_X11 hown hK.1 hP 0 rfl rfl 22 (by decide) (hts (.fieldLink RX11 57 "WishedResistorModel" "made" "[I") (List.mem_of_getElem? (i := 5) rfl)) (fun _ h9 => h9) rfl dX11_keeps_140 ?_
                refine lv_iload_n hx hb dX11_keeps_143 rfl (lv_at hl 0 rfl) ?_
                obtain ⟨hi144, h⟩ := zg_s h
                refine va_iald hx hb hK.1 hP 3 0 rfl rfl hi144 dX11_keeps_144 ?_
                obtain ⟨r145, hq145, h⟩ := zb1_s h
                refine zCi (r0 := r145) (w1 := (wdX11_partsOf cy b b_now b_imaged b_valueUp b_valueDown b_real b_brief b_order b_waits b_floats b_same b_upOf b_downOf b_tape b_open b_made b_paper b_reachUp b_reachDown b_reachHow b_reachFirst b_reachSecond b_begins b_carried c_hasImage c_above c_below c_orderMany c_waitMany c_seed c_size (c_openMany_9 - (1 : Int32)) c_paperMany c_reachMany c_now_9)) (ws' := (wdX11_keeps cy b b_now b_imaged b_valueUp b_valueDown b_real b_brief b_order b_waits b_floats b_same b_upOf b_downOf b_tape b_open b_made b_paper b_reachUp b_reachDown b_reachHow b_reachFirst b_reachSecond b_begins b_carried c_hasImage c_above c_below c_orderMany c_waitMany c_seed c_size (c_openMany_9 - (1 : Int32)) c_paperMany c_reachMany c_tape c_open_9 c_made_9 c_now_9)) (va_runV (As := [.int (c_made_9 ((v1_9 + (-1 : Int32))).toNatClampNeg)]) (rest := [.int r135, .int (c_made_9 ((v1_9 + (-1 : Int32))).toNatClampNeg), .int (c_made_9 (((v1_9 + (-1 : Int32)) - (1 : Int32))).toNatClampNeg), .int (c_open_9 ((c_openMany_9 - (1 : Int32))).toNatClampNeg), .ref b]) ⟨hx, hb, hml, hown, hts⟩ (mX11_partsOf l D cy H.size b b_now b_imaged b_valueUp b_valueDown b_real b_brief b_order b_waits b_floats b_same b_upOf b_downOf b_tape b_open b_made b_paper b_reachUp b_reachDown b_reachHow b_reachFirst b_reachSecond b_begins b_carried c_hasImage c_above c_below c_orderMany c_waitMany c_seed c_size (c_openMany_9 - (1 : Int32)) c_paperMany c_reachMany c_now_9 (c_made_9 ((v1_9 + (-1 : Int32))).toNatClampNeg) (r145) hq145) (cwV 1 hts gX11_keeps_X11_partsOf rfl rfl rfl ⟨rfl, cdX11_partsOf⟩ ⟨Nat.le_of_ble_eq_true rfl, Nat.le_of_ble_eq_true rfl⟩) (zPV hK hP hD [0, 4] rfl rfl (q0 := 0) (ci := 11) rfl rfl rfl) rfl rfl hl.1 rfl (lv_room (Nat.le_of_ble_eq_true rfl)) dX11_keeps_145 ⟨Nat.zero_le _, Nat.zero_le _⟩) hP hD hS hA [0, 4] [1, 2, 3] [3, 0, 1, 2, 4] rfl rfl rfl rfl (fun H locs hP hD hS => ?_)
                refine lv_iadd hx hb dX11_keeps_148 ?_
                obtain ⟨r149, c_now_r149, hq149, h⟩ := zb2_s h
                refine zCi (r0 := r149) (w1 := (wdX11_kept cy b b_now b_imaged b_valueUp b_valueDown b_real b_brief b_order b_waits b_floats b_same b_upOf b_downOf b_tape b_open b_made b_paper b_reachUp b_reachDown b_reachHow b_reachFirst b_reachSecond b_begins b_carried c_hasImage c_above c_below c_orderMany c_waitMany c_seed c_size (c_openMany_9 - (1 : Int32)) c_paperMany c_reachMany c_now_r149)) (ws' := (wdX11_keeps cy b b_now b_imaged b_valueUp b_valueDown b_real b_brief b_order b_waits b_floats b_same b_upOf b_downOf b_tape b_open b_made b_paper b_reachUp b_reachDown b_reachHow b_reachFirst b_reachSecond b_begins b_carried c_hasImage c_above c_below c_orderMany c_waitMany c_seed c_size (c_openMany_9 - (1 : Int32)) c_paperMany c_reachMany c_tape c_open_9 c_made_9 c_now_r149)) (va_runV (As := [.int (c_open_9 ((c_openMany_9 - (1 : Int32))).toNatClampNeg), .int (c_made_9 (((v1_9 + (-1 : Int32)) - (1 : Int32))).toNatClampNeg), .int (c_made_9 ((v1_9 + (-1 : Int32))).toNatClampNeg), .int (r135 + r145)]) (rest := []) ⟨hx, hb, hml, hown, hts⟩ (mX11_kept l D cy H.size b b_now b_imaged b_valueUp b_valueDown b_real b_brief b_order b_waits b_floats b_same b_upOf b_downOf b_tape b_open b_made b_paper b_reachUp b_reachDown b_reachHow b_reachFirst b_reachSecond b_begins b_carried c_hasImage c_above c_below c_orderMany c_waitMany c_seed c_size (c_openMany_9 - (1 : Int32)) c_paperMany c_reachMany c_now_9 (c_open_9 ((c_openMany_9 - (1 : Int32))).toNatClampNeg) (c_made_9 (((v1_9 + (-1 : Int32)) - (1 : Int32))).toNatClampNeg) (c_made_9 ((v1_9 + (-1 : Int32))).toNatClampNeg) (r135 + r145) (r149, c_now_r149) hq149) (cwV 4 hts gX11_keeps_X11_kept rfl rfl rfl ⟨rfl, cdX11_kept⟩ ⟨Nat.le_of_ble_eq_true rfl, Nat.le_of_ble_eq_true rfl⟩) (zPV hK hP hD [0, 4] rfl rfl (q0 := 0) (ci := 11) rfl rfl rfl) rfl rfl hl.1 rfl (lv_room (Nat.le_of_ble_eq_true rfl)) dX11_keeps_149 ⟨Nat.zero_le _, Nat.zero_le _⟩) hP hD hS hA [0, 4] [1, 2, 3] [3, 0, 1, 2, 4] rfl rfl rfl rfl (fun H locs hP hD hS => ?_)
                refine lv_istore (lv' := [(4, .int r149), (1, .int (v1_9 + (-1 : Int32))), (3, .int (c_tape (v2_9).toNatClampNeg)), (0, .ref b), (2, .int v2_9)]) hx hb dX11_keeps_152 hl (Nat.le_of_ble_eq_true rfl) rfl (fun ls hl => ?_)
                refine lv_aload_n hx hb dX11_keeps_154 rfl (lv_at hl 3 rfl) ?_
                refine va_get (D := D) (ci := 11) (v := .ref b_made) (C := RX11) (T := TX11) (N := 33) hx hb hts uX11_keeps_X11 hown hK.1 hP 0 rfl rfl 22 (by decide) (hts (.fieldLink RX11 57 "WishedResistorModel" "made" "[I") (List.mem_of_getElem? (i := 5) rfl)) (fun _ h9 => h9) rfl dX11_keeps_155 ?_
                refine lv_iload_n hx hb dX11_keeps_158 rfl (lv_at hl 1 rfl) ?_
                refine lv_iconst (v := (1 : Int32)) hx hb dX11_keeps_159 (by decide) ?_
                refine lv_isub hx hb dX11_keeps_160 ?_
                refine lv_iload hx hb dX11_keeps_161 (lv_at hl 0 rfl) ?_
                obtain ⟨hi163, h⟩ := zg_s h
                refine va_iast hx hb hK.1 hP hD hS 3 0 rfl rfl hi163 dX11_keeps_163 (fun H locs hP hD hS => ?_)
                have hP : va_P D vwCl (wdX11_keeps cy b b_now b_imaged b_valueUp b_valueDown b_real b_brief b_order b_waits b_floats b_same b_upOf b_downOf b_tape b_open b_made b_paper b_reachUp b_reachDown b_reachHow b_reachFirst b_reachSecond b_begins b_carried c_hasImage c_above c_below c_orderMany c_waitMany c_seed c_size (c_openMany_9 - (1 : Int32)) c_paperMany c_reachMany c_tape c_open_9 (upd c_made_9 (((v1_9 + (-1 : Int32)) - (1 : Int32))).toNatClampNeg r149) c_now_r149) H := hP
                have hD : va_D A (wdX11_keeps cy b b_now b_imaged b_valueUp b_valueDown b_real b_brief b_order b_waits b_floats b_same b_upOf b_downOf b_tape b_open b_made b_paper b_reachUp b_reachDown b_reachHow b_reachFirst b_reachSecond b_begins b_carried c_hasImage c_above c_below c_orderMany c_waitMany c_seed c_size (c_openMany_9 - (1 : Int32)) c_paperMany c_reachMany c_tape c_open_9 (upd c_made_9 (((v1_9 + (-1 : Int32)) - (1 : Int32))).toNatClampNeg r149) c_now_r149) := hD
                refine lv_goto (tgt := 191) hx hb dX11_keeps_164 (by decide) ?_
                exact hJ191 (v1_9 + (-1 : Int32)) r149 (c_openMany_9 - (1 : Int32)) c_open_9 (upd c_made_9 (((v1_9 + (-1 : Int32)) - (1 : Int32))).toNatClampNeg r149) c_now_r149 _ _ _ hP hD hS (lv_sub hl [3, 1, 4, 0] rfl) h
            · replace h := zi_t hc55 h
              exact hJ58 _ _ _ hP hD hS (lv_sub hl [2, 3, 4, 1, 0] rfl) h
        · replace h := zi_t hc30 h
          refine lv_aload_n hx hb dX11_keeps_33 rfl (lv_at hl 2 rfl) ?_
          refine lv_dup hx hb dX11_keeps_34 rfl ?_
          refine va_get (D := D) (ci := 11) (v := .int c_openMany_9) (C := RX11) (T := TX11) (N := 33) hx hb hts uX11_keeps_X11 hown hK.1 hP 0 rfl rfl 21 (by decide) (hts (.fieldLink RX11 233 "WishedResistorModel" "openMany" "I") (List.mem_of_getElem? (i := 1) rfl)) (fun _ h9 => h9) rfl dX11_keeps_35 ?_
          refine lv_iconst (v := (1 : Int32)) hx hb dX11_keeps_38 (by decide) ?_
          refine lv_iadd hx hb dX11_keeps_39 ?_
          refine va_put (D := D) (ci := 11) (v := .int (c_openMany_9 + (1 : Int32))) (ty := .int) (C := RX11) (T := TX11) (N := 33) hx hb hts uX11_keeps_X11 tyX11 tyX11_ok nmX11 hown hK.1 hP hD hS 0 rfl rfl 21 (by decide) (hts (.fieldLink RX11 233 "WishedResistorModel" "openMany" "I") (List.mem_of_getElem? (i := 1) rfl)) (fun _ h9 => h9) rfl (by decide +kernel) rfl rfl (Nat.le_of_ble_eq_true rfl) dX11_keeps_40 (fun H locs hP hD hS => ?_)
          have hP : va_P D vwCl (wdX11_keeps cy b b_now b_imaged b_valueUp b_valueDown b_real b_brief b_order b_waits b_floats b_same b_upOf b_downOf b_tape b_open b_made b_paper b_reachUp b_reachDown b_reachHow b_reachFirst b_reachSecond b_begins b_carried c_hasImage c_above c_below c_orderMany c_waitMany c_seed c_size (c_openMany_9 + (1 : Int32)) c_paperMany c_reachMany c_tape c_open_9 c_made_9 c_now_9) H := hP
          have hD : va_D A (wdX11_keeps cy b b_now b_imaged b_valueUp b_valueDown b_real b_brief b_order b_waits b_floats b_same b_upOf b_downOf b_tape b_open b_made b_paper b_reachUp b_reachDown b_reachHow b_reachFirst b_reachSecond b_begins b_carried c_hasImage c_above c_below c_orderMany c_waitMany c_seed c_size (c_openMany_9 + (1 : Int32)) c_paperMany c_reachMany c_tape c_open_9 c_made_9 c_now_9) := hD
          refine lv_goto (tgt := 191) hx hb dX11_keeps_43 (by decide) ?_
          exact hJ191 v1_9 (0 : Int32) (c_openMany_9 + (1 : Int32)) c_open_9 c_made_9 c_now_9 _ _ _ hP hD hS (lv_sub hl [2, 3, 4, 0] rfl) h
  exact hL9 5000 (0 : Int32) (0 : Int32) (0 : Int32) c_open c_made c_now _ _ _ hP hD hS (lv_sub hl [2, 1, 0] rfl) h
