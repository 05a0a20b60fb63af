theorem uX11_between0_X11 : ∀ w ∈ u_ws RX11 TX11 33, w ∈ wsX11_between0 := fun w h => (List.mem_cons_of_mem _ (List.mem_append_right _ h))
abbrev wdX11_between0 (cy : Nat → ClassId) (b b_now b_imaged b_valueUp b_valueDown b_real b_brief b_order b_waits b_floats b_same b_upOf b_downOf b_tape b_open b_made b_paper b_reachUp b_reachDown b_reachHow b_reachFirst b_reachSecond b_begins b_carried : Nat) (c_hasImage : Int32) (c_above c_below : Int64) (c_orderMany c_waitMany c_seed c_size c_openMany c_paperMany c_reachMany : Int32) (c_now : Nat → Int32) : va_W := [(b, .inr (11, [.ref b_now, .ref b_imaged, .int c_hasImage, .long c_above, .long c_below, .ref b_valueUp, .ref b_valueDown, .ref b_real, .ref b_brief, .ref b_order, .int c_orderMany, .ref b_waits, .int c_waitMany, .ref b_floats, .int c_seed, .ref b_same, .ref b_upOf, .ref b_downOf, .ref b_tape, .int c_size, .ref b_open, .int c_openMany, .ref b_made, .ref b_paper, .int c_paperMany, .ref b_reachUp, .ref b_reachDown, .ref b_reachHow, .ref b_reachFirst, .ref b_reachSecond, .ref b_begins, .int c_reachMany, .ref b_carried])), (b_now, .inl (cy 0, 261, .inl c_now))]
abbrev rmX11_between0 : Room := { frames := 2, cells := 0, slots := 0, locals := 55 }
theorem cdX11_between0 : (yX11_between0).cls ≠ "java/lang/invoke/MethodHandle" ∧ (yX11_between0).cls ≠ "java/lang/invoke/VarHandle" ∧ (parseMethodDescriptor (yX11_between0).desc).map (fun d => d.parameters.length) = some 3 := by decide +kernel
def fX11_between0_J43 (c_above c_below s1_33 : Int64) (s2_43 : Int64) : Option (Int64 × Int64) :=
  zb2 (fX11_becomes s1_33 s2_43 c_above c_below) (fun c_above_r43 c_below_r43 => some (c_above_r43, c_below_r43))
def fX11_between0_J33 (c_above c_below : Int64) (p1 p2 : Int32) (s1_33 : Int64) : Option (Int64 × Int64) :=
  if p1 = p2 then (fX11_between0_J43 c_above c_below s1_33 (1 : Int64)) else (fX11_between0_J43 c_above c_below s1_33 (0 : Int64))
def fX11_between0_J22 (c_above c_below : Int64) (p1 p2 : Int32)  : Option (Int64 × Int64) :=
  if p1 = p2 then (fX11_between0_J33 c_above c_below p1 p2 (0 : Int64)) else (fX11_between0_J33 c_above c_below p1 p2 (1 : Int64))
def fX11_between0_J290  (v7_290 v9_290 : Int64) : Option (Int64 × Int64) :=
  zb1 (fX11_divisor v9_290 v7_290) (fun r294 => zg (¬ r294 = 0) (zg (¬ r294 = 0) (some ((v9_290 / r294), (v7_290 / r294)))))
def fX11_between0_J260 (c_now : Nat → Int32) (v5_117 : Int32) (v7_133 v9_133 : Int64) (v11_133 : Int32) (rec133 : Int64 → Int64 → Int32 → Option (Int64 × Int64)) (s1_219 : Int64) (s0_260 : Int32) : Option (Int64 × Int64) :=
  if s0_260 = 0 then (rec133 (v7_133 + s1_219) (v9_133 + (0 : Int64)) (v11_133 + (1 : Int32))) else (zb1 (fX11_othersOf v5_117 v11_133 c_now) (fun r274 => rec133 (v7_133 + s1_219) (v9_133 + r274) (v11_133 + (1 : Int32))))
def fX11_between0_J219 (c_now : Nat → Int32) (p2 r3 v5_117 r119 : Int32) (v7_133 v9_133 : Int64) (v11_133 : Int32) (rec133 : Int64 → Int64 → Int32 → Option (Int64 × Int64)) (r153 s0_187 : Int32) (s1_219 : Int64) : Option (Int64 × Int64) :=
  if r153 = (r119 - (2 : Int32)) then (if ((s0_187 >>> (p2 &&& 31)) &&& (1 : Int32)) = 0 then (zb1 (fX11_comesTo p2 v11_133 c_now) (fun r246 => if (s0_187 ||| r246) = r3 then (fX11_between0_J260 c_now v5_117 v7_133 v9_133 v11_133 rec133 s1_219 (1 : Int32)) else (fX11_between0_J260 c_now v5_117 v7_133 v9_133 v11_133 rec133 s1_219 (0 : Int32)))) else (fX11_between0_J260 c_now v5_117 v7_133 v9_133 v11_133 rec133 s1_219 (0 : Int32))) else (fX11_between0_J260 c_now v5_117 v7_133 v9_133 v11_133 rec133 s1_219 (0 : Int32))
def fX11_between0_J187 (c_now : Nat → Int32) (p2 r3 v5_117 r119 : Int32) (v7_133 v9_133 : Int64) (v11_133 : Int32) (rec133 : Int64 → Int64 → Int32 → Option (Int64 × Int64)) (r153 : Int32) (s0_187 : Int32) : Option (Int64 × Int64) :=
  if r153 = (r119 - (1 : Int32)) then (if s0_187 = r3 then (zb1 (fX11_othersOf v5_117 v11_133 c_now) (fun r212 => fX11_between0_J219 c_now p2 r3 v5_117 r119 v7_133 v9_133 v11_133 rec133 r153 s0_187 r212)) else (fX11_between0_J219 c_now p2 r3 v5_117 r119 v7_133 v9_133 v11_133 rec133 r153 s0_187 (0 : Int64))) else (fX11_between0_J219 c_now p2 r3 v5_117 r119 v7_133 v9_133 v11_133 rec133 r153 s0_187 (0 : Int64))
def fX11_between0_J176 (c_now : Nat → Int32) (p1 p2 r3 v5_117 r119 : Int32) (v7_133 v9_133 : Int64) (v11_133 : Int32) (rec133 : Int64 → Int64 → Int32 → Option (Int64 × Int64)) (r153 : Int32)  : Option (Int64 × Int64) :=
  zb1 (fX11_comesTo p1 v11_133 c_now) (fun r180 => fX11_between0_J187 c_now p2 r3 v5_117 r119 v7_133 v9_133 v11_133 rec133 r153 r180)
def fX11_between0_L133 (k290_133 : Int64 → Int64 → Option (Int64 × Int64)) (c_now : Nat → Int32) (p1 p2 r3 v5_117 r119 : Int32) : Nat → Int64 → Int64 → Int32 → Option (Int64 × Int64) :=
  zl3 (fun rec133 v7_133 v9_133 v11_133 => if (256 : Int32) ≤ v11_133 then (k290_133 v7_133 v9_133) else (if (v11_133 &&& (v5_117 ^^^ (-1 : Int32))) = 0 then (zb1 (fX11_countOf v11_133) (fun r153 => if r153 = (r119 - (1 : Int32)) then (fX11_between0_J176 c_now p1 p2 r3 v5_117 r119 v7_133 v9_133 v11_133 rec133 r153) else (if r153 = (r119 - (2 : Int32)) then (fX11_between0_J176 c_now p1 p2 r3 v5_117 r119 v7_133 v9_133 v11_133 rec133 r153) else (fX11_between0_J187 c_now p2 r3 v5_117 r119 v7_133 v9_133 v11_133 rec133 r153 (0 : Int32))))) else (rec133 v7_133 v9_133 (v11_133 + (1 : Int32)))))
def fX11_between0_J117 (c_now : Nat → Int32) (p1 p2 r3 : Int32) (v5_117 : Int32) : Option (Int64 × Int64) :=
  zb1 (fX11_countOf r3) (fun r119 => fX11_between0_L133 fX11_between0_J290 c_now p1 p2 r3 v5_117 r119 5000 (0 : Int64) (0 : Int64) (0 : Int32))
def fX11_between0_L53 (k117_53 : Int32 → Option (Int64 × Int64)) (c_now : Nat → Int32) (p3 r3 : Int32) : Nat → Int32 → Int32 → Option (Int64 × Int64) :=
  zl2 (fun rec53 v5_53 v6_53 => if (c_now ((170 : Int32)).toNatClampNeg) ≤ v6_53 then (k117_53 v5_53) else (if ((p3 >>> (v6_53 &&& 31)) &&& (1 : Int32)) = (1 : Int32) then (zg (zin ((171 : Int32) + ((3 : Int32) * v6_53)) 261) (if ((r3 >>> ((c_now (((171 : Int32) + ((3 : Int32) * v6_53))).toNatClampNeg) &&& 31)) &&& (1 : Int32)) = (1 : Int32) then (rec53 (v5_53 ||| ((1 : Int32) <<< (v6_53 &&& 31))) (v6_53 + (1 : Int32))) else (rec53 (v5_53 ||| (0 : Int32)) (v6_53 + (1 : Int32))))) else (rec53 (v5_53 ||| (0 : Int32)) (v6_53 + (1 : Int32)))))
def fX11_between0 (p1 p2 p3 : Int32) (c_above c_below : Int64) (c_now : Nat → Int32) : Option (Int64 × Int64) :=
  zb1 (fX11_comesTo p1 p3 c_now) (fun r3 => if p1 = p2 then (fX11_between0_J22 c_above c_below p1 p2) else (if ((r3 >>> (p2 &&& 31)) &&& (1 : Int32)) = 0 then (fX11_between0_J22 c_above c_below p1 p2) else (fX11_between0_L53 (fX11_between0_J117 c_now p1 p2 r3) c_now p3 r3 5000 (0 : Int32) (0 : Int32))))
set_option maxHeartbeats 4000000 in
set_option maxRecDepth 100000 in
theorem mX11_between0 (l : Launch) (D : va_G) (cy : Nat → ClassId) (sz : Nat) (b b_now b_imaged b_valueUp b_valueDown b_real b_brief b_order b_waits b_floats b_same b_upOf b_downOf b_tape b_open b_made b_paper b_reachUp b_reachDown b_reachHow b_reachFirst b_reachSecond b_begins b_carried : Nat) (c_hasImage : Int32) (c_above c_below : Int64) (c_orderMany c_waitMany c_seed c_size c_openMany c_paperMany c_reachMany : Int32) (c_now : Nat → Int32) (p1 p2 p3 : Int32) (res : (Int64 × Int64)) (h : fX11_between0 p1 p2 p3 c_above c_below c_now = some res) : zMv l yX11_between0 wsX11_between0 rmX11_between0 [.ref b, .int p1, .int p2, .int p3] D cy (wdX11_between0 cy b b_now b_imaged b_valueUp b_valueDown b_real b_brief b_order b_waits b_floats b_same b_upOf b_downOf b_tape b_open b_made b_paper b_reachUp b_reachDown b_reachHow b_reachFirst b_reachSecond b_begins b_carried c_hasImage c_above c_below c_orderMany c_waitMany c_seed c_size c_openMany c_paperMany c_reachMany c_now) sz  ((fun (o : (Int64 × Int64)) => (wdX11_between0 cy b b_now b_imaged b_valueUp b_valueDown b_real b_brief b_order b_waits b_floats b_same b_upOf b_downOf b_tape b_open b_made b_paper b_reachUp b_reachDown b_reachHow b_reachFirst b_reachSecond b_begins b_carried c_hasImage (o.1) (o.2) c_orderMany c_waitMany c_seed c_size c_openMany c_paperMany c_reachMany c_now)) res) := by
  refine zOfv (res := res) (Wf := (fun (o : (Int64 × Int64)) => (wdX11_between0 cy b b_now b_imaged b_valueUp b_valueDown b_real b_brief b_order b_waits b_floats b_same b_upOf b_downOf b_tape b_open b_made b_paper b_reachUp b_reachDown b_reachHow b_reachFirst b_reachSecond b_begins b_carried c_hasImage (o.1) (o.2) c_orderMany c_waitMany c_seed c_size c_openMany c_paperMany c_reachMany c_now))) (by decide +kernel) rfl (Nat.le_of_ble_eq_true rfl) ?_
  intro p e s m args below meth c A ls Q hx hb hml hts hown hP hK hD hA hS hl hret
  have hown : s.vm.findClass RX11 = some m.cls := hown
  have hl : lv_has ls 15 [(0, .ref b), (1, .int p1), (2, .int p2), (3, .int p3)] := hl
  refine lv_aload_n hx hb dX11_between0_0 rfl (lv_at hl 0 rfl) ?_
  refine lv_iload_n hx hb dX11_between0_1 rfl (lv_at hl 1 rfl) ?_
  refine lv_iload_n hx hb dX11_between0_2 rfl (lv_at hl 3 rfl) ?_
  obtain ⟨r3, hq3, h⟩ := zb1_s h
  refine zCi (r0 := r3) (w1 := (wdX11_comesTo cy b b_now b_imaged b_valueUp b_valueDown b_real b_brief b_order b_waits b_floats b_same b_upOf b_downOf b_tape b_open b_made b_paper b_reachUp b_reachDown b_reachHow b_reachFirst b_reachSecond b_begins b_carried c_hasImage c_above c_below c_orderMany c_waitMany c_seed c_size c_openMany c_paperMany c_reachMany c_now)) (ws' := (wdX11_between0 cy b b_now b_imaged b_valueUp b_valueDown b_real b_brief b_order b_waits b_floats b_same b_upOf b_downOf b_tape b_open b_made b_paper b_reachUp b_reachDown b_reachHow b_reachFirst b_reachSecond b_begins b_carried c_hasImage c_above c_below c_orderMany c_waitMany c_seed c_size c_openMany c_paperMany c_reachMany c_now)) (va_runV (As := [.int p1, .int p3]) (rest := []) ⟨hx, hb, hml, hown, hts⟩ (mX11_comesTo l D cy s.heap.size b b_now b_imaged b_valueUp b_valueDown b_real b_brief b_order b_waits b_floats b_same b_upOf b_downOf b_tape b_open b_made b_paper b_reachUp b_reachDown b_reachHow b_reachFirst b_reachSecond b_begins b_carried c_hasImage c_above c_below c_orderMany c_waitMany c_seed c_size c_openMany c_paperMany c_reachMany c_now p1 p3 (r3) hq3) (cwV 2 hts gX11_between0_X11_comesTo rfl rfl rfl ⟨rfl, cdX11_comesTo⟩ ⟨Nat.le_of_ble_eq_true rfl, Nat.le_of_ble_eq_true rfl⟩) (zPV hK hP hD [0, 1] rfl rfl (q0 := 0) (ci := 11) rfl rfl rfl) rfl rfl hl.1 rfl (lv_room (Nat.le_of_ble_eq_true rfl)) dX11_between0_3 ⟨Nat.zero_le _, Nat.zero_le _⟩) hP hD hS hA [0, 1] [] [0, 1] rfl rfl rfl rfl (fun H locs hP hD hS => ?_)
  refine lv_istore (lv' := [(4, .int r3), (0, .ref b), (1, .int p1), (2, .int p2), (3, .int p3)]) hx hb dX11_between0_6 hl (Nat.le_of_ble_eq_true rfl) rfl (fun ls hl => ?_)
  refine lv_iload_n hx hb dX11_between0_8 rfl (lv_at hl 2 rfl) ?_
  refine lv_iload_n hx hb dX11_between0_9 rfl (lv_at hl 3 rfl) ?_
  have hJ22 : ∀  (H : Heap) (locs : List Loc) (ls : Array Slot), va_P D vwCl (wdX11_between0 cy b b_now b_imaged b_valueUp b_valueDown b_real b_brief b_order b_waits b_floats b_same b_upOf b_downOf b_tape b_open b_made b_paper b_reachUp b_reachDown b_reachHow b_reachFirst b_reachSecond b_begins b_carried c_hasImage c_above c_below c_orderMany c_waitMany c_seed c_size c_openMany c_paperMany c_reachMany c_now) H → va_D A (wdX11_between0 cy b b_now b_imaged b_valueUp b_valueDown b_real b_brief b_order b_waits b_floats b_same b_upOf b_downOf b_tape b_open b_made b_paper b_reachUp b_reachDown b_reachHow b_reachFirst b_reachSecond b_begins b_carried c_hasImage c_above c_below c_orderMany c_waitMany c_seed c_size c_openMany c_paperMany c_reachMany c_now) → va_S A s.heap H locs → lv_has ls 15 [(0, .ref b), (1, .int p1), (2, .int p2)] → fX11_between0_J22 c_above c_below p1 p2 = some res → W p l e rmX11_between0 s m args below meth c H locs 0 0 Q (F0 m 22 ls []) := by
    intro  H locs ls hP hD hS hl h
    refine lv_aload_n hx hb dX11_between0_22 rfl (lv_at hl 0 rfl) ?_
    refine lv_iload_n hx hb dX11_between0_23 rfl (lv_at hl 1 rfl) ?_
    refine lv_iload_n hx hb dX11_between0_24 rfl (lv_at hl 2 rfl) ?_
    have hJ33 : ∀ (s1_33 : Int64) (H : Heap) (locs : List Loc) (ls : Array Slot), va_P D vwCl (wdX11_between0 cy b b_now b_imaged b_valueUp b_valueDown b_real b_brief b_order b_waits b_floats b_same b_upOf b_downOf b_tape b_open b_made b_paper b_reachUp b_reachDown b_reachHow b_reachFirst b_reachSecond b_begins b_carried c_hasImage c_above c_below c_orderMany c_waitMany c_seed c_size c_openMany c_paperMany c_reachMany c_now) H → va_D A (wdX11_between0 cy b b_now b_imaged b_valueUp b_valueDown b_real b_brief b_order b_waits b_floats b_same b_upOf b_downOf b_tape b_open b_made b_paper b_reachUp b_reachDown b_reachHow b_reachFirst b_reachSecond b_begins b_carried c_hasImage c_above c_below c_orderMany c_waitMany c_seed c_size c_openMany c_paperMany c_reachMany c_now) → va_S A s.heap H locs → lv_has ls 15 [(1, .int p1), (2, .int p2)] → fX11_between0_J33 c_above c_below p1 p2 s1_33 = some res → W p l e rmX11_between0 s m args below meth c H locs 0 0 Q (F0 m 33 ls [.long s1_33, .ref b]) := by
      intro s1_33 H locs ls hP hD hS hl h
      refine lv_iload_n hx hb dX11_between0_33 rfl (lv_at hl 0 rfl) ?_
      refine lv_iload_n hx hb dX11_between0_34 rfl (lv_at hl 1 rfl) ?_
      have hJ43 : ∀ (s2_43 : Int64) (H : Heap) (locs : List Loc) (ls : Array Slot), va_P D vwCl (wdX11_between0 cy b b_now b_imaged b_valueUp b_valueDown b_real b_brief b_order b_waits b_floats b_same b_upOf b_downOf b_tape b_open b_made b_paper b_reachUp b_reachDown b_reachHow b_reachFirst b_reachSecond b_begins b_carried c_hasImage c_above c_below c_orderMany c_waitMany c_seed c_size c_openMany c_paperMany c_reachMany c_now) H → va_D A (wdX11_between0 cy b b_now b_imaged b_valueUp b_valueDown b_real b_brief b_order b_waits b_floats b_same b_upOf b_downOf b_tape b_open b_made b_paper b_reachUp b_reachDown b_reachHow b_reachFirst b_reachSecond b_begins b_carried c_hasImage c_above c_below c_orderMany c_waitMany c_seed c_size c_openMany c_paperMany c_reachMany c_now) → va_S A s.heap H locs → lv_has ls 15 [] → fX11_between0_J43 c_above c_below s1_33 s2_43 = some res → W p l e rmX11_between0 s m args below meth c H locs 0 0 Q (F0 m 43 ls [.long s2_43, .long s1_33, .ref b]) := by
        intro s2_43 H locs ls hP hD hS hl h
        obtain ⟨c_above_r43, c_below_r43, hq43, h⟩ := zb2_s h
        refine zCv (w1 := (wdX11_becomes cy b b_now b_imaged b_valueUp b_valueDown b_real b_brief b_order b_waits b_floats b_same b_upOf b_downOf b_tape b_open b_made b_paper b_reachUp b_reachDown b_reachHow b_reachFirst b_reachSecond b_begins b_carried c_hasImage c_above_r43 c_below_r43 c_orderMany c_waitMany c_seed c_size c_openMany c_paperMany c_reachMany)) (ws' := (wdX11_between0 cy b b_now b_imaged b_valueUp b_valueDown b_real b_brief b_order b_waits b_floats b_same b_upOf b_downOf b_tape b_open b_made b_paper b_reachUp b_reachDown b_reachHow b_reachFirst b_reachSecond b_begins b_carried c_hasImage c_above_r43 c_below_r43 c_orderMany c_waitMany c_seed c_size c_openMany c_paperMany c_reachMany c_now)) (va_runV (As := [.long s1_33, .long s2_43]) (rest := []) ⟨hx, hb, hml, hown, hts⟩ (mX11_becomes l D cy H.size b b_now b_imaged b_valueUp b_valueDown b_real b_brief b_order b_waits b_floats b_same b_upOf b_downOf b_tape b_open b_made b_paper b_reachUp b_reachDown b_reachHow b_reachFirst b_reachSecond b_begins b_carried c_hasImage c_above c_below c_orderMany c_waitMany c_seed c_size c_openMany c_paperMany c_reachMany s1_33 s2_43 (c_above_r43, c_below_r43) hq43) (cwV 2 hts gX11_between0_X11_becomes rfl rfl rfl ⟨rfl, cdX11_becomes⟩ ⟨Nat.le_of_ble_eq_true rfl, Nat.le_of_ble_eq_true rfl⟩) (zPV hK hP hD [0] rfl rfl (q0 := 0) (ci := 11) rfl rfl rfl) rfl rfl hl.1 rfl (lv_room (Nat.le_of_ble_eq_true rfl)) dX11_between0_43 ⟨Nat.zero_le _, Nat.zero_le _⟩) hP hD hS hA [0] [1] [1, 0] rfl rfl rfl rfl (fun H locs hP hD hS => ?_)
        exact hret (o := (c_above_r43, c_below_r43)) h hP hD hS dX11_between0_46
      refine lv_icmp_ne (tgt := 42) hx hb dX11_between0_35 (by decide) (fun hc35 => ?_) (fun hc35 => ?_)
      · replace h := zi_f hc35 h
        refine lv_lconst (v := (0 : Int64)) hx hb dX11_between0_42 (by decide) ?_
        exact hJ43 (0 : Int64) _ _ _ hP hD hS (lv_sub hl [] rfl) h
      · replace h := zi_t hc35 h
        refine lv_lconst (v := (1 : Int64)) hx hb dX11_between0_38 (by decide) ?_
        refine lv_goto (tgt := 43) hx hb dX11_between0_39 (by decide) ?_
        exact hJ43 (1 : Int64) _ _ _ hP hD hS (lv_sub hl [] rfl) h
    refine lv_icmp_ne (tgt := 32) hx hb dX11_between0_25 (by decide) (fun hc25 => ?_) (fun hc25 => ?_)
    · replace h := zi_f hc25 h
      refine lv_lconst (v := (1 : Int64)) hx hb dX11_between0_32 (by decide) ?_
      exact hJ33 (1 : Int64) _ _ _ hP hD hS (lv_sub hl [1, 2] rfl) h
    · replace h := zi_t hc25 h
      refine lv_lconst (v := (0 : Int64)) hx hb dX11_between0_28 (by decide) ?_
      refine lv_goto (tgt := 33) hx hb dX11_between0_29 (by decide) ?_
      exact hJ33 (0 : Int64) _ _ _ hP hD hS (lv_sub hl [1, 2] rfl) h
  refine lv_icmp_eq (tgt := 22) hx hb dX11_between0_10 (by decide) (fun hc10 => ?_) (fun hc10 => ?_)
  · replace h := zi_t hc10 h
    exact hJ22 _ _ _ hP hD hS (lv_sub hl [1, 2, 3] rfl) h
  · replace h := zi_f hc10 h
    refine lv_iload hx hb dX11_between0_13 (lv_at hl 0 rfl) ?_
    refine lv_iload_n hx hb dX11_between0_15 rfl (lv_at hl 3 rfl) ?_
    refine lv_ishr hx hb dX11_between0_16 ?_
    refine lv_iconst (v := (1 : Int32)) hx hb dX11_between0_17 (by decide) ?_
    refine lv_iand hx hb dX11_between0_18 ?_
    refine lv_if_ne (tgt := 47) hx hb dX11_between0_19 (by decide) (fun hc19 => ?_) (fun hc19 => ?_)
    · replace h := zi_f hc19 h
      refine lv_iconst (v := (0 : Int32)) hx hb dX11_between0_47 (by decide) ?_
      refine lv_istore (lv' := [(5, .int (0 : Int32)), (4, .int r3), (0, .ref b), (1, .int p1), (2, .int p2), (3, .int p3)]) hx hb dX11_between0_48 hl (Nat.le_of_ble_eq_true rfl) rfl (fun ls hl => ?_)
      refine lv_iconst (v := (0 : Int32)) hx hb dX11_between0_50 (by decide) ?_
      refine lv_istore (lv' := [(6, .int (0 : Int32)), (5, .int (0 : Int32)), (4, .int r3), (0, .ref b), (1, .int p1), (2, .int p2), (3, .int p3)]) hx hb dX11_between0_51 hl (Nat.le_of_ble_eq_true rfl) rfl (fun ls hl => ?_)
      have hJ117 : ∀ (v5_117 : Int32) (H : Heap) (locs : List Loc) (ls : Array Slot), va_P D vwCl (wdX11_between0 cy b b_now b_imaged b_valueUp b_valueDown b_real b_brief b_order b_waits b_floats b_same b_upOf b_downOf b_tape b_open b_made b_paper b_reachUp b_reachDown b_reachHow b_reachFirst b_reachSecond b_begins b_carried c_hasImage c_above c_below c_orderMany c_waitMany c_seed c_size c_openMany c_paperMany c_reachMany c_now) H → va_D A (wdX11_between0 cy b b_now b_imaged b_valueUp b_valueDown b_real b_brief b_order b_waits b_floats b_same b_upOf b_downOf b_tape b_open b_made b_paper b_reachUp b_reachDown b_reachHow b_reachFirst b_reachSecond b_begins b_carried c_hasImage c_above c_below c_orderMany c_waitMany c_seed c_size c_openMany c_paperMany c_reachMany c_now) → va_S A s.heap H locs → lv_has ls 15 [(0, .ref b), (1, .int p1), (2, .int p2), (4, .int r3), (5, .int v5_117)] → fX11_between0_J117 c_now p1 p2 r3 v5_117 = some res → W p l e rmX11_between0 s m args below meth c H locs 0 0 Q (F0 m 117 ls []) := by
        intro v5_117 H locs ls hP hD hS hl h
        refine lv_iload hx hb dX11_between0_117 (lv_at hl 3 rfl) ?_
        obtain ⟨r119, hq119, h⟩ := zb1_s h
        refine zCi0 (r0 := r119) (va_runS (As := [.int r3]) (rest := []) ⟨hx, hb, hml, hown, hts⟩ (mX11_countOf l D cy H.size r3 (r119) hq119) (va_cwS 1 hts gX11_between0_X11_countOf rfl rfl rfl cdX11_countOf ⟨Nat.le_of_ble_eq_true rfl, Nat.le_of_ble_eq_true rfl⟩) (zPS hK hP hD [] rfl rfl) rfl rfl hl.1 rfl (lv_room (Nat.le_of_ble_eq_true rfl)) dX11_between0_119 ⟨Nat.zero_le _, Nat.zero_le _⟩) hP hD hS hA (fun H locs hP hD hS => ?_)
        refine lv_istore (lv' := [(6, .int r119), (0, .ref b), (1, .int p1), (2, .int p2), (4, .int r3), (5, .int v5_117)]) hx hb dX11_between0_122 hl (Nat.le_of_ble_eq_true rfl) rfl (fun ls hl => ?_)
        refine lv_lconst (v := (0 : Int64)) hx hb dX11_between0_124 (by decide) ?_
        refine lv_lstore (lv' := [(7, .long (0 : Int64)), (6, .int r119), (0, .ref b), (1, .int p1), (2, .int p2), (4, .int r3), (5, .int v5_117)]) hx hb dX11_between0_125 hl (Nat.le_of_ble_eq_true rfl) rfl (fun ls hl => ?_)
        refine lv_lconst (v := (0 : Int64)) hx hb dX11_between0_127 (by decide) ?_
        refine lv_lstore (lv' := [(9, .long (0 : Int64)), (7, .long (0 : Int64)), (6, .int r119), (0, .ref b), (1, .int p1), (2, .int p2), (4, .int r3), (5, .int v5_117)]) hx hb dX11_between0_128 hl (Nat.le_of_ble_eq_true rfl) rfl (fun ls hl => ?_)
        refine lv_iconst (v := (0 : Int32)) hx hb dX11_between0_130 (by decide) ?_
        refine lv_istore (lv' := [(11, .int (0 : Int32)), (9, .long (0 : Int64)), (7, .long (0 : Int64)), (6, .int r119), (0, .ref b), (1, .int p1), (2, .int p2), (4, .int r3), (5, .int v5_117)]) hx hb dX11_between0_131 hl (Nat.le_of_ble_eq_true rfl) rfl (fun ls hl => ?_)
        have hJ290 : ∀ (v7_290 v9_290 : Int64) (H : Heap) (locs : List Loc) (ls : Array Slot), va_P D vwCl (wdX11_between0 cy b b_now b_imaged b_valueUp b_valueDown b_real b_brief b_order b_waits b_floats b_same b_upOf b_downOf b_tape b_open b_made b_paper b_reachUp b_reachDown b_reachHow b_reachFirst b_reachSecond b_begins b_carried c_hasImage c_above c_below c_orderMany c_waitMany c_seed c_size c_openMany c_paperMany c_reachMany c_now) H → va_D A (wdX11_between0 cy b b_now b_imaged b_valueUp b_valueDown b_real b_brief b_order b_waits b_floats b_same b_upOf b_downOf b_tape b_open b_made b_paper b_reachUp b_reachDown b_reachHow b_reachFirst b_reachSecond b_begins b_carried c_hasImage c_above c_below c_orderMany c_waitMany c_seed c_size c_openMany c_paperMany c_reachMany c_now) → va_S A s.heap H locs → lv_has ls 15 [(0, .ref b), (7, .long v7_290), (9, .long v9_290)] → fX11_between0_J290 v7_290 v9_290 = some res → W p l e rmX11_between0 s m args below meth c H locs 0 0 Q (F0 m 290 ls []) := by
          intro v7_290 v9_290 H locs ls hP hD hS hl h
          refine lv_lload hx hb dX11_between0_290 (lv_at hl 2 rfl) ?_
          refine lv_lload hx hb dX11_between0_292 (lv_at hl 1 rfl) ?_
          obtain ⟨r294, hq294, h⟩ := zb1_s h
          refine zCl0 (r0 := r294) (va_runS (As := [.long v9_290, .long v7_290]) (rest := []) ⟨hx, hb, hml, hown, hts⟩ (mX11_divisor l D cy H.size v9_290 v7_290 (r294) hq294) (va_cwS 2 hts gX11_between0_X11_divisor rfl rfl rfl cdX11_divisor ⟨Nat.le_of_ble_eq_true rfl, Nat.le_of_ble_eq_true rfl⟩) (zPS hK hP hD [] rfl rfl) rfl rfl hl.1 rfl (lv_room (Nat.le_of_ble_eq_true rfl)) dX11_between0_294 ⟨Nat.zero_le _, Nat.zero_le _⟩) hP hD hS hA (fun H locs hP hD hS => ?_)
          refine lv_lstore (lv' := [(11, .long r294), (0, .ref b), (7, .long v7_290), (9, .long v9_290)]) hx hb dX11_between0_297 hl (Nat.le_of_ble_eq_true rfl) rfl (fun ls hl => ?_)
          refine lv_aload_n hx hb dX11_between0_299 rfl (lv_at hl 1 rfl) ?_
          refine lv_lload hx hb dX11_between0_300 (lv_at hl 3 rfl) ?_
          refine lv_lload hx hb dX11_between0_302 (lv_at hl 0 rfl) ?_
          obtain ⟨hz304, h⟩ := zg_s h
          refine lv_ldiv hx hb dX11_between0_304 hz304 ?_
          refine va_put (D := D) (ci := 11) (v := .long (v9_290 / r294)) (ty := .long) (C := RX11) (T := TX11) (N := 33) hx hb hts uX11_between0_X11 tyX11 tyX11_ok nmX11 hown hK.1 hP hD hS 0 rfl rfl 3 (by decide) (hts (.fieldLink RX11 136 "WishedResistorModel" "above" "J") (List.mem_of_getElem? (i := 2) rfl)) (fun _ h9 => h9) rfl (by decide +kernel) rfl rfl (Nat.le_of_ble_eq_true rfl) dX11_between0_305 (fun H locs hP hD hS => ?_)
          have hP : va_P D vwCl (wdX11_between0 cy b b_now b_imaged b_valueUp b_valueDown b_real b_brief b_order b_waits b_floats b_same b_upOf b_downOf b_tape b_open b_made b_paper b_reachUp b_reachDown b_reachHow b_reachFirst b_reachSecond b_begins b_carried c_hasImage (v9_290 / r294) c_below c_orderMany c_waitMany c_seed c_size c_openMany c_paperMany c_reachMany c_now) H := hP
          have hD : va_D A (wdX11_between0 cy b b_now b_imaged b_valueUp b_valueDown b_real b_brief b_order b_waits b_floats b_same b_upOf b_downOf b_tape b_open b_made b_paper b_reachUp b_reachDown b_reachHow b_reachFirst b_reachSecond b_begins b_carried c_hasImage (v9_290 / r294) c_below c_orderMany c_waitMany c_seed c_size c_openMany c_paperMany c_reachMany c_now) := hD
          refine lv_aload_n hx hb dX11_between0_308 rfl (lv_at hl 1 rfl) ?_
          refine lv_lload hx hb dX11_between0_309 (lv_at hl 2 rfl) ?_
          refine lv_lload hx hb dX11_between0_311 (lv_at hl 0 rfl) ?_
          obtain ⟨hz313, h⟩ := zg_s h
          refine lv_ldiv hx hb dX11_between0_313 hz313 ?_
          refine va_put (D := D) (ci := 11) (v := .long (v7_290 / r294)) (ty := .long) (C := RX11) (T := TX11) (N := 33) hx hb hts uX11_between0_X11 tyX11 tyX11_ok nmX11 hown hK.1 hP hD hS 0 rfl rfl 4 (by decide) (hts (.fieldLink RX11 140 "WishedResistorModel" "below" "J") (List.mem_of_getElem? (i := 3) rfl)) (fun _ h9 => h9) rfl (by decide +kernel) rfl rfl (Nat.le_of_ble_eq_true rfl) dX11_between0_314 (fun H locs hP hD hS => ?_)
          have hP : va_P D vwCl (wdX11_between0 cy b b_now b_imaged b_valueUp b_valueDown b_real b_brief b_order b_waits b_floats b_same b_upOf b_downOf b_tape b_open b_made b_paper b_reachUp b_reachDown b_reachHow b_reachFirst b_reachSecond b_begins b_carried c_hasImage (v9_290 / r294) (v7_290 / r294) c_orderMany c_waitMany c_seed c_size c_openMany c_paperMany c_reachMany c_now) H := hP
          have hD : va_D A (wdX11_between0 cy b b_now b_imaged b_valueUp b_valueDown b_real b_brief b_order b_waits b_floats b_same b_upOf b_downOf b_tape b_open b_made b_paper b_reachUp b_reachDown b_reachHow b_reachFirst b_reachSecond b_begins b_carried c_hasImage (v9_290 / r294) (v7_290 / r294) c_orderMany c_waitMany c_seed c_size c_openMany c_paperMany c_reachMany c_now) := hD
          exact hret (o := ((v9_290 / r294), (v7_290 / r294))) h hP hD hS dX11_between0_317
        have hL133 : ∀ n133 : Nat, ∀ (v7_133 v9_133 : Int64) (v11_133 : Int32) (H : Heap) (locs : List Loc) (ls : Array Slot), va_P D vwCl (wdX11_between0 cy b b_now b_imaged b_valueUp b_valueDown b_real b_brief b_order b_waits b_floats b_same b_upOf b_downOf b_tape b_open b_made b_paper b_reachUp b_reachDown b_reachHow b_reachFirst b_reachSecond b_begins b_carried c_hasImage c_above c_below c_orderMany c_waitMany c_seed c_size c_openMany c_paperMany c_reachMany c_now) H → va_D A (wdX11_between0 cy b b_now b_imaged b_valueUp b_valueDown b_real b_brief b_order b_waits b_floats b_same b_upOf b_downOf b_tape b_open b_made b_paper b_reachUp b_reachDown b_reachHow b_reachFirst b_reachSecond b_begins b_carried c_hasImage c_above c_below c_orderMany c_waitMany c_seed c_size c_openMany c_paperMany c_reachMany c_now) → va_S A s.heap H locs → lv_has ls 15 [(0, .ref b), (1, .int p1), (2, .int p2), (4, .int r3), (5, .int v5_117), (6, .int r119), (7, .long v7_133), (9, .long v9_133), (11, .int v11_133)] → fX11_between0_L133 fX11_between0_J290 c_now p1 p2 r3 v5_117 r119 n133 v7_133 v9_133 v11_133 = some res → W p l e rmX11_between0 s m args below meth c H locs 0 0 Q (F0 m 133 ls []) := by
          intro n133
          induction n133 with
          | zero =>
            intro v7_133 v9_133 v11_133 H locs ls hP hD hS hl h
            exact zl3_0 h
          | succ n133 ih133 =>
            intro v7_133 v9_133 v11_133 H locs ls hP hD hS hl h
            replace h := zl3_s h
            refine lv_iload hx hb dX11_between0_133 (lv_at hl 8 rfl) ?_
            refine lv_sipush (v := (256 : Int32)) hx hb dX11_between0_135 (by decide) ?_
            refine lv_icmp_ge (tgt := 290) hx hb dX11_between0_138 (by decide) (fun hc138 => ?_) (fun hc138 => ?_)
            · replace h := zi_t hc138 h
              exact hJ290 v7_133 v9_133 _ _ _ hP hD hS (lv_sub hl [0, 6, 7] rfl) h
            · replace h := zi_f hc138 h
              refine lv_iload hx hb dX11_between0_141 (lv_at hl 8 rfl) ?_
              refine lv_iload hx hb dX11_between0_143 (lv_at hl 4 rfl) ?_
              refine lv_iconst (v := (-1 : Int32)) hx hb dX11_between0_145 (by decide) ?_
              refine lv_ixor hx hb dX11_between0_146 ?_
              refine lv_iand hx hb dX11_between0_147 ?_
              refine lv_if_ne (tgt := 284) hx hb dX11_between0_148 (by decide) (fun hc148 => ?_) (fun hc148 => ?_)
              · replace h := zi_f hc148 h
                refine lv_iinc (v := (v11_133 + (1 : Int32))) (lv' := [(11, .int (v11_133 + (1 : Int32))), (0, .ref b), (1, .int p1), (2, .int p2), (4, .int r3), (5, .int v5_117), (6, .int r119), (7, .long v7_133), (9, .long v9_133)]) hx hb dX11_between0_284 hl (k := 8) rfl (by rfl) (Nat.le_of_ble_eq_true rfl) rfl (fun ls hl => ?_)
                refine lv_goto (tgt := 133) hx hb dX11_between0_287 (by decide) ?_
                exact ih133 v7_133 v9_133 (v11_133 + (1 : Int32)) _ _ _ hP hD hS (lv_sub hl [1, 2, 3, 4, 5, 6, 7, 8, 0] rfl) h
              · replace h := zi_t hc148 h
                refine lv_iload hx hb dX11_between0_151 (lv_at hl 8 rfl) ?_
                obtain ⟨r153, hq153, h⟩ := zb1_s h
                refine zCi0 (r0 := r153) (va_runS (As := [.int v11_133]) (rest := []) ⟨hx, hb, hml, hown, hts⟩ (mX11_countOf l D cy H.size v11_133 (r153) hq153) (va_cwS 1 hts gX11_between0_X11_countOf rfl rfl rfl cdX11_countOf ⟨Nat.le_of_ble_eq_true rfl, Nat.le_of_ble_eq_true rfl⟩) (zPS hK hP hD [] rfl rfl) rfl rfl hl.1 rfl (lv_room (Nat.le_of_ble_eq_true rfl)) dX11_between0_153 ⟨Nat.zero_le _, Nat.zero_le _⟩) hP hD hS hA (fun H locs hP hD hS => ?_)
                refine lv_istore (lv' := [(12, .int r153), (0, .ref b), (1, .int p1), (2, .int p2), (4, .int r3), (5, .int v5_117), (6, .int r119), (7, .long v7_133), (9, .long v9_133), (11, .int v11_133)]) hx hb dX11_between0_156 hl (Nat.le_of_ble_eq_true rfl) rfl (fun ls hl => ?_)
                refine lv_iload hx hb dX11_between0_158 (lv_at hl 0 rfl) ?_
                refine lv_iload hx hb dX11_between0_160 (lv_at hl 6 rfl) ?_
                refine lv_iconst (v := (1 : Int32)) hx hb dX11_between0_162 (by decide) ?_
                refine lv_isub hx hb dX11_between0_163 ?_
                have hJ187 : ∀ (s0_187 : Int32) (H : Heap) (locs : List Loc) (ls : Array Slot), va_P D vwCl (wdX11_between0 cy b b_now b_imaged b_valueUp b_valueDown b_real b_brief b_order b_waits b_floats b_same b_upOf b_downOf b_tape b_open b_made b_paper b_reachUp b_reachDown b_reachHow b_reachFirst b_reachSecond b_begins b_carried c_hasImage c_above c_below c_orderMany c_waitMany c_seed c_size c_openMany c_paperMany c_reachMany c_now) H → va_D A (wdX11_between0 cy b b_now b_imaged b_valueUp b_valueDown b_real b_brief b_order b_waits b_floats b_same b_upOf b_downOf b_tape b_open b_made b_paper b_reachUp b_reachDown b_reachHow b_reachFirst b_reachSecond b_begins b_carried c_hasImage c_above c_below c_orderMany c_waitMany c_seed c_size c_openMany c_paperMany c_reachMany c_now) → va_S A s.heap H locs → lv_has ls 15 [(0, .ref b), (1, .int p1), (2, .int p2), (4, .int r3), (5, .int v5_117), (6, .int r119), (7, .long v7_133), (9, .long v9_133), (11, .int v11_133), (12, .int r153)] → fX11_between0_J187 c_now p2 r3 v5_117 r119 v7_133 v9_133 v11_133 (fX11_between0_L133 fX11_between0_J290 c_now p1 p2 r3 v5_117 r119 n133) r153 s0_187 = some res → W p l e rmX11_between0 s m args below meth c H locs 0 0 Q (F0 m 187 ls [.int s0_187]) := by
                  intro s0_187 H locs ls hP hD hS hl h
                  refine lv_istore (lv' := [(13, .int s0_187), (0, .ref b), (1, .int p1), (2, .int p2), (4, .int r3), (5, .int v5_117), (6, .int r119), (7, .long v7_133), (9, .long v9_133), (11, .int v11_133), (12, .int r153)]) hx hb dX11_between0_187 hl (Nat.le_of_ble_eq_true rfl) rfl (fun ls hl => ?_)
                  refine lv_lload hx hb dX11_between0_189 (lv_at hl 7 rfl) ?_
                  refine lv_iload hx hb dX11_between0_191 (lv_at hl 10 rfl) ?_
                  refine lv_iload hx hb dX11_between0_193 (lv_at hl 6 rfl) ?_
                  refine lv_iconst (v := (1 : Int32)) hx hb dX11_between0_195 (by decide) ?_
                  refine lv_isub hx hb dX11_between0_196 ?_
                  have hJ219 : ∀ (s1_219 : Int64) (H : Heap) (locs : List Loc) (ls : Array Slot), va_P D vwCl (wdX11_between0 cy b b_now b_imaged b_valueUp b_valueDown b_real b_brief b_order b_waits b_floats b_same b_upOf b_downOf b_tape b_open b_made b_paper b_reachUp b_reachDown b_reachHow b_reachFirst b_reachSecond b_begins b_carried c_hasImage c_above c_below c_orderMany c_waitMany c_seed c_size c_openMany c_paperMany c_reachMany c_now) H → va_D A (wdX11_between0 cy b b_now b_imaged b_valueUp b_valueDown b_real b_brief b_order b_waits b_floats b_same b_upOf b_downOf b_tape b_open b_made b_paper b_reachUp b_reachDown b_reachHow b_reachFirst b_reachSecond b_begins b_carried c_hasImage c_above c_below c_orderMany c_waitMany c_seed c_size c_openMany c_paperMany c_reachMany c_now) → va_S A s.heap H locs → lv_has ls 15 [(0, .ref b), (1, .int p1), (2, .int p2), (4, .int r3), (5, .int v5_117), (6, .int r119), (9, .long v9_133), (11, .int v11_133), (12, .int r153), (13, .int s0_187)] → fX11_between0_J219 c_now p2 r3 v5_117 r119 v7_133 v9_133 v11_133 (fX11_between0_L133 fX11_between0_J290 c_now p1 p2 r3 v5_117 r119 n133) r153 s0_187 s1_219 = some res → W p l e rmX11_between0 s m args below meth c H locs 0 0 Q (F0 m 219 ls [.long s1_219, .long v7_133]) := by
                    intro s1_219 H locs ls hP hD hS hl h
                    refine lv_ladd hx hb dX11_between0_219 ?_
                    refine lv_lstore (lv' := [(7, .long (v7_133 + s1_219)), (0, .ref b), (1, .int p1), (2, .int p2), (4, .int r3), (5, .int v5_117), (6, .int r119), (9, .long v9_133), (11, .int v11_133), (12, .int r153), (13, .int s0_187)]) hx hb dX11_between0_220 hl (Nat.le_of_ble_eq_true rfl) rfl (fun ls hl => ?_)
                    refine lv_iload hx hb dX11_between0_222 (lv_at hl 9 rfl) ?_
                    refine lv_iload hx hb dX11_between0_224 (lv_at hl 6 rfl) ?_
                    refine lv_iconst (v := (2 : Int32)) hx hb dX11_between0_226 (by decide) ?_
                    refine lv_isub hx hb dX11_between0_227 ?_
                    have hJ260 : ∀ (s0_260 : Int32) (H : Heap) (locs : List Loc) (ls : Array Slot), va_P D vwCl (wdX11_between0 cy b b_now b_imaged b_valueUp b_valueDown b_real b_brief b_order b_waits b_floats b_same b_upOf b_downOf b_tape b_open b_made b_paper b_reachUp b_reachDown b_reachHow b_reachFirst b_reachSecond b_begins b_carried c_hasImage c_above c_below c_orderMany c_waitMany c_seed c_size c_openMany c_paperMany c_reachMany c_now) H → va_D A (wdX11_between0 cy b b_now b_imaged b_valueUp b_valueDown b_real b_brief b_order b_waits b_floats b_same b_upOf b_downOf b_tape b_open b_made b_paper b_reachUp b_reachDown b_reachHow b_reachFirst b_reachSecond b_begins b_carried c_hasImage c_above c_below c_orderMany c_waitMany c_seed c_size c_openMany c_paperMany c_reachMany c_now) → va_S A s.heap H locs → lv_has ls 15 [(0, .ref b), (1, .int p1), (2, .int p2), (4, .int r3), (5, .int v5_117), (6, .int r119), (7, .long (v7_133 + s1_219)), (9, .long v9_133), (11, .int v11_133)] → fX11_between0_J260 c_now v5_117 v7_133 v9_133 v11_133 (fX11_between0_L133 fX11_between0_J290 c_now p1 p2 r3 v5_117 r119 n133) s1_219 s0_260 = some res → W p l e rmX11_between0 s m args below meth c H locs 0 0 Q (F0 m 260 ls [.int s0_260]) := by
                      intro s0_260 H locs ls hP hD hS hl h
                      refine lv_istore (lv' := [(14, .int s0_260), (0, .ref b), (1, .int p1), (2, .int p2), (4, .int r3), (5, .int v5_117), (6, .int r119), (7, .long (v7_133 + s1_219)), (9, .long v9_133), (11, .int v11_133)]) hx hb dX11_between0_260 hl (Nat.le_of_ble_eq_true rfl) rfl (fun ls hl => ?_)
                      refine lv_lload hx hb dX11_between0_262 (lv_at hl 8 rfl) ?_
                      refine lv_iload hx hb dX11_between0_264 (lv_at hl 0 rfl) ?_
                      refine lv_if_eq (tgt := 280) hx hb dX11_between0_266 (by decide) (fun hc266 => ?_) (fun hc266 => ?_)
                      · replace h := zi_t hc266 h
                        refine lv_lconst (v := (0 : Int64)) hx hb dX11_between0_280 (by decide) ?_
                        refine lv_ladd hx hb dX11_between0_281 ?_
                        refine lv_lstore (lv' := [(9, .long (v9_133 + (0 : Int64))), (14, .int s0_260), (0, .ref b), (1, .int p1), (2, .int p2), (4, .int r3), (5, .int v5_117), (6, .int r119), (7, .long (v7_133 + s1_219)), (11, .int v11_133)]) hx hb dX11_between0_282 hl (Nat.le_of_ble_eq_true rfl) rfl (fun ls hl => ?_)
                        refine lv_iinc (v := (v11_133 + (1 : Int32))) (lv' := [(11, .int (v11_133 + (1 : Int32))), (9, .long (v9_133 + (0 : Int64))), (14, .int s0_260), (0, .ref b), (1, .int p1), (2, .int p2), (4, .int r3), (5, .int v5_117), (6, .int r119), (7, .long (v7_133 + s1_219))]) hx hb dX11_between0_284 hl (k := 9) rfl (by rfl) (Nat.le_of_ble_eq_true rfl) rfl (fun ls hl => ?_)
                        refine lv_goto (tgt := 133) hx hb dX11_between0_287 (by decide) ?_
                        exact ih133 (v7_133 + s1_219) (v9_133 + (0 : Int64)) (v11_133 + (1 : Int32)) _ _ _ hP hD hS (lv_sub hl [3, 4, 5, 6, 7, 8, 9, 1, 0] rfl) h
                      · replace h := zi_f hc266 h
                        refine lv_aload_n hx hb dX11_between0_269 rfl (lv_at hl 1 rfl) ?_
                        refine lv_iload hx hb dX11_between0_270 (lv_at hl 5 rfl) ?_
                        refine lv_iload hx hb dX11_between0_272 (lv_at hl 9 rfl) ?_
                        obtain ⟨r274, hq274, h⟩ := zb1_s h
                        refine zCl (r0 := r274) (w1 := (wdX11_othersOf cy b b_now b_imaged b_valueUp b_valueDown b_real b_brief b_order b_waits b_floats b_same b_upOf b_downOf b_tape b_open b_made b_paper b_reachUp b_reachDown b_reachHow b_reachFirst b_reachSecond b_begins b_carried c_hasImage c_above c_below c_orderMany c_waitMany c_seed c_size c_openMany c_paperMany c_reachMany c_now)) (ws' := (wdX11_between0 cy b b_now b_imaged b_valueUp b_valueDown b_real b_brief b_order b_waits b_floats b_same b_upOf b_downOf b_tape b_open b_made b_paper b_reachUp b_reachDown b_reachHow b_reachFirst b_reachSecond b_begins b_carried c_hasImage c_above c_below c_orderMany c_waitMany c_seed c_size c_openMany c_paperMany c_reachMany c_now)) (va_runV (As := [.int v5_117, .int v11_133]) (rest := [.long v9_133]) ⟨hx, hb, hml, hown, hts⟩ (mX11_othersOf l D cy H.size b b_now b_imaged b_valueUp b_valueDown b_real b_brief b_order b_waits b_floats b_same b_upOf b_downOf b_tape b_open b_made b_paper b_reachUp b_reachDown b_reachHow b_reachFirst b_reachSecond b_begins b_carried c_hasImage c_above c_below c_orderMany c_waitMany c_seed c_size c_openMany c_paperMany c_reachMany c_now v5_117 v11_133 (r274) hq274) (cwV 2 hts gX11_between0_X11_othersOf rfl rfl rfl ⟨rfl, cdX11_othersOf⟩ ⟨Nat.le_of_ble_eq_true rfl, Nat.le_of_ble_eq_true rfl⟩) (zPV hK hP hD [0, 1] rfl rfl (q0 := 0) (ci := 11) rfl rfl rfl) rfl rfl hl.1 rfl (lv_room (Nat.le_of_ble_eq_true rfl)) dX11_between0_274 ⟨Nat.zero_le _, Nat.zero_le _⟩) hP hD hS hA [0, 1] [] [0, 1] rfl rfl rfl rfl (fun H locs hP hD hS => ?_)
                        refine lv_goto (tgt := 281) hx hb dX11_between0_277 (by decide) ?_
                        refine lv_ladd hx hb dX11_between0_281 ?_
                        refine lv_lstore (lv' := [(9, .long (v9_133 + r274)), (14, .int s0_260), (0, .ref b), (1, .int p1), (2, .int p2), (4, .int r3), (5, .int v5_117), (6, .int r119), (7, .long (v7_133 + s1_219)), (11, .int v11_133)]) hx hb dX11_between0_282 hl (Nat.le_of_ble_eq_true rfl) rfl (fun ls hl => ?_)
                        refine lv_iinc (v := (v11_133 + (1 : Int32))) (lv' := [(11, .int (v11_133 + (1 : Int32))), (9, .long (v9_133 + r274)), (14, .int s0_260), (0, .ref b), (1, .int p1), (2, .int p2), (4, .int r3), (5, .int v5_117), (6, .int r119), (7, .long (v7_133 + s1_219))]) hx hb dX11_between0_284 hl (k := 9) rfl (by rfl) (Nat.le_of_ble_eq_true rfl) rfl (fun ls hl => ?_)
                        refine lv_goto (tgt := 133) hx hb dX11_between0_287 (by decide) ?_
                        exact ih133 (v7_133 + s1_219) (v9_133 + r274) (v11_133 + (1 : Int32)) _ _ _ hP hD hS (lv_sub hl [3, 4, 5, 6, 7, 8, 9, 1, 0] rfl) h
                    refine lv_icmp_ne (tgt := 259) hx hb dX11_between0_228 (by decide) (fun hc228 => ?_) (fun hc228 => ?_)
                    · replace h := zi_f hc228 h
                      refine lv_iconst (v := (0 : Int32)) hx hb dX11_between0_259 (by decide) ?_
                      exact hJ260 (0 : Int32) _ _ _ hP hD hS (lv_sub hl [1, 2, 3, 4, 5, 6, 0, 7, 8] rfl) h
                    · replace h := zi_t hc228 h
                      refine lv_iload hx hb dX11_between0_231 (lv_at hl 10 rfl) ?_
                      refine lv_iload_n hx hb dX11_between0_233 rfl (lv_at hl 3 rfl) ?_
                      refine lv_ishr hx hb dX11_between0_234 ?_
                      refine lv_iconst (v := (1 : Int32)) hx hb dX11_between0_235 (by decide) ?_
                      refine lv_iand hx hb dX11_between0_236 ?_
                      refine lv_if_ne (tgt := 259) hx hb dX11_between0_237 (by decide) (fun hc237 => ?_) (fun hc237 => ?_)
                      · replace h := zi_f hc237 h
                        refine lv_iconst (v := (0 : Int32)) hx hb dX11_between0_259 (by decide) ?_
                        exact hJ260 (0 : Int32) _ _ _ hP hD hS (lv_sub hl [1, 2, 3, 4, 5, 6, 0, 7, 8] rfl) h
                      · replace h := zi_t hc237 h
                        refine lv_iload hx hb dX11_between0_240 (lv_at hl 10 rfl) ?_
                        refine lv_aload_n hx hb dX11_between0_242 rfl (lv_at hl 1 rfl) ?_
                        refine lv_iload_n hx hb dX11_between0_243 rfl (lv_at hl 3 rfl) ?_
                        refine lv_iload hx hb dX11_between0_244 (lv_at hl 8 rfl) ?_
                        obtain ⟨r246, hq246, h⟩ := zb1_s h
                        refine zCi (r0 := r246) (w1 := (wdX11_comesTo cy b b_now b_imaged b_valueUp b_valueDown b_real b_brief b_order b_waits b_floats b_same b_upOf b_downOf b_tape b_open b_made b_paper b_reachUp b_reachDown b_reachHow b_reachFirst b_reachSecond b_begins b_carried c_hasImage c_above c_below c_orderMany c_waitMany c_seed c_size c_openMany c_paperMany c_reachMany c_now)) (ws' := (wdX11_between0 cy b b_now b_imaged b_valueUp b_valueDown b_real b_brief b_order b_waits b_floats b_same b_upOf b_downOf b_tape b_open b_made b_paper b_reachUp b_reachDown b_reachHow b_reachFirst b_reachSecond b_begins b_carried c_hasImage c_above c_below c_orderMany c_waitMany c_seed c_size c_openMany c_paperMany c_reachMany c_now)) (va_runV (As := [.int p2, .int v11_133]) (rest := [.int s0_187]) ⟨hx, hb, hml, hown, hts⟩ (mX11_comesTo l D cy H.size b b_now b_imaged b_valueUp b_valueDown b_real b_brief b_order b_waits b_floats b_same b_upOf b_downOf b_tape b_open b_made b_paper b_reachUp b_reachDown b_reachHow b_reachFirst b_reachSecond b_begins b_carried c_hasImage c_above c_below c_orderMany c_waitMany c_seed c_size c_openMany c_paperMany c_reachMany c_now p2 v11_133 (r246) hq246) (cwV 2 hts gX11_between0_X11_comesTo rfl rfl rfl ⟨rfl, cdX11_comesTo⟩ ⟨Nat.le_of_ble_eq_true rfl, Nat.le_of_ble_eq_true rfl⟩) (zPV hK hP hD [0, 1] rfl rfl (q0 := 0) (ci := 11) rfl rfl rfl) rfl rfl hl.1 rfl (lv_room (Nat.le_of_ble_eq_true rfl)) dX11_between0_246 ⟨Nat.zero_le _, Nat.zero_le _⟩) hP hD hS hA [0, 1] [] [0, 1] rfl rfl rfl rfl (fun H locs hP hD hS => ?_)
                        refine lv_ior hx hb dX11_between0_249 ?_
                        refine lv_iload hx hb dX11_between0_250 (lv_at hl 4 rfl) ?_
                        refine lv_icmp_ne (tgt := 259) hx hb dX11_between0_252 (by decide) (fun hc252 => ?_) (fun hc252 => ?_)
                        · replace h := zi_f hc252 h
                          refine lv_iconst (v := (0 : Int32)) hx hb dX11_between0_259 (by decide) ?_
                          exact hJ260 (0 : Int32) _ _ _ hP hD hS (lv_sub hl [1, 2, 3, 4, 5, 6, 0, 7, 8] rfl) h
                        · replace h := zi_t hc252 h
                          refine lv_iconst (v := (1 : Int32)) hx hb dX11_between0_255 (by decide) ?_
                          refine lv_goto (tgt := 260) hx hb dX11_between0_256 (by decide) ?_
                          exact hJ260 (1 : Int32) _ _ _ hP hD hS (lv_sub hl [1, 2, 3, 4, 5, 6, 0, 7, 8] rfl) h
                  refine lv_icmp_ne (tgt := 218) hx hb dX11_between0_197 (by decide) (fun hc197 => ?_) (fun hc197 => ?_)
                  · replace h := zi_f hc197 h
                    refine lv_lconst (v := (0 : Int64)) hx hb dX11_between0_218 (by decide) ?_
                    exact hJ219 (0 : Int64) _ _ _ hP hD hS (lv_sub hl [1, 2, 3, 4, 5, 6, 8, 9, 10, 0] rfl) h
                  · replace h := zi_t hc197 h
                    refine lv_iload hx hb dX11_between0_200 (lv_at hl 0 rfl) ?_
                    refine lv_iload hx hb dX11_between0_202 (lv_at hl 4 rfl) ?_
                    refine lv_icmp_ne (tgt := 218) hx hb dX11_between0_204 (by decide) (fun hc204 => ?_) (fun hc204 => ?_)
                    · replace h := zi_f hc204 h
                      refine lv_lconst (v := (0 : Int64)) hx hb dX11_between0_218 (by decide) ?_
                      exact hJ219 (0 : Int64) _ _ _ hP hD hS (lv_sub hl [1, 2, 3, 4, 5, 6, 8, 9, 10, 0] rfl) h
                    · replace h := zi_t hc204 h
                      refine lv_aload_n hx hb dX11_between0_207 rfl (lv_at hl 1 rfl) ?_
                      refine lv_iload hx hb dX11_between0_208 (lv_at hl 5 rfl) ?_
                      refine lv_iload hx hb dX11_between0_210 (lv_at hl 9 rfl) ?_
                      obtain ⟨r212, hq212, h⟩ := zb1_s h
                      refine zCl (r0 := r212) (w1 := (wdX11_othersOf cy b b_now b_imaged b_valueUp b_valueDown b_real b_brief b_order b_waits b_floats b_same b_upOf b_downOf b_tape b_open b_made b_paper b_reachUp b_reachDown b_reachHow b_reachFirst b_reachSecond b_begins b_carried c_hasImage c_above c_below c_orderMany c_waitMany c_seed c_size c_openMany c_paperMany c_reachMany c_now)) (ws' := (wdX11_between0 cy b b_now b_imaged b_valueUp b_valueDown b_real b_brief b_order b_waits b_floats b_same b_upOf b_downOf b_tape b_open b_made b_paper b_reachUp b_reachDown b_reachHow b_reachFirst b_reachSecond b_begins b_carried c_hasImage c_above c_below c_orderMany c_waitMany c_seed c_size c_openMany c_paperMany c_reachMany c_now)) (va_runV (As := [.int v5_117, .int v11_133]) (rest := [.long v7_133]) ⟨hx, hb, hml, hown, hts⟩ (mX11_othersOf l D cy H.size b b_now b_imaged b_valueUp b_valueDown b_real b_brief b_order b_waits b_floats b_same b_upOf b_downOf b_tape b_open b_made b_paper b_reachUp b_reachDown b_reachHow b_reachFirst b_reachSecond b_begins b_carried c_hasImage c_above c_below c_orderMany c_waitMany c_seed c_size c_openMany c_paperMany c_reachMany c_now v5_117 v11_133 (r212) hq212) (cwV 2 hts gX11_between0_X11_othersOf rfl rfl rfl ⟨rfl, cdX11_othersOf⟩ ⟨Nat.le_of_ble_eq_true rfl, Nat.le_of_ble_eq_true rfl⟩) (zPV hK hP hD [0, 1] rfl rfl (q0 := 0) (ci := 11) rfl rfl rfl) rfl rfl hl.1 rfl (lv_room (Nat.le_of_ble_eq_true rfl)) dX11_between0_212 ⟨Nat.zero_le _, Nat.zero_le _⟩) hP hD hS hA [0, 1] [] [0, 1] rfl rfl rfl rfl (fun H locs hP hD hS => ?_)
                      refine lv_goto (tgt := 219) hx hb dX11_between0_215 (by decide) ?_
                      exact hJ219 r212 _ _ _ hP hD hS (lv_sub hl [1, 2, 3, 4, 5, 6, 8, 9, 10, 0] rfl) h
                have hJ176 : ∀  (H : Heap) (locs : List Loc) (ls : Array Slot), va_P D vwCl (wdX11_between0 cy b b_now b_imaged b_valueUp b_valueDown b_real b_brief b_order b_waits b_floats b_same b_upOf b_downOf b_tape b_open b_made b_paper b_reachUp b_reachDown b_reachHow b_reachFirst b_reachSecond b_begins b_carried c_hasImage c_above c_below c_orderMany c_waitMany c_seed c_size c_openMany c_paperMany c_reachMany c_now) H → va_D A (wdX11_between0 cy b b_now b_imaged b_valueUp b_valueDown b_real b_brief b_order b_waits b_floats b_same b_upOf b_downOf b_tape b_open b_made b_paper b_reachUp b_reachDown b_reachHow b_reachFirst b_reachSecond b_begins b_carried c_hasImage c_above c_below c_orderMany c_waitMany c_seed c_size c_openMany c_paperMany c_reachMany c_now) → va_S A s.heap H locs → lv_has ls 15 [(0, .ref b), (1, .int p1), (2, .int p2), (4, .int r3), (5, .int v5_117), (6, .int r119), (7, .long v7_133), (9, .long v9_133), (11, .int v11_133), (12, .int r153)] → fX11_between0_J176 c_now p1 p2 r3 v5_117 r119 v7_133 v9_133 v11_133 (fX11_between0_L133 fX11_between0_J290 c_now p1 p2 r3 v5_117 r119 n133) r153 = some res → W p l e rmX11_between0 s m args below meth c H locs 0 0 Q (F0 m 176 ls []) := by
                  intro  H locs ls hP hD hS hl h
                  refine lv_aload_n hx hb dX11_between0_176 rfl (lv_at hl 0 rfl) ?_
                  refine lv_iload_n hx hb dX11_between0_177 rfl (lv_at hl 1 rfl) ?_
                  refine lv_iload hx hb dX11_between0_178 (lv_at hl 8 rfl) ?_
                  obtain ⟨r180, hq180, h⟩ := zb1_s h
                  refine zCi (r0 := r180) (w1 := (wdX11_comesTo cy b b_now b_imaged b_valueUp b_valueDown b_real b_brief b_order b_waits b_floats b_same b_upOf b_downOf b_tape b_open b_made b_paper b_reachUp b_reachDown b_reachHow b_reachFirst b_reachSecond b_begins b_carried c_hasImage c_above c_below c_orderMany c_waitMany c_seed c_size c_openMany c_paperMany c_reachMany c_now)) (ws' := (wdX11_between0 cy b b_now b_imaged b_valueUp b_valueDown b_real b_brief b_order b_waits b_floats b_same b_upOf b_downOf b_tape b_open b_made b_paper b_reachUp b_reachDown b_reachHow b_reachFirst b_reachSecond b_begins b_carried c_hasImage c_above c_below c_orderMany c_waitMany c_seed c_size c_openMany c_paperMany c_reachMany c_now)) (va_runV (As := [.int p1, .int v11_133]) (rest := []) ⟨hx, hb, hml, hown, hts⟩ (mX11_comesTo l D cy H.size b b_now b_imaged b_valueUp b_valueDown b_real b_brief b_order b_waits b_floats b_same b_upOf b_downOf b_tape b_open b_made b_paper b_reachUp b_reachDown b_reachHow b_reachFirst b_reachSecond b_begins b_carried c_hasImage c_above c_below c_orderMany c_waitMany c_seed c_size c_openMany c_paperMany c_reachMany c_now p1 v11_133 (r180) hq180) (cwV 2 hts gX11_between0_X11_comesTo rfl rfl rfl ⟨rfl, cdX11_comesTo⟩ ⟨Nat.le_of_ble_eq_true rfl, Nat.le_of_ble_eq_true rfl⟩) (zPV hK hP hD [0, 1] rfl rfl (q0 := 0) (ci := 11) rfl rfl rfl) rfl rfl hl.1 rfl (lv_room (Nat.le_of_ble_eq_true rfl)) dX11_between0_180 ⟨Nat.zero_le _, Nat.zero_le _⟩) hP hD hS hA [0, 1] [] [0, 1] rfl rfl rfl rfl (fun H locs hP hD hS => ?_)
                  refine lv_goto (tgt := 187) hx hb dX11_between0_183 (by decide) ?_
                  exact hJ187 r180 _ _ _ hP hD hS (lv_sub hl [0, 1, 2, 3, 4, 5, 6, 7, 8, 9] rfl) h
                refine lv_icmp_eq (tgt := 176) hx hb dX11_between0_164 (by decide) (fun hc164 => ?_) (fun hc164 => ?_)
                · replace h := zi_t hc164 h
                  exact hJ176 _ _ _ hP hD hS (lv_sub hl [1, 2, 3, 4, 5, 6, 7, 8, 9, 0] rfl) h
                · replace h := zi_f hc164 h
                  refine lv_iload hx hb dX11_between0_167 (lv_at hl 0 rfl) ?_
                  refine lv_iload hx hb dX11_between0_169 (lv_at hl 6 rfl) ?_
                  refine lv_iconst (v := (2 : Int32)) hx hb dX11_between0_171 (by decide) ?_
                  refine lv_isub hx hb dX11_between0_172 ?_
                  refine lv_icmp_ne (tgt := 186) hx hb dX11_between0_173 (by decide) (fun hc173 => ?_) (fun hc173 => ?_)
                  · replace h := zi_f hc173 h
                    refine lv_iconst (v := (0 : Int32)) hx hb dX11_between0_186 (by decide) ?_
                    exact hJ187 (0 : Int32) _ _ _ hP hD hS (lv_sub hl [1, 2, 3, 4, 5, 6, 7, 8, 9, 0] rfl) h
                  · replace h := zi_t hc173 h
                    exact hJ176 _ _ _ hP hD hS (lv_sub hl [1, 2, 3, 4, 5, 6, 7, 8, 9, 0] rfl) h
        exact hL133 5000 (0 : Int64) (0 : Int64) (0 : Int32) _ _ _ hP hD hS (lv_sub hl [4, 5, 6, 7, 8, 3, 2, 1, 0] rfl) h
      have hL53 : ∀ n53 : Nat, ∀ (v5_53 v6_53 : Int32) (H : Heap) (locs : List Loc) (ls : Array Slot), va_P D vwCl (wdX11_between0 cy b b_now b_imaged b_valueUp b_valueDown b_real b_brief b_order b_waits b_floats b_same b_upOf b_downOf b_tape b_open b_made b_paper b_reachUp b_reachDown b_reachHow b_reachFirst b_reachSecond b_begins b_carried c_hasImage c_above c_below c_orderMany c_waitMany c_seed c_size c_openMany c_paperMany c_reachMany c_now) H → va_D A (wdX11_between0 cy b b_now b_imaged b_valueUp b_valueDown b_real b_brief b_order b_waits b_floats b_same b_upOf b_downOf b_tape b_open b_made b_paper b_reachUp b_reachDown b_reachHow b_reachFirst b_reachSecond b_begins b_carried c_hasImage c_above c_below c_orderMany c_waitMany c_seed c_size c_openMany c_paperMany c_reachMany c_now) → va_S A s.heap H locs → lv_has ls 15 [(0, .ref b), (1, .int p1), (2, .int p2), (3, .int p3), (4, .int r3), (5, .int v5_53), (6, .int v6_53)] → fX11_between0_L53 (fX11_between0_J117 c_now p1 p2 r3) c_now p3 r3 n53 v5_53 v6_53 = some res → W p l e rmX11_between0 s m args below meth c H locs 0 0 Q (F0 m 53 ls []) := by
        intro n53
        induction n53 with
        | zero =>
          intro v5_53 v6_53 H locs ls hP hD hS hl h
          exact zl2_0 h
        | succ n53 ih53 =>
          intro v5_53 v6_53 H locs ls hP hD hS hl h
          replace h := zl2_s h
          refine lv_iload hx hb dX11_between0_53 (lv_at hl 6 rfl) ?_
          refine lv_aload_n hx hb dX11_between0_55 rfl (lv_at hl 0 rfl) ?_
          refine va_get (D := D) (ci := 11) (v := .ref b_now) (C := RX11) (T := TX11) (N := 33) hx hb hts uX11_between0_X11 hown hK.1 hP 0 rfl rfl 0 (by decide) (hts (.fieldLink RX11 9 "WishedResistorModel" "now" "[I") (List.mem_of_getElem? (i := 1) rfl)) (fun _ h9 => h9) rfl dX11_between0_56 ?_
          refine lv_sipush (v := (170 : Int32)) hx hb dX11_between0_59 (by decide) ?_
          refine va_iald hx hb hK.1 hP 1 0 rfl rfl (show zin (170 : Int32) 261 from by decide) dX11_between0_62 ?_
          refine lv_icmp_ge (tgt := 117) hx hb dX11_between0_63 (by decide) (fun hc63 => ?_) (fun hc63 => ?_)
          · replace h := zi_t hc63 h
            exact hJ117 v5_53 _ _ _ hP hD hS (lv_sub hl [0, 1, 2, 4, 5] rfl) h
          · replace h := zi_f hc63 h
            refine lv_iload hx hb dX11_between0_66 (lv_at hl 5 rfl) ?_
            refine lv_iload_n hx hb dX11_between0_68 rfl (lv_at hl 3 rfl) ?_
            refine lv_iload hx hb dX11_between0_69 (lv_at hl 6 rfl) ?_
            refine lv_ishr hx hb dX11_between0_71 ?_
            refine lv_iconst (v := (1 : Int32)) hx hb dX11_between0_72 (by decide) ?_
            refine lv_iand hx hb dX11_between0_73 ?_
            refine lv_iconst (v := (1 : Int32)) hx hb dX11_between0_74 (by decide) ?_
            refine lv_icmp_ne (tgt := 107) hx hb dX11_between0_75 (by decide) (fun hc75 => ?_) (fun hc75 => ?_)
            · replace h := zi_f hc75 h
              refine lv_iconst (v := (0 : Int32)) hx hb dX11_between0_107 (by decide) ?_
              refine lv_ior hx hb dX11_between0_108 ?_
              refine lv_istore (lv' := [(5, .int (v5_53 ||| (0 : Int32))), (0, .ref b), (1, .int p1), (2, .int p2), (3, .int p3), (4, .int r3), (6, .int v6_53)]) hx hb dX11_between0_109 hl (Nat.le_of_ble_eq_true rfl) rfl (fun ls hl => ?_)
              refine lv_iinc (v := (v6_53 + (1 : Int32))) (lv' := [(6, .int (v6_53 + (1 : Int32))), (5, .int (v5_53 ||| (0 : Int32))), (0, .ref b), (1, .int p1), (2, .int p2), (3, .int p3), (4, .int r3)]) hx hb dX11_between0_111 hl (k := 6) rfl (by rfl) (Nat.le_of_ble_eq_true rfl) rfl (fun ls hl => ?_)
              refine lv_goto (tgt := 53) hx hb dX11_between0_114 (by decide) ?_
              exact ih53 (v5_53 ||| (0 : Int32)) (v6_53 + (1 : Int32)) _ _ _ hP hD hS (lv_sub hl [2, 3, 4, 5, 6, 1, 0] rfl) h
            · replace h := zi_t hc75 h
              refine lv_iload hx hb dX11_between0_78 (lv_at hl 4 rfl) ?_
              refine lv_aload_n hx hb dX11_between0_80 rfl (lv_at hl 0 rfl) ?_
              refine va_get (D := D) (ci := 11) (v := .ref b_now) (C := RX11) (T := TX11) (N := 33) hx hb hts uX11_between0_X11 hown hK.1 hP 0 rfl rfl 0 (by decide) (hts (.fieldLink RX11 9 "WishedResistorModel" "now" "[I") (List.mem_of_getElem? (i := 1) rfl)) (fun _ h9 => h9) rfl dX11_between0_81 ?_
              refine lv_sipush (v := (171 : Int32)) hx hb dX11_between0_84 (by decide) ?_
              refine lv_iconst (v := (3 : Int32)) hx hb dX11_between0_87 (by decide) ?_
              refine lv_iload hx hb dX11_between0_88 (lv_at hl 6 rfl) ?_
              refine lv_imul hx hb dX11_between0_90 ?_
              refine lv_iadd hx hb dX11_between0_91 ?_
              obtain ⟨hi92, h⟩ := zg_s h
              refine va_iald hx hb hK.1 hP 1 0 rfl rfl hi92 dX11_between0_92 ?_
              refine lv_ishr hx hb dX11_between0_93 ?_
              refine lv_iconst (v := (1 : Int32)) hx hb dX11_between0_94 (by decide) ?_
              refine lv_iand hx hb dX11_between0_95 ?_
              refine lv_iconst (v := (1 : Int32)) hx hb dX11_between0_96 (by decide) ?_
              refine lv_icmp_ne (tgt := 107) hx hb dX11_between0_97 (by decide) (fun hc97 => ?_) (fun hc97 => ?_)
              · replace h := zi_f hc97 h
                refine lv_iconst (v := (0 : Int32)) hx hb dX11_between0_107 (by decide) ?_
                refine lv_ior hx hb dX11_between0_108 ?_
                refine lv_istore (lv' := [(5, .int (v5_53 ||| (0 : Int32))), (0, .ref b), (1, .int p1), (2, .int p2), (3, .int p3), (4, .int r3), (6, .int v6_53)]) hx hb dX11_between0_109 hl (Nat.le_of_ble_eq_true rfl) rfl (fun ls hl => ?_)
                refine lv_iinc (v := (v6_53 + (1 : Int32))) (lv' := [(6, .int (v6_53 + (1 : Int32))), (5, .int (v5_53 ||| (0 : Int32))), (0, .ref b), (1, .int p1), (2, .int p2), (3, .int p3), (4, .int r3)]) hx hb dX11_between0_111 hl (k := 6) rfl (by rfl) (Nat.le_of_ble_eq_true rfl) rfl (fun ls hl => ?_)
                refine lv_goto (tgt := 53) hx hb dX11_between0_114 (by decide) ?_
                exact ih53 (v5_53 ||| (0 : Int32)) (v6_53 + (1 : Int32)) _ _ _ hP hD hS (lv_sub hl [2, 3, 4, 5, 6, 1, 0] rfl) h
              · replace h := zi_t hc97 h
                refine lv_iconst (v := (1 : Int32)) hx hb dX11_between0_100 (by decide) ?_
                refine lv_iload hx hb dX11_between0_101 (lv_at hl 6 rfl) ?_
                refine lv_ishl hx hb dX11_between0_103 ?_
                refine lv_goto (tgt := 108) hx hb dX11_between0_104 (by decide) ?_
                refine lv_ior hx hb dX11_between0_108 ?_
                refine lv_istore (lv' := [(5, .int (v5_53 ||| ((1 : Int32) <<< (v6_53 &&& 31)))), (0, .ref b), (1, .int p1), (2, .int p2), (3, .int p3), (4, .int r3), (6, .int v6_53)]) hx hb dX11_between0_109 hl (Nat.le_of_ble_eq_true rfl) rfl (fun ls hl => ?_)
                refine lv_iinc (v := (v6_53 + (1 : Int32))) (lv' := [(6, .int (v6_53 + (1 : Int32))), (5, .int (v5_53 ||| ((1 : Int32) <<< (v6_53 &&& 31)))), (0, .ref b), (1, .int p1), (2, .int p2), (3, .int p3), (4, .int r3)]) hx hb dX11_between0_111 hl (k := 6) rfl (by rfl) (Nat.le_of_ble_eq_true rfl) rfl (fun ls hl => ?_)
                refine lv_goto (tgt := 53) hx hb dX11_between0_114 (by decide) ?_
                exact ih53 (v5_53 ||| ((1 : Int32) <<< (v6_53 &&& 31))) (v6_53 + (1 : Int32)) _ _ _ hP hD hS (lv_sub hl [2, 3, 4, 5, 6, 1, 0] rfl) h
      exact hL53 5000 (0 : Int32) (0 : Int32) _ _ _ hP hD hS (lv_sub hl [3, 4, 5, 6, 2, 1, 0] rfl) h
    · replace h := zi_t hc19 h
      exact hJ22 _ _ _ hP hD hS (lv_sub hl [1, 2, 3] rfl) h

theorem uX11_between_X11 : ∀ w ∈ u_ws RX11 TX11 33, w ∈ wsX11_between := fun w h => (List.mem_cons_of_mem _ (List.mem_append_right _ h))
abbrev wdX11_between (cy : Nat → ClassId) (b b_now b_imaged b_valueUp b_valueDown b_real b_brief b_order b_waits b_floats b_same b_upOf b_downOf b_tape b_open b_made b_paper b_reachUp b_reachDown b_reachHow b_reachFirst b_reachSecond b_begins b_carried : Nat) (c_hasImage : Int32) (c_above c_below : Int64) (c_orderMany c_waitMany c_seed c_size c_openMany c_paperMany c_reachMany : Int32) (c_now : Nat → Int32) : va_W := [(b, .inr (11, [.ref b_now, .ref b_imaged, .int c_hasImage, .long c_above, .long c_below, .ref b_valueUp, .ref b_valueDown, .ref b_real, .ref b_brief, .ref b_order, .int c_orderMany, .ref b_waits, .int c_waitMany, .ref b_floats, .int c_seed, .ref b_same, .ref b_upOf, .ref b_downOf, .ref b_tape, .int c_size, .ref b_open, .int c_openMany, .ref b_made, .ref b_paper, .int c_paperMany, .ref b_reachUp, .ref b_reachDown, .ref b_reachHow, .ref b_reachFirst, .ref b_reachSecond, .ref b_begins, .int c_reachMany, .ref b_carried])), (b_now, .inl (cy 0, 261, .inl c_now))]
abbrev rmX11_between : Room := { frames := 3, cells := 0, slots := 0, locals := 89 }
theorem cdX11_between : (yX11_between).cls ≠ "java/lang/invoke/MethodHandle" ∧ (yX11_between).cls ≠ "java/lang/invoke/VarHandle" ∧ (parseMethodDescriptor (yX11_between).desc).map (fun d => d.parameters.length) = some 3 := by decide +kernel
def fX11_between (p1 p2 p3 : Int32) (c_above c_below : Int64) (c_now : Nat → Int32) : Option (Int64 × Int64 × Int64) :=
  zb1 (fX11_isPoint p1 c_now) (fun r2 => if r2 = 0 then (some ((-9223372036854775808 : Int64), c_above, c_below)) else (zb1 (fX11_isPoint p2 c_now) (fun r10 => if r10 = 0 then (some ((-9223372036854775808 : Int64), c_above, c_below)) else (zb1 (fX11_in ((p3).toInt64) (0 : Int64) (1 : Int64)) (fun r20 => if r20 = 0 then (some ((-9223372036854775808 : Int64), c_above, c_below)) else (zb1 (fX11_live c_now) (fun r34 => zb2 (fX11_between0 p1 p2 r34 c_above c_below c_now) (fun c_above_r37 c_below_r37 => if p3 = 0 then (some (c_above_r37, c_above_r37, c_below_r37)) else (some (c_below_r37, c_above_r37, c_below_r37))))))))))
set_option maxHeartbeats 4000000 in
set_option maxRecDepth 100000 in
theorem mX11_between (l : Launch) (D : va_G) (cy : Nat → ClassId) (sz : Nat) (b b_now b_imaged b_valueUp b_valueDown b_real b_brief b_order b_waits b_floats b_same b_upOf b_downOf b_tape b_open b_made b_paper b_reachUp b_reachDown b_reachHow b_reachFirst b_reachSecond b_begins b_carried : Nat) (c_hasImage : Int32) (c_above c_below : Int64) (c_orderMany c_waitMany c_seed c_size c_openMany c_paperMany c_reachMany : Int32) (c_now : Nat → Int32) (p1 p2 p3 : Int32) (res : (Int64 × Int64 × Int64)) (h : fX11_between p1 p2 p3 c_above c_below c_now = some res) : zMl l yX11_between wsX11_between rmX11_between [.ref b, .int p1, .int p2, .int p3] D cy (wdX11_between cy b b_now b_imaged b_valueUp b_valueDown b_real b_brief b_order b_waits b_floats b_same b_upOf b_downOf b_tape b_open b_made b_paper b_reachUp b_reachDown b_reachHow b_reachFirst b_reachSecond b_begins b_carried c_hasImage c_above c_below c_orderMany c_waitMany c_seed c_size c_openMany c_paperMany c_reachMany c_now) sz ((fun (o : (Int64 × Int64 × Int64)) => o.1) res) ((fun (o : (Int64 × Int64 × Int64)) => (wdX11_between cy b b_now b_imaged b_valueUp b_valueDown b_real b_brief b_order b_waits b_floats b_same b_upOf b_downOf b_tape b_open b_made b_paper b_reachUp b_reachDown b_reachHow b_reachFirst b_reachSecond b_begins b_carried c_hasImage (o.2.1) (o.2.2) c_orderMany c_waitMany c_seed c_size c_openMany c_paperMany c_reachMany c_now)) res) := by
  refine zOfl (res := res) (rf := (fun (o : (Int64 × Int64 × Int64)) => o.1)) (Wf := (fun (o : (Int64 × Int64 × Int64)) => (wdX11_between cy b b_now b_imaged b_valueUp b_valueDown b_real b_brief b_order b_waits b_floats b_same b_upOf b_downOf b_tape b_open b_made b_paper b_reachUp b_reachDown b_reachHow b_reachFirst b_reachSecond b_begins b_carried c_hasImage (o.2.1) (o.2.2) c_orderMany c_waitMany c_seed c_size c_openMany c_paperMany c_reachMany c_now))) (by decide +kernel) rfl (Nat.le_of_ble_eq_true rfl) ?_
  intro p e s m args below meth c A ls Q hx hb hml hts hown hP hK hD hA hS hl hret
  have hown : s.vm.findClass RX11 = some m.cls := hown
  have hl : lv_has ls 4 [(0, .ref b), (1, .int p1), (2, .int p2), (3, .int p3)] := hl
  refine lv_aload_n hx hb dX11_between_0 rfl (lv_at hl 0 rfl) ?_
  refine lv_iload_n hx hb dX11_between_1 rfl (lv_at hl 1 rfl) ?_
  obtain ⟨r2, hq2, h⟩ := zb1_s h
  refine zCz (r0 := r2) (w1 := (wdX11_isPoint cy b b_now b_imaged b_valueUp b_valueDown b_real b_brief b_order b_waits b_floats b_same b_upOf b_downOf b_tape b_open b_made b_paper b_reachUp b_reachDown b_reachHow b_reachFirst b_reachSecond b_begins b_carried c_hasImage c_above c_below c_orderMany c_waitMany c_seed c_size c_openMany c_paperMany c_reachMany c_now)) (ws' := (wdX11_between cy b b_now b_imaged b_valueUp b_valueDown b_real b_brief b_order b_waits b_floats b_same b_upOf b_downOf b_tape b_open b_made b_paper b_reachUp b_reachDown b_reachHow b_reachFirst b_reachSecond b_begins b_carried c_hasImage c_above c_below c_orderMany c_waitMany c_seed c_size c_openMany c_paperMany c_reachMany c_now)) (va_runV (As := [.int p1]) (rest := []) ⟨hx, hb, hml, hown, hts⟩ (mX11_isPoint l D cy s.heap.size b b_now b_imaged b_valueUp b_valueDown b_real b_brief b_order b_waits b_floats b_same b_upOf b_downOf b_tape b_open b_made b_paper b_reachUp b_reachDown b_reachHow b_reachFirst b_reachSecond b_begins b_carried c_hasImage c_above c_below c_orderMany c_waitMany c_seed c_size c_openMany c_paperMany c_reachMany c_now p1 (r2) hq2) (cwV 1 hts gX11_between_X11_isPoint rfl rfl rfl ⟨rfl, cdX11_isPoint⟩ ⟨Nat.le_of_ble_eq_true rfl, Nat.le_of_ble_eq_true rfl⟩) (zPV hK hP hD [0, 1] rfl rfl (q0 := 0) (ci := 11) rfl rfl rfl) rfl rfl hl.1 rfl (lv_room (Nat.le_of_ble_eq_true rfl)) dX11_between_2 ⟨Nat.zero_le _, Nat.zero_le _⟩) hP hD hS hA [0, 1] [] [0, 1] rfl rfl rfl rfl (fun H locs hn2 hP hD hS => ?_)
  refine lv_if_eq (tgt := 26) hx hb dX11_between_5 (by decide) (fun hc5 => ?_) (fun hc5 => ?_)
  · replace h := zi_t hc5 h
    refine lv_ldc2 hx hb hown (hts (.constantLong RX11 155 (-9223372036854775808)) (List.mem_of_getElem? (i := 1) rfl)) dX11_between_26 ?_
    exact hret (o := ((-9223372036854775808 : Int64), c_above, c_below)) h hP hD hS dX11_between_29
  · replace h := zi_f hc5 h
    refine lv_aload_n hx hb dX11_between_8 rfl (lv_at hl 0 rfl) ?_
    refine lv_iload_n hx hb dX11_between_9 rfl (lv_at hl 2 rfl) ?_
    obtain ⟨r10, hq10, h⟩ := zb1_s h
    refine zCz (r0 := r10) (w1 := (wdX11_isPoint cy b b_now b_imaged b_valueUp b_valueDown b_real b_brief b_order b_waits b_floats b_same b_upOf b_downOf b_tape b_open b_made b_paper b_reachUp b_reachDown b_reachHow b_reachFirst b_reachSecond b_begins b_carried c_hasImage c_above c_below c_orderMany c_waitMany c_seed c_size c_openMany c_paperMany c_reachMany c_now)) (ws' := (wdX11_between cy b b_now b_imaged b_valueUp b_valueDown b_real b_brief b_order b_waits b_floats b_same b_upOf b_downOf b_tape b_open b_made b_paper b_reachUp b_reachDown b_reachHow b_reachFirst b_reachSecond b_begins b_carried c_hasImage c_above c_below c_orderMany c_waitMany c_seed c_size c_openMany c_paperMany c_reachMany c_now)) (va_runV (As := [.int p2]) (rest := []) ⟨hx, hb, hml, hown, hts⟩ (mX11_isPoint l D cy H.size b b_now b_imaged b_valueUp b_valueDown b_real b_brief b_order b_waits b_floats b_same b_upOf b_downOf b_tape b_open b_made b_paper b_reachUp b_reachDown b_reachHow b_reachFirst b_reachSecond b_begins b_carried c_hasImage c_above c_below c_orderMany c_waitMany c_seed c_size c_openMany c_paperMany c_reachMany c_now p2 (r10) hq10) (cwV 1 hts gX11_between_X11_isPoint rfl rfl rfl ⟨rfl, cdX11_isPoint⟩ ⟨Nat.le_of_ble_eq_true rfl, Nat.le_of_ble_eq_true rfl⟩) (zPV hK hP hD [0, 1] rfl rfl (q0 := 0) (ci := 11) rfl rfl rfl) rfl rfl hl.1 rfl (lv_room (Nat.le_of_ble_eq_true rfl)) dX11_between_10 ⟨Nat.zero_le _, Nat.zero_le _⟩) hP hD hS hA [0, 1] [] [0, 1] rfl rfl rfl rfl (fun H locs hn10 hP hD hS => ?_)
    refine lv_if_eq (tgt := 26) hx hb dX11_between_13 (by decide) (fun hc13 => ?_) (fun hc13 => ?_)
    · replace h := zi_t hc13 h
      refine lv_ldc2 hx hb hown (hts (.constantLong RX11 155 (-9223372036854775808)) (List.mem_of_getElem? (i := 1) rfl)) dX11_between_26 ?_
      exact hret (o := ((-9223372036854775808 : Int64), c_above, c_below)) h hP hD hS dX11_between_29
    · replace h := zi_f hc13 h
      refine lv_iload_n hx hb dX11_between_16 rfl (lv_at hl 3 rfl) ?_
      refine lv_i2l hx hb dX11_between_17 rfl ?_
      refine lv_lconst (v := (0 : Int64)) hx hb dX11_between_18 (by decide) ?_
      refine lv_lconst (v := (1 : Int64)) hx hb dX11_between_19 (by decide) ?_
      obtain ⟨r20, hq20, h⟩ := zb1_s h
      refine zCz0 (r0 := r20) (va_runS (As := [.long ((p3).toInt64), .long (0 : Int64), .long (1 : Int64)]) (rest := []) ⟨hx, hb, hml, hown, hts⟩ (mX11_in l D cy H.size ((p3).toInt64) (0 : Int64) (1 : Int64) (r20) hq20) (va_cwS 3 hts gX11_between_X11_in rfl rfl rfl cdX11_in ⟨Nat.le_of_ble_eq_true rfl, Nat.le_of_ble_eq_true rfl⟩) (zPS hK hP hD [] rfl rfl) rfl rfl hl.1 rfl (lv_room (Nat.le_of_ble_eq_true rfl)) dX11_between_20 ⟨Nat.zero_le _, Nat.zero_le _⟩) hP hD hS hA (fun H locs hn20 hP hD hS => ?_)
      refine lv_if_ne (tgt := 30) hx hb dX11_between_23 (by decide) (fun hc23 => ?_) (fun hc23 => ?_)
      · replace h := zi_f hc23 h
        refine lv_aload_n hx hb dX11_between_30 rfl (lv_at hl 0 rfl) ?_
        refine lv_iload_n hx hb dX11_between_31 rfl (lv_at hl 1 rfl) ?_
        refine lv_iload_n hx hb dX11_between_32 rfl (lv_at hl 2 rfl) ?_
        refine lv_aload_n hx hb dX11_between_33 rfl (lv_at hl 0 rfl) ?_
        obtain ⟨r34, hq34, h⟩ := zb1_s h
        refine zCi (r0 := r34) (w1 := (wdX11_live cy b b_now b_imaged b_valueUp b_valueDown b_real b_brief b_order b_waits b_floats b_same b_upOf b_downOf b_tape b_open b_made b_paper b_reachUp b_reachDown b_reachHow b_reachFirst b_reachSecond b_begins b_carried c_hasImage c_above c_below c_orderMany c_waitMany c_seed c_size c_openMany c_paperMany c_reachMany c_now)) (ws' := (wdX11_between cy b b_now b_imaged b_valueUp b_valueDown b_real b_brief b_order b_waits b_floats b_same b_upOf b_downOf b_tape b_open b_made b_paper b_reachUp b_reachDown b_reachHow b_reachFirst b_reachSecond b_begins b_carried c_hasImage c_above c_below c_orderMany c_waitMany c_seed c_size c_openMany c_paperMany c_reachMany c_now)) (va_runV (As := []) (rest := [.int p2, .int p1, .ref b]) ⟨hx, hb, hml, hown, hts⟩ (mX11_live l D cy H.size b b_now b_imaged b_valueUp b_valueDown b_real b_brief b_order b_waits b_floats b_same b_upOf b_downOf b_tape b_open b_made b_paper b_reachUp b_reachDown b_reachHow b_reachFirst b_reachSecond b_begins b_carried c_hasImage c_above c_below c_orderMany c_waitMany c_seed c_size c_openMany c_paperMany c_reachMany c_now (r34) hq34) (cwV 0 hts gX11_between_X11_live rfl rfl rfl ⟨rfl, cdX11_live⟩ ⟨Nat.le_of_ble_eq_true rfl, Nat.le_of_ble_eq_true rfl⟩) (zPV hK hP hD [0, 1] rfl rfl (q0 := 0) (ci := 11) rfl rfl rfl) rfl rfl hl.1 rfl (lv_room (Nat.le_of_ble_eq_true rfl)) dX11_between_34 ⟨Nat.zero_le _, Nat.zero_le _⟩) hP hD hS hA [0, 1] [] [0, 1] rfl rfl rfl rfl (fun H locs hP hD hS => ?_)
        obtain ⟨c_above_r37, c_below_r37, hq37, h⟩ := zb2_s h
        refine zCv (w1 := (wdX11_between0 cy b b_now b_imaged b_valueUp b_valueDown b_real b_brief b_order b_waits b_floats b_same b_upOf b_downOf b_tape b_open b_made b_paper b_reachUp b_reachDown b_reachHow b_reachFirst b_reachSecond b_begins b_carried c_hasImage c_above_r37 c_below_r37 c_orderMany c_waitMany c_seed c_size c_openMany c_paperMany c_reachMany c_now)) (ws' := (wdX11_between cy b b_now b_imaged b_valueUp b_valueDown b_real b_brief b_order b_waits b_floats b_same b_upOf b_downOf b_tape b_open b_made b_paper b_reachUp b_reachDown b_reachHow b_reachFirst b_reachSecond b_begins b_carried c_hasImage c_above_r37 c_below_r37 c_orderMany c_waitMany c_seed c_size c_openMany c_paperMany c_reachMany c_now)) (va_runV (As := [.int p1, .int p2, .int r34]) (rest := []) ⟨hx, hb, hml, hown, hts⟩ (mX11_between0 l D cy H.size b b_now b_imaged b_valueUp b_valueDown b_real b_brief b_order b_waits b_floats b_same b_upOf b_downOf b_tape b_open b_made b_paper b_reachUp b_reachDown b_reachHow b_reachFirst b_reachSecond b_begins b_carried c_hasImage c_above c_below c_orderMany c_waitMany c_seed c_size c_openMany c_paperMany c_reachMany c_now p1 p2 r34 (c_above_r37, c_below_r37) hq37) (cwV 3 hts gX11_between_X11_between0 rfl rfl rfl ⟨rfl, cdX11_between0⟩ ⟨Nat.le_of_ble_eq_true rfl, Nat.le_of_ble_eq_true rfl⟩) (zPV hK hP hD [0, 1] rfl rfl (q0 := 0) (ci := 11) rfl rfl rfl) rfl rfl hl.1 rfl (lv_room (Nat.le_of_ble_eq_true rfl)) dX11_between_37 ⟨Nat.zero_le _, Nat.zero_le _⟩) hP hD hS hA [0, 1] [] [0, 1] rfl rfl rfl rfl (fun H locs hP hD hS => ?_)
        refine lv_iload_n hx hb dX11_between_40 rfl (lv_at hl 3 rfl) ?_
        refine lv_if_ne (tgt := 51) hx hb dX11_between_41 (by decide) (fun hc41 => ?_) (fun hc41 => ?_)
        · replace h := zi_f hc41 h
          refine lv_aload_n hx hb dX11_between_51 rfl (lv_at hl 0 rfl) ?_
          refine va_get (D := D) (ci := 11) (v := .long c_below_r37) (C := RX11) (T := TX11) (N := 33) hx hb hts uX11_between_X11 hown hK.1 hP 0 rfl rfl 4 (by decide) (hts (.fieldLink RX11 140 "WishedResistorModel" "below" "J") (List.mem_of_getElem? (i := 3) rfl)) (fun _ h9 => h9) rfl dX11_between_52 ?_
          exact hret (o := (c_below_r37, c_above_r37, c_below_r37)) h hP hD hS dX11_between_55
        · replace h := zi_t hc41 h
          refine lv_aload_n hx hb dX11_between_44 rfl (lv_at hl 0 rfl) ?_
          refine va_get (D := D) (ci := 11) (v := .long c_above_r37) (C := RX11) (T := TX11) (N := 33) hx hb hts uX11_between_X11 hown hK.1 hP 0 rfl rfl 3 (by decide) (hts (.fieldLink RX11 136 "WishedResistorModel" "above" "J") (List.mem_of_getElem? (i := 2) rfl)) (fun _ h9 => h9) rfl dX11_between_45 ?_
          refine lv_goto (tgt := 55) hx hb dX11_between_48 (by decide) ?_
          exact hret (o := (c_above_r37, c_above_r37, c_below_r37)) h hP hD hS dX11_between_55
      · replace h := zi_t hc23 h
        refine lv_ldc2 hx hb hown (hts (.constantLong RX11 155 (-9223372036854775808)) (List.mem_of_getElem? (i := 1) rfl)) dX11_between_26 ?_
        exact hret (o := ((-9223372036854775808 : Int64), c_above, c_below)) h hP hD hS dX11_between_29

theorem uX11_without_X11 : ∀ w ∈ u_ws RX11 TX11 33, w ∈ wsX11_without := fun w h => (List.mem_cons_of_mem _ (List.mem_append_right _ h))
abbrev wdX11_without (cy : Nat → ClassId) (b b_now b_imaged b_valueUp b_valueDown b_real b_brief b_order b_waits b_floats b_same b_upOf b_downOf b_tape b_open b_made b_paper b_reachUp b_reachDown b_reachHow b_reachFirst b_reachSecond b_begins b_carried : Nat) (c_hasImage : Int32) (c_above c_below : Int64) (c_orderMany c_waitMany c_seed c_size c_openMany c_paperMany c_reachMany : Int32) (c_now : Nat → Int32) : va_W := [(b, .inr (11, [.ref b_now, .ref b_imaged, .int c_hasImage, .long c_above, .long c_below, .ref b_valueUp, .ref b_valueDown, .ref b_real, .ref b_brief, .ref b_order, .int c_orderMany, .ref b_waits, .int c_waitMany, .ref b_floats, .int c_seed, .ref b_same, .ref b_upOf, .ref b_downOf, .ref b_tape, .int c_size, .ref b_open, .int c_openMany, .ref b_made, .ref b_paper, .int c_paperMany, .ref b_reachUp, .ref b_reachDown, .ref b_reachHow, .ref b_reachFirst, .ref b_reachSecond, .ref b_begins, .int c_reachMany, .ref b_carried])), (b_now, .inl (cy 0, 261, .inl c_now))]
abbrev rmX11_without : Room := { frames := 3, cells := 0, slots := 0, locals := 89 }
theorem cdX11_without : (yX11_without).cls ≠ "java/lang/invoke/MethodHandle" ∧ (yX11_without).cls ≠ "java/lang/invoke/VarHandle" ∧ (parseMethodDescriptor (yX11_without).desc).map (fun d => d.parameters.length) = some 4 := by decide +kernel
def fX11_without (p1 p2 p3 p4 : Int32) (c_above c_below : Int64) (c_now : Nat → Int32) : Option (Int64 × Int64 × Int64) :=
  zb1 (fX11_isEdge p1 c_now) (fun r2 => if r2 = 0 then (some ((-9223372036854775808 : Int64), c_above, c_below)) else (zb1 (fX11_isPoint p2 c_now) (fun r10 => if r10 = 0 then (some ((-9223372036854775808 : Int64), c_above, c_below)) else (zb1 (fX11_isPoint p3 c_now) (fun r18 => if r18 = 0 then (some ((-9223372036854775808 : Int64), c_above, c_below)) else (zb1 (fX11_in ((p4).toInt64) (0 : Int64) (1 : Int64)) (fun r29 => if r29 = 0 then (some ((-9223372036854775808 : Int64), c_above, c_below)) else (zb1 (fX11_live c_now) (fun r43 => zb2 (fX11_between0 p2 p3 (r43 &&& (((1 : Int32) <<< (p1 &&& 31)) ^^^ (-1 : Int32))) c_above c_below c_now) (fun c_above_r52 c_below_r52 => if p4 = 0 then (some (c_above_r52, c_above_r52, c_below_r52)) else (some (c_below_r52, c_above_r52, c_below_r52))))))))))))
set_option maxHeartbeats 4000000 in
set_option maxRecDepth 100000 in
theorem mX11_without (l : Launch) (D : va_G) (cy : Nat → ClassId) (sz : Nat) (b b_now b_imaged b_valueUp b_valueDown b_real b_brief b_order b_waits b_floats b_same b_upOf b_downOf b_tape b_open b_made b_paper b_reachUp b_reachDown b_reachHow b_reachFirst b_reachSecond b_begins b_carried : Nat) (c_hasImage : Int32) (c_above c_below : Int64) (c_orderMany c_waitMany c_seed c_size c_openMany c_paperMany c_reachMany : Int32) (c_now : Nat → Int32) (p1 p2 p3 p4 : Int32) (res : (Int64 × Int64 × Int64)) (h : fX11_without p1 p2 p3 p4 c_above c_below c_now = some res) : zMl l yX11_without wsX11_without rmX11_without [.ref b, .int p1, .int p2, .int p3, .int p4] D cy (wdX11_without cy b b_now b_imaged b_valueUp b_valueDown b_real b_brief b_order b_waits b_floats b_same b_upOf b_downOf b_tape b_open b_made b_paper b_reachUp b_reachDown b_reachHow b_reachFirst b_reachSecond b_begins b_carried c_hasImage c_above c_below c_orderMany c_waitMany c_seed c_size c_openMany c_paperMany c_reachMany c_now) sz ((fun (o : (Int64 × Int64 × Int64)) => o.1) res) ((fun (o : (Int64 × Int64 × Int64)) => (wdX11_without cy b b_now b_imaged b_valueUp b_valueDown b_real b_brief b_order b_waits b_floats b_same b_upOf b_downOf b_tape b_open b_made b_paper b_reachUp b_reachDown b_reachHow b_reachFirst b_reachSecond b_begins b_carried c_hasImage (o.2.1) (o.2.2) c_orderMany c_waitMany c_seed c_size c_openMany c_paperMany c_reachMany c_now)) res) := by
  refine zOfl (res := res) (rf := (fun (o : (Int64 × Int64 × Int64)) => o.1)) (Wf := (fun (o : (Int64 × Int64 × Int64)) => (wdX11_without cy b b_now b_imaged b_valueUp b_valueDown b_real b_brief b_order b_waits b_floats b_same b_upOf b_downOf b_tape b_open b_made b_paper b_reachUp b_reachDown b_reachHow b_reachFirst b_reachSecond b_begins b_carried c_hasImage (o.2.1) (o.2.2) c_orderMany c_waitMany c_seed c_size c_openMany c_paperMany c_reachMany c_now))) (by decide +kernel) rfl (Nat.le_of_ble_eq_true rfl) ?_
  intro p e s m args below meth c A ls Q hx hb hml hts hown hP hK hD hA hS hl hret
  have hown : s.vm.findClass RX11 = some m.cls := hown
  have hl : lv_has ls 5 [(0, .ref b), (1, .int p1), (2, .int p2), (3, .int p3), (4, .int p4)] := hl
  refine lv_aload_n hx hb dX11_without_0 rfl (lv_at hl 0 rfl) ?_
  refine lv_iload_n hx hb dX11_without_1 rfl (lv_at hl 1 rfl) ?_
  obtain ⟨r2, hq2, h⟩ := zb1_s h
  refine zCz (r0 := r2) (w1 := (wdX11_isEdge cy b b_now b_imaged b_valueUp b_valueDown b_real b_brief b_order b_waits b_floats b_same b_upOf b_downOf b_tape b_open b_made b_paper b_reachUp b_reachDown b_reachHow b_reachFirst b_reachSecond b_begins b_carried c_hasImage c_above c_below c_orderMany c_waitMany c_seed c_size c_openMany c_paperMany c_reachMany c_now)) (ws' := (wdX11_without cy b b_now b_imaged b_valueUp b_valueDown b_real b_brief b_order b_waits b_floats b_same b_upOf b_downOf b_tape b_open b_made b_paper b_reachUp b_reachDown b_reachHow b_reachFirst b_reachSecond b_begins b_carried c_hasImage c_above c_below c_orderMany c_waitMany c_seed c_size c_openMany c_paperMany c_reachMany c_now)) (va_runV (As := [.int p1]) (rest := []) ⟨hx, hb, hml, hown, hts⟩ (mX11_isEdge l D cy s.heap.size b b_now b_imaged b_valueUp b_valueDown b_real b_brief b_order b_waits b_floats b_same b_upOf b_downOf b_tape b_open b_made b_paper b_reachUp b_reachDown b_reachHow b_reachFirst b_reachSecond b_begins b_carried c_hasImage c_above c_below c_orderMany c_waitMany c_seed c_size c_openMany c_paperMany c_reachMany c_now p1 (r2) hq2) (cwV 1 hts gX11_without_X11_isEdge rfl rfl rfl ⟨rfl, cdX11_isEdge⟩ ⟨Nat.le_of_ble_eq_true rfl, Nat.le_of_ble_eq_true rfl⟩) (zPV hK hP hD [0, 1] rfl rfl (q0 := 0) (ci := 11) rfl rfl rfl) rfl rfl hl.1 rfl (lv_room (Nat.le_of_ble_eq_true rfl)) dX11_without_2 ⟨Nat.zero_le _, Nat.zero_le _⟩) hP hD hS hA [0, 1] [] [0, 1] rfl rfl rfl rfl (fun H locs hn2 hP hD hS => ?_)
  refine lv_if_eq (tgt := 35) hx hb dX11_without_5 (by decide) (fun hc5 => ?_) (fun hc5 => ?_)
  · replace h := zi_t hc5 h
    refine lv_ldc2 hx hb hown (hts (.constantLong RX11 155 (-9223372036854775808)) (List.mem_of_getElem? (i := 1) rfl)) dX11_without_35 ?_
    exact hret (o := ((-9223372036854775808 : Int64), c_above, c_below)) h hP hD hS dX11_without_38
  · replace h := zi_f hc5 h
    refine lv_aload_n hx hb dX11_without_8 rfl (lv_at hl 0 rfl) ?_
    refine lv_iload_n hx hb dX11_without_9 rfl (lv_at hl 2 rfl) ?_
    obtain ⟨r10, hq10, h⟩ := zb1_s h
    refine zCz (r0 := r10) (w1 := (wdX11_isPoint cy b b_now b_imaged b_valueUp b_valueDown b_real b_brief b_order b_waits b_floats b_same b_upOf b_downOf b_tape b_open b_made b_paper b_reachUp b_reachDown b_reachHow b_reachFirst b_reachSecond b_begins b_carried c_hasImage c_above c_below c_orderMany c_waitMany c_seed c_size c_openMany c_paperMany c_reachMany c_now)) (ws' := (wdX11_without cy b b_now b_imaged b_valueUp b_valueDown b_real b_brief b_order b_waits b_floats b_same b_upOf b_downOf b_tape b_open b_made b_paper b_reachUp b_reachDown b_reachHow b_reachFirst b_reachSecond b_begins b_carried c_hasImage c_above c_below c_orderMany c_waitMany c_seed c_size c_openMany c_paperMany c_reachMany c_now)) (va_runV (As := [.int p2]) (rest := []) ⟨hx, hb, hml, hown, hts⟩ (mX11_isPoint l D cy H.size b b_now b_imaged b_valueUp b_valueDown b_real b_brief b_order b_waits b_floats b_same b_upOf b_downOf b_tape b_open b_made b_paper b_reachUp b_reachDown b_reachHow b_reachFirst b_reachSecond b_begins b_carried c_hasImage c_above c_below c_orderMany c_waitMany c_seed c_size c_openMany c_paperMany c_reachMany c_now p2 (r10) hq10) (cwV 1 hts gX11_without_X11_isPoint rfl rfl rfl ⟨rfl, cdX11_isPoint⟩ ⟨Nat.le_of_ble_eq_true rfl, Nat.le_of_ble_eq_true rfl⟩) (zPV hK hP hD [0, 1] rfl rfl (q0 := 0) (ci := 11) rfl rfl rfl) rfl rfl hl.1 rfl (lv_room (Nat.le_of_ble_eq_true rfl)) dX11_without_10 ⟨Nat.zero_le _, Nat.zero_le _⟩) hP hD hS hA [0, 1] [] [0, 1] rfl rfl rfl rfl (fun H locs hn10 hP hD hS => ?_)
    refine lv_if_eq (tgt := 35) hx hb dX11_without_13 (by decide) (fun hc13 => ?_) (fun hc13 => ?_)
    · replace h := zi_t hc13 h
      refine lv_ldc2 hx hb hown (hts (.constantLong RX11 155 (-9223372036854775808)) (List.mem_of_getElem? (i := 1) rfl)) dX11_without_35 ?_
      exact hret (o := ((-9223372036854775808 : Int64), c_above, c_below)) h hP hD hS dX11_without_38
    · replace h := zi_f hc13 h
      refine lv_aload_n hx hb dX11_without_16 rfl (lv_at hl 0 rfl) ?_
      refine lv_iload_n hx hb dX11_without_17 rfl (lv_at hl 3 rfl) ?_
      obtain ⟨r18, hq18, h⟩ := zb1_s h
      refine zCz (r0 := r18) (w1 := (wdX11_isPoint cy b b_now b_imaged b_valueUp b_valueDown b_real b_brief b_order b_waits b_floats b_same b_upOf b_downOf b_tape b_open b_made b_paper b_reachUp b_reachDown b_reachHow b_reachFirst b_reachSecond b_begins b_carried c_hasImage c_above c_below c_orderMany c_waitMany c_seed c_size c_openMany c_paperMany c_reachMany c_now)) (ws' := (wdX11_without cy b b_now b_imaged b_valueUp b_valueDown b_real b_brief b_order b_waits b_floats b_same b_upOf b_downOf b_tape b_open b_made b_paper b_reachUp b_reachDown b_reachHow b_reachFirst b_reachSecond b_begins b_carried c_hasImage c_above c_below c_orderMany c_waitMany c_seed c_size c_openMany c_paperMany c_reachMany c_now)) (va_runV (As := [.int p3]) (rest := []) ⟨hx, hb, hml, hown, hts⟩ (mX11_isPoint l D cy H.size b b_now b_imaged b_valueUp b_valueDown b_real b_brief b_order b_waits b_floats b_same b_upOf b_downOf b_tape b_open b_made b_paper b_reachUp b_reachDown b_reachHow b_reachFirst b_reachSecond b_begins b_carried c_hasImage c_above c_below c_orderMany c_waitMany c_seed c_size c_openMany c_paperMany c_reachMany c_now p3 (r18) hq18) (cwV 1 hts gX11_without_X11_isPoint rfl rfl rfl ⟨rfl, cdX11_isPoint⟩ ⟨Nat.le_of_ble_eq_true rfl, Nat.le_of_ble_eq_true rfl⟩) (zPV hK hP hD [0, 1] rfl rfl (q0 := 0) (ci := 11) rfl rfl rfl) rfl rfl hl.1 rfl (lv_room (Nat.le_of_ble_eq_true rfl)) dX11_without_18 ⟨Nat.zero_le _, Nat.zero_le _⟩) hP hD hS hA [0, 1] [] [0, 1] rfl rfl rfl rfl (fun H locs hn18 hP hD hS => ?_)
      refine lv_if_eq (tgt := 35) hx hb dX11_without_21 (by decide) (fun hc21 => ?_) (fun hc21 => ?_)
      · replace h := zi_t hc21 h
        refine lv_ldc2 hx hb hown (hts (.constantLong RX11 155 (-9223372036854775808)) (List.mem_of_getElem? (i := 1) rfl)) dX11_without_35 ?_
        exact hret (o := ((-9223372036854775808 : Int64), c_above, c_below)) h hP hD hS dX11_without_38
      · replace h := zi_f hc21 h
        refine lv_iload hx hb dX11_without_24 (lv_at hl 4 rfl) ?_
        refine lv_i2l hx hb dX11_without_26 rfl ?_
        refine lv_lconst (v := (0 : Int64)) hx hb dX11_without_27 (by decide) ?_
        refine lv_lconst (v := (1 : Int64)) hx hb dX11_without_28 (by decide) ?_
        obtain ⟨r29, hq29, h⟩ := zb1_s h
        refine zCz0 (r0 := r29) (va_runS (As := [.long ((p4).toInt64), .long (0 : Int64), .long (1 : Int64)]) (rest := []) ⟨hx, hb, hml, hown, hts⟩ (mX11_in l D cy H.size ((p4).toInt64) (0 : Int64) (1 : Int64) (r29) hq29) (va_cwS 3 hts gX11_without_X11_in rfl rfl rfl cdX11_in ⟨Nat.le_of_ble_eq_true rfl, Nat.le_of_ble_eq_true rfl⟩) (zPS hK hP hD [] rfl rfl) rfl rfl hl.1 rfl (lv_room (Nat.le_of_ble_eq_true rfl)) dX11_without_29 ⟨Nat.zero_le _, Nat.zero_le _⟩) hP hD hS hA (fun H locs hn29 hP hD hS => ?_)
        refine lv_if_ne (tgt := 39) hx hb dX11_without_32 (by decide) (fun hc32 => ?_) (fun hc32 => ?_)
        · replace h := zi_f hc32 h
          refine lv_aload_n hx hb dX11_without_39 rfl (lv_at hl 0 rfl) ?_
          refine lv_iload_n hx hb dX11_without_40 rfl (lv_at hl 2 rfl) ?_
          refine lv_iload_n hx hb dX11_without_41 rfl (lv_at hl 3 rfl) ?_
          refine lv_aload_n hx hb dX11_without_42 rfl (lv_at hl 0 rfl) ?_
          obtain ⟨r43, hq43, h⟩ := zb1_s h
          refine zCi (r0 := r43) (w1 := (wdX11_live cy b b_now b_imaged b_valueUp b_valueDown b_real b_brief b_order b_waits b_floats b_same b_upOf b_downOf b_tape b_open b_made b_paper b_reachUp b_reachDown b_reachHow b_reachFirst b_reachSecond b_begins b_carried c_hasImage c_above c_below c_orderMany c_waitMany c_seed c_size c_openMany c_paperMany c_reachMany c_now)) (ws' := (wdX11_without cy b b_now b_imaged b_valueUp b_valueDown b_real b_brief b_order b_waits b_floats b_same b_upOf b_downOf b_tape b_open b_made b_paper b_reachUp b_reachDown b_reachHow b_reachFirst b_reachSecond b_begins b_carried c_hasImage c_above c_below c_orderMany c_waitMany c_seed c_size c_openMany c_paperMany c_reachMany c_now)) (va_runV (As := []) (rest := [.int p3, .int p2, .ref b]) ⟨hx, hb, hml, hown, hts⟩ (mX11_live l D cy H.size b b_now b_imaged b_valueUp b_valueDown b_real b_brief b_order b_waits b_floats b_same b_upOf b_downOf b_tape b_open b_made b_paper b_reachUp b_reachDown b_reachHow b_reachFirst b_reachSecond b_begins b_carried c_hasImage c_above c_below c_orderMany c_waitMany c_seed c_size c_openMany c_paperMany c_reachMany c_now (r43) hq43) (cwV 0 hts gX11_without_X11_live rfl rfl rfl ⟨rfl, cdX11_live⟩ ⟨Nat.le_of_ble_eq_true rfl, Nat.le_of_ble_eq_true rfl⟩) (zPV hK hP hD [0, 1] rfl rfl (q0 := 0) (ci := 11) rfl rfl rfl) rfl rfl hl.1 rfl (lv_room (Nat.le_of_ble_eq_true rfl)) dX11_without_43 ⟨Nat.zero_le _, Nat.zero_le _⟩) hP hD hS hA [0, 1] [] [0, 1] rfl rfl rfl rfl (fun H locs hP hD hS => ?_)
          refine lv_iconst (v := (1 : Int32)) hx hb dX11_without_46 (by decide) ?_
          refine lv_iload_n hx hb dX11_without_47 rfl (lv_at hl 1 rfl) ?_
          refine lv_ishl hx hb dX11_without_48 ?_
          refine lv_iconst (v := (-1 : Int32)) hx hb dX11_without_49 (by decide) ?_
          refine lv_ixor hx hb dX11_without_50 ?_
          refine lv_iand hx hb dX11_without_51 ?_
          obtain ⟨c_above_r52, c_below_r52, hq52, h⟩ := zb2_s h
          refine zCv (w1 := (wdX11_between0 cy b b_now b_imaged b_valueUp b_valueDown b_real b_brief b_order b_waits b_floats b_same b_upOf b_downOf b_tape b_open b_made b_paper b_reachUp b_reachDown b_reachHow b_reachFirst b_reachSecond b_begins b_carried c_hasImage c_above_r52 c_below_r52 c_orderMany c_waitMany c_seed c_size c_openMany c_paperMany c_reachMany c_now)) (ws' := (wdX11_without cy b b_now b_imaged b_valueUp b_valueDown b_real b_brief b_order b_waits b_floats b_same b_upOf b_downOf b_tape b_open b_made b_paper b_reachUp b_reachDown b_reachHow b_reachFirst b_reachSecond b_begins b_carried c_hasImage c_above_r52 c_below_r52 c_orderMany c_waitMany c_seed c_size c_openMany c_paperMany c_reachMany c_now)) (va_runV (As := [.int p2, .int p3, .int (r43 &&& (((1 : Int32) <<< (p1 &&& 31)) ^^^ (-1 : Int32)))]) (rest := []) ⟨hx, hb, hml, hown, hts⟩ (mX11_between0 l D cy H.size b b_now b_imaged b_valueUp b_valueDown b_real b_brief b_order b_waits b_floats b_same b_upOf b_downOf b_tape b_open b_made b_paper b_reachUp b_reachDown b_reachHow b_reachFirst b_reachSecond b_begins b_carried c_hasImage c_above c_below c_orderMany c_waitMany c_seed c_size c_openMany c_paperMany c_reachMany c_now p2 p3 (r43 &&& (((1 : Int32) <<< (p1 &&& 31)) ^^^ (-1 : Int32))) (c_above_r52, c_below_r52) hq52) (cwV 3 hts gX11_without_X11_between0 rfl rfl rfl ⟨rfl, cdX11_between0⟩ ⟨Nat.le_of_ble_eq_true rfl, Nat.le_of_ble_eq_true rfl⟩) (zPV hK hP hD [0, 1] rfl rfl (q0 := 0) (ci := 11) rfl rfl rfl) rfl rfl hl.1 rfl (lv_room (Nat.le_of_ble_eq_true rfl)) dX11_without_52 ⟨Nat.zero_le _, Nat.zero_le _⟩) hP hD hS hA [0, 1] [] [0, 1] rfl rfl rfl rfl (fun H locs hP hD hS => ?_)
          refine lv_iload hx hb dX11_without_55 (lv_at hl 4 rfl) ?_
          refine lv_if_ne (tgt := 67) hx hb dX11_without_57 (by decide) (fun hc57 => ?_) (fun hc57 => ?_)
          · replace h := zi_f hc57 h
            refine lv_aload_n hx hb dX11_without_67 rfl (lv_at hl 0 rfl) ?_
            refine va_get (D := D) (ci := 11) (v := .long c_below_r52) (C := RX11) (T := TX11) (N := 33) hx hb hts uX11_without_X11 hown hK.1 hP 0 rfl rfl 4 (by decide) (hts (.fieldLink RX11 140 "WishedResistorModel" "below" "J") (List.mem_of_getElem? (i := 3) rfl)) (fun _ h9 => h9) rfl dX11_without_68 ?_
            exact hret (o := (c_below_r52, c_above_r52, c_below_r52)) h hP hD hS dX11_without_71
          · replace h := zi_t hc57 h
            refine lv_aload_n hx hb dX11_without_60 rfl (lv_at hl 0 rfl) ?_
            refine va_get (D := D) (ci := 11) (v := .long c_above_r52) (C := RX11) (T := TX11) (N := 33) hx hb hts uX11_without_X11 hown hK.1 hP 0 rfl rfl 3 (by decide) (hts (.fieldLink RX11 136 "WishedResistorModel" "above" "J") (List.mem_of_getElem? (i := 2) rfl)) (fun _ h9 => h9) rfl dX11_without_61 ?_
            refine lv_goto (tgt := 71) hx hb dX11_without_64 (by decide) ?_
            exact hret (o := (c_above_r52, c_above_r52, c_below_r52)) h hP hD hS dX11_without_71
        · replace h := zi_t hc32 h
          refine lv_ldc2 hx hb hown (hts (.constantLong RX11 155 (-9223372036854775808)) (List.mem_of_getElem? (i := 1) rfl)) dX11_without_35 ?_
          exact hret (o := ((-9223372036854775808 : Int64), c_above, c_below)) h hP hD hS dX11_without_38

theorem uX11_dearest_X11 : ∀ w ∈ u_ws RX11 TX11 33, w ∈ wsX11_dearest := fun w h => (List.mem_cons_of_mem _ (List.mem_append_right _ h))
abbrev wdX11_dearest (cy : Nat → ClassId) (b b_now b_imaged b_valueUp b_valueDown b_real b_brief b_order b_waits b_floats b_same b_upOf b_downOf b_tape b_open b_made b_paper b_reachUp b_reachDown b_reachHow b_reachFirst b_reachSecond b_begins b_carried : Nat) (c_hasImage : Int32) (c_above c_below : Int64) (c_orderMany c_waitMany c_seed c_size c_openMany c_paperMany c_reachMany : Int32) (c_now : Nat → Int32) : va_W := [(b, .inr (11, [.ref b_now, .ref b_imaged, .int c_hasImage, .long c_above, .long c_below, .ref b_valueUp, .ref b_valueDown, .ref b_real, .ref b_brief, .ref b_order, .int c_orderMany, .ref b_waits, .int c_waitMany, .ref b_floats, .int c_seed, .ref b_same, .ref b_upOf, .ref b_downOf, .ref b_tape, .int c_size, .ref b_open, .int c_openMany, .ref b_made, .ref b_paper, .int c_paperMany, .ref b_reachUp, .ref b_reachDown, .ref b_reachHow, .ref b_reachFirst, .ref b_reachSecond, .ref b_begins, .int c_reachMany, .ref b_carried])), (b_now, .inl (cy 0, 261, .inl c_now))]
abbrev rmX11_dearest : Room := { frames := 3, cells := 0, slots := 0, locals := 89 }
theorem cdX11_dearest : (yX11_dearest).cls ≠ "java/lang/invoke/MethodHandle" ∧ (yX11_dearest).cls ≠ "java/lang/invoke/VarHandle" ∧ (parseMethodDescriptor (yX11_dearest).desc).map (fun d => d.parameters.length) = some 2 := by decide +kernel
def fX11_dearest_J116 (v6_30 : Int64) (v8_30 : Int32) (rec30 : Int32 → Int64 → Int64 → Int32 → Int64 → Int64 → Option (Int32 × Int64 × Int64)) (c_above_r57 c_below_r57 : Int64) (s0_88 s0_101 : Int32) (s0_116 : Int64) : Option (Int32 × Int64 × Int64) :=
  if s0_88 = 0 then (rec30 s0_101 s0_116 v6_30 (v8_30 + (1 : Int32)) c_above_r57 c_below_r57) else (rec30 s0_101 s0_116 c_below_r57 (v8_30 + (1 : Int32)) c_above_r57 c_below_r57)
def fX11_dearest_J101 (v4_30 v6_30 : Int64) (v8_30 : Int32) (rec30 : Int32 → Int64 → Int64 → Int32 → Int64 → Int64 → Option (Int32 × Int64 × Int64)) (c_above_r57 c_below_r57 : Int64) (s0_88 : Int32) (s0_101 : Int32) : Option (Int32 × Int64 × Int64) :=
  if s0_88 = 0 then (fX11_dearest_J116 v6_30 v8_30 rec30 c_above_r57 c_below_r57 s0_88 s0_101 v4_30) else (fX11_dearest_J116 v6_30 v8_30 rec30 c_above_r57 c_below_r57 s0_88 s0_101 c_above_r57)
def fX11_dearest_J88 (v3_30 : Int32) (v4_30 v6_30 : Int64) (v8_30 : Int32) (rec30 : Int32 → Int64 → Int64 → Int32 → Int64 → Int64 → Option (Int32 × Int64 × Int64)) (c_above_r57 c_below_r57 : Int64) (s0_88 : Int32) : Option (Int32 × Int64 × Int64) :=
  if s0_88 = 0 then (fX11_dearest_J101 v4_30 v6_30 v8_30 rec30 c_above_r57 c_below_r57 s0_88 v3_30) else (fX11_dearest_J101 v4_30 v6_30 v8_30 rec30 c_above_r57 c_below_r57 s0_88 v8_30)
def fX11_dearest_L30 (c_now : Nat → Int32) (p1 p2 : Int32) : Nat → Int32 → Int64 → Int64 → Int32 → Int64 → Int64 → Option (Int32 × Int64 × Int64) :=
  zl6 (fun rec30 v3_30 v4_30 v6_30 v8_30 c_above_30 c_below_30 => if (c_now ((170 : Int32)).toNatClampNeg) ≤ v8_30 then (some (v3_30, c_above_30, c_below_30)) else (zb1 (fX11_live c_now) (fun r47 => zb2 (fX11_between0 p1 p2 (r47 &&& (((1 : Int32) <<< (v8_30 &&& 31)) ^^^ (-1 : Int32))) c_above_30 c_below_30 c_now) (fun c_above_r57 c_below_r57 => if v8_30 = 0 then (fX11_dearest_J88 v3_30 v4_30 v6_30 v8_30 rec30 c_above_r57 c_below_r57 (1 : Int32)) else (zb1 (fX11_isLess v4_30 v6_30 c_above_r57 c_below_r57) (fun r77 => if r77 = 0 then (fX11_dearest_J88 v3_30 v4_30 v6_30 v8_30 rec30 c_above_r57 c_below_r57 (0 : Int32)) else (fX11_dearest_J88 v3_30 v4_30 v6_30 v8_30 rec30 c_above_r57 c_below_r57 (1 : Int32))))))))
def fX11_dearest (p1 p2 : Int32) (c_above c_below : Int64) (c_now : Nat → Int32) : Option (Int32 × Int64 × Int64) :=
  zb1 (fX11_isPoint p1 c_now) (fun r2 => if r2 = 0 then (some ((-1 : Int32), c_above, c_below)) else (zb1 (fX11_isPoint p2 c_now) (fun r10 => if r10 = 0 then (some ((-1 : Int32), c_above, c_below)) else (fX11_dearest_L30 c_now p1 p2 5000 (-2 : Int32) (0 : Int64) (1 : Int64) (0 : Int32) c_above c_below))))
set_option maxHeartbeats 4000000 in
set_option maxRecDepth 100000 in
theorem mX11_dearest (l : Launch) (D : va_G) (cy : Nat → ClassId) (sz : Nat) (b b_now b_imaged b_valueUp b_valueDown b_real b_brief b_order b_waits b_floats b_same b_upOf b_downOf b_tape b_open b_made b_paper b_reachUp b_reachDown b_reachHow b_reachFirst b_reachSecond b_begins b_carried : Nat) (c_hasImage : Int32) (c_above c_below : Int64) (c_orderMany c_waitMany c_seed c_size c_openMany c_paperMany c_reachMany : Int32) (c_now : Nat → Int32) (p1 p2 : Int32) (res : (Int32 × Int64 × Int64)) (h : fX11_dearest p1 p2 c_above c_below c_now = some res) : zMi l yX11_dearest wsX11_dearest rmX11_dearest [.ref b, .int p1, .int p2] D cy (wdX11_dearest cy b b_now b_imaged b_valueUp b_valueDown b_real b_brief b_order b_waits b_floats b_same b_upOf b_downOf b_tape b_open b_made b_paper b_reachUp b_reachDown b_reachHow b_reachFirst b_reachSecond b_begins b_carried c_hasImage c_above c_below c_orderMany c_waitMany c_seed c_size c_openMany c_paperMany c_reachMany c_now) sz ((fun (o : (Int32 × Int64 × Int64)) => o.1) res) ((fun (o : (Int32 × Int64 × Int64)) => (wdX11_dearest cy b b_now b_imaged b_valueUp b_valueDown b_real b_brief b_order b_waits b_floats b_same b_upOf b_downOf b_tape b_open b_made b_paper b_reachUp b_reachDown b_reachHow b_reachFirst b_reachSecond b_begins b_carried c_hasImage (o.2.1) (o.2.2) c_orderMany c_waitMany c_seed c_size c_openMany c_paperMany c_reachMany c_now)) res) := by
  refine zOfi (res := res) (rf := (fun (o : (Int32 × Int64 × Int64)) => o.1)) (Wf := (fun (o : (Int32 × Int64 × Int64)) => (wdX11_dearest cy b b_now b_imaged b_valueUp b_valueDown b_real b_brief b_order b_waits b_floats b_same b_upOf b_downOf b_tape b_open b_made b_paper b_reachUp b_reachDown b_reachHow b_reachFirst b_reachSecond b_begins b_carried c_hasImage (o.2.1) (o.2.2) c_orderMany c_waitMany c_seed c_size c_openMany c_paperMany c_reachMany c_now))) (by decide +kernel) rfl (Nat.le_of_ble_eq_true rfl) ?_
  intro p e s m args below meth c A ls Q hx hb hml hts hown hP hK hD hA hS hl hret
  have hown : s.vm.findClass RX11 = some m.cls := hown
  have hl : lv_has ls 10 [(0, .ref b), (1, .int p1), (2, .int p2)] := hl
  refine lv_aload_n hx hb dX11_dearest_0 rfl (lv_at hl 0 rfl) ?_
  refine lv_iload_n hx hb dX11_dearest_1 rfl (lv_at hl 1 rfl) ?_
  obtain ⟨r2, hq2, h⟩ := zb1_s h
  refine zCz (r0 := r2) (w1 := (wdX11_isPoint cy b b_now b_imaged b_valueUp b_valueDown b_real b_brief b_order b_waits b_floats b_same b_upOf b_downOf b_tape b_open b_made b_paper b_reachUp b_reachDown b_reachHow b_reachFirst b_reachSecond b_begins b_carried c_hasImage c_above c_below c_orderMany c_waitMany c_seed c_size c_openMany c_paperMany c_reachMany c_now)) (ws' := (wdX11_dearest cy b b_now b_imaged b_valueUp b_valueDown b_real b_brief b_order b_waits b_floats b_same b_upOf b_downOf b_tape b_open b_made b_paper b_reachUp b_reachDown b_reachHow b_reachFirst b_reachSecond b_begins b_carried c_hasImage c_above c_below c_orderMany c_waitMany c_seed c_size c_openMany c_paperMany c_reachMany c_now)) (va_runV (As := [.int p1]) (rest := []) ⟨hx, hb, hml, hown, hts⟩ (mX11_isPoint l D cy s.heap.size b b_now b_imaged b_valueUp b_valueDown b_real b_brief b_order b_waits b_floats b_same b_upOf b_downOf b_tape b_open b_made b_paper b_reachUp b_reachDown b_reachHow b_reachFirst b_reachSecond b_begins b_carried c_hasImage c_above c_below c_orderMany c_waitMany c_seed c_size c_openMany c_paperMany c_reachMany c_now p1 (r2) hq2) (cwV 1 hts gX11_dearest_X11_isPoint rfl rfl rfl ⟨rfl, cdX11_isPoint⟩ ⟨Nat.le_of_ble_eq_true rfl, Nat.le_of_ble_eq_true rfl⟩) (zPV hK hP hD [0, 1] rfl rfl (q0 := 0) (ci := 11) rfl rfl rfl) rfl rfl hl.1 rfl (lv_room (Nat.le_of_ble_eq_true rfl)) dX11_dearest_2 ⟨Nat.zero_le _, Nat.zero_le _⟩) hP hD hS hA [0, 1] [] [0, 1] rfl rfl rfl rfl (fun H locs hn2 hP hD hS => ?_)
  refine lv_if_eq (tgt := 16) hx hb dX11_dearest_5 (by decide) (fun hc5 => ?_) (fun hc5 => ?_)
  · replace h := zi_t hc5 h
    refine lv_iconst (v := (-1 : Int32)) hx hb dX11_dearest_16 (by decide) ?_
    exact hret (o := ((-1 : Int32), c_above, c_below)) h hP hD hS dX11_dearest_17
  · replace h := zi_f hc5 h
    refine lv_aload_n hx hb dX11_dearest_8 rfl (lv_at hl 0 rfl) ?_
    refine lv_iload_n hx hb dX11_dearest_9 rfl (lv_at hl 2 rfl) ?_
    obtain ⟨r10, hq10, h⟩ := zb1_s h
    refine zCz (r0 := r10) (w1 := (wdX11_isPoint cy b b_now b_imaged b_valueUp b_valueDown b_real b_brief b_order b_waits b_floats b_same b_upOf b_downOf b_tape b_open b_made b_paper b_reachUp b_reachDown b_reachHow b_reachFirst b_reachSecond b_begins b_carried c_hasImage c_above c_below c_orderMany c_waitMany c_seed c_size c_openMany c_paperMany c_reachMany c_now)) (ws' := (wdX11_dearest cy b b_now b_imaged b_valueUp b_valueDown b_real b_brief b_order b_waits b_floats b_same b_upOf b_downOf b_tape b_open b_made b_paper b_reachUp b_reachDown b_reachHow b_reachFirst b_reachSecond b_begins b_carried c_hasImage c_above c_below c_orderMany c_waitMany c_seed c_size c_openMany c_paperMany c_reachMany c_now)) (va_runV (As := [.int p2]) (rest := []) ⟨hx, hb, hml, hown, hts⟩ (mX11_isPoint l D cy H.size b b_now b_imaged b_valueUp b_valueDown b_real b_brief b_order b_waits b_floats b_same b_upOf b_downOf b_tape b_open b_made b_paper b_reachUp b_reachDown b_reachHow b_reachFirst b_reachSecond b_begins b_carried c_hasImage c_above c_below c_orderMany c_waitMany c_seed c_size c_openMany c_paperMany c_reachMany c_now p2 (r10) hq10) (cwV 1 hts gX11_dearest_X11_isPoint rfl rfl rfl ⟨rfl, cdX11_isPoint⟩ ⟨Nat.le_of_ble_eq_true rfl, Nat.le_of_ble_eq_true rfl⟩) (zPV hK hP hD [0, 1] rfl rfl (q0 := 0) (ci := 11) rfl rfl rfl) rfl rfl hl.1 rfl (lv_room (Nat.le_of_ble_eq_true rfl)) dX11_dearest_10 ⟨Nat.zero_le _, Nat.zero_le _⟩) hP hD hS hA [0, 1] [] [0, 1] rfl rfl rfl rfl (fun H locs hn10 hP hD hS => ?_)
    refine lv_if_ne (tgt := 18) hx hb dX11_dearest_13 (by decide) (fun hc13 => ?_) (fun hc13 => ?_)
    · replace h := zi_f hc13 h
      refine lv_bipush (v := (-2 : Int32)) hx hb dX11_dearest_18 (by decide) ?_
      refine lv_istore_n (lv' := [(3, .int (-2 : Int32)), (0, .ref b), (1, .int p1), (2, .int p2)]) hx hb dX11_dearest_20 rfl hl (Nat.le_of_ble_eq_true rfl) rfl (fun ls hl => ?_)
      refine lv_lconst (v := (0 : Int64)) hx hb dX11_dearest_21 (by decide) ?_
      refine lv_lstore (lv' := [(4, .long (0 : Int64)), (3, .int (-2 : Int32)), (0, .ref b), (1, .int p1), (2, .int p2)]) hx hb dX11_dearest_22 hl (Nat.le_of_ble_eq_true rfl) rfl (fun ls hl => ?_)
      refine lv_lconst (v := (1 : Int64)) hx hb dX11_dearest_24 (by decide) ?_
      refine lv_lstore (lv' := [(6, .long (1 : Int64)), (4, .long (0 : Int64)), (3, .int (-2 : Int32)), (0, .ref b), (1, .int p1), (2, .int p2)]) hx hb dX11_dearest_25 hl (Nat.le_of_ble_eq_true rfl) rfl (fun ls hl => ?_)
      refine lv_iconst (v := (0 : Int32)) hx hb dX11_dearest_27 (by decide) ?_
      refine lv_istore (lv' := [(8, .int (0 : Int32)), (6, .long (1 : Int64)), (4, .long (0 : Int64)), (3, .int (-2 : Int32)), (0, .ref b), (1, .int p1), (2, .int p2)]) hx hb dX11_dearest_28 hl (Nat.le_of_ble_eq_true rfl) rfl (fun ls hl => ?_)
      have hL30 : ∀ n30 : Nat, ∀ (v3_30 : Int32) (v4_30 v6_30 : Int64) (v8_30 : Int32) (c_above_30 c_below_30 : Int64) (H : Heap) (locs : List Loc) (ls : Array Slot), va_P D vwCl (wdX11_dearest cy b b_now b_imaged b_valueUp b_valueDown b_real b_brief b_order b_waits b_floats b_same b_upOf b_downOf b_tape b_open b_made b_paper b_reachUp b_reachDown b_reachHow b_reachFirst b_reachSecond b_begins b_carried c_hasImage c_above_30 c_below_30 c_orderMany c_waitMany c_seed c_size c_openMany c_paperMany c_reachMany c_now) H → va_D A (wdX11_dearest cy b b_now b_imaged b_valueUp b_valueDown b_real b_brief b_order b_waits b_floats b_same b_upOf b_downOf b_tape b_open b_made b_paper b_reachUp b_reachDown b_reachHow b_reachFirst b_reachSecond b_begins b_carried c_hasImage c_above_30 c_below_30 c_orderMany c_waitMany c_seed c_size c_openMany c_paperMany c_reachMany c_now) → va_S A s.heap H locs → lv_has ls 10 [(0, .ref b), (1, .int p1), (2, .int p2), (3, .int v3_30), (4, .long v4_30), (6, .long v6_30), (8, .int v8_30)] → fX11_dearest_L30 c_now p1 p2 n30 v3_30 v4_30 v6_30 v8_30 c_above_30 c_below_30 = some res → W p l e rmX11_dearest s m args below meth c H locs 0 0 Q (F0 m 30 ls []) := by
        intro n30
        induction n30 with
        | zero =>
          intro v3_30 v4_30 v6_30 v8_30 c_above_30 c_below_30 H locs ls hP hD hS hl h
          exact zl6_0 h
        | succ n30 ih30 =>
          intro v3_30 v4_30 v6_30 v8_30 c_above_30 c_below_30 H locs ls hP hD hS hl h
          replace h := zl6_s h
          refine lv_iload hx hb dX11_dearest_30 (lv_at hl 6 rfl) ?_
          refine lv_aload_n hx hb dX11_dearest_32 rfl (lv_at hl 0 rfl) ?_
          refine va_get (D := D) (ci := 11) (v := .ref b_now) (C := RX11) (T := TX11) (N := 33) hx hb hts uX11_dearest_X11 hown hK.1 hP 0 rfl rfl 0 (by decide) (hts (.fieldLink RX11 9 "WishedResistorModel" "now" "[I") (List.mem_of_getElem? (i := 1) rfl)) (fun _ h9 => h9) rfl dX11_dearest_33 ?_
          refine lv_sipush (v := (170 : Int32)) hx hb dX11_dearest_36 (by decide) ?_
          refine va_iald hx hb hK.1 hP 1 0 rfl rfl (show zin (170 : Int32) 261 from by decide) dX11_dearest_39 ?_
          refine lv_icmp_ge (tgt := 140) hx hb dX11_dearest_40 (by decide) (fun hc40 => ?_) (fun hc40 => ?_)
          · replace h := zi_t hc40 h
            refine lv_iload_n hx hb dX11_dearest_140 rfl (lv_at hl 3 rfl) ?_
            exact hret (o := (v3_30, c_above_30, c_below_30)) h hP hD hS dX11_dearest_141
          · replace h := zi_f hc40 h
            refine lv_aload_n hx hb dX11_dearest_43 rfl (lv_at hl 0 rfl) ?_
            refine lv_iload_n hx hb dX11_dearest_44 rfl (lv_at hl 1 rfl) ?_
            refine lv_iload_n hx hb dX11_dearest_45 rfl (lv_at hl 2 rfl) ?_
            refine lv_aload_n hx hb dX11_dearest_46 rfl (lv_at hl 0 rfl) ?_
            obtain ⟨r47, hq47, h⟩ := zb1_s h
            refine zCi (r0 := r47) (w1 := (wdX11_live cy b b_now b_imaged b_valueUp b_valueDown b_real b_brief b_order b_waits b_floats b_same b_upOf b_downOf b_tape b_open b_made b_paper b_reachUp b_reachDown b_reachHow b_reachFirst b_reachSecond b_begins b_carried c_hasImage c_above_30 c_below_30 c_orderMany c_waitMany c_seed c_size c_openMany c_paperMany c_reachMany c_now)) (ws' := (wdX11_dearest cy b b_now b_imaged b_valueUp b_valueDown b_real b_brief b_order b_waits b_floats b_same b_upOf b_downOf b_tape b_open b_made b_paper b_reachUp b_reachDown b_reachHow b_reachFirst b_reachSecond b_begins b_carried c_hasImage c_above_30 c_below_30 c_orderMany c_waitMany c_seed c_size c_openMany c_paperMany c_reachMany c_now)) (va_runV (As := []) (rest := [.int p2, .int p1, .ref b]) ⟨hx, hb, hml, hown, hts⟩ (mX11_live l D cy H.size b b_now b_imaged b_valueUp b_valueDown b_real b_brief b_order b_waits b_floats b_same b_upOf b_downOf b_tape b_open b_made b_paper b_reachUp b_reachDown b_reachHow b_reachFirst b_reachSecond b_begins b_carried c_hasImage c_above_30 c_below_30 c_orderMany c_waitMany c_seed c_size c_openMany c_paperMany c_reachMany c_now (r47) hq47) (cwV 0 hts gX11_dearest_X11_live rfl rfl rfl ⟨rfl, cdX11_live⟩ ⟨Nat.le_of_ble_eq_true rfl, Nat.le_of_ble_eq_true rfl⟩) (zPV hK hP hD [0, 1] rfl rfl (q0 := 0) (ci := 11) rfl rfl rfl) rfl rfl hl.1 rfl (lv_room (Nat.le_of_ble_eq_true rfl)) dX11_dearest_47 ⟨Nat.zero_le _, Nat.zero_le _⟩) hP hD hS hA [0, 1] [] [0, 1] rfl rfl rfl rfl (fun H locs hP hD hS => ?_)
            refine lv_iconst (v := (1 : Int32)) hx hb dX11_dearest_50 (by decide) ?_
            refine lv_iload hx hb dX11_dearest_51 (lv_at hl 6 rfl) ?_
            refine lv_ishl hx hb dX11_dearest_53 ?_
            refine lv_iconst (v := (-1 : Int32)) hx hb dX11_dearest_54 (by decide) ?_
            refine lv_ixor hx hb dX11_dearest_55 ?_
            refine lv_iand hx hb dX11_dearest_56 ?_
            obtain ⟨c_above_r57, c_below_r57, hq57, h⟩ := zb2_s h
            refine zCv (w1 := (wdX11_between0 cy b b_now b_imaged b_valueUp b_valueDown b_real b_brief b_order b_waits b_floats b_same b_upOf b_downOf b_tape b_open b_made b_paper b_reachUp b_reachDown b_reachHow b_reachFirst b_reachSecond b_begins b_carried c_hasImage c_above_r57 c_below_r57 c_orderMany c_waitMany c_seed c_size c_openMany c_paperMany c_reachMany c_now)) (ws' := (wdX11_dearest cy b b_now b_imaged b_valueUp b_valueDown b_real b_brief b_order b_waits b_floats b_same b_upOf b_downOf b_tape b_open b_made b_paper b_reachUp b_reachDown b_reachHow b_reachFirst b_reachSecond b_begins b_carried c_hasImage c_above_r57 c_below_r57 c_orderMany c_waitMany c_seed c_size c_openMany c_paperMany c_reachMany c_now)) (va_runV (As := [.int p1, .int p2, .int (r47 &&& (((1 : Int32) <<< (v8_30 &&& 31)) ^^^ (-1 : Int32)))]) (rest := []) ⟨hx, hb, hml, hown, hts⟩ (mX11_between0 l D cy H.size b b_now b_imaged b_valueUp b_valueDown b_real b_brief b_order b_waits b_floats b_same b_upOf b_downOf b_tape b_open b_made b_paper b_reachUp b_reachDown b_reachHow b_reachFirst b_reachSecond b_begins b_carried c_hasImage c_above_30 c_below_30 c_orderMany c_waitMany c_seed c_size c_openMany c_paperMany c_reachMany c_now p1 p2 (r47 &&& (((1 : Int32) <<< (v8_30 &&& 31)) ^^^ (-1 : Int32))) (c_above_r57, c_below_r57) hq57) (cwV 3 hts gX11_dearest_X11_between0 rfl rfl rfl ⟨rfl, cdX11_between0⟩ ⟨Nat.le_of_ble_eq_true rfl, Nat.le_of_ble_eq_true rfl⟩) (zPV hK hP hD [0, 1] rfl rfl (q0 := 0) (ci := 11) rfl rfl rfl) rfl rfl hl.1 rfl (lv_room (Nat.le_of_ble_eq_true rfl)) dX11_dearest_57 ⟨Nat.zero_le _, Nat.zero_le _⟩) hP hD hS hA [0, 1] [] [0, 1] rfl rfl rfl rfl (fun H locs hP hD hS => ?_)
            refine lv_iload hx hb dX11_dearest_60 (lv_at hl 6 rfl) ?_
            have hJ88 : ∀ (s0_88 : Int32) (H : Heap) (locs : List Loc) (ls : Array Slot), va_P D vwCl (wdX11_dearest cy b b_now b_imaged b_valueUp b_valueDown b_real b_brief b_order b_waits b_floats b_same b_upOf b_downOf b_tape b_open b_made b_paper b_reachUp b_reachDown b_reachHow b_reachFirst b_reachSecond b_begins b_carried c_hasImage c_above_r57 c_below_r57 c_orderMany c_waitMany c_seed c_size c_openMany c_paperMany c_reachMany c_now) H → va_D A (wdX11_dearest cy b b_now b_imaged b_valueUp b_valueDown b_real b_brief b_order b_waits b_floats b_same b_upOf b_downOf b_tape b_open b_made b_paper b_reachUp b_reachDown b_reachHow b_reachFirst b_reachSecond b_begins b_carried c_hasImage c_above_r57 c_below_r57 c_orderMany c_waitMany c_seed c_size c_openMany c_paperMany c_reachMany c_now) → va_S A s.heap H locs → lv_has ls 10 [(0, .ref b), (1, .int p1), (2, .int p2), (3, .int v3_30), (4, .long v4_30), (6, .long v6_30), (8, .int v8_30)] → fX11_dearest_J88 v3_30 v4_30 v6_30 v8_30 (fX11_dearest_L30 c_now p1 p2 n30) c_above_r57 c_below_r57 s0_88 = some res → W p l e rmX11_dearest s m args below meth c H locs 0 0 Q (F0 m 88 ls [.int s0_88]) := by
              intro s0_88 H locs ls hP hD hS hl h
              refine lv_istore (lv' := [(9, .int s0_88), (0, .ref b), (1, .int p1), (2, .int p2), (3, .int v3_30), (4, .long v4_30), (6, .long v6_30), (8, .int v8_30)]) hx hb dX11_dearest_88 hl (Nat.le_of_ble_eq_true rfl) rfl (fun ls hl => ?_)
              refine lv_iload hx hb dX11_dearest_90 (lv_at hl 0 rfl) ?_
              have hJ101 : ∀ (s0_101 : Int32) (H : Heap) (locs : List Loc) (ls : Array Slot), va_P D vwCl (wdX11_dearest cy b b_now b_imaged b_valueUp b_valueDown b_real b_brief b_order b_waits b_floats b_same b_upOf b_downOf b_tape b_open b_made b_paper b_reachUp b_reachDown b_reachHow b_reachFirst b_reachSecond b_begins b_carried c_hasImage c_above_r57 c_below_r57 c_orderMany c_waitMany c_seed c_size c_openMany c_paperMany c_reachMany c_now) H → va_D A (wdX11_dearest cy b b_now b_imaged b_valueUp b_valueDown b_real b_brief b_order b_waits b_floats b_same b_upOf b_downOf b_tape b_open b_made b_paper b_reachUp b_reachDown b_reachHow b_reachFirst b_reachSecond b_begins b_carried c_hasImage c_above_r57 c_below_r57 c_orderMany c_waitMany c_seed c_size c_openMany c_paperMany c_reachMany c_now) → va_S A s.heap H locs → lv_has ls 10 [(0, .ref b), (1, .int p1), (2, .int p2), (4, .long v4_30), (6, .long v6_30), (8, .int v8_30), (9, .int s0_88)] → fX11_dearest_J101 v4_30 v6_30 v8_30 (fX11_dearest_L30 c_now p1 p2 n30) c_above_r57 c_below_r57 s0_88 s0_101 = some res → W p l e rmX11_dearest s m args below meth c H locs 0 0 Q (F0 m 101 ls [.int s0_101]) := by
                intro s0_101 H locs ls hP hD hS hl h
                refine lv_istore_n (lv' := [(3, .int s0_101), (0, .ref b), (1, .int p1), (2, .int p2), (4, .long v4_30), (6, .long v6_30), (8, .int v8_30), (9, .int s0_88)]) hx hb dX11_dearest_101 rfl hl (Nat.le_of_ble_eq_true rfl) rfl (fun ls hl => ?_)
                refine lv_iload hx hb dX11_dearest_102 (lv_at hl 7 rfl) ?_
                have hJ116 : ∀ (s0_116 : Int64) (H : Heap) (locs : List Loc) (ls : Array Slot), va_P D vwCl (wdX11_dearest cy b b_now b_imaged b_valueUp b_valueDown b_real b_brief b_order b_waits b_floats b_same b_upOf b_downOf b_tape b_open b_made b_paper b_reachUp b_reachDown b_reachHow b_reachFirst b_reachSecond b_begins b_carried c_hasImage c_above_r57 c_below_r57 c_orderMany c_waitMany c_seed c_size c_openMany c_paperMany c_reachMany c_now) H → va_D A (wdX11_dearest cy b b_now b_imaged b_valueUp b_valueDown b_real b_brief b_order b_waits b_floats b_same b_upOf b_downOf b_tape b_open b_made b_paper b_reachUp b_reachDown b_reachHow b_reachFirst b_reachSecond b_begins b_carried c_hasImage c_above_r57 c_below_r57 c_orderMany c_waitMany c_seed c_size c_openMany c_paperMany c_reachMany c_now) → va_S A s.heap H locs → lv_has ls 10 [(0, .ref b), (1, .int p1), (2, .int p2), (3, .int s0_101), (6, .long v6_30), (8, .int v8_30), (9, .int s0_88)] → fX11_dearest_J116 v6_30 v8_30 (fX11_dearest_L30 c_now p1 p2 n30) c_above_r57 c_below_r57 s0_88 s0_101 s0_116 = some res → W p l e rmX11_dearest s m args below meth c H locs 0 0 Q (F0 m 116 ls [.long s0_116]) := by
                  intro s0_116 H locs ls hP hD hS hl h
                  refine lv_lstore (lv' := [(4, .long s0_116), (0, .ref b), (1, .int p1), (2, .int p2), (3, .int s0_101), (6, .long v6_30), (8, .int v8_30), (9, .int s0_88)]) hx hb dX11_dearest_116 hl (Nat.le_of_ble_eq_true rfl) rfl (fun ls hl => ?_)
                  refine lv_iload hx hb dX11_dearest_118 (lv_at hl 7 rfl) ?_
                  refine lv_if_eq (tgt := 130) hx hb dX11_dearest_120 (by decide) (fun hc120 => ?_) (fun hc120 => ?_)
                  · replace h := zi_t hc120 h
                    refine lv_lload hx hb dX11_dearest_130 (lv_at hl 5 rfl) ?_
                    refine lv_lstore (lv' := [(6, .long v6_30), (4, .long s0_116), (0, .ref b), (1, .int p1), (2, .int p2), (3, .int s0_101), (8, .int v8_30), (9, .int s0_88)]) hx hb dX11_dearest_132 hl (Nat.le_of_ble_eq_true rfl) rfl (fun ls hl => ?_)
                    refine lv_iinc (v := (v8_30 + (1 : Int32))) (lv' := [(8, .int (v8_30 + (1 : Int32))), (6, .long v6_30), (4, .long s0_116), (0, .ref b), (1, .int p1), (2, .int p2), (3, .int s0_101), (9, .int s0_88)]) hx hb dX11_dearest_134 hl (k := 6) rfl (by rfl) (Nat.le_of_ble_eq_true rfl) rfl (fun ls hl => ?_)
                    refine lv_goto (tgt := 30) hx hb dX11_dearest_137 (by decide) ?_
                    exact ih30 s0_101 s0_116 v6_30 (v8_30 + (1 : Int32)) c_above_r57 c_below_r57 _ _ _ hP hD hS (lv_sub hl [3, 4, 5, 6, 2, 1, 0] rfl) h
                  · replace h := zi_f hc120 h
                    refine lv_aload_n hx hb dX11_dearest_123 rfl (lv_at hl 1 rfl) ?_
                    refine va_get (D := D) (ci := 11) (v := .long c_below_r57) (C := RX11) (T := TX11) (N := 33) hx hb hts uX11_dearest_X11 hown hK.1 hP 0 rfl rfl 4 (by decide) (hts (.fieldLink RX11 140 "WishedResistorModel" "below" "J") (List.mem_of_getElem? (i := 3) rfl)) (fun _ h9 => h9) rfl dX11_dearest_124 ?_
                    refine lv_goto (tgt := 132) hx hb dX11_dearest_127 (by decide) ?_
                    refine lv_lstore (lv' := [(6, .long c_below_r57), (4, .long s0_116), (0, .ref b), (1, .int p1), (2, .int p2), (3, .int s0_101), (8, .int v8_30), (9, .int s0_88)]) hx hb dX11_dearest_132 hl (Nat.le_of_ble_eq_true rfl) rfl (fun ls hl => ?_)
                    refine lv_iinc (v := (v8_30 + (1 : Int32))) (lv' := [(8, .int (v8_30 + (1 : Int32))), (6, .long c_below_r57), (4, .long s0_116), (0, .ref b), (1, .int p1), (2, .int p2), (3, .int s0_101), (9, .int s0_88)]) hx hb dX11_dearest_134 hl (k := 6) rfl (by rfl) (Nat.le_of_ble_eq_true rfl) rfl (fun ls hl => ?_)
                    refine lv_goto (tgt := 30) hx hb dX11_dearest_137 (by decide) ?_
                    exact ih30 s0_101 s0_116 c_below_r57 (v8_30 + (1 : Int32)) c_above_r57 c_below_r57 _ _ _ hP hD hS (lv_sub hl [3, 4, 5, 6, 2, 1, 0] rfl) h
                refine lv_if_eq (tgt := 114) hx hb dX11_dearest_104 (by decide) (fun hc104 => ?_) (fun hc104 => ?_)
                · replace h := zi_t hc104 h
                  refine lv_lload hx hb dX11_dearest_114 (lv_at hl 4 rfl) ?_
                  exact hJ116 v4_30 _ _ _ hP hD hS (lv_sub hl [1, 2, 3, 0, 5, 6, 7] rfl) h
                · replace h := zi_f hc104 h
                  refine lv_aload_n hx hb dX11_dearest_107 rfl (lv_at hl 1 rfl) ?_
                  refine va_get (D := D) (ci := 11) (v := .long c_above_r57) (C := RX11) (T := TX11) (N := 33) hx hb hts uX11_dearest_X11 hown hK.1 hP 0 rfl rfl 3 (by decide) (hts (.fieldLink RX11 136 "WishedResistorModel" "above" "J") (List.mem_of_getElem? (i := 2) rfl)) (fun _ h9 => h9) rfl dX11_dearest_108 ?_
                  refine lv_goto (tgt := 116) hx hb dX11_dearest_111 (by decide) ?_
                  exact hJ116 c_above_r57 _ _ _ hP hD hS (lv_sub hl [1, 2, 3, 0, 5, 6, 7] rfl) h
              refine lv_if_eq (tgt := 100) hx hb dX11_dearest_92 (by decide) (fun hc92 => ?_) (fun hc92 => ?_)
              · replace h := zi_t hc92 h
                refine lv_iload_n hx hb dX11_dearest_100 rfl (lv_at hl 4 rfl) ?_
                exact hJ101 v3_30 _ _ _ hP hD hS (lv_sub hl [1, 2, 3, 5, 6, 7, 0] rfl) h
              · replace h := zi_f hc92 h
                refine lv_iload hx hb dX11_dearest_95 (lv_at hl 7 rfl) ?_
                refine lv_goto (tgt := 101) hx hb dX11_dearest_97 (by decide) ?_
                exact hJ101 v8_30 _ _ _ hP hD hS (lv_sub hl [1, 2, 3, 5, 6, 7, 0] rfl) h
            refine lv_if_eq (tgt := 83) hx hb dX11_dearest_62 (by decide) (fun hc62 => ?_) (fun hc62 => ?_)
            · replace h := zi_t hc62 h
              refine lv_iconst (v := (1 : Int32)) hx hb dX11_dearest_83 (by decide) ?_
              refine lv_goto (tgt := 88) hx hb dX11_dearest_84 (by decide) ?_
              exact hJ88 (1 : Int32) _ _ _ hP hD hS (lv_sub hl [0, 1, 2, 3, 4, 5, 6] rfl) h
            · replace h := zi_f hc62 h
              refine lv_lload hx hb dX11_dearest_65 (lv_at hl 4 rfl) ?_
              refine lv_lload hx hb dX11_dearest_67 (lv_at hl 5 rfl) ?_
              refine lv_aload_n hx hb dX11_dearest_69 rfl (lv_at hl 0 rfl) ?_
              refine va_get (D := D) (ci := 11) (v := .long c_above_r57) (C := RX11) (T := TX11) (N := 33) hx hb hts uX11_dearest_X11 hown hK.1 hP 0 rfl rfl 3 (by decide) (hts (.fieldLink RX11 136 "WishedResistorModel" "above" "J") (List.mem_of_getElem? (i := 2) rfl)) (fun _ h9 => h9) rfl dX11_dearest_70 ?_
              refine lv_aload_n hx hb dX11_dearest_73 rfl (lv_at hl 0 rfl) ?_
              refine va_get (D := D) (ci := 11) (v := .long c_below_r57) (C := RX11) (T := TX11) (N := 33) hx hb hts uX11_dearest_X11 hown hK.1 hP 0 rfl rfl 4 (by decide) (hts (.fieldLink RX11 140 "WishedResistorModel" "below" "J") (List.mem_of_getElem? (i := 3) rfl)) (fun _ h9 => h9) rfl dX11_dearest_74 ?_
              obtain ⟨r77, hq77, h⟩ := zb1_s h
              refine zCz0 (r0 := r77) (va_runS (As := [.long v4_30, .long v6_30, .long c_above_r57, .long c_below_r57]) (rest := []) ⟨hx, hb, hml, hown, hts⟩ (mX11_isLess l D cy H.size v4_30 v6_30 c_above_r57 c_below_r57 (r77) hq77) (va_cwS 4 hts gX11_dearest_X11_isLess rfl rfl rfl cdX11_isLess ⟨Nat.le_of_ble_eq_true rfl, Nat.le_of_ble_eq_true rfl⟩) (zPS hK hP hD [] rfl rfl) rfl rfl hl.1 rfl (lv_room (Nat.le_of_ble_eq_true rfl)) dX11_dearest_77 ⟨Nat.zero_le _, Nat.zero_le _⟩) hP hD hS hA (fun H locs hn77 hP hD hS => ?_)
              refine lv_if_eq (tgt := 87) hx hb dX11_dearest_80 (by decide) (fun hc80 => ?_) (fun hc80 => ?_)
              · replace h := zi_t hc80 h
                refine lv_iconst (v := (0 : Int32)) hx hb dX11_dearest_87 (by decide) ?_
                exact hJ88 (0 : Int32) _ _ _ hP hD hS (lv_sub hl [0, 1, 2, 3, 4, 5, 6] rfl) h
              · replace h := zi_f hc80 h
                refine lv_iconst (v := (1 : Int32)) hx hb dX11_dearest_83 (by decide) ?_
                refine lv_goto (tgt := 88) hx hb dX11_dearest_84 (by decide) ?_
                exact hJ88 (1 : Int32) _ _ _ hP hD hS (lv_sub hl [0, 1, 2, 3, 4, 5, 6] rfl) h
      exact hL30 5000 (-2 : Int32) (0 : Int64) (1 : Int64) (0 : Int32) c_above c_below _ _ _ hP hD hS (lv_sub hl [4, 5, 6, 3, 2, 1, 0] rfl) h
    · replace h := zi_t hc13 h
      refine lv_iconst (v := (-1 : Int32)) hx hb dX11_dearest_16 (by decide) ?_
      exact hret (o := ((-1 : Int32), c_above, c_below)) h hP hD hS dX11_dearest_17

theorem uX11_bridges_X11 : ∀ w ∈ u_ws RX11 TX11 33, w ∈ wsX11_bridges := fun w h => (List.mem_cons_of_mem _ (List.mem_append_right _ h))
abbrev wdX11_bridges (cy : Nat → ClassId) (b b_now b_imaged b_valueUp b_valueDown b_real b_brief b_order b_waits b_floats b_same b_upOf b_downOf b_tape b_open b_made b_paper b_reachUp b_reachDown b_reachHow b_reachFirst b_reachSecond b_begins b_carried : Nat) (c_hasImage : Int32) (c_above c_below : Int64) (c_orderMany c_waitMany c_seed c_size c_openMany c_paperMany c_reachMany : Int32) (c_now : Nat → Int32) : va_W := [(b, .inr (11, [.ref b_now, .ref b_imaged, .int c_hasImage, .long c_above, .long c_below, .ref b_valueUp, .ref b_valueDown, .ref b_real, .ref b_brief, .ref b_order, .int c_orderMany, .ref b_waits, .int c_waitMany, .ref b_floats, .int c_seed, .ref b_same, .ref b_upOf, .ref b_downOf, .ref b_tape, .int c_size, .ref b_open, .int c_openMany, .ref b_made, .ref b_paper, .int c_paperMany, .ref b_reachUp, .ref b_reachDown, .ref b_reachHow, .ref b_reachFirst, .ref b_reachSecond, .ref b_begins, .int c_reachMany, .ref b_carried])), (b_now, .inl (cy 0, 261, .inl c_now))]
abbrev rmX11_bridges : Room := { frames := 2, cells := 0, slots := 0, locals := 46 }
theorem cdX11_bridges : (yX11_bridges).cls ≠ "java/lang/invoke/MethodHandle" ∧ (yX11_bridges).cls ≠ "java/lang/invoke/VarHandle" ∧ (parseMethodDescriptor (yX11_bridges).desc).map (fun d => d.parameters.length) = some 2 := by decide +kernel
def fX11_bridges_L42 (c_now : Nat → Int32) (p1 p2 : Int32) : Nat → Int32 → Int32 → Option (Int32) :=
  zl2 (fun rec42 v3_42 v4_42 => if (c_now ((170 : Int32)).toNatClampNeg) ≤ v4_42 then (some (v3_42)) else (zb1 (fX11_live c_now) (fun r59 => zb1 (fX11_comesTo p1 (r59 &&& (((1 : Int32) <<< (v4_42 &&& 31)) ^^^ (-1 : Int32))) c_now) (fun r69 => if ((r69 >>> (p2 &&& 31)) &&& (1 : Int32)) = 0 then (rec42 (v3_42 ||| ((1 : Int32) <<< (v4_42 &&& 31))) (v4_42 + (1 : Int32))) else (rec42 (v3_42 ||| (0 : Int32)) (v4_42 + (1 : Int32)))))))
def fX11_bridges (p1 p2 : Int32) (c_now : Nat → Int32) : Option (Int32) :=
  zb1 (fX11_isPoint p1 c_now) (fun r2 => if r2 = 0 then (some ((-1 : Int32))) else (zb1 (fX11_isPoint p2 c_now) (fun r10 => if r10 = 0 then (some ((-1 : Int32))) else (zb1 (fX11_live c_now) (fun r21 => zb1 (fX11_comesTo p1 r21 c_now) (fun r24 => if ((r24 >>> (p2 &&& 31)) &&& (1 : Int32)) = 0 then (some ((-5 : Int32))) else (fX11_bridges_L42 c_now p1 p2 5000 (0 : Int32) (0 : Int32))))))))
set_option maxHeartbeats 4000000 in
set_option maxRecDepth 100000 in
theorem mX11_bridges (l : Launch) (D : va_G) (cy : Nat → ClassId) (sz : Nat) (b b_now b_imaged b_valueUp b_valueDown b_real b_brief b_order b_waits b_floats b_same b_upOf b_downOf b_tape b_open b_made b_paper b_reachUp b_reachDown b_reachHow b_reachFirst b_reachSecond b_begins b_carried : Nat) (c_hasImage : Int32) (c_above c_below : Int64) (c_orderMany c_waitMany c_seed c_size c_openMany c_paperMany c_reachMany : Int32) (c_now : Nat → Int32) (p1 p2 : Int32) (res : (Int32)) (h : fX11_bridges p1 p2 c_now = some res) : zMi l yX11_bridges wsX11_bridges rmX11_bridges [.ref b, .int p1, .int p2] D cy (wdX11_bridges cy b b_now b_imaged b_valueUp b_valueDown b_real b_brief b_order b_waits b_floats b_same b_upOf b_downOf b_tape b_open b_made b_paper b_reachUp b_reachDown b_reachHow b_reachFirst b_reachSecond b_begins b_carried c_hasImage c_above c_below c_orderMany c_waitMany c_seed c_size c_openMany c_paperMany c_reachMany c_now) sz ((fun (o : (Int32)) => o) res) ((fun (o : (Int32)) => (wdX11_bridges cy b b_now b_imaged b_valueUp b_valueDown b_real b_brief b_order b_waits b_floats b_same b_upOf b_downOf b_tape b_open b_made b_paper b_reachUp b_reachDown b_reachHow b_reachFirst b_reachSecond b_begins b_carried c_hasImage c_above c_below c_orderMany c_waitMany c_seed c_size c_openMany c_paperMany c_reachMany c_now)) res) := by
  refine zOfi (res := res) (rf := (fun (o : (Int32)) => o)) (Wf := (fun (o : (Int32)) => (wdX11_bridges cy b b_now b_imaged b_valueUp b_valueDown b_real b_brief b_order b_waits b_floats b_same b_upOf b_downOf b_tape b_open b_made b_paper b_reachUp b_reachDown b_reachHow b_reachFirst b_reachSecond b_begins b_carried c_hasImage c_above c_below c_orderMany c_waitMany c_seed c_size c_openMany c_paperMany c_reachMany c_now))) (by decide +kernel) rfl (Nat.le_of_ble_eq_true rfl) ?_
  intro p e s m args below meth c A ls Q hx hb hml hts hown hP hK hD hA hS hl hret
  have hown : s.vm.findClass RX11 = some m.cls := hown
  have hl : lv_has ls 5 [(0, .ref b), (1, .int p1), (2, .int p2)] := hl
  refine lv_aload_n hx hb dX11_bridges_0 rfl (lv_at hl 0 rfl) ?_
  refine lv_iload_n hx hb dX11_bridges_1 rfl (lv_at hl 1 rfl) ?_
  obtain ⟨r2, hq2, h⟩ := zb1_s h
  refine zCz (r0 := r2) (w1 := (wdX11_isPoint cy b b_now b_imaged b_valueUp b_valueDown b_real b_brief b_order b_waits b_floats b_same b_upOf b_downOf b_tape b_open b_made b_paper b_reachUp b_reachDown b_reachHow b_reachFirst b_reachSecond b_begins b_carried c_hasImage c_above c_below c_orderMany c_waitMany c_seed c_size c_openMany c_paperMany c_reachMany c_now)) (ws' := (wdX11_bridges cy b b_now b_imaged b_valueUp b_valueDown b_real b_brief b_order b_waits b_floats b_same b_upOf b_downOf b_tape b_open b_made b_paper b_reachUp b_reachDown b_reachHow b_reachFirst b_reachSecond b_begins b_carried c_hasImage c_above c_below c_orderMany c_waitMany c_seed c_size c_openMany c_paperMany c_reachMany c_now)) (va_runV (As := [.int p1]) (rest := []) ⟨hx, hb, hml, hown, hts⟩ (mX11_isPoint l D cy s.heap.size b b_now b_imaged b_valueUp b_valueDown b_real b_brief b_order b_waits b_floats b_same b_upOf b_downOf b_tape b_open b_made b_paper b_reachUp b_reachDown b_reachHow b_reachFirst b_reachSecond b_begins b_carried c_hasImage c_above c_below c_orderMany c_waitMany c_seed c_size c_openMany c_paperMany c_reachMany c_now p1 (r2) hq2) (cwV 1 hts gX11_bridges_X11_isPoint rfl rfl rfl ⟨rfl, cdX11_isPoint⟩ ⟨Nat.le_of_ble_eq_true rfl, Nat.le_of_ble_eq_true rfl⟩) (zPV hK hP hD [0, 1] rfl rfl (q0 := 0) (ci := 11) rfl rfl rfl) rfl rfl hl.1 rfl (lv_room (Nat.le_of_ble_eq_true rfl)) dX11_bridges_2 ⟨Nat.zero_le _, Nat.zero_le _⟩) hP hD hS hA [0, 1] [] [0, 1] rfl rfl rfl rfl (fun H locs hn2 hP hD hS => ?_)
  refine lv_if_eq (tgt := 16) hx hb dX11_bridges_5 (by decide) (fun hc5 => ?_) (fun hc5 => ?_)
  · replace h := zi_t hc5 h
    refine lv_iconst (v := (-1 : Int32)) hx hb dX11_bridges_16 (by decide) ?_
    exact hret (o := ((-1 : Int32))) h hP hD hS dX11_bridges_17
  · replace h := zi_f hc5 h
    refine lv_aload_n hx hb dX11_bridges_8 rfl (lv_at hl 0 rfl) ?_
    refine lv_iload_n hx hb dX11_bridges_9 rfl (lv_at hl 2 rfl) ?_
    obtain ⟨r10, hq10, h⟩ := zb1_s h
    refine zCz (r0 := r10) (w1 := (wdX11_isPoint cy b b_now b_imaged b_valueUp b_valueDown b_real b_brief b_order b_waits b_floats b_same b_upOf b_downOf b_tape b_open b_made b_paper b_reachUp b_reachDown b_reachHow b_reachFirst b_reachSecond b_begins b_carried c_hasImage c_above c_below c_orderMany c_waitMany c_seed c_size c_openMany c_paperMany c_reachMany c_now)) (ws' := (wdX11_bridges cy b b_now b_imaged b_valueUp b_valueDown b_real b_brief b_order b_waits b_floats b_same b_upOf b_downOf b_tape b_open b_made b_paper b_reachUp b_reachDown b_reachHow b_reachFirst b_reachSecond b_begins b_carried c_hasImage c_above c_below c_orderMany c_waitMany c_seed c_size c_openMany c_paperMany c_reachMany c_now)) (va_runV (As := [.int p2]) (rest := []) ⟨hx, hb, hml, hown, hts⟩ (mX11_isPoint l D cy H.size b b_now b_imaged b_valueUp b_valueDown b_real b_brief b_order b_waits b_floats b_same b_upOf b_downOf b_tape b_open b_made b_paper b_reachUp b_reachDown b_reachHow b_reachFirst b_reachSecond b_begins b_carried c_hasImage c_above c_below c_orderMany c_waitMany c_seed c_size c_openMany c_paperMany c_reachMany c_now p2 (r10) hq10) (cwV 1 hts gX11_bridges_X11_isPoint rfl rfl rfl ⟨rfl, cdX11_isPoint⟩ ⟨Nat.le_of_ble_eq_true rfl, Nat.le_of_ble_eq_true rfl⟩) (zPV hK hP hD [0, 1] rfl rfl (q0 := 0) (ci := 11) rfl rfl rfl) rfl rfl hl.1 rfl (lv_room (Nat.le_of_ble_eq_true rfl)) dX11_bridges_10 ⟨Nat.zero_le _, Nat.zero_le _⟩) hP hD hS hA [0, 1] [] [0, 1] rfl rfl rfl rfl (fun H locs hn10 hP hD hS => ?_)
    refine lv_if_ne (tgt := 18) hx hb dX11_bridges_13 (by decide) (fun hc13 => ?_) (fun hc13 => ?_)
    · replace h := zi_f hc13 h
      refine lv_aload_n hx hb dX11_bridges_18 rfl (lv_at hl 0 rfl) ?_
      refine lv_iload_n hx hb dX11_bridges_19 rfl (lv_at hl 1 rfl) ?_
      refine lv_aload_n hx hb dX11_bridges_20 rfl (lv_at hl 0 rfl) ?_
      obtain ⟨r21, hq21, h⟩ := zb1_s h
      refine zCi (r0 := r21) (w1 := (wdX11_live cy b b_now b_imaged b_valueUp b_valueDown b_real b_brief b_order b_waits b_floats b_same b_upOf b_downOf b_tape b_open b_made b_paper b_reachUp b_reachDown b_reachHow b_reachFirst b_reachSecond b_begins b_carried c_hasImage c_above c_below c_orderMany c_waitMany c_seed c_size c_openMany c_paperMany c_reachMany c_now)) (ws' := (wdX11_bridges cy b b_now b_imaged b_valueUp b_valueDown b_real b_brief b_order b_waits b_floats b_same b_upOf b_downOf b_tape b_open b_made b_paper b_reachUp b_reachDown b_reachHow b_reachFirst b_reachSecond b_begins b_carried c_hasImage c_above c_below c_orderMany c_waitMany c_seed c_size c_openMany c_paperMany c_reachMany c_now)) (va_runV (As := []) (rest := [.int p1, .ref b]) ⟨hx, hb, hml, hown, hts⟩ (mX11_live l D cy H.size b b_now b_imaged b_valueUp b_valueDown b_real b_brief b_order b_waits b_floats b_same b_upOf b_downOf b_tape b_open b_made b_paper b_reachUp b_reachDown b_reachHow b_reachFirst b_reachSecond b_begins b_carried c_hasImage c_above c_below c_orderMany c_waitMany c_seed c_size c_openMany c_paperMany c_reachMany c_now (r21) hq21) (cwV 0 hts gX11_bridges_X11_live rfl rfl rfl ⟨rfl, cdX11_live⟩ ⟨Nat.le_of_ble_eq_true rfl, Nat.le_of_ble_eq_true rfl⟩) (zPV hK hP hD [0, 1] rfl rfl (q0 := 0) (ci := 11) rfl rfl rfl) rfl rfl hl.1 rfl (lv_room (Nat.le_of_ble_eq_true rfl)) dX11_bridges_21 ⟨Nat.zero_le _, Nat.zero_le _⟩) hP hD hS hA [0, 1] [] [0, 1] rfl rfl rfl rfl (fun H locs hP hD hS => ?_)
      obtain ⟨r24, hq24, h⟩ := zb1_s h
      refine zCi (r0 := r24) (w1 := (wdX11_comesTo cy b b_now b_imaged b_valueUp b_valueDown b_real b_brief b_order b_waits b_floats b_same b_upOf b_downOf b_tape b_open b_made b_paper b_reachUp b_reachDown b_reachHow b_reachFirst b_reachSecond b_begins b_carried c_hasImage c_above c_below c_orderMany c_waitMany c_seed c_size c_openMany c_paperMany c_reachMany c_now)) (ws' := (wdX11_bridges cy b b_now b_imaged b_valueUp b_valueDown b_real b_brief b_order b_waits b_floats b_same b_upOf b_downOf b_tape b_open b_made b_paper b_reachUp b_reachDown b_reachHow b_reachFirst b_reachSecond b_begins b_carried c_hasImage c_above c_below c_orderMany c_waitMany c_seed c_size c_openMany c_paperMany c_reachMany c_now)) (va_runV (As := [.int p1, .int r21]) (rest := []) ⟨hx, hb, hml, hown, hts⟩ (mX11_comesTo l D cy H.size b b_now b_imaged b_valueUp b_valueDown b_real b_brief b_order b_waits b_floats b_same b_upOf b_downOf b_tape b_open b_made b_paper b_reachUp b_reachDown b_reachHow b_reachFirst b_reachSecond b_begins b_carried c_hasImage c_above c_below c_orderMany c_waitMany c_seed c_size c_openMany c_paperMany c_reachMany c_now p1 r21 (r24) hq24) (cwV 2 hts gX11_bridges_X11_comesTo rfl rfl rfl ⟨rfl, cdX11_comesTo⟩ ⟨Nat.le_of_ble_eq_true rfl, Nat.le_of_ble_eq_true rfl⟩) (zPV hK hP hD [0, 1] rfl rfl (q0 := 0) (ci := 11) rfl rfl rfl) rfl rfl hl.1 rfl (lv_room (Nat.le_of_ble_eq_true rfl)) dX11_bridges_24 ⟨Nat.zero_le _, Nat.zero_le _⟩) hP hD hS hA [0, 1] [] [0, 1] rfl rfl rfl rfl (fun H locs hP hD hS => ?_)
      refine lv_iload_n hx hb dX11_bridges_27 rfl (lv_at hl 2 rfl) ?_
      refine lv_ishr hx hb dX11_bridges_28 ?_
      refine lv_iconst (v := (1 : Int32)) hx hb dX11_bridges_29 (by decide) ?_
      refine lv_iand hx hb dX11_bridges_30 ?_
      refine lv_if_ne (tgt := 37) hx hb dX11_bridges_31 (by decide) (fun hc31 => ?_) (fun hc31 => ?_)
      · replace h := zi_f hc31 h
        refine lv_iconst (v := (0 : Int32)) hx hb dX11_bridges_37 (by decide) ?_
        refine lv_istore_n (lv' := [(3, .int (0 : Int32)), (0, .ref b), (1, .int p1), (2, .int p2)]) hx hb dX11_bridges_38 rfl hl (Nat.le_of_ble_eq_true rfl) rfl (fun ls hl => ?_)
        refine lv_iconst (v := (0 : Int32)) hx hb dX11_bridges_39 (by decide) ?_
        refine lv_istore (lv' := [(4, .int (0 : Int32)), (3, .int (0 : Int32)), (0, .ref b), (1, .int p1), (2, .int p2)]) hx hb dX11_bridges_40 hl (Nat.le_of_ble_eq_true rfl) rfl (fun ls hl => ?_)
        have hL42 : ∀ n42 : Nat, ∀ (v3_42 v4_42 : Int32) (H : Heap) (locs : List Loc) (ls : Array Slot), va_P D vwCl (wdX11_bridges cy b b_now b_imaged b_valueUp b_valueDown b_real b_brief b_order b_waits b_floats b_same b_upOf b_downOf b_tape b_open b_made b_paper b_reachUp b_reachDown b_reachHow b_reachFirst b_reachSecond b_begins b_carried c_hasImage c_above c_below c_orderMany c_waitMany c_seed c_size c_openMany c_paperMany c_reachMany c_now) H → va_D A (wdX11_bridges cy b b_now b_imaged b_valueUp b_valueDown b_real b_brief b_order b_waits b_floats b_same b_upOf b_downOf b_tape b_open b_made b_paper b_reachUp b_reachDown b_reachHow b_reachFirst b_reachSecond b_begins b_carried c_hasImage c_above c_below c_orderMany c_waitMany c_seed c_size c_openMany c_paperMany c_reachMany c_now) → va_S A s.heap H locs → lv_has ls 5 [(0, .ref b), (1, .int p1), (2, .int p2), (3, .int v3_42), (4, .int v4_42)] → fX11_bridges_L42 c_now p1 p2 n42 v3_42 v4_42 = some res → W p l e rmX11_bridges s m args below meth c H locs 0 0 Q (F0 m 42 ls []) := by
          intro n42
          induction n42 with
          | zero =>
            intro v3_42 v4_42 H locs ls hP hD hS hl h
            exact zl2_0 h
          | succ n42 ih42 =>
            intro v3_42 v4_42 H locs ls hP hD hS hl h
            replace h := zl2_s h
            refine lv_iload hx hb dX11_bridges_42 (lv_at hl 4 rfl) ?_
            refine lv_aload_n hx hb dX11_bridges_44 rfl (lv_at hl 0 rfl) ?_
            refine va_get (D := D) (ci := 11) (v := .ref b_now) (C := RX11) (T := TX11) (N := 33) hx hb hts uX11_bridges_X11 hown hK.1 hP 0 rfl rfl 0 (by decide) (hts (.fieldLink RX11 9 "WishedResistorModel" "now" "[I") (List.mem_of_getElem? (i := 1) rfl)) (fun _ h9 => h9) rfl dX11_bridges_45 ?_
            refine lv_sipush (v := (170 : Int32)) hx hb dX11_bridges_48 (by decide) ?_
            refine va_iald hx hb hK.1 hP 1 0 rfl rfl (show zin (170 : Int32) 261 from by decide) dX11_bridges_51 ?_
            refine lv_icmp_ge (tgt := 95) hx hb dX11_bridges_52 (by decide) (fun hc52 => ?_) (fun hc52 => ?_)
            · replace h := zi_t hc52 h
              refine lv_iload_n hx hb dX11_bridges_95 rfl (lv_at hl 3 rfl) ?_
              exact hret (o := (v3_42)) h hP hD hS dX11_bridges_96
            · replace h := zi_f hc52 h
              refine lv_iload_n hx hb dX11_bridges_55 rfl (lv_at hl 3 rfl) ?_
              refine lv_aload_n hx hb dX11_bridges_56 rfl (lv_at hl 0 rfl) ?_
              refine lv_iload_n hx hb dX11_bridges_57 rfl (lv_at hl 1 rfl) ?_
              refine lv_aload_n hx hb dX11_bridges_58 rfl (lv_at hl 0 rfl) ?_
              obtain ⟨r59, hq59, h⟩ := zb1_s h
              refine zCi (r0 := r59) (w1 := (wdX11_live cy b b_now b_imaged b_valueUp b_valueDown b_real b_brief b_order b_waits b_floats b_same b_upOf b_downOf b_tape b_open b_made b_paper b_reachUp b_reachDown b_reachHow b_reachFirst b_reachSecond b_begins b_carried c_hasImage c_above c_below c_orderMany c_waitMany c_seed c_size c_openMany c_paperMany c_reachMany c_now)) (ws' := (wdX11_bridges cy b b_now b_imaged b_valueUp b_valueDown b_real b_brief b_order b_waits b_floats b_same b_upOf b_downOf b_tape b_open b_made b_paper b_reachUp b_reachDown b_reachHow b_reachFirst b_reachSecond b_begins b_carried c_hasImage c_above c_below c_orderMany c_waitMany c_seed c_size c_openMany c_paperMany c_reachMany c_now)) (va_runV (As := []) (rest := [.int p1, .ref b, .int v3_42]) ⟨hx, hb, hml, hown, hts⟩ (mX11_live l D cy H.size b b_now b_imaged b_valueUp b_valueDown b_real b_brief b_order b_waits b_floats b_same b_upOf b_downOf b_tape b_open b_made b_paper b_reachUp b_reachDown b_reachHow b_reachFirst b_reachSecond b_begins b_carried c_hasImage c_above c_below c_orderMany c_waitMany c_seed c_size c_openMany c_paperMany c_reachMany c_now (r59) hq59) (cwV 0 hts gX11_bridges_X11_live rfl rfl rfl ⟨rfl, cdX11_live⟩ ⟨Nat.le_of_ble_eq_true rfl, Nat.le_of_ble_eq_true rfl⟩) (zPV hK hP hD [0, 1] rfl rfl (q0 := 0) (ci := 11) rfl rfl rfl) rfl rfl hl.1 rfl (lv_room (Nat.le_of_ble_eq_true rfl)) dX11_bridges_59 ⟨Nat.zero_le _, Nat.zero_le _⟩) hP hD hS hA [0, 1] [] [0, 1] rfl rfl rfl rfl (fun H locs hP hD hS => ?_)
              refine lv_iconst (v := (1 : Int32)) hx hb dX11_bridges_62 (by decide) ?_
              refine lv_iload hx hb dX11_bridges_63 (lv_at hl 4 rfl) ?_
              refine lv_ishl hx hb dX11_bridges_65 ?_
              refine lv_iconst (v := (-1 : Int32)) hx hb dX11_bridges_66 (by decide) ?_
              refine lv_ixor hx hb dX11_bridges_67 ?_
              refine lv_iand hx hb dX11_bridges_68 ?_
              obtain ⟨r69, hq69, h⟩ := zb1_s h
              refine zCi (r0 := r69) (w1 := (wdX11_comesTo cy b b_now b_imaged b_valueUp b_valueDown b_real b_brief b_order b_waits b_floats b_same b_upOf b_downOf b_tape b_open b_made b_paper b_reachUp b_reachDown b_reachHow b_reachFirst b_reachSecond b_begins b_carried c_hasImage c_above c_below c_orderMany c_waitMany c_seed c_size c_openMany c_paperMany c_reachMany c_now)) (ws' := (wdX11_bridges cy b b_now b_imaged b_valueUp b_valueDown b_real b_brief b_order b_waits b_floats b_same b_upOf b_downOf b_tape b_open b_made b_paper b_reachUp b_reachDown b_reachHow b_reachFirst b_reachSecond b_begins b_carried c_hasImage c_above c_below c_orderMany c_waitMany c_seed c_size c_openMany c_paperMany c_reachMany c_now)) (va_runV (As := [.int p1, .int (r59 &&& (((1 : Int32) <<< (v4_42 &&& 31)) ^^^ (-1 : Int32)))]) (rest := [.int v3_42]) ⟨hx, hb, hml, hown, hts⟩ (mX11_comesTo l D cy H.size b b_now b_imaged b_valueUp b_valueDown b_real b_brief b_order b_waits b_floats b_same b_upOf b_downOf b_tape b_open b_made b_paper b_reachUp b_reachDown b_reachHow b_reachFirst b_reachSecond b_begins b_carried c_hasImage c_above c_below c_orderMany c_waitMany c_seed c_size c_openMany c_paperMany c_reachMany c_now p1 (r59 &&& (((1 : Int32) <<< (v4_42 &&& 31)) ^^^ (-1 : Int32))) (r69) hq69) (cwV 2 hts gX11_bridges_X11_comesTo rfl rfl rfl ⟨rfl, cdX11_comesTo⟩ ⟨Nat.le_of_ble_eq_true rfl, Nat.le_of_ble_eq_true rfl⟩) (zPV hK hP hD [0, 1] rfl rfl (q0 := 0) (ci := 11) rfl rfl rfl) rfl rfl hl.1 rfl (lv_room (Nat.le_of_ble_eq_true rfl)) dX11_bridges_69 ⟨Nat.zero_le _, Nat.zero_le _⟩) hP hD hS hA [0, 1] [] [0, 1] rfl rfl rfl rfl (fun H locs hP hD hS => ?_)
              refine lv_iload_n hx hb dX11_bridges_72 rfl (lv_at hl 2 rfl) ?_
              refine lv_ishr hx hb dX11_bridges_73 ?_
              refine lv_iconst (v := (1 : Int32)) hx hb dX11_bridges_74 (by decide) ?_
              refine lv_iand hx hb dX11_bridges_75 ?_
              refine lv_if_ne (tgt := 86) hx hb dX11_bridges_76 (by decide) (fun hc76 => ?_) (fun hc76 => ?_)
              · replace h := zi_f hc76 h
                refine lv_iconst (v := (0 : Int32)) hx hb dX11_bridges_86 (by decide) ?_
                refine lv_ior hx hb dX11_bridges_87 ?_
                refine lv_istore_n (lv' := [(3, .int (v3_42 ||| (0 : Int32))), (0, .ref b), (1, .int p1), (2, .int p2), (4, .int v4_42)]) hx hb dX11_bridges_88 rfl hl (Nat.le_of_ble_eq_true rfl) rfl (fun ls hl => ?_)
                refine lv_iinc (v := (v4_42 + (1 : Int32))) (lv' := [(4, .int (v4_42 + (1 : Int32))), (3, .int (v3_42 ||| (0 : Int32))), (0, .ref b), (1, .int p1), (2, .int p2)]) hx hb dX11_bridges_89 hl (k := 4) rfl (by rfl) (Nat.le_of_ble_eq_true rfl) rfl (fun ls hl => ?_)
                refine lv_goto (tgt := 42) hx hb dX11_bridges_92 (by decide) ?_
                exact ih42 (v3_42 ||| (0 : Int32)) (v4_42 + (1 : Int32)) _ _ _ hP hD hS (lv_sub hl [2, 3, 4, 1, 0] rfl) h
              · replace h := zi_t hc76 h
                refine lv_iconst (v := (1 : Int32)) hx hb dX11_bridges_79 (by decide) ?_
                refine lv_iload hx hb dX11_bridges_80 (lv_at hl 4 rfl) ?_
                refine lv_ishl hx hb dX11_bridges_82 ?_
                refine lv_goto (tgt := 87) hx hb dX11_bridges_83 (by decide) ?_
                refine lv_ior hx hb dX11_bridges_87 ?_
                refine lv_istore_n (lv' := [(3, .int (v3_42 ||| ((1 : Int32) <<< (v4_42 &&& 31)))), (0, .ref b), (1, .int p1), (2, .int p2), (4, .int v4_42)]) hx hb dX11_bridges_88 rfl hl (Nat.le_of_ble_eq_true rfl) rfl (fun ls hl => ?_)
                refine lv_iinc (v := (v4_42 + (1 : Int32))) (lv' := [(4, .int (v4_42 + (1 : Int32))), (3, .int (v3_42 ||| ((1 : Int32) <<< (v4_42 &&& 31)))), (0, .ref b), (1, .int p1), (2, .int p2)]) hx hb dX11_bridges_89 hl (k := 4) rfl (by rfl) (Nat.le_of_ble_eq_true rfl) rfl (fun ls hl => ?_)
                refine lv_goto (tgt := 42) hx hb dX11_bridges_92 (by decide) ?_
                exact ih42 (v3_42 ||| ((1 : Int32) <<< (v4_42 &&& 31))) (v4_42 + (1 : Int32)) _ _ _ hP hD hS (lv_sub hl [2, 3, 4, 1, 0] rfl) h
        exact hL42 5000 (0 : Int32) (0 : Int32) _ _ _ hP hD hS (lv_sub hl [2, 3, 4, 1, 0] rfl) h
      · replace h := zi_t hc31 h
        refine lv_bipush (v := (-5 : Int32)) hx hb dX11_bridges_34 (by decide) ?_
        exact hret (o := ((-5 : Int32))) h hP hD hS dX11_bridges_36
    · replace h := zi_t hc13 h
      refine lv_iconst (v := (-1 : Int32)) hx hb dX11_bridges_16 (by decide) ?_
      exact hret (o := ((-1 : Int32))) h hP hD hS dX11_bridges_17

abbrev wdX11_ways (cy : Nat → ClassId) (b b_now b_imaged b_valueUp b_valueDown b_real b_brief b_order b_waits b_floats b_same b_upOf b_downOf b_tape b_open b_made b_paper b_reachUp b_reachDown b_reachHow b_reachFirst b_reachSecond b_begins b_carried : Nat) (c_hasImage : Int32) (c_above c_below : Int64) (c_orderMany c_waitMany c_seed c_size c_openMany c_paperMany c_reachMany : Int32) (c_now : Nat → Int32) : va_W := [(b, .inr (11, [.ref b_now, .ref b_imaged, .int c_hasImage, .long c_above, .long c_below, .ref b_valueUp, .ref b_valueDown, .ref b_real, .ref b_brief, .ref b_order, .int c_orderMany, .ref b_waits, .int c_waitMany, .ref b_floats, .int c_seed, .ref b_same, .ref b_upOf, .ref b_downOf, .ref b_tape, .int c_size, .ref b_open, .int c_openMany, .ref b_made, .ref b_paper, .int c_paperMany, .ref b_reachUp, .ref b_reachDown, .ref b_reachHow, .ref b_reachFirst, .ref b_reachSecond, .ref b_begins, .int c_reachMany, .ref b_carried])), (b_now, .inl (cy 0, 261, .inl c_now))]
abbrev rmX11_ways : Room := { frames := 2, cells := 0, slots := 0, locals := 46 }
theorem cdX11_ways : (yX11_ways).cls ≠ "java/lang/invoke/MethodHandle" ∧ (yX11_ways).cls ≠ "java/lang/invoke/VarHandle" ∧ (parseMethodDescriptor (yX11_ways).desc).map (fun d => d.parameters.length) = some 1 := by decide +kernel
def fX11_ways (p1 : Int32) (c_now : Nat → Int32) : Option (Int32) :=
  zb1 (fX11_isPoint p1 c_now) (fun r2 => if r2 = 0 then (some ((-1 : Int32))) else (zb1 (fX11_live c_now) (fun r11 => zb1 (fX11_comesTo p1 r11 c_now) (fun r14 => some (r14)))))
set_option maxHeartbeats 4000000 in
set_option maxRecDepth 100000 in
theorem mX11_ways (l : Launch) (D : va_G) (cy : Nat → ClassId) (sz : Nat) (b b_now b_imaged b_valueUp b_valueDown b_real b_brief b_order b_waits b_floats b_same b_upOf b_downOf b_tape b_open b_made b_paper b_reachUp b_reachDown b_reachHow b_reachFirst b_reachSecond b_begins b_carried : Nat) (c_hasImage : Int32) (c_above c_below : Int64) (c_orderMany c_waitMany c_seed c_size c_openMany c_paperMany c_reachMany : Int32) (c_now : Nat → Int32) (p1 : Int32) (res : (Int32)) (h : fX11_ways p1 c_now = some res) : zMi l yX11_ways wsX11_ways rmX11_ways [.ref b, .int p1] D cy (wdX11_ways cy b b_now b_imaged b_valueUp b_valueDown b_real b_brief b_order b_waits b_floats b_same b_upOf b_downOf b_tape b_open b_made b_paper b_reachUp b_reachDown b_reachHow b_reachFirst b_reachSecond b_begins b_carried c_hasImage c_above c_below c_orderMany c_waitMany c_seed c_size c_openMany c_paperMany c_reachMany c_now) sz ((fun (o : (Int32)) => o) res) ((fun (o : (Int32)) => (wdX11_ways cy b b_now b_imaged b_valueUp b_valueDown b_real b_brief b_order b_waits b_floats b_same b_upOf b_downOf b_tape b_open b_made b_paper b_reachUp b_reachDown b_reachHow b_reachFirst b_reachSecond b_begins b_carried c_hasImage c_above c_below c_orderMany c_waitMany c_seed c_size c_openMany c_paperMany c_reachMany c_now)) res) := by
  refine zOfi (res := res) (rf := (fun (o : (Int32)) => o)) (Wf := (fun (o : (Int32)) => (wdX11_ways cy b b_now b_imaged b_valueUp b_valueDown b_real b_brief b_order b_waits b_floats b_same b_upOf b_downOf b_tape b_open b_made b_paper b_reachUp b_reachDown b_reachHow b_reachFirst b_reachSecond b_begins b_carried c_hasImage c_above c_below c_orderMany c_waitMany c_seed c_size c_openMany c_paperMany c_reachMany c_now))) (by decide +kernel) rfl (Nat.le_of_ble_eq_true rfl) ?_
  intro p e s m args below meth c A ls Q hx hb hml hts hown hP hK hD hA hS hl hret
  have hown : s.vm.findClass RX11 = some m.cls := hown
  have hl : lv_has ls 2 [(0, .ref b), (1, .int p1)] := hl
  refine lv_aload_n hx hb dX11_ways_0 rfl (lv_at hl 0 rfl) ?_
  refine lv_iload_n hx hb dX11_ways_1 rfl (lv_at hl 1 rfl) ?_
  obtain ⟨r2, hq2, h⟩ := zb1_s h
  refine zCz (r0 := r2) (w1 := (wdX11_isPoint cy b b_now b_imaged b_valueUp b_valueDown b_real b_brief b_order b_waits b_floats b_same b_upOf b_downOf b_tape b_open b_made b_paper b_reachUp b_reachDown b_reachHow b_reachFirst b_reachSecond b_begins b_carried c_hasImage c_above c_below c_orderMany c_waitMany c_seed c_size c_openMany c_paperMany c_reachMany c_now)) (ws' := (wdX11_ways cy b b_now b_imaged b_valueUp b_valueDown b_real b_brief b_order b_waits b_floats b_same b_upOf b_downOf b_tape b_open b_made b_paper b_reachUp b_reachDown b_reachHow b_reachFirst b_reachSecond b_begins b_carried c_hasImage c_above c_below c_orderMany c_waitMany c_seed c_size c_openMany c_paperMany c_reachMany c_now)) (va_runV (As := [.int p1]) (rest := []) ⟨hx, hb, hml, hown, hts⟩ (mX11_isPoint l D cy s.heap.size b b_now b_imaged b_valueUp b_valueDown b_real b_brief b_order b_waits b_floats b_same b_upOf b_downOf b_tape b_open b_made b_paper b_reachUp b_reachDown b_reachHow b_reachFirst b_reachSecond b_begins b_carried c_hasImage c_above c_below c_orderMany c_waitMany c_seed c_size c_openMany c_paperMany c_reachMany c_now p1 (r2) hq2) (cwV 1 hts gX11_ways_X11_isPoint rfl rfl rfl ⟨rfl, cdX11_isPoint⟩ ⟨Nat.le_of_ble_eq_true rfl, Nat.le_of_ble_eq_true rfl⟩) (zPV hK hP hD [0, 1] rfl rfl (q0 := 0) (ci := 11) rfl rfl rfl) rfl rfl hl.1 rfl (lv_room (Nat.le_of_ble_eq_true rfl)) dX11_ways_2 ⟨Nat.zero_le _, Nat.zero_le _⟩) hP hD hS hA [0, 1] [] [0, 1] rfl rfl rfl rfl (fun H locs hn2 hP hD hS => ?_)
  refine lv_if_eq (tgt := 20) hx hb dX11_ways_5 (by decide) (fun hc5 => ?_) (fun hc5 => ?_)
  · replace h := zi_t hc5 h
    refine lv_iconst (v := (-1 : Int32)) hx hb dX11_ways_20 (by decide) ?_
    exact hret (o := ((-1 : Int32))) h hP hD hS dX11_ways_21
  · replace h := zi_f hc5 h
    refine lv_aload_n hx hb dX11_ways_8 rfl (lv_at hl 0 rfl) ?_
    refine lv_iload_n hx hb dX11_ways_9 rfl (lv_at hl 1 rfl) ?_
    refine lv_aload_n hx hb dX11_ways_10 rfl (lv_at hl 0 rfl) ?_
    obtain ⟨r11, hq11, h⟩ := zb1_s h
    refine zCi (r0 := r11) (w1 := (wdX11_live cy b b_now b_imaged b_valueUp b_valueDown b_real b_brief b_order b_waits b_floats b_same b_upOf b_downOf b_tape b_open b_made b_paper b_reachUp b_reachDown b_reachHow b_reachFirst b_reachSecond b_begins b_carried c_hasImage c_above c_below c_orderMany c_waitMany c_seed c_size c_openMany c_paperMany c_reachMany c_now)) (ws' := (wdX11_ways cy b b_now b_imaged b_valueUp b_valueDown b_real b_brief b_order b_waits b_floats b_same b_upOf b_downOf b_tape b_open b_made b_paper b_reachUp b_reachDown b_reachHow b_reachFirst b_reachSecond b_begins b_carried c_hasImage c_above c_below c_orderMany c_waitMany c_seed c_size c_openMany c_paperMany c_reachMany c_now)) (va_runV (As := []) (rest := [.int p1, .ref b]) ⟨hx, hb, hml, hown, hts⟩ (mX11_live l D cy H.size b b_now b_imaged b_valueUp b_valueDown b_real b_brief b_order b_waits b_floats b_same b_upOf b_downOf b_tape b_open b_made b_paper b_reachUp b_reachDown b_reachHow b_reachFirst b_reachSecond b_begins b_carried c_hasImage c_above c_below c_orderMany c_waitMany c_seed c_size c_openMany c_paperMany c_reachMany c_now (r11) hq11) (cwV 0 hts gX11_ways_X11_live rfl rfl rfl ⟨rfl, cdX11_live⟩ ⟨Nat.le_of_ble_eq_true rfl, Nat.le_of_ble_eq_true rfl⟩) (zPV hK hP hD [0, 1] rfl rfl (q0 := 0) (ci := 11) rfl rfl rfl) rfl rfl hl.1 rfl (lv_room (Nat.le_of_ble_eq_true rfl)) dX11_ways_11 ⟨Nat.zero_le _, Nat.zero_le _⟩) hP hD hS hA [0, 1] [] [0, 1] rfl rfl rfl rfl (fun H locs hP hD hS => ?_)
    obtain ⟨r14, hq14, h⟩ := zb1_s h
    refine zCi (r0 := r14) (w1 := (wdX11_comesTo cy b b_now b_imaged b_valueUp b_valueDown b_real b_brief b_order b_waits b_floats b_same b_upOf b_downOf b_tape b_open b_made b_paper b_reachUp b_reachDown b_reachHow b_reachFirst b_reachSecond b_begins b_carried c_hasImage c_above c_below c_orderMany c_waitMany c_seed c_size c_openMany c_paperMany c_reachMany c_now)) (ws' := (wdX11_ways cy b b_now b_imaged b_valueUp b_valueDown b_real b_brief b_order b_waits b_floats b_same b_upOf b_downOf b_tape b_open b_made b_paper b_reachUp b_reachDown b_reachHow b_reachFirst b_reachSecond b_begins b_carried c_hasImage c_above c_below c_orderMany c_waitMany c_seed c_size c_openMany c_paperMany c_reachMany c_now)) (va_runV (As := [.int p1, .int r11]) (rest := []) ⟨hx, hb, hml, hown, hts⟩ (mX11_comesTo l D cy H.size b b_now b_imaged b_valueUp b_valueDown b_real b_brief b_order b_waits b_floats b_same b_upOf b_downOf b_tape b_open b_made b_paper b_reachUp b_reachDown b_reachHow b_reachFirst b_reachSecond b_begins b_carried c_hasImage c_above c_below c_orderMany c_waitMany c_seed c_size c_openMany c_paperMany c_reachMany c_now p1 r11 (r14) hq14) (cwV 2 hts gX11_ways_X11_comesTo rfl rfl rfl ⟨rfl, cdX11_comesTo⟩ ⟨Nat.le_of_ble_eq_true rfl, Nat.le_of_ble_eq_true rfl⟩) (zPV hK hP hD [0, 1] rfl rfl (q0 := 0) (ci := 11) rfl rfl rfl) rfl rfl hl.1 rfl (lv_room (Nat.le_of_ble_eq_true rfl)) dX11_ways_14 ⟨Nat.zero_le _, Nat.zero_le _⟩) hP hD hS hA [0, 1] [] [0, 1] rfl rfl rfl rfl (fun H locs hP hD hS => ?_)
    refine lv_goto (tgt := 21) hx hb dX11_ways_17 (by decide) ?_
    exact hret (o := (r14)) h hP hD hS dX11_ways_21

abbrev rmX11_isTray : Room := { frames := 1, cells := 0, slots := 0, locals := 25 }
theorem cdX11_isTray : (yX11_isTray).cls ≠ "java/lang/invoke/MethodHandle" ∧ (yX11_isTray).cls ≠ "java/lang/invoke/VarHandle" ∧ (parseMethodDescriptor (yX11_isTray).desc).map (fun d => d.parameters.length) = some 1 := by decide +kernel
def fX11_isTray (p1 : Int32) : Option (Int32) :=
  zb1 (fX11_in ((p1).toInt64) (0 : Int64) (2 : Int64)) (fun r6 => some (r6))
set_option maxHeartbeats 4000000 in
set_option maxRecDepth 100000 in
theorem mX11_isTray (l : Launch) (D : va_G) (cy : Nat → ClassId) (sz : Nat) (p1 : Int32) (res : (Int32)) (h : fX11_isTray p1 = some res) : zMz l yX11_isTray wsX11_isTray rmX11_isTray [.int p1] D cy ([] : va_W) sz ((fun (o : (Int32)) => o) res) ((fun (_ : (Int32)) => ([] : va_W)) res) := by
  refine zOfz (res := res) (rf := (fun (o : (Int32)) => o)) (Wf := (fun (_ : (Int32)) => ([] : va_W))) (by decide +kernel) rfl (Nat.le_of_ble_eq_true rfl) ?_
  intro p e s m args below meth c A ls Q hx hb hml hts hown hP hK hD hA hS hl hret
  have hown : s.vm.findClass RX11 = some m.cls := hown
  have hl : lv_has ls 1 [(0, .int p1)] := hl
  refine lv_iload_n hx hb dX11_isTray_0 rfl (lv_at hl 0 rfl) ?_
  refine lv_i2l hx hb dX11_isTray_1 rfl ?_
  refine lv_lconst (v := (0 : Int64)) hx hb dX11_isTray_2 (by decide) ?_
  refine lv_ldc2 hx hb hown (hts (.constantLong RX11 112 (2)) (List.mem_of_getElem? (i := 1) rfl)) dX11_isTray_3 ?_
  obtain ⟨r6, hq6, h⟩ := zb1_s h
  refine zCz0 (r0 := r6) (va_runS (As := [.long ((p1).toInt64), .long (0 : Int64), .long (2 : Int64)]) (rest := []) ⟨hx, hb, hml, hown, hts⟩ (mX11_in l D cy s.heap.size ((p1).toInt64) (0 : Int64) (2 : Int64) (r6) hq6) (va_cwS 3 hts gX11_isTray_X11_in rfl rfl rfl cdX11_in ⟨Nat.le_of_ble_eq_true rfl, Nat.le_of_ble_eq_true rfl⟩) (zPS hK hP hD [] rfl rfl) rfl rfl hl.1 rfl (lv_room (Nat.le_of_ble_eq_true rfl)) dX11_isTray_6 ⟨Nat.zero_le _, Nat.zero_le _⟩) hP hD hS hA (fun H locs hn6 hP hD hS => ?_)
  exact hret (o := (r6)) h hn6 hP hD hS dX11_isTray_9

theorem uX11_sizeOf_X11 : ∀ w ∈ u_ws RX11 TX11 33, w ∈ wsX11_sizeOf := fun w h => (List.mem_cons_of_mem _ (List.mem_append_right _ h))
abbrev wdX11_sizeOf (cy : Nat → ClassId) (b b_now b_imaged b_valueUp b_valueDown b_real b_brief b_order b_waits b_floats b_same b_upOf b_downOf b_tape b_open b_made b_paper b_reachUp b_reachDown b_reachHow b_reachFirst b_reachSecond b_begins b_carried : Nat) (c_hasImage : Int32) (c_above c_below : Int64) (c_orderMany c_waitMany c_seed c_size c_openMany c_paperMany c_reachMany : Int32) (c_now : Nat → Int32) : va_W := [(b, .inr (11, [.ref b_now, .ref b_imaged, .int c_hasImage, .long c_above, .long c_below, .ref b_valueUp, .ref b_valueDown, .ref b_real, .ref b_brief, .ref b_order, .int c_orderMany, .ref b_waits, .int c_waitMany, .ref b_floats, .int c_seed, .ref b_same, .ref b_upOf, .ref b_downOf, .ref b_tape, .int c_size, .ref b_open, .int c_openMany, .ref b_made, .ref b_paper, .int c_paperMany, .ref b_reachUp, .ref b_reachDown, .ref b_reachHow, .ref b_reachFirst, .ref b_reachSecond, .ref b_begins, .int c_reachMany, .ref b_carried])), (b_now, .inl (cy 0, 261, .inl c_now))]
abbrev rmX11_sizeOf : Room := { frames := 0, cells := 0, slots := 0, locals := 0 }
theorem cdX11_sizeOf : (yX11_sizeOf).cls ≠ "java/lang/invoke/MethodHandle" ∧ (yX11_sizeOf).cls ≠ "java/lang/invoke/VarHandle" ∧ (parseMethodDescriptor (yX11_sizeOf).desc).map (fun d => d.parameters.length) = some 1 := by decide +kernel
def fX11_sizeOf (p1 : Int32) (c_now : Nat → Int32) : Option (Int32) :=
  zg (zin ((195 : Int32) + ((2 : Int32) * p1)) 261) (some ((c_now (((195 : Int32) + ((2 : Int32) * p1))).toNatClampNeg)))
set_option maxHeartbeats 4000000 in
set_option maxRecDepth 100000 in
theorem mX11_sizeOf (l : Launch) (D : va_G) (cy : Nat → ClassId) (sz : Nat) (b b_now b_imaged b_valueUp b_valueDown b_real b_brief b_order b_waits b_floats b_same b_upOf b_downOf b_tape b_open b_made b_paper b_reachUp b_reachDown b_reachHow b_reachFirst b_reachSecond b_begins b_carried : Nat) (c_hasImage : Int32) (c_above c_below : Int64) (c_orderMany c_waitMany c_seed c_size c_openMany c_paperMany c_reachMany : Int32) (c_now : Nat → Int32) (p1 : Int32) (res : (Int32)) (h : fX11_sizeOf p1 c_now = some res) : zMi l yX11_sizeOf wsX11_sizeOf rmX11_sizeOf [.ref b, .int p1] D cy (wdX11_sizeOf cy b b_now b_imaged b_valueUp b_valueDown b_real b_brief b_order b_waits b_floats b_same b_upOf b_downOf b_tape b_open b_made b_paper b_reachUp b_reachDown b_reachHow b_reachFirst b_reachSecond b_begins b_carried c_hasImage c_above c_below c_orderMany c_waitMany c_seed c_size c_openMany c_paperMany c_reachMany c_now) sz ((fun (o : (Int32)) => o) res) ((fun (o : (Int32)) => (wdX11_sizeOf cy b b_now b_imaged b_valueUp b_valueDown b_real b_brief b_order b_waits b_floats b_same b_upOf b_downOf b_tape b_open b_made b_paper b_reachUp b_reachDown b_reachHow b_reachFirst b_reachSecond b_begins b_carried c_hasImage c_above c_below c_orderMany c_waitMany c_seed c_size c_openMany c_paperMany c_reachMany c_now)) res) := by
  refine zOfi (res := res) (rf := (fun (o : (Int32)) => o)) (Wf := (fun (o : (Int32)) => (wdX11_sizeOf cy b b_now b_imaged b_valueUp b_valueDown b_real b_brief b_order b_waits b_floats b_same b_upOf b_downOf b_tape b_open b_made b_paper b_reachUp b_reachDown b_reachHow b_reachFirst b_reachSecond b_begins b_carried c_hasImage c_above c_below c_orderMany c_waitMany c_seed c_size c_openMany c_paperMany c_reachMany c_now))) (by decide +kernel) rfl (Nat.le_of_ble_eq_true rfl) ?_
  intro p e s m args below meth c A ls Q hx hb hml hts hown hP hK hD hA hS hl hret
  have hown : s.vm.findClass RX11 = some m.cls := hown
  have hl : lv_has ls 2 [(0, .ref b), (1, .int p1)] := hl
  refine lv_aload_n hx hb dX11_sizeOf_0 rfl (lv_at hl 0 rfl) ?_
  refine va_get (D := D) (ci := 11) (v := .ref b_now) (C := RX11) (T := TX11) (N := 33) hx hb hts uX11_sizeOf_X11 hown hK.1 hP 0 rfl rfl 0 (by decide) (hts (.fieldLink RX11 9 "WishedResistorModel" "now" "[I") (List.mem_of_getElem? (i := 1) rfl)) (fun _ h9 => h9) rfl dX11_sizeOf_1 ?_
  refine lv_sipush (v := (195 : Int32)) hx hb dX11_sizeOf_4 (by decide) ?_
  refine lv_iconst (v := (2 : Int32)) hx hb dX11_sizeOf_7 (by decide) ?_
  refine lv_iload_n hx hb dX11_sizeOf_8 rfl (lv_at hl 1 rfl) ?_
  refine lv_imul hx hb dX11_sizeOf_9 ?_
  refine lv_iadd hx hb dX11_sizeOf_10 ?_
  obtain ⟨hi11, h⟩ := zg_s h
  refine va_iald hx hb hK.1 hP 1 0 rfl rfl hi11 dX11_sizeOf_11 ?_
  exact hret (o := ((c_now (((195 : Int32) + ((2 : Int32) * p1))).toNatClampNeg))) h hP hD hS dX11_sizeOf_12

theorem uX11_tray_X11 : ∀ w ∈ u_ws RX11 TX11 33, w ∈ wsX11_tray := fun w h => (List.mem_cons_of_mem _ (List.mem_append_right _ h))
abbrev wdX11_tray (cy : Nat → ClassId) (b b_now b_imaged b_valueUp b_valueDown b_real b_brief b_order b_waits b_floats b_same b_upOf b_downOf b_tape b_open b_made b_paper b_reachUp b_reachDown b_reachHow b_reachFirst b_reachSecond b_begins b_carried : Nat) (c_hasImage : Int32) (c_above c_below : Int64) (c_orderMany c_waitMany c_seed c_size c_openMany c_paperMany c_reachMany : Int32) (c_now : Nat → Int32) : va_W := [(b, .inr (11, [.ref b_now, .ref b_imaged, .int c_hasImage, .long c_above, .long c_below, .ref b_valueUp, .ref b_valueDown, .ref b_real, .ref b_brief, .ref b_order, .int c_orderMany, .ref b_waits, .int c_waitMany, .ref b_floats, .int c_seed, .ref b_same, .ref b_upOf, .ref b_downOf, .ref b_tape, .int c_size, .ref b_open, .int c_openMany, .ref b_made, .ref b_paper, .int c_paperMany, .ref b_reachUp, .ref b_reachDown, .ref b_reachHow, .ref b_reachFirst, .ref b_reachSecond, .ref b_begins, .int c_reachMany, .ref b_carried])), (b_now, .inl (cy 0, 261, .inl c_now))]
abbrev rmX11_tray : Room := { frames := 2, cells := 0, slots := 0, locals := 45 }
theorem cdX11_tray : (yX11_tray).cls ≠ "java/lang/invoke/MethodHandle" ∧ (yX11_tray).cls ≠ "java/lang/invoke/VarHandle" ∧ (parseMethodDescriptor (yX11_tray).desc).map (fun d => d.parameters.length) = some 3 := by decide +kernel
def fX11_tray_L83 (p1 : Int32) : Nat → Int32 → (Nat → Int32) → Option (Int32 × (Nat → Int32)) :=
  zl2 (fun rec83 v4_83 c_now_83 => if (20 : Int32) ≤ v4_83 then (some ((1 : Int32), c_now_83)) else (zg (zin (((201 : Int32) + ((20 : Int32) * p1)) + v4_83) 261) (rec83 (v4_83 + (1 : Int32)) (upd c_now_83 ((((201 : Int32) + ((20 : Int32) * p1)) + v4_83)).toNatClampNeg (0 : Int32)))))
def fX11_tray_J64 (c_now : Nat → Int32) (p1 p2 : Int32) (s2_64 : Int32) : Option (Int32 × (Nat → Int32)) :=
  zg (zin ((195 : Int32) + ((2 : Int32) * p1)) 261) (zg (zin (((195 : Int32) + ((2 : Int32) * p1)) + (1 : Int32)) 261) (fX11_tray_L83 p1 5000 (0 : Int32) (upd (upd c_now (((195 : Int32) + ((2 : Int32) * p1))).toNatClampNeg s2_64) ((((195 : Int32) + ((2 : Int32) * p1)) + (1 : Int32))).toNatClampNeg p2)))
def fX11_tray_J44 (c_now : Nat → Int32) (p1 p2 p3 : Int32)  : Option (Int32 × (Nat → Int32)) :=
  if 0 ≤ p2 then (fX11_tray_J64 c_now p1 p2 p3) else (fX11_tray_J64 c_now p1 p2 (-1 : Int32))
def fX11_tray_J33 (c_now : Nat → Int32) (p1 p2 p3 : Int32)  : Option (Int32 × (Nat → Int32)) :=
  if p2 < 0 then (fX11_tray_J44 c_now p1 p2 p3) else (if 0 ≤ p3 then (fX11_tray_J44 c_now p1 p2 p3) else (some ((-14 : Int32), c_now)))
def fX11_tray (p1 p2 p3 : Int32) (c_now : Nat → Int32) : Option (Int32 × (Nat → Int32)) :=
  zb1 (fX11_isTray p1) (fun r1 => if r1 = 0 then (some ((-1 : Int32), c_now)) else (zb1 (fX11_in ((p2).toInt64) (-1 : Int64) (2 : Int64)) (fun r15 => if r15 = 0 then (some ((-1 : Int32), c_now)) else (if p2 < 0 then (fX11_tray_J33 c_now p1 p2 p3) else (if p3 ≤ (20 : Int32) then (fX11_tray_J33 c_now p1 p2 p3) else (some ((-1 : Int32), c_now)))))))
set_option maxHeartbeats 4000000 in
set_option maxRecDepth 100000 in
theorem mX11_tray (l : Launch) (D : va_G) (cy : Nat → ClassId) (sz : Nat) (b b_now b_imaged b_valueUp b_valueDown b_real b_brief b_order b_waits b_floats b_same b_upOf b_downOf b_tape b_open b_made b_paper b_reachUp b_reachDown b_reachHow b_reachFirst b_reachSecond b_begins b_carried : Nat) (c_hasImage : Int32) (c_above c_below : Int64) (c_orderMany c_waitMany c_seed c_size c_openMany c_paperMany c_reachMany : Int32) (c_now : Nat → Int32) (p1 p2 p3 : Int32) (res : (Int32 × (Nat → Int32))) (h : fX11_tray p1 p2 p3 c_now = some res) : zMi l yX11_tray wsX11_tray rmX11_tray [.ref b, .int p1, .int p2, .int p3] D cy (wdX11_tray cy b b_now b_imaged b_valueUp b_valueDown b_real b_brief b_order b_waits b_floats b_same b_upOf b_downOf b_tape b_open b_made b_paper b_reachUp b_reachDown b_reachHow b_reachFirst b_reachSecond b_begins b_carried c_hasImage c_above c_below c_orderMany c_waitMany c_seed c_size c_openMany c_paperMany c_reachMany c_now) sz ((fun (o : (Int32 × (Nat → Int32))) => o.1) res) ((fun (o : (Int32 × (Nat → Int32))) => (wdX11_tray cy b b_now b_imaged b_valueUp b_valueDown b_real b_brief b_order b_waits b_floats b_same b_upOf b_downOf b_tape b_open b_made b_paper b_reachUp b_reachDown b_reachHow b_reachFirst b_reachSecond b_begins b_carried c_hasImage c_above c_below c_orderMany c_waitMany c_seed c_size c_openMany c_paperMany c_reachMany (o.2))) res) := by
  refine zOfi (res := res) (rf := (fun (o : (Int32 × (Nat → Int32))) => o.1)) (Wf := (fun (o : (Int32 × (Nat → Int32))) => (wdX11_tray cy b b_now b_imaged b_valueUp b_valueDown b_real b_brief b_order b_waits b_floats b_same b_upOf b_downOf b_tape b_open b_made b_paper b_reachUp b_reachDown b_reachHow b_reachFirst b_reachSecond b_begins b_carried c_hasImage c_above c_below c_orderMany c_waitMany c_seed c_size c_openMany c_paperMany c_reachMany (o.2)))) (by decide +kernel) rfl (Nat.le_of_ble_eq_true rfl) ?_
  intro p e s m args below meth c A ls Q hx hb hml hts hown hP hK hD hA hS hl hret
  have hown : s.vm.findClass RX11 = some m.cls := hown
  have hl : lv_has ls 5 [(0, .ref b), (1, .int p1), (2, .int p2), (3, .int p3)] := hl
  refine lv_iload_n hx hb dX11_tray_0 rfl (lv_at hl 1 rfl) ?_
  obtain ⟨r1, hq1, h⟩ := zb1_s h
  refine zCz0 (r0 := r1) (va_runS (As := [.int p1]) (rest := []) ⟨hx, hb, hml, hown, hts⟩ (mX11_isTray l D cy s.heap.size p1 (r1) hq1) (va_cwS 1 hts gX11_tray_X11_isTray rfl rfl rfl cdX11_isTray ⟨Nat.le_of_ble_eq_true rfl, Nat.le_of_ble_eq_true rfl⟩) (zPS hK hP hD [] rfl rfl) rfl rfl hl.1 rfl (lv_room (Nat.le_of_ble_eq_true rfl)) dX11_tray_1 ⟨Nat.zero_le _, Nat.zero_le _⟩) hP hD hS hA (fun H locs hn1 hP hD hS => ?_)
  refine lv_if_eq (tgt := 31) hx hb dX11_tray_4 (by decide) (fun hc4 => ?_) (fun hc4 => ?_)
  · replace h := zi_t hc4 h
    refine lv_iconst (v := (-1 : Int32)) hx hb dX11_tray_31 (by decide) ?_
    exact hret (o := ((-1 : Int32), c_now)) h hP hD hS dX11_tray_32
  · replace h := zi_f hc4 h
    refine lv_iload_n hx hb dX11_tray_7 rfl (lv_at hl 2 rfl) ?_
    refine lv_i2l hx hb dX11_tray_8 rfl ?_
    refine lv_ldc2 hx hb hown (hts (.constantLong RX11 315 (-1)) (List.mem_of_getElem? (i := 1) rfl)) dX11_tray_9 ?_
    refine lv_ldc2 hx hb hown (hts (.constantLong RX11 112 (2)) (List.mem_of_getElem? (i := 2) rfl)) dX11_tray_12 ?_
    obtain ⟨r15, hq15, h⟩ := zb1_s h
    refine zCz0 (r0 := r15) (va_runS (As := [.long ((p2).toInt64), .long (-1 : Int64), .long (2 : Int64)]) (rest := []) ⟨hx, hb, hml, hown, hts⟩ (mX11_in l D cy H.size ((p2).toInt64) (-1 : Int64) (2 : Int64) (r15) hq15) (va_cwS 3 hts gX11_tray_X11_in rfl rfl rfl cdX11_in ⟨Nat.le_of_ble_eq_true rfl, Nat.le_of_ble_eq_true rfl⟩) (zPS hK hP hD [] rfl rfl) rfl rfl hl.1 rfl (lv_room (Nat.le_of_ble_eq_true rfl)) dX11_tray_15 ⟨Nat.zero_le _, Nat.zero_le _⟩) hP hD hS hA (fun H locs hn15 hP hD hS => ?_)
    refine lv_if_eq (tgt := 31) hx hb dX11_tray_18 (by decide) (fun hc18 => ?_) (fun hc18 => ?_)
    · replace h := zi_t hc18 h
      refine lv_iconst (v := (-1 : Int32)) hx hb dX11_tray_31 (by decide) ?_
      exact hret (o := ((-1 : Int32), c_now)) h hP hD hS dX11_tray_32
    · replace h := zi_f hc18 h
      refine lv_iload_n hx hb dX11_tray_21 rfl (lv_at hl 2 rfl) ?_
      have hJ33 : ∀  (H : Heap) (locs : List Loc) (ls : Array Slot), va_P D vwCl (wdX11_tray cy b b_now b_imaged b_valueUp b_valueDown b_real b_brief b_order b_waits b_floats b_same b_upOf b_downOf b_tape b_open b_made b_paper b_reachUp b_reachDown b_reachHow b_reachFirst b_reachSecond b_begins b_carried c_hasImage c_above c_below c_orderMany c_waitMany c_seed c_size c_openMany c_paperMany c_reachMany c_now) H → va_D A (wdX11_tray cy b b_now b_imaged b_valueUp b_valueDown b_real b_brief b_order b_waits b_floats b_same b_upOf b_downOf b_tape b_open b_made b_paper b_reachUp b_reachDown b_reachHow b_reachFirst b_reachSecond b_begins b_carried c_hasImage c_above c_below c_orderMany c_waitMany c_seed c_size c_openMany c_paperMany c_reachMany c_now) → va_S A s.heap H locs → lv_has ls 5 [(0, .ref b), (1, .int p1), (2, .int p2), (3, .int p3)] → fX11_tray_J33 c_now p1 p2 p3 = some res → W p l e rmX11_tray s m args below meth c H locs 0 0 Q (F0 m 33 ls []) := by
        intro  H locs ls hP hD hS hl h
        refine lv_iload_n hx hb dX11_tray_33 rfl (lv_at hl 2 rfl) ?_
        have hJ44 : ∀  (H : Heap) (locs : List Loc) (ls : Array Slot), va_P D vwCl (wdX11_tray cy b b_now b_imaged b_valueUp b_valueDown b_real b_brief b_order b_waits b_floats b_same b_upOf b_downOf b_tape b_open b_made b_paper b_reachUp b_reachDown b_reachHow b_reachFirst b_reachSecond b_begins b_carried c_hasImage c_above c_below c_orderMany c_waitMany c_seed c_size c_openMany c_paperMany c_reachMany c_now) H → va_D A (wdX11_tray cy b b_now b_imaged b_valueUp b_valueDown b_real b_brief b_order b_waits b_floats b_same b_upOf b_downOf b_tape b_open b_made b_paper b_reachUp b_reachDown b_reachHow b_reachFirst b_reachSecond b_begins b_carried c_hasImage c_above c_below c_orderMany c_waitMany c_seed c_size c_openMany c_paperMany c_reachMany c_now) → va_S A s.heap H locs → lv_has ls 5 [(0, .ref b), (1, .int p1), (2, .int p2), (3, .int p3)] → fX11_tray_J44 c_now p1 p2 p3 = some res → W p l e rmX11_tray s m args below meth c H locs 0 0 Q (F0 m 44 ls []) := by
          intro  H locs ls hP hD hS hl h
          refine lv_aload_n hx hb dX11_tray_44 rfl (lv_at hl 0 rfl) ?_
          refine va_get (D := D) (ci := 11) (v := .ref b_now) (C := RX11) (T := TX11) (N := 33) hx hb hts uX11_tray_X11 hown hK.1 hP 0 rfl rfl 0 (by decide) (hts (.fieldLink RX11 9 "WishedResistorModel" "now" "[I") (List.mem_of_getElem? (i := 3) rfl)) (fun _ h9 => h9) rfl dX11_tray_45 ?_
          refine lv_sipush (v := (195 : Int32)) hx hb dX11_tray_48 (by decide) ?_
          refine lv_iconst (v := (2 : Int32)) hx hb dX11_tray_51 (by decide) ?_
          refine lv_iload_n hx hb dX11_tray_52 rfl (lv_at hl 1 rfl) ?_
          refine lv_imul hx hb dX11_tray_53 ?_
          refine lv_iadd hx hb dX11_tray_54 ?_
          refine lv_iload_n hx hb dX11_tray_55 rfl (lv_at hl 2 rfl) ?_
          have hJ64 : ∀ (s2_64 : Int32) (H : Heap) (locs : List Loc) (ls : Array Slot), va_P D vwCl (wdX11_tray cy b b_now b_imaged b_valueUp b_valueDown b_real b_brief b_order b_waits b_floats b_same b_upOf b_downOf b_tape b_open b_made b_paper b_reachUp b_reachDown b_reachHow b_reachFirst b_reachSecond b_begins b_carried c_hasImage c_above c_below c_orderMany c_waitMany c_seed c_size c_openMany c_paperMany c_reachMany c_now) H → va_D A (wdX11_tray cy b b_now b_imaged b_valueUp b_valueDown b_real b_brief b_order b_waits b_floats b_same b_upOf b_downOf b_tape b_open b_made b_paper b_reachUp b_reachDown b_reachHow b_reachFirst b_reachSecond b_begins b_carried c_hasImage c_above c_below c_orderMany c_waitMany c_seed c_size c_openMany c_paperMany c_reachMany c_now) → va_S A s.heap H locs → lv_has ls 5 [(0, .ref b), (1, .int p1), (2, .int p2)] → fX11_tray_J64 c_now p1 p2 s2_64 = some res → W p l e rmX11_tray s m args below meth c H locs 0 0 Q (F0 m 64 ls [.int s2_64, .int ((195 : Int32) + ((2 : Int32) * p1)), .ref b_now]) := by
            intro s2_64 H locs ls hP hD hS hl h
            obtain ⟨hi64, h⟩ := zg_s h
            refine va_iast hx hb hK.1 hP hD hS 1 0 rfl rfl hi64 dX11_tray_64 (fun H locs hP hD hS => ?_)
            have hP : va_P D vwCl (wdX11_tray cy b b_now b_imaged b_valueUp b_valueDown b_real b_brief b_order b_waits b_floats b_same b_upOf b_downOf b_tape b_open b_made b_paper b_reachUp b_reachDown b_reachHow b_reachFirst b_reachSecond b_begins b_carried c_hasImage c_above c_below c_orderMany c_waitMany c_seed c_size c_openMany c_paperMany c_reachMany (upd c_now (((195 : Int32) + ((2 : Int32) * p1))).toNatClampNeg s2_64)) H := hP
            have hD : va_D A (wdX11_tray cy b b_now b_imaged b_valueUp b_valueDown b_real b_brief b_order b_waits b_floats b_same b_upOf b_downOf b_tape b_open b_made b_paper b_reachUp b_reachDown b_reachHow b_reachFirst b_reachSecond b_begins b_carried c_hasImage c_above c_below c_orderMany c_waitMany c_seed c_size c_openMany c_paperMany c_reachMany (upd c_now (((195 : Int32) + ((2 : Int32) * p1))).toNatClampNeg s2_64)) := hD
            refine lv_aload_n hx hb dX11_tray_65 rfl (lv_at hl 0 rfl) ?_
            refine va_get (D := D) (ci := 11) (v := .ref b_now) (C := RX11) (T := TX11) (N := 33) hx hb hts uX11_tray_X11 hown hK.1 hP 0 rfl rfl 0 (by decide) (hts (.fieldLink RX11 9 "WishedResistorModel" "now" "[I") (List.mem_of_getElem? (i := 3) rfl)) (fun _ h9 => h9) rfl dX11_tray_66 ?_
            refine lv_sipush (v := (195 : Int32)) hx hb dX11_tray_69 (by decide) ?_
            refine lv_iconst (v := (2 : Int32)) hx hb dX11_tray_72 (by decide) ?_
            refine lv_iload_n hx hb dX11_tray_73 rfl (lv_at hl 1 rfl) ?_
            refine lv_imul hx hb dX11_tray_74 ?_
            refine lv_iadd hx hb dX11_tray_75 ?_
            refine lv_iconst (v := (1 : Int32)) hx hb dX11_tray_76 (by decide) ?_
            refine lv_iadd hx hb dX11_tray_77 ?_
            refine lv_iload_n hx hb dX11_tray_78 rfl (lv_at hl 2 rfl) ?_
            obtain ⟨hi79, h⟩ := zg_s h
            refine va_iast hx hb hK.1 hP hD hS 1 0 rfl rfl hi79 dX11_tray_79 (fun H locs hP hD hS => ?_)
            have hP : va_P D vwCl (wdX11_tray cy b b_now b_imaged b_valueUp b_valueDown b_real b_brief b_order b_waits b_floats b_same b_upOf b_downOf b_tape b_open b_made b_paper b_reachUp b_reachDown b_reachHow b_reachFirst b_reachSecond b_begins b_carried c_hasImage c_above c_below c_orderMany c_waitMany c_seed c_size c_openMany c_paperMany c_reachMany (upd (upd c_now (((195 : Int32) + ((2 : Int32) * p1))).toNatClampNeg s2_64) ((((195 : Int32) + ((2 : Int32) * p1)) + (1 : Int32))).toNatClampNeg p2)) H := hP
            have hD : va_D A (wdX11_tray cy b b_now b_imaged b_valueUp b_valueDown b_real b_brief b_order b_waits b_floats b_same b_upOf b_downOf b_tape b_open b_made b_paper b_reachUp b_reachDown b_reachHow b_reachFirst b_reachSecond b_begins b_carried c_hasImage c_above c_below c_orderMany c_waitMany c_seed c_size c_openMany c_paperMany c_reachMany (upd (upd c_now (((195 : Int32) + ((2 : Int32) * p1))).toNatClampNeg s2_64) ((((195 : Int32) + ((2 : Int32) * p1)) + (1 : Int32))).toNatClampNeg p2)) := hD
            refine lv_iconst (v := (0 : Int32)) hx hb dX11_tray_80 (by decide) ?_
            refine lv_istore (lv' := [(4, .int (0 : Int32)), (0, .ref b), (1, .int p1), (2, .int p2)]) hx hb dX11_tray_81 hl (Nat.le_of_ble_eq_true rfl) rfl (fun ls hl => ?_)
            have hL83 : ∀ n83 : Nat, ∀ (v4_83 : Int32) (c_now_83 : Nat → Int32) (H : Heap) (locs : List Loc) (ls : Array Slot), va_P D vwCl (wdX11_tray cy b b_now b_imaged b_valueUp b_valueDown b_real b_brief b_order b_waits b_floats b_same b_upOf b_downOf b_tape b_open b_made b_paper b_reachUp b_reachDown b_reachHow b_reachFirst b_reachSecond b_begins b_carried c_hasImage c_above c_below c_orderMany c_waitMany c_seed c_size c_openMany c_paperMany c_reachMany c_now_83) H → va_D A (wdX11_tray cy b b_now b_imaged b_valueUp b_valueDown b_real b_brief b_order b_waits b_floats b_same b_upOf b_downOf b_tape b_open b_made b_paper b_reachUp b_reachDown b_reachHow b_reachFirst b_reachSecond b_begins b_carried c_hasImage c_above c_below c_orderMany c_waitMany c_seed c_size c_openMany c_paperMany c_reachMany c_now_83) → va_S A s.heap H locs → lv_has ls 5 [(0, .ref b), (1, .int p1), (4, .int v4_83)] → fX11_tray_L83 p1 n83 v4_83 c_now_83 = some res → W p l e rmX11_tray s m args below meth c H locs 0 0 Q (F0 m 83 ls []) := by
              intro n83
              induction n83 with
              | zero =>
                intro v4_83 c_now_83 H locs ls hP hD hS hl h
                exact zl2_0 h
              | succ n83 ih83 =>
                intro v4_83 c_now_83 H locs ls hP hD hS hl h
                replace h := zl2_s h
                refine lv_iload hx hb dX11_tray_83 (lv_at hl 2 rfl) ?_
                refine lv_bipush (v := (20 : Int32)) hx hb dX11_tray_85 (by decide) ?_
                refine lv_icmp_ge (tgt := 113) hx hb dX11_tray_87 (by decide) (fun hc87 => ?_) (fun hc87 => ?_)
                · replace h := zi_t hc87 h
                  refine lv_iconst (v := (1 : Int32)) hx hb dX11_tray_113 (by decide) ?_
                  exact hret (o := ((1 : Int32), c_now_83)) h hP hD hS dX11_tray_114
                · replace h := zi_f hc87 h
                  refine lv_aload_n hx hb dX11_tray_90 rfl (lv_at hl 0 rfl) ?_
                  refine va_get (D := D) (ci := 11) (v := .ref b_now) (C := RX11) (T := TX11) (N := 33) hx hb hts uX11_tray_X11 hown hK.1 hP 0 rfl rfl 0 (by decide) (hts (.fieldLink RX11 9 "WishedResistorModel" "now" "[I") (List.mem_of_getElem? (i := 3) rfl)) (fun _ h9 => h9) rfl dX11_tray_91 ?_
                  refine lv_sipush (v := (201 : Int32)) hx hb dX11_tray_94 (by decide) ?_
                  refine lv_bipush (v := (20 : Int32)) hx hb dX11_tray_97 (by decide) ?_
                  refine lv_iload_n hx hb dX11_tray_99 rfl (lv_at hl 1 rfl) ?_
                  refine lv_imul hx hb dX11_tray_100 ?_
                  refine lv_iadd hx hb dX11_tray_101 ?_
                  refine lv_iload hx hb dX11_tray_102 (lv_at hl 2 rfl) ?_
                  refine lv_iadd hx hb dX11_tray_104 ?_
                  refine lv_iconst (v := (0 : Int32)) hx hb dX11_tray_105 (by decide) ?_
                  obtain ⟨hi106, h⟩ := zg_s h
                  refine va_iast hx hb hK.1 hP hD hS 1 0 rfl rfl hi106 dX11_tray_106 (fun H locs hP hD hS => ?_)
                  have hP : va_P D vwCl (wdX11_tray cy b b_now b_imaged b_valueUp b_valueDown b_real b_brief b_order b_waits b_floats b_same b_upOf b_downOf b_tape b_open b_made b_paper b_reachUp b_reachDown b_reachHow b_reachFirst b_reachSecond b_begins b_carried c_hasImage c_above c_below c_orderMany c_waitMany c_seed c_size c_openMany c_paperMany c_reachMany (upd c_now_83 ((((201 : Int32) + ((20 : Int32) * p1)) + v4_83)).toNatClampNeg (0 : Int32))) H := hP
                  have hD : va_D A (wdX11_tray cy b b_now b_imaged b_valueUp b_valueDown b_real b_brief b_order b_waits b_floats b_same b_upOf b_downOf b_tape b_open b_made b_paper b_reachUp b_reachDown b_reachHow b_reachFirst b_reachSecond b_begins b_carried c_hasImage c_above c_below c_orderMany c_waitMany c_seed c_size c_openMany c_paperMany c_reachMany (upd c_now_83 ((((201 : Int32) + ((20 : Int32) * p1)) + v4_83)).toNatClampNeg (0 : Int32))) := hD
                  refine lv_iinc (v := (v4_83 + (1 : Int32))) (lv' := [(4, .int (v4_83 + (1 : Int32))), (0, .ref b), (1, .int p1)]) hx hb dX11_tray_107 hl (k := 2) rfl (by rfl) (Nat.le_of_ble_eq_true rfl) rfl (fun ls hl => ?_)
                  refine lv_goto (tgt := 83) hx hb dX11_tray_110 (by decide) ?_
                  exact ih83 (v4_83 + (1 : Int32)) (upd c_now_83 ((((201 : Int32) + ((20 : Int32) * p1)) + v4_83)).toNatClampNeg (0 : Int32)) _ _ _ hP hD hS (lv_sub hl [1, 2, 0] rfl) h
            exact hL83 5000 (0 : Int32) (upd (upd c_now (((195 : Int32) + ((2 : Int32) * p1))).toNatClampNeg s2_64) ((((195 : Int32) + ((2 : Int32) * p1)) + (1 : Int32))).toNatClampNeg p2) _ _ _ hP hD hS (lv_sub hl [1, 2, 0] rfl) h
          refine lv_if_ge (tgt := 63) hx hb dX11_tray_56 (by decide) (fun hc56 => ?_) (fun hc56 => ?_)
          · replace h := zi_t hc56 h
            refine lv_iload_n hx hb dX11_tray_63 rfl (lv_at hl 3 rfl) ?_
            exact hJ64 p3 _ _ _ hP hD hS (lv_sub hl [0, 1, 2] rfl) h
          · replace h := zi_f hc56 h
            refine lv_iconst (v := (-1 : Int32)) hx hb dX11_tray_59 (by decide) ?_
            refine lv_goto (tgt := 64) hx hb dX11_tray_60 (by decide) ?_
            exact hJ64 (-1 : Int32) _ _ _ hP hD hS (lv_sub hl [0, 1, 2] rfl) h
        refine lv_if_lt (tgt := 44) hx hb dX11_tray_34 (by decide) (fun hc34 => ?_) (fun hc34 => ?_)
        · replace h := zi_t hc34 h
          exact hJ44 _ _ _ hP hD hS (lv_sub hl [0, 1, 2, 3] rfl) h
        · replace h := zi_f hc34 h
          refine lv_iload_n hx hb dX11_tray_37 rfl (lv_at hl 3 rfl) ?_
          refine lv_if_ge (tgt := 44) hx hb dX11_tray_38 (by decide) (fun hc38 => ?_) (fun hc38 => ?_)
          · replace h := zi_t hc38 h
            exact hJ44 _ _ _ hP hD hS (lv_sub hl [0, 1, 2, 3] rfl) h
          · replace h := zi_f hc38 h
            refine lv_bipush (v := (-14 : Int32)) hx hb dX11_tray_41 (by decide) ?_
            exact hret (o := ((-14 : Int32), c_now)) h hP hD hS dX11_tray_43
      refine lv_if_lt (tgt := 33) hx hb dX11_tray_22 (by decide) (fun hc22 => ?_) (fun hc22 => ?_)
      · replace h := zi_t hc22 h
        exact hJ33 _ _ _ hP hD hS (lv_sub hl [0, 1, 2, 3] rfl) h
      · replace h := zi_f hc22 h
        refine lv_iload_n hx hb dX11_tray_25 rfl (lv_at hl 3 rfl) ?_
        refine lv_bipush (v := (20 : Int32)) hx hb dX11_tray_26 (by decide) ?_
        refine lv_icmp_le (tgt := 33) hx hb dX11_tray_28 (by decide) (fun hc28 => ?_) (fun hc28 => ?_)
        · replace h := zi_t hc28 h
          exact hJ33 _ _ _ hP hD hS (lv_sub hl [0, 1, 2, 3] rfl) h
        · replace h := zi_f hc28 h
          refine lv_iconst (v := (-1 : Int32)) hx hb dX11_tray_31 (by decide) ?_
          exact hret (o := ((-1 : Int32), c_now)) h hP hD hS dX11_tray_32

theorem uX11_mayLie_X11 : ∀ w ∈ u_ws RX11 TX11 33, w ∈ wsX11_mayLie := fun w h => (List.mem_cons_of_mem _ (List.mem_append_right _ h))
abbrev wdX11_mayLie (cy : Nat → ClassId) (b b_now b_imaged b_valueUp b_valueDown b_real b_brief b_order b_waits b_floats b_same b_upOf b_downOf b_tape b_open b_made b_paper b_reachUp b_reachDown b_reachHow b_reachFirst b_reachSecond b_begins b_carried : Nat) (c_hasImage : Int32) (c_above c_below : Int64) (c_orderMany c_waitMany c_seed c_size c_openMany c_paperMany c_reachMany : Int32) (c_now : Nat → Int32) : va_W := [(b, .inr (11, [.ref b_now, .ref b_imaged, .int c_hasImage, .long c_above, .long c_below, .ref b_valueUp, .ref b_valueDown, .ref b_real, .ref b_brief, .ref b_order, .int c_orderMany, .ref b_waits, .int c_waitMany, .ref b_floats, .int c_seed, .ref b_same, .ref b_upOf, .ref b_downOf, .ref b_tape, .int c_size, .ref b_open, .int c_openMany, .ref b_made, .ref b_paper, .int c_paperMany, .ref b_reachUp, .ref b_reachDown, .ref b_reachHow, .ref b_reachFirst, .ref b_reachSecond, .ref b_begins, .int c_reachMany, .ref b_carried])), (b_now, .inl (cy 0, 261, .inl c_now))]
abbrev rmX11_mayLie : Room := { frames := 1, cells := 0, slots := 0, locals := 21 }
theorem cdX11_mayLie : (yX11_mayLie).cls ≠ "java/lang/invoke/MethodHandle" ∧ (yX11_mayLie).cls ≠ "java/lang/invoke/VarHandle" ∧ (parseMethodDescriptor (yX11_mayLie).desc).map (fun d => d.parameters.length) = some 2 := by decide +kernel
def fX11_mayLie_J48 (s0_33 : Int32) (s1_48 : Int32) : Option (Int32) :=
  if s0_33 = s1_48 then (some ((1 : Int32))) else (some ((0 : Int32)))
def fX11_mayLie_J33 (c_now : Nat → Int32) (p2 : Int32) (s0_33 : Int32) : Option (Int32) :=
  zb1 (fX11_kindOf (p2 - (1 : Int32)) c_now) (fun r37 => if r37 = 0 then (fX11_mayLie_J48 s0_33 (1 : Int32)) else (fX11_mayLie_J48 s0_33 (0 : Int32)))
def fX11_mayLie (p1 p2 : Int32) (c_now : Nat → Int32) : Option (Int32) :=
  zg (zin (((195 : Int32) + ((2 : Int32) * p1)) + (1 : Int32)) 261) (if p2 = 0 then (some ((1 : Int32))) else (if (c_now ((((195 : Int32) + ((2 : Int32) * p1)) + (1 : Int32))).toNatClampNeg) = 0 then (some ((1 : Int32))) else (if (c_now ((((195 : Int32) + ((2 : Int32) * p1)) + (1 : Int32))).toNatClampNeg) = (1 : Int32) then (fX11_mayLie_J33 c_now p2 (1 : Int32)) else (fX11_mayLie_J33 c_now p2 (0 : Int32)))))
set_option maxHeartbeats 4000000 in
set_option maxRecDepth 100000 in
theorem mX11_mayLie (l : Launch) (D : va_G) (cy : Nat → ClassId) (sz : Nat) (b b_now b_imaged b_valueUp b_valueDown b_real b_brief b_order b_waits b_floats b_same b_upOf b_downOf b_tape b_open b_made b_paper b_reachUp b_reachDown b_reachHow b_reachFirst b_reachSecond b_begins b_carried : Nat) (c_hasImage : Int32) (c_above c_below : Int64) (c_orderMany c_waitMany c_seed c_size c_openMany c_paperMany c_reachMany : Int32) (c_now : Nat → Int32) (p1 p2 : Int32) (res : (Int32)) (h : fX11_mayLie p1 p2 c_now = some res) : zMz l yX11_mayLie wsX11_mayLie rmX11_mayLie [.ref b, .int p1, .int p2] D cy (wdX11_mayLie cy b b_now b_imaged b_valueUp b_valueDown b_real b_brief b_order b_waits b_floats b_same b_upOf b_downOf b_tape b_open b_made b_paper b_reachUp b_reachDown b_reachHow b_reachFirst b_reachSecond b_begins b_carried c_hasImage c_above c_below c_orderMany c_waitMany c_seed c_size c_openMany c_paperMany c_reachMany c_now) sz ((fun (o : (Int32)) => o) res) ((fun (o : (Int32)) => (wdX11_mayLie cy b b_now b_imaged b_valueUp b_valueDown b_real b_brief b_order b_waits b_floats b_same b_upOf b_downOf b_tape b_open b_made b_paper b_reachUp b_reachDown b_reachHow b_reachFirst b_reachSecond b_begins b_carried c_hasImage c_above c_below c_orderMany c_waitMany c_seed c_size c_openMany c_paperMany c_reachMany c_now)) res) := by
  refine zOfz (res := res) (rf := (fun (o : (Int32)) => o)) (Wf := (fun (o : (Int32)) => (wdX11_mayLie cy b b_now b_imaged b_valueUp b_valueDown b_real b_brief b_order b_waits b_floats b_same b_upOf b_downOf b_tape b_open b_made b_paper b_reachUp b_reachDown b_reachHow b_reachFirst b_reachSecond b_begins b_carried c_hasImage c_above c_below c_orderMany c_waitMany c_seed c_size c_openMany c_paperMany c_reachMany c_now))) (by decide +kernel) rfl (Nat.le_of_ble_eq_true rfl) ?_
  intro p e s m args below meth c A ls Q hx hb hml hts hown hP hK hD hA hS hl hret
  have hown : s.vm.findClass RX11 = some m.cls := hown
  have hl : lv_has ls 4 [(0, .ref b), (1, .int p1), (2, .int p2)] := hl
  refine lv_aload_n hx hb dX11_mayLie_0 rfl (lv_at hl 0 rfl) ?_
  refine va_get (D := D) (ci := 11) (v := .ref b_now) (C := RX11) (T := TX11) (N := 33) hx hb hts uX11_mayLie_X11 hown hK.1 hP 0 rfl rfl 0 (by decide) (hts (.fieldLink RX11 9 "WishedResistorModel" "now" "[I") (List.mem_of_getElem? (i := 1) rfl)) (fun _ h9 => h9) rfl dX11_mayLie_1 ?_
  refine lv_sipush (v := (195 : Int32)) hx hb dX11_mayLie_4 (by decide) ?_
  refine lv_iconst (v := (2 : Int32)) hx hb dX11_mayLie_7 (by decide) ?_
  refine lv_iload_n hx hb dX11_mayLie_8 rfl (lv_at hl 1 rfl) ?_
  refine lv_imul hx hb dX11_mayLie_9 ?_
  refine lv_iadd hx hb dX11_mayLie_10 ?_
  refine lv_iconst (v := (1 : Int32)) hx hb dX11_mayLie_11 (by decide) ?_
  refine lv_iadd hx hb dX11_mayLie_12 ?_
  obtain ⟨hi13, h⟩ := zg_s h
  refine va_iald hx hb hK.1 hP 1 0 rfl rfl hi13 dX11_mayLie_13 ?_
  refine lv_istore_n (lv' := [(3, .int (c_now ((((195 : Int32) + ((2 : Int32) * p1)) + (1 : Int32))).toNatClampNeg)), (0, .ref b), (1, .int p1), (2, .int p2)]) hx hb dX11_mayLie_14 rfl hl (Nat.le_of_ble_eq_true rfl) rfl (fun ls hl => ?_)
  refine lv_iload_n hx hb dX11_mayLie_15 rfl (lv_at hl 3 rfl) ?_
  refine lv_if_eq (tgt := 51) hx hb dX11_mayLie_16 (by decide) (fun hc16 => ?_) (fun hc16 => ?_)
  · replace h := zi_t hc16 h
    refine lv_iconst (v := (1 : Int32)) hx hb dX11_mayLie_51 (by decide) ?_
    refine lv_goto (tgt := 56) hx hb dX11_mayLie_52 (by decide) ?_
    exact hret (o := ((1 : Int32))) h (show narrow .boolean (.int (1 : Int32)) = .int (1 : Int32) from by decide) hP hD hS dX11_mayLie_56
  · replace h := zi_f hc16 h
    refine lv_iload_n hx hb dX11_mayLie_19 rfl (lv_at hl 0 rfl) ?_
    refine lv_if_eq (tgt := 51) hx hb dX11_mayLie_20 (by decide) (fun hc20 => ?_) (fun hc20 => ?_)
    · replace h := zi_t hc20 h
      refine lv_iconst (v := (1 : Int32)) hx hb dX11_mayLie_51 (by decide) ?_
      refine lv_goto (tgt := 56) hx hb dX11_mayLie_52 (by decide) ?_
      exact hret (o := ((1 : Int32))) h (show narrow .boolean (.int (1 : Int32)) = .int (1 : Int32) from by decide) hP hD hS dX11_mayLie_56
    · replace h := zi_f hc20 h
      refine lv_iload_n hx hb dX11_mayLie_23 rfl (lv_at hl 0 rfl) ?_
      refine lv_iconst (v := (1 : Int32)) hx hb dX11_mayLie_24 (by decide) ?_
      have hJ33 : ∀ (s0_33 : Int32) (H : Heap) (locs : List Loc) (ls : Array Slot), va_P D vwCl (wdX11_mayLie cy b b_now b_imaged b_valueUp b_valueDown b_real b_brief b_order b_waits b_floats b_same b_upOf b_downOf b_tape b_open b_made b_paper b_reachUp b_reachDown b_reachHow b_reachFirst b_reachSecond b_begins b_carried c_hasImage c_above c_below c_orderMany c_waitMany c_seed c_size c_openMany c_paperMany c_reachMany c_now) H → va_D A (wdX11_mayLie cy b b_now b_imaged b_valueUp b_valueDown b_real b_brief b_order b_waits b_floats b_same b_upOf b_downOf b_tape b_open b_made b_paper b_reachUp b_reachDown b_reachHow b_reachFirst b_reachSecond b_begins b_carried c_hasImage c_above c_below c_orderMany c_waitMany c_seed c_size c_openMany c_paperMany c_reachMany c_now) → va_S A s.heap H locs → lv_has ls 4 [(0, .ref b), (2, .int p2)] → fX11_mayLie_J33 c_now p2 s0_33 = some res → W p l e rmX11_mayLie s m args below meth c H locs 0 0 Q (F0 m 33 ls [.int s0_33]) := by
        intro s0_33 H locs ls hP hD hS hl h
        refine lv_aload_n hx hb dX11_mayLie_33 rfl (lv_at hl 0 rfl) ?_
        refine lv_iload_n hx hb dX11_mayLie_34 rfl (lv_at hl 1 rfl) ?_
        refine lv_iconst (v := (1 : Int32)) hx hb dX11_mayLie_35 (by decide) ?_
        refine lv_isub hx hb dX11_mayLie_36 ?_
        obtain ⟨r37, hq37, h⟩ := zb1_s h
        refine zCi (r0 := r37) (w1 := (wdX11_kindOf cy b b_now b_imaged b_valueUp b_valueDown b_real b_brief b_order b_waits b_floats b_same b_upOf b_downOf b_tape b_open b_made b_paper b_reachUp b_reachDown b_reachHow b_reachFirst b_reachSecond b_begins b_carried c_hasImage c_above c_below c_orderMany c_waitMany c_seed c_size c_openMany c_paperMany c_reachMany c_now)) (ws' := (wdX11_mayLie cy b b_now b_imaged b_valueUp b_valueDown b_real b_brief b_order b_waits b_floats b_same b_upOf b_downOf b_tape b_open b_made b_paper b_reachUp b_reachDown b_reachHow b_reachFirst b_reachSecond b_begins b_carried c_hasImage c_above c_below c_orderMany c_waitMany c_seed c_size c_openMany c_paperMany c_reachMany c_now)) (va_runV (As := [.int (p2 - (1 : Int32))]) (rest := [.int s0_33]) ⟨hx, hb, hml, hown, hts⟩ (mX11_kindOf l D cy H.size b b_now b_imaged b_valueUp b_valueDown b_real b_brief b_order b_waits b_floats b_same b_upOf b_downOf b_tape b_open b_made b_paper b_reachUp b_reachDown b_reachHow b_reachFirst b_reachSecond b_begins b_carried c_hasImage c_above c_below c_orderMany c_waitMany c_seed c_size c_openMany c_paperMany c_reachMany c_now (p2 - (1 : Int32)) (r37) hq37) (cwV 1 hts gX11_mayLie_X11_kindOf rfl rfl rfl ⟨rfl, cdX11_kindOf⟩ ⟨Nat.le_of_ble_eq_true rfl, Nat.le_of_ble_eq_true rfl⟩) (zPV hK hP hD [0, 1] rfl rfl (q0 := 0) (ci := 11) rfl rfl rfl) rfl rfl hl.1 rfl (lv_room (Nat.le_of_ble_eq_true rfl)) dX11_mayLie_37 ⟨Nat.zero_le _, Nat.zero_le _⟩) hP hD hS hA [0, 1] [] [0, 1] rfl rfl rfl rfl (fun H locs hP hD hS => ?_)
        have hJ48 : ∀ (s1_48 : Int32) (H : Heap) (locs : List Loc) (ls : Array Slot), va_P D vwCl (wdX11_mayLie cy b b_now b_imaged b_valueUp b_valueDown b_real b_brief b_order b_waits b_floats b_same b_upOf b_downOf b_tape b_open b_made b_paper b_reachUp b_reachDown b_reachHow b_reachFirst b_reachSecond b_begins b_carried c_hasImage c_above c_below c_orderMany c_waitMany c_seed c_size c_openMany c_paperMany c_reachMany c_now) H → va_D A (wdX11_mayLie cy b b_now b_imaged b_valueUp b_valueDown b_real b_brief b_order b_waits b_floats b_same b_upOf b_downOf b_tape b_open b_made b_paper b_reachUp b_reachDown b_reachHow b_reachFirst b_reachSecond b_begins b_carried c_hasImage c_above c_below c_orderMany c_waitMany c_seed c_size c_openMany c_paperMany c_reachMany c_now) → va_S A s.heap H locs → lv_has ls 4 [] → fX11_mayLie_J48 s0_33 s1_48 = some res → W p l e rmX11_mayLie s m args below meth c H locs 0 0 Q (F0 m 48 ls [.int s1_48, .int s0_33]) := by
          intro s1_48 H locs ls hP hD hS hl h
          refine lv_icmp_ne (tgt := 55) hx hb dX11_mayLie_48 (by decide) (fun hc48 => ?_) (fun hc48 => ?_)
          · replace h := zi_f hc48 h
            refine lv_iconst (v := (0 : Int32)) hx hb dX11_mayLie_55 (by decide) ?_
            exact hret (o := ((0 : Int32))) h (show narrow .boolean (.int (0 : Int32)) = .int (0 : Int32) from by decide) hP hD hS dX11_mayLie_56
          · replace h := zi_t hc48 h
            refine lv_iconst (v := (1 : Int32)) hx hb dX11_mayLie_51 (by decide) ?_
            refine lv_goto (tgt := 56) hx hb dX11_mayLie_52 (by decide) ?_
            exact hret (o := ((1 : Int32))) h (show narrow .boolean (.int (1 : Int32)) = .int (1 : Int32) from by decide) hP hD hS dX11_mayLie_56
        refine lv_if_ne (tgt := 47) hx hb dX11_mayLie_40 (by decide) (fun hc40 => ?_) (fun hc40 => ?_)
        · replace h := zi_f hc40 h
          refine lv_iconst (v := (0 : Int32)) hx hb dX11_mayLie_47 (by decide) ?_
          exact hJ48 (0 : Int32) _ _ _ hP hD hS (lv_sub hl [] rfl) h
        · replace h := zi_t hc40 h
          refine lv_iconst (v := (1 : Int32)) hx hb dX11_mayLie_43 (by decide) ?_
          refine lv_goto (tgt := 48) hx hb dX11_mayLie_44 (by decide) ?_
          exact hJ48 (1 : Int32) _ _ _ hP hD hS (lv_sub hl [] rfl) h
      refine lv_icmp_ne (tgt := 32) hx hb dX11_mayLie_25 (by decide) (fun hc25 => ?_) (fun hc25 => ?_)
      · replace h := zi_f hc25 h
        refine lv_iconst (v := (0 : Int32)) hx hb dX11_mayLie_32 (by decide) ?_
        exact hJ33 (0 : Int32) _ _ _ hP hD hS (lv_sub hl [1, 3] rfl) h
      · replace h := zi_t hc25 h
        refine lv_iconst (v := (1 : Int32)) hx hb dX11_mayLie_28 (by decide) ?_
        refine lv_goto (tgt := 33) hx hb dX11_mayLie_29 (by decide) ?_
        exact hJ33 (1 : Int32) _ _ _ hP hD hS (lv_sub hl [1, 3] rfl) h

theorem uX11_lay_X11 : ∀ w ∈ u_ws RX11 TX11 33, w ∈ wsX11_lay := fun w h => (List.mem_cons_of_mem _ (List.mem_append_right _ h))
abbrev wdX11_lay (cy : Nat → ClassId) (b b_now b_imaged b_valueUp b_valueDown b_real b_brief b_order b_waits b_floats b_same b_upOf b_downOf b_tape b_open b_made b_paper b_reachUp b_reachDown b_reachHow b_reachFirst b_reachSecond b_begins b_carried : Nat) (c_hasImage : Int32) (c_above c_below : Int64) (c_orderMany c_waitMany c_seed c_size c_openMany c_paperMany c_reachMany : Int32) (c_now : Nat → Int32) : va_W := [(b, .inr (11, [.ref b_now, .ref b_imaged, .int c_hasImage, .long c_above, .long c_below, .ref b_valueUp, .ref b_valueDown, .ref b_real, .ref b_brief, .ref b_order, .int c_orderMany, .ref b_waits, .int c_waitMany, .ref b_floats, .int c_seed, .ref b_same, .ref b_upOf, .ref b_downOf, .ref b_tape, .int c_size, .ref b_open, .int c_openMany, .ref b_made, .ref b_paper, .int c_paperMany, .ref b_reachUp, .ref b_reachDown, .ref b_reachHow, .ref b_reachFirst, .ref b_reachSecond, .ref b_begins, .int c_reachMany, .ref b_carried])), (b_now, .inl (cy 0, 261, .inl c_now))]
abbrev rmX11_lay : Room := { frames := 2, cells := 0, slots := 0, locals := 46 }
theorem cdX11_lay : (yX11_lay).cls ≠ "java/lang/invoke/MethodHandle" ∧ (yX11_lay).cls ≠ "java/lang/invoke/VarHandle" ∧ (parseMethodDescriptor (yX11_lay).desc).map (fun d => d.parameters.length) = some 3 := by decide +kernel
def fX11_lay_J22 (c_now : Nat → Int32) (p1 p2 p3 : Int32)  : Option (Int32 × (Nat → Int32)) :=
  zb1 (fX11_sizeOf p1 c_now) (fun r24 => if 0 ≤ r24 then (zb1 (fX11_sizeOf p1 c_now) (fun r38 => zb1 (fX11_in ((p2).toInt64) (0 : Int64) (((r38 - (1 : Int32))).toInt64)) (fun r44 => if r44 = 0 then (some ((-13 : Int32), c_now)) else (zb1 (fX11_mayLie p1 (p3 + (1 : Int32)) c_now) (fun r58 => if r58 = 0 then (some ((-12 : Int32), c_now)) else (zg (zin (((201 : Int32) + ((20 : Int32) * p1)) + p2) 261) (some ((1 : Int32), (upd c_now ((((201 : Int32) + ((20 : Int32) * p1)) + p2)).toNatClampNeg (p3 + (1 : Int32))))))))))) else (some ((-11 : Int32), c_now)))
def fX11_lay (p1 p2 p3 : Int32) (c_now : Nat → Int32) : Option (Int32 × (Nat → Int32)) :=
  zb1 (fX11_isTray p1) (fun r1 => if r1 = 0 then (some ((-1 : Int32), c_now)) else (if p3 = (-1 : Int32) then (fX11_lay_J22 c_now p1 p2 p3) else (zb1 (fX11_isNet p3 c_now) (fun r14 => if r14 = 0 then (some ((-1 : Int32), c_now)) else (fX11_lay_J22 c_now p1 p2 p3)))))
set_option maxHeartbeats 4000000 in
set_option maxRecDepth 100000 in
theorem mX11_lay (l : Launch) (D : va_G) (cy : Nat → ClassId) (sz : Nat) (b b_now b_imaged b_valueUp b_valueDown b_real b_brief b_order b_waits b_floats b_same b_upOf b_downOf b_tape b_open b_made b_paper b_reachUp b_reachDown b_reachHow b_reachFirst b_reachSecond b_begins b_carried : Nat) (c_hasImage : Int32) (c_above c_below : Int64) (c_orderMany c_waitMany c_seed c_size c_openMany c_paperMany c_reachMany : Int32) (c_now : Nat → Int32) (p1 p2 p3 : Int32) (res : (Int32 × (Nat → Int32))) (h : fX11_lay p1 p2 p3 c_now = some res) : zMi l yX11_lay wsX11_lay rmX11_lay [.ref b, .int p1, .int p2, .int p3] D cy (wdX11_lay cy b b_now b_imaged b_valueUp b_valueDown b_real b_brief b_order b_waits b_floats b_same b_upOf b_downOf b_tape b_open b_made b_paper b_reachUp b_reachDown b_reachHow b_reachFirst b_reachSecond b_begins b_carried c_hasImage c_above c_below c_orderMany c_waitMany c_seed c_size c_openMany c_paperMany c_reachMany c_now) sz ((fun (o : (Int32 × (Nat → Int32))) => o.1) res) ((fun (o : (Int32 × (Nat → Int32))) => (wdX11_lay cy b b_now b_imaged b_valueUp b_valueDown b_real b_brief b_order b_waits b_floats b_same b_upOf b_downOf b_tape b_open b_made b_paper b_reachUp b_reachDown b_reachHow b_reachFirst b_reachSecond b_begins b_carried c_hasImage c_above c_below c_orderMany c_waitMany c_seed c_size c_openMany c_paperMany c_reachMany (o.2))) res) := by
  refine zOfi (res := res) (rf := (fun (o : (Int32 × (Nat → Int32))) => o.1)) (Wf := (fun (o : (Int32 × (Nat → Int32))) => (wdX11_lay cy b b_now b_imaged b_valueUp b_valueDown b_real b_brief b_order b_waits b_floats b_same b_upOf b_downOf b_tape b_open b_made b_paper b_reachUp b_reachDown b_reachHow b_reachFirst b_reachSecond b_begins b_carried c_hasImage c_above c_below c_orderMany c_waitMany c_seed c_size c_openMany c_paperMany c_reachMany (o.2)))) (by decide +kernel) rfl (Nat.le_of_ble_eq_true rfl) ?_
  intro p e s m args below meth c A ls Q hx hb hml hts hown hP hK hD hA hS hl hret
  have hown : s.vm.findClass RX11 = some m.cls := hown
  have hl : lv_has ls 4 [(0, .ref b), (1, .int p1), (2, .int p2), (3, .int p3)] := hl
  refine lv_iload_n hx hb dX11_lay_0 rfl (lv_at hl 1 rfl) ?_
  obtain ⟨r1, hq1, h⟩ := zb1_s h
  refine zCz0 (r0 := r1) (va_runS (As := [.int p1]) (rest := []) ⟨hx, hb, hml, hown, hts⟩ (mX11_isTray l D cy s.heap.size p1 (r1) hq1) (va_cwS 1 hts gX11_lay_X11_isTray rfl rfl rfl cdX11_isTray ⟨Nat.le_of_ble_eq_true rfl, Nat.le_of_ble_eq_true rfl⟩) (zPS hK hP hD [] rfl rfl) rfl rfl hl.1 rfl (lv_room (Nat.le_of_ble_eq_true rfl)) dX11_lay_1 ⟨Nat.zero_le _, Nat.zero_le _⟩) hP hD hS hA (fun H locs hn1 hP hD hS => ?_)
  refine lv_if_eq (tgt := 20) hx hb dX11_lay_4 (by decide) (fun hc4 => ?_) (fun hc4 => ?_)
  · replace h := zi_t hc4 h
    refine lv_iconst (v := (-1 : Int32)) hx hb dX11_lay_20 (by decide) ?_
    exact hret (o := ((-1 : Int32), c_now)) h hP hD hS dX11_lay_21
  · replace h := zi_f hc4 h
    refine lv_iload_n hx hb dX11_lay_7 rfl (lv_at hl 3 rfl) ?_
    refine lv_iconst (v := (-1 : Int32)) hx hb dX11_lay_8 (by decide) ?_
    have hJ22 : ∀  (H : Heap) (locs : List Loc) (ls : Array Slot), va_P D vwCl (wdX11_lay cy b b_now b_imaged b_valueUp b_valueDown b_real b_brief b_order b_waits b_floats b_same b_upOf b_downOf b_tape b_open b_made b_paper b_reachUp b_reachDown b_reachHow b_reachFirst b_reachSecond b_begins b_carried c_hasImage c_above c_below c_orderMany c_waitMany c_seed c_size c_openMany c_paperMany c_reachMany c_now) H → va_D A (wdX11_lay cy b b_now b_imaged b_valueUp b_valueDown b_real b_brief b_order b_waits b_floats b_same b_upOf b_downOf b_tape b_open b_made b_paper b_reachUp b_reachDown b_reachHow b_reachFirst b_reachSecond b_begins b_carried c_hasImage c_above c_below c_orderMany c_waitMany c_seed c_size c_openMany c_paperMany c_reachMany c_now) → va_S A s.heap H locs → lv_has ls 4 [(0, .ref b), (1, .int p1), (2, .int p2), (3, .int p3)] → fX11_lay_J22 c_now p1 p2 p3 = some res → W p l e rmX11_lay s m args below meth c H locs 0 0 Q (F0 m 22 ls []) := by
      intro  H locs ls hP hD hS hl h
      refine lv_aload_n hx hb dX11_lay_22 rfl (lv_at hl 0 rfl) ?_
      refine lv_iload_n hx hb dX11_lay_23 rfl (lv_at hl 1 rfl) ?_
      obtain ⟨r24, hq24, h⟩ := zb1_s h
      refine zCi (r0 := r24) (w1 := (wdX11_sizeOf cy b b_now b_imaged b_valueUp b_valueDown b_real b_brief b_order b_waits b_floats b_same b_upOf b_downOf b_tape b_open b_made b_paper b_reachUp b_reachDown b_reachHow b_reachFirst b_reachSecond b_begins b_carried c_hasImage c_above c_below c_orderMany c_waitMany c_seed c_size c_openMany c_paperMany c_reachMany c_now)) (ws' := (wdX11_lay cy b b_now b_imaged b_valueUp b_valueDown b_real b_brief b_order b_waits b_floats b_same b_upOf b_downOf b_tape b_open b_made b_paper b_reachUp b_reachDown b_reachHow b_reachFirst b_reachSecond b_begins b_carried c_hasImage c_above c_below c_orderMany c_waitMany c_seed c_size c_openMany c_paperMany c_reachMany c_now)) (va_runV (As := [.int p1]) (rest := []) ⟨hx, hb, hml, hown, hts⟩ (mX11_sizeOf l D cy H.size b b_now b_imaged b_valueUp b_valueDown b_real b_brief b_order b_waits b_floats b_same b_upOf b_downOf b_tape b_open b_made b_paper b_reachUp b_reachDown b_reachHow b_reachFirst b_reachSecond b_begins b_carried c_hasImage c_above c_below c_orderMany c_waitMany c_seed c_size c_openMany c_paperMany c_reachMany c_now p1 (r24) hq24) (cwV 1 hts gX11_lay_X11_sizeOf rfl rfl rfl ⟨rfl, cdX11_sizeOf⟩ ⟨Nat.le_of_ble_eq_true rfl, Nat.le_of_ble_eq_true rfl⟩) (zPV hK hP hD [0, 1] rfl rfl (q0 := 0) (ci := 11) rfl rfl rfl) rfl rfl hl.1 rfl (lv_room (Nat.le_of_ble_eq_true rfl)) dX11_lay_24 ⟨Nat.zero_le _, Nat.zero_le _⟩) hP hD hS hA [0, 1] [] [0, 1] rfl rfl rfl rfl (fun H locs hP hD hS => ?_)
      refine lv_if_ge (tgt := 33) hx hb dX11_lay_27 (by decide) (fun hc27 => ?_) (fun hc27 => ?_)
      · replace h := zi_t hc27 h
        refine lv_iload_n hx hb dX11_lay_33 rfl (lv_at hl 2 rfl) ?_
        refine lv_i2l hx hb dX11_lay_34 rfl ?_
        refine lv_lconst (v := (0 : Int64)) hx hb dX11_lay_35 (by decide) ?_
        refine lv_aload_n hx hb dX11_lay_36 rfl (lv_at hl 0 rfl) ?_
        refine lv_iload_n hx hb dX11_lay_37 rfl (lv_at hl 1 rfl) ?_
        obtain ⟨r38, hq38, h⟩ := zb1_s h
        refine zCi (r0 := r38) (w1 := (wdX11_sizeOf cy b b_now b_imaged b_valueUp b_valueDown b_real b_brief b_order b_waits b_floats b_same b_upOf b_downOf b_tape b_open b_made b_paper b_reachUp b_reachDown b_reachHow b_reachFirst b_reachSecond b_begins b_carried c_hasImage c_above c_below c_orderMany c_waitMany c_seed c_size c_openMany c_paperMany c_reachMany c_now)) (ws' := (wdX11_lay cy b b_now b_imaged b_valueUp b_valueDown b_real b_brief b_order b_waits b_floats b_same b_upOf b_downOf b_tape b_open b_made b_paper b_reachUp b_reachDown b_reachHow b_reachFirst b_reachSecond b_begins b_carried c_hasImage c_above c_below c_orderMany c_waitMany c_seed c_size c_openMany c_paperMany c_reachMany c_now)) (va_runV (As := [.int p1]) (rest := [.long (0 : Int64), .long ((p2).toInt64)]) ⟨hx, hb, hml, hown, hts⟩ (mX11_sizeOf l D cy H.size b b_now b_imaged b_valueUp b_valueDown b_real b_brief b_order b_waits b_floats b_same b_upOf b_downOf b_tape b_open b_made b_paper b_reachUp b_reachDown b_reachHow b_reachFirst b_reachSecond b_begins b_carried c_hasImage c_above c_below c_orderMany c_waitMany c_seed c_size c_openMany c_paperMany c_reachMany c_now p1 (r38) hq38) (cwV 1 hts gX11_lay_X11_sizeOf rfl rfl rfl ⟨rfl, cdX11_sizeOf⟩ ⟨Nat.le_of_ble_eq_true rfl, Nat.le_of_ble_eq_true rfl⟩) (zPV hK hP hD [0, 1] rfl rfl (q0 := 0) (ci := 11) rfl rfl rfl) rfl rfl hl.1 rfl (lv_room (Nat.le_of_ble_eq_true rfl)) dX11_lay_38 ⟨Nat.zero_le _, Nat.zero_le _⟩) hP hD hS hA [0, 1] [] [0, 1] rfl rfl rfl rfl (fun H locs hP hD hS => ?_)
        refine lv_iconst (v := (1 : Int32)) hx hb dX11_lay_41 (by decide) ?_
        refine lv_isub hx hb dX11_lay_42 ?_
        refine lv_i2l hx hb dX11_lay_43 rfl ?_
        obtain ⟨r44, hq44, h⟩ := zb1_s h
        refine zCz0 (r0 := r44) (va_runS (As := [.long ((p2).toInt64), .long (0 : Int64), .long (((r38 - (1 : Int32))).toInt64)]) (rest := []) ⟨hx, hb, hml, hown, hts⟩ (mX11_in l D cy H.size ((p2).toInt64) (0 : Int64) (((r38 - (1 : Int32))).toInt64) (r44) hq44) (va_cwS 3 hts gX11_lay_X11_in rfl rfl rfl cdX11_in ⟨Nat.le_of_ble_eq_true rfl, Nat.le_of_ble_eq_true rfl⟩) (zPS hK hP hD [] rfl rfl) rfl rfl hl.1 rfl (lv_room (Nat.le_of_ble_eq_true rfl)) dX11_lay_44 ⟨Nat.zero_le _, Nat.zero_le _⟩) hP hD hS hA (fun H locs hn44 hP hD hS => ?_)
        refine lv_if_ne (tgt := 53) hx hb dX11_lay_47 (by decide) (fun hc47 => ?_) (fun hc47 => ?_)
        · replace h := zi_f hc47 h
          refine lv_aload_n hx hb dX11_lay_53 rfl (lv_at hl 0 rfl) ?_
          refine lv_iload_n hx hb dX11_lay_54 rfl (lv_at hl 1 rfl) ?_
          refine lv_iload_n hx hb dX11_lay_55 rfl (lv_at hl 3 rfl) ?_
          refine lv_iconst (v := (1 : Int32)) hx hb dX11_lay_56 (by decide) ?_
          refine lv_iadd hx hb dX11_lay_57 ?_
          obtain ⟨r58, hq58, h⟩ := zb1_s h
          refine zCz (r0 := r58) (w1 := (wdX11_mayLie cy b b_now b_imaged b_valueUp b_valueDown b_real b_brief b_order b_waits b_floats b_same b_upOf b_downOf b_tape b_open b_made b_paper b_reachUp b_reachDown b_reachHow b_reachFirst b_reachSecond b_begins b_carried c_hasImage c_above c_below c_orderMany c_waitMany c_seed c_size c_openMany c_paperMany c_reachMany c_now)) (ws' := (wdX11_lay cy b b_now b_imaged b_valueUp b_valueDown b_real b_brief b_order b_waits b_floats b_same b_upOf b_downOf b_tape b_open b_made b_paper b_reachUp b_reachDown b_reachHow b_reachFirst b_reachSecond b_begins b_carried c_hasImage c_above c_below c_orderMany c_waitMany c_seed c_size c_openMany c_paperMany c_reachMany c_now)) (va_runV (As := [.int p1, .int (p3 + (1 : Int32))]) (rest := []) ⟨hx, hb, hml, hown, hts⟩ (mX11_mayLie l D cy H.size b b_now b_imaged b_valueUp b_valueDown b_real b_brief b_order b_waits b_floats b_same b_upOf b_downOf b_tape b_open b_made b_paper b_reachUp b_reachDown b_reachHow b_reachFirst b_reachSecond b_begins b_carried c_hasImage c_above c_below c_orderMany c_waitMany c_seed c_size c_openMany c_paperMany c_reachMany c_now p1 (p3 + (1 : Int32)) (r58) hq58) (cwV 2 hts gX11_lay_X11_mayLie rfl rfl rfl ⟨rfl, cdX11_mayLie⟩ ⟨Nat.le_of_ble_eq_true rfl, Nat.le_of_ble_eq_true rfl⟩) (zPV hK hP hD [0, 1] rfl rfl (q0 := 0) (ci := 11) rfl rfl rfl) rfl rfl hl.1 rfl (lv_room (Nat.le_of_ble_eq_true rfl)) dX11_lay_58 ⟨Nat.zero_le _, Nat.zero_le _⟩) hP hD hS hA [0, 1] [] [0, 1] rfl rfl rfl rfl (fun H locs hn58 hP hD hS => ?_)
          refine lv_if_ne (tgt := 67) hx hb dX11_lay_61 (by decide) (fun hc61 => ?_) (fun hc61 => ?_)
          · replace h := zi_f hc61 h
            refine lv_aload_n hx hb dX11_lay_67 rfl (lv_at hl 0 rfl) ?_
            refine va_get (D := D) (ci := 11) (v := .ref b_now) (C := RX11) (T := TX11) (N := 33) hx hb hts uX11_lay_X11 hown hK.1 hP 0 rfl rfl 0 (by decide) (hts (.fieldLink RX11 9 "WishedResistorModel" "now" "[I") (List.mem_of_getElem? (i := 1) rfl)) (fun _ h9 => h9) rfl dX11_lay_68 ?_
            refine lv_sipush (v := (201 : Int32)) hx hb dX11_lay_71 (by decide) ?_
            refine lv_bipush (v := (20 : Int32)) hx hb dX11_lay_74 (by decide) ?_
            refine lv_iload_n hx hb dX11_lay_76 rfl (lv_at hl 1 rfl) ?_
            refine lv_imul hx hb dX11_lay_77 ?_
            refine lv_iadd hx hb dX11_lay_78 ?_
            refine lv_iload_n hx hb dX11_lay_79 rfl (lv_at hl 2 rfl) ?_
            refine lv_iadd hx hb dX11_lay_80 ?_
            refine lv_iload_n hx hb dX11_lay_81 rfl (lv_at hl 3 rfl) ?_
            refine lv_iconst (v := (1 : Int32)) hx hb dX11_lay_82 (by decide) ?_
            refine lv_iadd hx hb dX11_lay_83 ?_
            obtain ⟨hi84, h⟩ := zg_s h
            refine va_iast hx hb hK.1 hP hD hS 1 0 rfl rfl hi84 dX11_lay_84 (fun H locs hP hD hS => ?_)
            have hP : va_P D vwCl (wdX11_lay cy b b_now b_imaged b_valueUp b_valueDown b_real b_brief b_order b_waits b_floats b_same b_upOf b_downOf b_tape b_open b_made b_paper b_reachUp b_reachDown b_reachHow b_reachFirst b_reachSecond b_begins b_carried c_hasImage c_above c_below c_orderMany c_waitMany c_seed c_size c_openMany c_paperMany c_reachMany (upd c_now ((((201 : Int32) + ((20 : Int32) * p1)) + p2)).toNatClampNeg (p3 + (1 : Int32)))) H := hP
            have hD : va_D A (wdX11_lay cy b b_now b_imaged b_valueUp b_valueDown b_real b_brief b_order b_waits b_floats b_same b_upOf b_downOf b_tape b_open b_made b_paper b_reachUp b_reachDown b_reachHow b_reachFirst b_reachSecond b_begins b_carried c_hasImage c_above c_below c_orderMany c_waitMany c_seed c_size c_openMany c_paperMany c_reachMany (upd c_now ((((201 : Int32) + ((20 : Int32) * p1)) + p2)).toNatClampNeg (p3 + (1 : Int32)))) := hD
            refine lv_iconst (v := (1 : Int32)) hx hb dX11_lay_85 (by decide) ?_
            exact hret (o := ((1 : Int32), (upd c_now ((((201 : Int32) + ((20 : Int32) * p1)) + p2)).toNatClampNeg (p3 + (1 : Int32))))) h hP hD hS dX11_lay_86
          · replace h := zi_t hc61 h
            refine lv_bipush (v := (-12 : Int32)) hx hb dX11_lay_64 (by decide) ?_
            exact hret (o := ((-12 : Int32), c_now)) h hP hD hS dX11_lay_66
        · replace h := zi_t hc47 h
          refine lv_bipush (v := (-13 : Int32)) hx hb dX11_lay_50 (by decide) ?_
          exact hret (o := ((-13 : Int32), c_now)) h hP hD hS dX11_lay_52
      · replace h := zi_f hc27 h
        refine lv_bipush (v := (-11 : Int32)) hx hb dX11_lay_30 (by decide) ?_
        exact hret (o := ((-11 : Int32), c_now)) h hP hD hS dX11_lay_32
    refine lv_icmp_eq (tgt := 22) hx hb dX11_lay_9 (by decide) (fun hc9 => ?_) (fun hc9 => ?_)
    · replace h := zi_t hc9 h
      exact hJ22 _ _ _ hP hD hS (lv_sub hl [0, 1, 2, 3] rfl) h
    · replace h := zi_f hc9 h
      refine lv_aload_n hx hb dX11_lay_12 rfl (lv_at hl 0 rfl) ?_
      refine lv_iload_n hx hb dX11_lay_13 rfl (lv_at hl 3 rfl) ?_
      obtain ⟨r14, hq14, h⟩ := zb1_s h
      refine zCz (r0 := r14) (w1 := (wdX11_isNet cy b b_now b_imaged b_valueUp b_valueDown b_real b_brief b_order b_waits b_floats b_same b_upOf b_downOf b_tape b_open b_made b_paper b_reachUp b_reachDown b_reachHow b_reachFirst b_reachSecond b_begins b_carried c_hasImage c_above c_below c_orderMany c_waitMany c_seed c_size c_openMany c_paperMany c_reachMany c_now)) (ws' := (wdX11_lay cy b b_now b_imaged b_valueUp b_valueDown b_real b_brief b_order b_waits b_floats b_same b_upOf b_downOf b_tape b_open b_made b_paper b_reachUp b_reachDown b_reachHow b_reachFirst b_reachSecond b_begins b_carried c_hasImage c_above c_below c_orderMany c_waitMany c_seed c_size c_openMany c_paperMany c_reachMany c_now)) (va_runV (As := [.int p3]) (rest := []) ⟨hx, hb, hml, hown, hts⟩ (mX11_isNet l D cy H.size b b_now b_imaged b_valueUp b_valueDown b_real b_brief b_order b_waits b_floats b_same b_upOf b_downOf b_tape b_open b_made b_paper b_reachUp b_reachDown b_reachHow b_reachFirst b_reachSecond b_begins b_carried c_hasImage c_above c_below c_orderMany c_waitMany c_seed c_size c_openMany c_paperMany c_reachMany c_now p3 (r14) hq14) (cwV 1 hts gX11_lay_X11_isNet rfl rfl rfl ⟨rfl, cdX11_isNet⟩ ⟨Nat.le_of_ble_eq_true rfl, Nat.le_of_ble_eq_true rfl⟩) (zPV hK hP hD [0, 1] rfl rfl (q0 := 0) (ci := 11) rfl rfl rfl) rfl rfl hl.1 rfl (lv_room (Nat.le_of_ble_eq_true rfl)) dX11_lay_14 ⟨Nat.zero_le _, Nat.zero_le _⟩) hP hD hS hA [0, 1] [] [0, 1] rfl rfl rfl rfl (fun H locs hn14 hP hD hS => ?_)
      refine lv_if_ne (tgt := 22) hx hb dX11_lay_17 (by decide) (fun hc17 => ?_) (fun hc17 => ?_)
      · replace h := zi_f hc17 h
        exact hJ22 _ _ _ hP hD hS (lv_sub hl [0, 1, 2, 3] rfl) h
      · replace h := zi_t hc17 h
        refine lv_iconst (v := (-1 : Int32)) hx hb dX11_lay_20 (by decide) ?_
        exact hret (o := ((-1 : Int32), c_now)) h hP hD hS dX11_lay_21

theorem uX11_at_X11 : ∀ w ∈ u_ws RX11 TX11 33, w ∈ wsX11_at := fun w h => (List.mem_cons_of_mem _ (List.mem_append_right _ h))
abbrev wdX11_at (cy : Nat → ClassId) (b b_now b_imaged b_valueUp b_valueDown b_real b_brief b_order b_waits b_floats b_same b_upOf b_downOf b_tape b_open b_made b_paper b_reachUp b_reachDown b_reachHow b_reachFirst b_reachSecond b_begins b_carried : Nat) (c_hasImage : Int32) (c_above c_below : Int64) (c_orderMany c_waitMany c_seed c_size c_openMany c_paperMany c_reachMany : Int32) (c_now : Nat → Int32) : va_W := [(b, .inr (11, [.ref b_now, .ref b_imaged, .int c_hasImage, .long c_above, .long c_below, .ref b_valueUp, .ref b_valueDown, .ref b_real, .ref b_brief, .ref b_order, .int c_orderMany, .ref b_waits, .int c_waitMany, .ref b_floats, .int c_seed, .ref b_same, .ref b_upOf, .ref b_downOf, .ref b_tape, .int c_size, .ref b_open, .int c_openMany, .ref b_made, .ref b_paper, .int c_paperMany, .ref b_reachUp, .ref b_reachDown, .ref b_reachHow, .ref b_reachFirst, .ref b_reachSecond, .ref b_begins, .int c_reachMany, .ref b_carried])), (b_now, .inl (cy 0, 261, .inl c_now))]
abbrev rmX11_at : Room := { frames := 2, cells := 0, slots := 0, locals := 45 }
theorem cdX11_at : (yX11_at).cls ≠ "java/lang/invoke/MethodHandle" ∧ (yX11_at).cls ≠ "java/lang/invoke/VarHandle" ∧ (parseMethodDescriptor (yX11_at).desc).map (fun d => d.parameters.length) = some 2 := by decide +kernel
def fX11_at (p1 p2 : Int32) (c_now : Nat → Int32) : Option (Int32) :=
  zb1 (fX11_isTray p1) (fun r1 => if r1 = 0 then (some ((-1 : Int32))) else (zb1 (fX11_sizeOf p1 c_now) (fun r11 => if 0 ≤ r11 then (zb1 (fX11_sizeOf p1 c_now) (fun r25 => zb1 (fX11_in ((p2).toInt64) (0 : Int64) (((r25 - (1 : Int32))).toInt64)) (fun r31 => if r31 = 0 then (some ((-13 : Int32))) else (zg (zin (((201 : Int32) + ((20 : Int32) * p1)) + p2) 261) (if (c_now ((((201 : Int32) + ((20 : Int32) * p1)) + p2)).toNatClampNeg) = 0 then (some ((-2 : Int32))) else (some (((c_now ((((201 : Int32) + ((20 : Int32) * p1)) + p2)).toNatClampNeg) - (1 : Int32))))))))) else (some ((-11 : Int32))))))
set_option maxHeartbeats 4000000 in
set_option maxRecDepth 100000 in
theorem mX11_at (l : Launch) (D : va_G) (cy : Nat → ClassId) (sz : Nat) (b b_now b_imaged b_valueUp b_valueDown b_real b_brief b_order b_waits b_floats b_same b_upOf b_downOf b_tape b_open b_made b_paper b_reachUp b_reachDown b_reachHow b_reachFirst b_reachSecond b_begins b_carried : Nat) (c_hasImage : Int32) (c_above c_below : Int64) (c_orderMany c_waitMany c_seed c_size c_openMany c_paperMany c_reachMany : Int32) (c_now : Nat → Int32) (p1 p2 : Int32) (res : (Int32)) (h : fX11_at p1 p2 c_now = some res) : zMi l yX11_at wsX11_at rmX11_at [.ref b, .int p1, .int p2] D cy (wdX11_at cy b b_now b_imaged b_valueUp b_valueDown b_real b_brief b_order b_waits b_floats b_same b_upOf b_downOf b_tape b_open b_made b_paper b_reachUp b_reachDown b_reachHow b_reachFirst b_reachSecond b_begins b_carried c_hasImage c_above c_below c_orderMany c_waitMany c_seed c_size c_openMany c_paperMany c_reachMany c_now) sz ((fun (o : (Int32)) => o) res) ((fun (o : (Int32)) => (wdX11_at cy b b_now b_imaged b_valueUp b_valueDown b_real b_brief b_order b_waits b_floats b_same b_upOf b_downOf b_tape b_open b_made b_paper b_reachUp b_reachDown b_reachHow b_reachFirst b_reachSecond b_begins b_carried c_hasImage c_above c_below c_orderMany c_waitMany c_seed c_size c_openMany c_paperMany c_reachMany c_now)) res) := by
  refine zOfi (res := res) (rf := (fun (o : (Int32)) => o)) (Wf := (fun (o : (Int32)) => (wdX11_at cy b b_now b_imaged b_valueUp b_valueDown b_real b_brief b_order b_waits b_floats b_same b_upOf b_downOf b_tape b_open b_made b_paper b_reachUp b_reachDown b_reachHow b_reachFirst b_reachSecond b_begins b_carried c_hasImage c_above c_below c_orderMany c_waitMany c_seed c_size c_openMany c_paperMany c_reachMany c_now))) (by decide +kernel) rfl (Nat.le_of_ble_eq_true rfl) ?_
  intro p e s m args below meth c A ls Q hx hb hml hts hown hP hK hD hA hS hl hret
  have hown : s.vm.findClass RX11 = some m.cls := hown
  have hl : lv_has ls 4 [(0, .ref b), (1, .int p1), (2, .int p2)] := hl
  refine lv_iload_n hx hb dX11_at_0 rfl (lv_at hl 1 rfl) ?_
  obtain ⟨r1, hq1, h⟩ := zb1_s h
  refine zCz0 (r0 := r1) (va_runS (As := [.int p1]) (rest := []) ⟨hx, hb, hml, hown, hts⟩ (mX11_isTray l D cy s.heap.size p1 (r1) hq1) (va_cwS 1 hts gX11_at_X11_isTray rfl rfl rfl cdX11_isTray ⟨Nat.le_of_ble_eq_true rfl, Nat.le_of_ble_eq_true rfl⟩) (zPS hK hP hD [] rfl rfl) rfl rfl hl.1 rfl (lv_room (Nat.le_of_ble_eq_true rfl)) dX11_at_1 ⟨Nat.zero_le _, Nat.zero_le _⟩) hP hD hS hA (fun H locs hn1 hP hD hS => ?_)
  refine lv_if_ne (tgt := 9) hx hb dX11_at_4 (by decide) (fun hc4 => ?_) (fun hc4 => ?_)
  · replace h := zi_f hc4 h
    refine lv_aload_n hx hb dX11_at_9 rfl (lv_at hl 0 rfl) ?_
    refine lv_iload_n hx hb dX11_at_10 rfl (lv_at hl 1 rfl) ?_
    obtain ⟨r11, hq11, h⟩ := zb1_s h
    refine zCi (r0 := r11) (w1 := (wdX11_sizeOf cy b b_now b_imaged b_valueUp b_valueDown b_real b_brief b_order b_waits b_floats b_same b_upOf b_downOf b_tape b_open b_made b_paper b_reachUp b_reachDown b_reachHow b_reachFirst b_reachSecond b_begins b_carried c_hasImage c_above c_below c_orderMany c_waitMany c_seed c_size c_openMany c_paperMany c_reachMany c_now)) (ws' := (wdX11_at cy b b_now b_imaged b_valueUp b_valueDown b_real b_brief b_order b_waits b_floats b_same b_upOf b_downOf b_tape b_open b_made b_paper b_reachUp b_reachDown b_reachHow b_reachFirst b_reachSecond b_begins b_carried c_hasImage c_above c_below c_orderMany c_waitMany c_seed c_size c_openMany c_paperMany c_reachMany c_now)) (va_runV (As := [.int p1]) (rest := []) ⟨hx, hb, hml, hown, hts⟩ (mX11_sizeOf l D cy H.size b b_now b_imaged b_valueUp b_valueDown b_real b_brief b_order b_waits b_floats b_same b_upOf b_downOf b_tape b_open b_made b_paper b_reachUp b_reachDown b_reachHow b_reachFirst b_reachSecond b_begins b_carried c_hasImage c_above c_below c_orderMany c_waitMany c_seed c_size c_openMany c_paperMany c_reachMany c_now p1 (r11) hq11) (cwV 1 hts gX11_at_X11_sizeOf rfl rfl rfl ⟨rfl, cdX11_sizeOf⟩ ⟨Nat.le_of_ble_eq_true rfl, Nat.le_of_ble_eq_true rfl⟩) (zPV hK hP hD [0, 1] rfl rfl (q0 := 0) (ci := 11) rfl rfl rfl) rfl rfl hl.1 rfl (lv_room (Nat.le_of_ble_eq_true rfl)) dX11_at_11 ⟨Nat.zero_le _, Nat.zero_le _⟩) hP hD hS hA [0, 1] [] [0, 1] rfl rfl rfl rfl (fun H locs hP hD hS => ?_)
    refine lv_if_ge (tgt := 20) hx hb dX11_at_14 (by decide) (fun hc14 => ?_) (fun hc14 => ?_)
    · replace h := zi_t hc14 h
      refine lv_iload_n hx hb dX11_at_20 rfl (lv_at hl 2 rfl) ?_
      refine lv_i2l hx hb dX11_at_21 rfl ?_
      refine lv_lconst (v := (0 : Int64)) hx hb dX11_at_22 (by decide) ?_
      refine lv_aload_n hx hb dX11_at_23 rfl (lv_at hl 0 rfl) ?_
      refine lv_iload_n hx hb dX11_at_24 rfl (lv_at hl 1 rfl) ?_
      obtain ⟨r25, hq25, h⟩ := zb1_s h
      refine zCi (r0 := r25) (w1 := (wdX11_sizeOf cy b b_now b_imaged b_valueUp b_valueDown b_real b_brief b_order b_waits b_floats b_same b_upOf b_downOf b_tape b_open b_made b_paper b_reachUp b_reachDown b_reachHow b_reachFirst b_reachSecond b_begins b_carried c_hasImage c_above c_below c_orderMany c_waitMany c_seed c_size c_openMany c_paperMany c_reachMany c_now)) (ws' := (wdX11_at cy b b_now b_imaged b_valueUp b_valueDown b_real b_brief b_order b_waits b_floats b_same b_upOf b_downOf b_tape b_open b_made b_paper b_reachUp b_reachDown b_reachHow b_reachFirst b_reachSecond b_begins b_carried c_hasImage c_above c_below c_orderMany c_waitMany c_seed c_size c_openMany c_paperMany c_reachMany c_now)) (va_runV (As := [.int p1]) (rest := [.long (0 : Int64), .long ((p2).toInt64)]) ⟨hx, hb, hml, hown, hts⟩ (mX11_sizeOf l D cy H.size b b_now b_imaged b_valueUp b_valueDown b_real b_brief b_order b_waits b_floats b_same b_upOf b_downOf b_tape b_open b_made b_paper b_reachUp b_reachDown b_reachHow b_reachFirst b_reachSecond b_begins b_carried c_hasImage c_above c_below c_orderMany c_waitMany c_seed c_size c_openMany c_paperMany c_reachMany c_now p1 (r25) hq25) (cwV 1 hts gX11_at_X11_sizeOf rfl rfl rfl ⟨rfl, cdX11_sizeOf⟩ ⟨Nat.le_of_ble_eq_true rfl, Nat.le_of_ble_eq_true rfl⟩) (zPV hK hP hD [0, 1] rfl rfl (q0 := 0) (ci := 11) rfl rfl rfl) rfl rfl hl.1 rfl (lv_room (Nat.le_of_ble_eq_true rfl)) dX11_at_25 ⟨Nat.zero_le _, Nat.zero_le _⟩) hP hD hS hA [0, 1] [] [0, 1] rfl rfl rfl rfl (fun H locs hP hD hS => ?_)
      refine lv_iconst (v := (1 : Int32)) hx hb dX11_at_28 (by decide) ?_
      refine lv_isub hx hb dX11_at_29 ?_
      refine lv_i2l hx hb dX11_at_30 rfl ?_
      obtain ⟨r31, hq31, h⟩ := zb1_s h
      refine zCz0 (r0 := r31) (va_runS (As := [.long ((p2).toInt64), .long (0 : Int64), .long (((r25 - (1 : Int32))).toInt64)]) (rest := []) ⟨hx, hb, hml, hown, hts⟩ (mX11_in l D cy H.size ((p2).toInt64) (0 : Int64) (((r25 - (1 : Int32))).toInt64) (r31) hq31) (va_cwS 3 hts gX11_at_X11_in rfl rfl rfl cdX11_in ⟨Nat.le_of_ble_eq_true rfl, Nat.le_of_ble_eq_true rfl⟩) (zPS hK hP hD [] rfl rfl) rfl rfl hl.1 rfl (lv_room (Nat.le_of_ble_eq_true rfl)) dX11_at_31 ⟨Nat.zero_le _, Nat.zero_le _⟩) hP hD hS hA (fun H locs hn31 hP hD hS => ?_)
      refine lv_if_ne (tgt := 40) hx hb dX11_at_34 (by decide) (fun hc34 => ?_) (fun hc34 => ?_)
      · replace h := zi_f hc34 h
        refine lv_aload_n hx hb dX11_at_40 rfl (lv_at hl 0 rfl) ?_
        refine va_get (D := D) (ci := 11) (v := .ref b_now) (C := RX11) (T := TX11) (N := 33) hx hb hts uX11_at_X11 hown hK.1 hP 0 rfl rfl 0 (by decide) (hts (.fieldLink RX11 9 "WishedResistorModel" "now" "[I") (List.mem_of_getElem? (i := 1) rfl)) (fun _ h9 => h9) rfl dX11_at_41 ?_
        refine lv_sipush (v := (201 : Int32)) hx hb dX11_at_44 (by decide) ?_
        refine lv_bipush (v := (20 : Int32)) hx hb dX11_at_47 (by decide) ?_
        refine lv_iload_n hx hb dX11_at_49 rfl (lv_at hl 1 rfl) ?_
        refine lv_imul hx hb dX11_at_50 ?_
        refine lv_iadd hx hb dX11_at_51 ?_
        refine lv_iload_n hx hb dX11_at_52 rfl (lv_at hl 2 rfl) ?_
        refine lv_iadd hx hb dX11_at_53 ?_
        obtain ⟨hi54, h⟩ := zg_s h
        refine va_iald hx hb hK.1 hP 1 0 rfl rfl hi54 dX11_at_54 ?_
        refine lv_istore_n (lv' := [(3, .int (c_now ((((201 : Int32) + ((20 : Int32) * p1)) + p2)).toNatClampNeg)), (0, .ref b), (1, .int p1), (2, .int p2)]) hx hb dX11_at_55 rfl hl (Nat.le_of_ble_eq_true rfl) rfl (fun ls hl => ?_)
        refine lv_iload_n hx hb dX11_at_56 rfl (lv_at hl 0 rfl) ?_
        refine lv_if_ne (tgt := 65) hx hb dX11_at_57 (by decide) (fun hc57 => ?_) (fun hc57 => ?_)
        · replace h := zi_f hc57 h
          refine lv_iload_n hx hb dX11_at_65 rfl (lv_at hl 0 rfl) ?_
          refine lv_iconst (v := (1 : Int32)) hx hb dX11_at_66 (by decide) ?_
          refine lv_isub hx hb dX11_at_67 ?_
          exact hret (o := (((c_now ((((201 : Int32) + ((20 : Int32) * p1)) + p2)).toNatClampNeg) - (1 : Int32)))) h hP hD hS dX11_at_68
        · replace h := zi_t hc57 h
          refine lv_bipush (v := (-2 : Int32)) hx hb dX11_at_60 (by decide) ?_
          refine lv_goto (tgt := 68) hx hb dX11_at_62 (by decide) ?_
          exact hret (o := ((-2 : Int32))) h hP hD hS dX11_at_68
      · replace h := zi_t hc34 h
        refine lv_bipush (v := (-13 : Int32)) hx hb dX11_at_37 (by decide) ?_
        exact hret (o := ((-13 : Int32))) h hP hD hS dX11_at_39
    · replace h := zi_f hc14 h
      refine lv_bipush (v := (-11 : Int32)) hx hb dX11_at_17 (by decide) ?_
      exact hret (o := ((-11 : Int32))) h hP hD hS dX11_at_19
  · replace h := zi_t hc4 h
    refine lv_iconst (v := (-1 : Int32)) hx hb dX11_at_7 (by decide) ?_
    exact hret (o := ((-1 : Int32))) h hP hD hS dX11_at_8

theorem uX11_shift_X11 : ∀ w ∈ u_ws RX11 TX11 33, w ∈ wsX11_shift := fun w h => (List.mem_cons_of_mem _ (List.mem_append_right _ h))
abbrev wdX11_shift (cy : Nat → ClassId) (b b_now b_imaged b_valueUp b_valueDown b_real b_brief b_order b_waits b_floats b_same b_upOf b_downOf b_tape b_open b_made b_paper b_reachUp b_reachDown b_reachHow b_reachFirst b_reachSecond b_begins b_carried : Nat) (c_hasImage : Int32) (c_above c_below : Int64) (c_orderMany c_waitMany c_seed c_size c_openMany c_paperMany c_reachMany : Int32) (c_now c_carried : Nat → Int32) : va_W := [(b, .inr (11, [.ref b_now, .ref b_imaged, .int c_hasImage, .long c_above, .long c_below, .ref b_valueUp, .ref b_valueDown, .ref b_real, .ref b_brief, .ref b_order, .int c_orderMany, .ref b_waits, .int c_waitMany, .ref b_floats, .int c_seed, .ref b_same, .ref b_upOf, .ref b_downOf, .ref b_tape, .int c_size, .ref b_open, .int c_openMany, .ref b_made, .ref b_paper, .int c_paperMany, .ref b_reachUp, .ref b_reachDown, .ref b_reachHow, .ref b_reachFirst, .ref b_reachSecond, .ref b_begins, .int c_reachMany, .ref b_carried])), (b_now, .inl (cy 0, 261, .inl c_now)), (b_carried, .inl (cy 0, 20, .inl c_carried))]
abbrev rmX11_shift : Room := { frames := 2, cells := 0, slots := 0, locals := 45 }
theorem cdX11_shift : (yX11_shift).cls ≠ "java/lang/invoke/MethodHandle" ∧ (yX11_shift).cls ≠ "java/lang/invoke/VarHandle" ∧ (parseMethodDescriptor (yX11_shift).desc).map (fun d => d.parameters.length) = some 5 := by decide +kernel
def fX11_shift_L129 (p3 p4 p5 : Int32) (c_carried_126 : Nat → Int32) : Nat → Int32 → (Nat → Int32) → Option (Int32 × (Nat → Int32) × (Nat → Int32)) :=
  zl2 (fun rec129 v6_129 c_now_129 => if p5 ≤ v6_129 then (some (p5, c_now_129, c_carried_126)) else (zg (zin v6_129 20) (zb1 (fX11_mayLie p3 (c_carried_126 (v6_129).toNatClampNeg) c_now_129) (fun r145 => if r145 = 0 then (some ((-12 : Int32), c_now_129, c_carried_126)) else (zg (zin v6_129 20) (zg (zin ((((201 : Int32) + ((20 : Int32) * p3)) + p4) + v6_129) 261) (rec129 (v6_129 + (1 : Int32)) (upd c_now_129 (((((201 : Int32) + ((20 : Int32) * p3)) + p4) + v6_129)).toNatClampNeg (c_carried_126 (v6_129).toNatClampNeg)))))))))
def fX11_shift_J126 (c_now : Nat → Int32) (p3 p4 p5 : Int32) (c_carried_126 : Nat → Int32) : Option (Int32 × (Nat → Int32) × (Nat → Int32)) :=
  fX11_shift_L129 p3 p4 p5 c_carried_126 5000 (0 : Int32) c_now
def fX11_shift_L88 (k126_88 : (Nat → Int32) → Option (Int32 × (Nat → Int32) × (Nat → Int32))) (c_now : Nat → Int32) (p1 p2 p5 : Int32) : Nat → Int32 → (Nat → Int32) → Option (Int32 × (Nat → Int32) × (Nat → Int32)) :=
  zl2 (fun rec88 v6_88 c_carried_88 => if p5 ≤ v6_88 then (k126_88 c_carried_88) else (zg (zin ((((201 : Int32) + ((20 : Int32) * p1)) + p2) + v6_88) 261) (zg (zin v6_88 20) (rec88 (v6_88 + (1 : Int32)) (upd c_carried_88 (v6_88).toNatClampNeg (c_now (((((201 : Int32) + ((20 : Int32) * p1)) + p2) + v6_88)).toNatClampNeg))))))
def fX11_shift (p1 p2 p3 p4 p5 : Int32) (c_now c_carried : Nat → Int32) : Option (Int32 × (Nat → Int32) × (Nat → Int32)) :=
  zb1 (fX11_isTray p1) (fun r1 => if r1 = 0 then (some ((-1 : Int32), c_now, c_carried)) else (zb1 (fX11_isTray p3) (fun r8 => if r8 = 0 then (some ((-1 : Int32), c_now, c_carried)) else (zb1 (fX11_sizeOf p1 c_now) (fun r18 => if r18 < 0 then (some ((-11 : Int32), c_now, c_carried)) else (zb1 (fX11_sizeOf p3 c_now) (fun r26 => if 0 ≤ r26 then (if p5 < 0 then (some ((-13 : Int32), c_now, c_carried)) else (if p2 < 0 then (some ((-13 : Int32), c_now, c_carried)) else (if p4 < 0 then (some ((-13 : Int32), c_now, c_carried)) else (zb1 (fX11_sizeOf p1 c_now) (fun r57 => if ((r57).toInt64) < (((p2).toInt64) + ((p5).toInt64)) then (some ((-13 : Int32), c_now, c_carried)) else (zb1 (fX11_sizeOf p3 c_now) (fun r74 => if (((p4).toInt64) + ((p5).toInt64)) ≤ ((r74).toInt64) then (fX11_shift_L88 (fX11_shift_J126 c_now p3 p4 p5) c_now p1 p2 p5 5000 (0 : Int32) c_carried) else (some ((-13 : Int32), c_now, c_carried))))))))) else (some ((-11 : Int32), c_now, c_carried)))))))))
set_option maxHeartbeats 4000000 in
set_option maxRecDepth 100000 in
theorem mX11_shift (l : Launch) (D : va_G) (cy : Nat → ClassId) (sz : Nat) (b b_now b_imaged b_valueUp b_valueDown b_real b_brief b_order b_waits b_floats b_same b_upOf b_downOf b_tape b_open b_made b_paper b_reachUp b_reachDown b_reachHow b_reachFirst b_reachSecond b_begins b_carried : Nat) (c_hasImage : Int32) (c_above c_below : Int64) (c_orderMany c_waitMany c_seed c_size c_openMany c_paperMany c_reachMany : Int32) (c_now c_carried : Nat → Int32) (p1 p2 p3 p4 p5 : Int32) (res : (Int32 × (Nat → Int32) × (Nat → Int32))) (h : fX11_shift p1 p2 p3 p4 p5 c_now c_carried = some res) : zMi l yX11_shift wsX11_shift rmX11_shift [.ref b, .int p1, .int p2, .int p3, .int p4, .int p5] D cy (wdX11_shift cy b b_now b_imaged b_valueUp b_valueDown b_real b_brief b_order b_waits b_floats b_same b_upOf b_downOf b_tape b_open b_made b_paper b_reachUp b_reachDown b_reachHow b_reachFirst b_reachSecond b_begins b_carried c_hasImage c_above c_below c_orderMany c_waitMany c_seed c_size c_openMany c_paperMany c_reachMany c_now c_carried) sz ((fun (o : (Int32 × (Nat → Int32) × (Nat → Int32))) => o.1) res) ((fun (o : (Int32 × (Nat → Int32) × (Nat → Int32))) => (wdX11_shift cy b b_now b_imaged b_valueUp b_valueDown b_real b_brief b_order b_waits b_floats b_same b_upOf b_downOf b_tape b_open b_made b_paper b_reachUp b_reachDown b_reachHow b_reachFirst b_reachSecond b_begins b_carried c_hasImage c_above c_below c_orderMany c_waitMany c_seed c_size c_openMany c_paperMany c_reachMany (o.2.1) (o.2.2))) res) := by
  refine zOfi (res := res) (rf := (fun (o : (Int32 × (Nat → Int32) × (Nat → Int32))) => o.1)) (Wf := (fun (o : (Int32 × (Nat → Int32) × (Nat → Int32))) => (wdX11_shift cy b b_now b_imaged b_valueUp b_valueDown b_real b_brief b_order b_waits b_floats b_same b_upOf b_downOf b_tape b_open b_made b_paper b_reachUp b_reachDown b_reachHow b_reachFirst b_reachSecond b_begins b_carried c_hasImage c_above c_below c_orderMany c_waitMany c_seed c_size c_openMany c_paperMany c_reachMany (o.2.1) (o.2.2)))) (by decide +kernel) rfl (Nat.le_of_ble_eq_true rfl) ?_
  intro p e s m args below meth c A ls Q hx hb hml hts hown hP hK hD hA hS hl hret
  have hown : s.vm.findClass RX11 = some m.cls := hown
  have hl : lv_has ls 7 [(0, .ref b), (1, .int p1), (2, .int p2), (3, .int p3), (4, .int p4), (5, .int p5)] := hl
  refine lv_iload_n hx hb dX11_shift_0 rfl (lv_at hl 1 rfl) ?_
  obtain ⟨r1, hq1, h⟩ := zb1_s h
  refine zCz0 (r0 := r1) (va_runS (As := [.int p1]) (rest := []) ⟨hx, hb, hml, hown, hts⟩ (mX11_isTray l D cy s.heap.size p1 (r1) hq1) (va_cwS 1 hts gX11_shift_X11_isTray rfl rfl rfl cdX11_isTray ⟨Nat.le_of_ble_eq_true rfl, Nat.le_of_ble_eq_true rfl⟩) (zPS hK hP hD [] rfl rfl) rfl rfl hl.1 rfl (lv_room (Nat.le_of_ble_eq_true rfl)) dX11_shift_1 ⟨Nat.zero_le _, Nat.zero_le _⟩) hP hD hS hA (fun H locs hn1 hP hD hS => ?_)
  refine lv_if_eq (tgt := 14) hx hb dX11_shift_4 (by decide) (fun hc4 => ?_) (fun hc4 => ?_)
  · replace h := zi_t hc4 h
    refine lv_iconst (v := (-1 : Int32)) hx hb dX11_shift_14 (by decide) ?_
    exact hret (o := ((-1 : Int32), c_now, c_carried)) h hP hD hS dX11_shift_15
  · replace h := zi_f hc4 h
    refine lv_iload_n hx hb dX11_shift_7 rfl (lv_at hl 3 rfl) ?_
    obtain ⟨r8, hq8, h⟩ := zb1_s h
    refine zCz0 (r0 := r8) (va_runS (As := [.int p3]) (rest := []) ⟨hx, hb, hml, hown, hts⟩ (mX11_isTray l D cy H.size p3 (r8) hq8) (va_cwS 1 hts gX11_shift_X11_isTray rfl rfl rfl cdX11_isTray ⟨Nat.le_of_ble_eq_true rfl, Nat.le_of_ble_eq_true rfl⟩) (zPS hK hP hD [] rfl rfl) rfl rfl hl.1 rfl (lv_room (Nat.le_of_ble_eq_true rfl)) dX11_shift_8 ⟨Nat.zero_le _, Nat.zero_le _⟩) hP hD hS hA (fun H locs hn8 hP hD hS => ?_)
    refine lv_if_ne (tgt := 16) hx hb dX11_shift_11 (by decide) (fun hc11 => ?_) (fun hc11 => ?_)
    · replace h := zi_f hc11 h
      refine lv_aload_n hx hb dX11_shift_16 rfl (lv_at hl 0 rfl) ?_
      refine lv_iload_n hx hb dX11_shift_17 rfl (lv_at hl 1 rfl) ?_
      obtain ⟨r18, hq18, h⟩ := zb1_s h
      refine zCi (r0 := r18) (w1 := (wdX11_sizeOf cy b b_now b_imaged b_valueUp b_valueDown b_real b_brief b_order b_waits b_floats b_same b_upOf b_downOf b_tape b_open b_made b_paper b_reachUp b_reachDown b_reachHow b_reachFirst b_reachSecond b_begins b_carried c_hasImage c_above c_below c_orderMany c_waitMany c_seed c_size c_openMany c_paperMany c_reachMany c_now)) (ws' := (wdX11_shift cy b b_now b_imaged b_valueUp b_valueDown b_real b_brief b_order b_waits b_floats b_same b_upOf b_downOf b_tape b_open b_made b_paper b_reachUp b_reachDown b_reachHow b_reachFirst b_reachSecond b_begins b_carried c_hasImage c_above c_below c_orderMany c_waitMany c_seed c_size c_openMany c_paperMany c_reachMany c_now c_carried)) (va_runV (As := [.int p1]) (rest := []) ⟨hx, hb, hml, hown, hts⟩ (mX11_sizeOf l D cy H.size b b_now b_imaged b_valueUp b_valueDown b_real b_brief b_order b_waits b_floats b_same b_upOf b_downOf b_tape b_open b_made b_paper b_reachUp b_reachDown b_reachHow b_reachFirst b_reachSecond b_begins b_carried c_hasImage c_above c_below c_orderMany c_waitMany c_seed c_size c_openMany c_paperMany c_reachMany c_now p1 (r18) hq18) (cwV 1 hts gX11_shift_X11_sizeOf rfl rfl rfl ⟨rfl, cdX11_sizeOf⟩ ⟨Nat.le_of_ble_eq_true rfl, Nat.le_of_ble_eq_true rfl⟩) (zPV hK hP hD [0, 1] rfl rfl (q0 := 0) (ci := 11) rfl rfl rfl) rfl rfl hl.1 rfl (lv_room (Nat.le_of_ble_eq_true rfl)) dX11_shift_18 ⟨Nat.zero_le _, Nat.zero_le _⟩) hP hD hS hA [0, 1] [2] [1, 2, 0] rfl rfl rfl rfl (fun H locs hP hD hS => ?_)
      refine lv_if_lt (tgt := 32) hx hb dX11_shift_21 (by decide) (fun hc21 => ?_) (fun hc21 => ?_)
      · replace h := zi_t hc21 h
        refine lv_bipush (v := (-11 : Int32)) hx hb dX11_shift_32 (by decide) ?_
        exact hret (o := ((-11 : Int32), c_now, c_carried)) h hP hD hS dX11_shift_34
      · replace h := zi_f hc21 h
        refine lv_aload_n hx hb dX11_shift_24 rfl (lv_at hl 0 rfl) ?_
        refine lv_iload_n hx hb dX11_shift_25 rfl (lv_at hl 3 rfl) ?_
        obtain ⟨r26, hq26, h⟩ := zb1_s h
        refine zCi (r0 := r26) (w1 := (wdX11_sizeOf cy b b_now b_imaged b_valueUp b_valueDown b_real b_brief b_order b_waits b_floats b_same b_upOf b_downOf b_tape b_open b_made b_paper b_reachUp b_reachDown b_reachHow b_reachFirst b_reachSecond b_begins b_carried c_hasImage c_above c_below c_orderMany c_waitMany c_seed c_size c_openMany c_paperMany c_reachMany c_now)) (ws' := (wdX11_shift cy b b_now b_imaged b_valueUp b_valueDown b_real b_brief b_order b_waits b_floats b_same b_upOf b_downOf b_tape b_open b_made b_paper b_reachUp b_reachDown b_reachHow b_reachFirst b_reachSecond b_begins b_carried c_hasImage c_above c_below c_orderMany c_waitMany c_seed c_size c_openMany c_paperMany c_reachMany c_now c_carried)) (va_runV (As := [.int p3]) (rest := []) ⟨hx, hb, hml, hown, hts⟩ (mX11_sizeOf l D cy H.size b b_now b_imaged b_valueUp b_valueDown b_real b_brief b_order b_waits b_floats b_same b_upOf b_downOf b_tape b_open b_made b_paper b_reachUp b_reachDown b_reachHow b_reachFirst b_reachSecond b_begins b_carried c_hasImage c_above c_below c_orderMany c_waitMany c_seed c_size c_openMany c_paperMany c_reachMany c_now p3 (r26) hq26) (cwV 1 hts gX11_shift_X11_sizeOf rfl rfl rfl ⟨rfl, cdX11_sizeOf⟩ ⟨Nat.le_of_ble_eq_true rfl, Nat.le_of_ble_eq_true rfl⟩) (zPV hK hP hD [0, 1] rfl rfl (q0 := 0) (ci := 11) rfl rfl rfl) rfl rfl hl.1 rfl (lv_room (Nat.le_of_ble_eq_true rfl)) dX11_shift_26 ⟨Nat.zero_le _, Nat.zero_le _⟩) hP hD hS hA [0, 1] [2] [1, 2, 0] rfl rfl rfl rfl (fun H locs hP hD hS => ?_)
        refine lv_if_ge (tgt := 35) hx hb dX11_shift_29 (by decide) (fun hc29 => ?_) (fun hc29 => ?_)
        · replace h := zi_t hc29 h
          refine lv_iload hx hb dX11_shift_35 (lv_at hl 5 rfl) ?_
          refine lv_if_lt (tgt := 82) hx hb dX11_shift_37 (by decide) (fun hc37 => ?_) (fun hc37 => ?_)
          · replace h := zi_t hc37 h
            refine lv_bipush (v := (-13 : Int32)) hx hb dX11_shift_82 (by decide) ?_
            exact hret (o := ((-13 : Int32), c_now, c_carried)) h hP hD hS dX11_shift_84
          · replace h := zi_f hc37 h
            refine lv_iload_n hx hb dX11_shift_40 rfl (lv_at hl 2 rfl) ?_
            refine lv_if_lt (tgt := 82) hx hb dX11_shift_41 (by decide) (fun hc41 => ?_) (fun hc41 => ?_)
            · replace h := zi_t hc41 h
              refine lv_bipush (v := (-13 : Int32)) hx hb dX11_shift_82 (by decide) ?_
              exact hret (o := ((-13 : Int32), c_now, c_carried)) h hP hD hS dX11_shift_84
            · replace h := zi_f hc41 h
              refine lv_iload hx hb dX11_shift_44 (lv_at hl 4 rfl) ?_
              refine lv_if_lt (tgt := 82) hx hb dX11_shift_46 (by decide) (fun hc46 => ?_) (fun hc46 => ?_)
              · replace h := zi_t hc46 h
                refine lv_bipush (v := (-13 : Int32)) hx hb dX11_shift_82 (by decide) ?_
                exact hret (o := ((-13 : Int32), c_now, c_carried)) h hP hD hS dX11_shift_84
              · replace h := zi_f hc46 h
                refine lv_iload_n hx hb dX11_shift_49 rfl (lv_at hl 2 rfl) ?_
                refine lv_i2l hx hb dX11_shift_50 rfl ?_
                refine lv_iload hx hb dX11_shift_51 (lv_at hl 5 rfl) ?_
                refine lv_i2l hx hb dX11_shift_53 rfl ?_
                refine lv_ladd hx hb dX11_shift_54 ?_
                refine lv_aload_n hx hb dX11_shift_55 rfl (lv_at hl 0 rfl) ?_
                refine lv_iload_n hx hb dX11_shift_56 rfl (lv_at hl 1 rfl) ?_
                obtain ⟨r57, hq57, h⟩ := zb1_s h
                refine zCi (r0 := r57) (w1 := (wdX11_sizeOf cy b b_now b_imaged b_valueUp b_valueDown b_real b_brief b_order b_waits b_floats b_same b_upOf b_downOf b_tape b_open b_made b_paper b_reachUp b_reachDown b_reachHow b_reachFirst b_reachSecond b_begins b_carried c_hasImage c_above c_below c_orderMany c_waitMany c_seed c_size c_openMany c_paperMany c_reachMany c_now)) (ws' := (wdX11_shift cy b b_now b_imaged b_valueUp b_valueDown b_real b_brief b_order b_waits b_floats b_same b_upOf b_downOf b_tape b_open b_made b_paper b_reachUp b_reachDown b_reachHow b_reachFirst b_reachSecond b_begins b_carried c_hasImage c_above c_below c_orderMany c_waitMany c_seed c_size c_openMany c_paperMany c_reachMany c_now c_carried)) (va_runV (As := [.int p1]) (rest := [.long (((p2).toInt64) + ((p5).toInt64))]) ⟨hx, hb, hml, hown, hts⟩ (mX11_sizeOf l D cy H.size b b_now b_imaged b_valueUp b_valueDown b_real b_brief b_order b_waits b_floats b_same b_upOf b_downOf b_tape b_open b_made b_paper b_reachUp b_reachDown b_reachHow b_reachFirst b_reachSecond b_begins b_carried c_hasImage c_above c_below c_orderMany c_waitMany c_seed c_size c_openMany c_paperMany c_reachMany c_now p1 (r57) hq57) (cwV 1 hts gX11_shift_X11_sizeOf rfl rfl rfl ⟨rfl, cdX11_sizeOf⟩ ⟨Nat.le_of_ble_eq_true rfl, Nat.le_of_ble_eq_true rfl⟩) (zPV hK hP hD [0, 1] rfl rfl (q0 := 0) (ci := 11) rfl rfl rfl) rfl rfl hl.1 rfl (lv_room (Nat.le_of_ble_eq_true rfl)) dX11_shift_57 ⟨Nat.zero_le _, Nat.zero_le _⟩) hP hD hS hA [0, 1] [2] [1, 2, 0] rfl rfl rfl rfl (fun H locs hP hD hS => ?_)
                refine lv_i2l hx hb dX11_shift_60 rfl ?_
                refine W.lcmp hx hb dX11_shift_61 ?_
                refine lv_if_gt (tgt := 82) hx hb dX11_shift_62 (by decide) (fun hc62 => ?_) (fun hc62 => ?_)
                · replace hc62 := (zc_gt _ _).mp hc62
                  replace h := zi_t hc62 h
                  refine lv_bipush (v := (-13 : Int32)) hx hb dX11_shift_82 (by decide) ?_
                  exact hret (o := ((-13 : Int32), c_now, c_carried)) h hP hD hS dX11_shift_84
                · replace hc62 := fun q => hc62 ((zc_gt _ _).mpr q)
                  replace h := zi_f hc62 h
                  refine lv_iload hx hb dX11_shift_65 (lv_at hl 4 rfl) ?_
                  refine lv_i2l hx hb dX11_shift_67 rfl ?_
                  refine lv_iload hx hb dX11_shift_68 (lv_at hl 5 rfl) ?_
                  refine lv_i2l hx hb dX11_shift_70 rfl ?_
                  refine lv_ladd hx hb dX11_shift_71 ?_
                  refine lv_aload_n hx hb dX11_shift_72 rfl (lv_at hl 0 rfl) ?_
                  refine lv_iload_n hx hb dX11_shift_73 rfl (lv_at hl 3 rfl) ?_
                  obtain ⟨r74, hq74, h⟩ := zb1_s h
                  refine zCi (r0 := r74) (w1 := (wdX11_sizeOf cy b b_now b_imaged b_valueUp b_valueDown b_real b_brief b_order b_waits b_floats b_same b_upOf b_downOf b_tape b_open b_made b_paper b_reachUp b_reachDown b_reachHow b_reachFirst b_reachSecond b_begins b_carried c_hasImage c_above c_below c_orderMany c_waitMany c_seed c_size c_openMany c_paperMany c_reachMany c_now)) (ws' := (wdX11_shift cy b b_now b_imaged b_valueUp b_valueDown b_real b_brief b_order b_waits b_floats b_same b_upOf b_downOf b_tape b_open b_made b_paper b_reachUp b_reachDown b_reachHow b_reachFirst b_reachSecond b_begins b_carried c_hasImage c_above c_below c_orderMany c_waitMany c_seed c_size c_openMany c_paperMany c_reachMany c_now c_carried)) (va_runV (As := [.int p3]) (rest := [.long (((p4).toInt64) + ((p5).toInt64))]) ⟨hx, hb, hml, hown, hts⟩ (mX11_sizeOf l D cy H.size b b_now b_imaged b_valueUp b_valueDown b_real b_brief b_order b_waits b_floats b_same b_upOf b_downOf b_tape b_open b_made b_paper b_reachUp b_reachDown b_reachHow b_reachFirst b_reachSecond b_begins b_carried c_hasImage c_above c_below c_orderMany c_waitMany c_seed c_size c_openMany c_paperMany c_reachMany c_now p3 (r74) hq74) (cwV 1 hts gX11_shift_X11_sizeOf rfl rfl rfl ⟨rfl, cdX11_sizeOf⟩ ⟨Nat.le_of_ble_eq_true rfl, Nat.le_of_ble_eq_true rfl⟩) (zPV hK hP hD [0, 1] rfl rfl (q0 := 0) (ci := 11) rfl rfl rfl) rfl rfl hl.1 rfl (lv_room (Nat.le_of_ble_eq_true rfl)) dX11_shift_74 ⟨Nat.zero_le _, Nat.zero_le _⟩) hP hD hS hA [0, 1] [2] [1, 2, 0] rfl rfl rfl rfl (fun H locs hP hD hS => ?_)
                  refine lv_i2l hx hb dX11_shift_77 rfl ?_
                  refine W.lcmp hx hb dX11_shift_78 ?_
                  refine lv_if_le (tgt := 85) hx hb dX11_shift_79 (by decide) (fun hc79 => ?_) (fun hc79 => ?_)
                  · replace hc79 := (zc_le _ _).mp hc79
                    replace h := zi_t hc79 h
                    refine lv_iconst (v := (0 : Int32)) hx hb dX11_shift_85 (by decide) ?_
                    refine lv_istore (lv' := [(6, .int (0 : Int32)), (0, .ref b), (1, .int p1), (2, .int p2), (3, .int p3), (4, .int p4), (5, .int p5)]) hx hb dX11_shift_86 hl (Nat.le_of_ble_eq_true rfl) rfl (fun ls hl => ?_)
                    have hJ126 : ∀ (c_carried_126 : Nat → Int32) (H : Heap) (locs : List Loc) (ls : Array Slot), va_P D vwCl (wdX11_shift cy b b_now b_imaged b_valueUp b_valueDown b_real b_brief b_order b_waits b_floats b_same b_upOf b_downOf b_tape b_open b_made b_paper b_reachUp b_reachDown b_reachHow b_reachFirst b_reachSecond b_begins b_carried c_hasImage c_above c_below c_orderMany c_waitMany c_seed c_size c_openMany c_paperMany c_reachMany c_now c_carried_126) H → va_D A (wdX11_shift cy b b_now b_imaged b_valueUp b_valueDown b_real b_brief b_order b_waits b_floats b_same b_upOf b_downOf b_tape b_open b_made b_paper b_reachUp b_reachDown b_reachHow b_reachFirst b_reachSecond b_begins b_carried c_hasImage c_above c_below c_orderMany c_waitMany c_seed c_size c_openMany c_paperMany c_reachMany c_now c_carried_126) → va_S A s.heap H locs → lv_has ls 7 [(0, .ref b), (3, .int p3), (4, .int p4), (5, .int p5)] → fX11_shift_J126 c_now p3 p4 p5 c_carried_126 = some res → W p l e rmX11_shift s m args below meth c H locs 0 0 Q (F0 m 126 ls []) := by
                      intro c_carried_126 H locs ls hP hD hS hl h
                      refine lv_iconst (v := (0 : Int32)) hx hb dX11_shift_126 (by decide) ?_
                      refine lv_istore (lv' := [(6, .int (0 : Int32)), (0, .ref b), (3, .int p3), (4, .int p4), (5, .int p5)]) hx hb dX11_shift_127 hl (Nat.le_of_ble_eq_true rfl) rfl (fun ls hl => ?_)
                      have hL129 : ∀ n129 : Nat, ∀ (v6_129 : Int32) (c_now_129 : Nat → Int32) (H : Heap) (locs : List Loc) (ls : Array Slot), va_P D vwCl (wdX11_shift cy b b_now b_imaged b_valueUp b_valueDown b_real b_brief b_order b_waits b_floats b_same b_upOf b_downOf b_tape b_open b_made b_paper b_reachUp b_reachDown b_reachHow b_reachFirst b_reachSecond b_begins b_carried c_hasImage c_above c_below c_orderMany c_waitMany c_seed c_size c_openMany c_paperMany c_reachMany c_now_129 c_carried_126) H → va_D A (wdX11_shift cy b b_now b_imaged b_valueUp b_valueDown b_real b_brief b_order b_waits b_floats b_same b_upOf b_downOf b_tape b_open b_made b_paper b_reachUp b_reachDown b_reachHow b_reachFirst b_reachSecond b_begins b_carried c_hasImage c_above c_below c_orderMany c_waitMany c_seed c_size c_openMany c_paperMany c_reachMany c_now_129 c_carried_126) → va_S A s.heap H locs → lv_has ls 7 [(0, .ref b), (3, .int p3), (4, .int p4), (5, .int p5), (6, .int v6_129)] → fX11_shift_L129 p3 p4 p5 c_carried_126 n129 v6_129 c_now_129 = some res → W p l e rmX11_shift s m args below meth c H locs 0 0 Q (F0 m 129 ls []) := by
                        intro n129
                        induction n129 with
                        | zero =>
                          intro v6_129 c_now_129 H locs ls hP hD hS hl h
                          exact zl2_0 h
                        | succ n129 ih129 =>
                          intro v6_129 c_now_129 H locs ls hP hD hS hl h
                          replace h := zl2_s h
                          refine lv_iload hx hb dX11_shift_129 (lv_at hl 4 rfl) ?_
                          refine lv_iload hx hb dX11_shift_131 (lv_at hl 3 rfl) ?_
                          refine lv_icmp_ge (tgt := 186) hx hb dX11_shift_133 (by decide) (fun hc133 => ?_) (fun hc133 => ?_)
                          · replace h := zi_t hc133 h
                            refine lv_iload hx hb dX11_shift_186 (lv_at hl 3 rfl) ?_
                            exact hret (o := (p5, c_now_129, c_carried_126)) h hP hD hS dX11_shift_188
                          · replace h := zi_f hc133 h
                            refine lv_aload_n hx hb dX11_shift_136 rfl (lv_at hl 0 rfl) ?_
                            refine lv_iload_n hx hb dX11_shift_137 rfl (lv_at hl 1 rfl) ?_
                            refine lv_aload_n hx hb dX11_shift_138 rfl (lv_at hl 0 rfl) ?_
                            refine va_get (D := D) (ci := 11) (v := .ref b_carried) (C := RX11) (T := TX11) (N := 33) hx hb hts uX11_shift_X11 hown hK.1 hP 0 rfl rfl 32 (by decide) (hts (.fieldLink RX11 81 "WishedResistorModel" "carried" "[I") (List.mem_of_getElem? (i := 1) rfl)) (fun _ h9 => h9) rfl dX11_shift_139 ?_
                            refine lv_iload hx hb dX11_shift_142 (lv_at hl 4 rfl) ?_
                            obtain ⟨hi144, h⟩ := zg_s h
                            refine va_iald hx hb hK.1 hP 2 0 rfl rfl hi144 dX11_shift_144 ?_
                            obtain ⟨r145, hq145, h⟩ := zb1_s h
                            refine zCz (r0 := r145) (w1 := (wdX11_mayLie cy b b_now b_imaged b_valueUp b_valueDown b_real b_brief b_order b_waits b_floats b_same b_upOf b_downOf b_tape b_open b_made b_paper b_reachUp b_reachDown b_reachHow b_reachFirst b_reachSecond b_begins b_carried c_hasImage c_above c_below c_orderMany c_waitMany c_seed c_size c_openMany c_paperMany c_reachMany c_now_129)) (ws' := (wdX11_shift cy b b_now b_imaged b_valueUp b_valueDown b_real b_brief b_order b_waits b_floats b_same b_upOf b_downOf b_tape b_open b_made b_paper b_reachUp b_reachDown b_reachHow b_reachFirst b_reachSecond b_begins b_carried c_hasImage c_above c_below c_orderMany c_waitMany c_seed c_size c_openMany c_paperMany c_reachMany c_now_129 c_carried_126)) (va_runV (As := [.int p3, .int (c_carried_126 (v6_129).toNatClampNeg)]) (rest := []) ⟨hx, hb, hml, hown, hts⟩ (mX11_mayLie l D cy H.size b b_now b_imaged b_valueUp b_valueDown b_real b_brief b_order b_waits b_floats b_same b_upOf b_downOf b_tape b_open b_made b_paper b_reachUp b_reachDown b_reachHow b_reachFirst b_reachSecond b_begins b_carried c_hasImage c_above c_below c_orderMany c_waitMany c_seed c_size c_openMany c_paperMany c_reachMany c_now_129 p3 (c_carried_126 (v6_129).toNatClampNeg) (r145) hq145) (cwV 2 hts gX11_shift_X11_mayLie rfl rfl rfl ⟨rfl, cdX11_mayLie⟩ ⟨Nat.le_of_ble_eq_true rfl, Nat.le_of_ble_eq_true rfl⟩) (zPV hK hP hD [0, 1] rfl rfl (q0 := 0) (ci := 11) rfl rfl rfl) rfl rfl hl.1 rfl (lv_room (Nat.le_of_ble_eq_true rfl)) dX11_shift_145 ⟨Nat.zero_le _, Nat.zero_le _⟩) hP hD hS hA [0, 1] [2] [1, 2, 0] rfl rfl rfl rfl (fun H locs hn145 hP hD hS => ?_)
                            refine lv_if_ne (tgt := 154) hx hb dX11_shift_148 (by decide) (fun hc148 => ?_) (fun hc148 => ?_)
                            · replace h := zi_f hc148 h
                              refine lv_aload_n hx hb dX11_shift_154 rfl (lv_at hl 0 rfl) ?_
                              refine va_get (D := D) (ci := 11) (v := .ref b_now) (C := RX11) (T := TX11) (N := 33) hx hb hts uX11_shift_X11 hown hK.1 hP 0 rfl rfl 0 (by decide) (hts (.fieldLink RX11 9 "WishedResistorModel" "now" "[I") (List.mem_of_getElem? (i := 2) rfl)) (fun _ h9 => h9) rfl dX11_shift_155 ?_
                              refine lv_sipush (v := (201 : Int32)) hx hb dX11_shift_158 (by decide) ?_
                              refine lv_bipush (v := (20 : Int32)) hx hb dX11_shift_161 (by decide) ?_
                              refine lv_iload_n hx hb dX11_shift_163 rfl (lv_at hl 1 rfl) ?_
                              refine lv_imul hx hb dX11_shift_164 ?_
                              refine lv_iadd hx hb dX11_shift_165 ?_
                              refine lv_iload hx hb dX11_shift_166 (lv_at hl 2 rfl) ?_
                              refine lv_iadd hx hb dX11_shift_168 ?_
                              refine lv_iload hx hb dX11_shift_169 (lv_at hl 4 rfl) ?_
                              refine lv_iadd hx hb dX11_shift_171 ?_
                              refine lv_aload_n hx hb dX11_shift_172 rfl (lv_at hl 0 rfl) ?_
                              refine va_get (D := D) (ci := 11) (v := .ref b_carried) (C := RX11) (T := TX11) (N := 33) hx hb hts uX11_shift_X11 hown hK.1 hP 0 rfl rfl 32 (by decide) (hts (.fieldLink RX11 81 "WishedResistorModel" "carried" "[I") (List.mem_of_getElem? (i := 1) rfl)) (fun _ h9 => h9) rfl dX11_shift_173 ?_
                              refine lv_iload hx hb dX11_shift_176 (lv_at hl 4 rfl) ?_
                              obtain ⟨hi178, h⟩ := zg_s h
                              refine va_iald hx hb hK.1 hP 2 0 rfl rfl hi178 dX11_shift_178 ?_
                              obtain ⟨hi179, h⟩ := zg_s h
                              refine va_iast hx hb hK.1 hP hD hS 1 0 rfl rfl hi179 dX11_shift_179 (fun H locs hP hD hS => ?_)
                              have hP : va_P D vwCl (wdX11_shift cy b b_now b_imaged b_valueUp b_valueDown b_real b_brief b_order b_waits b_floats b_same b_upOf b_downOf b_tape b_open b_made b_paper b_reachUp b_reachDown b_reachHow b_reachFirst b_reachSecond b_begins b_carried c_hasImage c_above c_below c_orderMany c_waitMany c_seed c_size c_openMany c_paperMany c_reachMany (upd c_now_129 (((((201 : Int32) + ((20 : Int32) * p3)) + p4) + v6_129)).toNatClampNeg (c_carried_126 (v6_129).toNatClampNeg)) c_carried_126) H := hP
                              have hD : va_D A (wdX11_shift cy b b_now b_imaged b_valueUp b_valueDown b_real b_brief b_order b_waits b_floats b_same b_upOf b_downOf b_tape b_open b_made b_paper b_reachUp b_reachDown b_reachHow b_reachFirst b_reachSecond b_begins b_carried c_hasImage c_above c_below c_orderMany c_waitMany c_seed c_size c_openMany c_paperMany c_reachMany (upd c_now_129 (((((201 : Int32) + ((20 : Int32) * p3)) + p4) + v6_129)).toNatClampNeg (c_carried_126 (v6_129).toNatClampNeg)) c_carried_126) := hD
                              refine lv_iinc (v := (v6_129 + (1 : Int32))) (lv' := [(6, .int (v6_129 + (1 : Int32))), (0, .ref b), (3, .int p3), (4, .int p4), (5, .int p5)]) hx hb dX11_shift_180 hl (k := 4) rfl (by rfl) (Nat.le_of_ble_eq_true rfl) rfl (fun ls hl => ?_)
                              refine lv_goto (tgt := 129) hx hb dX11_shift_183 (by decide) ?_
                              exact ih129 (v6_129 + (1 : Int32)) (upd c_now_129 (((((201 : Int32) + ((20 : Int32) * p3)) + p4) + v6_129)).toNatClampNeg (c_carried_126 (v6_129).toNatClampNeg)) _ _ _ hP hD hS (lv_sub hl [1, 2, 3, 4, 0] rfl) h
                            · replace h := zi_t hc148 h
                              refine lv_bipush (v := (-12 : Int32)) hx hb dX11_shift_151 (by decide) ?_
                              exact hret (o := ((-12 : Int32), c_now_129, c_carried_126)) h hP hD hS dX11_shift_153
                      exact hL129 5000 (0 : Int32) c_now _ _ _ hP hD hS (lv_sub hl [1, 2, 3, 4, 0] rfl) h
                    have hL88 : ∀ n88 : Nat, ∀ (v6_88 : Int32) (c_carried_88 : Nat → Int32) (H : Heap) (locs : List Loc) (ls : Array Slot), va_P D vwCl (wdX11_shift cy b b_now b_imaged b_valueUp b_valueDown b_real b_brief b_order b_waits b_floats b_same b_upOf b_downOf b_tape b_open b_made b_paper b_reachUp b_reachDown b_reachHow b_reachFirst b_reachSecond b_begins b_carried c_hasImage c_above c_below c_orderMany c_waitMany c_seed c_size c_openMany c_paperMany c_reachMany c_now c_carried_88) H → va_D A (wdX11_shift cy b b_now b_imaged b_valueUp b_valueDown b_real b_brief b_order b_waits b_floats b_same b_upOf b_downOf b_tape b_open b_made b_paper b_reachUp b_reachDown b_reachHow b_reachFirst b_reachSecond b_begins b_carried c_hasImage c_above c_below c_orderMany c_waitMany c_seed c_size c_openMany c_paperMany c_reachMany c_now c_carried_88) → va_S A s.heap H locs → lv_has ls 7 [(0, .ref b), (1, .int p1), (2, .int p2), (3, .int p3), (4, .int p4), (5, .int p5), (6, .int v6_88)] → fX11_shift_L88 (fX11_shift_J126 c_now p3 p4 p5) c_now p1 p2 p5 n88 v6_88 c_carried_88 = some res → W p l e rmX11_shift s m args below meth c H locs 0 0 Q (F0 m 88 ls []) := by
                      intro n88
                      induction n88 with
                      | zero =>
                        intro v6_88 c_carried_88 H locs ls hP hD hS hl h
                        exact zl2_0 h
                      | succ n88 ih88 =>
                        intro v6_88 c_carried_88 H locs ls hP hD hS hl h
                        replace h := zl2_s h
                        refine lv_iload hx hb dX11_shift_88 (lv_at hl 6 rfl) ?_
                        refine lv_iload hx hb dX11_shift_90 (lv_at hl 5 rfl) ?_
                        refine lv_icmp_ge (tgt := 126) hx hb dX11_shift_92 (by decide) (fun hc92 => ?_) (fun hc92 => ?_)
                        · replace h := zi_t hc92 h
                          exact hJ126 c_carried_88 _ _ _ hP hD hS (lv_sub hl [0, 3, 4, 5] rfl) h
                        · replace h := zi_f hc92 h
                          refine lv_aload_n hx hb dX11_shift_95 rfl (lv_at hl 0 rfl) ?_
                          refine va_get (D := D) (ci := 11) (v := .ref b_carried) (C := RX11) (T := TX11) (N := 33) hx hb hts uX11_shift_X11 hown hK.1 hP 0 rfl rfl 32 (by decide) (hts (.fieldLink RX11 81 "WishedResistorModel" "carried" "[I") (List.mem_of_getElem? (i := 1) rfl)) (fun _ h9 => h9) rfl dX11_shift_96 ?_
                          refine lv_iload hx hb dX11_shift_99 (lv_at hl 6 rfl) ?_
                          refine lv_aload_n hx hb dX11_shift_101 rfl (lv_at hl 0 rfl) ?_
                          refine va_get (D := D) (ci := 11) (v := .ref b_now) (C := RX11) (T := TX11) (N := 33) hx hb hts uX11_shift_X11 hown hK.1 hP 0 rfl rfl 0 (by decide) (hts (.fieldLink RX11 9 "WishedResistorModel" "now" "[I") (List.mem_of_getElem? (i := 2) rfl)) (fun _ h9 => h9) rfl dX11_shift_102 ?_
                          refine lv_sipush (v := (201 : Int32)) hx hb dX11_shift_105 (by decide) ?_
                          refine lv_bipush (v := (20 : Int32)) hx hb dX11_shift_108 (by decide) ?_
                          refine lv_iload_n hx hb dX11_shift_110 rfl (lv_at hl 1 rfl) ?_
                          refine lv_imul hx hb dX11_shift_111 ?_
                          refine lv_iadd hx hb dX11_shift_112 ?_
                          refine lv_iload_n hx hb dX11_shift_113 rfl (lv_at hl 2 rfl) ?_
                          refine lv_iadd hx hb dX11_shift_114 ?_
                          refine lv_iload hx hb dX11_shift_115 (lv_at hl 6 rfl) ?_
                          refine lv_iadd hx hb dX11_shift_117 ?_
                          obtain ⟨hi118, h⟩ := zg_s h
                          refine va_iald hx hb hK.1 hP 1 0 rfl rfl hi118 dX11_shift_118 ?_
                          obtain ⟨hi119, h⟩ := zg_s h
                          refine va_iast hx hb hK.1 hP hD hS 2 0 rfl rfl hi119 dX11_shift_119 (fun H locs hP hD hS => ?_)
                          have hP : va_P D vwCl (wdX11_shift cy b b_now b_imaged b_valueUp b_valueDown b_real b_brief b_order b_waits b_floats b_same b_upOf b_downOf b_tape b_open b_made b_paper b_reachUp b_reachDown b_reachHow b_reachFirst b_reachSecond b_begins b_carried c_hasImage c_above c_below c_orderMany c_waitMany c_seed c_size c_openMany c_paperMany c_reachMany c_now (upd c_carried_88 (v6_88).toNatClampNeg (c_now (((((201 : Int32) + ((20 : Int32) * p1)) + p2) + v6_88)).toNatClampNeg))) H := hP
                          have hD : va_D A (wdX11_shift cy b b_now b_imaged b_valueUp b_valueDown b_real b_brief b_order b_waits b_floats b_same b_upOf b_downOf b_tape b_open b_made b_paper b_reachUp b_reachDown b_reachHow b_reachFirst b_reachSecond b_begins b_carried c_hasImage c_above c_below c_orderMany c_waitMany c_seed c_size c_openMany c_paperMany c_reachMany c_now (upd c_carried_88 (v6_88).toNatClampNeg (c_now (((((201 : Int32) + ((20 : Int32) * p1)) + p2) + v6_88)).toNatClampNeg))) := hD
                          refine lv_iinc (v := (v6_88 + (1 : Int32))) (lv' := [(6, .int (v6_88 + (1 : Int32))), (0, .ref b), (1, .int p1), (2, .int p2), (3, .int p3), (4, .int p4), (5, .int p5)]) hx hb dX11_shift_120 hl (k := 6) rfl (by rfl) (Nat.le_of_ble_eq_true rfl) rfl (fun ls hl => ?_)
                          refine lv_goto (tgt := 88) hx hb dX11_shift_123 (by decide) ?_
                          exact ih88 (v6_88 + (1 : Int32)) (upd c_carried_88 (v6_88).toNatClampNeg (c_now (((((201 : Int32) + ((20 : Int32) * p1)) + p2) + v6_88)).toNatClampNeg)) _ _ _ hP hD hS (lv_sub hl [1, 2, 3, 4, 5, 6, 0] rfl) h
                    exact hL88 5000 (0 : Int32) c_carried _ _ _ hP hD hS (lv_sub hl [1, 2, 3, 4, 5, 6, 0] rfl) h
                  · replace hc79 := fun q => hc79 ((zc_le _ _).mpr q)
                    replace h := zi_f hc79 h
                    refine lv_bipush (v := (-13 : Int32)) hx hb dX11_shift_82 (by decide) ?_
                    exact hret (o := ((-13 : Int32), c_now, c_carried)) h hP hD hS dX11_shift_84
        · replace h := zi_f hc29 h
          refine lv_bipush (v := (-11 : Int32)) hx hb dX11_shift_32 (by decide) ?_
          exact hret (o := ((-11 : Int32), c_now, c_carried)) h hP hD hS dX11_shift_34
    · replace h := zi_t hc11 h
      refine lv_iconst (v := (-1 : Int32)) hx hb dX11_shift_14 (by decide) ?_
      exact hret (o := ((-1 : Int32), c_now, c_carried)) h hP hD hS dX11_shift_15
