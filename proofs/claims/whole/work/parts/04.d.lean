theorem uX7_isBuiltForBox_X0 : ∀ w ∈ u_ws RX0 TX0 2, w ∈ wsX7_isBuiltForBox := fun w h => (List.mem_cons_of_mem _ (List.mem_append_right _ h))
theorem uX7_isBuiltForBox_X7 : ∀ w ∈ u_ws RX7 TX7 14, w ∈ wsX7_isBuiltForBox := fun w h => (List.mem_cons_of_mem _ (List.mem_append_left _ (List.mem_append_right _ h)))
abbrev wdX7_isBuiltForBox (cy : Nat → ClassId) (b b_box b_above b_below b_kind b_first b_second b_order b_merged b_table b_start b_builtFor b_box_ohms b_box_spread : Nat) (c_size c_levels c_levelsInOrder : Int32) (c_builtFor c_box_ohms : Nat → Int32) : va_W := [(b, .inr (7, [.ref b_box, .ref b_above, .ref b_below, .ref b_kind, .ref b_first, .ref b_second, .ref b_order, .ref b_merged, .ref b_table, .ref b_start, .ref b_builtFor, .int c_size, .int c_levels, .int c_levelsInOrder])), (b_builtFor, .inl (cy 0, 4, .inl c_builtFor)), (b_box, .inr (0, [.ref b_box_ohms, .ref b_box_spread])), (b_box_ohms, .inl (cy 0, 4, .inl c_box_ohms))]
abbrev rmX7_isBuiltForBox : Room := { frames := 0, cells := 0, slots := 0, locals := 0 }
theorem cdX7_isBuiltForBox : (yX7_isBuiltForBox).cls ≠ "java/lang/invoke/MethodHandle" ∧ (yX7_isBuiltForBox).cls ≠ "java/lang/invoke/VarHandle" ∧ (parseMethodDescriptor (yX7_isBuiltForBox).desc).map (fun d => d.parameters.length) = some 0 := by decide +kernel
def fX7_isBuiltForBox_L2 (c_builtFor c_box_ohms : Nat → Int32) : Nat → Int32 → Option (Int32) :=
  zl1 (fun rec2 v1_2 => if (4 : Int32) ≤ v1_2 then (some ((1 : Int32))) else (zg (zin v1_2 4) (zg (zin v1_2 4) (if (c_builtFor (v1_2).toNatClampNeg) = (c_box_ohms (v1_2).toNatClampNeg) then (rec2 (v1_2 + (1 : Int32))) else (some ((0 : Int32)))))))
def fX7_isBuiltForBox (c_builtFor c_box_ohms : Nat → Int32) : Option (Int32) :=
  fX7_isBuiltForBox_L2 c_builtFor c_box_ohms 5000 (0 : Int32)
set_option maxHeartbeats 4000000 in
set_option maxRecDepth 100000 in
theorem mX7_isBuiltForBox (l : Launch) (D : va_G) (cy : Nat → ClassId) (sz : Nat) (b b_box b_above b_below b_kind b_first b_second b_order b_merged b_table b_start b_builtFor b_box_ohms b_box_spread : Nat) (c_size c_levels c_levelsInOrder : Int32) (c_builtFor c_box_ohms : Nat → Int32) (res : (Int32)) (h : fX7_isBuiltForBox c_builtFor c_box_ohms = some res) : zMz l yX7_isBuiltForBox wsX7_isBuiltForBox rmX7_isBuiltForBox [.ref b] D cy (wdX7_isBuiltForBox cy b b_box b_above b_below b_kind b_first b_second b_order b_merged b_table b_start b_builtFor b_box_ohms b_box_spread c_size c_levels c_levelsInOrder c_builtFor c_box_ohms) sz ((fun (o : (Int32)) => o) res) ((fun (o : (Int32)) => (wdX7_isBuiltForBox cy b b_box b_above b_below b_kind b_first b_second b_order b_merged b_table b_start b_builtFor b_box_ohms b_box_spread c_size c_levels c_levelsInOrder c_builtFor c_box_ohms)) res) := by
  refine zOfz (res := res) (rf := (fun (o : (Int32)) => o)) (Wf := (fun (o : (Int32)) => (wdX7_isBuiltForBox cy b b_box b_above b_below b_kind b_first b_second b_order b_merged b_table b_start b_builtFor b_box_ohms b_box_spread c_size c_levels c_levelsInOrder c_builtFor c_box_ohms))) (by decide +kernel) rfl (Nat.le_of_ble_eq_true rfl) ?_
  intro p e s m args below meth c A ls Q hx hb hml hts hown hP hK hD hA hS hl hret
  have hown : s.vm.findClass RX7 = some m.cls := hown
  have hl : lv_has ls 2 [(0, .ref b)] := hl
  refine lv_iconst (v := (0 : Int32)) hx hb dX7_isBuiltForBox_0 (by decide) ?_
  refine lv_istore_n (lv' := [(1, .int (0 : Int32)), (0, .ref b)]) hx hb dX7_isBuiltForBox_1 rfl hl (Nat.le_of_ble_eq_true rfl) rfl (fun ls hl => ?_)
  have hL2 : ∀ n2 : Nat, ∀ (v1_2 : Int32) (H : Heap) (locs : List Loc) (ls : Array Slot), va_P D vwCl (wdX7_isBuiltForBox cy b b_box b_above b_below b_kind b_first b_second b_order b_merged b_table b_start b_builtFor b_box_ohms b_box_spread c_size c_levels c_levelsInOrder c_builtFor c_box_ohms) H → va_D A (wdX7_isBuiltForBox cy b b_box b_above b_below b_kind b_first b_second b_order b_merged b_table b_start b_builtFor b_box_ohms b_box_spread c_size c_levels c_levelsInOrder c_builtFor c_box_ohms) → va_S A s.heap H locs → lv_has ls 2 [(0, .ref b), (1, .int v1_2)] → fX7_isBuiltForBox_L2 c_builtFor c_box_ohms n2 v1_2 = some res → W p l e rmX7_isBuiltForBox s m args below meth c H locs 0 0 Q (F0 m 2 ls []) := by
    intro n2
    induction n2 with
    | zero =>
      intro v1_2 H locs ls hP hD hS hl h
      exact zl1_0 h
    | succ n2 ih2 =>
      intro v1_2 H locs ls hP hD hS hl h
      replace h := zl1_s h
      refine lv_iload_n hx hb dX7_isBuiltForBox_2 rfl (lv_at hl 1 rfl) ?_
      refine lv_iconst (v := (4 : Int32)) hx hb dX7_isBuiltForBox_3 (by decide) ?_
      refine lv_icmp_ge (tgt := 33) hx hb dX7_isBuiltForBox_4 (by decide) (fun hc4 => ?_) (fun hc4 => ?_)
      · replace h := zi_t hc4 h
        refine lv_iconst (v := (1 : Int32)) hx hb dX7_isBuiltForBox_33 (by decide) ?_
        exact hret (o := ((1 : Int32))) h (show narrow .boolean (.int (1 : Int32)) = .int (1 : Int32) from by decide) hP hD hS dX7_isBuiltForBox_34
      · replace h := zi_f hc4 h
        refine lv_aload_n hx hb dX7_isBuiltForBox_7 rfl (lv_at hl 0 rfl) ?_
        refine va_get (D := D) (ci := 7) (v := .ref b_builtFor) (C := RX7) (T := TX7) (N := 14) hx hb hts uX7_isBuiltForBox_X7 hown hK.1 hP 0 rfl rfl 10 (by decide) (hts (.fieldLink RX7 39 "WishedResistor$Reached" "builtFor" "[I") (List.mem_of_getElem? (i := 1) rfl)) (fun _ h9 => h9) rfl dX7_isBuiltForBox_8 ?_
        refine lv_iload_n hx hb dX7_isBuiltForBox_11 rfl (lv_at hl 1 rfl) ?_
        obtain ⟨hi12, h⟩ := zg_s h
        refine va_iald hx hb hK.1 hP 1 0 rfl rfl hi12 dX7_isBuiltForBox_12 ?_
        refine lv_aload_n hx hb dX7_isBuiltForBox_13 rfl (lv_at hl 0 rfl) ?_
        refine va_get (D := D) (ci := 7) (v := .ref b_box) (C := RX7) (T := TX7) (N := 14) hx hb hts uX7_isBuiltForBox_X7 hown hK.1 hP 0 rfl rfl 0 (by decide) (hts (.fieldLink RX7 42 "WishedResistor$Reached" "box" "LWishedResistor$Box;") (List.mem_of_getElem? (i := 2) rfl)) (fun _ h9 => h9) rfl dX7_isBuiltForBox_14 ?_
        refine va_get (D := D) (ci := 0) (v := .ref b_box_ohms) (C := RX0) (T := TX0) (N := 2) hx hb hts uX7_isBuiltForBox_X0 hown hK.1 hP 2 rfl rfl 0 (by decide) (hts (.fieldLink RX7 50 "WishedResistor$Box" "ohms" "[I") (List.mem_of_getElem? (i := 3) rfl)) (fun _ h9 => h9) rfl dX7_isBuiltForBox_17 ?_
        refine lv_iload_n hx hb dX7_isBuiltForBox_20 rfl (lv_at hl 1 rfl) ?_
        obtain ⟨hi21, h⟩ := zg_s h
        refine va_iald hx hb hK.1 hP 3 0 rfl rfl hi21 dX7_isBuiltForBox_21 ?_
        refine lv_icmp_eq (tgt := 27) hx hb dX7_isBuiltForBox_22 (by decide) (fun hc22 => ?_) (fun hc22 => ?_)
        · replace h := zi_t hc22 h
          refine lv_iinc (v := (v1_2 + (1 : Int32))) (lv' := [(1, .int (v1_2 + (1 : Int32))), (0, .ref b)]) hx hb dX7_isBuiltForBox_27 hl (k := 1) rfl (by rfl) (Nat.le_of_ble_eq_true rfl) rfl (fun ls hl => ?_)
          refine lv_goto (tgt := 2) hx hb dX7_isBuiltForBox_30 (by decide) ?_
          exact ih2 (v1_2 + (1 : Int32)) _ _ _ hP hD hS (lv_sub hl [1, 0] rfl) h
        · replace h := zi_f hc22 h
          refine lv_iconst (v := (0 : Int32)) hx hb dX7_isBuiltForBox_25 (by decide) ?_
          exact hret (o := ((0 : Int32))) h (show narrow .boolean (.int (0 : Int32)) = .int (0 : Int32) from by decide) hP hD hS dX7_isBuiltForBox_26
  exact hL2 5000 (0 : Int32) _ _ _ hP hD hS (lv_sub hl [1, 0] rfl) h

theorem uX7_slotOf_X7 : ∀ w ∈ u_ws RX7 TX7 14, w ∈ wsX7_slotOf := fun w h => (List.mem_cons_of_mem _ (List.mem_append_right _ h))
abbrev wdX7_slotOf (cy : Nat → ClassId) (b b_box b_above b_below b_kind b_first b_second b_order b_merged b_table b_start b_builtFor : Nat) (c_size c_levels c_levelsInOrder : Int32) (c_table c_above c_below : Nat → Int32) : va_W := [(b, .inr (7, [.ref b_box, .ref b_above, .ref b_below, .ref b_kind, .ref b_first, .ref b_second, .ref b_order, .ref b_merged, .ref b_table, .ref b_start, .ref b_builtFor, .int c_size, .int c_levels, .int c_levelsInOrder])), (b_table, .inl (cy 0, 4096, .inl c_table)), (b_above, .inl (cy 0, 1884, .inl c_above)), (b_below, .inl (cy 0, 1884, .inl c_below))]
abbrev rmX7_slotOf : Room := { frames := 0, cells := 0, slots := 0, locals := 0 }
theorem cdX7_slotOf : (yX7_slotOf).cls ≠ "java/lang/invoke/MethodHandle" ∧ (yX7_slotOf).cls ≠ "java/lang/invoke/VarHandle" ∧ (parseMethodDescriptor (yX7_slotOf).desc).map (fun d => d.parameters.length) = some 2 := by decide +kernel
def fX7_slotOf_L26 (c_table c_above c_below : Nat → Int32) (p1 p2 : Int32) : Nat → Int32 → Int32 → Option (Int32) :=
  zl2 (fun rec26 v4_26 v5_26 => if (4096 : Int32) ≤ v5_26 then (some (v4_26)) else (zg (zin v4_26 4096) (if ((c_table (v4_26).toNatClampNeg) - (1 : Int32)) < 0 then (some (v4_26)) else (zg (zin ((c_table (v4_26).toNatClampNeg) - (1 : Int32)) 1884) (if (c_above (((c_table (v4_26).toNatClampNeg) - (1 : Int32))).toNatClampNeg) = p1 then (zg (zin ((c_table (v4_26).toNatClampNeg) - (1 : Int32)) 1884) (if (c_below (((c_table (v4_26).toNatClampNeg) - (1 : Int32))).toNatClampNeg) = p2 then (some (v4_26)) else (rec26 ((v4_26 + (1 : Int32)) &&& (4095 : Int32)) (v5_26 + (1 : Int32))))) else (rec26 ((v4_26 + (1 : Int32)) &&& (4095 : Int32)) (v5_26 + (1 : Int32))))))))
def fX7_slotOf (p1 p2 : Int32) (c_table c_above c_below : Nat → Int32) : Option (Int32) :=
  fX7_slotOf_L26 c_table c_above c_below p1 p2 5000 ((((p1 * (40503 : Int32)) + (p2 * (30011 : Int32))) ^^^ (((((p1 * (40503 : Int32)) + (p2 * (30011 : Int32)))).toUInt32 >>> (((13 : Int32)).toUInt32 &&& Int32.toUInt32 31)).toInt32)) &&& (4095 : Int32)) (0 : Int32)
set_option maxHeartbeats 4000000 in
set_option maxRecDepth 100000 in
theorem mX7_slotOf (l : Launch) (D : va_G) (cy : Nat → ClassId) (sz : Nat) (b b_box b_above b_below b_kind b_first b_second b_order b_merged b_table b_start b_builtFor : Nat) (c_size c_levels c_levelsInOrder : Int32) (c_table c_above c_below : Nat → Int32) (p1 p2 : Int32) (res : (Int32)) (h : fX7_slotOf p1 p2 c_table c_above c_below = some res) : zMi l yX7_slotOf wsX7_slotOf rmX7_slotOf [.ref b, .int p1, .int p2] D cy (wdX7_slotOf cy b b_box b_above b_below b_kind b_first b_second b_order b_merged b_table b_start b_builtFor c_size c_levels c_levelsInOrder c_table c_above c_below) sz ((fun (o : (Int32)) => o) res) ((fun (o : (Int32)) => (wdX7_slotOf cy b b_box b_above b_below b_kind b_first b_second b_order b_merged b_table b_start b_builtFor c_size c_levels c_levelsInOrder c_table c_above c_below)) res) := by
  refine zOfi (res := res) (rf := (fun (o : (Int32)) => o)) (Wf := (fun (o : (Int32)) => (wdX7_slotOf cy b b_box b_above b_below b_kind b_first b_second b_order b_merged b_table b_start b_builtFor c_size c_levels c_levelsInOrder c_table c_above c_below))) (by decide +kernel) rfl (Nat.le_of_ble_eq_true rfl) ?_
  intro p e s m args below meth c A ls Q hx hb hml hts hown hP hK hD hA hS hl hret
  have hown : s.vm.findClass RX7 = some m.cls := hown
  have hl : lv_has ls 7 [(0, .ref b), (1, .int p1), (2, .int p2)] := hl
  refine lv_iload_n hx hb dX7_slotOf_0 rfl (lv_at hl 1 rfl) ?_
  refine lv_ldc hx hb hown (hts (.constant RX7 100 (40503)) (List.mem_of_getElem? (i := 1) rfl)) dX7_slotOf_1 ?_
  refine lv_imul hx hb dX7_slotOf_3 ?_
  refine lv_iload_n hx hb dX7_slotOf_4 rfl (lv_at hl 2 rfl) ?_
  refine lv_sipush (v := (30011 : Int32)) hx hb dX7_slotOf_5 (by decide) ?_
  refine lv_imul hx hb dX7_slotOf_8 ?_
  refine lv_iadd hx hb dX7_slotOf_9 ?_
  refine lv_istore_n (lv' := [(3, .int ((p1 * (40503 : Int32)) + (p2 * (30011 : Int32)))), (0, .ref b), (1, .int p1), (2, .int p2)]) hx hb dX7_slotOf_10 rfl hl (Nat.le_of_ble_eq_true rfl) rfl (fun ls hl => ?_)
  refine lv_iload_n hx hb dX7_slotOf_11 rfl (lv_at hl 0 rfl) ?_
  refine lv_iload_n hx hb dX7_slotOf_12 rfl (lv_at hl 0 rfl) ?_
  refine lv_bipush (v := (13 : Int32)) hx hb dX7_slotOf_13 (by decide) ?_
  refine lv_iushr hx hb dX7_slotOf_15 rfl ?_
  refine lv_ixor hx hb dX7_slotOf_16 ?_
  refine lv_sipush (v := (4095 : Int32)) hx hb dX7_slotOf_17 (by decide) ?_
  refine lv_iand hx hb dX7_slotOf_20 ?_
  refine lv_istore (lv' := [(4, .int ((((p1 * (40503 : Int32)) + (p2 * (30011 : Int32))) ^^^ (((((p1 * (40503 : Int32)) + (p2 * (30011 : Int32)))).toUInt32 >>> (((13 : Int32)).toUInt32 &&& Int32.toUInt32 31)).toInt32)) &&& (4095 : Int32))), (3, .int ((p1 * (40503 : Int32)) + (p2 * (30011 : Int32)))), (0, .ref b), (1, .int p1), (2, .int p2)]) hx hb dX7_slotOf_21 hl (Nat.le_of_ble_eq_true rfl) rfl (fun ls hl => ?_)
  refine lv_iconst (v := (0 : Int32)) hx hb dX7_slotOf_23 (by decide) ?_
  refine lv_istore (lv' := [(5, .int (0 : Int32)), (4, .int ((((p1 * (40503 : Int32)) + (p2 * (30011 : Int32))) ^^^ (((((p1 * (40503 : Int32)) + (p2 * (30011 : Int32)))).toUInt32 >>> (((13 : Int32)).toUInt32 &&& Int32.toUInt32 31)).toInt32)) &&& (4095 : Int32))), (3, .int ((p1 * (40503 : Int32)) + (p2 * (30011 : Int32)))), (0, .ref b), (1, .int p1), (2, .int p2)]) hx hb dX7_slotOf_24 hl (Nat.le_of_ble_eq_true rfl) rfl (fun ls hl => ?_)
  have hL26 : ∀ n26 : Nat, ∀ (v4_26 v5_26 : Int32) (H : Heap) (locs : List Loc) (ls : Array Slot), va_P D vwCl (wdX7_slotOf cy b b_box b_above b_below b_kind b_first b_second b_order b_merged b_table b_start b_builtFor c_size c_levels c_levelsInOrder c_table c_above c_below) H → va_D A (wdX7_slotOf cy b b_box b_above b_below b_kind b_first b_second b_order b_merged b_table b_start b_builtFor c_size c_levels c_levelsInOrder c_table c_above c_below) → va_S A s.heap H locs → lv_has ls 7 [(0, .ref b), (1, .int p1), (2, .int p2), (4, .int v4_26), (5, .int v5_26)] → fX7_slotOf_L26 c_table c_above c_below p1 p2 n26 v4_26 v5_26 = some res → W p l e rmX7_slotOf s m args below meth c H locs 0 0 Q (F0 m 26 ls []) := by
    intro n26
    induction n26 with
    | zero =>
      intro v4_26 v5_26 H locs ls hP hD hS hl h
      exact zl2_0 h
    | succ n26 ih26 =>
      intro v4_26 v5_26 H locs ls hP hD hS hl h
      replace h := zl2_s h
      refine lv_iload hx hb dX7_slotOf_26 (lv_at hl 4 rfl) ?_
      refine lv_sipush (v := (4096 : Int32)) hx hb dX7_slotOf_28 (by decide) ?_
      refine lv_icmp_ge (tgt := 91) hx hb dX7_slotOf_31 (by decide) (fun hc31 => ?_) (fun hc31 => ?_)
      · replace h := zi_t hc31 h
        refine lv_iload hx hb dX7_slotOf_91 (lv_at hl 3 rfl) ?_
        exact hret (o := (v4_26)) h hP hD hS dX7_slotOf_93
      · replace h := zi_f hc31 h
        refine lv_aload_n hx hb dX7_slotOf_34 rfl (lv_at hl 0 rfl) ?_
        refine va_get (D := D) (ci := 7) (v := .ref b_table) (C := RX7) (T := TX7) (N := 14) hx hb hts uX7_slotOf_X7 hown hK.1 hP 0 rfl rfl 8 (by decide) (hts (.fieldLink RX7 33 "WishedResistor$Reached" "table" "[I") (List.mem_of_getElem? (i := 2) rfl)) (fun _ h9 => h9) rfl dX7_slotOf_35 ?_
        refine lv_iload hx hb dX7_slotOf_38 (lv_at hl 3 rfl) ?_
        obtain ⟨hi40, h⟩ := zg_s h
        refine va_iald hx hb hK.1 hP 1 0 rfl rfl hi40 dX7_slotOf_40 ?_
        refine lv_iconst (v := (1 : Int32)) hx hb dX7_slotOf_41 (by decide) ?_
        refine lv_isub hx hb dX7_slotOf_42 ?_
        refine lv_istore (lv' := [(6, .int ((c_table (v4_26).toNatClampNeg) - (1 : Int32))), (0, .ref b), (1, .int p1), (2, .int p2), (4, .int v4_26), (5, .int v5_26)]) hx hb dX7_slotOf_43 hl (Nat.le_of_ble_eq_true rfl) rfl (fun ls hl => ?_)
        refine lv_iload hx hb dX7_slotOf_45 (lv_at hl 0 rfl) ?_
        refine lv_if_lt (tgt := 72) hx hb dX7_slotOf_47 (by decide) (fun hc47 => ?_) (fun hc47 => ?_)
        · replace h := zi_t hc47 h
          refine lv_iload hx hb dX7_slotOf_72 (lv_at hl 4 rfl) ?_
          exact hret (o := (v4_26)) h hP hD hS dX7_slotOf_74
        · replace h := zi_f hc47 h
          refine lv_aload_n hx hb dX7_slotOf_50 rfl (lv_at hl 1 rfl) ?_
          refine va_get (D := D) (ci := 7) (v := .ref b_above) (C := RX7) (T := TX7) (N := 14) hx hb hts uX7_slotOf_X7 hown hK.1 hP 0 rfl rfl 1 (by decide) (hts (.fieldLink RX7 11 "WishedResistor$Reached" "above" "[I") (List.mem_of_getElem? (i := 3) rfl)) (fun _ h9 => h9) rfl dX7_slotOf_51 ?_
          refine lv_iload hx hb dX7_slotOf_54 (lv_at hl 0 rfl) ?_
          obtain ⟨hi56, h⟩ := zg_s h
          refine va_iald hx hb hK.1 hP 2 0 rfl rfl hi56 dX7_slotOf_56 ?_
          refine lv_iload_n hx hb dX7_slotOf_57 rfl (lv_at hl 2 rfl) ?_
          refine lv_icmp_ne (tgt := 75) hx hb dX7_slotOf_58 (by decide) (fun hc58 => ?_) (fun hc58 => ?_)
          · replace h := zi_f hc58 h
            refine lv_iload hx hb dX7_slotOf_75 (lv_at hl 4 rfl) ?_
            refine lv_iconst (v := (1 : Int32)) hx hb dX7_slotOf_77 (by decide) ?_
            refine lv_iadd hx hb dX7_slotOf_78 ?_
            refine lv_sipush (v := (4095 : Int32)) hx hb dX7_slotOf_79 (by decide) ?_
            refine lv_iand hx hb dX7_slotOf_82 ?_
            refine lv_istore (lv' := [(4, .int ((v4_26 + (1 : Int32)) &&& (4095 : Int32))), (6, .int ((c_table (v4_26).toNatClampNeg) - (1 : Int32))), (0, .ref b), (1, .int p1), (2, .int p2), (5, .int v5_26)]) hx hb dX7_slotOf_83 hl (Nat.le_of_ble_eq_true rfl) rfl (fun ls hl => ?_)
            refine lv_iinc (v := (v5_26 + (1 : Int32))) (lv' := [(5, .int (v5_26 + (1 : Int32))), (4, .int ((v4_26 + (1 : Int32)) &&& (4095 : Int32))), (6, .int ((c_table (v4_26).toNatClampNeg) - (1 : Int32))), (0, .ref b), (1, .int p1), (2, .int p2)]) hx hb dX7_slotOf_85 hl (k := 5) rfl (by rfl) (Nat.le_of_ble_eq_true rfl) rfl (fun ls hl => ?_)
            refine lv_goto (tgt := 26) hx hb dX7_slotOf_88 (by decide) ?_
            exact ih26 ((v4_26 + (1 : Int32)) &&& (4095 : Int32)) (v5_26 + (1 : Int32)) _ _ _ hP hD hS (lv_sub hl [3, 4, 5, 1, 0] rfl) h
          · replace h := zi_t hc58 h
            refine lv_aload_n hx hb dX7_slotOf_61 rfl (lv_at hl 1 rfl) ?_
            refine va_get (D := D) (ci := 7) (v := .ref b_below) (C := RX7) (T := TX7) (N := 14) hx hb hts uX7_slotOf_X7 hown hK.1 hP 0 rfl rfl 2 (by decide) (hts (.fieldLink RX7 15 "WishedResistor$Reached" "below" "[I") (List.mem_of_getElem? (i := 4) rfl)) (fun _ h9 => h9) rfl dX7_slotOf_62 ?_
            refine lv_iload hx hb dX7_slotOf_65 (lv_at hl 0 rfl) ?_
            obtain ⟨hi67, h⟩ := zg_s h
            refine va_iald hx hb hK.1 hP 3 0 rfl rfl hi67 dX7_slotOf_67 ?_
            refine lv_iload_n hx hb dX7_slotOf_68 rfl (lv_at hl 3 rfl) ?_
            refine lv_icmp_ne (tgt := 75) hx hb dX7_slotOf_69 (by decide) (fun hc69 => ?_) (fun hc69 => ?_)
            · replace h := zi_f hc69 h
              refine lv_iload hx hb dX7_slotOf_75 (lv_at hl 4 rfl) ?_
              refine lv_iconst (v := (1 : Int32)) hx hb dX7_slotOf_77 (by decide) ?_
              refine lv_iadd hx hb dX7_slotOf_78 ?_
              refine lv_sipush (v := (4095 : Int32)) hx hb dX7_slotOf_79 (by decide) ?_
              refine lv_iand hx hb dX7_slotOf_82 ?_
              refine lv_istore (lv' := [(4, .int ((v4_26 + (1 : Int32)) &&& (4095 : Int32))), (6, .int ((c_table (v4_26).toNatClampNeg) - (1 : Int32))), (0, .ref b), (1, .int p1), (2, .int p2), (5, .int v5_26)]) hx hb dX7_slotOf_83 hl (Nat.le_of_ble_eq_true rfl) rfl (fun ls hl => ?_)
              refine lv_iinc (v := (v5_26 + (1 : Int32))) (lv' := [(5, .int (v5_26 + (1 : Int32))), (4, .int ((v4_26 + (1 : Int32)) &&& (4095 : Int32))), (6, .int ((c_table (v4_26).toNatClampNeg) - (1 : Int32))), (0, .ref b), (1, .int p1), (2, .int p2)]) hx hb dX7_slotOf_85 hl (k := 5) rfl (by rfl) (Nat.le_of_ble_eq_true rfl) rfl (fun ls hl => ?_)
              refine lv_goto (tgt := 26) hx hb dX7_slotOf_88 (by decide) ?_
              exact ih26 ((v4_26 + (1 : Int32)) &&& (4095 : Int32)) (v5_26 + (1 : Int32)) _ _ _ hP hD hS (lv_sub hl [3, 4, 5, 1, 0] rfl) h
            · replace h := zi_t hc69 h
              refine lv_iload hx hb dX7_slotOf_72 (lv_at hl 4 rfl) ?_
              exact hret (o := (v4_26)) h hP hD hS dX7_slotOf_74
  exact hL26 5000 ((((p1 * (40503 : Int32)) + (p2 * (30011 : Int32))) ^^^ (((((p1 * (40503 : Int32)) + (p2 * (30011 : Int32)))).toUInt32 >>> (((13 : Int32)).toUInt32 &&& Int32.toUInt32 31)).toInt32)) &&& (4095 : Int32)) (0 : Int32) _ _ _ hP hD hS (lv_sub hl [3, 4, 5, 1, 0] rfl) h

theorem uX7_add_X7 : ∀ w ∈ u_ws RX7 TX7 14, w ∈ wsX7_add := fun w h => (List.mem_cons_of_mem _ (List.mem_append_right _ h))
abbrev wdX7_add (cy : Nat → ClassId) (b b_box b_above b_below b_kind b_first b_second b_order b_merged b_table b_start b_builtFor : Nat) (c_size c_levels c_levelsInOrder : Int32) (c_table c_above c_below c_kind c_first c_second : Nat → Int32) : va_W := [(b, .inr (7, [.ref b_box, .ref b_above, .ref b_below, .ref b_kind, .ref b_first, .ref b_second, .ref b_order, .ref b_merged, .ref b_table, .ref b_start, .ref b_builtFor, .int c_size, .int c_levels, .int c_levelsInOrder])), (b_table, .inl (cy 0, 4096, .inl c_table)), (b_above, .inl (cy 0, 1884, .inl c_above)), (b_below, .inl (cy 0, 1884, .inl c_below)), (b_kind, .inl (cy 0, 1884, .inl c_kind)), (b_first, .inl (cy 0, 1884, .inl c_first)), (b_second, .inl (cy 0, 1884, .inl c_second))]
abbrev rmX7_add : Room := { frames := 1, cells := 0, slots := 0, locals := 30 }
theorem cdX7_add : (yX7_add).cls ≠ "java/lang/invoke/MethodHandle" ∧ (yX7_add).cls ≠ "java/lang/invoke/VarHandle" ∧ (parseMethodDescriptor (yX7_add).desc).map (fun d => d.parameters.length) = some 5 := by decide +kernel
def fX7_add (p1 p2 : Int64) (p3 p4 p5 c_size : Int32) (c_table c_above c_below c_kind c_first c_second : Nat → Int32) : Option (Int32 × (Nat → Int32) × (Nat → Int32) × (Nat → Int32) × (Nat → Int32) × (Nat → Int32) × (Nat → Int32)) :=
  zb1 (fX10_greatestDivisor p1 p2) (fun r2 => if r2 = (0 : Int64) then (some (c_size, c_table, c_above, c_below, c_kind, c_first, c_second)) else (zg (¬ r2 = 0) (zg (¬ r2 = 0) (zb1 (fX7_slotOf (((p1 / r2)).toInt32) (((p2 / r2)).toInt32) c_table c_above c_below) (fun r34 => zg (zin r34 4096) (if (c_table (r34).toNatClampNeg) = 0 then (if c_size < (1884 : Int32) then (zg (zin c_size 1884) (zg (zin c_size 1884) (zg (zin c_size 1884) (zg (zin c_size 1884) (zg (zin c_size 1884) (zg (zin r34 4096) (some ((c_size + (1 : Int32)), (upd c_table (r34).toNatClampNeg (c_size + (1 : Int32))), (upd c_above (c_size).toNatClampNeg (((p1 / r2)).toInt32)), (upd c_below (c_size).toNatClampNeg (((p2 / r2)).toInt32)), (upd c_kind (c_size).toNatClampNeg p3), (upd c_first (c_size).toNatClampNeg p4), (upd c_second (c_size).toNatClampNeg p5))))))))) else (some (c_size, c_table, c_above, c_below, c_kind, c_first, c_second))) else (some (c_size, c_table, c_above, c_below, c_kind, c_first, c_second))))))))
set_option maxHeartbeats 4000000 in
set_option maxRecDepth 100000 in
theorem mX7_add (l : Launch) (D : va_G) (cy : Nat → ClassId) (sz : Nat) (b b_box b_above b_below b_kind b_first b_second b_order b_merged b_table b_start b_builtFor : Nat) (c_size c_levels c_levelsInOrder : Int32) (c_table c_above c_below c_kind c_first c_second : Nat → Int32) (p1 p2 : Int64) (p3 p4 p5 : Int32) (res : (Int32 × (Nat → Int32) × (Nat → Int32) × (Nat → Int32) × (Nat → Int32) × (Nat → Int32) × (Nat → Int32))) (h : fX7_add p1 p2 p3 p4 p5 c_size c_table c_above c_below c_kind c_first c_second = some res) : zMv l yX7_add wsX7_add rmX7_add [.ref b, .long p1, .long p2, .int p3, .int p4, .int p5] D cy (wdX7_add cy b b_box b_above b_below b_kind b_first b_second b_order b_merged b_table b_start b_builtFor c_size c_levels c_levelsInOrder c_table c_above c_below c_kind c_first c_second) sz  ((fun (o : (Int32 × (Nat → Int32) × (Nat → Int32) × (Nat → Int32) × (Nat → Int32) × (Nat → Int32) × (Nat → Int32))) => (wdX7_add cy b b_box b_above b_below b_kind b_first b_second b_order b_merged b_table b_start b_builtFor (o.1) c_levels c_levelsInOrder (o.2.1) (o.2.2.1) (o.2.2.2.1) (o.2.2.2.2.1) (o.2.2.2.2.2.1) (o.2.2.2.2.2.2))) res) := by
  refine zOfv (res := res) (Wf := (fun (o : (Int32 × (Nat → Int32) × (Nat → Int32) × (Nat → Int32) × (Nat → Int32) × (Nat → Int32) × (Nat → Int32))) => (wdX7_add cy b b_box b_above b_below b_kind b_first b_second b_order b_merged b_table b_start b_builtFor (o.1) c_levels c_levelsInOrder (o.2.1) (o.2.2.1) (o.2.2.2.1) (o.2.2.2.2.1) (o.2.2.2.2.2.1) (o.2.2.2.2.2.2)))) (by decide +kernel) rfl (Nat.le_of_ble_eq_true rfl) ?_
  intro p e s m args below meth c A ls Q hx hb hml hts hown hP hK hD hA hS hl hret
  have hown : s.vm.findClass RX7 = some m.cls := hown
  have hl : lv_has ls 13 [(0, .ref b), (1, .long p1), (3, .long p2), (5, .int p3), (6, .int p4), (7, .int p5)] := hl
  refine lv_lload_n hx hb dX7_add_0 rfl (lv_at hl 1 rfl) ?_
  refine lv_lload_n hx hb dX7_add_1 rfl (lv_at hl 2 rfl) ?_
  obtain ⟨r2, hq2, h⟩ := zb1_s h
  refine zCl0 (r0 := r2) (va_runSN (As := [.long p1, .long p2]) (rest := []) ⟨hx, hb, hml, hown, hts⟩ (mX10_greatestDivisor l D cy s.heap.size p1 p2 (r2) hq2) ⟨va_cnB 2 hts gX7_add_X10_greatestDivisor_n92 rfl rfl rfl (hK.2.at 15 rfl) (hts (.initialized RX10) (List.mem_of_getElem? (i := 9) rfl)) cdX10_greatestDivisor ⟨Nat.le_of_ble_eq_true rfl, Nat.le_of_ble_eq_true rfl⟩, (hts (.static yX10_greatestDivisor) (List.mem_of_getElem? (i := 8) rfl)), trivial⟩ (zPS hK hP hD [] rfl rfl) rfl rfl hl.1 rfl (lv_room (Nat.le_of_ble_eq_true rfl)) dX7_add_2 ⟨Nat.zero_le _, Nat.zero_le _⟩) hP hD hS hA (fun H locs hP hD hS => ?_)
  refine lv_lstore (lv' := [(8, .long r2), (0, .ref b), (1, .long p1), (3, .long p2), (5, .int p3), (6, .int p4), (7, .int p5)]) hx hb dX7_add_5 hl (Nat.le_of_ble_eq_true rfl) rfl (fun ls hl => ?_)
  refine lv_lload hx hb dX7_add_7 (lv_at hl 0 rfl) ?_
  refine lv_lconst (v := (0 : Int64)) hx hb dX7_add_9 (by decide) ?_
  refine W.lcmp hx hb dX7_add_10 ?_
  refine lv_if_ne (tgt := 15) hx hb dX7_add_11 (by decide) (fun hc11 => ?_) (fun hc11 => ?_)
  · replace hc11 := fun q => hc11 ((zc_eq _ _).mpr q)
    replace h := zi_f hc11 h
    refine lv_lload_n hx hb dX7_add_15 rfl (lv_at hl 2 rfl) ?_
    refine lv_lload hx hb dX7_add_16 (lv_at hl 0 rfl) ?_
    obtain ⟨hz18, h⟩ := zg_s h
    refine lv_ldiv hx hb dX7_add_18 hz18 ?_
    refine lv_l2i hx hb dX7_add_19 rfl ?_
    refine lv_istore (lv' := [(10, .int (((p1 / r2)).toInt32)), (8, .long r2), (0, .ref b), (1, .long p1), (3, .long p2), (5, .int p3), (6, .int p4), (7, .int p5)]) hx hb dX7_add_20 hl (Nat.le_of_ble_eq_true rfl) rfl (fun ls hl => ?_)
    refine lv_lload_n hx hb dX7_add_22 rfl (lv_at hl 4 rfl) ?_
    refine lv_lload hx hb dX7_add_23 (lv_at hl 1 rfl) ?_
    obtain ⟨hz25, h⟩ := zg_s h
    refine lv_ldiv hx hb dX7_add_25 hz25 ?_
    refine lv_l2i hx hb dX7_add_26 rfl ?_
    refine lv_istore (lv' := [(11, .int (((p2 / r2)).toInt32)), (10, .int (((p1 / r2)).toInt32)), (8, .long r2), (0, .ref b), (1, .long p1), (3, .long p2), (5, .int p3), (6, .int p4), (7, .int p5)]) hx hb dX7_add_27 hl (Nat.le_of_ble_eq_true rfl) rfl (fun ls hl => ?_)
    refine lv_aload_n hx hb dX7_add_29 rfl (lv_at hl 3 rfl) ?_
    refine lv_iload hx hb dX7_add_30 (lv_at hl 1 rfl) ?_
    refine lv_iload hx hb dX7_add_32 (lv_at hl 0 rfl) ?_
    obtain ⟨r34, hq34, h⟩ := zb1_s h
    refine zCi (r0 := r34) (w1 := (wdX7_slotOf cy b b_box b_above b_below b_kind b_first b_second b_order b_merged b_table b_start b_builtFor c_size c_levels c_levelsInOrder c_table c_above c_below)) (ws' := (wdX7_add cy b b_box b_above b_below b_kind b_first b_second b_order b_merged b_table b_start b_builtFor c_size c_levels c_levelsInOrder c_table c_above c_below c_kind c_first c_second)) (va_runV (As := [.int (((p1 / r2)).toInt32), .int (((p2 / r2)).toInt32)]) (rest := []) ⟨hx, hb, hml, hown, hts⟩ (mX7_slotOf l D cy H.size b b_box b_above b_below b_kind b_first b_second b_order b_merged b_table b_start b_builtFor c_size c_levels c_levelsInOrder c_table c_above c_below (((p1 / r2)).toInt32) (((p2 / r2)).toInt32) (r34) hq34) (cwV 2 hts gX7_add_X7_slotOf rfl rfl rfl ⟨rfl, cdX7_slotOf⟩ ⟨Nat.le_of_ble_eq_true rfl, Nat.le_of_ble_eq_true rfl⟩) (zPV hK hP hD [0, 1, 2, 3] rfl rfl (q0 := 0) (ci := 7) rfl rfl rfl) rfl rfl hl.1 rfl (lv_room (Nat.le_of_ble_eq_true rfl)) dX7_add_34 ⟨Nat.zero_le _, Nat.zero_le _⟩) hP hD hS hA [0, 1, 2, 3] [4, 5, 6] [3, 4, 5, 6, 0, 1, 2] rfl rfl rfl rfl (fun H locs hP hD hS => ?_)
    refine lv_istore (lv' := [(12, .int r34), (11, .int (((p2 / r2)).toInt32)), (10, .int (((p1 / r2)).toInt32)), (8, .long r2), (0, .ref b), (1, .long p1), (3, .long p2), (5, .int p3), (6, .int p4), (7, .int p5)]) hx hb dX7_add_37 hl (Nat.le_of_ble_eq_true rfl) rfl (fun ls hl => ?_)
    refine lv_aload_n hx hb dX7_add_39 rfl (lv_at hl 4 rfl) ?_
    refine va_get (D := D) (ci := 7) (v := .ref b_table) (C := RX7) (T := TX7) (N := 14) hx hb hts uX7_add_X7 hown hK.1 hP 0 rfl rfl 8 (by decide) (hts (.fieldLink RX7 33 "WishedResistor$Reached" "table" "[I") (List.mem_of_getElem? (i := 1) rfl)) (fun _ h9 => h9) rfl dX7_add_40 ?_
    refine lv_iload hx hb dX7_add_43 (lv_at hl 0 rfl) ?_
    obtain ⟨hi45, h⟩ := zg_s h
    refine va_iald hx hb hK.1 hP 1 0 rfl rfl hi45 dX7_add_45 ?_
    refine lv_if_ne (tgt := 59) hx hb dX7_add_46 (by decide) (fun hc46 => ?_) (fun hc46 => ?_)
    · replace h := zi_f hc46 h
      exact hret (o := (c_size, c_table, c_above, c_below, c_kind, c_first, c_second)) h hP hD hS dX7_add_59
    · replace h := zi_t hc46 h
      refine lv_aload_n hx hb dX7_add_49 rfl (lv_at hl 4 rfl) ?_
      refine va_get (D := D) (ci := 7) (v := .int c_size) (C := RX7) (T := TX7) (N := 14) hx hb hts uX7_add_X7 hown hK.1 hP 0 rfl rfl 11 (by decide) (hts (.fieldLink RX7 67 "WishedResistor$Reached" "size" "I") (List.mem_of_getElem? (i := 2) rfl)) (fun _ h9 => h9) rfl dX7_add_50 ?_
      refine lv_sipush (v := (1884 : Int32)) hx hb dX7_add_53 (by decide) ?_
      refine lv_icmp_lt (tgt := 60) hx hb dX7_add_56 (by decide) (fun hc56 => ?_) (fun hc56 => ?_)
      · replace h := zi_t hc56 h
        refine lv_aload_n hx hb dX7_add_60 rfl (lv_at hl 4 rfl) ?_
        refine va_get (D := D) (ci := 7) (v := .ref b_above) (C := RX7) (T := TX7) (N := 14) hx hb hts uX7_add_X7 hown hK.1 hP 0 rfl rfl 1 (by decide) (hts (.fieldLink RX7 11 "WishedResistor$Reached" "above" "[I") (List.mem_of_getElem? (i := 3) rfl)) (fun _ h9 => h9) rfl dX7_add_61 ?_
        refine lv_aload_n hx hb dX7_add_64 rfl (lv_at hl 4 rfl) ?_
        refine va_get (D := D) (ci := 7) (v := .int c_size) (C := RX7) (T := TX7) (N := 14) hx hb hts uX7_add_X7 hown hK.1 hP 0 rfl rfl 11 (by decide) (hts (.fieldLink RX7 67 "WishedResistor$Reached" "size" "I") (List.mem_of_getElem? (i := 2) rfl)) (fun _ h9 => h9) rfl dX7_add_65 ?_
        refine lv_iload hx hb dX7_add_68 (lv_at hl 2 rfl) ?_
        obtain ⟨hi70, h⟩ := zg_s h
        refine va_iast hx hb hK.1 hP hD hS 2 0 rfl rfl hi70 dX7_add_70 (fun H locs hP hD hS => ?_)
        have hP : va_P D vwCl (wdX7_add cy b b_box b_above b_below b_kind b_first b_second b_order b_merged b_table b_start b_builtFor c_size c_levels c_levelsInOrder c_table (upd c_above (c_size).toNatClampNeg (((p1 / r2)).toInt32)) c_below c_kind c_first c_second) H := hP
        have hD : va_D A (wdX7_add cy b b_box b_above b_below b_kind b_first b_second b_order b_merged b_table b_start b_builtFor c_size c_levels c_levelsInOrder c_table (upd c_above (c_size).toNatClampNeg (((p1 / r2)).toInt32)) c_below c_kind c_first c_second) := hD
        refine lv_aload_n hx hb dX7_add_71 rfl (lv_at hl 4 rfl) ?_
        refine va_get (D := D) (ci := 7) (v := .ref b_below) (C := RX7) (T := TX7) (N := 14) hx hb hts uX7_add_X7 hown hK.1 hP 0 rfl rfl 2 (by decide) (hts (.fieldLink RX7 15 "WishedResistor$Reached" "below" "[I") (List.mem_of_getElem? (i := 4) rfl)) (fun _ h9 => h9) rfl dX7_add_72 ?_
        refine lv_aload_n hx hb dX7_add_75 rfl (lv_at hl 4 rfl) ?_
        refine va_get (D := D) (ci := 7) (v := .int c_size) (C := RX7) (T := TX7) (N := 14) hx hb hts uX7_add_X7 hown hK.1 hP 0 rfl rfl 11 (by decide) (hts (.fieldLink RX7 67 "WishedResistor$Reached" "size" "I") (List.mem_of_getElem? (i := 2) rfl)) (fun _ h9 => h9) rfl dX7_add_76 ?_
        refine lv_iload hx hb dX7_add_79 (lv_at hl 1 rfl) ?_
        obtain ⟨hi81, h⟩ := zg_s h
        refine va_iast hx hb hK.1 hP hD hS 3 0 rfl rfl hi81 dX7_add_81 (fun H locs hP hD hS => ?_)
        have hP : va_P D vwCl (wdX7_add cy b b_box b_above b_below b_kind b_first b_second b_order b_merged b_table b_start b_builtFor c_size c_levels c_levelsInOrder c_table (upd c_above (c_size).toNatClampNeg (((p1 / r2)).toInt32)) (upd c_below (c_size).toNatClampNeg (((p2 / r2)).toInt32)) c_kind c_first c_second) H := hP
        have hD : va_D A (wdX7_add cy b b_box b_above b_below b_kind b_first b_second b_order b_merged b_table b_start b_builtFor c_size c_levels c_levelsInOrder c_table (upd c_above (c_size).toNatClampNeg (((p1 / r2)).toInt32)) (upd c_below (c_size).toNatClampNeg (((p2 / r2)).toInt32)) c_kind c_first c_second) := hD
        refine lv_aload_n hx hb dX7_add_82 rfl (lv_at hl 4 rfl) ?_
        refine va_get (D := D) (ci := 7) (v := .ref b_kind) (C := RX7) (T := TX7) (N := 14) hx hb hts uX7_add_X7 hown hK.1 hP 0 rfl rfl 3 (by decide) (hts (.fieldLink RX7 18 "WishedResistor$Reached" "kind" "[I") (List.mem_of_getElem? (i := 5) rfl)) (fun _ h9 => h9) rfl dX7_add_83 ?_
        refine lv_aload_n hx hb dX7_add_86 rfl (lv_at hl 4 rfl) ?_
        refine va_get (D := D) (ci := 7) (v := .int c_size) (C := RX7) (T := TX7) (N := 14) hx hb hts uX7_add_X7 hown hK.1 hP 0 rfl rfl 11 (by decide) (hts (.fieldLink RX7 67 "WishedResistor$Reached" "size" "I") (List.mem_of_getElem? (i := 2) rfl)) (fun _ h9 => h9) rfl dX7_add_87 ?_
        refine lv_iload hx hb dX7_add_90 (lv_at hl 7 rfl) ?_
        obtain ⟨hi92, h⟩ := zg_s h
        refine va_iast hx hb hK.1 hP hD hS 4 0 rfl rfl hi92 dX7_add_92 (fun H locs hP hD hS => ?_)
        have hP : va_P D vwCl (wdX7_add cy b b_box b_above b_below b_kind b_first b_second b_order b_merged b_table b_start b_builtFor c_size c_levels c_levelsInOrder c_table (upd c_above (c_size).toNatClampNeg (((p1 / r2)).toInt32)) (upd c_below (c_size).toNatClampNeg (((p2 / r2)).toInt32)) (upd c_kind (c_size).toNatClampNeg p3) c_first c_second) H := hP
        have hD : va_D A (wdX7_add cy b b_box b_above b_below b_kind b_first b_second b_order b_merged b_table b_start b_builtFor c_size c_levels c_levelsInOrder c_table (upd c_above (c_size).toNatClampNeg (((p1 / r2)).toInt32)) (upd c_below (c_size).toNatClampNeg (((p2 / r2)).toInt32)) (upd c_kind (c_size).toNatClampNeg p3) c_first c_second) := hD
        refine lv_aload_n hx hb dX7_add_93 rfl (lv_at hl 4 rfl) ?_
        refine va_get (D := D) (ci := 7) (v := .ref b_first) (C := RX7) (T := TX7) (N := 14) hx hb hts uX7_add_X7 hown hK.1 hP 0 rfl rfl 4 (by decide) (hts (.fieldLink RX7 21 "WishedResistor$Reached" "first" "[I") (List.mem_of_getElem? (i := 6) rfl)) (fun _ h9 => h9) rfl dX7_add_94 ?_
        refine lv_aload_n hx hb dX7_add_97 rfl (lv_at hl 4 rfl) ?_
        refine va_get (D := D) (ci := 7) (v := .int c_size) (C := RX7) (T := TX7) (N := 14) hx hb hts uX7_add_X7 hown hK.1 hP 0 rfl rfl 11 (by decide) (hts (.fieldLink RX7 67 "WishedResistor$Reached" "size" "I") (List.mem_of_getElem? (i := 2) rfl)) (fun _ h9 => h9) rfl dX7_add_98 ?_
        refine lv_iload hx hb dX7_add_101 (lv_at hl 8 rfl) ?_
        obtain ⟨hi103, h⟩ := zg_s h
        refine va_iast hx hb hK.1 hP hD hS 5 0 rfl rfl hi103 dX7_add_103 (fun H locs hP hD hS => ?_)
        have hP : va_P D vwCl (wdX7_add cy b b_box b_above b_below b_kind b_first b_second b_order b_merged b_table b_start b_builtFor c_size c_levels c_levelsInOrder c_table (upd c_above (c_size).toNatClampNeg (((p1 / r2)).toInt32)) (upd c_below (c_size).toNatClampNeg (((p2 / r2)).toInt32)) (upd c_kind (c_size).toNatClampNeg p3) (upd c_first (c_size).toNatClampNeg p4) c_second) H := hP
        have hD : va_D A (wdX7_add cy b b_box b_above b_below b_kind b_first b_second b_order b_merged b_table b_start b_builtFor c_size c_levels c_levelsInOrder c_table (upd c_above (c_size).toNatClampNeg (((p1 / r2)).toInt32)) (upd c_below (c_size).toNatClampNeg (((p2 / r2)).toInt32)) (upd c_kind (c_size).toNatClampNeg p3) (upd c_first (c_size).toNatClampNeg p4) c_second) := hD
        refine lv_aload_n hx hb dX7_add_104 rfl (lv_at hl 4 rfl) ?_
        refine va_get (D := D) (ci := 7) (v := .ref b_second) (C := RX7) (T := TX7) (N := 14) hx hb hts uX7_add_X7 hown hK.1 hP 0 rfl rfl 5 (by decide) (hts (.fieldLink RX7 24 "WishedResistor$Reached" "second" "[I") (List.mem_of_getElem? (i := 7) rfl)) (fun _ h9 => h9) rfl dX7_add_105 ?_
        refine lv_aload_n hx hb dX7_add_108 rfl (lv_at hl 4 rfl) ?_
        refine va_get (D := D) (ci := 7) (v := .int c_size) (C := RX7) (T := TX7) (N := 14) hx hb hts uX7_add_X7 hown hK.1 hP 0 rfl rfl 11 (by decide) (hts (.fieldLink RX7 67 "WishedResistor$Reached" "size" "I") (List.mem_of_getElem? (i := 2) rfl)) (fun _ h9 => h9) rfl dX7_add_109 ?_
        refine lv_iload hx hb dX7_add_112 (lv_at hl 9 rfl) ?_
        obtain ⟨hi114, h⟩ := zg_s h
        refine va_iast hx hb hK.1 hP hD hS 6 0 rfl rfl hi114 dX7_add_114 (fun H locs hP hD hS => ?_)
        have hP : va_P D vwCl (wdX7_add cy b b_box b_above b_below b_kind b_first b_second b_order b_merged b_table b_start b_builtFor c_size c_levels c_levelsInOrder c_table (upd c_above (c_size).toNatClampNeg (((p1 / r2)).toInt32)) (upd c_below (c_size).toNatClampNeg (((p2 / r2)).toInt32)) (upd c_kind (c_size).toNatClampNeg p3) (upd c_first (c_size).toNatClampNeg p4) (upd c_second (c_size).toNatClampNeg p5)) H := hP
        have hD : va_D A (wdX7_add cy b b_box b_above b_below b_kind b_first b_second b_order b_merged b_table b_start b_builtFor c_size c_levels c_levelsInOrder c_table (upd c_above (c_size).toNatClampNeg (((p1 / r2)).toInt32)) (upd c_below (c_size).toNatClampNeg (((p2 / r2)).toInt32)) (upd c_kind (c_size).toNatClampNeg p3) (upd c_first (c_size).toNatClampNeg p4) (upd c_second (c_size).toNatClampNeg p5)) := hD
        refine lv_aload_n hx hb dX7_add_115 rfl (lv_at hl 4 rfl) ?_
        refine lv_dup hx hb dX7_add_116 rfl ?_
        refine va_get (D := D) (ci := 7) (v := .int c_size) (C := RX7) (T := TX7) (N := 14) hx hb hts uX7_add_X7 hown hK.1 hP 0 rfl rfl 11 (by decide) (hts (.fieldLink RX7 67 "WishedResistor$Reached" "size" "I") (List.mem_of_getElem? (i := 2) rfl)) (fun _ h9 => h9) rfl dX7_add_117 ?_
        refine lv_iconst (v := (1 : Int32)) hx hb dX7_add_120 (by decide) ?_
        refine lv_iadd hx hb dX7_add_121 ?_
        refine va_put (D := D) (ci := 7) (v := .int (c_size + (1 : Int32))) (ty := .int) (C := RX7) (T := TX7) (N := 14) hx hb hts uX7_add_X7 tyX7 tyX7_ok nmX7 hown hK.1 hP hD hS 0 rfl rfl 11 (by decide) (hts (.fieldLink RX7 67 "WishedResistor$Reached" "size" "I") (List.mem_of_getElem? (i := 2) rfl)) (fun _ h9 => h9) rfl (by decide +kernel) rfl rfl (Nat.le_of_ble_eq_true rfl) dX7_add_122 (fun H locs hP hD hS => ?_)
        have hP : va_P D vwCl (wdX7_add cy b b_box b_above b_below b_kind b_first b_second b_order b_merged b_table b_start b_builtFor (c_size + (1 : Int32)) c_levels c_levelsInOrder c_table (upd c_above (c_size).toNatClampNeg (((p1 / r2)).toInt32)) (upd c_below (c_size).toNatClampNeg (((p2 / r2)).toInt32)) (upd c_kind (c_size).toNatClampNeg p3) (upd c_first (c_size).toNatClampNeg p4) (upd c_second (c_size).toNatClampNeg p5)) H := hP
        have hD : va_D A (wdX7_add cy b b_box b_above b_below b_kind b_first b_second b_order b_merged b_table b_start b_builtFor (c_size + (1 : Int32)) c_levels c_levelsInOrder c_table (upd c_above (c_size).toNatClampNeg (((p1 / r2)).toInt32)) (upd c_below (c_size).toNatClampNeg (((p2 / r2)).toInt32)) (upd c_kind (c_size).toNatClampNeg p3) (upd c_first (c_size).toNatClampNeg p4) (upd c_second (c_size).toNatClampNeg p5)) := hD
        refine lv_aload_n hx hb dX7_add_125 rfl (lv_at hl 4 rfl) ?_
        refine va_get (D := D) (ci := 7) (v := .ref b_table) (C := RX7) (T := TX7) (N := 14) hx hb hts uX7_add_X7 hown hK.1 hP 0 rfl rfl 8 (by decide) (hts (.fieldLink RX7 33 "WishedResistor$Reached" "table" "[I") (List.mem_of_getElem? (i := 1) rfl)) (fun _ h9 => h9) rfl dX7_add_126 ?_
        refine lv_iload hx hb dX7_add_129 (lv_at hl 0 rfl) ?_
        refine lv_aload_n hx hb dX7_add_131 rfl (lv_at hl 4 rfl) ?_
        refine va_get (D := D) (ci := 7) (v := .int (c_size + (1 : Int32))) (C := RX7) (T := TX7) (N := 14) hx hb hts uX7_add_X7 hown hK.1 hP 0 rfl rfl 11 (by decide) (hts (.fieldLink RX7 67 "WishedResistor$Reached" "size" "I") (List.mem_of_getElem? (i := 2) rfl)) (fun _ h9 => h9) rfl dX7_add_132 ?_
        obtain ⟨hi135, h⟩ := zg_s h
        refine va_iast hx hb hK.1 hP hD hS 1 0 rfl rfl hi135 dX7_add_135 (fun H locs hP hD hS => ?_)
        have hP : va_P D vwCl (wdX7_add cy b b_box b_above b_below b_kind b_first b_second b_order b_merged b_table b_start b_builtFor (c_size + (1 : Int32)) c_levels c_levelsInOrder (upd c_table (r34).toNatClampNeg (c_size + (1 : Int32))) (upd c_above (c_size).toNatClampNeg (((p1 / r2)).toInt32)) (upd c_below (c_size).toNatClampNeg (((p2 / r2)).toInt32)) (upd c_kind (c_size).toNatClampNeg p3) (upd c_first (c_size).toNatClampNeg p4) (upd c_second (c_size).toNatClampNeg p5)) H := hP
        have hD : va_D A (wdX7_add cy b b_box b_above b_below b_kind b_first b_second b_order b_merged b_table b_start b_builtFor (c_size + (1 : Int32)) c_levels c_levelsInOrder (upd c_table (r34).toNatClampNeg (c_size + (1 : Int32))) (upd c_above (c_size).toNatClampNeg (((p1 / r2)).toInt32)) (upd c_below (c_size).toNatClampNeg (((p2 / r2)).toInt32)) (upd c_kind (c_size).toNatClampNeg p3) (upd c_first (c_size).toNatClampNeg p4) (upd c_second (c_size).toNatClampNeg p5)) := hD
        exact hret (o := ((c_size + (1 : Int32)), (upd c_table (r34).toNatClampNeg (c_size + (1 : Int32))), (upd c_above (c_size).toNatClampNeg (((p1 / r2)).toInt32)), (upd c_below (c_size).toNatClampNeg (((p2 / r2)).toInt32)), (upd c_kind (c_size).toNatClampNeg p3), (upd c_first (c_size).toNatClampNeg p4), (upd c_second (c_size).toNatClampNeg p5))) h hP hD hS dX7_add_136
      · replace h := zi_f hc56 h
        exact hret (o := (c_size, c_table, c_above, c_below, c_kind, c_first, c_second)) h hP hD hS dX7_add_59
  · replace hc11 := (zc_eq _ _).mp hc11
    replace h := zi_t hc11 h
    exact hret (o := (c_size, c_table, c_above, c_below, c_kind, c_first, c_second)) h hP hD hS dX7_add_14

theorem uX7_addParts_X0 : ∀ w ∈ u_ws RX0 TX0 2, w ∈ wsX7_addParts := fun w h => (List.mem_cons_of_mem _ (List.mem_append_right _ h))
theorem uX7_addParts_X7 : ∀ w ∈ u_ws RX7 TX7 14, w ∈ wsX7_addParts := fun w h => (List.mem_cons_of_mem _ (List.mem_append_left _ (List.mem_append_right _ h)))
abbrev wdX7_addParts (cy : Nat → ClassId) (b b_box b_above b_below b_kind b_first b_second b_order b_merged b_table b_start b_builtFor b_box_ohms b_box_spread : Nat) (c_size c_levels c_levelsInOrder : Int32) (c_box_ohms c_table c_above c_below c_kind c_first c_second : Nat → Int32) : va_W := [(b, .inr (7, [.ref b_box, .ref b_above, .ref b_below, .ref b_kind, .ref b_first, .ref b_second, .ref b_order, .ref b_merged, .ref b_table, .ref b_start, .ref b_builtFor, .int c_size, .int c_levels, .int c_levelsInOrder])), (b_box, .inr (0, [.ref b_box_ohms, .ref b_box_spread])), (b_box_ohms, .inl (cy 0, 4, .inl c_box_ohms)), (b_table, .inl (cy 0, 4096, .inl c_table)), (b_above, .inl (cy 0, 1884, .inl c_above)), (b_below, .inl (cy 0, 1884, .inl c_below)), (b_kind, .inl (cy 0, 1884, .inl c_kind)), (b_first, .inl (cy 0, 1884, .inl c_first)), (b_second, .inl (cy 0, 1884, .inl c_second))]
abbrev rmX7_addParts : Room := { frames := 2, cells := 0, slots := 0, locals := 62 }
theorem cdX7_addParts : (yX7_addParts).cls ≠ "java/lang/invoke/MethodHandle" ∧ (yX7_addParts).cls ≠ "java/lang/invoke/VarHandle" ∧ (parseMethodDescriptor (yX7_addParts).desc).map (fun d => d.parameters.length) = some 0 := by decide +kernel
def fX7_addParts_L2 (c_box_ohms : Nat → Int32) : Nat → Int32 → Int32 → (Nat → Int32) → (Nat → Int32) → (Nat → Int32) → (Nat → Int32) → (Nat → Int32) → (Nat → Int32) → Option (Int32 × (Nat → Int32) × (Nat → Int32) × (Nat → Int32) × (Nat → Int32) × (Nat → Int32) × (Nat → Int32)) :=
  zl8 (fun rec2 v1_2 c_size_2 c_table_2 c_above_2 c_below_2 c_kind_2 c_first_2 c_second_2 => if (4 : Int32) ≤ v1_2 then (some (c_size_2, c_table_2, c_above_2, c_below_2, c_kind_2, c_first_2, c_second_2)) else (zb1 (fX0_has v1_2 c_box_ohms) (fun r12 => if r12 = 0 then (rec2 (v1_2 + (1 : Int32)) c_size_2 c_table_2 c_above_2 c_below_2 c_kind_2 c_first_2 c_second_2) else (zg (zin v1_2 4) (zb7 (fX7_add (((c_box_ohms (v1_2).toNatClampNeg)).toInt64) (1 : Int64) (0 : Int32) v1_2 (-1 : Int32) c_size_2 c_table_2 c_above_2 c_below_2 c_kind_2 c_first_2 c_second_2) (fun c_size_r33 c_table_r33 c_above_r33 c_below_r33 c_kind_r33 c_first_r33 c_second_r33 => rec2 (v1_2 + (1 : Int32)) c_size_r33 c_table_r33 c_above_r33 c_below_r33 c_kind_r33 c_first_r33 c_second_r33))))))
def fX7_addParts (c_size : Int32) (c_box_ohms c_table c_above c_below c_kind c_first c_second : Nat → Int32) : Option (Int32 × (Nat → Int32) × (Nat → Int32) × (Nat → Int32) × (Nat → Int32) × (Nat → Int32) × (Nat → Int32)) :=
  fX7_addParts_L2 c_box_ohms 5000 (0 : Int32) c_size c_table c_above c_below c_kind c_first c_second
set_option maxHeartbeats 4000000 in
set_option maxRecDepth 100000 in
theorem mX7_addParts (l : Launch) (D : va_G) (cy : Nat → ClassId) (sz : Nat) (b b_box b_above b_below b_kind b_first b_second b_order b_merged b_table b_start b_builtFor b_box_ohms b_box_spread : Nat) (c_size c_levels c_levelsInOrder : Int32) (c_box_ohms c_table c_above c_below c_kind c_first c_second : Nat → Int32) (res : (Int32 × (Nat → Int32) × (Nat → Int32) × (Nat → Int32) × (Nat → Int32) × (Nat → Int32) × (Nat → Int32))) (h : fX7_addParts c_size c_box_ohms c_table c_above c_below c_kind c_first c_second = some res) : zMv l yX7_addParts wsX7_addParts rmX7_addParts [.ref b] D cy (wdX7_addParts cy b b_box b_above b_below b_kind b_first b_second b_order b_merged b_table b_start b_builtFor b_box_ohms b_box_spread c_size c_levels c_levelsInOrder c_box_ohms c_table c_above c_below c_kind c_first c_second) sz  ((fun (o : (Int32 × (Nat → Int32) × (Nat → Int32) × (Nat → Int32) × (Nat → Int32) × (Nat → Int32) × (Nat → Int32))) => (wdX7_addParts cy b b_box b_above b_below b_kind b_first b_second b_order b_merged b_table b_start b_builtFor b_box_ohms b_box_spread (o.1) c_levels c_levelsInOrder c_box_ohms (o.2.1) (o.2.2.1) (o.2.2.2.1) (o.2.2.2.2.1) (o.2.2.2.2.2.1) (o.2.2.2.2.2.2))) res) := by
  refine zOfv (res := res) (Wf := (fun (o : (Int32 × (Nat → Int32) × (Nat → Int32) × (Nat → Int32) × (Nat → Int32) × (Nat → Int32) × (Nat → Int32))) => (wdX7_addParts cy b b_box b_above b_below b_kind b_first b_second b_order b_merged b_table b_start b_builtFor b_box_ohms b_box_spread (o.1) c_levels c_levelsInOrder c_box_ohms (o.2.1) (o.2.2.1) (o.2.2.2.1) (o.2.2.2.2.1) (o.2.2.2.2.2.1) (o.2.2.2.2.2.2)))) (by decide +kernel) rfl (Nat.le_of_ble_eq_true rfl) ?_
  intro p e s m args below meth c A ls Q hx hb hml hts hown hP hK hD hA hS hl hret
  have hown : s.vm.findClass RX7 = some m.cls := hown
  have hl : lv_has ls 2 [(0, .ref b)] := hl
  refine lv_iconst (v := (0 : Int32)) hx hb dX7_addParts_0 (by decide) ?_
  refine lv_istore_n (lv' := [(1, .int (0 : Int32)), (0, .ref b)]) hx hb dX7_addParts_1 rfl hl (Nat.le_of_ble_eq_true rfl) rfl (fun ls hl => ?_)
  have hL2 : ∀ n2 : Nat, ∀ (v1_2 c_size_2 : Int32) (c_table_2 c_above_2 c_below_2 c_kind_2 c_first_2 c_second_2 : Nat → Int32) (H : Heap) (locs : List Loc) (ls : Array Slot), va_P D vwCl (wdX7_addParts cy b b_box b_above b_below b_kind b_first b_second b_order b_merged b_table b_start b_builtFor b_box_ohms b_box_spread c_size_2 c_levels c_levelsInOrder c_box_ohms c_table_2 c_above_2 c_below_2 c_kind_2 c_first_2 c_second_2) H → va_D A (wdX7_addParts cy b b_box b_above b_below b_kind b_first b_second b_order b_merged b_table b_start b_builtFor b_box_ohms b_box_spread c_size_2 c_levels c_levelsInOrder c_box_ohms c_table_2 c_above_2 c_below_2 c_kind_2 c_first_2 c_second_2) → va_S A s.heap H locs → lv_has ls 2 [(0, .ref b), (1, .int v1_2)] → fX7_addParts_L2 c_box_ohms n2 v1_2 c_size_2 c_table_2 c_above_2 c_below_2 c_kind_2 c_first_2 c_second_2 = some res → W p l e rmX7_addParts s m args below meth c H locs 0 0 Q (F0 m 2 ls []) := by
    intro n2
    induction n2 with
    | zero =>
      intro v1_2 c_size_2 c_table_2 c_above_2 c_below_2 c_kind_2 c_first_2 c_second_2 H locs ls hP hD hS hl h
      exact zl8_0 h
    | succ n2 ih2 =>
      intro v1_2 c_size_2 c_table_2 c_above_2 c_below_2 c_kind_2 c_first_2 c_second_2 H locs ls hP hD hS hl h
      replace h := zl8_s h
      refine lv_iload_n hx hb dX7_addParts_2 rfl (lv_at hl 1 rfl) ?_
      refine lv_iconst (v := (4 : Int32)) hx hb dX7_addParts_3 (by decide) ?_
      refine lv_icmp_ge (tgt := 42) hx hb dX7_addParts_4 (by decide) (fun hc4 => ?_) (fun hc4 => ?_)
      · replace h := zi_t hc4 h
        exact hret (o := (c_size_2, c_table_2, c_above_2, c_below_2, c_kind_2, c_first_2, c_second_2)) h hP hD hS dX7_addParts_42
      · replace h := zi_f hc4 h
        refine lv_aload_n hx hb dX7_addParts_7 rfl (lv_at hl 0 rfl) ?_
        refine va_get (D := D) (ci := 7) (v := .ref b_box) (C := RX7) (T := TX7) (N := 14) hx hb hts uX7_addParts_X7 hown hK.1 hP 0 rfl rfl 0 (by decide) (hts (.fieldLink RX7 42 "WishedResistor$Reached" "box" "LWishedResistor$Box;") (List.mem_of_getElem? (i := 1) rfl)) (fun _ h9 => h9) rfl dX7_addParts_8 ?_
        refine lv_iload_n hx hb dX7_addParts_11 rfl (lv_at hl 1 rfl) ?_
        obtain ⟨r12, hq12, h⟩ := zb1_s h
        refine zCz (r0 := r12) (w1 := (wdX0_has cy b_box b_box_ohms b_box_spread c_box_ohms)) (ws' := (wdX7_addParts cy b b_box b_above b_below b_kind b_first b_second b_order b_merged b_table b_start b_builtFor b_box_ohms b_box_spread c_size_2 c_levels c_levelsInOrder c_box_ohms c_table_2 c_above_2 c_below_2 c_kind_2 c_first_2 c_second_2)) (va_runV (As := [.int v1_2]) (rest := []) ⟨hx, hb, hml, hown, hts⟩ (mX0_has l D cy H.size b_box b_box_ohms b_box_spread c_box_ohms v1_2 (r12) hq12) (cwV 1 hts gX7_addParts_X0_has rfl rfl rfl ⟨rfl, cdX0_has⟩ ⟨Nat.le_of_ble_eq_true rfl, Nat.le_of_ble_eq_true rfl⟩) (zPV hK hP hD [1, 2] rfl rfl (q0 := 1) (ci := 0) rfl rfl rfl) rfl rfl hl.1 rfl (lv_room (Nat.le_of_ble_eq_true rfl)) dX7_addParts_12 ⟨Nat.zero_le _, Nat.zero_le _⟩) hP hD hS hA [1, 2] [0, 3, 4, 5, 6, 7, 8] [0, 7, 8, 1, 2, 3, 4, 5, 6] rfl rfl rfl rfl (fun H locs hn12 hP hD hS => ?_)
        refine lv_if_eq (tgt := 36) hx hb dX7_addParts_15 (by decide) (fun hc15 => ?_) (fun hc15 => ?_)
        · replace h := zi_t hc15 h
          refine lv_iinc (v := (v1_2 + (1 : Int32))) (lv' := [(1, .int (v1_2 + (1 : Int32))), (0, .ref b)]) hx hb dX7_addParts_36 hl (k := 1) rfl (by rfl) (Nat.le_of_ble_eq_true rfl) rfl (fun ls hl => ?_)
          refine lv_goto (tgt := 2) hx hb dX7_addParts_39 (by decide) ?_
          exact ih2 (v1_2 + (1 : Int32)) c_size_2 c_table_2 c_above_2 c_below_2 c_kind_2 c_first_2 c_second_2 _ _ _ hP hD hS (lv_sub hl [1, 0] rfl) h
        · replace h := zi_f hc15 h
          refine lv_aload_n hx hb dX7_addParts_18 rfl (lv_at hl 0 rfl) ?_
          refine lv_aload_n hx hb dX7_addParts_19 rfl (lv_at hl 0 rfl) ?_
          refine va_get (D := D) (ci := 7) (v := .ref b_box) (C := RX7) (T := TX7) (N := 14) hx hb hts uX7_addParts_X7 hown hK.1 hP 0 rfl rfl 0 (by decide) (hts (.fieldLink RX7 42 "WishedResistor$Reached" "box" "LWishedResistor$Box;") (List.mem_of_getElem? (i := 1) rfl)) (fun _ h9 => h9) rfl dX7_addParts_20 ?_
          refine va_get (D := D) (ci := 0) (v := .ref b_box_ohms) (C := RX0) (T := TX0) (N := 2) hx hb hts uX7_addParts_X0 hown hK.1 hP 1 rfl rfl 0 (by decide) (hts (.fieldLink RX7 50 "WishedResistor$Box" "ohms" "[I") (List.mem_of_getElem? (i := 2) rfl)) (fun _ h9 => h9) rfl dX7_addParts_23 ?_
          refine lv_iload_n hx hb dX7_addParts_26 rfl (lv_at hl 1 rfl) ?_
          obtain ⟨hi27, h⟩ := zg_s h
          refine va_iald hx hb hK.1 hP 2 0 rfl rfl hi27 dX7_addParts_27 ?_
          refine lv_i2l hx hb dX7_addParts_28 rfl ?_
          refine lv_lconst (v := (1 : Int64)) hx hb dX7_addParts_29 (by decide) ?_
          refine lv_iconst (v := (0 : Int32)) hx hb dX7_addParts_30 (by decide) ?_
          refine lv_iload_n hx hb dX7_addParts_31 rfl (lv_at hl 1 rfl) ?_
          refine lv_iconst (v := (-1 : Int32)) hx hb dX7_addParts_32 (by decide) ?_
          obtain ⟨c_size_r33, c_table_r33, c_above_r33, c_below_r33, c_kind_r33, c_first_r33, c_second_r33, hq33, h⟩ := zb7_s h
          refine zCv (w1 := (wdX7_add cy b b_box b_above b_below b_kind b_first b_second b_order b_merged b_table b_start b_builtFor c_size_r33 c_levels c_levelsInOrder c_table_r33 c_above_r33 c_below_r33 c_kind_r33 c_first_r33 c_second_r33)) (ws' := (wdX7_addParts cy b b_box b_above b_below b_kind b_first b_second b_order b_merged b_table b_start b_builtFor b_box_ohms b_box_spread c_size_r33 c_levels c_levelsInOrder c_box_ohms c_table_r33 c_above_r33 c_below_r33 c_kind_r33 c_first_r33 c_second_r33)) (va_runV (As := [.long (((c_box_ohms (v1_2).toNatClampNeg)).toInt64), .long (1 : Int64), .int (0 : Int32), .int v1_2, .int (-1 : Int32)]) (rest := []) ⟨hx, hb, hml, hown, hts⟩ (mX7_add l D cy H.size b b_box b_above b_below b_kind b_first b_second b_order b_merged b_table b_start b_builtFor c_size_2 c_levels c_levelsInOrder c_table_2 c_above_2 c_below_2 c_kind_2 c_first_2 c_second_2 (((c_box_ohms (v1_2).toNatClampNeg)).toInt64) (1 : Int64) (0 : Int32) v1_2 (-1 : Int32) (c_size_r33, c_table_r33, c_above_r33, c_below_r33, c_kind_r33, c_first_r33, c_second_r33) hq33) (cwV 5 hts gX7_addParts_X7_add rfl rfl rfl ⟨rfl, cdX7_add⟩ ⟨Nat.le_of_ble_eq_true rfl, Nat.le_of_ble_eq_true rfl⟩) (zPV hK hP hD [0, 3, 4, 5, 6, 7, 8] rfl rfl (q0 := 0) (ci := 7) rfl rfl rfl) rfl rfl hl.1 rfl (lv_room (Nat.le_of_ble_eq_true rfl)) dX7_addParts_33 ⟨Nat.zero_le _, Nat.zero_le _⟩) hP hD hS hA [0, 3, 4, 5, 6, 7, 8] [1, 2] [2, 0, 1, 3, 4, 5, 6, 7, 8] rfl rfl rfl rfl (fun H locs hP hD hS => ?_)
          refine lv_iinc (v := (v1_2 + (1 : Int32))) (lv' := [(1, .int (v1_2 + (1 : Int32))), (0, .ref b)]) hx hb dX7_addParts_36 hl (k := 1) rfl (by rfl) (Nat.le_of_ble_eq_true rfl) rfl (fun ls hl => ?_)
          refine lv_goto (tgt := 2) hx hb dX7_addParts_39 (by decide) ?_
          exact ih2 (v1_2 + (1 : Int32)) c_size_r33 c_table_r33 c_above_r33 c_below_r33 c_kind_r33 c_first_r33 c_second_r33 _ _ _ hP hD hS (lv_sub hl [1, 0] rfl) h
  exact hL2 5000 (0 : Int32) c_size c_table c_above c_below c_kind c_first c_second _ _ _ hP hD hS (lv_sub hl [1, 0] rfl) h

theorem uX7_addPairs_X7 : ∀ w ∈ u_ws RX7 TX7 14, w ∈ wsX7_addPairs := fun w h => (List.mem_cons_of_mem _ (List.mem_append_right _ h))
abbrev wdX7_addPairs (cy : Nat → ClassId) (b b_box b_above b_below b_kind b_first b_second b_order b_merged b_table b_start b_builtFor : Nat) (c_size c_levels c_levelsInOrder : Int32) (c_start c_above c_below c_table c_kind c_first c_second : Nat → Int32) : va_W := [(b, .inr (7, [.ref b_box, .ref b_above, .ref b_below, .ref b_kind, .ref b_first, .ref b_second, .ref b_order, .ref b_merged, .ref b_table, .ref b_start, .ref b_builtFor, .int c_size, .int c_levels, .int c_levelsInOrder])), (b_start, .inl (cy 0, 6, .inl c_start)), (b_above, .inl (cy 0, 1884, .inl c_above)), (b_below, .inl (cy 0, 1884, .inl c_below)), (b_table, .inl (cy 0, 4096, .inl c_table)), (b_kind, .inl (cy 0, 1884, .inl c_kind)), (b_first, .inl (cy 0, 1884, .inl c_first)), (b_second, .inl (cy 0, 1884, .inl c_second))]
abbrev rmX7_addPairs : Room := { frames := 2, cells := 0, slots := 0, locals := 62 }
theorem cdX7_addPairs : (yX7_addPairs).cls ≠ "java/lang/invoke/MethodHandle" ∧ (yX7_addPairs).cls ≠ "java/lang/invoke/VarHandle" ∧ (parseMethodDescriptor (yX7_addPairs).desc).map (fun d => d.parameters.length) = some 2 := by decide +kernel
def fX7_addPairs_L36 (k7_36 : Int32 → Int32 → (Nat → Int32) → (Nat → Int32) → (Nat → Int32) → (Nat → Int32) → (Nat → Int32) → (Nat → Int32) → Option (Int32 × (Nat → Int32) × (Nat → Int32) × (Nat → Int32) × (Nat → Int32) × (Nat → Int32) × (Nat → Int32))) (c_start : Nat → Int32) (p2 v3_7 : Int32) : Nat → Int32 → Int32 → (Nat → Int32) → (Nat → Int32) → (Nat → Int32) → (Nat → Int32) → (Nat → Int32) → (Nat → Int32) → Option (Int32 × (Nat → Int32) × (Nat → Int32) × (Nat → Int32) × (Nat → Int32) × (Nat → Int32) × (Nat → Int32)) :=
  zl8 (fun rec36 v4_36 c_size_36 c_above_36 c_below_36 c_table_36 c_kind_36 c_first_36 c_second_36 => zg (zin (p2 + (1 : Int32)) 6) (if (c_start ((p2 + (1 : Int32))).toNatClampNeg) ≤ v4_36 then (k7_36 (v3_7 + (1 : Int32)) c_size_36 c_above_36 c_below_36 c_table_36 c_kind_36 c_first_36 c_second_36) else (zg (zin v3_7 1884) (zg (zin v4_36 1884) (zg (zin v4_36 1884) (zg (zin v3_7 1884) (zg (zin v3_7 1884) (zg (zin v4_36 1884) (zb7 (fX7_add (((((c_above_36 (v3_7).toNatClampNeg)).toInt64) * (((c_below_36 (v4_36).toNatClampNeg)).toInt64)) + ((((c_above_36 (v4_36).toNatClampNeg)).toInt64) * (((c_below_36 (v3_7).toNatClampNeg)).toInt64))) ((((c_below_36 (v3_7).toNatClampNeg)).toInt64) * (((c_below_36 (v4_36).toNatClampNeg)).toInt64)) (1 : Int32) v3_7 v4_36 c_size_36 c_table_36 c_above_36 c_below_36 c_kind_36 c_first_36 c_second_36) (fun c_size_r107 c_table_r107 c_above_r107 c_below_r107 c_kind_r107 c_first_r107 c_second_r107 => zg (zin v3_7 1884) (zg (zin v4_36 1884) (zb7 (fX7_add ((((c_above_r107 (v3_7).toNatClampNeg)).toInt64) * (((c_above_r107 (v4_36).toNatClampNeg)).toInt64)) (((((c_above_36 (v3_7).toNatClampNeg)).toInt64) * (((c_below_36 (v4_36).toNatClampNeg)).toInt64)) + ((((c_above_36 (v4_36).toNatClampNeg)).toInt64) * (((c_below_36 (v3_7).toNatClampNeg)).toInt64))) (2 : Int32) v3_7 v4_36 c_size_r107 c_table_r107 c_above_r107 c_below_r107 c_kind_r107 c_first_r107 c_second_r107) (fun c_size_r133 c_table_r133 c_above_r133 c_below_r133 c_kind_r133 c_first_r133 c_second_r133 => rec36 (v4_36 + (1 : Int32)) c_size_r133 c_above_r133 c_below_r133 c_table_r133 c_kind_r133 c_first_r133 c_second_r133)))))))))))))
def fX7_addPairs_J34 (c_start : Nat → Int32) (p2 v3_7 c_size_7 : Int32) (c_above_7 c_below_7 c_table_7 c_kind_7 c_first_7 c_second_7 : Nat → Int32) (rec7 : Int32 → Int32 → (Nat → Int32) → (Nat → Int32) → (Nat → Int32) → (Nat → Int32) → (Nat → Int32) → (Nat → Int32) → Option (Int32 × (Nat → Int32) × (Nat → Int32) × (Nat → Int32) × (Nat → Int32) × (Nat → Int32) × (Nat → Int32))) (s0_34 : Int32) : Option (Int32 × (Nat → Int32) × (Nat → Int32) × (Nat → Int32) × (Nat → Int32) × (Nat → Int32) × (Nat → Int32)) :=
  fX7_addPairs_L36 rec7 c_start p2 v3_7 5000 s0_34 c_size_7 c_above_7 c_below_7 c_table_7 c_kind_7 c_first_7 c_second_7
def fX7_addPairs_L7 (c_start : Nat → Int32) (p1 p2 : Int32) : Nat → Int32 → Int32 → (Nat → Int32) → (Nat → Int32) → (Nat → Int32) → (Nat → Int32) → (Nat → Int32) → (Nat → Int32) → Option (Int32 × (Nat → Int32) × (Nat → Int32) × (Nat → Int32) × (Nat → Int32) × (Nat → Int32) × (Nat → Int32)) :=
  zl8 (fun rec7 v3_7 c_size_7 c_above_7 c_below_7 c_table_7 c_kind_7 c_first_7 c_second_7 => zg (zin (p1 + (1 : Int32)) 6) (if (c_start ((p1 + (1 : Int32))).toNatClampNeg) ≤ v3_7 then (some (c_size_7, c_above_7, c_below_7, c_table_7, c_kind_7, c_first_7, c_second_7)) else (if p1 = p2 then (fX7_addPairs_J34 c_start p2 v3_7 c_size_7 c_above_7 c_below_7 c_table_7 c_kind_7 c_first_7 c_second_7 rec7 v3_7) else (zg (zin p2 6) (fX7_addPairs_J34 c_start p2 v3_7 c_size_7 c_above_7 c_below_7 c_table_7 c_kind_7 c_first_7 c_second_7 rec7 (c_start (p2).toNatClampNeg))))))
def fX7_addPairs (p1 p2 c_size : Int32) (c_start c_above c_below c_table c_kind c_first c_second : Nat → Int32) : Option (Int32 × (Nat → Int32) × (Nat → Int32) × (Nat → Int32) × (Nat → Int32) × (Nat → Int32) × (Nat → Int32)) :=
  zg (zin p1 6) (fX7_addPairs_L7 c_start p1 p2 5000 (c_start (p1).toNatClampNeg) c_size c_above c_below c_table c_kind c_first c_second)
set_option maxHeartbeats 4000000 in
set_option maxRecDepth 100000 in
theorem mX7_addPairs (l : Launch) (D : va_G) (cy : Nat → ClassId) (sz : Nat) (b b_box b_above b_below b_kind b_first b_second b_order b_merged b_table b_start b_builtFor : Nat) (c_size c_levels c_levelsInOrder : Int32) (c_start c_above c_below c_table c_kind c_first c_second : Nat → Int32) (p1 p2 : Int32) (res : (Int32 × (Nat → Int32) × (Nat → Int32) × (Nat → Int32) × (Nat → Int32) × (Nat → Int32) × (Nat → Int32))) (h : fX7_addPairs p1 p2 c_size c_start c_above c_below c_table c_kind c_first c_second = some res) : zMv l yX7_addPairs wsX7_addPairs rmX7_addPairs [.ref b, .int p1, .int p2] D cy (wdX7_addPairs cy b b_box b_above b_below b_kind b_first b_second b_order b_merged b_table b_start b_builtFor c_size c_levels c_levelsInOrder c_start c_above c_below c_table c_kind c_first c_second) sz  ((fun (o : (Int32 × (Nat → Int32) × (Nat → Int32) × (Nat → Int32) × (Nat → Int32) × (Nat → Int32) × (Nat → Int32))) => (wdX7_addPairs cy b b_box b_above b_below b_kind b_first b_second b_order b_merged b_table b_start b_builtFor (o.1) c_levels c_levelsInOrder c_start (o.2.1) (o.2.2.1) (o.2.2.2.1) (o.2.2.2.2.1) (o.2.2.2.2.2.1) (o.2.2.2.2.2.2))) res) := by
  refine zOfv (res := res) (Wf := (fun (o : (Int32 × (Nat → Int32) × (Nat → Int32) × (Nat → Int32) × (Nat → Int32) × (Nat → Int32) × (Nat → Int32))) => (wdX7_addPairs cy b b_box b_above b_below b_kind b_first b_second b_order b_merged b_table b_start b_builtFor (o.1) c_levels c_levelsInOrder c_start (o.2.1) (o.2.2.1) (o.2.2.2.1) (o.2.2.2.2.1) (o.2.2.2.2.2.1) (o.2.2.2.2.2.2)))) (by decide +kernel) rfl (Nat.le_of_ble_eq_true rfl) ?_
  intro p e s m args below meth c A ls Q hx hb hml hts hown hP hK hD hA hS hl hret
  have hown : s.vm.findClass RX7 = some m.cls := hown
  have hl : lv_has ls 7 [(0, .ref b), (1, .int p1), (2, .int p2)] := hl
  refine lv_aload_n hx hb dX7_addPairs_0 rfl (lv_at hl 0 rfl) ?_
  refine va_get (D := D) (ci := 7) (v := .ref b_start) (C := RX7) (T := TX7) (N := 14) hx hb hts uX7_addPairs_X7 hown hK.1 hP 0 rfl rfl 9 (by decide) (hts (.fieldLink RX7 36 "WishedResistor$Reached" "start" "[I") (List.mem_of_getElem? (i := 1) rfl)) (fun _ h9 => h9) rfl dX7_addPairs_1 ?_
  refine lv_iload_n hx hb dX7_addPairs_4 rfl (lv_at hl 1 rfl) ?_
  obtain ⟨hi5, h⟩ := zg_s h
  refine va_iald hx hb hK.1 hP 1 0 rfl rfl hi5 dX7_addPairs_5 ?_
  refine lv_istore_n (lv' := [(3, .int (c_start (p1).toNatClampNeg)), (0, .ref b), (1, .int p1), (2, .int p2)]) hx hb dX7_addPairs_6 rfl hl (Nat.le_of_ble_eq_true rfl) rfl (fun ls hl => ?_)
  have hL7 : ∀ n7 : Nat, ∀ (v3_7 c_size_7 : Int32) (c_above_7 c_below_7 c_table_7 c_kind_7 c_first_7 c_second_7 : Nat → Int32) (H : Heap) (locs : List Loc) (ls : Array Slot), va_P D vwCl (wdX7_addPairs cy b b_box b_above b_below b_kind b_first b_second b_order b_merged b_table b_start b_builtFor c_size_7 c_levels c_levelsInOrder c_start c_above_7 c_below_7 c_table_7 c_kind_7 c_first_7 c_second_7) H → va_D A (wdX7_addPairs cy b b_box b_above b_below b_kind b_first b_second b_order b_merged b_table b_start b_builtFor c_size_7 c_levels c_levelsInOrder c_start c_above_7 c_below_7 c_table_7 c_kind_7 c_first_7 c_second_7) → va_S A s.heap H locs → lv_has ls 7 [(0, .ref b), (1, .int p1), (2, .int p2), (3, .int v3_7)] → fX7_addPairs_L7 c_start p1 p2 n7 v3_7 c_size_7 c_above_7 c_below_7 c_table_7 c_kind_7 c_first_7 c_second_7 = some res → W p l e rmX7_addPairs s m args below meth c H locs 0 0 Q (F0 m 7 ls []) := by
    intro n7
    induction n7 with
    | zero =>
      intro v3_7 c_size_7 c_above_7 c_below_7 c_table_7 c_kind_7 c_first_7 c_second_7 H locs ls hP hD hS hl h
      exact zl8_0 h
    | succ n7 ih7 =>
      intro v3_7 c_size_7 c_above_7 c_below_7 c_table_7 c_kind_7 c_first_7 c_second_7 H locs ls hP hD hS hl h
      replace h := zl8_s h
      refine lv_iload_n hx hb dX7_addPairs_7 rfl (lv_at hl 3 rfl) ?_
      refine lv_aload_n hx hb dX7_addPairs_8 rfl (lv_at hl 0 rfl) ?_
      refine va_get (D := D) (ci := 7) (v := .ref b_start) (C := RX7) (T := TX7) (N := 14) hx hb hts uX7_addPairs_X7 hown hK.1 hP 0 rfl rfl 9 (by decide) (hts (.fieldLink RX7 36 "WishedResistor$Reached" "start" "[I") (List.mem_of_getElem? (i := 1) rfl)) (fun _ h9 => h9) rfl dX7_addPairs_9 ?_
      refine lv_iload_n hx hb dX7_addPairs_12 rfl (lv_at hl 1 rfl) ?_
      refine lv_iconst (v := (1 : Int32)) hx hb dX7_addPairs_13 (by decide) ?_
      refine lv_iadd hx hb dX7_addPairs_14 ?_
      obtain ⟨hi15, h⟩ := zg_s h
      refine va_iald hx hb hK.1 hP 1 0 rfl rfl hi15 dX7_addPairs_15 ?_
      refine lv_icmp_ge (tgt := 148) hx hb dX7_addPairs_16 (by decide) (fun hc16 => ?_) (fun hc16 => ?_)
      · replace h := zi_t hc16 h
        exact hret (o := (c_size_7, c_above_7, c_below_7, c_table_7, c_kind_7, c_first_7, c_second_7)) h hP hD hS dX7_addPairs_148
      · replace h := zi_f hc16 h
        refine lv_iload_n hx hb dX7_addPairs_19 rfl (lv_at hl 1 rfl) ?_
        refine lv_iload_n hx hb dX7_addPairs_20 rfl (lv_at hl 2 rfl) ?_
        have hJ34 : ∀ (s0_34 : Int32) (H : Heap) (locs : List Loc) (ls : Array Slot), va_P D vwCl (wdX7_addPairs cy b b_box b_above b_below b_kind b_first b_second b_order b_merged b_table b_start b_builtFor c_size_7 c_levels c_levelsInOrder c_start c_above_7 c_below_7 c_table_7 c_kind_7 c_first_7 c_second_7) H → va_D A (wdX7_addPairs cy b b_box b_above b_below b_kind b_first b_second b_order b_merged b_table b_start b_builtFor c_size_7 c_levels c_levelsInOrder c_start c_above_7 c_below_7 c_table_7 c_kind_7 c_first_7 c_second_7) → va_S A s.heap H locs → lv_has ls 7 [(0, .ref b), (1, .int p1), (2, .int p2), (3, .int v3_7)] → fX7_addPairs_J34 c_start p2 v3_7 c_size_7 c_above_7 c_below_7 c_table_7 c_kind_7 c_first_7 c_second_7 (fX7_addPairs_L7 c_start p1 p2 n7) s0_34 = some res → W p l e rmX7_addPairs s m args below meth c H locs 0 0 Q (F0 m 34 ls [.int s0_34]) := by
          intro s0_34 H locs ls hP hD hS hl h
          refine lv_istore (lv' := [(4, .int s0_34), (0, .ref b), (1, .int p1), (2, .int p2), (3, .int v3_7)]) hx hb dX7_addPairs_34 hl (Nat.le_of_ble_eq_true rfl) rfl (fun ls hl => ?_)
          have hL36 : ∀ n36 : Nat, ∀ (v4_36 c_size_36 : Int32) (c_above_36 c_below_36 c_table_36 c_kind_36 c_first_36 c_second_36 : Nat → Int32) (H : Heap) (locs : List Loc) (ls : Array Slot), va_P D vwCl (wdX7_addPairs cy b b_box b_above b_below b_kind b_first b_second b_order b_merged b_table b_start b_builtFor c_size_36 c_levels c_levelsInOrder c_start c_above_36 c_below_36 c_table_36 c_kind_36 c_first_36 c_second_36) H → va_D A (wdX7_addPairs cy b b_box b_above b_below b_kind b_first b_second b_order b_merged b_table b_start b_builtFor c_size_36 c_levels c_levelsInOrder c_start c_above_36 c_below_36 c_table_36 c_kind_36 c_first_36 c_second_36) → va_S A s.heap H locs → lv_has ls 7 [(0, .ref b), (1, .int p1), (2, .int p2), (3, .int v3_7), (4, .int v4_36)] → fX7_addPairs_L36 (fX7_addPairs_L7 c_start p1 p2 n7) c_start p2 v3_7 n36 v4_36 c_size_36 c_above_36 c_below_36 c_table_36 c_kind_36 c_first_36 c_second_36 = some res → W p l e rmX7_addPairs s m args below meth c H locs 0 0 Q (F0 m 36 ls []) := by
            intro n36
            induction n36 with
            | zero =>
              intro v4_36 c_size_36 c_above_36 c_below_36 c_table_36 c_kind_36 c_first_36 c_second_36 H locs ls hP hD hS hl h
              exact zl8_0 h
            | succ n36 ih36 =>
              intro v4_36 c_size_36 c_above_36 c_below_36 c_table_36 c_kind_36 c_first_36 c_second_36 H locs ls hP hD hS hl h
              replace h := zl8_s h
              refine lv_iload hx hb dX7_addPairs_36 (lv_at hl 4 rfl) ?_
              refine lv_aload_n hx hb dX7_addPairs_38 rfl (lv_at hl 0 rfl) ?_
              refine va_get (D := D) (ci := 7) (v := .ref b_start) (C := RX7) (T := TX7) (N := 14) hx hb hts uX7_addPairs_X7 hown hK.1 hP 0 rfl rfl 9 (by decide) (hts (.fieldLink RX7 36 "WishedResistor$Reached" "start" "[I") (List.mem_of_getElem? (i := 1) rfl)) (fun _ h9 => h9) rfl dX7_addPairs_39 ?_
              refine lv_iload_n hx hb dX7_addPairs_42 rfl (lv_at hl 2 rfl) ?_
              refine lv_iconst (v := (1 : Int32)) hx hb dX7_addPairs_43 (by decide) ?_
              refine lv_iadd hx hb dX7_addPairs_44 ?_
              obtain ⟨hi45, h⟩ := zg_s h
              refine va_iald hx hb hK.1 hP 1 0 rfl rfl hi45 dX7_addPairs_45 ?_
              refine lv_icmp_ge (tgt := 142) hx hb dX7_addPairs_46 (by decide) (fun hc46 => ?_) (fun hc46 => ?_)
              · replace h := zi_t hc46 h
                refine lv_iinc (v := (v3_7 + (1 : Int32))) (lv' := [(3, .int (v3_7 + (1 : Int32))), (0, .ref b), (1, .int p1), (2, .int p2), (4, .int v4_36)]) hx hb dX7_addPairs_142 hl (k := 3) rfl (by rfl) (Nat.le_of_ble_eq_true rfl) rfl (fun ls hl => ?_)
                refine lv_goto (tgt := 7) hx hb dX7_addPairs_145 (by decide) ?_
                exact ih7 (v3_7 + (1 : Int32)) c_size_36 c_above_36 c_below_36 c_table_36 c_kind_36 c_first_36 c_second_36 _ _ _ hP hD hS (lv_sub hl [1, 2, 3, 0] rfl) h
              · replace h := zi_f hc46 h
                refine lv_aload_n hx hb dX7_addPairs_49 rfl (lv_at hl 0 rfl) ?_
                refine va_get (D := D) (ci := 7) (v := .ref b_above) (C := RX7) (T := TX7) (N := 14) hx hb hts uX7_addPairs_X7 hown hK.1 hP 0 rfl rfl 1 (by decide) (hts (.fieldLink RX7 11 "WishedResistor$Reached" "above" "[I") (List.mem_of_getElem? (i := 2) rfl)) (fun _ h9 => h9) rfl dX7_addPairs_50 ?_
                refine lv_iload_n hx hb dX7_addPairs_53 rfl (lv_at hl 3 rfl) ?_
                obtain ⟨hi54, h⟩ := zg_s h
                refine va_iald hx hb hK.1 hP 2 0 rfl rfl hi54 dX7_addPairs_54 ?_
                refine lv_i2l hx hb dX7_addPairs_55 rfl ?_
                refine lv_aload_n hx hb dX7_addPairs_56 rfl (lv_at hl 0 rfl) ?_
                refine va_get (D := D) (ci := 7) (v := .ref b_below) (C := RX7) (T := TX7) (N := 14) hx hb hts uX7_addPairs_X7 hown hK.1 hP 0 rfl rfl 2 (by decide) (hts (.fieldLink RX7 15 "WishedResistor$Reached" "below" "[I") (List.mem_of_getElem? (i := 3) rfl)) (fun _ h9 => h9) rfl dX7_addPairs_57 ?_
                refine lv_iload hx hb dX7_addPairs_60 (lv_at hl 4 rfl) ?_
                obtain ⟨hi62, h⟩ := zg_s h
                refine va_iald hx hb hK.1 hP 3 0 rfl rfl hi62 dX7_addPairs_62 ?_
                refine lv_i2l hx hb dX7_addPairs_63 rfl ?_
                refine lv_lmul hx hb dX7_addPairs_64 ?_
                refine lv_aload_n hx hb dX7_addPairs_65 rfl (lv_at hl 0 rfl) ?_
                refine va_get (D := D) (ci := 7) (v := .ref b_above) (C := RX7) (T := TX7) (N := 14) hx hb hts uX7_addPairs_X7 hown hK.1 hP 0 rfl rfl 1 (by decide) (hts (.fieldLink RX7 11 "WishedResistor$Reached" "above" "[I") (List.mem_of_getElem? (i := 2) rfl)) (fun _ h9 => h9) rfl dX7_addPairs_66 ?_
                refine lv_iload hx hb dX7_addPairs_69 (lv_at hl 4 rfl) ?_
                obtain ⟨hi71, h⟩ := zg_s h
                refine va_iald hx hb hK.1 hP 2 0 rfl rfl hi71 dX7_addPairs_71 ?_
                refine lv_i2l hx hb dX7_addPairs_72 rfl ?_
                refine lv_aload_n hx hb dX7_addPairs_73 rfl (lv_at hl 0 rfl) ?_
                refine va_get (D := D) (ci := 7) (v := .ref b_below) (C := RX7) (T := TX7) (N := 14) hx hb hts uX7_addPairs_X7 hown hK.1 hP 0 rfl rfl 2 (by decide) (hts (.fieldLink RX7 15 "WishedResistor$Reached" "below" "[I") (List.mem_of_getElem? (i := 3) rfl)) (fun _ h9 => h9) rfl dX7_addPairs_74 ?_
                refine lv_iload_n hx hb dX7_addPairs_77 rfl (lv_at hl 3 rfl) ?_
                obtain ⟨hi78, h⟩ := zg_s h
                refine va_iald hx hb hK.1 hP 3 0 rfl rfl hi78 dX7_addPairs_78 ?_
                refine lv_i2l hx hb dX7_addPairs_79 rfl ?_
                refine lv_lmul hx hb dX7_addPairs_80 ?_
                refine lv_ladd hx hb dX7_addPairs_81 ?_
                refine lv_lstore (lv' := [(5, .long (((((c_above_36 (v3_7).toNatClampNeg)).toInt64) * (((c_below_36 (v4_36).toNatClampNeg)).toInt64)) + ((((c_above_36 (v4_36).toNatClampNeg)).toInt64) * (((c_below_36 (v3_7).toNatClampNeg)).toInt64)))), (0, .ref b), (1, .int p1), (2, .int p2), (3, .int v3_7), (4, .int v4_36)]) hx hb dX7_addPairs_82 hl (Nat.le_of_ble_eq_true rfl) rfl (fun ls hl => ?_)
                refine lv_aload_n hx hb dX7_addPairs_84 rfl (lv_at hl 1 rfl) ?_
                refine lv_lload hx hb dX7_addPairs_85 (lv_at hl 0 rfl) ?_
                refine lv_aload_n hx hb dX7_addPairs_87 rfl (lv_at hl 1 rfl) ?_
                refine va_get (D := D) (ci := 7) (v := .ref b_below) (C := RX7) (T := TX7) (N := 14) hx hb hts uX7_addPairs_X7 hown hK.1 hP 0 rfl rfl 2 (by decide) (hts (.fieldLink RX7 15 "WishedResistor$Reached" "below" "[I") (List.mem_of_getElem? (i := 3) rfl)) (fun _ h9 => h9) rfl dX7_addPairs_88 ?_
                refine lv_iload_n hx hb dX7_addPairs_91 rfl (lv_at hl 4 rfl) ?_
                obtain ⟨hi92, h⟩ := zg_s h
                refine va_iald hx hb hK.1 hP 3 0 rfl rfl hi92 dX7_addPairs_92 ?_
                refine lv_i2l hx hb dX7_addPairs_93 rfl ?_
                refine lv_aload_n hx hb dX7_addPairs_94 rfl (lv_at hl 1 rfl) ?_
                refine va_get (D := D) (ci := 7) (v := .ref b_below) (C := RX7) (T := TX7) (N := 14) hx hb hts uX7_addPairs_X7 hown hK.1 hP 0 rfl rfl 2 (by decide) (hts (.fieldLink RX7 15 "WishedResistor$Reached" "below" "[I") (List.mem_of_getElem? (i := 3) rfl)) (fun _ h9 => h9) rfl dX7_addPairs_95 ?_
                refine lv_iload hx hb dX7_addPairs_98 (lv_at hl 5 rfl) ?_
                obtain ⟨hi100, h⟩ := zg_s h
                refine va_iald hx hb hK.1 hP 3 0 rfl rfl hi100 dX7_addPairs_100 ?_
                refine lv_i2l hx hb dX7_addPairs_101 rfl ?_
                refine lv_lmul hx hb dX7_addPairs_102 ?_
                refine lv_iconst (v := (1 : Int32)) hx hb dX7_addPairs_103 (by decide) ?_
                refine lv_iload_n hx hb dX7_addPairs_104 rfl (lv_at hl 4 rfl) ?_
                refine lv_iload hx hb dX7_addPairs_105 (lv_at hl 5 rfl) ?_
                obtain ⟨c_size_r107, c_table_r107, c_above_r107, c_below_r107, c_kind_r107, c_first_r107, c_second_r107, hq107, h⟩ := zb7_s h
                refine zCv (w1 := (wdX7_add cy b b_box b_above b_below b_kind b_first b_second b_order b_merged b_table b_start b_builtFor c_size_r107 c_levels c_levelsInOrder c_table_r107 c_above_r107 c_below_r107 c_kind_r107 c_first_r107 c_second_r107)) (ws' := (wdX7_addPairs cy b b_box b_above b_below b_kind b_first b_second b_order b_merged b_table b_start b_builtFor c_size_r107 c_levels c_levelsInOrder c_start c_above_r107 c_below_r107 c_table_r107 c_kind_r107 c_first_r107 c_second_r107)) (va_runV (As := [.long (((((c_above_36 (v3_7).toNatClampNeg)).toInt64) * (((c_below_36 (v4_36).toNatClampNeg)).toInt64)) + ((((c_above_36 (v4_36).toNatClampNeg)).toInt64) * (((c_below_36 (v3_7).toNatClampNeg)).toInt64))), .long ((((c_below_36 (v3_7).toNatClampNeg)).toInt64) * (((c_below_36 (v4_36).toNatClampNeg)).toInt64)), .int (1 : Int32), .int v3_7, .int v4_36]) (rest := []) ⟨hx, hb, hml, hown, hts⟩ (mX7_add l D cy H.size b b_box b_above b_below b_kind b_first b_second b_order b_merged b_table b_start b_builtFor c_size_36 c_levels c_levelsInOrder c_table_36 c_above_36 c_below_36 c_kind_36 c_first_36 c_second_36 (((((c_above_36 (v3_7).toNatClampNeg)).toInt64) * (((c_below_36 (v4_36).toNatClampNeg)).toInt64)) + ((((c_above_36 (v4_36).toNatClampNeg)).toInt64) * (((c_below_36 (v3_7).toNatClampNeg)).toInt64))) ((((c_below_36 (v3_7).toNatClampNeg)).toInt64) * (((c_below_36 (v4_36).toNatClampNeg)).toInt64)) (1 : Int32) v3_7 v4_36 (c_size_r107, c_table_r107, c_above_r107, c_below_r107, c_kind_r107, c_first_r107, c_second_r107) hq107) (cwV 5 hts gX7_addPairs_X7_add rfl rfl rfl ⟨rfl, cdX7_add⟩ ⟨Nat.le_of_ble_eq_true rfl, Nat.le_of_ble_eq_true rfl⟩) (zPV hK hP hD [0, 4, 2, 3, 5, 6, 7] rfl rfl (q0 := 0) (ci := 7) rfl rfl rfl) rfl rfl hl.1 rfl (lv_room (Nat.le_of_ble_eq_true rfl)) dX7_addPairs_107 ⟨Nat.zero_le _, Nat.zero_le _⟩) hP hD hS hA [0, 4, 2, 3, 5, 6, 7] [1] [1, 0, 3, 4, 2, 5, 6, 7] rfl rfl rfl rfl (fun H locs hP hD hS => ?_)
                refine lv_aload_n hx hb dX7_addPairs_110 rfl (lv_at hl 1 rfl) ?_
                refine lv_aload_n hx hb dX7_addPairs_111 rfl (lv_at hl 1 rfl) ?_
                refine va_get (D := D) (ci := 7) (v := .ref b_above) (C := RX7) (T := TX7) (N := 14) hx hb hts uX7_addPairs_X7 hown hK.1 hP 0 rfl rfl 1 (by decide) (hts (.fieldLink RX7 11 "WishedResistor$Reached" "above" "[I") (List.mem_of_getElem? (i := 2) rfl)) (fun _ h9 => h9) rfl dX7_addPairs_112 ?_
                refine lv_iload_n hx hb dX7_addPairs_115 rfl (lv_at hl 4 rfl) ?_
                obtain ⟨hi116, h⟩ := zg_s h
                refine va_iald hx hb hK.1 hP 2 0 rfl rfl hi116 dX7_addPairs_116 ?_
                refine lv_i2l hx hb dX7_addPairs_117 rfl ?_
                refine lv_aload_n hx hb dX7_addPairs_118 rfl (lv_at hl 1 rfl) ?_
                refine va_get (D := D) (ci := 7) (v := .ref b_above) (C := RX7) (T := TX7) (N := 14) hx hb hts uX7_addPairs_X7 hown hK.1 hP 0 rfl rfl 1 (by decide) (hts (.fieldLink RX7 11 "WishedResistor$Reached" "above" "[I") (List.mem_of_getElem? (i := 2) rfl)) (fun _ h9 => h9) rfl dX7_addPairs_119 ?_
                refine lv_iload hx hb dX7_addPairs_122 (lv_at hl 5 rfl) ?_
                obtain ⟨hi124, h⟩ := zg_s h
                refine va_iald hx hb hK.1 hP 2 0 rfl rfl hi124 dX7_addPairs_124 ?_
                refine lv_i2l hx hb dX7_addPairs_125 rfl ?_
                refine lv_lmul hx hb dX7_addPairs_126 ?_
                refine lv_lload hx hb dX7_addPairs_127 (lv_at hl 0 rfl) ?_
                refine lv_iconst (v := (2 : Int32)) hx hb dX7_addPairs_129 (by decide) ?_
                refine lv_iload_n hx hb dX7_addPairs_130 rfl (lv_at hl 4 rfl) ?_
                refine lv_iload hx hb dX7_addPairs_131 (lv_at hl 5 rfl) ?_
                obtain ⟨c_size_r133, c_table_r133, c_above_r133, c_below_r133, c_kind_r133, c_first_r133, c_second_r133, hq133, h⟩ := zb7_s h
                refine zCv (w1 := (wdX7_add cy b b_box b_above b_below b_kind b_first b_second b_order b_merged b_table b_start b_builtFor c_size_r133 c_levels c_levelsInOrder c_table_r133 c_above_r133 c_below_r133 c_kind_r133 c_first_r133 c_second_r133)) (ws' := (wdX7_addPairs cy b b_box b_above b_below b_kind b_first b_second b_order b_merged b_table b_start b_builtFor c_size_r133 c_levels c_levelsInOrder c_start c_above_r133 c_below_r133 c_table_r133 c_kind_r133 c_first_r133 c_second_r133)) (va_runV (As := [.long ((((c_above_r107 (v3_7).toNatClampNeg)).toInt64) * (((c_above_r107 (v4_36).toNatClampNeg)).toInt64)), .long (((((c_above_36 (v3_7).toNatClampNeg)).toInt64) * (((c_below_36 (v4_36).toNatClampNeg)).toInt64)) + ((((c_above_36 (v4_36).toNatClampNeg)).toInt64) * (((c_below_36 (v3_7).toNatClampNeg)).toInt64))), .int (2 : Int32), .int v3_7, .int v4_36]) (rest := []) ⟨hx, hb, hml, hown, hts⟩ (mX7_add l D cy H.size b b_box b_above b_below b_kind b_first b_second b_order b_merged b_table b_start b_builtFor c_size_r107 c_levels c_levelsInOrder c_table_r107 c_above_r107 c_below_r107 c_kind_r107 c_first_r107 c_second_r107 ((((c_above_r107 (v3_7).toNatClampNeg)).toInt64) * (((c_above_r107 (v4_36).toNatClampNeg)).toInt64)) (((((c_above_36 (v3_7).toNatClampNeg)).toInt64) * (((c_below_36 (v4_36).toNatClampNeg)).toInt64)) + ((((c_above_36 (v4_36).toNatClampNeg)).toInt64) * (((c_below_36 (v3_7).toNatClampNeg)).toInt64))) (2 : Int32) v3_7 v4_36 (c_size_r133, c_table_r133, c_above_r133, c_below_r133, c_kind_r133, c_first_r133, c_second_r133) hq133) (cwV 5 hts gX7_addPairs_X7_add rfl rfl rfl ⟨rfl, cdX7_add⟩ ⟨Nat.le_of_ble_eq_true rfl, Nat.le_of_ble_eq_true rfl⟩) (zPV hK hP hD [0, 4, 2, 3, 5, 6, 7] rfl rfl (q0 := 0) (ci := 7) rfl rfl rfl) rfl rfl hl.1 rfl (lv_room (Nat.le_of_ble_eq_true rfl)) dX7_addPairs_133 ⟨Nat.zero_le _, Nat.zero_le _⟩) hP hD hS hA [0, 4, 2, 3, 5, 6, 7] [1] [1, 0, 3, 4, 2, 5, 6, 7] rfl rfl rfl rfl (fun H locs hP hD hS => ?_)
                refine lv_iinc (v := (v4_36 + (1 : Int32))) (lv' := [(4, .int (v4_36 + (1 : Int32))), (5, .long (((((c_above_36 (v3_7).toNatClampNeg)).toInt64) * (((c_below_36 (v4_36).toNatClampNeg)).toInt64)) + ((((c_above_36 (v4_36).toNatClampNeg)).toInt64) * (((c_below_36 (v3_7).toNatClampNeg)).toInt64)))), (0, .ref b), (1, .int p1), (2, .int p2), (3, .int v3_7)]) hx hb dX7_addPairs_136 hl (k := 5) rfl (by rfl) (Nat.le_of_ble_eq_true rfl) rfl (fun ls hl => ?_)
                refine lv_goto (tgt := 36) hx hb dX7_addPairs_139 (by decide) ?_
                exact ih36 (v4_36 + (1 : Int32)) c_size_r133 c_above_r133 c_below_r133 c_table_r133 c_kind_r133 c_first_r133 c_second_r133 _ _ _ hP hD hS (lv_sub hl [2, 3, 4, 5, 0] rfl) h
          exact hL36 5000 s0_34 c_size_7 c_above_7 c_below_7 c_table_7 c_kind_7 c_first_7 c_second_7 _ _ _ hP hD hS (lv_sub hl [1, 2, 3, 4, 0] rfl) h
        refine lv_icmp_ne (tgt := 28) hx hb dX7_addPairs_21 (by decide) (fun hc21 => ?_) (fun hc21 => ?_)
        · replace h := zi_f hc21 h
          refine lv_aload_n hx hb dX7_addPairs_28 rfl (lv_at hl 0 rfl) ?_
          refine va_get (D := D) (ci := 7) (v := .ref b_start) (C := RX7) (T := TX7) (N := 14) hx hb hts uX7_addPairs_X7 hown hK.1 hP 0 rfl rfl 9 (by decide) (hts (.fieldLink RX7 36 "WishedResistor$Reached" "start" "[I") (List.mem_of_getElem? (i := 1) rfl)) (fun _ h9 => h9) rfl dX7_addPairs_29 ?_
          refine lv_iload_n hx hb dX7_addPairs_32 rfl (lv_at hl 2 rfl) ?_
          obtain ⟨hi33, h⟩ := zg_s h
          refine va_iald hx hb hK.1 hP 1 0 rfl rfl hi33 dX7_addPairs_33 ?_
          exact hJ34 (c_start (p2).toNatClampNeg) _ _ _ hP hD hS (lv_sub hl [0, 1, 2, 3] rfl) h
        · replace h := zi_t hc21 h
          refine lv_iload_n hx hb dX7_addPairs_24 rfl (lv_at hl 3 rfl) ?_
          refine lv_goto (tgt := 34) hx hb dX7_addPairs_25 (by decide) ?_
          exact hJ34 v3_7 _ _ _ hP hD hS (lv_sub hl [0, 1, 2, 3] rfl) h
  exact hL7 5000 (c_start (p1).toNatClampNeg) c_size c_above c_below c_table c_kind c_first c_second _ _ _ hP hD hS (lv_sub hl [1, 2, 3, 0] rfl) h

theorem uX7_build_X0 : ∀ w ∈ u_ws RX0 TX0 2, w ∈ wsX7_build := fun w h => (List.mem_cons_of_mem _ (List.mem_append_right _ h))
theorem uX7_build_X7 : ∀ w ∈ u_ws RX7 TX7 14, w ∈ wsX7_build := fun w h => (List.mem_cons_of_mem _ (List.mem_append_left _ (List.mem_append_right _ h)))
abbrev wdX7_build (cy : Nat → ClassId) (b b_box b_above b_below b_kind b_first b_second b_order b_merged b_table b_start b_builtFor b_box_ohms b_box_spread : Nat) (c_size c_levels c_levelsInOrder : Int32) (c_builtFor c_box_ohms c_table c_start c_above c_below c_kind c_first c_second : Nat → Int32) : va_W := [(b, .inr (7, [.ref b_box, .ref b_above, .ref b_below, .ref b_kind, .ref b_first, .ref b_second, .ref b_order, .ref b_merged, .ref b_table, .ref b_start, .ref b_builtFor, .int c_size, .int c_levels, .int c_levelsInOrder])), (b_builtFor, .inl (cy 0, 4, .inl c_builtFor)), (b_box, .inr (0, [.ref b_box_ohms, .ref b_box_spread])), (b_box_ohms, .inl (cy 0, 4, .inl c_box_ohms)), (b_table, .inl (cy 0, 4096, .inl c_table)), (b_start, .inl (cy 0, 6, .inl c_start)), (b_above, .inl (cy 0, 1884, .inl c_above)), (b_below, .inl (cy 0, 1884, .inl c_below)), (b_kind, .inl (cy 0, 1884, .inl c_kind)), (b_first, .inl (cy 0, 1884, .inl c_first)), (b_second, .inl (cy 0, 1884, .inl c_second))]
abbrev rmX7_build : Room := { frames := 3, cells := 0, slots := 0, locals := 88 }
theorem cdX7_build : (yX7_build).cls ≠ "java/lang/invoke/MethodHandle" ∧ (yX7_build).cls ≠ "java/lang/invoke/VarHandle" ∧ (parseMethodDescriptor (yX7_build).desc).map (fun d => d.parameters.length) = some 1 := by decide +kernel
def fX7_build_J106 (v2_54 c_size_54 : Int32) (c_start_54 : Nat → Int32) (rec54 : Int32 → Int32 → Int32 → (Nat → Int32) → (Nat → Int32) → (Nat → Int32) → (Nat → Int32) → (Nat → Int32) → (Nat → Int32) → (Nat → Int32) → Option (Int32 × Int32 × Int32 × (Nat → Int32) × (Nat → Int32) × (Nat → Int32) × (Nat → Int32) × (Nat → Int32) × (Nat → Int32) × (Nat → Int32) × (Nat → Int32))) (c_size_106 : Int32) (c_table_106 c_above_106 c_below_106 c_kind_106 c_first_106 c_second_106 : Nat → Int32) : Option (Int32 × Int32 × Int32 × (Nat → Int32) × (Nat → Int32) × (Nat → Int32) × (Nat → Int32) × (Nat → Int32) × (Nat → Int32) × (Nat → Int32) × (Nat → Int32)) :=
  zg (zin (v2_54 + (1 : Int32)) 6) (rec54 (v2_54 + (1 : Int32)) c_size_106 v2_54 c_table_106 (upd (upd c_start_54 (v2_54).toNatClampNeg c_size_54) ((v2_54 + (1 : Int32))).toNatClampNeg c_size_106) c_above_106 c_below_106 c_kind_106 c_first_106 c_second_106)
def fX7_build_L85 (k106_85 : Int32 → (Nat → Int32) → (Nat → Int32) → (Nat → Int32) → (Nat → Int32) → (Nat → Int32) → (Nat → Int32) → Option (Int32 × Int32 × Int32 × (Nat → Int32) × (Nat → Int32) × (Nat → Int32) × (Nat → Int32) × (Nat → Int32) × (Nat → Int32) × (Nat → Int32) × (Nat → Int32))) (v2_54 c_size_54 : Int32) (c_start_54 : Nat → Int32) : Nat → Int32 → Int32 → (Nat → Int32) → (Nat → Int32) → (Nat → Int32) → (Nat → Int32) → (Nat → Int32) → (Nat → Int32) → Option (Int32 × Int32 × Int32 × (Nat → Int32) × (Nat → Int32) × (Nat → Int32) × (Nat → Int32) × (Nat → Int32) × (Nat → Int32) × (Nat → Int32) × (Nat → Int32)) :=
  zl8 (fun rec85 v3_85 c_size_85 c_table_85 c_above_85 c_below_85 c_kind_85 c_first_85 c_second_85 => if (v2_54 / (2 : Int32)) < v3_85 then (k106_85 c_size_85 c_table_85 c_above_85 c_below_85 c_kind_85 c_first_85 c_second_85) else (zb7 (fX7_addPairs v3_85 (v2_54 - v3_85) c_size_85 (upd c_start_54 (v2_54).toNatClampNeg c_size_54) c_above_85 c_below_85 c_table_85 c_kind_85 c_first_85 c_second_85) (fun c_size_r97 c_above_r97 c_below_r97 c_table_r97 c_kind_r97 c_first_r97 c_second_r97 => rec85 (v3_85 + (1 : Int32)) c_size_r97 c_table_r97 c_above_r97 c_below_r97 c_kind_r97 c_first_r97 c_second_r97)))
def fX7_build_J83 (v2_54 c_size_54 : Int32) (c_start_54 : Nat → Int32) (rec54 : Int32 → Int32 → Int32 → (Nat → Int32) → (Nat → Int32) → (Nat → Int32) → (Nat → Int32) → (Nat → Int32) → (Nat → Int32) → (Nat → Int32) → Option (Int32 × Int32 × Int32 × (Nat → Int32) × (Nat → Int32) × (Nat → Int32) × (Nat → Int32) × (Nat → Int32) × (Nat → Int32) × (Nat → Int32) × (Nat → Int32))) (c_size_83 : Int32) (c_table_83 c_above_83 c_below_83 c_kind_83 c_first_83 c_second_83 : Nat → Int32) : Option (Int32 × Int32 × Int32 × (Nat → Int32) × (Nat → Int32) × (Nat → Int32) × (Nat → Int32) × (Nat → Int32) × (Nat → Int32) × (Nat → Int32) × (Nat → Int32)) :=
  fX7_build_L85 (fX7_build_J106 v2_54 c_size_54 c_start_54 rec54) v2_54 c_size_54 c_start_54 5000 (1 : Int32) c_size_83 c_table_83 c_above_83 c_below_83 c_kind_83 c_first_83 c_second_83
def fX7_build_L54 (c_box_ohms : Nat → Int32) (p1 c_levelsInOrder_47 : Int32) (c_builtFor_47 : Nat → Int32) : Nat → Int32 → Int32 → Int32 → (Nat → Int32) → (Nat → Int32) → (Nat → Int32) → (Nat → Int32) → (Nat → Int32) → (Nat → Int32) → (Nat → Int32) → Option (Int32 × Int32 × Int32 × (Nat → Int32) × (Nat → Int32) × (Nat → Int32) × (Nat → Int32) × (Nat → Int32) × (Nat → Int32) × (Nat → Int32) × (Nat → Int32)) :=
  zl10 (fun rec54 v2_54 c_size_54 c_levels_54 c_table_54 c_start_54 c_above_54 c_below_54 c_kind_54 c_first_54 c_second_54 => if p1 < v2_54 then (some (c_size_54, c_levels_54, c_levelsInOrder_47, c_builtFor_47, c_table_54, c_start_54, c_above_54, c_below_54, c_kind_54, c_first_54, c_second_54)) else (if (4 : Int32) < v2_54 then (some (c_size_54, c_levels_54, c_levelsInOrder_47, c_builtFor_47, c_table_54, c_start_54, c_above_54, c_below_54, c_kind_54, c_first_54, c_second_54)) else (zg (zin v2_54 6) (if v2_54 = (1 : Int32) then (zb7 (fX7_addParts c_size_54 c_box_ohms c_table_54 c_above_54 c_below_54 c_kind_54 c_first_54 c_second_54) (fun c_size_r80 c_table_r80 c_above_r80 c_below_r80 c_kind_r80 c_first_r80 c_second_r80 => fX7_build_J83 v2_54 c_size_54 c_start_54 rec54 c_size_r80 c_table_r80 c_above_r80 c_below_r80 c_kind_r80 c_first_r80 c_second_r80)) else (fX7_build_J83 v2_54 c_size_54 c_start_54 rec54 c_size_54 c_table_54 c_above_54 c_below_54 c_kind_54 c_first_54 c_second_54)))))
def fX7_build_J47 (c_box_ohms c_start c_above c_below c_kind c_first c_second : Nat → Int32) (p1 : Int32) (c_size_47 c_levels_47 c_levelsInOrder_47 : Int32) (c_builtFor_47 c_table_47 : Nat → Int32) : Option (Int32 × Int32 × Int32 × (Nat → Int32) × (Nat → Int32) × (Nat → Int32) × (Nat → Int32) × (Nat → Int32) × (Nat → Int32) × (Nat → Int32) × (Nat → Int32)) :=
  fX7_build_L54 c_box_ohms p1 c_levelsInOrder_47 c_builtFor_47 5000 (c_levels_47 + (1 : Int32)) c_size_47 c_levels_47 c_table_47 c_start c_above c_below c_kind c_first c_second
def fX7_build (p1 c_size c_levels c_levelsInOrder : Int32) (c_builtFor c_box_ohms c_table c_start c_above c_below c_kind c_first c_second : Nat → Int32) : Option (Int32 × Int32 × Int32 × (Nat → Int32) × (Nat → Int32) × (Nat → Int32) × (Nat → Int32) × (Nat → Int32) × (Nat → Int32) × (Nat → Int32) × (Nat → Int32)) :=
  zb1 (fX7_isBuiltForBox c_builtFor c_box_ohms) (fun r1 => if r1 = 0 then (zb1 (fJ7_fill_53178 (0 : Int32) 4096 c_table) (fun c_table_r29 => fX7_build_J47 c_box_ohms c_start c_above c_below c_kind c_first c_second p1 (0 : Int32) (0 : Int32) (0 : Int32) (va_cpy c_box_ohms c_builtFor ((0 : Int32)).toNatClampNeg ((0 : Int32)).toNatClampNeg ((4 : Int32)).toNatClampNeg) c_table_r29)) else (fX7_build_J47 c_box_ohms c_start c_above c_below c_kind c_first c_second p1 c_size c_levels c_levelsInOrder c_builtFor c_table))
set_option maxHeartbeats 4000000 in
set_option maxRecDepth 100000 in
theorem mX7_build (l : Launch) (D : va_G) (cy : Nat → ClassId) (sz : Nat) (b b_box b_above b_below b_kind b_first b_second b_order b_merged b_table b_start b_builtFor b_box_ohms b_box_spread : Nat) (c_size c_levels c_levelsInOrder : Int32) (c_builtFor c_box_ohms c_table c_start c_above c_below c_kind c_first c_second : Nat → Int32) (p1 : Int32) (res : (Int32 × Int32 × Int32 × (Nat → Int32) × (Nat → Int32) × (Nat → Int32) × (Nat → Int32) × (Nat → Int32) × (Nat → Int32) × (Nat → Int32) × (Nat → Int32))) (h : fX7_build p1 c_size c_levels c_levelsInOrder c_builtFor c_box_ohms c_table c_start c_above c_below c_kind c_first c_second = some res) : zMv l yX7_build wsX7_build rmX7_build [.ref b, .int p1] D cy (wdX7_build cy b b_box b_above b_below b_kind b_first b_second b_order b_merged b_table b_start b_builtFor b_box_ohms b_box_spread c_size c_levels c_levelsInOrder c_builtFor c_box_ohms c_table c_start c_above c_below c_kind c_first c_second) sz  ((fun (o : (Int32 × Int32 × Int32 × (Nat → Int32) × (Nat → Int32) × (Nat → Int32) × (Nat → Int32) × (Nat → Int32) × (Nat → Int32) × (Nat → Int32) × (Nat → Int32))) => (wdX7_build cy b b_box b_above b_below b_kind b_first b_second b_order b_merged b_table b_start b_builtFor b_box_ohms b_box_spread (o.1) (o.2.1) (o.2.2.1) (o.2.2.2.1) c_box_ohms (o.2.2.2.2.1) (o.2.2.2.2.2.1) (o.2.2.2.2.2.2.1) (o.2.2.2.2.2.2.2.1) (o.2.2.2.2.2.2.2.2.1) (o.2.2.2.2.2.2.2.2.2.1) (o.2.2.2.2.2.2.2.2.2.2))) res) := by
  refine zOfv (res := res) (Wf := (fun (o : (Int32 × Int32 × Int32 × (Nat → Int32) × (Nat → Int32) × (Nat → Int32) × (Nat → Int32) × (Nat → Int32) × (Nat → Int32) × (Nat → Int32) × (Nat → Int32))) => (wdX7_build cy b b_box b_above b_below b_kind b_first b_second b_order b_merged b_table b_start b_builtFor b_box_ohms b_box_spread (o.1) (o.2.1) (o.2.2.1) (o.2.2.2.1) c_box_ohms (o.2.2.2.2.1) (o.2.2.2.2.2.1) (o.2.2.2.2.2.2.1) (o.2.2.2.2.2.2.2.1) (o.2.2.2.2.2.2.2.2.1) (o.2.2.2.2.2.2.2.2.2.1) (o.2.2.2.2.2.2.2.2.2.2)))) (by decide +kernel) rfl (Nat.le_of_ble_eq_true rfl) ?_
  intro p e s m args below meth c A ls Q hx hb hml hts hown hP hK hD hA hS hl hret
  have hown : s.vm.findClass RX7 = some m.cls := hown
  have hl : lv_has ls 4 [(0, .ref b), (1, .int p1)] := hl
  refine lv_aload_n hx hb dX7_build_0 rfl (lv_at hl 0 rfl) ?_
  obtain ⟨r1, hq1, h⟩ := zb1_s h
  refine zCz (r0 := r1) (w1 := (wdX7_isBuiltForBox cy b b_box b_above b_below b_kind b_first b_second b_order b_merged b_table b_start b_builtFor b_box_ohms b_box_spread c_size c_levels c_levelsInOrder c_builtFor c_box_ohms)) (ws' := (wdX7_build cy b b_box b_above b_below b_kind b_first b_second b_order b_merged b_table b_start b_builtFor b_box_ohms b_box_spread c_size c_levels c_levelsInOrder c_builtFor c_box_ohms c_table c_start c_above c_below c_kind c_first c_second)) (va_runV (As := []) (rest := []) ⟨hx, hb, hml, hown, hts⟩ (mX7_isBuiltForBox l D cy s.heap.size b b_box b_above b_below b_kind b_first b_second b_order b_merged b_table b_start b_builtFor b_box_ohms b_box_spread c_size c_levels c_levelsInOrder c_builtFor c_box_ohms (r1) hq1) (cwV 0 hts gX7_build_X7_isBuiltForBox rfl rfl rfl ⟨rfl, cdX7_isBuiltForBox⟩ ⟨Nat.le_of_ble_eq_true rfl, Nat.le_of_ble_eq_true rfl⟩) (zPV hK hP hD [0, 1, 2, 3] rfl rfl (q0 := 0) (ci := 7) rfl rfl rfl) rfl rfl hl.1 rfl (lv_room (Nat.le_of_ble_eq_true rfl)) dX7_build_1 ⟨Nat.zero_le _, Nat.zero_le _⟩) hP hD hS hA [0, 1, 2, 3] [4, 5, 6, 7, 8, 9, 10] [7, 8, 9, 10, 0, 1, 2, 3, 4, 5, 6] rfl rfl rfl rfl (fun H locs hn1 hP hD hS => ?_)
  have hJ47 : ∀ (c_size_47 c_levels_47 c_levelsInOrder_47 : Int32) (c_builtFor_47 c_table_47 : Nat → Int32) (H : Heap) (locs : List Loc) (ls : Array Slot), va_P D vwCl (wdX7_build cy b b_box b_above b_below b_kind b_first b_second b_order b_merged b_table b_start b_builtFor b_box_ohms b_box_spread c_size_47 c_levels_47 c_levelsInOrder_47 c_builtFor_47 c_box_ohms c_table_47 c_start c_above c_below c_kind c_first c_second) H → va_D A (wdX7_build cy b b_box b_above b_below b_kind b_first b_second b_order b_merged b_table b_start b_builtFor b_box_ohms b_box_spread c_size_47 c_levels_47 c_levelsInOrder_47 c_builtFor_47 c_box_ohms c_table_47 c_start c_above c_below c_kind c_first c_second) → va_S A s.heap H locs → lv_has ls 4 [(0, .ref b), (1, .int p1)] → fX7_build_J47 c_box_ohms c_start c_above c_below c_kind c_first c_second p1 c_size_47 c_levels_47 c_levelsInOrder_47 c_builtFor_47 c_table_47 = some res → W p l e rmX7_build s m args below meth c H locs 0 0 Q (F0 m 47 ls []) := by
    intro c_size_47 c_levels_47 c_levelsInOrder_47 c_builtFor_47 c_table_47 H locs ls hP hD hS hl h
    refine lv_aload_n hx hb dX7_build_47 rfl (lv_at hl 0 rfl) ?_
    refine va_get (D := D) (ci := 7) (v := .int c_levels_47) (C := RX7) (T := TX7) (N := 14) hx hb hts uX7_build_X7 hown hK.1 hP 0 rfl rfl 12 (by decide) (hts (.fieldLink RX7 71 "WishedResistor$Reached" "levels" "I") (List.mem_of_getElem? (i := 10) rfl)) (fun _ h9 => h9) rfl dX7_build_48 ?_
    refine lv_iconst (v := (1 : Int32)) hx hb dX7_build_51 (by decide) ?_
    refine lv_iadd hx hb dX7_build_52 ?_
    refine lv_istore_n (lv' := [(2, .int (c_levels_47 + (1 : Int32))), (0, .ref b), (1, .int p1)]) hx hb dX7_build_53 rfl hl (Nat.le_of_ble_eq_true rfl) rfl (fun ls hl => ?_)
    have hL54 : ∀ n54 : Nat, ∀ (v2_54 c_size_54 c_levels_54 : Int32) (c_table_54 c_start_54 c_above_54 c_below_54 c_kind_54 c_first_54 c_second_54 : Nat → Int32) (H : Heap) (locs : List Loc) (ls : Array Slot), va_P D vwCl (wdX7_build cy b b_box b_above b_below b_kind b_first b_second b_order b_merged b_table b_start b_builtFor b_box_ohms b_box_spread c_size_54 c_levels_54 c_levelsInOrder_47 c_builtFor_47 c_box_ohms c_table_54 c_start_54 c_above_54 c_below_54 c_kind_54 c_first_54 c_second_54) H → va_D A (wdX7_build cy b b_box b_above b_below b_kind b_first b_second b_order b_merged b_table b_start b_builtFor b_box_ohms b_box_spread c_size_54 c_levels_54 c_levelsInOrder_47 c_builtFor_47 c_box_ohms c_table_54 c_start_54 c_above_54 c_below_54 c_kind_54 c_first_54 c_second_54) → va_S A s.heap H locs → lv_has ls 4 [(0, .ref b), (1, .int p1), (2, .int v2_54)] → fX7_build_L54 c_box_ohms p1 c_levelsInOrder_47 c_builtFor_47 n54 v2_54 c_size_54 c_levels_54 c_table_54 c_start_54 c_above_54 c_below_54 c_kind_54 c_first_54 c_second_54 = some res → W p l e rmX7_build s m args below meth c H locs 0 0 Q (F0 m 54 ls []) := by
      intro n54
      induction n54 with
      | zero =>
        intro v2_54 c_size_54 c_levels_54 c_table_54 c_start_54 c_above_54 c_below_54 c_kind_54 c_first_54 c_second_54 H locs ls hP hD hS hl h
        exact zl10_0 h
      | succ n54 ih54 =>
        intro v2_54 c_size_54 c_levels_54 c_table_54 c_start_54 c_above_54 c_below_54 c_kind_54 c_first_54 c_second_54 H locs ls hP hD hS hl h
        replace h := zl10_s h
        refine lv_iload_n hx hb dX7_build_54 rfl (lv_at hl 2 rfl) ?_
        refine lv_iload_n hx hb dX7_build_55 rfl (lv_at hl 1 rfl) ?_
        refine lv_icmp_gt (tgt := 129) hx hb dX7_build_56 (by decide) (fun hc56 => ?_) (fun hc56 => ?_)
        · replace h := zi_t hc56 h
          exact hret (o := (c_size_54, c_levels_54, c_levelsInOrder_47, c_builtFor_47, c_table_54, c_start_54, c_above_54, c_below_54, c_kind_54, c_first_54, c_second_54)) h hP hD hS dX7_build_129
        · replace h := zi_f hc56 h
          refine lv_iload_n hx hb dX7_build_59 rfl (lv_at hl 2 rfl) ?_
          refine lv_iconst (v := (4 : Int32)) hx hb dX7_build_60 (by decide) ?_
          refine lv_icmp_gt (tgt := 129) hx hb dX7_build_61 (by decide) (fun hc61 => ?_) (fun hc61 => ?_)
          · replace h := zi_t hc61 h
            exact hret (o := (c_size_54, c_levels_54, c_levelsInOrder_47, c_builtFor_47, c_table_54, c_start_54, c_above_54, c_below_54, c_kind_54, c_first_54, c_second_54)) h hP hD hS dX7_build_129
          · replace h := zi_f hc61 h
            refine lv_aload_n hx hb dX7_build_64 rfl (lv_at hl 0 rfl) ?_
            refine va_get (D := D) (ci := 7) (v := .ref b_start) (C := RX7) (T := TX7) (N := 14) hx hb hts uX7_build_X7 hown hK.1 hP 0 rfl rfl 9 (by decide) (hts (.fieldLink RX7 36 "WishedResistor$Reached" "start" "[I") (List.mem_of_getElem? (i := 12) rfl)) (fun _ h9 => h9) rfl dX7_build_65 ?_
            refine lv_iload_n hx hb dX7_build_68 rfl (lv_at hl 2 rfl) ?_
            refine lv_aload_n hx hb dX7_build_69 rfl (lv_at hl 0 rfl) ?_
            refine va_get (D := D) (ci := 7) (v := .int c_size_54) (C := RX7) (T := TX7) (N := 14) hx hb hts uX7_build_X7 hown hK.1 hP 0 rfl rfl 11 (by decide) (hts (.fieldLink RX7 67 "WishedResistor$Reached" "size" "I") (List.mem_of_getElem? (i := 9) rfl)) (fun _ h9 => h9) rfl dX7_build_70 ?_
            obtain ⟨hi73, h⟩ := zg_s h
            refine va_iast hx hb hK.1 hP hD hS 5 0 rfl rfl hi73 dX7_build_73 (fun H locs hP hD hS => ?_)
            have hP : va_P D vwCl (wdX7_build cy b b_box b_above b_below b_kind b_first b_second b_order b_merged b_table b_start b_builtFor b_box_ohms b_box_spread c_size_54 c_levels_54 c_levelsInOrder_47 c_builtFor_47 c_box_ohms c_table_54 (upd c_start_54 (v2_54).toNatClampNeg c_size_54) c_above_54 c_below_54 c_kind_54 c_first_54 c_second_54) H := hP
            have hD : va_D A (wdX7_build cy b b_box b_above b_below b_kind b_first b_second b_order b_merged b_table b_start b_builtFor b_box_ohms b_box_spread c_size_54 c_levels_54 c_levelsInOrder_47 c_builtFor_47 c_box_ohms c_table_54 (upd c_start_54 (v2_54).toNatClampNeg c_size_54) c_above_54 c_below_54 c_kind_54 c_first_54 c_second_54) := hD
            refine lv_iload_n hx hb dX7_build_74 rfl (lv_at hl 2 rfl) ?_
            refine lv_iconst (v := (1 : Int32)) hx hb dX7_build_75 (by decide) ?_
            have hJ83 : ∀ (c_size_83 : Int32) (c_table_83 c_above_83 c_below_83 c_kind_83 c_first_83 c_second_83 : Nat → Int32) (H : Heap) (locs : List Loc) (ls : Array Slot), va_P D vwCl (wdX7_build cy b b_box b_above b_below b_kind b_first b_second b_order b_merged b_table b_start b_builtFor b_box_ohms b_box_spread c_size_83 c_levels_54 c_levelsInOrder_47 c_builtFor_47 c_box_ohms c_table_83 (upd c_start_54 (v2_54).toNatClampNeg c_size_54) c_above_83 c_below_83 c_kind_83 c_first_83 c_second_83) H → va_D A (wdX7_build cy b b_box b_above b_below b_kind b_first b_second b_order b_merged b_table b_start b_builtFor b_box_ohms b_box_spread c_size_83 c_levels_54 c_levelsInOrder_47 c_builtFor_47 c_box_ohms c_table_83 (upd c_start_54 (v2_54).toNatClampNeg c_size_54) c_above_83 c_below_83 c_kind_83 c_first_83 c_second_83) → va_S A s.heap H locs → lv_has ls 4 [(0, .ref b), (1, .int p1), (2, .int v2_54)] → fX7_build_J83 v2_54 c_size_54 c_start_54 (fX7_build_L54 c_box_ohms p1 c_levelsInOrder_47 c_builtFor_47 n54) c_size_83 c_table_83 c_above_83 c_below_83 c_kind_83 c_first_83 c_second_83 = some res → W p l e rmX7_build s m args below meth c H locs 0 0 Q (F0 m 83 ls []) := by
              intro c_size_83 c_table_83 c_above_83 c_below_83 c_kind_83 c_first_83 c_second_83 H locs ls hP hD hS hl h
              refine lv_iconst (v := (1 : Int32)) hx hb dX7_build_83 (by decide) ?_
              refine lv_istore_n (lv' := [(3, .int (1 : Int32)), (0, .ref b), (1, .int p1), (2, .int v2_54)]) hx hb dX7_build_84 rfl hl (Nat.le_of_ble_eq_true rfl) rfl (fun ls hl => ?_)
              have hJ106 : ∀ (c_size_106 : Int32) (c_table_106 c_above_106 c_below_106 c_kind_106 c_first_106 c_second_106 : Nat → Int32) (H : Heap) (locs : List Loc) (ls : Array Slot), va_P D vwCl (wdX7_build cy b b_box b_above b_below b_kind b_first b_second b_order b_merged b_table b_start b_builtFor b_box_ohms b_box_spread c_size_106 c_levels_54 c_levelsInOrder_47 c_builtFor_47 c_box_ohms c_table_106 (upd c_start_54 (v2_54).toNatClampNeg c_size_54) c_above_106 c_below_106 c_kind_106 c_first_106 c_second_106) H → va_D A (wdX7_build cy b b_box b_above b_below b_kind b_first b_second b_order b_merged b_table b_start b_builtFor b_box_ohms b_box_spread c_size_106 c_levels_54 c_levelsInOrder_47 c_builtFor_47 c_box_ohms c_table_106 (upd c_start_54 (v2_54).toNatClampNeg c_size_54) c_above_106 c_below_106 c_kind_106 c_first_106 c_second_106) → va_S A s.heap H locs → lv_has ls 4 [(0, .ref b), (1, .int p1), (2, .int v2_54)] → fX7_build_J106 v2_54 c_size_54 c_start_54 (fX7_build_L54 c_box_ohms p1 c_levelsInOrder_47 c_builtFor_47 n54) c_size_106 c_table_106 c_above_106 c_below_106 c_kind_106 c_first_106 c_second_106 = some res → W p l e rmX7_build s m args below meth c H locs 0 0 Q (F0 m 106 ls []) := by
                intro c_size_106 c_table_106 c_above_106 c_below_106 c_kind_106 c_first_106 c_second_106 H locs ls hP hD hS hl h
                refine lv_aload_n hx hb dX7_build_106 rfl (lv_at hl 0 rfl) ?_
                refine va_get (D := D) (ci := 7) (v := .ref b_start) (C := RX7) (T := TX7) (N := 14) hx hb hts uX7_build_X7 hown hK.1 hP 0 rfl rfl 9 (by decide) (hts (.fieldLink RX7 36 "WishedResistor$Reached" "start" "[I") (List.mem_of_getElem? (i := 12) rfl)) (fun _ h9 => h9) rfl dX7_build_107 ?_
                refine lv_iload_n hx hb dX7_build_110 rfl (lv_at hl 2 rfl) ?_
                refine lv_iconst (v := (1 : Int32)) hx hb dX7_build_111 (by decide) ?_
                refine lv_iadd hx hb dX7_build_112 ?_
                refine lv_aload_n hx hb dX7_build_113 rfl (lv_at hl 0 rfl) ?_
                refine va_get (D := D) (ci := 7) (v := .int c_size_106) (C := RX7) (T := TX7) (N := 14) hx hb hts uX7_build_X7 hown hK.1 hP 0 rfl rfl 11 (by decide) (hts (.fieldLink RX7 67 "WishedResistor$Reached" "size" "I") (List.mem_of_getElem? (i := 9) rfl)) (fun _ h9 => h9) rfl dX7_build_114 ?_
                obtain ⟨hi117, h⟩ := zg_s h
                refine va_iast hx hb hK.1 hP hD hS 5 0 rfl rfl hi117 dX7_build_117 (fun H locs hP hD hS => ?_)
                have hP : va_P D vwCl (wdX7_build cy b b_box b_above b_below b_kind b_first b_second b_order b_merged b_table b_start b_builtFor b_box_ohms b_box_spread c_size_106 c_levels_54 c_levelsInOrder_47 c_builtFor_47 c_box_ohms c_table_106 (upd (upd c_start_54 (v2_54).toNatClampNeg c_size_54) ((v2_54 + (1 : Int32))).toNatClampNeg c_size_106) c_above_106 c_below_106 c_kind_106 c_first_106 c_second_106) H := hP
                have hD : va_D A (wdX7_build cy b b_box b_above b_below b_kind b_first b_second b_order b_merged b_table b_start b_builtFor b_box_ohms b_box_spread c_size_106 c_levels_54 c_levelsInOrder_47 c_builtFor_47 c_box_ohms c_table_106 (upd (upd c_start_54 (v2_54).toNatClampNeg c_size_54) ((v2_54 + (1 : Int32))).toNatClampNeg c_size_106) c_above_106 c_below_106 c_kind_106 c_first_106 c_second_106) := hD
                refine lv_aload_n hx hb dX7_build_118 rfl (lv_at hl 0 rfl) ?_
                refine lv_iload_n hx hb dX7_build_119 rfl (lv_at hl 2 rfl) ?_
                refine va_put (D := D) (ci := 7) (v := .int v2_54) (ty := .int) (C := RX7) (T := TX7) (N := 14) hx hb hts uX7_build_X7 tyX7 tyX7_ok nmX7 hown hK.1 hP hD hS 0 rfl rfl 12 (by decide) (hts (.fieldLink RX7 71 "WishedResistor$Reached" "levels" "I") (List.mem_of_getElem? (i := 10) rfl)) (fun _ h9 => h9) rfl (by decide +kernel) rfl rfl (Nat.le_of_ble_eq_true rfl) dX7_build_120 (fun H locs hP hD hS => ?_)
                have hP : va_P D vwCl (wdX7_build cy b b_box b_above b_below b_kind b_first b_second b_order b_merged b_table b_start b_builtFor b_box_ohms b_box_spread c_size_106 v2_54 c_levelsInOrder_47 c_builtFor_47 c_box_ohms c_table_106 (upd (upd c_start_54 (v2_54).toNatClampNeg c_size_54) ((v2_54 + (1 : Int32))).toNatClampNeg c_size_106) c_above_106 c_below_106 c_kind_106 c_first_106 c_second_106) H := hP
                have hD : va_D A (wdX7_build cy b b_box b_above b_below b_kind b_first b_second b_order b_merged b_table b_start b_builtFor b_box_ohms b_box_spread c_size_106 v2_54 c_levelsInOrder_47 c_builtFor_47 c_box_ohms c_table_106 (upd (upd c_start_54 (v2_54).toNatClampNeg c_size_54) ((v2_54 + (1 : Int32))).toNatClampNeg c_size_106) c_above_106 c_below_106 c_kind_106 c_first_106 c_second_106) := hD
                refine lv_iinc (v := (v2_54 + (1 : Int32))) (lv' := [(2, .int (v2_54 + (1 : Int32))), (0, .ref b), (1, .int p1)]) hx hb dX7_build_123 hl (k := 2) rfl (by rfl) (Nat.le_of_ble_eq_true rfl) rfl (fun ls hl => ?_)
                refine lv_goto (tgt := 54) hx hb dX7_build_126 (by decide) ?_
                exact ih54 (v2_54 + (1 : Int32)) c_size_106 v2_54 c_table_106 (upd (upd c_start_54 (v2_54).toNatClampNeg c_size_54) ((v2_54 + (1 : Int32))).toNatClampNeg c_size_106) c_above_106 c_below_106 c_kind_106 c_first_106 c_second_106 _ _ _ hP hD hS (lv_sub hl [1, 2, 0] rfl) h
              have hL85 : ∀ n85 : Nat, ∀ (v3_85 c_size_85 : Int32) (c_table_85 c_above_85 c_below_85 c_kind_85 c_first_85 c_second_85 : Nat → Int32) (H : Heap) (locs : List Loc) (ls : Array Slot), va_P D vwCl (wdX7_build cy b b_box b_above b_below b_kind b_first b_second b_order b_merged b_table b_start b_builtFor b_box_ohms b_box_spread c_size_85 c_levels_54 c_levelsInOrder_47 c_builtFor_47 c_box_ohms c_table_85 (upd c_start_54 (v2_54).toNatClampNeg c_size_54) c_above_85 c_below_85 c_kind_85 c_first_85 c_second_85) H → va_D A (wdX7_build cy b b_box b_above b_below b_kind b_first b_second b_order b_merged b_table b_start b_builtFor b_box_ohms b_box_spread c_size_85 c_levels_54 c_levelsInOrder_47 c_builtFor_47 c_box_ohms c_table_85 (upd c_start_54 (v2_54).toNatClampNeg c_size_54) c_above_85 c_below_85 c_kind_85 c_first_85 c_second_85) → va_S A s.heap H locs → lv_has ls 4 [(0, .ref b), (1, .int p1), (2, .int v2_54), (3, .int v3_85)] → fX7_build_L85 (fX7_build_J106 v2_54 c_size_54 c_start_54 (fX7_build_L54 c_box_ohms p1 c_levelsInOrder_47 c_builtFor_47 n54)) v2_54 c_size_54 c_start_54 n85 v3_85 c_size_85 c_table_85 c_above_85 c_below_85 c_kind_85 c_first_85 c_second_85 = some res → W p l e rmX7_build s m args below meth c H locs 0 0 Q (F0 m 85 ls []) := by
                intro n85
                induction n85 with
                | zero =>
                  intro v3_85 c_size_85 c_table_85 c_above_85 c_below_85 c_kind_85 c_first_85 c_second_85 H locs ls hP hD hS hl h
                  exact zl8_0 h
                | succ n85 ih85 =>
                  intro v3_85 c_size_85 c_table_85 c_above_85 c_below_85 c_kind_85 c_first_85 c_second_85 H locs ls hP hD hS hl h
                  replace h := zl8_s h
                  refine lv_iload_n hx hb dX7_build_85 rfl (lv_at hl 3 rfl) ?_
                  refine lv_iload_n hx hb dX7_build_86 rfl (lv_at hl 2 rfl) ?_
                  refine lv_iconst (v := (2 : Int32)) hx hb dX7_build_87 (by decide) ?_
                  refine lv_idiv hx hb dX7_build_88 (by decide) ?_
                  refine lv_icmp_gt (tgt := 106) hx hb dX7_build_89 (by decide) (fun hc89 => ?_) (fun hc89 => ?_)
                  · replace h := zi_t hc89 h
                    exact hJ106 c_size_85 c_table_85 c_above_85 c_below_85 c_kind_85 c_first_85 c_second_85 _ _ _ hP hD hS (lv_sub hl [0, 1, 2] rfl) h
                  · replace h := zi_f hc89 h
                    refine lv_aload_n hx hb dX7_build_92 rfl (lv_at hl 0 rfl) ?_
                    refine lv_iload_n hx hb dX7_build_93 rfl (lv_at hl 3 rfl) ?_
                    refine lv_iload_n hx hb dX7_build_94 rfl (lv_at hl 2 rfl) ?_
                    refine lv_iload_n hx hb dX7_build_95 rfl (lv_at hl 3 rfl) ?_
                    refine lv_isub hx hb dX7_build_96 ?_
                    obtain ⟨c_size_r97, c_above_r97, c_below_r97, c_table_r97, c_kind_r97, c_first_r97, c_second_r97, hq97, h⟩ := zb7_s h
                    refine zCv (w1 := (wdX7_addPairs cy b b_box b_above b_below b_kind b_first b_second b_order b_merged b_table b_start b_builtFor c_size_r97 c_levels_54 c_levelsInOrder_47 (upd c_start_54 (v2_54).toNatClampNeg c_size_54) c_above_r97 c_below_r97 c_table_r97 c_kind_r97 c_first_r97 c_second_r97)) (ws' := (wdX7_build cy b b_box b_above b_below b_kind b_first b_second b_order b_merged b_table b_start b_builtFor b_box_ohms b_box_spread c_size_r97 c_levels_54 c_levelsInOrder_47 c_builtFor_47 c_box_ohms c_table_r97 (upd c_start_54 (v2_54).toNatClampNeg c_size_54) c_above_r97 c_below_r97 c_kind_r97 c_first_r97 c_second_r97)) (va_runV (As := [.int v3_85, .int (v2_54 - v3_85)]) (rest := []) ⟨hx, hb, hml, hown, hts⟩ (mX7_addPairs l D cy H.size b b_box b_above b_below b_kind b_first b_second b_order b_merged b_table b_start b_builtFor c_size_85 c_levels_54 c_levelsInOrder_47 (upd c_start_54 (v2_54).toNatClampNeg c_size_54) c_above_85 c_below_85 c_table_85 c_kind_85 c_first_85 c_second_85 v3_85 (v2_54 - v3_85) (c_size_r97, c_above_r97, c_below_r97, c_table_r97, c_kind_r97, c_first_r97, c_second_r97) hq97) (cwV 2 hts gX7_build_X7_addPairs rfl rfl rfl ⟨rfl, cdX7_addPairs⟩ ⟨Nat.le_of_ble_eq_true rfl, Nat.le_of_ble_eq_true rfl⟩) (zPV hK hP hD [0, 5, 6, 7, 4, 8, 9, 10] rfl rfl (q0 := 0) (ci := 7) rfl rfl rfl) rfl rfl hl.1 rfl (lv_room (Nat.le_of_ble_eq_true rfl)) dX7_build_97 ⟨Nat.zero_le _, Nat.zero_le _⟩) hP hD hS hA [0, 5, 6, 7, 4, 8, 9, 10] [1, 2, 3] [3, 0, 1, 2, 7, 4, 5, 6, 8, 9, 10] rfl rfl rfl rfl (fun H locs hP hD hS => ?_)
                    refine lv_iinc (v := (v3_85 + (1 : Int32))) (lv' := [(3, .int (v3_85 + (1 : Int32))), (0, .ref b), (1, .int p1), (2, .int v2_54)]) hx hb dX7_build_100 hl (k := 3) rfl (by rfl) (Nat.le_of_ble_eq_true rfl) rfl (fun ls hl => ?_)
                    refine lv_goto (tgt := 85) hx hb dX7_build_103 (by decide) ?_
                    exact ih85 (v3_85 + (1 : Int32)) c_size_r97 c_table_r97 c_above_r97 c_below_r97 c_kind_r97 c_first_r97 c_second_r97 _ _ _ hP hD hS (lv_sub hl [1, 2, 3, 0] rfl) h
              exact hL85 5000 (1 : Int32) c_size_83 c_table_83 c_above_83 c_below_83 c_kind_83 c_first_83 c_second_83 _ _ _ hP hD hS (lv_sub hl [1, 2, 3, 0] rfl) h
            refine lv_icmp_ne (tgt := 83) hx hb dX7_build_76 (by decide) (fun hc76 => ?_) (fun hc76 => ?_)
            · replace h := zi_f hc76 h
              exact hJ83 c_size_54 c_table_54 c_above_54 c_below_54 c_kind_54 c_first_54 c_second_54 _ _ _ hP hD hS (lv_sub hl [0, 1, 2] rfl) h
            · replace h := zi_t hc76 h
              refine lv_aload_n hx hb dX7_build_79 rfl (lv_at hl 0 rfl) ?_
              obtain ⟨c_size_r80, c_table_r80, c_above_r80, c_below_r80, c_kind_r80, c_first_r80, c_second_r80, hq80, h⟩ := zb7_s h
              refine zCv (w1 := (wdX7_addParts cy b b_box b_above b_below b_kind b_first b_second b_order b_merged b_table b_start b_builtFor b_box_ohms b_box_spread c_size_r80 c_levels_54 c_levelsInOrder_47 c_box_ohms c_table_r80 c_above_r80 c_below_r80 c_kind_r80 c_first_r80 c_second_r80)) (ws' := (wdX7_build cy b b_box b_above b_below b_kind b_first b_second b_order b_merged b_table b_start b_builtFor b_box_ohms b_box_spread c_size_r80 c_levels_54 c_levelsInOrder_47 c_builtFor_47 c_box_ohms c_table_r80 (upd c_start_54 (v2_54).toNatClampNeg c_size_54) c_above_r80 c_below_r80 c_kind_r80 c_first_r80 c_second_r80)) (va_runV (As := []) (rest := []) ⟨hx, hb, hml, hown, hts⟩ (mX7_addParts l D cy H.size b b_box b_above b_below b_kind b_first b_second b_order b_merged b_table b_start b_builtFor b_box_ohms b_box_spread c_size_54 c_levels_54 c_levelsInOrder_47 c_box_ohms c_table_54 c_above_54 c_below_54 c_kind_54 c_first_54 c_second_54 (c_size_r80, c_table_r80, c_above_r80, c_below_r80, c_kind_r80, c_first_r80, c_second_r80) hq80) (cwV 0 hts gX7_build_X7_addParts rfl rfl rfl ⟨rfl, cdX7_addParts⟩ ⟨Nat.le_of_ble_eq_true rfl, Nat.le_of_ble_eq_true rfl⟩) (zPV hK hP hD [0, 2, 3, 4, 6, 7, 8, 9, 10] rfl rfl (q0 := 0) (ci := 7) rfl rfl rfl) rfl rfl hl.1 rfl (lv_room (Nat.le_of_ble_eq_true rfl)) dX7_build_80 ⟨Nat.zero_le _, Nat.zero_le _⟩) hP hD hS hA [0, 2, 3, 4, 6, 7, 8, 9, 10] [1, 5] [2, 0, 3, 4, 5, 1, 6, 7, 8, 9, 10] rfl rfl rfl rfl (fun H locs hP hD hS => ?_)
              exact hJ83 c_size_r80 c_table_r80 c_above_r80 c_below_r80 c_kind_r80 c_first_r80 c_second_r80 _ _ _ hP hD hS (lv_sub hl [0, 1, 2] rfl) h
    exact hL54 5000 (c_levels_47 + (1 : Int32)) c_size_47 c_levels_47 c_table_47 c_start c_above c_below c_kind c_first c_second _ _ _ hP hD hS (lv_sub hl [1, 2, 0] rfl) h
  refine lv_if_ne (tgt := 47) hx hb dX7_build_4 (by decide) (fun hc4 => ?_) (fun hc4 => ?_)
  · replace h := zi_f hc4 h
    exact hJ47 c_size c_levels c_levelsInOrder c_builtFor c_table _ _ _ hP hD hS (lv_sub hl [0, 1] rfl) h
  · replace h := zi_t hc4 h
    refine lv_aload_n hx hb dX7_build_7 rfl (lv_at hl 0 rfl) ?_
    refine va_get (D := D) (ci := 7) (v := .ref b_box) (C := RX7) (T := TX7) (N := 14) hx hb hts uX7_build_X7 hown hK.1 hP 0 rfl rfl 0 (by decide) (hts (.fieldLink RX7 42 "WishedResistor$Reached" "box" "LWishedResistor$Box;") (List.mem_of_getElem? (i := 1) rfl)) (fun _ h9 => h9) rfl dX7_build_8 ?_
    refine va_get (D := D) (ci := 0) (v := .ref b_box_ohms) (C := RX0) (T := TX0) (N := 2) hx hb hts uX7_build_X0 hown hK.1 hP 2 rfl rfl 0 (by decide) (hts (.fieldLink RX7 50 "WishedResistor$Box" "ohms" "[I") (List.mem_of_getElem? (i := 2) rfl)) (fun _ h9 => h9) rfl dX7_build_11 ?_
    refine lv_iconst (v := (0 : Int32)) hx hb dX7_build_14 (by decide) ?_
    refine lv_aload_n hx hb dX7_build_15 rfl (lv_at hl 0 rfl) ?_
    refine va_get (D := D) (ci := 7) (v := .ref b_builtFor) (C := RX7) (T := TX7) (N := 14) hx hb hts uX7_build_X7 hown hK.1 hP 0 rfl rfl 10 (by decide) (hts (.fieldLink RX7 39 "WishedResistor$Reached" "builtFor" "[I") (List.mem_of_getElem? (i := 3) rfl)) (fun _ h9 => h9) rfl dX7_build_16 ?_
    refine lv_iconst (v := (0 : Int32)) hx hb dX7_build_19 (by decide) ?_
    refine lv_iconst (v := (4 : Int32)) hx hb dX7_build_20 (by decide) ?_
    refine va_copyi hx hb (hml.trans hl.1.symm) hown (hts (.methodLink RX7 55 arraycopyName) (List.mem_of_getElem? (i := 4) rfl)) (hts (.native arraycopyName) (List.mem_of_getElem? (i := 5) rfl)) (hts (.static arraycopyName) (List.mem_of_getElem? (i := 6) rfl)) (hts (.initialized "java/lang/System") (List.mem_of_getElem? (i := 7) rfl)) hK.1 hP hD hS 3 1 0 0 rfl rfl rfl rfl rfl (by decide) (by decide) (by decide) (by decide) (by decide) (fun _ _ => rfl) (Nat.le_of_ble_eq_true rfl) (Nat.le_of_ble_eq_true rfl) dX7_build_21 (fun H locs hP hD hS => ?_)
    have hP : va_P D vwCl (wdX7_build cy b b_box b_above b_below b_kind b_first b_second b_order b_merged b_table b_start b_builtFor b_box_ohms b_box_spread c_size c_levels c_levelsInOrder (va_cpy c_box_ohms c_builtFor ((0 : Int32)).toNatClampNeg ((0 : Int32)).toNatClampNeg ((4 : Int32)).toNatClampNeg) c_box_ohms c_table c_start c_above c_below c_kind c_first c_second) H := hP
    have hD : va_D A (wdX7_build cy b b_box b_above b_below b_kind b_first b_second b_order b_merged b_table b_start b_builtFor b_box_ohms b_box_spread c_size c_levels c_levelsInOrder (va_cpy c_box_ohms c_builtFor ((0 : Int32)).toNatClampNeg ((0 : Int32)).toNatClampNeg ((4 : Int32)).toNatClampNeg) c_box_ohms c_table c_start c_above c_below c_kind c_first c_second) := hD
    refine lv_aload_n hx hb dX7_build_24 rfl (lv_at hl 0 rfl) ?_
    refine va_get (D := D) (ci := 7) (v := .ref b_table) (C := RX7) (T := TX7) (N := 14) hx hb hts uX7_build_X7 hown hK.1 hP 0 rfl rfl 8 (by decide) (hts (.fieldLink RX7 33 "WishedResistor$Reached" "table" "[I") (List.mem_of_getElem? (i := 8) rfl)) (fun _ h9 => h9) rfl dX7_build_25 ?_
    refine lv_iconst (v := (0 : Int32)) hx hb dX7_build_28 (by decide) ?_
    obtain ⟨c_table_r29, hq29, h⟩ := zb1_s h
    refine zCv (w1 := (wdJ7_fill_53178 cy b_table 4096 c_table_r29)) (ws' := (wdX7_build cy b b_box b_above b_below b_kind b_first b_second b_order b_merged b_table b_start b_builtFor b_box_ohms b_box_spread c_size c_levels c_levelsInOrder (va_cpy c_box_ohms c_builtFor ((0 : Int32)).toNatClampNeg ((0 : Int32)).toNatClampNeg ((4 : Int32)).toNatClampNeg) c_box_ohms c_table_r29 c_start c_above c_below c_kind c_first c_second)) (va_runS (As := [.ref b_table, .int (0 : Int32)]) (rest := []) ⟨hx, hb, hml, hown, hts⟩ (mJ7_fill_53178 l D cy H.size b_table 4096 c_table (0 : Int32) (c_table_r29) hq29) (va_cwS 2 hts gX7_build_J7_fill_53178 rfl rfl rfl cdJ7_fill_53178 ⟨Nat.le_of_ble_eq_true rfl, Nat.le_of_ble_eq_true rfl⟩) (zPS hK hP hD [4] rfl rfl) rfl rfl hl.1 rfl (lv_room (Nat.le_of_ble_eq_true rfl)) dX7_build_29 ⟨Nat.zero_le _, Nat.zero_le _⟩) hP hD hS hA [4] [0, 1, 2, 3, 5, 6, 7, 8, 9, 10] [0, 1, 2, 3, 10, 4, 5, 6, 7, 8, 9] rfl rfl rfl rfl (fun H locs hP hD hS => ?_)
    refine lv_aload_n hx hb dX7_build_32 rfl (lv_at hl 0 rfl) ?_
    refine lv_iconst (v := (0 : Int32)) hx hb dX7_build_33 (by decide) ?_
    refine va_put (D := D) (ci := 7) (v := .int (0 : Int32)) (ty := .int) (C := RX7) (T := TX7) (N := 14) hx hb hts uX7_build_X7 tyX7 tyX7_ok nmX7 hown hK.1 hP hD hS 0 rfl rfl 11 (by decide) (hts (.fieldLink RX7 67 "WishedResistor$Reached" "size" "I") (List.mem_of_getElem? (i := 9) rfl)) (fun _ h9 => h9) rfl (by decide +kernel) rfl rfl (Nat.le_of_ble_eq_true rfl) dX7_build_34 (fun H locs hP hD hS => ?_)
    have hP : va_P D vwCl (wdX7_build cy b b_box b_above b_below b_kind b_first b_second b_order b_merged b_table b_start b_builtFor b_box_ohms b_box_spread (0 : Int32) c_levels c_levelsInOrder (va_cpy c_box_ohms c_builtFor ((0 : Int32)).toNatClampNeg ((0 : Int32)).toNatClampNeg ((4 : Int32)).toNatClampNeg) c_box_ohms c_table_r29 c_start c_above c_below c_kind c_first c_second) H := hP
    have hD : va_D A (wdX7_build cy b b_box b_above b_below b_kind b_first b_second b_order b_merged b_table b_start b_builtFor b_box_ohms b_box_spread (0 : Int32) c_levels c_levelsInOrder (va_cpy c_box_ohms c_builtFor ((0 : Int32)).toNatClampNeg ((0 : Int32)).toNatClampNeg ((4 : Int32)).toNatClampNeg) c_box_ohms c_table_r29 c_start c_above c_below c_kind c_first c_second) := hD
    refine lv_aload_n hx hb dX7_build_37 rfl (lv_at hl 0 rfl) ?_
    refine lv_iconst (v := (0 : Int32)) hx hb dX7_build_38 (by decide) ?_
    refine va_put (D := D) (ci := 7) (v := .int (0 : Int32)) (ty := .int) (C := RX7) (T := TX7) (N := 14) hx hb hts uX7_build_X7 tyX7 tyX7_ok nmX7 hown hK.1 hP hD hS 0 rfl rfl 12 (by decide) (hts (.fieldLink RX7 71 "WishedResistor$Reached" "levels" "I") (List.mem_of_getElem? (i := 10) rfl)) (fun _ h9 => h9) rfl (by decide +kernel) rfl rfl (Nat.le_of_ble_eq_true rfl) dX7_build_39 (fun H locs hP hD hS => ?_)
    have hP : va_P D vwCl (wdX7_build cy b b_box b_above b_below b_kind b_first b_second b_order b_merged b_table b_start b_builtFor b_box_ohms b_box_spread (0 : Int32) (0 : Int32) c_levelsInOrder (va_cpy c_box_ohms c_builtFor ((0 : Int32)).toNatClampNeg ((0 : Int32)).toNatClampNeg ((4 : Int32)).toNatClampNeg) c_box_ohms c_table_r29 c_start c_above c_below c_kind c_first c_second) H := hP
    have hD : va_D A (wdX7_build cy b b_box b_above b_below b_kind b_first b_second b_order b_merged b_table b_start b_builtFor b_box_ohms b_box_spread (0 : Int32) (0 : Int32) c_levelsInOrder (va_cpy c_box_ohms c_builtFor ((0 : Int32)).toNatClampNeg ((0 : Int32)).toNatClampNeg ((4 : Int32)).toNatClampNeg) c_box_ohms c_table_r29 c_start c_above c_below c_kind c_first c_second) := hD
    refine lv_aload_n hx hb dX7_build_42 rfl (lv_at hl 0 rfl) ?_
    refine lv_iconst (v := (0 : Int32)) hx hb dX7_build_43 (by decide) ?_
    refine va_put (D := D) (ci := 7) (v := .int (0 : Int32)) (ty := .int) (C := RX7) (T := TX7) (N := 14) hx hb hts uX7_build_X7 tyX7 tyX7_ok nmX7 hown hK.1 hP hD hS 0 rfl rfl 13 (by decide) (hts (.fieldLink RX7 74 "WishedResistor$Reached" "levelsInOrder" "I") (List.mem_of_getElem? (i := 11) rfl)) (fun _ h9 => h9) rfl (by decide +kernel) rfl rfl (Nat.le_of_ble_eq_true rfl) dX7_build_44 (fun H locs hP hD hS => ?_)
    have hP : va_P D vwCl (wdX7_build cy b b_box b_above b_below b_kind b_first b_second b_order b_merged b_table b_start b_builtFor b_box_ohms b_box_spread (0 : Int32) (0 : Int32) (0 : Int32) (va_cpy c_box_ohms c_builtFor ((0 : Int32)).toNatClampNeg ((0 : Int32)).toNatClampNeg ((4 : Int32)).toNatClampNeg) c_box_ohms c_table_r29 c_start c_above c_below c_kind c_first c_second) H := hP
    have hD : va_D A (wdX7_build cy b b_box b_above b_below b_kind b_first b_second b_order b_merged b_table b_start b_builtFor b_box_ohms b_box_spread (0 : Int32) (0 : Int32) (0 : Int32) (va_cpy c_box_ohms c_builtFor ((0 : Int32)).toNatClampNeg ((0 : Int32)).toNatClampNeg ((4 : Int32)).toNatClampNeg) c_box_ohms c_table_r29 c_start c_above c_below c_kind c_first c_second) := hD
    exact hJ47 (0 : Int32) (0 : Int32) (0 : Int32) (va_cpy c_box_ohms c_builtFor ((0 : Int32)).toNatClampNeg ((0 : Int32)).toNatClampNeg ((4 : Int32)).toNatClampNeg) c_table_r29 _ _ _ hP hD hS (lv_sub hl [0, 1] rfl) h

theorem uX7_side_X7 : ∀ w ∈ u_ws RX7 TX7 14, w ∈ wsX7_side := fun w h => (List.mem_cons_of_mem _ (List.mem_append_right _ h))
abbrev wdX7_side (cy : Nat → ClassId) (b b_box b_above b_below b_kind b_first b_second b_order b_merged b_table b_start b_builtFor : Nat) (c_size c_levels c_levelsInOrder : Int32) (c_above c_below : Nat → Int32) : va_W := [(b, .inr (7, [.ref b_box, .ref b_above, .ref b_below, .ref b_kind, .ref b_first, .ref b_second, .ref b_order, .ref b_merged, .ref b_table, .ref b_start, .ref b_builtFor, .int c_size, .int c_levels, .int c_levelsInOrder])), (b_above, .inl (cy 0, 1884, .inl c_above)), (b_below, .inl (cy 0, 1884, .inl c_below))]
abbrev rmX7_side : Room := { frames := 0, cells := 0, slots := 0, locals := 0 }
theorem cdX7_side : (yX7_side).cls ≠ "java/lang/invoke/MethodHandle" ∧ (yX7_side).cls ≠ "java/lang/invoke/VarHandle" ∧ (parseMethodDescriptor (yX7_side).desc).map (fun d => d.parameters.length) = some 2 := by decide +kernel
def fX7_side (p1 p2 : Int32) (c_above c_below : Nat → Int32) : Option (Int32) :=
  if p2 = 0 then (zg (zin p1 1884) (some ((c_above (p1).toNatClampNeg)))) else (zg (zin p1 1884) (some ((c_below (p1).toNatClampNeg))))
set_option maxHeartbeats 4000000 in
set_option maxRecDepth 100000 in
theorem mX7_side (l : Launch) (D : va_G) (cy : Nat → ClassId) (sz : Nat) (b b_box b_above b_below b_kind b_first b_second b_order b_merged b_table b_start b_builtFor : Nat) (c_size c_levels c_levelsInOrder : Int32) (c_above c_below : Nat → Int32) (p1 p2 : Int32) (res : (Int32)) (h : fX7_side p1 p2 c_above c_below = some res) : zMi l yX7_side wsX7_side rmX7_side [.ref b, .int p1, .int p2] D cy (wdX7_side cy b b_box b_above b_below b_kind b_first b_second b_order b_merged b_table b_start b_builtFor c_size c_levels c_levelsInOrder c_above c_below) sz ((fun (o : (Int32)) => o) res) ((fun (o : (Int32)) => (wdX7_side cy b b_box b_above b_below b_kind b_first b_second b_order b_merged b_table b_start b_builtFor c_size c_levels c_levelsInOrder c_above c_below)) res) := by
  refine zOfi (res := res) (rf := (fun (o : (Int32)) => o)) (Wf := (fun (o : (Int32)) => (wdX7_side cy b b_box b_above b_below b_kind b_first b_second b_order b_merged b_table b_start b_builtFor c_size c_levels c_levelsInOrder c_above c_below))) (by decide +kernel) rfl (Nat.le_of_ble_eq_true rfl) ?_
  intro p e s m args below meth c A ls Q hx hb hml hts hown hP hK hD hA hS hl hret
  have hown : s.vm.findClass RX7 = some m.cls := hown
  have hl : lv_has ls 3 [(0, .ref b), (1, .int p1), (2, .int p2)] := hl
  refine lv_iload_n hx hb dX7_side_0 rfl (lv_at hl 2 rfl) ?_
  refine lv_if_ne (tgt := 13) hx hb dX7_side_1 (by decide) (fun hc1 => ?_) (fun hc1 => ?_)
  · replace h := zi_f hc1 h
    refine lv_aload_n hx hb dX7_side_13 rfl (lv_at hl 0 rfl) ?_
    refine va_get (D := D) (ci := 7) (v := .ref b_below) (C := RX7) (T := TX7) (N := 14) hx hb hts uX7_side_X7 hown hK.1 hP 0 rfl rfl 2 (by decide) (hts (.fieldLink RX7 15 "WishedResistor$Reached" "below" "[I") (List.mem_of_getElem? (i := 2) rfl)) (fun _ h9 => h9) rfl dX7_side_14 ?_
    refine lv_iload_n hx hb dX7_side_17 rfl (lv_at hl 1 rfl) ?_
    obtain ⟨hi18, h⟩ := zg_s h
    refine va_iald hx hb hK.1 hP 2 0 rfl rfl hi18 dX7_side_18 ?_
    exact hret (o := ((c_below (p1).toNatClampNeg))) h hP hD hS dX7_side_19
  · replace h := zi_t hc1 h
    refine lv_aload_n hx hb dX7_side_4 rfl (lv_at hl 0 rfl) ?_
    refine va_get (D := D) (ci := 7) (v := .ref b_above) (C := RX7) (T := TX7) (N := 14) hx hb hts uX7_side_X7 hown hK.1 hP 0 rfl rfl 1 (by decide) (hts (.fieldLink RX7 11 "WishedResistor$Reached" "above" "[I") (List.mem_of_getElem? (i := 1) rfl)) (fun _ h9 => h9) rfl dX7_side_5 ?_
    refine lv_iload_n hx hb dX7_side_8 rfl (lv_at hl 1 rfl) ?_
    obtain ⟨hi9, h⟩ := zg_s h
    refine va_iald hx hb hK.1 hP 1 0 rfl rfl hi9 dX7_side_9 ?_
    refine lv_goto (tgt := 19) hx hb dX7_side_10 (by decide) ?_
    exact hret (o := ((c_above (p1).toNatClampNeg))) h hP hD hS dX7_side_19

theorem uX7_partsOf_X7 : ∀ w ∈ u_ws RX7 TX7 14, w ∈ wsX7_partsOf := fun w h => (List.mem_cons_of_mem _ (List.mem_append_right _ h))
abbrev wdX7_partsOf (cy : Nat → ClassId) (b b_box b_above b_below b_kind b_first b_second b_order b_merged b_table b_start b_builtFor : Nat) (c_size c_levels c_levelsInOrder : Int32) (c_start : Nat → Int32) : va_W := [(b, .inr (7, [.ref b_box, .ref b_above, .ref b_below, .ref b_kind, .ref b_first, .ref b_second, .ref b_order, .ref b_merged, .ref b_table, .ref b_start, .ref b_builtFor, .int c_size, .int c_levels, .int c_levelsInOrder])), (b_start, .inl (cy 0, 6, .inl c_start))]
abbrev rmX7_partsOf : Room := { frames := 0, cells := 0, slots := 0, locals := 0 }
theorem cdX7_partsOf : (yX7_partsOf).cls ≠ "java/lang/invoke/MethodHandle" ∧ (yX7_partsOf).cls ≠ "java/lang/invoke/VarHandle" ∧ (parseMethodDescriptor (yX7_partsOf).desc).map (fun d => d.parameters.length) = some 1 := by decide +kernel
def fX7_partsOf_L2 (c_levels : Int32) (c_start : Nat → Int32) (p1 : Int32) : Nat → Int32 → Option (Int32) :=
  zl1 (fun rec2 v2_2 => if c_levels ≤ v2_2 then (some (c_levels)) else (zg (zin (v2_2 + (1 : Int32)) 6) (if (c_start ((v2_2 + (1 : Int32))).toNatClampNeg) ≤ p1 then (rec2 (v2_2 + (1 : Int32))) else (some (v2_2)))))
def fX7_partsOf (p1 c_levels : Int32) (c_start : Nat → Int32) : Option (Int32) :=
  fX7_partsOf_L2 c_levels c_start p1 5000 (1 : Int32)
set_option maxHeartbeats 4000000 in
set_option maxRecDepth 100000 in
theorem mX7_partsOf (l : Launch) (D : va_G) (cy : Nat → ClassId) (sz : Nat) (b b_box b_above b_below b_kind b_first b_second b_order b_merged b_table b_start b_builtFor : Nat) (c_size c_levels c_levelsInOrder : Int32) (c_start : Nat → Int32) (p1 : Int32) (res : (Int32)) (h : fX7_partsOf p1 c_levels c_start = some res) : zMi l yX7_partsOf wsX7_partsOf rmX7_partsOf [.ref b, .int p1] D cy (wdX7_partsOf cy b b_box b_above b_below b_kind b_first b_second b_order b_merged b_table b_start b_builtFor c_size c_levels c_levelsInOrder c_start) sz ((fun (o : (Int32)) => o) res) ((fun (o : (Int32)) => (wdX7_partsOf cy b b_box b_above b_below b_kind b_first b_second b_order b_merged b_table b_start b_builtFor c_size c_levels c_levelsInOrder c_start)) res) := by
  refine zOfi (res := res) (rf := (fun (o : (Int32)) => o)) (Wf := (fun (o : (Int32)) => (wdX7_partsOf cy b b_box b_above b_below b_kind b_first b_second b_order b_merged b_table b_start b_builtFor c_size c_levels c_levelsInOrder c_start))) (by decide +kernel) rfl (Nat.le_of_ble_eq_true rfl) ?_
  intro p e s m args below meth c A ls Q hx hb hml hts hown hP hK hD hA hS hl hret
  have hown : s.vm.findClass RX7 = some m.cls := hown
  have hl : lv_has ls 3 [(0, .ref b), (1, .int p1)] := hl
  refine lv_iconst (v := (1 : Int32)) hx hb dX7_partsOf_0 (by decide) ?_
  refine lv_istore_n (lv' := [(2, .int (1 : Int32)), (0, .ref b), (1, .int p1)]) hx hb dX7_partsOf_1 rfl hl (Nat.le_of_ble_eq_true rfl) rfl (fun ls hl => ?_)
  have hL2 : ∀ n2 : Nat, ∀ (v2_2 : Int32) (H : Heap) (locs : List Loc) (ls : Array Slot), va_P D vwCl (wdX7_partsOf cy b b_box b_above b_below b_kind b_first b_second b_order b_merged b_table b_start b_builtFor c_size c_levels c_levelsInOrder c_start) H → va_D A (wdX7_partsOf cy b b_box b_above b_below b_kind b_first b_second b_order b_merged b_table b_start b_builtFor c_size c_levels c_levelsInOrder c_start) → va_S A s.heap H locs → lv_has ls 3 [(0, .ref b), (1, .int p1), (2, .int v2_2)] → fX7_partsOf_L2 c_levels c_start p1 n2 v2_2 = some res → W p l e rmX7_partsOf s m args below meth c H locs 0 0 Q (F0 m 2 ls []) := by
    intro n2
    induction n2 with
    | zero =>
      intro v2_2 H locs ls hP hD hS hl h
      exact zl1_0 h
    | succ n2 ih2 =>
      intro v2_2 H locs ls hP hD hS hl h
      replace h := zl1_s h
      refine lv_iload_n hx hb dX7_partsOf_2 rfl (lv_at hl 2 rfl) ?_
      refine lv_aload_n hx hb dX7_partsOf_3 rfl (lv_at hl 0 rfl) ?_
      refine va_get (D := D) (ci := 7) (v := .int c_levels) (C := RX7) (T := TX7) (N := 14) hx hb hts uX7_partsOf_X7 hown hK.1 hP 0 rfl rfl 12 (by decide) (hts (.fieldLink RX7 71 "WishedResistor$Reached" "levels" "I") (List.mem_of_getElem? (i := 1) rfl)) (fun _ h9 => h9) rfl dX7_partsOf_4 ?_
      refine lv_icmp_ge (tgt := 30) hx hb dX7_partsOf_7 (by decide) (fun hc7 => ?_) (fun hc7 => ?_)
      · replace h := zi_t hc7 h
        refine lv_aload_n hx hb dX7_partsOf_30 rfl (lv_at hl 0 rfl) ?_
        refine va_get (D := D) (ci := 7) (v := .int c_levels) (C := RX7) (T := TX7) (N := 14) hx hb hts uX7_partsOf_X7 hown hK.1 hP 0 rfl rfl 12 (by decide) (hts (.fieldLink RX7 71 "WishedResistor$Reached" "levels" "I") (List.mem_of_getElem? (i := 1) rfl)) (fun _ h9 => h9) rfl dX7_partsOf_31 ?_
        exact hret (o := (c_levels)) h hP hD hS dX7_partsOf_34
      · replace h := zi_f hc7 h
        refine lv_iload_n hx hb dX7_partsOf_10 rfl (lv_at hl 1 rfl) ?_
        refine lv_aload_n hx hb dX7_partsOf_11 rfl (lv_at hl 0 rfl) ?_
        refine va_get (D := D) (ci := 7) (v := .ref b_start) (C := RX7) (T := TX7) (N := 14) hx hb hts uX7_partsOf_X7 hown hK.1 hP 0 rfl rfl 9 (by decide) (hts (.fieldLink RX7 36 "WishedResistor$Reached" "start" "[I") (List.mem_of_getElem? (i := 2) rfl)) (fun _ h9 => h9) rfl dX7_partsOf_12 ?_
        refine lv_iload_n hx hb dX7_partsOf_15 rfl (lv_at hl 2 rfl) ?_
        refine lv_iconst (v := (1 : Int32)) hx hb dX7_partsOf_16 (by decide) ?_
        refine lv_iadd hx hb dX7_partsOf_17 ?_
        obtain ⟨hi18, h⟩ := zg_s h
        refine va_iald hx hb hK.1 hP 1 0 rfl rfl hi18 dX7_partsOf_18 ?_
        refine lv_icmp_ge (tgt := 24) hx hb dX7_partsOf_19 (by decide) (fun hc19 => ?_) (fun hc19 => ?_)
        · replace h := zi_t hc19 h
          refine lv_iinc (v := (v2_2 + (1 : Int32))) (lv' := [(2, .int (v2_2 + (1 : Int32))), (0, .ref b), (1, .int p1)]) hx hb dX7_partsOf_24 hl (k := 2) rfl (by rfl) (Nat.le_of_ble_eq_true rfl) rfl (fun ls hl => ?_)
          refine lv_goto (tgt := 2) hx hb dX7_partsOf_27 (by decide) ?_
          exact ih2 (v2_2 + (1 : Int32)) _ _ _ hP hD hS (lv_sub hl [1, 2, 0] rfl) h
        · replace h := zi_f hc19 h
          refine lv_iload_n hx hb dX7_partsOf_22 rfl (lv_at hl 2 rfl) ?_
          exact hret (o := (v2_2)) h hP hD hS dX7_partsOf_23
  exact hL2 5000 (1 : Int32) _ _ _ hP hD hS (lv_sub hl [1, 2, 0] rfl) h

theorem uX7_indexOf_X7 : ∀ w ∈ u_ws RX7 TX7 14, w ∈ wsX7_indexOf := fun w h => (List.mem_cons_of_mem _ (List.mem_append_left _ (List.mem_append_right _ h)))
abbrev wdX7_indexOf (cy : Nat → ClassId) (b b_box b_above b_below b_kind b_first b_second b_order b_merged b_table b_start b_builtFor b_box_ohms b_box_spread : Nat) (c_size c_levels c_levelsInOrder : Int32) (c_builtFor c_box_ohms c_table c_start c_above c_below c_kind c_first c_second : Nat → Int32) : va_W := [(b, .inr (7, [.ref b_box, .ref b_above, .ref b_below, .ref b_kind, .ref b_first, .ref b_second, .ref b_order, .ref b_merged, .ref b_table, .ref b_start, .ref b_builtFor, .int c_size, .int c_levels, .int c_levelsInOrder])), (b_builtFor, .inl (cy 0, 4, .inl c_builtFor)), (b_box, .inr (0, [.ref b_box_ohms, .ref b_box_spread])), (b_box_ohms, .inl (cy 0, 4, .inl c_box_ohms)), (b_table, .inl (cy 0, 4096, .inl c_table)), (b_start, .inl (cy 0, 6, .inl c_start)), (b_above, .inl (cy 0, 1884, .inl c_above)), (b_below, .inl (cy 0, 1884, .inl c_below)), (b_kind, .inl (cy 0, 1884, .inl c_kind)), (b_first, .inl (cy 0, 1884, .inl c_first)), (b_second, .inl (cy 0, 1884, .inl c_second))]
abbrev rmX7_indexOf : Room := { frames := 4, cells := 0, slots := 0, locals := 111 }
theorem cdX7_indexOf : (yX7_indexOf).cls ≠ "java/lang/invoke/MethodHandle" ∧ (yX7_indexOf).cls ≠ "java/lang/invoke/VarHandle" ∧ (parseMethodDescriptor (yX7_indexOf).desc).map (fun d => d.parameters.length) = some 2 := by decide +kernel
def fX7_indexOf_L18 (c_box_ohms : Nat → Int32) (p1 p2 : Int32) (r4 : Int64) : Nat → Int32 → Int32 → Int32 → Int32 → (Nat → Int32) → (Nat → Int32) → (Nat → Int32) → (Nat → Int32) → (Nat → Int32) → (Nat → Int32) → (Nat → Int32) → (Nat → Int32) → Option (Int32 × Int32 × Int32 × Int32 × (Nat → Int32) × (Nat → Int32) × (Nat → Int32) × (Nat → Int32) × (Nat → Int32) × (Nat → Int32) × (Nat → Int32) × (Nat → Int32)) :=
  zl12 (fun rec18 v4_18 c_size_18 c_levels_18 c_levelsInOrder_18 c_builtFor_18 c_table_18 c_start_18 c_above_18 c_below_18 c_kind_18 c_first_18 c_second_18 => if (4 : Int32) < v4_18 then (some ((-1 : Int32), c_size_18, c_levels_18, c_levelsInOrder_18, c_builtFor_18, c_table_18, c_start_18, c_above_18, c_below_18, c_kind_18, c_first_18, c_second_18)) else (zb11 (fX7_build v4_18 c_size_18 c_levels_18 c_levelsInOrder_18 c_builtFor_18 c_box_ohms c_table_18 c_start_18 c_above_18 c_below_18 c_kind_18 c_first_18 c_second_18) (fun c_size_r27 c_levels_r27 c_levelsInOrder_r27 c_builtFor_r27 c_table_r27 c_start_r27 c_above_r27 c_below_r27 c_kind_r27 c_first_r27 c_second_r27 => zg (¬ ((r4).toInt32) = 0) (zg (¬ ((r4).toInt32) = 0) (zb1 (fX7_slotOf (p1 / ((r4).toInt32)) (p2 / ((r4).toInt32)) c_table_r27 c_above_r27 c_below_r27) (fun r41 => zg (zin r41 4096) (if (c_table_r27 (r41).toNatClampNeg) = 0 then (rec18 (v4_18 + (1 : Int32)) c_size_r27 c_levels_r27 c_levelsInOrder_r27 c_builtFor_r27 c_table_r27 c_start_r27 c_above_r27 c_below_r27 c_kind_r27 c_first_r27 c_second_r27) else (some (((c_table_r27 (r41).toNatClampNeg) - (1 : Int32)), c_size_r27, c_levels_r27, c_levelsInOrder_r27, c_builtFor_r27, c_table_r27, c_start_r27, c_above_r27, c_below_r27, c_kind_r27, c_first_r27, c_second_r27)))))))))
def fX7_indexOf (p1 p2 c_size c_levels c_levelsInOrder : Int32) (c_builtFor c_box_ohms c_table c_start c_above c_below c_kind c_first c_second : Nat → Int32) : Option (Int32 × Int32 × Int32 × Int32 × (Nat → Int32) × (Nat → Int32) × (Nat → Int32) × (Nat → Int32) × (Nat → Int32) × (Nat → Int32) × (Nat → Int32) × (Nat → Int32)) :=
  zb1 (fX10_greatestDivisor ((p1).toInt64) ((p2).toInt64)) (fun r4 => if ((r4).toInt32) = 0 then (some ((-1 : Int32), c_size, c_levels, c_levelsInOrder, c_builtFor, c_table, c_start, c_above, c_below, c_kind, c_first, c_second)) else (fX7_indexOf_L18 c_box_ohms p1 p2 r4 5000 (1 : Int32) c_size c_levels c_levelsInOrder c_builtFor c_table c_start c_above c_below c_kind c_first c_second))
set_option maxHeartbeats 4000000 in
set_option maxRecDepth 100000 in
theorem mX7_indexOf (l : Launch) (D : va_G) (cy : Nat → ClassId) (sz : Nat) (b b_box b_above b_below b_kind b_first b_second b_order b_merged b_table b_start b_builtFor b_box_ohms b_box_spread : Nat) (c_size c_levels c_levelsInOrder : Int32) (c_builtFor c_box_ohms c_table c_start c_above c_below c_kind c_first c_second : Nat → Int32) (p1 p2 : Int32) (res : (Int32 × Int32 × Int32 × Int32 × (Nat → Int32) × (Nat → Int32) × (Nat → Int32) × (Nat → Int32) × (Nat → Int32) × (Nat → Int32) × (Nat → Int32) × (Nat → Int32))) (h : fX7_indexOf p1 p2 c_size c_levels c_levelsInOrder c_builtFor c_box_ohms c_table c_start c_above c_below c_kind c_first c_second = some res) : zMi l yX7_indexOf wsX7_indexOf rmX7_indexOf [.ref b, .int p1, .int p2] D cy (wdX7_indexOf cy b b_box b_above b_below b_kind b_first b_second b_order b_merged b_table b_start b_builtFor b_box_ohms b_box_spread c_size c_levels c_levelsInOrder c_builtFor c_box_ohms c_table c_start c_above c_below c_kind c_first c_second) sz ((fun (o : (Int32 × Int32 × Int32 × Int32 × (Nat → Int32) × (Nat → Int32) × (Nat → Int32) × (Nat → Int32) × (Nat → Int32) × (Nat → Int32) × (Nat → Int32) × (Nat → Int32))) => o.1) res) ((fun (o : (Int32 × Int32 × Int32 × Int32 × (Nat → Int32) × (Nat → Int32) × (Nat → Int32) × (Nat → Int32) × (Nat → Int32) × (Nat → Int32) × (Nat → Int32) × (Nat → Int32))) => (wdX7_indexOf cy b b_box b_above b_below b_kind b_first b_second b_order b_merged b_table b_start b_builtFor b_box_ohms b_box_spread (o.2.1) (o.2.2.1) (o.2.2.2.1) (o.2.2.2.2.1) c_box_ohms (o.2.2.2.2.2.1) (o.2.2.2.2.2.2.1) (o.2.2.2.2.2.2.2.1) (o.2.2.2.2.2.2.2.2.1) (o.2.2.2.2.2.2.2.2.2.1) (o.2.2.2.2.2.2.2.2.2.2.1) (o.2.2.2.2.2.2.2.2.2.2.2))) res) := by
  refine zOfi (res := res) (rf := (fun (o : (Int32 × Int32 × Int32 × Int32 × (Nat → Int32) × (Nat → Int32) × (Nat → Int32) × (Nat → Int32) × (Nat → Int32) × (Nat → Int32) × (Nat → Int32) × (Nat → Int32))) => o.1)) (Wf := (fun (o : (Int32 × Int32 × Int32 × Int32 × (Nat → Int32) × (Nat → Int32) × (Nat → Int32) × (Nat → Int32) × (Nat → Int32) × (Nat → Int32) × (Nat → Int32) × (Nat → Int32))) => (wdX7_indexOf cy b b_box b_above b_below b_kind b_first b_second b_order b_merged b_table b_start b_builtFor b_box_ohms b_box_spread (o.2.1) (o.2.2.1) (o.2.2.2.1) (o.2.2.2.2.1) c_box_ohms (o.2.2.2.2.2.1) (o.2.2.2.2.2.2.1) (o.2.2.2.2.2.2.2.1) (o.2.2.2.2.2.2.2.2.1) (o.2.2.2.2.2.2.2.2.2.1) (o.2.2.2.2.2.2.2.2.2.2.1) (o.2.2.2.2.2.2.2.2.2.2.2)))) (by decide +kernel) rfl (Nat.le_of_ble_eq_true rfl) ?_
  intro p e s m args below meth c A ls Q hx hb hml hts hown hP hK hD hA hS hl hret
  have hown : s.vm.findClass RX7 = some m.cls := hown
  have hl : lv_has ls 6 [(0, .ref b), (1, .int p1), (2, .int p2)] := hl
  refine lv_iload_n hx hb dX7_indexOf_0 rfl (lv_at hl 1 rfl) ?_
  refine lv_i2l hx hb dX7_indexOf_1 rfl ?_
  refine lv_iload_n hx hb dX7_indexOf_2 rfl (lv_at hl 2 rfl) ?_
  refine lv_i2l hx hb dX7_indexOf_3 rfl ?_
  obtain ⟨r4, hq4, h⟩ := zb1_s h
  refine zCl0 (r0 := r4) (va_runSN (As := [.long ((p1).toInt64), .long ((p2).toInt64)]) (rest := []) ⟨hx, hb, hml, hown, hts⟩ (mX10_greatestDivisor l D cy s.heap.size ((p1).toInt64) ((p2).toInt64) (r4) hq4) ⟨va_cnB 2 hts gX7_indexOf_X10_greatestDivisor_n92 rfl rfl rfl (hK.2.at 15 rfl) (hts (.initialized RX10) (List.mem_of_getElem? (i := 3) rfl)) cdX10_greatestDivisor ⟨Nat.le_of_ble_eq_true rfl, Nat.le_of_ble_eq_true rfl⟩, (hts (.static yX10_greatestDivisor) (List.mem_of_getElem? (i := 2) rfl)), trivial⟩ (zPS hK hP hD [] rfl rfl) rfl rfl hl.1 rfl (lv_room (Nat.le_of_ble_eq_true rfl)) dX7_indexOf_4 ⟨Nat.zero_le _, Nat.zero_le _⟩) hP hD hS hA (fun H locs hP hD hS => ?_)
  refine lv_l2i hx hb dX7_indexOf_7 rfl ?_
  refine lv_istore_n (lv' := [(3, .int ((r4).toInt32)), (0, .ref b), (1, .int p1), (2, .int p2)]) hx hb dX7_indexOf_8 rfl hl (Nat.le_of_ble_eq_true rfl) rfl (fun ls hl => ?_)
  refine lv_iload_n hx hb dX7_indexOf_9 rfl (lv_at hl 0 rfl) ?_
  refine lv_if_ne (tgt := 15) hx hb dX7_indexOf_10 (by decide) (fun hc10 => ?_) (fun hc10 => ?_)
  · replace h := zi_f hc10 h
    refine lv_iconst (v := (1 : Int32)) hx hb dX7_indexOf_15 (by decide) ?_
    refine lv_istore (lv' := [(4, .int (1 : Int32)), (3, .int ((r4).toInt32)), (0, .ref b), (1, .int p1), (2, .int p2)]) hx hb dX7_indexOf_16 hl (Nat.le_of_ble_eq_true rfl) rfl (fun ls hl => ?_)
    have hL18 : ∀ n18 : Nat, ∀ (v4_18 c_size_18 c_levels_18 c_levelsInOrder_18 : Int32) (c_builtFor_18 c_table_18 c_start_18 c_above_18 c_below_18 c_kind_18 c_first_18 c_second_18 : Nat → Int32) (H : Heap) (locs : List Loc) (ls : Array Slot), va_P D vwCl (wdX7_indexOf cy b b_box b_above b_below b_kind b_first b_second b_order b_merged b_table b_start b_builtFor b_box_ohms b_box_spread c_size_18 c_levels_18 c_levelsInOrder_18 c_builtFor_18 c_box_ohms c_table_18 c_start_18 c_above_18 c_below_18 c_kind_18 c_first_18 c_second_18) H → va_D A (wdX7_indexOf cy b b_box b_above b_below b_kind b_first b_second b_order b_merged b_table b_start b_builtFor b_box_ohms b_box_spread c_size_18 c_levels_18 c_levelsInOrder_18 c_builtFor_18 c_box_ohms c_table_18 c_start_18 c_above_18 c_below_18 c_kind_18 c_first_18 c_second_18) → va_S A s.heap H locs → lv_has ls 6 [(0, .ref b), (1, .int p1), (2, .int p2), (3, .int ((r4).toInt32)), (4, .int v4_18)] → fX7_indexOf_L18 c_box_ohms p1 p2 r4 n18 v4_18 c_size_18 c_levels_18 c_levelsInOrder_18 c_builtFor_18 c_table_18 c_start_18 c_above_18 c_below_18 c_kind_18 c_first_18 c_second_18 = some res → W p l e rmX7_indexOf s m args below meth c H locs 0 0 Q (F0 m 18 ls []) := by
      intro n18
      induction n18 with
      | zero =>
        intro v4_18 c_size_18 c_levels_18 c_levelsInOrder_18 c_builtFor_18 c_table_18 c_start_18 c_above_18 c_below_18 c_kind_18 c_first_18 c_second_18 H locs ls hP hD hS hl h
        exact zl12_0 h
      | succ n18 ih18 =>
        intro v4_18 c_size_18 c_levels_18 c_levelsInOrder_18 c_builtFor_18 c_table_18 c_start_18 c_above_18 c_below_18 c_kind_18 c_first_18 c_second_18 H locs ls hP hD hS hl h
        replace h := zl12_s h
        refine lv_iload hx hb dX7_indexOf_18 (lv_at hl 4 rfl) ?_
        refine lv_iconst (v := (4 : Int32)) hx hb dX7_indexOf_20 (by decide) ?_
        refine lv_icmp_gt (tgt := 63) hx hb dX7_indexOf_21 (by decide) (fun hc21 => ?_) (fun hc21 => ?_)
        · replace h := zi_t hc21 h
          refine lv_iconst (v := (-1 : Int32)) hx hb dX7_indexOf_63 (by decide) ?_
          exact hret (o := ((-1 : Int32), c_size_18, c_levels_18, c_levelsInOrder_18, c_builtFor_18, c_table_18, c_start_18, c_above_18, c_below_18, c_kind_18, c_first_18, c_second_18)) h hP hD hS dX7_indexOf_64
        · replace h := zi_f hc21 h
          refine lv_aload_n hx hb dX7_indexOf_24 rfl (lv_at hl 0 rfl) ?_
          refine lv_iload hx hb dX7_indexOf_25 (lv_at hl 4 rfl) ?_
          obtain ⟨c_size_r27, c_levels_r27, c_levelsInOrder_r27, c_builtFor_r27, c_table_r27, c_start_r27, c_above_r27, c_below_r27, c_kind_r27, c_first_r27, c_second_r27, hq27, h⟩ := zb11_s h
          refine zCv (w1 := (wdX7_build cy b b_box b_above b_below b_kind b_first b_second b_order b_merged b_table b_start b_builtFor b_box_ohms b_box_spread c_size_r27 c_levels_r27 c_levelsInOrder_r27 c_builtFor_r27 c_box_ohms c_table_r27 c_start_r27 c_above_r27 c_below_r27 c_kind_r27 c_first_r27 c_second_r27)) (ws' := (wdX7_indexOf cy b b_box b_above b_below b_kind b_first b_second b_order b_merged b_table b_start b_builtFor b_box_ohms b_box_spread c_size_r27 c_levels_r27 c_levelsInOrder_r27 c_builtFor_r27 c_box_ohms c_table_r27 c_start_r27 c_above_r27 c_below_r27 c_kind_r27 c_first_r27 c_second_r27)) (va_runV (As := [.int v4_18]) (rest := []) ⟨hx, hb, hml, hown, hts⟩ (mX7_build l D cy H.size b b_box b_above b_below b_kind b_first b_second b_order b_merged b_table b_start b_builtFor b_box_ohms b_box_spread c_size_18 c_levels_18 c_levelsInOrder_18 c_builtFor_18 c_box_ohms c_table_18 c_start_18 c_above_18 c_below_18 c_kind_18 c_first_18 c_second_18 v4_18 (c_size_r27, c_levels_r27, c_levelsInOrder_r27, c_builtFor_r27, c_table_r27, c_start_r27, c_above_r27, c_below_r27, c_kind_r27, c_first_r27, c_second_r27) hq27) (cwV 1 hts gX7_indexOf_X7_build rfl rfl rfl ⟨rfl, cdX7_build⟩ ⟨Nat.le_of_ble_eq_true rfl, Nat.le_of_ble_eq_true rfl⟩) (zPV hK hP hD [0, 1, 2, 3, 4, 5, 6, 7, 8, 9, 10] rfl rfl (q0 := 0) (ci := 7) rfl rfl rfl) rfl rfl hl.1 rfl (lv_room (Nat.le_of_ble_eq_true rfl)) dX7_indexOf_27 ⟨Nat.zero_le _, Nat.zero_le _⟩) hP hD hS hA [0, 1, 2, 3, 4, 5, 6, 7, 8, 9, 10] [] [0, 1, 2, 3, 4, 5, 6, 7, 8, 9, 10] rfl rfl rfl rfl (fun H locs hP hD hS => ?_)
          refine lv_aload_n hx hb dX7_indexOf_30 rfl (lv_at hl 0 rfl) ?_
          refine va_get (D := D) (ci := 7) (v := .ref b_table) (C := RX7) (T := TX7) (N := 14) hx hb hts uX7_indexOf_X7 hown hK.1 hP 0 rfl rfl 8 (by decide) (hts (.fieldLink RX7 33 "WishedResistor$Reached" "table" "[I") (List.mem_of_getElem? (i := 1) rfl)) (fun _ h9 => h9) rfl dX7_indexOf_31 ?_
          refine lv_aload_n hx hb dX7_indexOf_34 rfl (lv_at hl 0 rfl) ?_
          refine lv_iload_n hx hb dX7_indexOf_35 rfl (lv_at hl 1 rfl) ?_
          refine lv_iload_n hx hb dX7_indexOf_36 rfl (lv_at hl 3 rfl) ?_
          obtain ⟨hz37, h⟩ := zg_s h
          refine lv_idiv hx hb dX7_indexOf_37 hz37 ?_
          refine lv_iload_n hx hb dX7_indexOf_38 rfl (lv_at hl 2 rfl) ?_
          refine lv_iload_n hx hb dX7_indexOf_39 rfl (lv_at hl 3 rfl) ?_
          obtain ⟨hz40, h⟩ := zg_s h
          refine lv_idiv hx hb dX7_indexOf_40 hz40 ?_
          obtain ⟨r41, hq41, h⟩ := zb1_s h
          refine zCi (r0 := r41) (w1 := (wdX7_slotOf cy b b_box b_above b_below b_kind b_first b_second b_order b_merged b_table b_start b_builtFor c_size_r27 c_levels_r27 c_levelsInOrder_r27 c_table_r27 c_above_r27 c_below_r27)) (ws' := (wdX7_indexOf cy b b_box b_above b_below b_kind b_first b_second b_order b_merged b_table b_start b_builtFor b_box_ohms b_box_spread c_size_r27 c_levels_r27 c_levelsInOrder_r27 c_builtFor_r27 c_box_ohms c_table_r27 c_start_r27 c_above_r27 c_below_r27 c_kind_r27 c_first_r27 c_second_r27)) (va_runV (As := [.int (p1 / ((r4).toInt32)), .int (p2 / ((r4).toInt32))]) (rest := [.ref b_table]) ⟨hx, hb, hml, hown, hts⟩ (mX7_slotOf l D cy H.size b b_box b_above b_below b_kind b_first b_second b_order b_merged b_table b_start b_builtFor c_size_r27 c_levels_r27 c_levelsInOrder_r27 c_table_r27 c_above_r27 c_below_r27 (p1 / ((r4).toInt32)) (p2 / ((r4).toInt32)) (r41) hq41) (cwV 2 hts gX7_indexOf_X7_slotOf rfl rfl rfl ⟨rfl, cdX7_slotOf⟩ ⟨Nat.le_of_ble_eq_true rfl, Nat.le_of_ble_eq_true rfl⟩) (zPV hK hP hD [0, 4, 6, 7] rfl rfl (q0 := 0) (ci := 7) rfl rfl rfl) rfl rfl hl.1 rfl (lv_room (Nat.le_of_ble_eq_true rfl)) dX7_indexOf_41 ⟨Nat.zero_le _, Nat.zero_le _⟩) hP hD hS hA [0, 4, 6, 7] [1, 2, 3, 5, 8, 9, 10] [7, 0, 1, 2, 8, 3, 9, 10, 4, 5, 6] rfl rfl rfl rfl (fun H locs hP hD hS => ?_)
          obtain ⟨hi44, h⟩ := zg_s h
          refine va_iald hx hb hK.1 hP 4 0 rfl rfl hi44 dX7_indexOf_44 ?_
          refine lv_istore (lv' := [(5, .int (c_table_r27 (r41).toNatClampNeg)), (0, .ref b), (1, .int p1), (2, .int p2), (3, .int ((r4).toInt32)), (4, .int v4_18)]) hx hb dX7_indexOf_45 hl (Nat.le_of_ble_eq_true rfl) rfl (fun ls hl => ?_)
          refine lv_iload hx hb dX7_indexOf_47 (lv_at hl 0 rfl) ?_
          refine lv_if_eq (tgt := 57) hx hb dX7_indexOf_49 (by decide) (fun hc49 => ?_) (fun hc49 => ?_)
          · replace h := zi_t hc49 h
            refine lv_iinc (v := (v4_18 + (1 : Int32))) (lv' := [(4, .int (v4_18 + (1 : Int32))), (5, .int (c_table_r27 (r41).toNatClampNeg)), (0, .ref b), (1, .int p1), (2, .int p2), (3, .int ((r4).toInt32))]) hx hb dX7_indexOf_57 hl (k := 5) rfl (by rfl) (Nat.le_of_ble_eq_true rfl) rfl (fun ls hl => ?_)
            refine lv_goto (tgt := 18) hx hb dX7_indexOf_60 (by decide) ?_
            exact ih18 (v4_18 + (1 : Int32)) c_size_r27 c_levels_r27 c_levelsInOrder_r27 c_builtFor_r27 c_table_r27 c_start_r27 c_above_r27 c_below_r27 c_kind_r27 c_first_r27 c_second_r27 _ _ _ hP hD hS (lv_sub hl [2, 3, 4, 5, 0] rfl) h
          · replace h := zi_f hc49 h
            refine lv_iload hx hb dX7_indexOf_52 (lv_at hl 0 rfl) ?_
            refine lv_iconst (v := (1 : Int32)) hx hb dX7_indexOf_54 (by decide) ?_
            refine lv_isub hx hb dX7_indexOf_55 ?_
            exact hret (o := (((c_table_r27 (r41).toNatClampNeg) - (1 : Int32)), c_size_r27, c_levels_r27, c_levelsInOrder_r27, c_builtFor_r27, c_table_r27, c_start_r27, c_above_r27, c_below_r27, c_kind_r27, c_first_r27, c_second_r27)) h hP hD hS dX7_indexOf_56
    exact hL18 5000 (1 : Int32) c_size c_levels c_levelsInOrder c_builtFor c_table c_start c_above c_below c_kind c_first c_second _ _ _ hP hD hS (lv_sub hl [2, 3, 4, 1, 0] rfl) h
  · replace h := zi_t hc10 h
    refine lv_iconst (v := (-1 : Int32)) hx hb dX7_indexOf_13 (by decide) ?_
    exact hret (o := ((-1 : Int32), c_size, c_levels, c_levelsInOrder, c_builtFor, c_table, c_start, c_above, c_below, c_kind, c_first, c_second)) h hP hD hS dX7_indexOf_14

theorem uX7_isLess_X7 : ∀ w ∈ u_ws RX7 TX7 14, w ∈ wsX7_isLess := fun w h => (List.mem_cons_of_mem _ (List.mem_append_right _ h))
abbrev wdX7_isLess (cy : Nat → ClassId) (b b_box b_above b_below b_kind b_first b_second b_order b_merged b_table b_start b_builtFor : Nat) (c_size c_levels c_levelsInOrder : Int32) (c_above c_below : Nat → Int32) : va_W := [(b, .inr (7, [.ref b_box, .ref b_above, .ref b_below, .ref b_kind, .ref b_first, .ref b_second, .ref b_order, .ref b_merged, .ref b_table, .ref b_start, .ref b_builtFor, .int c_size, .int c_levels, .int c_levelsInOrder])), (b_above, .inl (cy 0, 1884, .inl c_above)), (b_below, .inl (cy 0, 1884, .inl c_below))]
abbrev rmX7_isLess : Room := { frames := 0, cells := 0, slots := 0, locals := 0 }
theorem cdX7_isLess : (yX7_isLess).cls ≠ "java/lang/invoke/MethodHandle" ∧ (yX7_isLess).cls ≠ "java/lang/invoke/VarHandle" ∧ (parseMethodDescriptor (yX7_isLess).desc).map (fun d => d.parameters.length) = some 2 := by decide +kernel
def fX7_isLess (p1 p2 : Int32) (c_above c_below : Nat → Int32) : Option (Int32) :=
  zg (zin p1 1884) (zg (zin p2 1884) (zg (zin p2 1884) (zg (zin p1 1884) (if ((((c_above (p2).toNatClampNeg)).toInt64) * (((c_below (p1).toNatClampNeg)).toInt64)) ≤ ((((c_above (p1).toNatClampNeg)).toInt64) * (((c_below (p2).toNatClampNeg)).toInt64)) then (some ((0 : Int32))) else (some ((1 : Int32)))))))
set_option maxHeartbeats 4000000 in
set_option maxRecDepth 100000 in
theorem mX7_isLess (l : Launch) (D : va_G) (cy : Nat → ClassId) (sz : Nat) (b b_box b_above b_below b_kind b_first b_second b_order b_merged b_table b_start b_builtFor : Nat) (c_size c_levels c_levelsInOrder : Int32) (c_above c_below : Nat → Int32) (p1 p2 : Int32) (res : (Int32)) (h : fX7_isLess p1 p2 c_above c_below = some res) : zMz l yX7_isLess wsX7_isLess rmX7_isLess [.ref b, .int p1, .int p2] D cy (wdX7_isLess cy b b_box b_above b_below b_kind b_first b_second b_order b_merged b_table b_start b_builtFor c_size c_levels c_levelsInOrder c_above c_below) sz ((fun (o : (Int32)) => o) res) ((fun (o : (Int32)) => (wdX7_isLess cy b b_box b_above b_below b_kind b_first b_second b_order b_merged b_table b_start b_builtFor c_size c_levels c_levelsInOrder c_above c_below)) res) := by
  refine zOfz (res := res) (rf := (fun (o : (Int32)) => o)) (Wf := (fun (o : (Int32)) => (wdX7_isLess cy b b_box b_above b_below b_kind b_first b_second b_order b_merged b_table b_start b_builtFor c_size c_levels c_levelsInOrder c_above c_below))) (by decide +kernel) rfl (Nat.le_of_ble_eq_true rfl) ?_
  intro p e s m args below meth c A ls Q hx hb hml hts hown hP hK hD hA hS hl hret
  have hown : s.vm.findClass RX7 = some m.cls := hown
  have hl : lv_has ls 3 [(0, .ref b), (1, .int p1), (2, .int p2)] := hl
  refine lv_aload_n hx hb dX7_isLess_0 rfl (lv_at hl 0 rfl) ?_
  refine va_get (D := D) (ci := 7) (v := .ref b_above) (C := RX7) (T := TX7) (N := 14) hx hb hts uX7_isLess_X7 hown hK.1 hP 0 rfl rfl 1 (by decide) (hts (.fieldLink RX7 11 "WishedResistor$Reached" "above" "[I") (List.mem_of_getElem? (i := 1) rfl)) (fun _ h9 => h9) rfl dX7_isLess_1 ?_
  refine lv_iload_n hx hb dX7_isLess_4 rfl (lv_at hl 1 rfl) ?_
  obtain ⟨hi5, h⟩ := zg_s h
  refine va_iald hx hb hK.1 hP 1 0 rfl rfl hi5 dX7_isLess_5 ?_
  refine lv_i2l hx hb dX7_isLess_6 rfl ?_
  refine lv_aload_n hx hb dX7_isLess_7 rfl (lv_at hl 0 rfl) ?_
  refine va_get (D := D) (ci := 7) (v := .ref b_below) (C := RX7) (T := TX7) (N := 14) hx hb hts uX7_isLess_X7 hown hK.1 hP 0 rfl rfl 2 (by decide) (hts (.fieldLink RX7 15 "WishedResistor$Reached" "below" "[I") (List.mem_of_getElem? (i := 2) rfl)) (fun _ h9 => h9) rfl dX7_isLess_8 ?_
  refine lv_iload_n hx hb dX7_isLess_11 rfl (lv_at hl 2 rfl) ?_
  obtain ⟨hi12, h⟩ := zg_s h
  refine va_iald hx hb hK.1 hP 2 0 rfl rfl hi12 dX7_isLess_12 ?_
  refine lv_i2l hx hb dX7_isLess_13 rfl ?_
  refine lv_lmul hx hb dX7_isLess_14 ?_
  refine lv_aload_n hx hb dX7_isLess_15 rfl (lv_at hl 0 rfl) ?_
  refine va_get (D := D) (ci := 7) (v := .ref b_above) (C := RX7) (T := TX7) (N := 14) hx hb hts uX7_isLess_X7 hown hK.1 hP 0 rfl rfl 1 (by decide) (hts (.fieldLink RX7 11 "WishedResistor$Reached" "above" "[I") (List.mem_of_getElem? (i := 1) rfl)) (fun _ h9 => h9) rfl dX7_isLess_16 ?_
  refine lv_iload_n hx hb dX7_isLess_19 rfl (lv_at hl 2 rfl) ?_
  obtain ⟨hi20, h⟩ := zg_s h
  refine va_iald hx hb hK.1 hP 1 0 rfl rfl hi20 dX7_isLess_20 ?_
  refine lv_i2l hx hb dX7_isLess_21 rfl ?_
  refine lv_aload_n hx hb dX7_isLess_22 rfl (lv_at hl 0 rfl) ?_
  refine va_get (D := D) (ci := 7) (v := .ref b_below) (C := RX7) (T := TX7) (N := 14) hx hb hts uX7_isLess_X7 hown hK.1 hP 0 rfl rfl 2 (by decide) (hts (.fieldLink RX7 15 "WishedResistor$Reached" "below" "[I") (List.mem_of_getElem? (i := 2) rfl)) (fun _ h9 => h9) rfl dX7_isLess_23 ?_
  refine lv_iload_n hx hb dX7_isLess_26 rfl (lv_at hl 1 rfl) ?_
  obtain ⟨hi27, h⟩ := zg_s h
  refine va_iald hx hb hK.1 hP 2 0 rfl rfl hi27 dX7_isLess_27 ?_
  refine lv_i2l hx hb dX7_isLess_28 rfl ?_
  refine lv_lmul hx hb dX7_isLess_29 ?_
  refine W.lcmp hx hb dX7_isLess_30 ?_
  refine lv_if_ge (tgt := 38) hx hb dX7_isLess_31 (by decide) (fun hc31 => ?_) (fun hc31 => ?_)
  · replace hc31 := (zc_ge _ _).mp hc31
    replace h := zi_t hc31 h
    refine lv_iconst (v := (0 : Int32)) hx hb dX7_isLess_38 (by decide) ?_
    exact hret (o := ((0 : Int32))) h (show narrow .boolean (.int (0 : Int32)) = .int (0 : Int32) from by decide) hP hD hS dX7_isLess_39
  · replace hc31 := fun q => hc31 ((zc_ge _ _).mpr q)
    replace h := zi_f hc31 h
    refine lv_iconst (v := (1 : Int32)) hx hb dX7_isLess_34 (by decide) ?_
    refine lv_goto (tgt := 39) hx hb dX7_isLess_35 (by decide) ?_
    exact hret (o := ((1 : Int32))) h (show narrow .boolean (.int (1 : Int32)) = .int (1 : Int32) from by decide) hP hD hS dX7_isLess_39

theorem uX7_merge_X7 : ∀ w ∈ u_ws RX7 TX7 14, w ∈ wsX7_merge := fun w h => (List.mem_cons_of_mem _ (List.mem_append_right _ h))
abbrev wdX7_merge (cy : Nat → ClassId) (b b_box b_above b_below b_kind b_first b_second b_order b_merged b_table b_start b_builtFor : Nat) (c_size c_levels c_levelsInOrder : Int32) (c_order c_above c_below c_merged : Nat → Int32) : va_W := [(b, .inr (7, [.ref b_box, .ref b_above, .ref b_below, .ref b_kind, .ref b_first, .ref b_second, .ref b_order, .ref b_merged, .ref b_table, .ref b_start, .ref b_builtFor, .int c_size, .int c_levels, .int c_levelsInOrder])), (b_order, .inl (cy 0, 1884, .inl c_order)), (b_above, .inl (cy 0, 1884, .inl c_above)), (b_below, .inl (cy 0, 1884, .inl c_below)), (b_merged, .inl (cy 0, 1884, .inl c_merged))]
abbrev rmX7_merge : Room := { frames := 1, cells := 0, slots := 0, locals := 22 }
theorem cdX7_merge : (yX7_merge).cls ≠ "java/lang/invoke/MethodHandle" ∧ (yX7_merge).cls ≠ "java/lang/invoke/VarHandle" ∧ (parseMethodDescriptor (yX7_merge).desc).map (fun d => d.parameters.length) = some 3 := by decide +kernel
def fX7_merge_J48 (c_order : Nat → Int32) (v4_9 v5_9 v6_9 : Int32) (c_merged_9 : Nat → Int32) (rec9 : Int32 → Int32 → Int32 → (Nat → Int32) → Option ((Nat → Int32)))  : Option ((Nat → Int32)) :=
  zg (zin v4_9 1884) (zg (zin v6_9 1884) (rec9 (v4_9 + (1 : Int32)) v5_9 (v6_9 + (1 : Int32)) (upd c_merged_9 (v6_9).toNatClampNeg (c_order (v4_9).toNatClampNeg))))
def fX7_merge_J68 (c_order : Nat → Int32) (v4_9 v5_9 v6_9 : Int32) (c_merged_9 : Nat → Int32) (rec9 : Int32 → Int32 → Int32 → (Nat → Int32) → Option ((Nat → Int32)))  : Option ((Nat → Int32)) :=
  zg (zin v5_9 1884) (zg (zin v6_9 1884) (rec9 v4_9 (v5_9 + (1 : Int32)) (v6_9 + (1 : Int32)) (upd c_merged_9 (v6_9).toNatClampNeg (c_order (v5_9).toNatClampNeg))))
def fX7_merge_L9 (c_order c_above c_below : Nat → Int32) (p2 p3 : Int32) : Nat → Int32 → Int32 → Int32 → (Nat → Int32) → Option ((Nat → Int32)) :=
  zl4 (fun rec9 v4_9 v5_9 v6_9 c_merged_9 => if p3 ≤ v6_9 then (some (c_merged_9)) else (if p3 ≤ v5_9 then (fX7_merge_J48 c_order v4_9 v5_9 v6_9 c_merged_9 rec9) else (if p2 ≤ v4_9 then (fX7_merge_J68 c_order v4_9 v5_9 v6_9 c_merged_9 rec9) else (zg (zin v4_9 1884) (zg (zin v5_9 1884) (zb1 (fX7_isLess (c_order (v4_9).toNatClampNeg) (c_order (v5_9).toNatClampNeg) c_above c_below) (fun r42 => if r42 = 0 then (fX7_merge_J68 c_order v4_9 v5_9 v6_9 c_merged_9 rec9) else (fX7_merge_J48 c_order v4_9 v5_9 v6_9 c_merged_9 rec9))))))))
def fX7_merge (p1 p2 p3 : Int32) (c_order c_above c_below c_merged : Nat → Int32) : Option ((Nat → Int32)) :=
  fX7_merge_L9 c_order c_above c_below p2 p3 5000 p1 p2 p1 c_merged
set_option maxHeartbeats 4000000 in
set_option maxRecDepth 100000 in
theorem mX7_merge (l : Launch) (D : va_G) (cy : Nat → ClassId) (sz : Nat) (b b_box b_above b_below b_kind b_first b_second b_order b_merged b_table b_start b_builtFor : Nat) (c_size c_levels c_levelsInOrder : Int32) (c_order c_above c_below c_merged : Nat → Int32) (p1 p2 p3 : Int32) (res : ((Nat → Int32))) (h : fX7_merge p1 p2 p3 c_order c_above c_below c_merged = some res) : zMv l yX7_merge wsX7_merge rmX7_merge [.ref b, .int p1, .int p2, .int p3] D cy (wdX7_merge cy b b_box b_above b_below b_kind b_first b_second b_order b_merged b_table b_start b_builtFor c_size c_levels c_levelsInOrder c_order c_above c_below c_merged) sz  ((fun (o : ((Nat → Int32))) => (wdX7_merge cy b b_box b_above b_below b_kind b_first b_second b_order b_merged b_table b_start b_builtFor c_size c_levels c_levelsInOrder c_order c_above c_below (o))) res) := by
  refine zOfv (res := res) (Wf := (fun (o : ((Nat → Int32))) => (wdX7_merge cy b b_box b_above b_below b_kind b_first b_second b_order b_merged b_table b_start b_builtFor c_size c_levels c_levelsInOrder c_order c_above c_below (o)))) (by decide +kernel) rfl (Nat.le_of_ble_eq_true rfl) ?_
  intro p e s m args below meth c A ls Q hx hb hml hts hown hP hK hD hA hS hl hret
  have hown : s.vm.findClass RX7 = some m.cls := hown
  have hl : lv_has ls 7 [(0, .ref b), (1, .int p1), (2, .int p2), (3, .int p3)] := hl
  refine lv_iload_n hx hb dX7_merge_0 rfl (lv_at hl 1 rfl) ?_
  refine lv_istore (lv' := [(4, .int p1), (0, .ref b), (1, .int p1), (2, .int p2), (3, .int p3)]) hx hb dX7_merge_1 hl (Nat.le_of_ble_eq_true rfl) rfl (fun ls hl => ?_)
  refine lv_iload_n hx hb dX7_merge_3 rfl (lv_at hl 3 rfl) ?_
  refine lv_istore (lv' := [(5, .int p2), (4, .int p1), (0, .ref b), (1, .int p1), (2, .int p2), (3, .int p3)]) hx hb dX7_merge_4 hl (Nat.le_of_ble_eq_true rfl) rfl (fun ls hl => ?_)
  refine lv_iload_n hx hb dX7_merge_6 rfl (lv_at hl 3 rfl) ?_
  refine lv_istore (lv' := [(6, .int p1), (5, .int p2), (4, .int p1), (0, .ref b), (1, .int p1), (2, .int p2), (3, .int p3)]) hx hb dX7_merge_7 hl (Nat.le_of_ble_eq_true rfl) rfl (fun ls hl => ?_)
  have hL9 : ∀ n9 : Nat, ∀ (v4_9 v5_9 v6_9 : Int32) (c_merged_9 : Nat → Int32) (H : Heap) (locs : List Loc) (ls : Array Slot), va_P D vwCl (wdX7_merge cy b b_box b_above b_below b_kind b_first b_second b_order b_merged b_table b_start b_builtFor c_size c_levels c_levelsInOrder c_order c_above c_below c_merged_9) H → va_D A (wdX7_merge cy b b_box b_above b_below b_kind b_first b_second b_order b_merged b_table b_start b_builtFor c_size c_levels c_levelsInOrder c_order c_above c_below c_merged_9) → va_S A s.heap H locs → lv_has ls 7 [(0, .ref b), (2, .int p2), (3, .int p3), (4, .int v4_9), (5, .int v5_9), (6, .int v6_9)] → fX7_merge_L9 c_order c_above c_below p2 p3 n9 v4_9 v5_9 v6_9 c_merged_9 = some res → W p l e rmX7_merge s m args below meth c H locs 0 0 Q (F0 m 9 ls []) := by
    intro n9
    induction n9 with
    | zero =>
      intro v4_9 v5_9 v6_9 c_merged_9 H locs ls hP hD hS hl h
      exact zl4_0 h
    | succ n9 ih9 =>
      intro v4_9 v5_9 v6_9 c_merged_9 H locs ls hP hD hS hl h
      replace h := zl4_s h
      refine lv_iload hx hb dX7_merge_9 (lv_at hl 5 rfl) ?_
      refine lv_iload_n hx hb dX7_merge_11 rfl (lv_at hl 2 rfl) ?_
      refine lv_icmp_ge (tgt := 91) hx hb dX7_merge_12 (by decide) (fun hc12 => ?_) (fun hc12 => ?_)
      · replace h := zi_t hc12 h
        exact hret (o := (c_merged_9)) h hP hD hS dX7_merge_91
      · replace h := zi_f hc12 h
        refine lv_iload hx hb dX7_merge_15 (lv_at hl 4 rfl) ?_
        refine lv_iload_n hx hb dX7_merge_17 rfl (lv_at hl 2 rfl) ?_
        have hJ48 : ∀  (H : Heap) (locs : List Loc) (ls : Array Slot), va_P D vwCl (wdX7_merge cy b b_box b_above b_below b_kind b_first b_second b_order b_merged b_table b_start b_builtFor c_size c_levels c_levelsInOrder c_order c_above c_below c_merged_9) H → va_D A (wdX7_merge cy b b_box b_above b_below b_kind b_first b_second b_order b_merged b_table b_start b_builtFor c_size c_levels c_levelsInOrder c_order c_above c_below c_merged_9) → va_S A s.heap H locs → lv_has ls 7 [(0, .ref b), (2, .int p2), (3, .int p3), (4, .int v4_9), (5, .int v5_9), (6, .int v6_9)] → fX7_merge_J48 c_order v4_9 v5_9 v6_9 c_merged_9 (fX7_merge_L9 c_order c_above c_below p2 p3 n9) = some res → W p l e rmX7_merge s m args below meth c H locs 0 0 Q (F0 m 48 ls []) := by
          intro  H locs ls hP hD hS hl h
          refine lv_aload_n hx hb dX7_merge_48 rfl (lv_at hl 0 rfl) ?_
          refine va_get (D := D) (ci := 7) (v := .ref b_merged) (C := RX7) (T := TX7) (N := 14) hx hb hts uX7_merge_X7 hown hK.1 hP 0 rfl rfl 7 (by decide) (hts (.fieldLink RX7 30 "WishedResistor$Reached" "merged" "[I") (List.mem_of_getElem? (i := 2) rfl)) (fun _ h9 => h9) rfl dX7_merge_49 ?_
          refine lv_iload hx hb dX7_merge_52 (lv_at hl 5 rfl) ?_
          refine lv_aload_n hx hb dX7_merge_54 rfl (lv_at hl 0 rfl) ?_
          refine va_get (D := D) (ci := 7) (v := .ref b_order) (C := RX7) (T := TX7) (N := 14) hx hb hts uX7_merge_X7 hown hK.1 hP 0 rfl rfl 6 (by decide) (hts (.fieldLink RX7 27 "WishedResistor$Reached" "order" "[I") (List.mem_of_getElem? (i := 1) rfl)) (fun _ h9 => h9) rfl dX7_merge_55 ?_
          refine lv_iload hx hb dX7_merge_58 (lv_at hl 3 rfl) ?_
          obtain ⟨hi60, h⟩ := zg_s h
          refine va_iald hx hb hK.1 hP 1 0 rfl rfl hi60 dX7_merge_60 ?_
          obtain ⟨hi61, h⟩ := zg_s h
          refine va_iast hx hb hK.1 hP hD hS 4 0 rfl rfl hi61 dX7_merge_61 (fun H locs hP hD hS => ?_)
          have hP : va_P D vwCl (wdX7_merge cy b b_box b_above b_below b_kind b_first b_second b_order b_merged b_table b_start b_builtFor c_size c_levels c_levelsInOrder c_order c_above c_below (upd c_merged_9 (v6_9).toNatClampNeg (c_order (v4_9).toNatClampNeg))) H := hP
          have hD : va_D A (wdX7_merge cy b b_box b_above b_below b_kind b_first b_second b_order b_merged b_table b_start b_builtFor c_size c_levels c_levelsInOrder c_order c_above c_below (upd c_merged_9 (v6_9).toNatClampNeg (c_order (v4_9).toNatClampNeg))) := hD
          refine lv_iinc (v := (v4_9 + (1 : Int32))) (lv' := [(4, .int (v4_9 + (1 : Int32))), (0, .ref b), (2, .int p2), (3, .int p3), (5, .int v5_9), (6, .int v6_9)]) hx hb dX7_merge_62 hl (k := 3) rfl (by rfl) (Nat.le_of_ble_eq_true rfl) rfl (fun ls hl => ?_)
          refine lv_goto (tgt := 85) hx hb dX7_merge_65 (by decide) ?_
          refine lv_iinc (v := (v6_9 + (1 : Int32))) (lv' := [(6, .int (v6_9 + (1 : Int32))), (4, .int (v4_9 + (1 : Int32))), (0, .ref b), (2, .int p2), (3, .int p3), (5, .int v5_9)]) hx hb dX7_merge_85 hl (k := 5) rfl (by rfl) (Nat.le_of_ble_eq_true rfl) rfl (fun ls hl => ?_)
          refine lv_goto (tgt := 9) hx hb dX7_merge_88 (by decide) ?_
          exact ih9 (v4_9 + (1 : Int32)) v5_9 (v6_9 + (1 : Int32)) (upd c_merged_9 (v6_9).toNatClampNeg (c_order (v4_9).toNatClampNeg)) _ _ _ hP hD hS (lv_sub hl [2, 3, 4, 1, 5, 0] rfl) h
        refine lv_icmp_ge (tgt := 48) hx hb dX7_merge_18 (by decide) (fun hc18 => ?_) (fun hc18 => ?_)
        · replace h := zi_t hc18 h
          exact hJ48 _ _ _ hP hD hS (lv_sub hl [0, 1, 2, 3, 4, 5] rfl) h
        · replace h := zi_f hc18 h
          refine lv_iload hx hb dX7_merge_21 (lv_at hl 3 rfl) ?_
          refine lv_iload_n hx hb dX7_merge_23 rfl (lv_at hl 1 rfl) ?_
          have hJ68 : ∀  (H : Heap) (locs : List Loc) (ls : Array Slot), va_P D vwCl (wdX7_merge cy b b_box b_above b_below b_kind b_first b_second b_order b_merged b_table b_start b_builtFor c_size c_levels c_levelsInOrder c_order c_above c_below c_merged_9) H → va_D A (wdX7_merge cy b b_box b_above b_below b_kind b_first b_second b_order b_merged b_table b_start b_builtFor c_size c_levels c_levelsInOrder c_order c_above c_below c_merged_9) → va_S A s.heap H locs → lv_has ls 7 [(0, .ref b), (2, .int p2), (3, .int p3), (4, .int v4_9), (5, .int v5_9), (6, .int v6_9)] → fX7_merge_J68 c_order v4_9 v5_9 v6_9 c_merged_9 (fX7_merge_L9 c_order c_above c_below p2 p3 n9) = some res → W p l e rmX7_merge s m args below meth c H locs 0 0 Q (F0 m 68 ls []) := by
            intro  H locs ls hP hD hS hl h
            refine lv_aload_n hx hb dX7_merge_68 rfl (lv_at hl 0 rfl) ?_
            refine va_get (D := D) (ci := 7) (v := .ref b_merged) (C := RX7) (T := TX7) (N := 14) hx hb hts uX7_merge_X7 hown hK.1 hP 0 rfl rfl 7 (by decide) (hts (.fieldLink RX7 30 "WishedResistor$Reached" "merged" "[I") (List.mem_of_getElem? (i := 2) rfl)) (fun _ h9 => h9) rfl dX7_merge_69 ?_
            refine lv_iload hx hb dX7_merge_72 (lv_at hl 5 rfl) ?_
            refine lv_aload_n hx hb dX7_merge_74 rfl (lv_at hl 0 rfl) ?_
            refine va_get (D := D) (ci := 7) (v := .ref b_order) (C := RX7) (T := TX7) (N := 14) hx hb hts uX7_merge_X7 hown hK.1 hP 0 rfl rfl 6 (by decide) (hts (.fieldLink RX7 27 "WishedResistor$Reached" "order" "[I") (List.mem_of_getElem? (i := 1) rfl)) (fun _ h9 => h9) rfl dX7_merge_75 ?_
            refine lv_iload hx hb dX7_merge_78 (lv_at hl 4 rfl) ?_
            obtain ⟨hi80, h⟩ := zg_s h
            refine va_iald hx hb hK.1 hP 1 0 rfl rfl hi80 dX7_merge_80 ?_
            obtain ⟨hi81, h⟩ := zg_s h
            refine va_iast hx hb hK.1 hP hD hS 4 0 rfl rfl hi81 dX7_merge_81 (fun H locs hP hD hS => ?_)
            have hP : va_P D vwCl (wdX7_merge cy b b_box b_above b_below b_kind b_first b_second b_order b_merged b_table b_start b_builtFor c_size c_levels c_levelsInOrder c_order c_above c_below (upd c_merged_9 (v6_9).toNatClampNeg (c_order (v5_9).toNatClampNeg))) H := hP
            have hD : va_D A (wdX7_merge cy b b_box b_above b_below b_kind b_first b_second b_order b_merged b_table b_start b_builtFor c_size c_levels c_levelsInOrder c_order c_above c_below (upd c_merged_9 (v6_9).toNatClampNeg (c_order (v5_9).toNatClampNeg))) := hD
            refine lv_iinc (v := (v5_9 + (1 : Int32))) (lv' := [(5, .int (v5_9 + (1 : Int32))), (0, .ref b), (2, .int p2), (3, .int p3), (4, .int v4_9), (6, .int v6_9)]) hx hb dX7_merge_82 hl (k := 4) rfl (by rfl) (Nat.le_of_ble_eq_true rfl) rfl (fun ls hl => ?_)
            refine lv_iinc (v := (v6_9 + (1 : Int32))) (lv' := [(6, .int (v6_9 + (1 : Int32))), (5, .int (v5_9 + (1 : Int32))), (0, .ref b), (2, .int p2), (3, .int p3), (4, .int v4_9)]) hx hb dX7_merge_85 hl (k := 5) rfl (by rfl) (Nat.le_of_ble_eq_true rfl) rfl (fun ls hl => ?_)
            refine lv_goto (tgt := 9) hx hb dX7_merge_88 (by decide) ?_
            exact ih9 v4_9 (v5_9 + (1 : Int32)) (v6_9 + (1 : Int32)) (upd c_merged_9 (v6_9).toNatClampNeg (c_order (v5_9).toNatClampNeg)) _ _ _ hP hD hS (lv_sub hl [2, 3, 4, 5, 1, 0] rfl) h
          refine lv_icmp_ge (tgt := 68) hx hb dX7_merge_24 (by decide) (fun hc24 => ?_) (fun hc24 => ?_)
          · replace h := zi_t hc24 h
            exact hJ68 _ _ _ hP hD hS (lv_sub hl [0, 1, 2, 3, 4, 5] rfl) h
          · replace h := zi_f hc24 h
            refine lv_aload_n hx hb dX7_merge_27 rfl (lv_at hl 0 rfl) ?_
            refine lv_aload_n hx hb dX7_merge_28 rfl (lv_at hl 0 rfl) ?_
            refine va_get (D := D) (ci := 7) (v := .ref b_order) (C := RX7) (T := TX7) (N := 14) hx hb hts uX7_merge_X7 hown hK.1 hP 0 rfl rfl 6 (by decide) (hts (.fieldLink RX7 27 "WishedResistor$Reached" "order" "[I") (List.mem_of_getElem? (i := 1) rfl)) (fun _ h9 => h9) rfl dX7_merge_29 ?_
            refine lv_iload hx hb dX7_merge_32 (lv_at hl 3 rfl) ?_
            obtain ⟨hi34, h⟩ := zg_s h
            refine va_iald hx hb hK.1 hP 1 0 rfl rfl hi34 dX7_merge_34 ?_
            refine lv_aload_n hx hb dX7_merge_35 rfl (lv_at hl 0 rfl) ?_
            refine va_get (D := D) (ci := 7) (v := .ref b_order) (C := RX7) (T := TX7) (N := 14) hx hb hts uX7_merge_X7 hown hK.1 hP 0 rfl rfl 6 (by decide) (hts (.fieldLink RX7 27 "WishedResistor$Reached" "order" "[I") (List.mem_of_getElem? (i := 1) rfl)) (fun _ h9 => h9) rfl dX7_merge_36 ?_
            refine lv_iload hx hb dX7_merge_39 (lv_at hl 4 rfl) ?_
            obtain ⟨hi41, h⟩ := zg_s h
            refine va_iald hx hb hK.1 hP 1 0 rfl rfl hi41 dX7_merge_41 ?_
            obtain ⟨r42, hq42, h⟩ := zb1_s h
            refine zCz (r0 := r42) (w1 := (wdX7_isLess cy b b_box b_above b_below b_kind b_first b_second b_order b_merged b_table b_start b_builtFor c_size c_levels c_levelsInOrder c_above c_below)) (ws' := (wdX7_merge cy b b_box b_above b_below b_kind b_first b_second b_order b_merged b_table b_start b_builtFor c_size c_levels c_levelsInOrder c_order c_above c_below c_merged_9)) (va_runV (As := [.int (c_order (v4_9).toNatClampNeg), .int (c_order (v5_9).toNatClampNeg)]) (rest := []) ⟨hx, hb, hml, hown, hts⟩ (mX7_isLess l D cy H.size b b_box b_above b_below b_kind b_first b_second b_order b_merged b_table b_start b_builtFor c_size c_levels c_levelsInOrder c_above c_below (c_order (v4_9).toNatClampNeg) (c_order (v5_9).toNatClampNeg) (r42) hq42) (cwV 2 hts gX7_merge_X7_isLess rfl rfl rfl ⟨rfl, cdX7_isLess⟩ ⟨Nat.le_of_ble_eq_true rfl, Nat.le_of_ble_eq_true rfl⟩) (zPV hK hP hD [0, 2, 3] rfl rfl (q0 := 0) (ci := 7) rfl rfl rfl) rfl rfl hl.1 rfl (lv_room (Nat.le_of_ble_eq_true rfl)) dX7_merge_42 ⟨Nat.zero_le _, Nat.zero_le _⟩) hP hD hS hA [0, 2, 3] [1, 4] [2, 0, 3, 4, 1] rfl rfl rfl rfl (fun H locs hn42 hP hD hS => ?_)
            refine lv_if_eq (tgt := 68) hx hb dX7_merge_45 (by decide) (fun hc45 => ?_) (fun hc45 => ?_)
            · replace h := zi_t hc45 h
              exact hJ68 _ _ _ hP hD hS (lv_sub hl [0, 1, 2, 3, 4, 5] rfl) h
            · replace h := zi_f hc45 h
              exact hJ48 _ _ _ hP hD hS (lv_sub hl [0, 1, 2, 3, 4, 5] rfl) h
  exact hL9 5000 p1 p2 p1 c_merged _ _ _ hP hD hS (lv_sub hl [3, 5, 6, 2, 1, 0] rfl) h

theorem uX7_putInOrder_X7 : ∀ w ∈ u_ws RX7 TX7 14, w ∈ wsX7_putInOrder := fun w h => (List.mem_cons_of_mem _ (List.mem_append_right _ h))
abbrev wdX7_putInOrder (cy : Nat → ClassId) (b b_box b_above b_below b_kind b_first b_second b_order b_merged b_table b_start b_builtFor : Nat) (c_size c_levels c_levelsInOrder : Int32) (c_order c_above c_below c_merged : Nat → Int32) : va_W := [(b, .inr (7, [.ref b_box, .ref b_above, .ref b_below, .ref b_kind, .ref b_first, .ref b_second, .ref b_order, .ref b_merged, .ref b_table, .ref b_start, .ref b_builtFor, .int c_size, .int c_levels, .int c_levelsInOrder])), (b_order, .inl (cy 0, 1884, .inl c_order)), (b_above, .inl (cy 0, 1884, .inl c_above)), (b_below, .inl (cy 0, 1884, .inl c_below)), (b_merged, .inl (cy 0, 1884, .inl c_merged))]
abbrev rmX7_putInOrder : Room := { frames := 2, cells := 0, slots := 0, locals := 48 }
theorem cdX7_putInOrder : (yX7_putInOrder).cls ≠ "java/lang/invoke/MethodHandle" ∧ (yX7_putInOrder).cls ≠ "java/lang/invoke/VarHandle" ∧ (parseMethodDescriptor (yX7_putInOrder).desc).map (fun d => d.parameters.length) = some 2 := by decide +kernel
def fX7_putInOrder_J73 (p1 p2 v3_22 : Int32) (c_order_22 : Nat → Int32) (rec22 : Int32 → (Nat → Int32) → (Nat → Int32) → Option ((Nat → Int32) × (Nat → Int32))) (c_merged_73 : Nat → Int32) : Option ((Nat → Int32) × (Nat → Int32)) :=
  zg (¬ p1 < 0 ∧ ¬ p1 < 0 ∧ ¬ (p2 - p1) < 0 ∧ (p1).toNatClampNeg + ((p2 - p1)).toNatClampNeg ≤ 1884 ∧ (p1).toNatClampNeg + ((p2 - p1)).toNatClampNeg ≤ 1884) (rec22 (v3_22 * (2 : Int32)) (va_cpy c_merged_73 c_order_22 (p1).toNatClampNeg (p1).toNatClampNeg ((p2 - p1)).toNatClampNeg) c_merged_73)
def fX7_putInOrder_L32 (k73_32 : (Nat → Int32) → Option ((Nat → Int32) × (Nat → Int32))) (c_above c_below : Nat → Int32) (p2 v3_22 : Int32) (c_order_22 : Nat → Int32) : Nat → Int32 → (Nat → Int32) → Option ((Nat → Int32) × (Nat → Int32)) :=
  zl2 (fun rec32 v4_32 c_merged_32 => if p2 ≤ v4_32 then (k73_32 c_merged_32) else (zb1 (fX7_merge v4_32 (if p2 < (v4_32 + v3_22) then p2 else (v4_32 + v3_22)) (if p2 < (v4_32 + ((2 : Int32) * v3_22)) then p2 else (v4_32 + ((2 : Int32) * v3_22))) c_order_22 c_above c_below c_merged_32) (fun c_merged_r59 => rec32 (v4_32 + ((2 : Int32) * v3_22)) c_merged_r59)))
def fX7_putInOrder_L22 (c_above c_below : Nat → Int32) (p1 p2 : Int32) : Nat → Int32 → (Nat → Int32) → (Nat → Int32) → Option ((Nat → Int32) × (Nat → Int32)) :=
  zl3 (fun rec22 v3_22 c_order_22 c_merged_22 => if (p2 - p1) ≤ v3_22 then (some (c_order_22, c_merged_22)) else (fX7_putInOrder_L32 (fX7_putInOrder_J73 p1 p2 v3_22 c_order_22 rec22) c_above c_below p2 v3_22 c_order_22 5000 p1 c_merged_22))
def fX7_putInOrder_J20 (c_above c_below c_merged : Nat → Int32) (p1 p2 : Int32) (c_order_20 : Nat → Int32) : Option ((Nat → Int32) × (Nat → Int32)) :=
  fX7_putInOrder_L22 c_above c_below p1 p2 5000 (1 : Int32) c_order_20 c_merged
def fX7_putInOrder_L2 (k20_2 : (Nat → Int32) → Option ((Nat → Int32) × (Nat → Int32))) (p2 : Int32) : Nat → Int32 → (Nat → Int32) → Option ((Nat → Int32) × (Nat → Int32)) :=
  zl2 (fun rec2 v3_2 c_order_2 => if p2 ≤ v3_2 then (k20_2 c_order_2) else (zg (zin v3_2 1884) (rec2 (v3_2 + (1 : Int32)) (upd c_order_2 (v3_2).toNatClampNeg v3_2))))
def fX7_putInOrder (p1 p2 : Int32) (c_order c_above c_below c_merged : Nat → Int32) : Option ((Nat → Int32) × (Nat → Int32)) :=
  fX7_putInOrder_L2 (fX7_putInOrder_J20 c_above c_below c_merged p1 p2) p2 5000 p1 c_order
set_option maxHeartbeats 4000000 in
set_option maxRecDepth 100000 in
theorem mX7_putInOrder (l : Launch) (D : va_G) (cy : Nat → ClassId) (sz : Nat) (b b_box b_above b_below b_kind b_first b_second b_order b_merged b_table b_start b_builtFor : Nat) (c_size c_levels c_levelsInOrder : Int32) (c_order c_above c_below c_merged : Nat → Int32) (p1 p2 : Int32) (res : ((Nat → Int32) × (Nat → Int32))) (h : fX7_putInOrder p1 p2 c_order c_above c_below c_merged = some res) : zMv l yX7_putInOrder wsX7_putInOrder rmX7_putInOrder [.ref b, .int p1, .int p2] D cy (wdX7_putInOrder cy b b_box b_above b_below b_kind b_first b_second b_order b_merged b_table b_start b_builtFor c_size c_levels c_levelsInOrder c_order c_above c_below c_merged) sz  ((fun (o : ((Nat → Int32) × (Nat → Int32))) => (wdX7_putInOrder cy b b_box b_above b_below b_kind b_first b_second b_order b_merged b_table b_start b_builtFor c_size c_levels c_levelsInOrder (o.1) c_above c_below (o.2))) res) := by
  refine zOfv (res := res) (Wf := (fun (o : ((Nat → Int32) × (Nat → Int32))) => (wdX7_putInOrder cy b b_box b_above b_below b_kind b_first b_second b_order b_merged b_table b_start b_builtFor c_size c_levels c_levelsInOrder (o.1) c_above c_below (o.2)))) (by decide +kernel) rfl (Nat.le_of_ble_eq_true rfl) ?_
  intro p e s m args below meth c A ls Q hx hb hml hts hown hP hK hD hA hS hl hret
  have hown : s.vm.findClass RX7 = some m.cls := hown
  have hl : lv_has ls 5 [(0, .ref b), (1, .int p1), (2, .int p2)] := hl
  refine lv_iload_n hx hb dX7_putInOrder_0 rfl (lv_at hl 1 rfl) ?_
  refine lv_istore_n (lv' := [(3, .int p1), (0, .ref b), (1, .int p1), (2, .int p2)]) hx hb dX7_putInOrder_1 rfl hl (Nat.le_of_ble_eq_true rfl) rfl (fun ls hl => ?_)
  have hJ20 : ∀ (c_order_20 : Nat → Int32) (H : Heap) (locs : List Loc) (ls : Array Slot), va_P D vwCl (wdX7_putInOrder cy b b_box b_above b_below b_kind b_first b_second b_order b_merged b_table b_start b_builtFor c_size c_levels c_levelsInOrder c_order_20 c_above c_below c_merged) H → va_D A (wdX7_putInOrder cy b b_box b_above b_below b_kind b_first b_second b_order b_merged b_table b_start b_builtFor c_size c_levels c_levelsInOrder c_order_20 c_above c_below c_merged) → va_S A s.heap H locs → lv_has ls 5 [(0, .ref b), (1, .int p1), (2, .int p2)] → fX7_putInOrder_J20 c_above c_below c_merged p1 p2 c_order_20 = some res → W p l e rmX7_putInOrder s m args below meth c H locs 0 0 Q (F0 m 20 ls []) := by
    intro c_order_20 H locs ls hP hD hS hl h
    refine lv_iconst (v := (1 : Int32)) hx hb dX7_putInOrder_20 (by decide) ?_
    refine lv_istore_n (lv' := [(3, .int (1 : Int32)), (0, .ref b), (1, .int p1), (2, .int p2)]) hx hb dX7_putInOrder_21 rfl hl (Nat.le_of_ble_eq_true rfl) rfl (fun ls hl => ?_)
    have hL22 : ∀ n22 : Nat, ∀ (v3_22 : Int32) (c_order_22 c_merged_22 : Nat → Int32) (H : Heap) (locs : List Loc) (ls : Array Slot), va_P D vwCl (wdX7_putInOrder cy b b_box b_above b_below b_kind b_first b_second b_order b_merged b_table b_start b_builtFor c_size c_levels c_levelsInOrder c_order_22 c_above c_below c_merged_22) H → va_D A (wdX7_putInOrder cy b b_box b_above b_below b_kind b_first b_second b_order b_merged b_table b_start b_builtFor c_size c_levels c_levelsInOrder c_order_22 c_above c_below c_merged_22) → va_S A s.heap H locs → lv_has ls 5 [(0, .ref b), (1, .int p1), (2, .int p2), (3, .int v3_22)] → fX7_putInOrder_L22 c_above c_below p1 p2 n22 v3_22 c_order_22 c_merged_22 = some res → W p l e rmX7_putInOrder s m args below meth c H locs 0 0 Q (F0 m 22 ls []) := by
      intro n22
      induction n22 with
      | zero =>
        intro v3_22 c_order_22 c_merged_22 H locs ls hP hD hS hl h
        exact zl3_0 h
      | succ n22 ih22 =>
        intro v3_22 c_order_22 c_merged_22 H locs ls hP hD hS hl h
        replace h := zl3_s h
        refine lv_iload_n hx hb dX7_putInOrder_22 rfl (lv_at hl 3 rfl) ?_
        refine lv_iload_n hx hb dX7_putInOrder_23 rfl (lv_at hl 2 rfl) ?_
        refine lv_iload_n hx hb dX7_putInOrder_24 rfl (lv_at hl 1 rfl) ?_
        refine lv_isub hx hb dX7_putInOrder_25 ?_
        refine lv_icmp_ge (tgt := 96) hx hb dX7_putInOrder_26 (by decide) (fun hc26 => ?_) (fun hc26 => ?_)
        · replace h := zi_t hc26 h
          exact hret (o := (c_order_22, c_merged_22)) h hP hD hS dX7_putInOrder_96
        · replace h := zi_f hc26 h
          refine lv_iload_n hx hb dX7_putInOrder_29 rfl (lv_at hl 1 rfl) ?_
          refine lv_istore (lv' := [(4, .int p1), (0, .ref b), (1, .int p1), (2, .int p2), (3, .int v3_22)]) hx hb dX7_putInOrder_30 hl (Nat.le_of_ble_eq_true rfl) rfl (fun ls hl => ?_)
          have hJ73 : ∀ (c_merged_73 : Nat → Int32) (H : Heap) (locs : List Loc) (ls : Array Slot), va_P D vwCl (wdX7_putInOrder cy b b_box b_above b_below b_kind b_first b_second b_order b_merged b_table b_start b_builtFor c_size c_levels c_levelsInOrder c_order_22 c_above c_below c_merged_73) H → va_D A (wdX7_putInOrder cy b b_box b_above b_below b_kind b_first b_second b_order b_merged b_table b_start b_builtFor c_size c_levels c_levelsInOrder c_order_22 c_above c_below c_merged_73) → va_S A s.heap H locs → lv_has ls 5 [(0, .ref b), (1, .int p1), (2, .int p2), (3, .int v3_22)] → fX7_putInOrder_J73 p1 p2 v3_22 c_order_22 (fX7_putInOrder_L22 c_above c_below p1 p2 n22) c_merged_73 = some res → W p l e rmX7_putInOrder s m args below meth c H locs 0 0 Q (F0 m 73 ls []) := by
            intro c_merged_73 H locs ls hP hD hS hl h
            refine lv_aload_n hx hb dX7_putInOrder_73 rfl (lv_at hl 0 rfl) ?_
            refine va_get (D := D) (ci := 7) (v := .ref b_merged) (C := RX7) (T := TX7) (N := 14) hx hb hts uX7_putInOrder_X7 hown hK.1 hP 0 rfl rfl 7 (by decide) (hts (.fieldLink RX7 30 "WishedResistor$Reached" "merged" "[I") (List.mem_of_getElem? (i := 6) rfl)) (fun _ h9 => h9) rfl dX7_putInOrder_74 ?_
            refine lv_iload_n hx hb dX7_putInOrder_77 rfl (lv_at hl 1 rfl) ?_
            refine lv_aload_n hx hb dX7_putInOrder_78 rfl (lv_at hl 0 rfl) ?_
            refine va_get (D := D) (ci := 7) (v := .ref b_order) (C := RX7) (T := TX7) (N := 14) hx hb hts uX7_putInOrder_X7 hown hK.1 hP 0 rfl rfl 6 (by decide) (hts (.fieldLink RX7 27 "WishedResistor$Reached" "order" "[I") (List.mem_of_getElem? (i := 1) rfl)) (fun _ h9 => h9) rfl dX7_putInOrder_79 ?_
            refine lv_iload_n hx hb dX7_putInOrder_82 rfl (lv_at hl 1 rfl) ?_
            refine lv_iload_n hx hb dX7_putInOrder_83 rfl (lv_at hl 2 rfl) ?_
            refine lv_iload_n hx hb dX7_putInOrder_84 rfl (lv_at hl 1 rfl) ?_
            refine lv_isub hx hb dX7_putInOrder_85 ?_
            obtain ⟨⟨hy86_0, hy86_1, hy86_2, hy86_3, hy86_4⟩, h⟩ := zg_s h
            refine va_copyi hx hb (hml.trans hl.1.symm) hown (hts (.methodLink RX7 55 arraycopyName) (List.mem_of_getElem? (i := 7) rfl)) (hts (.native arraycopyName) (List.mem_of_getElem? (i := 8) rfl)) (hts (.static arraycopyName) (List.mem_of_getElem? (i := 9) rfl)) (hts (.initialized "java/lang/System") (List.mem_of_getElem? (i := 10) rfl)) hK.1 hP hD hS 4 1 0 0 rfl rfl rfl rfl rfl hy86_0 hy86_1 hy86_2 hy86_3 hy86_4 (fun _ _ => rfl) (Nat.le_of_ble_eq_true rfl) (Nat.le_of_ble_eq_true rfl) dX7_putInOrder_86 (fun H locs hP hD hS => ?_)
            have hP : va_P D vwCl (wdX7_putInOrder cy b b_box b_above b_below b_kind b_first b_second b_order b_merged b_table b_start b_builtFor c_size c_levels c_levelsInOrder (va_cpy c_merged_73 c_order_22 (p1).toNatClampNeg (p1).toNatClampNeg ((p2 - p1)).toNatClampNeg) c_above c_below c_merged_73) H := hP
            have hD : va_D A (wdX7_putInOrder cy b b_box b_above b_below b_kind b_first b_second b_order b_merged b_table b_start b_builtFor c_size c_levels c_levelsInOrder (va_cpy c_merged_73 c_order_22 (p1).toNatClampNeg (p1).toNatClampNeg ((p2 - p1)).toNatClampNeg) c_above c_below c_merged_73) := hD
            refine lv_iload_n hx hb dX7_putInOrder_89 rfl (lv_at hl 3 rfl) ?_
            refine lv_iconst (v := (2 : Int32)) hx hb dX7_putInOrder_90 (by decide) ?_
            refine lv_imul hx hb dX7_putInOrder_91 ?_
            refine lv_istore_n (lv' := [(3, .int (v3_22 * (2 : Int32))), (0, .ref b), (1, .int p1), (2, .int p2)]) hx hb dX7_putInOrder_92 rfl hl (Nat.le_of_ble_eq_true rfl) rfl (fun ls hl => ?_)
            refine lv_goto (tgt := 22) hx hb dX7_putInOrder_93 (by decide) ?_
            exact ih22 (v3_22 * (2 : Int32)) (va_cpy c_merged_73 c_order_22 (p1).toNatClampNeg (p1).toNatClampNeg ((p2 - p1)).toNatClampNeg) c_merged_73 _ _ _ hP hD hS (lv_sub hl [1, 2, 3, 0] rfl) h
          have hL32 : ∀ n32 : Nat, ∀ (v4_32 : Int32) (c_merged_32 : Nat → Int32) (H : Heap) (locs : List Loc) (ls : Array Slot), va_P D vwCl (wdX7_putInOrder cy b b_box b_above b_below b_kind b_first b_second b_order b_merged b_table b_start b_builtFor c_size c_levels c_levelsInOrder c_order_22 c_above c_below c_merged_32) H → va_D A (wdX7_putInOrder cy b b_box b_above b_below b_kind b_first b_second b_order b_merged b_table b_start b_builtFor c_size c_levels c_levelsInOrder c_order_22 c_above c_below c_merged_32) → va_S A s.heap H locs → lv_has ls 5 [(0, .ref b), (1, .int p1), (2, .int p2), (3, .int v3_22), (4, .int v4_32)] → fX7_putInOrder_L32 (fX7_putInOrder_J73 p1 p2 v3_22 c_order_22 (fX7_putInOrder_L22 c_above c_below p1 p2 n22)) c_above c_below p2 v3_22 c_order_22 n32 v4_32 c_merged_32 = some res → W p l e rmX7_putInOrder s m args below meth c H locs 0 0 Q (F0 m 32 ls []) := by
            intro n32
            induction n32 with
            | zero =>
              intro v4_32 c_merged_32 H locs ls hP hD hS hl h
              exact zl2_0 h
            | succ n32 ih32 =>
              intro v4_32 c_merged_32 H locs ls hP hD hS hl h
              replace h := zl2_s h
              refine lv_iload hx hb dX7_putInOrder_32 (lv_at hl 4 rfl) ?_
              refine lv_iload_n hx hb dX7_putInOrder_34 rfl (lv_at hl 2 rfl) ?_
              refine lv_icmp_ge (tgt := 73) hx hb dX7_putInOrder_35 (by decide) (fun hc35 => ?_) (fun hc35 => ?_)
              · replace h := zi_t hc35 h
                exact hJ73 c_merged_32 _ _ _ hP hD hS (lv_sub hl [0, 1, 2, 3] rfl) h
              · replace h := zi_f hc35 h
                refine lv_aload_n hx hb dX7_putInOrder_38 rfl (lv_at hl 0 rfl) ?_
                refine lv_iload hx hb dX7_putInOrder_39 (lv_at hl 4 rfl) ?_
                refine lv_iload hx hb dX7_putInOrder_41 (lv_at hl 4 rfl) ?_
                refine lv_iload_n hx hb dX7_putInOrder_43 rfl (lv_at hl 3 rfl) ?_
                refine lv_iadd hx hb dX7_putInOrder_44 ?_
                refine lv_iload_n hx hb dX7_putInOrder_45 rfl (lv_at hl 2 rfl) ?_
                refine va_mmin hx hb (hml.trans hl.1.symm) hown (hts (.methodLink RX7 108 Lib.Math.min.name) (List.mem_of_getElem? (i := 2) rfl)) (hts (.static Lib.Math.min.name) (List.mem_of_getElem? (i := 3) rfl)) (hts (.initialized "java/lang/Math") (List.mem_of_getElem? (i := 4) rfl)) (hts (.code Lib.Math.min.name Lib.Math.min.code 2 (some .int)) (List.mem_of_getElem? (i := 5) rfl)) (Nat.le_of_ble_eq_true rfl) (Nat.le_of_ble_eq_true rfl) (Nat.zero_le _) (Nat.zero_le _) dX7_putInOrder_46 ?_
                refine lv_iload hx hb dX7_putInOrder_49 (lv_at hl 4 rfl) ?_
                refine lv_iconst (v := (2 : Int32)) hx hb dX7_putInOrder_51 (by decide) ?_
                refine lv_iload_n hx hb dX7_putInOrder_52 rfl (lv_at hl 3 rfl) ?_
                refine lv_imul hx hb dX7_putInOrder_53 ?_
                refine lv_iadd hx hb dX7_putInOrder_54 ?_
                refine lv_iload_n hx hb dX7_putInOrder_55 rfl (lv_at hl 2 rfl) ?_
                refine va_mmin hx hb (hml.trans hl.1.symm) hown (hts (.methodLink RX7 108 Lib.Math.min.name) (List.mem_of_getElem? (i := 2) rfl)) (hts (.static Lib.Math.min.name) (List.mem_of_getElem? (i := 3) rfl)) (hts (.initialized "java/lang/Math") (List.mem_of_getElem? (i := 4) rfl)) (hts (.code Lib.Math.min.name Lib.Math.min.code 2 (some .int)) (List.mem_of_getElem? (i := 5) rfl)) (Nat.le_of_ble_eq_true rfl) (Nat.le_of_ble_eq_true rfl) (Nat.zero_le _) (Nat.zero_le _) dX7_putInOrder_56 ?_
                obtain ⟨c_merged_r59, hq59, h⟩ := zb1_s h
                refine zCv (w1 := (wdX7_merge cy b b_box b_above b_below b_kind b_first b_second b_order b_merged b_table b_start b_builtFor c_size c_levels c_levelsInOrder c_order_22 c_above c_below c_merged_r59)) (ws' := (wdX7_putInOrder cy b b_box b_above b_below b_kind b_first b_second b_order b_merged b_table b_start b_builtFor c_size c_levels c_levelsInOrder c_order_22 c_above c_below c_merged_r59)) (va_runV (As := [.int v4_32, .int (if p2 < (v4_32 + v3_22) then p2 else (v4_32 + v3_22)), .int (if p2 < (v4_32 + ((2 : Int32) * v3_22)) then p2 else (v4_32 + ((2 : Int32) * v3_22)))]) (rest := []) ⟨hx, hb, hml, hown, hts⟩ (mX7_merge l D cy H.size b b_box b_above b_below b_kind b_first b_second b_order b_merged b_table b_start b_builtFor c_size c_levels c_levelsInOrder c_order_22 c_above c_below c_merged_32 v4_32 (if p2 < (v4_32 + v3_22) then p2 else (v4_32 + v3_22)) (if p2 < (v4_32 + ((2 : Int32) * v3_22)) then p2 else (v4_32 + ((2 : Int32) * v3_22))) (c_merged_r59) hq59) (cwV 3 hts gX7_putInOrder_X7_merge rfl rfl rfl ⟨rfl, cdX7_merge⟩ ⟨Nat.le_of_ble_eq_true rfl, Nat.le_of_ble_eq_true rfl⟩) (zPV hK hP hD [0, 1, 2, 3, 4] rfl rfl (q0 := 0) (ci := 7) rfl rfl rfl) rfl rfl hl.1 rfl (lv_room (Nat.le_of_ble_eq_true rfl)) dX7_putInOrder_59 ⟨Nat.zero_le _, Nat.zero_le _⟩) hP hD hS hA [0, 1, 2, 3, 4] [] [0, 1, 2, 3, 4] rfl rfl rfl rfl (fun H locs hP hD hS => ?_)
                refine lv_iload hx hb dX7_putInOrder_62 (lv_at hl 4 rfl) ?_
                refine lv_iconst (v := (2 : Int32)) hx hb dX7_putInOrder_64 (by decide) ?_
                refine lv_iload_n hx hb dX7_putInOrder_65 rfl (lv_at hl 3 rfl) ?_
                refine lv_imul hx hb dX7_putInOrder_66 ?_
                refine lv_iadd hx hb dX7_putInOrder_67 ?_
                refine lv_istore (lv' := [(4, .int (v4_32 + ((2 : Int32) * v3_22))), (0, .ref b), (1, .int p1), (2, .int p2), (3, .int v3_22)]) hx hb dX7_putInOrder_68 hl (Nat.le_of_ble_eq_true rfl) rfl (fun ls hl => ?_)
                refine lv_goto (tgt := 32) hx hb dX7_putInOrder_70 (by decide) ?_
                exact ih32 (v4_32 + ((2 : Int32) * v3_22)) c_merged_r59 _ _ _ hP hD hS (lv_sub hl [1, 2, 3, 4, 0] rfl) h
          exact hL32 5000 p1 c_merged_22 _ _ _ hP hD hS (lv_sub hl [1, 2, 3, 4, 0] rfl) h
    exact hL22 5000 (1 : Int32) c_order_20 c_merged _ _ _ hP hD hS (lv_sub hl [1, 2, 3, 0] rfl) h
  have hL2 : ∀ n2 : Nat, ∀ (v3_2 : Int32) (c_order_2 : Nat → Int32) (H : Heap) (locs : List Loc) (ls : Array Slot), va_P D vwCl (wdX7_putInOrder cy b b_box b_above b_below b_kind b_first b_second b_order b_merged b_table b_start b_builtFor c_size c_levels c_levelsInOrder c_order_2 c_above c_below c_merged) H → va_D A (wdX7_putInOrder cy b b_box b_above b_below b_kind b_first b_second b_order b_merged b_table b_start b_builtFor c_size c_levels c_levelsInOrder c_order_2 c_above c_below c_merged) → va_S A s.heap H locs → lv_has ls 5 [(0, .ref b), (1, .int p1), (2, .int p2), (3, .int v3_2)] → fX7_putInOrder_L2 (fX7_putInOrder_J20 c_above c_below c_merged p1 p2) p2 n2 v3_2 c_order_2 = some res → W p l e rmX7_putInOrder s m args below meth c H locs 0 0 Q (F0 m 2 ls []) := by
    intro n2
    induction n2 with
    | zero =>
      intro v3_2 c_order_2 H locs ls hP hD hS hl h
      exact zl2_0 h
    | succ n2 ih2 =>
      intro v3_2 c_order_2 H locs ls hP hD hS hl h
      replace h := zl2_s h
      refine lv_iload_n hx hb dX7_putInOrder_2 rfl (lv_at hl 3 rfl) ?_
      refine lv_iload_n hx hb dX7_putInOrder_3 rfl (lv_at hl 2 rfl) ?_
      refine lv_icmp_ge (tgt := 20) hx hb dX7_putInOrder_4 (by decide) (fun hc4 => ?_) (fun hc4 => ?_)
      · replace h := zi_t hc4 h
        exact hJ20 c_order_2 _ _ _ hP hD hS (lv_sub hl [0, 1, 2] rfl) h
      · replace h := zi_f hc4 h
        refine lv_aload_n hx hb dX7_putInOrder_7 rfl (lv_at hl 0 rfl) ?_
        refine va_get (D := D) (ci := 7) (v := .ref b_order) (C := RX7) (T := TX7) (N := 14) hx hb hts uX7_putInOrder_X7 hown hK.1 hP 0 rfl rfl 6 (by decide) (hts (.fieldLink RX7 27 "WishedResistor$Reached" "order" "[I") (List.mem_of_getElem? (i := 1) rfl)) (fun _ h9 => h9) rfl dX7_putInOrder_8 ?_
        refine lv_iload_n hx hb dX7_putInOrder_11 rfl (lv_at hl 3 rfl) ?_
        refine lv_iload_n hx hb dX7_putInOrder_12 rfl (lv_at hl 3 rfl) ?_
        obtain ⟨hi13, h⟩ := zg_s h
        refine va_iast hx hb hK.1 hP hD hS 1 0 rfl rfl hi13 dX7_putInOrder_13 (fun H locs hP hD hS => ?_)
        have hP : va_P D vwCl (wdX7_putInOrder cy b b_box b_above b_below b_kind b_first b_second b_order b_merged b_table b_start b_builtFor c_size c_levels c_levelsInOrder (upd c_order_2 (v3_2).toNatClampNeg v3_2) c_above c_below c_merged) H := hP
        have hD : va_D A (wdX7_putInOrder cy b b_box b_above b_below b_kind b_first b_second b_order b_merged b_table b_start b_builtFor c_size c_levels c_levelsInOrder (upd c_order_2 (v3_2).toNatClampNeg v3_2) c_above c_below c_merged) := hD
        refine lv_iinc (v := (v3_2 + (1 : Int32))) (lv' := [(3, .int (v3_2 + (1 : Int32))), (0, .ref b), (1, .int p1), (2, .int p2)]) hx hb dX7_putInOrder_14 hl (k := 3) rfl (by rfl) (Nat.le_of_ble_eq_true rfl) rfl (fun ls hl => ?_)
        refine lv_goto (tgt := 2) hx hb dX7_putInOrder_17 (by decide) ?_
        exact ih2 (v3_2 + (1 : Int32)) (upd c_order_2 (v3_2).toNatClampNeg v3_2) _ _ _ hP hD hS (lv_sub hl [1, 2, 3, 0] rfl) h
  exact hL2 5000 p1 c_order _ _ _ hP hD hS (lv_sub hl [1, 2, 3, 0] rfl) h

theorem uX7_bySize_X7 : ∀ w ∈ u_ws RX7 TX7 14, w ∈ wsX7_bySize := fun w h => (List.mem_cons_of_mem _ (List.mem_append_left _ (List.mem_append_right _ h)))
abbrev wdX7_bySize (cy : Nat → ClassId) (b b_box b_above b_below b_kind b_first b_second b_order b_merged b_table b_start b_builtFor b_box_ohms b_box_spread : Nat) (c_size c_levels c_levelsInOrder : Int32) (c_builtFor c_box_ohms c_table c_start c_above c_below c_kind c_first c_second c_order c_merged : Nat → Int32) : va_W := [(b, .inr (7, [.ref b_box, .ref b_above, .ref b_below, .ref b_kind, .ref b_first, .ref b_second, .ref b_order, .ref b_merged, .ref b_table, .ref b_start, .ref b_builtFor, .int c_size, .int c_levels, .int c_levelsInOrder])), (b_builtFor, .inl (cy 0, 4, .inl c_builtFor)), (b_box, .inr (0, [.ref b_box_ohms, .ref b_box_spread])), (b_box_ohms, .inl (cy 0, 4, .inl c_box_ohms)), (b_table, .inl (cy 0, 4096, .inl c_table)), (b_start, .inl (cy 0, 6, .inl c_start)), (b_above, .inl (cy 0, 1884, .inl c_above)), (b_below, .inl (cy 0, 1884, .inl c_below)), (b_kind, .inl (cy 0, 1884, .inl c_kind)), (b_first, .inl (cy 0, 1884, .inl c_first)), (b_second, .inl (cy 0, 1884, .inl c_second)), (b_order, .inl (cy 0, 1884, .inl c_order)), (b_merged, .inl (cy 0, 1884, .inl c_merged))]
abbrev rmX7_bySize : Room := { frames := 4, cells := 0, slots := 0, locals := 111 }
theorem cdX7_bySize : (yX7_bySize).cls ≠ "java/lang/invoke/MethodHandle" ∧ (yX7_bySize).cls ≠ "java/lang/invoke/VarHandle" ∧ (parseMethodDescriptor (yX7_bySize).desc).map (fun d => d.parameters.length) = some 2 := by decide +kernel
def fX7_bySize_J71 (p1 p2 c_size_r2 c_levels_r2 : Int32) (c_builtFor_r2 c_table_r2 c_start_r2 c_above_r2 c_below_r2 c_kind_r2 c_first_r2 c_second_r2 : Nat → Int32) (c_levelsInOrder_71 : Int32) (c_order_71 c_merged_71 : Nat → Int32) : Option (Int32 × Int32 × Int32 × Int32 × (Nat → Int32) × (Nat → Int32) × (Nat → Int32) × (Nat → Int32) × (Nat → Int32) × (Nat → Int32) × (Nat → Int32) × (Nat → Int32) × (Nat → Int32) × (Nat → Int32)) :=
  zg (zin p1 6) (zg (zin ((c_start_r2 (p1).toNatClampNeg) + p2) 1884) (some ((c_order_71 (((c_start_r2 (p1).toNatClampNeg) + p2)).toNatClampNeg), c_size_r2, c_levels_r2, c_levelsInOrder_71, c_builtFor_r2, c_table_r2, c_start_r2, c_above_r2, c_below_r2, c_kind_r2, c_first_r2, c_second_r2, c_order_71, c_merged_71)))
def fX7_bySize (p1 p2 c_size c_levels c_levelsInOrder : Int32) (c_builtFor c_box_ohms c_table c_start c_above c_below c_kind c_first c_second c_order c_merged : Nat → Int32) : Option (Int32 × Int32 × Int32 × Int32 × (Nat → Int32) × (Nat → Int32) × (Nat → Int32) × (Nat → Int32) × (Nat → Int32) × (Nat → Int32) × (Nat → Int32) × (Nat → Int32) × (Nat → Int32) × (Nat → Int32)) :=
  zb11 (fX7_build p1 c_size c_levels c_levelsInOrder c_builtFor c_box_ohms c_table c_start c_above c_below c_kind c_first c_second) (fun c_size_r2 c_levels_r2 c_levelsInOrder_r2 c_builtFor_r2 c_table_r2 c_start_r2 c_above_r2 c_below_r2 c_kind_r2 c_first_r2 c_second_r2 => if p2 < 0 then (some ((-1 : Int32), c_size_r2, c_levels_r2, c_levelsInOrder_r2, c_builtFor_r2, c_table_r2, c_start_r2, c_above_r2, c_below_r2, c_kind_r2, c_first_r2, c_second_r2, c_order, c_merged)) else (zg (zin (p1 + (1 : Int32)) 6) (zg (zin p1 6) (if p2 < ((c_start_r2 ((p1 + (1 : Int32))).toNatClampNeg) - (c_start_r2 (p1).toNatClampNeg)) then (if ((c_levelsInOrder_r2 >>> (p1 &&& 31)) &&& (1 : Int32)) = 0 then (zg (zin p1 6) (zg (zin (p1 + (1 : Int32)) 6) (zb2 (fX7_putInOrder (c_start_r2 (p1).toNatClampNeg) (c_start_r2 ((p1 + (1 : Int32))).toNatClampNeg) c_order c_above_r2 c_below_r2 c_merged) (fun c_order_r56 c_merged_r56 => fX7_bySize_J71 p1 p2 c_size_r2 c_levels_r2 c_builtFor_r2 c_table_r2 c_start_r2 c_above_r2 c_below_r2 c_kind_r2 c_first_r2 c_second_r2 (c_levelsInOrder_r2 ||| ((1 : Int32) <<< (p1 &&& 31))) c_order_r56 c_merged_r56)))) else (fX7_bySize_J71 p1 p2 c_size_r2 c_levels_r2 c_builtFor_r2 c_table_r2 c_start_r2 c_above_r2 c_below_r2 c_kind_r2 c_first_r2 c_second_r2 c_levelsInOrder_r2 c_order c_merged)) else (some ((-1 : Int32), c_size_r2, c_levels_r2, c_levelsInOrder_r2, c_builtFor_r2, c_table_r2, c_start_r2, c_above_r2, c_below_r2, c_kind_r2, c_first_r2, c_second_r2, c_order, c_merged))))))
set_option maxHeartbeats 4000000 in
set_option maxRecDepth 100000 in
theorem mX7_bySize (l : Launch) (D : va_G) (cy : Nat → ClassId) (sz : Nat) (b b_box b_above b_below b_kind b_first b_second b_order b_merged b_table b_start b_builtFor b_box_ohms b_box_spread : Nat) (c_size c_levels c_levelsInOrder : Int32) (c_builtFor c_box_ohms c_table c_start c_above c_below c_kind c_first c_second c_order c_merged : Nat → Int32) (p1 p2 : Int32) (res : (Int32 × Int32 × Int32 × Int32 × (Nat → Int32) × (Nat → Int32) × (Nat → Int32) × (Nat → Int32) × (Nat → Int32) × (Nat → Int32) × (Nat → Int32) × (Nat → Int32) × (Nat → Int32) × (Nat → Int32))) (h : fX7_bySize p1 p2 c_size c_levels c_levelsInOrder c_builtFor c_box_ohms c_table c_start c_above c_below c_kind c_first c_second c_order c_merged = some res) : zMi l yX7_bySize wsX7_bySize rmX7_bySize [.ref b, .int p1, .int p2] D cy (wdX7_bySize cy b b_box b_above b_below b_kind b_first b_second b_order b_merged b_table b_start b_builtFor b_box_ohms b_box_spread c_size c_levels c_levelsInOrder c_builtFor c_box_ohms c_table c_start c_above c_below c_kind c_first c_second c_order c_merged) sz ((fun (o : (Int32 × Int32 × Int32 × Int32 × (Nat → Int32) × (Nat → Int32) × (Nat → Int32) × (Nat → Int32) × (Nat → Int32) × (Nat → Int32) × (Nat → Int32) × (Nat → Int32) × (Nat → Int32) × (Nat → Int32))) => o.1) res) ((fun (o : (Int32 × Int32 × Int32 × Int32 × (Nat → Int32) × (Nat → Int32) × (Nat → Int32) × (Nat → Int32) × (Nat → Int32) × (Nat → Int32) × (Nat → Int32) × (Nat → Int32) × (Nat → Int32) × (Nat → Int32))) => (wdX7_bySize cy b b_box b_above b_below b_kind b_first b_second b_order b_merged b_table b_start b_builtFor b_box_ohms b_box_spread (o.2.1) (o.2.2.1) (o.2.2.2.1) (o.2.2.2.2.1) c_box_ohms (o.2.2.2.2.2.1) (o.2.2.2.2.2.2.1) (o.2.2.2.2.2.2.2.1) (o.2.2.2.2.2.2.2.2.1) (o.2.2.2.2.2.2.2.2.2.1) (o.2.2.2.2.2.2.2.2.2.2.1) (o.2.2.2.2.2.2.2.2.2.2.2.1) (o.2.2.2.2.2.2.2.2.2.2.2.2.1) (o.2.2.2.2.2.2.2.2.2.2.2.2.2))) res) := by
  refine zOfi (res := res) (rf := (fun (o : (Int32 × Int32 × Int32 × Int32 × (Nat → Int32) × (Nat → Int32) × (Nat → Int32) × (Nat → Int32) × (Nat → Int32) × (Nat → Int32) × (Nat → Int32) × (Nat → Int32) × (Nat → Int32) × (Nat → Int32))) => o.1)) (Wf := (fun (o : (Int32 × Int32 × Int32 × Int32 × (Nat → Int32) × (Nat → Int32) × (Nat → Int32) × (Nat → Int32) × (Nat → Int32) × (Nat → Int32) × (Nat → Int32) × (Nat → Int32) × (Nat → Int32) × (Nat → Int32))) => (wdX7_bySize cy b b_box b_above b_below b_kind b_first b_second b_order b_merged b_table b_start b_builtFor b_box_ohms b_box_spread (o.2.1) (o.2.2.1) (o.2.2.2.1) (o.2.2.2.2.1) c_box_ohms (o.2.2.2.2.2.1) (o.2.2.2.2.2.2.1) (o.2.2.2.2.2.2.2.1) (o.2.2.2.2.2.2.2.2.1) (o.2.2.2.2.2.2.2.2.2.1) (o.2.2.2.2.2.2.2.2.2.2.1) (o.2.2.2.2.2.2.2.2.2.2.2.1) (o.2.2.2.2.2.2.2.2.2.2.2.2.1) (o.2.2.2.2.2.2.2.2.2.2.2.2.2)))) (by decide +kernel) rfl (Nat.le_of_ble_eq_true rfl) ?_
  intro p e s m args below meth c A ls Q hx hb hml hts hown hP hK hD hA hS hl hret
  have hown : s.vm.findClass RX7 = some m.cls := hown
  have hl : lv_has ls 3 [(0, .ref b), (1, .int p1), (2, .int p2)] := hl
  refine lv_aload_n hx hb dX7_bySize_0 rfl (lv_at hl 0 rfl) ?_
  refine lv_iload_n hx hb dX7_bySize_1 rfl (lv_at hl 1 rfl) ?_
  obtain ⟨c_size_r2, c_levels_r2, c_levelsInOrder_r2, c_builtFor_r2, c_table_r2, c_start_r2, c_above_r2, c_below_r2, c_kind_r2, c_first_r2, c_second_r2, hq2, h⟩ := zb11_s h
  refine zCv (w1 := (wdX7_build cy b b_box b_above b_below b_kind b_first b_second b_order b_merged b_table b_start b_builtFor b_box_ohms b_box_spread c_size_r2 c_levels_r2 c_levelsInOrder_r2 c_builtFor_r2 c_box_ohms c_table_r2 c_start_r2 c_above_r2 c_below_r2 c_kind_r2 c_first_r2 c_second_r2)) (ws' := (wdX7_bySize cy b b_box b_above b_below b_kind b_first b_second b_order b_merged b_table b_start b_builtFor b_box_ohms b_box_spread c_size_r2 c_levels_r2 c_levelsInOrder_r2 c_builtFor_r2 c_box_ohms c_table_r2 c_start_r2 c_above_r2 c_below_r2 c_kind_r2 c_first_r2 c_second_r2 c_order c_merged)) (va_runV (As := [.int p1]) (rest := []) ⟨hx, hb, hml, hown, hts⟩ (mX7_build l D cy s.heap.size b b_box b_above b_below b_kind b_first b_second b_order b_merged b_table b_start b_builtFor b_box_ohms b_box_spread c_size c_levels c_levelsInOrder c_builtFor c_box_ohms c_table c_start c_above c_below c_kind c_first c_second p1 (c_size_r2, c_levels_r2, c_levelsInOrder_r2, c_builtFor_r2, c_table_r2, c_start_r2, c_above_r2, c_below_r2, c_kind_r2, c_first_r2, c_second_r2) hq2) (cwV 1 hts gX7_bySize_X7_build rfl rfl rfl ⟨rfl, cdX7_build⟩ ⟨Nat.le_of_ble_eq_true rfl, Nat.le_of_ble_eq_true rfl⟩) (zPV hK hP hD [0, 1, 2, 3, 4, 5, 6, 7, 8, 9, 10] rfl rfl (q0 := 0) (ci := 7) rfl rfl rfl) rfl rfl hl.1 rfl (lv_room (Nat.le_of_ble_eq_true rfl)) dX7_bySize_2 ⟨Nat.zero_le _, Nat.zero_le _⟩) hP hD hS hA [0, 1, 2, 3, 4, 5, 6, 7, 8, 9, 10] [11, 12] [2, 3, 4, 5, 6, 7, 8, 9, 10, 11, 12, 0, 1] rfl rfl rfl rfl (fun H locs hP hD hS => ?_)
  refine lv_iload_n hx hb dX7_bySize_5 rfl (lv_at hl 2 rfl) ?_
  refine lv_if_lt (tgt := 28) hx hb dX7_bySize_6 (by decide) (fun hc6 => ?_) (fun hc6 => ?_)
  · replace h := zi_t hc6 h
    refine lv_iconst (v := (-1 : Int32)) hx hb dX7_bySize_28 (by decide) ?_
    exact hret (o := ((-1 : Int32), c_size_r2, c_levels_r2, c_levelsInOrder_r2, c_builtFor_r2, c_table_r2, c_start_r2, c_above_r2, c_below_r2, c_kind_r2, c_first_r2, c_second_r2, c_order, c_merged)) h hP hD hS dX7_bySize_29
  · replace h := zi_f hc6 h
    refine lv_iload_n hx hb dX7_bySize_9 rfl (lv_at hl 2 rfl) ?_
    refine lv_aload_n hx hb dX7_bySize_10 rfl (lv_at hl 0 rfl) ?_
    refine va_get (D := D) (ci := 7) (v := .ref b_start) (C := RX7) (T := TX7) (N := 14) hx hb hts uX7_bySize_X7 hown hK.1 hP 0 rfl rfl 9 (by decide) (hts (.fieldLink RX7 36 "WishedResistor$Reached" "start" "[I") (List.mem_of_getElem? (i := 1) rfl)) (fun _ h9 => h9) rfl dX7_bySize_11 ?_
    refine lv_iload_n hx hb dX7_bySize_14 rfl (lv_at hl 1 rfl) ?_
    refine lv_iconst (v := (1 : Int32)) hx hb dX7_bySize_15 (by decide) ?_
    refine lv_iadd hx hb dX7_bySize_16 ?_
    obtain ⟨hi17, h⟩ := zg_s h
    refine va_iald hx hb hK.1 hP 5 0 rfl rfl hi17 dX7_bySize_17 ?_
    refine lv_aload_n hx hb dX7_bySize_18 rfl (lv_at hl 0 rfl) ?_
    refine va_get (D := D) (ci := 7) (v := .ref b_start) (C := RX7) (T := TX7) (N := 14) hx hb hts uX7_bySize_X7 hown hK.1 hP 0 rfl rfl 9 (by decide) (hts (.fieldLink RX7 36 "WishedResistor$Reached" "start" "[I") (List.mem_of_getElem? (i := 1) rfl)) (fun _ h9 => h9) rfl dX7_bySize_19 ?_
    refine lv_iload_n hx hb dX7_bySize_22 rfl (lv_at hl 1 rfl) ?_
    obtain ⟨hi23, h⟩ := zg_s h
    refine va_iald hx hb hK.1 hP 5 0 rfl rfl hi23 dX7_bySize_23 ?_
    refine lv_isub hx hb dX7_bySize_24 ?_
    refine lv_icmp_lt (tgt := 30) hx hb dX7_bySize_25 (by decide) (fun hc25 => ?_) (fun hc25 => ?_)
    · replace h := zi_t hc25 h
      refine lv_aload_n hx hb dX7_bySize_30 rfl (lv_at hl 0 rfl) ?_
      refine va_get (D := D) (ci := 7) (v := .int c_levelsInOrder_r2) (C := RX7) (T := TX7) (N := 14) hx hb hts uX7_bySize_X7 hown hK.1 hP 0 rfl rfl 13 (by decide) (hts (.fieldLink RX7 74 "WishedResistor$Reached" "levelsInOrder" "I") (List.mem_of_getElem? (i := 2) rfl)) (fun _ h9 => h9) rfl dX7_bySize_31 ?_
      refine lv_iload_n hx hb dX7_bySize_34 rfl (lv_at hl 1 rfl) ?_
      refine lv_ishr hx hb dX7_bySize_35 ?_
      refine lv_iconst (v := (1 : Int32)) hx hb dX7_bySize_36 (by decide) ?_
      refine lv_iand hx hb dX7_bySize_37 ?_
      have hJ71 : ∀ (c_levelsInOrder_71 : Int32) (c_order_71 c_merged_71 : Nat → Int32) (H : Heap) (locs : List Loc) (ls : Array Slot), va_P D vwCl (wdX7_bySize cy b b_box b_above b_below b_kind b_first b_second b_order b_merged b_table b_start b_builtFor b_box_ohms b_box_spread c_size_r2 c_levels_r2 c_levelsInOrder_71 c_builtFor_r2 c_box_ohms c_table_r2 c_start_r2 c_above_r2 c_below_r2 c_kind_r2 c_first_r2 c_second_r2 c_order_71 c_merged_71) H → va_D A (wdX7_bySize cy b b_box b_above b_below b_kind b_first b_second b_order b_merged b_table b_start b_builtFor b_box_ohms b_box_spread c_size_r2 c_levels_r2 c_levelsInOrder_71 c_builtFor_r2 c_box_ohms c_table_r2 c_start_r2 c_above_r2 c_below_r2 c_kind_r2 c_first_r2 c_second_r2 c_order_71 c_merged_71) → va_S A s.heap H locs → lv_has ls 3 [(0, .ref b), (1, .int p1), (2, .int p2)] → fX7_bySize_J71 p1 p2 c_size_r2 c_levels_r2 c_builtFor_r2 c_table_r2 c_start_r2 c_above_r2 c_below_r2 c_kind_r2 c_first_r2 c_second_r2 c_levelsInOrder_71 c_order_71 c_merged_71 = some res → W p l e rmX7_bySize s m args below meth c H locs 0 0 Q (F0 m 71 ls []) := by
        intro c_levelsInOrder_71 c_order_71 c_merged_71 H locs ls hP hD hS hl h
        refine lv_aload_n hx hb dX7_bySize_71 rfl (lv_at hl 0 rfl) ?_
        refine va_get (D := D) (ci := 7) (v := .ref b_order) (C := RX7) (T := TX7) (N := 14) hx hb hts uX7_bySize_X7 hown hK.1 hP 0 rfl rfl 6 (by decide) (hts (.fieldLink RX7 27 "WishedResistor$Reached" "order" "[I") (List.mem_of_getElem? (i := 3) rfl)) (fun _ h9 => h9) rfl dX7_bySize_72 ?_
        refine lv_aload_n hx hb dX7_bySize_75 rfl (lv_at hl 0 rfl) ?_
        refine va_get (D := D) (ci := 7) (v := .ref b_start) (C := RX7) (T := TX7) (N := 14) hx hb hts uX7_bySize_X7 hown hK.1 hP 0 rfl rfl 9 (by decide) (hts (.fieldLink RX7 36 "WishedResistor$Reached" "start" "[I") (List.mem_of_getElem? (i := 1) rfl)) (fun _ h9 => h9) rfl dX7_bySize_76 ?_
        refine lv_iload_n hx hb dX7_bySize_79 rfl (lv_at hl 1 rfl) ?_
        obtain ⟨hi80, h⟩ := zg_s h
        refine va_iald hx hb hK.1 hP 5 0 rfl rfl hi80 dX7_bySize_80 ?_
        refine lv_iload_n hx hb dX7_bySize_81 rfl (lv_at hl 2 rfl) ?_
        refine lv_iadd hx hb dX7_bySize_82 ?_
        obtain ⟨hi83, h⟩ := zg_s h
        refine va_iald hx hb hK.1 hP 11 0 rfl rfl hi83 dX7_bySize_83 ?_
        exact hret (o := ((c_order_71 (((c_start_r2 (p1).toNatClampNeg) + p2)).toNatClampNeg), c_size_r2, c_levels_r2, c_levelsInOrder_71, c_builtFor_r2, c_table_r2, c_start_r2, c_above_r2, c_below_r2, c_kind_r2, c_first_r2, c_second_r2, c_order_71, c_merged_71)) h hP hD hS dX7_bySize_84
      refine lv_if_ne (tgt := 71) hx hb dX7_bySize_38 (by decide) (fun hc38 => ?_) (fun hc38 => ?_)
      · replace h := zi_f hc38 h
        exact hJ71 c_levelsInOrder_r2 c_order c_merged _ _ _ hP hD hS (lv_sub hl [0, 1, 2] rfl) h
      · replace h := zi_t hc38 h
        refine lv_aload_n hx hb dX7_bySize_41 rfl (lv_at hl 0 rfl) ?_
        refine lv_aload_n hx hb dX7_bySize_42 rfl (lv_at hl 0 rfl) ?_
        refine va_get (D := D) (ci := 7) (v := .ref b_start) (C := RX7) (T := TX7) (N := 14) hx hb hts uX7_bySize_X7 hown hK.1 hP 0 rfl rfl 9 (by decide) (hts (.fieldLink RX7 36 "WishedResistor$Reached" "start" "[I") (List.mem_of_getElem? (i := 1) rfl)) (fun _ h9 => h9) rfl dX7_bySize_43 ?_
        refine lv_iload_n hx hb dX7_bySize_46 rfl (lv_at hl 1 rfl) ?_
        obtain ⟨hi47, h⟩ := zg_s h
        refine va_iald hx hb hK.1 hP 5 0 rfl rfl hi47 dX7_bySize_47 ?_
        refine lv_aload_n hx hb dX7_bySize_48 rfl (lv_at hl 0 rfl) ?_
        refine va_get (D := D) (ci := 7) (v := .ref b_start) (C := RX7) (T := TX7) (N := 14) hx hb hts uX7_bySize_X7 hown hK.1 hP 0 rfl rfl 9 (by decide) (hts (.fieldLink RX7 36 "WishedResistor$Reached" "start" "[I") (List.mem_of_getElem? (i := 1) rfl)) (fun _ h9 => h9) rfl dX7_bySize_49 ?_
        refine lv_iload_n hx hb dX7_bySize_52 rfl (lv_at hl 1 rfl) ?_
        refine lv_iconst (v := (1 : Int32)) hx hb dX7_bySize_53 (by decide) ?_
        refine lv_iadd hx hb dX7_bySize_54 ?_
        obtain ⟨hi55, h⟩ := zg_s h
        refine va_iald hx hb hK.1 hP 5 0 rfl rfl hi55 dX7_bySize_55 ?_
        obtain ⟨c_order_r56, c_merged_r56, hq56, h⟩ := zb2_s h
        refine zCv (w1 := (wdX7_putInOrder cy b b_box b_above b_below b_kind b_first b_second b_order b_merged b_table b_start b_builtFor c_size_r2 c_levels_r2 c_levelsInOrder_r2 c_order_r56 c_above_r2 c_below_r2 c_merged_r56)) (ws' := (wdX7_bySize cy b b_box b_above b_below b_kind b_first b_second b_order b_merged b_table b_start b_builtFor b_box_ohms b_box_spread c_size_r2 c_levels_r2 c_levelsInOrder_r2 c_builtFor_r2 c_box_ohms c_table_r2 c_start_r2 c_above_r2 c_below_r2 c_kind_r2 c_first_r2 c_second_r2 c_order_r56 c_merged_r56)) (va_runV (As := [.int (c_start_r2 (p1).toNatClampNeg), .int (c_start_r2 ((p1 + (1 : Int32))).toNatClampNeg)]) (rest := []) ⟨hx, hb, hml, hown, hts⟩ (mX7_putInOrder l D cy H.size b b_box b_above b_below b_kind b_first b_second b_order b_merged b_table b_start b_builtFor c_size_r2 c_levels_r2 c_levelsInOrder_r2 c_order c_above_r2 c_below_r2 c_merged (c_start_r2 (p1).toNatClampNeg) (c_start_r2 ((p1 + (1 : Int32))).toNatClampNeg) (c_order_r56, c_merged_r56) hq56) (cwV 2 hts gX7_bySize_X7_putInOrder rfl rfl rfl ⟨rfl, cdX7_putInOrder⟩ ⟨Nat.le_of_ble_eq_true rfl, Nat.le_of_ble_eq_true rfl⟩) (zPV hK hP hD [0, 11, 6, 7, 12] rfl rfl (q0 := 0) (ci := 7) rfl rfl rfl) rfl rfl hl.1 rfl (lv_room (Nat.le_of_ble_eq_true rfl)) dX7_bySize_56 ⟨Nat.zero_le _, Nat.zero_le _⟩) hP hD hS hA [0, 11, 6, 7, 12] [1, 2, 3, 4, 5, 8, 9, 10] [8, 0, 1, 2, 3, 4, 10, 11, 5, 6, 7, 9, 12] rfl rfl rfl rfl (fun H locs hP hD hS => ?_)
        refine lv_aload_n hx hb dX7_bySize_59 rfl (lv_at hl 0 rfl) ?_
        refine lv_dup hx hb dX7_bySize_60 rfl ?_
        refine va_get (D := D) (ci := 7) (v := .int c_levelsInOrder_r2) (C := RX7) (T := TX7) (N := 14) hx hb hts uX7_bySize_X7 hown hK.1 hP 0 rfl rfl 13 (by decide) (hts (.fieldLink RX7 74 "WishedResistor$Reached" "levelsInOrder" "I") (List.mem_of_getElem? (i := 2) rfl)) (fun _ h9 => h9) rfl dX7_bySize_61 ?_
        refine lv_iconst (v := (1 : Int32)) hx hb dX7_bySize_64 (by decide) ?_
        refine lv_iload_n hx hb dX7_bySize_65 rfl (lv_at hl 1 rfl) ?_
        refine lv_ishl hx hb dX7_bySize_66 ?_
        refine lv_ior hx hb dX7_bySize_67 ?_
        refine va_put (D := D) (ci := 7) (v := .int (c_levelsInOrder_r2 ||| ((1 : Int32) <<< (p1 &&& 31)))) (ty := .int) (C := RX7) (T := TX7) (N := 14) hx hb hts uX7_bySize_X7 tyX7 tyX7_ok nmX7 hown hK.1 hP hD hS 0 rfl rfl 13 (by decide) (hts (.fieldLink RX7 74 "WishedResistor$Reached" "levelsInOrder" "I") (List.mem_of_getElem? (i := 2) rfl)) (fun _ h9 => h9) rfl (by decide +kernel) rfl rfl (Nat.le_of_ble_eq_true rfl) dX7_bySize_68 (fun H locs hP hD hS => ?_)
        have hP : va_P D vwCl (wdX7_bySize cy b b_box b_above b_below b_kind b_first b_second b_order b_merged b_table b_start b_builtFor b_box_ohms b_box_spread c_size_r2 c_levels_r2 (c_levelsInOrder_r2 ||| ((1 : Int32) <<< (p1 &&& 31))) c_builtFor_r2 c_box_ohms c_table_r2 c_start_r2 c_above_r2 c_below_r2 c_kind_r2 c_first_r2 c_second_r2 c_order_r56 c_merged_r56) H := hP
        have hD : va_D A (wdX7_bySize cy b b_box b_above b_below b_kind b_first b_second b_order b_merged b_table b_start b_builtFor b_box_ohms b_box_spread c_size_r2 c_levels_r2 (c_levelsInOrder_r2 ||| ((1 : Int32) <<< (p1 &&& 31))) c_builtFor_r2 c_box_ohms c_table_r2 c_start_r2 c_above_r2 c_below_r2 c_kind_r2 c_first_r2 c_second_r2 c_order_r56 c_merged_r56) := hD
        exact hJ71 (c_levelsInOrder_r2 ||| ((1 : Int32) <<< (p1 &&& 31))) c_order_r56 c_merged_r56 _ _ _ hP hD hS (lv_sub hl [0, 1, 2] rfl) h
    · replace h := zi_f hc25 h
      refine lv_iconst (v := (-1 : Int32)) hx hb dX7_bySize_28 (by decide) ?_
      exact hret (o := ((-1 : Int32), c_size_r2, c_levels_r2, c_levelsInOrder_r2, c_builtFor_r2, c_table_r2, c_start_r2, c_above_r2, c_below_r2, c_kind_r2, c_first_r2, c_second_r2, c_order, c_merged)) h hP hD hS dX7_bySize_29

theorem uX7_isNearer_X7 : ∀ w ∈ u_ws RX7 TX7 14, w ∈ wsX7_isNearer := fun w h => (List.mem_cons_of_mem _ (List.mem_append_right _ h))
abbrev wdX7_isNearer (cy : Nat → ClassId) (b b_box b_above b_below b_kind b_first b_second b_order b_merged b_table b_start b_builtFor : Nat) (c_size c_levels c_levelsInOrder : Int32) (c_below c_start c_above : Nat → Int32) : va_W := [(b, .inr (7, [.ref b_box, .ref b_above, .ref b_below, .ref b_kind, .ref b_first, .ref b_second, .ref b_order, .ref b_merged, .ref b_table, .ref b_start, .ref b_builtFor, .int c_size, .int c_levels, .int c_levelsInOrder])), (b_below, .inl (cy 0, 1884, .inl c_below)), (b_start, .inl (cy 0, 6, .inl c_start)), (b_above, .inl (cy 0, 1884, .inl c_above))]
abbrev rmX7_isNearer : Room := { frames := 1, cells := 0, slots := 0, locals := 22 }
theorem cdX7_isNearer : (yX7_isNearer).cls ≠ "java/lang/invoke/MethodHandle" ∧ (yX7_isNearer).cls ≠ "java/lang/invoke/VarHandle" ∧ (parseMethodDescriptor (yX7_isNearer).desc).map (fun d => d.parameters.length) = some 4 := by decide +kernel
def fX7_isNearer (p1 : Int32) (p2 : Int64) (p3 : Int32) (p4 : Int64) (c_levels : Int32) (c_below c_start c_above : Nat → Int32) : Option (Int32) :=
  zg (zin p3 1884) (zg (zin p1 1884) (if (p2 * (((c_below (p3).toNatClampNeg)).toInt64)) = (p4 * (((c_below (p1).toNatClampNeg)).toInt64)) then (zb1 (fX7_partsOf p1 c_levels c_start) (fun r48 => zb1 (fX7_partsOf p3 c_levels c_start) (fun r54 => if r48 = r54 then (zb1 (fX7_isLess p1 p3 c_above c_below) (fun r64 => if r64 = 0 then (some ((0 : Int32))) else (some ((1 : Int32))))) else (some ((0 : Int32)))))) else (if (p4 * (((c_below (p1).toNatClampNeg)).toInt64)) ≤ (p2 * (((c_below (p3).toNatClampNeg)).toInt64)) then (some ((0 : Int32))) else (some ((1 : Int32))))))
set_option maxHeartbeats 4000000 in
set_option maxRecDepth 100000 in
theorem mX7_isNearer (l : Launch) (D : va_G) (cy : Nat → ClassId) (sz : Nat) (b b_box b_above b_below b_kind b_first b_second b_order b_merged b_table b_start b_builtFor : Nat) (c_size c_levels c_levelsInOrder : Int32) (c_below c_start c_above : Nat → Int32) (p1 : Int32) (p2 : Int64) (p3 : Int32) (p4 : Int64) (res : (Int32)) (h : fX7_isNearer p1 p2 p3 p4 c_levels c_below c_start c_above = some res) : zMz l yX7_isNearer wsX7_isNearer rmX7_isNearer [.ref b, .int p1, .long p2, .int p3, .long p4] D cy (wdX7_isNearer cy b b_box b_above b_below b_kind b_first b_second b_order b_merged b_table b_start b_builtFor c_size c_levels c_levelsInOrder c_below c_start c_above) sz ((fun (o : (Int32)) => o) res) ((fun (o : (Int32)) => (wdX7_isNearer cy b b_box b_above b_below b_kind b_first b_second b_order b_merged b_table b_start b_builtFor c_size c_levels c_levelsInOrder c_below c_start c_above)) res) := by
  refine zOfz (res := res) (rf := (fun (o : (Int32)) => o)) (Wf := (fun (o : (Int32)) => (wdX7_isNearer cy b b_box b_above b_below b_kind b_first b_second b_order b_merged b_table b_start b_builtFor c_size c_levels c_levelsInOrder c_below c_start c_above))) (by decide +kernel) rfl (Nat.le_of_ble_eq_true rfl) ?_
  intro p e s m args below meth c A ls Q hx hb hml hts hown hP hK hD hA hS hl hret
  have hown : s.vm.findClass RX7 = some m.cls := hown
  have hl : lv_has ls 11 [(0, .ref b), (1, .int p1), (2, .long p2), (4, .int p3), (5, .long p4)] := hl
  refine lv_lload_n hx hb dX7_isNearer_0 rfl (lv_at hl 2 rfl) ?_
  refine lv_aload_n hx hb dX7_isNearer_1 rfl (lv_at hl 0 rfl) ?_
  refine va_get (D := D) (ci := 7) (v := .ref b_below) (C := RX7) (T := TX7) (N := 14) hx hb hts uX7_isNearer_X7 hown hK.1 hP 0 rfl rfl 2 (by decide) (hts (.fieldLink RX7 15 "WishedResistor$Reached" "below" "[I") (List.mem_of_getElem? (i := 1) rfl)) (fun _ h9 => h9) rfl dX7_isNearer_2 ?_
  refine lv_iload hx hb dX7_isNearer_5 (lv_at hl 3 rfl) ?_
  obtain ⟨hi7, h⟩ := zg_s h
  refine va_iald hx hb hK.1 hP 1 0 rfl rfl hi7 dX7_isNearer_7 ?_
  refine lv_i2l hx hb dX7_isNearer_8 rfl ?_
  refine lv_lmul hx hb dX7_isNearer_9 ?_
  refine lv_lstore (lv' := [(7, .long (p2 * (((c_below (p3).toNatClampNeg)).toInt64))), (0, .ref b), (1, .int p1), (2, .long p2), (4, .int p3), (5, .long p4)]) hx hb dX7_isNearer_10 hl (Nat.le_of_ble_eq_true rfl) rfl (fun ls hl => ?_)
  refine lv_lload hx hb dX7_isNearer_12 (lv_at hl 5 rfl) ?_
  refine lv_aload_n hx hb dX7_isNearer_14 rfl (lv_at hl 1 rfl) ?_
  refine va_get (D := D) (ci := 7) (v := .ref b_below) (C := RX7) (T := TX7) (N := 14) hx hb hts uX7_isNearer_X7 hown hK.1 hP 0 rfl rfl 2 (by decide) (hts (.fieldLink RX7 15 "WishedResistor$Reached" "below" "[I") (List.mem_of_getElem? (i := 1) rfl)) (fun _ h9 => h9) rfl dX7_isNearer_15 ?_
  refine lv_iload_n hx hb dX7_isNearer_18 rfl (lv_at hl 2 rfl) ?_
  obtain ⟨hi19, h⟩ := zg_s h
  refine va_iald hx hb hK.1 hP 1 0 rfl rfl hi19 dX7_isNearer_19 ?_
  refine lv_i2l hx hb dX7_isNearer_20 rfl ?_
  refine lv_lmul hx hb dX7_isNearer_21 ?_
  refine lv_lstore (lv' := [(9, .long (p4 * (((c_below (p1).toNatClampNeg)).toInt64))), (7, .long (p2 * (((c_below (p3).toNatClampNeg)).toInt64))), (0, .ref b), (1, .int p1), (2, .long p2), (4, .int p3), (5, .long p4)]) hx hb dX7_isNearer_22 hl (Nat.le_of_ble_eq_true rfl) rfl (fun ls hl => ?_)
  refine lv_lload hx hb dX7_isNearer_24 (lv_at hl 1 rfl) ?_
  refine lv_lload hx hb dX7_isNearer_26 (lv_at hl 0 rfl) ?_
  refine W.lcmp hx hb dX7_isNearer_28 ?_
  refine lv_if_eq (tgt := 46) hx hb dX7_isNearer_29 (by decide) (fun hc29 => ?_) (fun hc29 => ?_)
  · replace hc29 := (zc_eq _ _).mp hc29
    replace h := zi_t hc29 h
    refine lv_aload_n hx hb dX7_isNearer_46 rfl (lv_at hl 2 rfl) ?_
    refine lv_iload_n hx hb dX7_isNearer_47 rfl (lv_at hl 3 rfl) ?_
    obtain ⟨r48, hq48, h⟩ := zb1_s h
    refine zCi (r0 := r48) (w1 := (wdX7_partsOf cy b b_box b_above b_below b_kind b_first b_second b_order b_merged b_table b_start b_builtFor c_size c_levels c_levelsInOrder c_start)) (ws' := (wdX7_isNearer cy b b_box b_above b_below b_kind b_first b_second b_order b_merged b_table b_start b_builtFor c_size c_levels c_levelsInOrder c_below c_start c_above)) (va_runV (As := [.int p1]) (rest := []) ⟨hx, hb, hml, hown, hts⟩ (mX7_partsOf l D cy s.heap.size b b_box b_above b_below b_kind b_first b_second b_order b_merged b_table b_start b_builtFor c_size c_levels c_levelsInOrder c_start p1 (r48) hq48) (cwV 1 hts gX7_isNearer_X7_partsOf rfl rfl rfl ⟨rfl, cdX7_partsOf⟩ ⟨Nat.le_of_ble_eq_true rfl, Nat.le_of_ble_eq_true rfl⟩) (zPV hK hP hD [0, 2] rfl rfl (q0 := 0) (ci := 7) rfl rfl rfl) rfl rfl hl.1 rfl (lv_room (Nat.le_of_ble_eq_true rfl)) dX7_isNearer_48 ⟨Nat.zero_le _, Nat.zero_le _⟩) hP hD hS hA [0, 2] [1, 3] [2, 0, 3, 1] rfl rfl rfl rfl (fun H locs hP hD hS => ?_)
    refine lv_aload_n hx hb dX7_isNearer_51 rfl (lv_at hl 2 rfl) ?_
    refine lv_iload hx hb dX7_isNearer_52 (lv_at hl 5 rfl) ?_
    obtain ⟨r54, hq54, h⟩ := zb1_s h
    refine zCi (r0 := r54) (w1 := (wdX7_partsOf cy b b_box b_above b_below b_kind b_first b_second b_order b_merged b_table b_start b_builtFor c_size c_levels c_levelsInOrder c_start)) (ws' := (wdX7_isNearer cy b b_box b_above b_below b_kind b_first b_second b_order b_merged b_table b_start b_builtFor c_size c_levels c_levelsInOrder c_below c_start c_above)) (va_runV (As := [.int p3]) (rest := [.int r48]) ⟨hx, hb, hml, hown, hts⟩ (mX7_partsOf l D cy H.size b b_box b_above b_below b_kind b_first b_second b_order b_merged b_table b_start b_builtFor c_size c_levels c_levelsInOrder c_start p3 (r54) hq54) (cwV 1 hts gX7_isNearer_X7_partsOf rfl rfl rfl ⟨rfl, cdX7_partsOf⟩ ⟨Nat.le_of_ble_eq_true rfl, Nat.le_of_ble_eq_true rfl⟩) (zPV hK hP hD [0, 2] rfl rfl (q0 := 0) (ci := 7) rfl rfl rfl) rfl rfl hl.1 rfl (lv_room (Nat.le_of_ble_eq_true rfl)) dX7_isNearer_54 ⟨Nat.zero_le _, Nat.zero_le _⟩) hP hD hS hA [0, 2] [1, 3] [2, 0, 3, 1] rfl rfl rfl rfl (fun H locs hP hD hS => ?_)
    refine lv_icmp_ne (tgt := 74) hx hb dX7_isNearer_57 (by decide) (fun hc57 => ?_) (fun hc57 => ?_)
    · replace h := zi_f hc57 h
      refine lv_iconst (v := (0 : Int32)) hx hb dX7_isNearer_74 (by decide) ?_
      exact hret (o := ((0 : Int32))) h (show narrow .boolean (.int (0 : Int32)) = .int (0 : Int32) from by decide) hP hD hS dX7_isNearer_75
    · replace h := zi_t hc57 h
      refine lv_aload_n hx hb dX7_isNearer_60 rfl (lv_at hl 2 rfl) ?_
      refine lv_iload_n hx hb dX7_isNearer_61 rfl (lv_at hl 3 rfl) ?_
      refine lv_iload hx hb dX7_isNearer_62 (lv_at hl 5 rfl) ?_
      obtain ⟨r64, hq64, h⟩ := zb1_s h
      refine zCz (r0 := r64) (w1 := (wdX7_isLess cy b b_box b_above b_below b_kind b_first b_second b_order b_merged b_table b_start b_builtFor c_size c_levels c_levelsInOrder c_above c_below)) (ws' := (wdX7_isNearer cy b b_box b_above b_below b_kind b_first b_second b_order b_merged b_table b_start b_builtFor c_size c_levels c_levelsInOrder c_below c_start c_above)) (va_runV (As := [.int p1, .int p3]) (rest := []) ⟨hx, hb, hml, hown, hts⟩ (mX7_isLess l D cy H.size b b_box b_above b_below b_kind b_first b_second b_order b_merged b_table b_start b_builtFor c_size c_levels c_levelsInOrder c_above c_below p1 p3 (r64) hq64) (cwV 2 hts gX7_isNearer_X7_isLess rfl rfl rfl ⟨rfl, cdX7_isLess⟩ ⟨Nat.le_of_ble_eq_true rfl, Nat.le_of_ble_eq_true rfl⟩) (zPV hK hP hD [0, 3, 1] rfl rfl (q0 := 0) (ci := 7) rfl rfl rfl) rfl rfl hl.1 rfl (lv_room (Nat.le_of_ble_eq_true rfl)) dX7_isNearer_64 ⟨Nat.zero_le _, Nat.zero_le _⟩) hP hD hS hA [0, 3, 1] [2] [1, 3, 0, 2] rfl rfl rfl rfl (fun H locs hn64 hP hD hS => ?_)
      refine lv_if_eq (tgt := 74) hx hb dX7_isNearer_67 (by decide) (fun hc67 => ?_) (fun hc67 => ?_)
      · replace h := zi_t hc67 h
        refine lv_iconst (v := (0 : Int32)) hx hb dX7_isNearer_74 (by decide) ?_
        exact hret (o := ((0 : Int32))) h (show narrow .boolean (.int (0 : Int32)) = .int (0 : Int32) from by decide) hP hD hS dX7_isNearer_75
      · replace h := zi_f hc67 h
        refine lv_iconst (v := (1 : Int32)) hx hb dX7_isNearer_70 (by decide) ?_
        refine lv_goto (tgt := 75) hx hb dX7_isNearer_71 (by decide) ?_
        exact hret (o := ((1 : Int32))) h (show narrow .boolean (.int (1 : Int32)) = .int (1 : Int32) from by decide) hP hD hS dX7_isNearer_75
  · replace hc29 := fun q => hc29 ((zc_eq _ _).mpr q)
    replace h := zi_f hc29 h
    refine lv_lload hx hb dX7_isNearer_32 (lv_at hl 1 rfl) ?_
    refine lv_lload hx hb dX7_isNearer_34 (lv_at hl 0 rfl) ?_
    refine W.lcmp hx hb dX7_isNearer_36 ?_
    refine lv_if_ge (tgt := 44) hx hb dX7_isNearer_37 (by decide) (fun hc37 => ?_) (fun hc37 => ?_)
    · replace hc37 := (zc_ge _ _).mp hc37
      replace h := zi_t hc37 h
      refine lv_iconst (v := (0 : Int32)) hx hb dX7_isNearer_44 (by decide) ?_
      exact hret (o := ((0 : Int32))) h (show narrow .boolean (.int (0 : Int32)) = .int (0 : Int32) from by decide) hP hD hS dX7_isNearer_45
    · replace hc37 := fun q => hc37 ((zc_ge _ _).mpr q)
      replace h := zi_f hc37 h
      refine lv_iconst (v := (1 : Int32)) hx hb dX7_isNearer_40 (by decide) ?_
      refine lv_goto (tgt := 45) hx hb dX7_isNearer_41 (by decide) ?_
      exact hret (o := ((1 : Int32))) h (show narrow .boolean (.int (1 : Int32)) = .int (1 : Int32) from by decide) hP hD hS dX7_isNearer_45

theorem uX7_nearestTo_X7 : ∀ w ∈ u_ws RX7 TX7 14, w ∈ wsX7_nearestTo := fun w h => (List.mem_cons_of_mem _ (List.mem_append_left _ (List.mem_append_right _ h)))
abbrev wdX7_nearestTo (cy : Nat → ClassId) (b b_box b_above b_below b_kind b_first b_second b_order b_merged b_table b_start b_builtFor b_box_ohms b_box_spread : Nat) (c_size c_levels c_levelsInOrder : Int32) (c_builtFor c_box_ohms c_table c_start c_above c_below c_kind c_first c_second : Nat → Int32) : va_W := [(b, .inr (7, [.ref b_box, .ref b_above, .ref b_below, .ref b_kind, .ref b_first, .ref b_second, .ref b_order, .ref b_merged, .ref b_table, .ref b_start, .ref b_builtFor, .int c_size, .int c_levels, .int c_levelsInOrder])), (b_builtFor, .inl (cy 0, 4, .inl c_builtFor)), (b_box, .inr (0, [.ref b_box_ohms, .ref b_box_spread])), (b_box_ohms, .inl (cy 0, 4, .inl c_box_ohms)), (b_table, .inl (cy 0, 4096, .inl c_table)), (b_start, .inl (cy 0, 6, .inl c_start)), (b_above, .inl (cy 0, 1884, .inl c_above)), (b_below, .inl (cy 0, 1884, .inl c_below)), (b_kind, .inl (cy 0, 1884, .inl c_kind)), (b_first, .inl (cy 0, 1884, .inl c_first)), (b_second, .inl (cy 0, 1884, .inl c_second))]
abbrev rmX7_nearestTo : Room := { frames := 4, cells := 0, slots := 0, locals := 111 }
theorem cdX7_nearestTo : (yX7_nearestTo).cls ≠ "java/lang/invoke/MethodHandle" ∧ (yX7_nearestTo).cls ≠ "java/lang/invoke/VarHandle" ∧ (parseMethodDescriptor (yX7_nearestTo).desc).map (fun d => d.parameters.length) = some 3 := by decide +kernel
def fX7_nearestTo_L14 (p1 p2 p3 c_size_r2 c_levels_r2 c_levelsInOrder_r2 : Int32) (c_builtFor_r2 c_table_r2 c_start_r2 c_above_r2 c_below_r2 c_kind_r2 c_first_r2 c_second_r2 : Nat → Int32) : Nat → Int32 → Int64 → Int32 → Option (Int32 × Int32 × Int32 × Int32 × (Nat → Int32) × (Nat → Int32) × (Nat → Int32) × (Nat → Int32) × (Nat → Int32) × (Nat → Int32) × (Nat → Int32) × (Nat → Int32)) :=
  zl3 (fun rec14 v4_14 v5_14 v7_14 => zg (zin (p3 + (1 : Int32)) 6) (if (c_start_r2 ((p3 + (1 : Int32))).toNatClampNeg) ≤ v7_14 then (some (v4_14, c_size_r2, c_levels_r2, c_levelsInOrder_r2, c_builtFor_r2, c_table_r2, c_start_r2, c_above_r2, c_below_r2, c_kind_r2, c_first_r2, c_second_r2)) else (zg (zin v7_14 1884) (zg (zin v7_14 1884) (if v4_14 = (-1 : Int32) then (rec14 v7_14 (if 0 < (((((c_above_r2 (v7_14).toNatClampNeg)).toInt64) * ((p2).toInt64)) - ((((c_below_r2 (v7_14).toNatClampNeg)).toInt64) * ((p1).toInt64))) then (((((c_above_r2 (v7_14).toNatClampNeg)).toInt64) * ((p2).toInt64)) - ((((c_below_r2 (v7_14).toNatClampNeg)).toInt64) * ((p1).toInt64))) else -(((((c_above_r2 (v7_14).toNatClampNeg)).toInt64) * ((p2).toInt64)) - ((((c_below_r2 (v7_14).toNatClampNeg)).toInt64) * ((p1).toInt64)))) (v7_14 + (1 : Int32))) else (zb1 (fX7_isNearer v7_14 (if 0 < (((((c_above_r2 (v7_14).toNatClampNeg)).toInt64) * ((p2).toInt64)) - ((((c_below_r2 (v7_14).toNatClampNeg)).toInt64) * ((p1).toInt64))) then (((((c_above_r2 (v7_14).toNatClampNeg)).toInt64) * ((p2).toInt64)) - ((((c_below_r2 (v7_14).toNatClampNeg)).toInt64) * ((p1).toInt64))) else -(((((c_above_r2 (v7_14).toNatClampNeg)).toInt64) * ((p2).toInt64)) - ((((c_below_r2 (v7_14).toNatClampNeg)).toInt64) * ((p1).toInt64)))) v4_14 v5_14 c_levels_r2 c_below_r2 c_start_r2 c_above_r2) (fun r70 => if r70 = 0 then (rec14 v4_14 v5_14 (v7_14 + (1 : Int32))) else (rec14 v7_14 (if 0 < (((((c_above_r2 (v7_14).toNatClampNeg)).toInt64) * ((p2).toInt64)) - ((((c_below_r2 (v7_14).toNatClampNeg)).toInt64) * ((p1).toInt64))) then (((((c_above_r2 (v7_14).toNatClampNeg)).toInt64) * ((p2).toInt64)) - ((((c_below_r2 (v7_14).toNatClampNeg)).toInt64) * ((p1).toInt64))) else -(((((c_above_r2 (v7_14).toNatClampNeg)).toInt64) * ((p2).toInt64)) - ((((c_below_r2 (v7_14).toNatClampNeg)).toInt64) * ((p1).toInt64)))) (v7_14 + (1 : Int32))))))))))
def fX7_nearestTo (p1 p2 p3 c_size c_levels c_levelsInOrder : Int32) (c_builtFor c_box_ohms c_table c_start c_above c_below c_kind c_first c_second : Nat → Int32) : Option (Int32 × Int32 × Int32 × Int32 × (Nat → Int32) × (Nat → Int32) × (Nat → Int32) × (Nat → Int32) × (Nat → Int32) × (Nat → Int32) × (Nat → Int32) × (Nat → Int32)) :=
  zb11 (fX7_build p3 c_size c_levels c_levelsInOrder c_builtFor c_box_ohms c_table c_start c_above c_below c_kind c_first c_second) (fun c_size_r2 c_levels_r2 c_levelsInOrder_r2 c_builtFor_r2 c_table_r2 c_start_r2 c_above_r2 c_below_r2 c_kind_r2 c_first_r2 c_second_r2 => fX7_nearestTo_L14 p1 p2 p3 c_size_r2 c_levels_r2 c_levelsInOrder_r2 c_builtFor_r2 c_table_r2 c_start_r2 c_above_r2 c_below_r2 c_kind_r2 c_first_r2 c_second_r2 5000 (-1 : Int32) (0 : Int64) (0 : Int32))
set_option maxHeartbeats 4000000 in
set_option maxRecDepth 100000 in
theorem mX7_nearestTo (l : Launch) (D : va_G) (cy : Nat → ClassId) (sz : Nat) (b b_box b_above b_below b_kind b_first b_second b_order b_merged b_table b_start b_builtFor b_box_ohms b_box_spread : Nat) (c_size c_levels c_levelsInOrder : Int32) (c_builtFor c_box_ohms c_table c_start c_above c_below c_kind c_first c_second : Nat → Int32) (p1 p2 p3 : Int32) (res : (Int32 × Int32 × Int32 × Int32 × (Nat → Int32) × (Nat → Int32) × (Nat → Int32) × (Nat → Int32) × (Nat → Int32) × (Nat → Int32) × (Nat → Int32) × (Nat → Int32))) (h : fX7_nearestTo p1 p2 p3 c_size c_levels c_levelsInOrder c_builtFor c_box_ohms c_table c_start c_above c_below c_kind c_first c_second = some res) : zMi l yX7_nearestTo wsX7_nearestTo rmX7_nearestTo [.ref b, .int p1, .int p2, .int p3] D cy (wdX7_nearestTo cy b b_box b_above b_below b_kind b_first b_second b_order b_merged b_table b_start b_builtFor b_box_ohms b_box_spread c_size c_levels c_levelsInOrder c_builtFor c_box_ohms c_table c_start c_above c_below c_kind c_first c_second) sz ((fun (o : (Int32 × Int32 × Int32 × Int32 × (Nat → Int32) × (Nat → Int32) × (Nat → Int32) × (Nat → Int32) × (Nat → Int32) × (Nat → Int32) × (Nat → Int32) × (Nat → Int32))) => o.1) res) ((fun (o : (Int32 × Int32 × Int32 × Int32 × (Nat → Int32) × (Nat → Int32) × (Nat → Int32) × (Nat → Int32) × (Nat → Int32) × (Nat → Int32) × (Nat → Int32) × (Nat → Int32))) => (wdX7_nearestTo cy b b_box b_above b_below b_kind b_first b_second b_order b_merged b_table b_start b_builtFor b_box_ohms b_box_spread (o.2.1) (o.2.2.1) (o.2.2.2.1) (o.2.2.2.2.1) c_box_ohms (o.2.2.2.2.2.1) (o.2.2.2.2.2.2.1) (o.2.2.2.2.2.2.2.1) (o.2.2.2.2.2.2.2.2.1) (o.2.2.2.2.2.2.2.2.2.1) (o.2.2.2.2.2.2.2.2.2.2.1) (o.2.2.2.2.2.2.2.2.2.2.2))) res) := by
  refine zOfi (res := res) (rf := (fun (o : (Int32 × Int32 × Int32 × Int32 × (Nat → Int32) × (Nat → Int32) × (Nat → Int32) × (Nat → Int32) × (Nat → Int32) × (Nat → Int32) × (Nat → Int32) × (Nat → Int32))) => o.1)) (Wf := (fun (o : (Int32 × Int32 × Int32 × Int32 × (Nat → Int32) × (Nat → Int32) × (Nat → Int32) × (Nat → Int32) × (Nat → Int32) × (Nat → Int32) × (Nat → Int32) × (Nat → Int32))) => (wdX7_nearestTo cy b b_box b_above b_below b_kind b_first b_second b_order b_merged b_table b_start b_builtFor b_box_ohms b_box_spread (o.2.1) (o.2.2.1) (o.2.2.2.1) (o.2.2.2.2.1) c_box_ohms (o.2.2.2.2.2.1) (o.2.2.2.2.2.2.1) (o.2.2.2.2.2.2.2.1) (o.2.2.2.2.2.2.2.2.1) (o.2.2.2.2.2.2.2.2.2.1) (o.2.2.2.2.2.2.2.2.2.2.1) (o.2.2.2.2.2.2.2.2.2.2.2)))) (by decide +kernel) rfl (Nat.le_of_ble_eq_true rfl) ?_
  intro p e s m args below meth c A ls Q hx hb hml hts hown hP hK hD hA hS hl hret
  have hown : s.vm.findClass RX7 = some m.cls := hown
  have hl : lv_has ls 10 [(0, .ref b), (1, .int p1), (2, .int p2), (3, .int p3)] := hl
  refine lv_aload_n hx hb dX7_nearestTo_0 rfl (lv_at hl 0 rfl) ?_
  refine lv_iload_n hx hb dX7_nearestTo_1 rfl (lv_at hl 3 rfl) ?_
  obtain ⟨c_size_r2, c_levels_r2, c_levelsInOrder_r2, c_builtFor_r2, c_table_r2, c_start_r2, c_above_r2, c_below_r2, c_kind_r2, c_first_r2, c_second_r2, hq2, h⟩ := zb11_s h
  refine zCv (w1 := (wdX7_build cy b b_box b_above b_below b_kind b_first b_second b_order b_merged b_table b_start b_builtFor b_box_ohms b_box_spread c_size_r2 c_levels_r2 c_levelsInOrder_r2 c_builtFor_r2 c_box_ohms c_table_r2 c_start_r2 c_above_r2 c_below_r2 c_kind_r2 c_first_r2 c_second_r2)) (ws' := (wdX7_nearestTo cy b b_box b_above b_below b_kind b_first b_second b_order b_merged b_table b_start b_builtFor b_box_ohms b_box_spread c_size_r2 c_levels_r2 c_levelsInOrder_r2 c_builtFor_r2 c_box_ohms c_table_r2 c_start_r2 c_above_r2 c_below_r2 c_kind_r2 c_first_r2 c_second_r2)) (va_runV (As := [.int p3]) (rest := []) ⟨hx, hb, hml, hown, hts⟩ (mX7_build l D cy s.heap.size b b_box b_above b_below b_kind b_first b_second b_order b_merged b_table b_start b_builtFor b_box_ohms b_box_spread c_size c_levels c_levelsInOrder c_builtFor c_box_ohms c_table c_start c_above c_below c_kind c_first c_second p3 (c_size_r2, c_levels_r2, c_levelsInOrder_r2, c_builtFor_r2, c_table_r2, c_start_r2, c_above_r2, c_below_r2, c_kind_r2, c_first_r2, c_second_r2) hq2) (cwV 1 hts gX7_nearestTo_X7_build rfl rfl rfl ⟨rfl, cdX7_build⟩ ⟨Nat.le_of_ble_eq_true rfl, Nat.le_of_ble_eq_true rfl⟩) (zPV hK hP hD [0, 1, 2, 3, 4, 5, 6, 7, 8, 9, 10] rfl rfl (q0 := 0) (ci := 7) rfl rfl rfl) rfl rfl hl.1 rfl (lv_room (Nat.le_of_ble_eq_true rfl)) dX7_nearestTo_2 ⟨Nat.zero_le _, Nat.zero_le _⟩) hP hD hS hA [0, 1, 2, 3, 4, 5, 6, 7, 8, 9, 10] [] [0, 1, 2, 3, 4, 5, 6, 7, 8, 9, 10] rfl rfl rfl rfl (fun H locs hP hD hS => ?_)
  refine lv_iconst (v := (-1 : Int32)) hx hb dX7_nearestTo_5 (by decide) ?_
  refine lv_istore (lv' := [(4, .int (-1 : Int32)), (0, .ref b), (1, .int p1), (2, .int p2), (3, .int p3)]) hx hb dX7_nearestTo_6 hl (Nat.le_of_ble_eq_true rfl) rfl (fun ls hl => ?_)
  refine lv_lconst (v := (0 : Int64)) hx hb dX7_nearestTo_8 (by decide) ?_
  refine lv_lstore (lv' := [(5, .long (0 : Int64)), (4, .int (-1 : Int32)), (0, .ref b), (1, .int p1), (2, .int p2), (3, .int p3)]) hx hb dX7_nearestTo_9 hl (Nat.le_of_ble_eq_true rfl) rfl (fun ls hl => ?_)
  refine lv_iconst (v := (0 : Int32)) hx hb dX7_nearestTo_11 (by decide) ?_
  refine lv_istore (lv' := [(7, .int (0 : Int32)), (5, .long (0 : Int64)), (4, .int (-1 : Int32)), (0, .ref b), (1, .int p1), (2, .int p2), (3, .int p3)]) hx hb dX7_nearestTo_12 hl (Nat.le_of_ble_eq_true rfl) rfl (fun ls hl => ?_)
  have hL14 : ∀ n14 : Nat, ∀ (v4_14 : Int32) (v5_14 : Int64) (v7_14 : Int32) (H : Heap) (locs : List Loc) (ls : Array Slot), va_P D vwCl (wdX7_nearestTo cy b b_box b_above b_below b_kind b_first b_second b_order b_merged b_table b_start b_builtFor b_box_ohms b_box_spread c_size_r2 c_levels_r2 c_levelsInOrder_r2 c_builtFor_r2 c_box_ohms c_table_r2 c_start_r2 c_above_r2 c_below_r2 c_kind_r2 c_first_r2 c_second_r2) H → va_D A (wdX7_nearestTo cy b b_box b_above b_below b_kind b_first b_second b_order b_merged b_table b_start b_builtFor b_box_ohms b_box_spread c_size_r2 c_levels_r2 c_levelsInOrder_r2 c_builtFor_r2 c_box_ohms c_table_r2 c_start_r2 c_above_r2 c_below_r2 c_kind_r2 c_first_r2 c_second_r2) → va_S A s.heap H locs → lv_has ls 10 [(0, .ref b), (1, .int p1), (2, .int p2), (3, .int p3), (4, .int v4_14), (5, .long v5_14), (7, .int v7_14)] → fX7_nearestTo_L14 p1 p2 p3 c_size_r2 c_levels_r2 c_levelsInOrder_r2 c_builtFor_r2 c_table_r2 c_start_r2 c_above_r2 c_below_r2 c_kind_r2 c_first_r2 c_second_r2 n14 v4_14 v5_14 v7_14 = some res → W p l e rmX7_nearestTo s m args below meth c H locs 0 0 Q (F0 m 14 ls []) := by
    intro n14
    induction n14 with
    | zero =>
      intro v4_14 v5_14 v7_14 H locs ls hP hD hS hl h
      exact zl3_0 h
    | succ n14 ih14 =>
      intro v4_14 v5_14 v7_14 H locs ls hP hD hS hl h
      replace h := zl3_s h
      refine lv_iload hx hb dX7_nearestTo_14 (lv_at hl 6 rfl) ?_
      refine lv_aload_n hx hb dX7_nearestTo_16 rfl (lv_at hl 0 rfl) ?_
      refine va_get (D := D) (ci := 7) (v := .ref b_start) (C := RX7) (T := TX7) (N := 14) hx hb hts uX7_nearestTo_X7 hown hK.1 hP 0 rfl rfl 9 (by decide) (hts (.fieldLink RX7 36 "WishedResistor$Reached" "start" "[I") (List.mem_of_getElem? (i := 1) rfl)) (fun _ h9 => h9) rfl dX7_nearestTo_17 ?_
      refine lv_iload_n hx hb dX7_nearestTo_20 rfl (lv_at hl 3 rfl) ?_
      refine lv_iconst (v := (1 : Int32)) hx hb dX7_nearestTo_21 (by decide) ?_
      refine lv_iadd hx hb dX7_nearestTo_22 ?_
      obtain ⟨hi23, h⟩ := zg_s h
      refine va_iald hx hb hK.1 hP 5 0 rfl rfl hi23 dX7_nearestTo_23 ?_
      refine lv_icmp_ge (tgt := 90) hx hb dX7_nearestTo_24 (by decide) (fun hc24 => ?_) (fun hc24 => ?_)
      · replace h := zi_t hc24 h
        refine lv_iload hx hb dX7_nearestTo_90 (lv_at hl 4 rfl) ?_
        exact hret (o := (v4_14, c_size_r2, c_levels_r2, c_levelsInOrder_r2, c_builtFor_r2, c_table_r2, c_start_r2, c_above_r2, c_below_r2, c_kind_r2, c_first_r2, c_second_r2)) h hP hD hS dX7_nearestTo_92
      · replace h := zi_f hc24 h
        refine lv_aload_n hx hb dX7_nearestTo_27 rfl (lv_at hl 0 rfl) ?_
        refine va_get (D := D) (ci := 7) (v := .ref b_above) (C := RX7) (T := TX7) (N := 14) hx hb hts uX7_nearestTo_X7 hown hK.1 hP 0 rfl rfl 1 (by decide) (hts (.fieldLink RX7 11 "WishedResistor$Reached" "above" "[I") (List.mem_of_getElem? (i := 2) rfl)) (fun _ h9 => h9) rfl dX7_nearestTo_28 ?_
        refine lv_iload hx hb dX7_nearestTo_31 (lv_at hl 6 rfl) ?_
        obtain ⟨hi33, h⟩ := zg_s h
        refine va_iald hx hb hK.1 hP 6 0 rfl rfl hi33 dX7_nearestTo_33 ?_
        refine lv_i2l hx hb dX7_nearestTo_34 rfl ?_
        refine lv_iload_n hx hb dX7_nearestTo_35 rfl (lv_at hl 2 rfl) ?_
        refine lv_i2l hx hb dX7_nearestTo_36 rfl ?_
        refine lv_lmul hx hb dX7_nearestTo_37 ?_
        refine lv_aload_n hx hb dX7_nearestTo_38 rfl (lv_at hl 0 rfl) ?_
        refine va_get (D := D) (ci := 7) (v := .ref b_below) (C := RX7) (T := TX7) (N := 14) hx hb hts uX7_nearestTo_X7 hown hK.1 hP 0 rfl rfl 2 (by decide) (hts (.fieldLink RX7 15 "WishedResistor$Reached" "below" "[I") (List.mem_of_getElem? (i := 3) rfl)) (fun _ h9 => h9) rfl dX7_nearestTo_39 ?_
        refine lv_iload hx hb dX7_nearestTo_42 (lv_at hl 6 rfl) ?_
        obtain ⟨hi44, h⟩ := zg_s h
        refine va_iald hx hb hK.1 hP 7 0 rfl rfl hi44 dX7_nearestTo_44 ?_
        refine lv_i2l hx hb dX7_nearestTo_45 rfl ?_
        refine lv_iload_n hx hb dX7_nearestTo_46 rfl (lv_at hl 1 rfl) ?_
        refine lv_i2l hx hb dX7_nearestTo_47 rfl ?_
        refine lv_lmul hx hb dX7_nearestTo_48 ?_
        refine lv_lsub hx hb dX7_nearestTo_49 ?_
        refine va_mabs_long hx hb (hml.trans hl.1.symm) hown (hts (.methodLink RX7 121 Lib.MathLoose.abs_long.x) (List.mem_of_getElem? (i := 4) rfl)) (hts (.static Lib.MathLoose.abs_long.x) (List.mem_of_getElem? (i := 5) rfl)) (hts (.initialized "java/lang/Math") (List.mem_of_getElem? (i := 6) rfl)) (hts (.code Lib.MathLoose.abs_long.x Lib.MathLoose.abs_long.code 2 (some .long)) (List.mem_of_getElem? (i := 7) rfl)) (Nat.le_of_ble_eq_true rfl) (Nat.le_of_ble_eq_true rfl) (Nat.zero_le _) (Nat.zero_le _) dX7_nearestTo_50 ?_
        refine lv_lstore (lv' := [(8, .long (if 0 < (((((c_above_r2 (v7_14).toNatClampNeg)).toInt64) * ((p2).toInt64)) - ((((c_below_r2 (v7_14).toNatClampNeg)).toInt64) * ((p1).toInt64))) then (((((c_above_r2 (v7_14).toNatClampNeg)).toInt64) * ((p2).toInt64)) - ((((c_below_r2 (v7_14).toNatClampNeg)).toInt64) * ((p1).toInt64))) else -(((((c_above_r2 (v7_14).toNatClampNeg)).toInt64) * ((p2).toInt64)) - ((((c_below_r2 (v7_14).toNatClampNeg)).toInt64) * ((p1).toInt64))))), (0, .ref b), (1, .int p1), (2, .int p2), (3, .int p3), (4, .int v4_14), (5, .long v5_14), (7, .int v7_14)]) hx hb dX7_nearestTo_53 hl (Nat.le_of_ble_eq_true rfl) rfl (fun ls hl => ?_)
        refine lv_iload hx hb dX7_nearestTo_55 (lv_at hl 5 rfl) ?_
        refine lv_iconst (v := (-1 : Int32)) hx hb dX7_nearestTo_57 (by decide) ?_
        refine lv_icmp_eq (tgt := 76) hx hb dX7_nearestTo_58 (by decide) (fun hc58 => ?_) (fun hc58 => ?_)
        · replace h := zi_t hc58 h
          refine lv_iload hx hb dX7_nearestTo_76 (lv_at hl 7 rfl) ?_
          refine lv_istore (lv' := [(4, .int v7_14), (8, .long (if 0 < (((((c_above_r2 (v7_14).toNatClampNeg)).toInt64) * ((p2).toInt64)) - ((((c_below_r2 (v7_14).toNatClampNeg)).toInt64) * ((p1).toInt64))) then (((((c_above_r2 (v7_14).toNatClampNeg)).toInt64) * ((p2).toInt64)) - ((((c_below_r2 (v7_14).toNatClampNeg)).toInt64) * ((p1).toInt64))) else -(((((c_above_r2 (v7_14).toNatClampNeg)).toInt64) * ((p2).toInt64)) - ((((c_below_r2 (v7_14).toNatClampNeg)).toInt64) * ((p1).toInt64))))), (0, .ref b), (1, .int p1), (2, .int p2), (3, .int p3), (5, .long v5_14), (7, .int v7_14)]) hx hb dX7_nearestTo_78 hl (Nat.le_of_ble_eq_true rfl) rfl (fun ls hl => ?_)
          refine lv_lload hx hb dX7_nearestTo_80 (lv_at hl 1 rfl) ?_
          refine lv_lstore (lv' := [(5, .long (if 0 < (((((c_above_r2 (v7_14).toNatClampNeg)).toInt64) * ((p2).toInt64)) - ((((c_below_r2 (v7_14).toNatClampNeg)).toInt64) * ((p1).toInt64))) then (((((c_above_r2 (v7_14).toNatClampNeg)).toInt64) * ((p2).toInt64)) - ((((c_below_r2 (v7_14).toNatClampNeg)).toInt64) * ((p1).toInt64))) else -(((((c_above_r2 (v7_14).toNatClampNeg)).toInt64) * ((p2).toInt64)) - ((((c_below_r2 (v7_14).toNatClampNeg)).toInt64) * ((p1).toInt64))))), (4, .int v7_14), (8, .long (if 0 < (((((c_above_r2 (v7_14).toNatClampNeg)).toInt64) * ((p2).toInt64)) - ((((c_below_r2 (v7_14).toNatClampNeg)).toInt64) * ((p1).toInt64))) then (((((c_above_r2 (v7_14).toNatClampNeg)).toInt64) * ((p2).toInt64)) - ((((c_below_r2 (v7_14).toNatClampNeg)).toInt64) * ((p1).toInt64))) else -(((((c_above_r2 (v7_14).toNatClampNeg)).toInt64) * ((p2).toInt64)) - ((((c_below_r2 (v7_14).toNatClampNeg)).toInt64) * ((p1).toInt64))))), (0, .ref b), (1, .int p1), (2, .int p2), (3, .int p3), (7, .int v7_14)]) hx hb dX7_nearestTo_82 hl (Nat.le_of_ble_eq_true rfl) rfl (fun ls hl => ?_)
          refine lv_iinc (v := (v7_14 + (1 : Int32))) (lv' := [(7, .int (v7_14 + (1 : Int32))), (5, .long (if 0 < (((((c_above_r2 (v7_14).toNatClampNeg)).toInt64) * ((p2).toInt64)) - ((((c_below_r2 (v7_14).toNatClampNeg)).toInt64) * ((p1).toInt64))) then (((((c_above_r2 (v7_14).toNatClampNeg)).toInt64) * ((p2).toInt64)) - ((((c_below_r2 (v7_14).toNatClampNeg)).toInt64) * ((p1).toInt64))) else -(((((c_above_r2 (v7_14).toNatClampNeg)).toInt64) * ((p2).toInt64)) - ((((c_below_r2 (v7_14).toNatClampNeg)).toInt64) * ((p1).toInt64))))), (4, .int v7_14), (8, .long (if 0 < (((((c_above_r2 (v7_14).toNatClampNeg)).toInt64) * ((p2).toInt64)) - ((((c_below_r2 (v7_14).toNatClampNeg)).toInt64) * ((p1).toInt64))) then (((((c_above_r2 (v7_14).toNatClampNeg)).toInt64) * ((p2).toInt64)) - ((((c_below_r2 (v7_14).toNatClampNeg)).toInt64) * ((p1).toInt64))) else -(((((c_above_r2 (v7_14).toNatClampNeg)).toInt64) * ((p2).toInt64)) - ((((c_below_r2 (v7_14).toNatClampNeg)).toInt64) * ((p1).toInt64))))), (0, .ref b), (1, .int p1), (2, .int p2), (3, .int p3)]) hx hb dX7_nearestTo_84 hl (k := 7) rfl (by rfl) (Nat.le_of_ble_eq_true rfl) rfl (fun ls hl => ?_)
          refine lv_goto (tgt := 14) hx hb dX7_nearestTo_87 (by decide) ?_
          exact ih14 v7_14 (if 0 < (((((c_above_r2 (v7_14).toNatClampNeg)).toInt64) * ((p2).toInt64)) - ((((c_below_r2 (v7_14).toNatClampNeg)).toInt64) * ((p1).toInt64))) then (((((c_above_r2 (v7_14).toNatClampNeg)).toInt64) * ((p2).toInt64)) - ((((c_below_r2 (v7_14).toNatClampNeg)).toInt64) * ((p1).toInt64))) else -(((((c_above_r2 (v7_14).toNatClampNeg)).toInt64) * ((p2).toInt64)) - ((((c_below_r2 (v7_14).toNatClampNeg)).toInt64) * ((p1).toInt64)))) (v7_14 + (1 : Int32)) _ _ _ hP hD hS (lv_sub hl [4, 5, 6, 7, 2, 1, 0] rfl) h
        · replace h := zi_f hc58 h
          refine lv_aload_n hx hb dX7_nearestTo_61 rfl (lv_at hl 1 rfl) ?_
          refine lv_iload hx hb dX7_nearestTo_62 (lv_at hl 7 rfl) ?_
          refine lv_lload hx hb dX7_nearestTo_64 (lv_at hl 0 rfl) ?_
          refine lv_iload hx hb dX7_nearestTo_66 (lv_at hl 5 rfl) ?_
          refine lv_lload hx hb dX7_nearestTo_68 (lv_at hl 6 rfl) ?_
          obtain ⟨r70, hq70, h⟩ := zb1_s h
          refine zCz (r0 := r70) (w1 := (wdX7_isNearer cy b b_box b_above b_below b_kind b_first b_second b_order b_merged b_table b_start b_builtFor c_size_r2 c_levels_r2 c_levelsInOrder_r2 c_below_r2 c_start_r2 c_above_r2)) (ws' := (wdX7_nearestTo cy b b_box b_above b_below b_kind b_first b_second b_order b_merged b_table b_start b_builtFor b_box_ohms b_box_spread c_size_r2 c_levels_r2 c_levelsInOrder_r2 c_builtFor_r2 c_box_ohms c_table_r2 c_start_r2 c_above_r2 c_below_r2 c_kind_r2 c_first_r2 c_second_r2)) (va_runV (As := [.int v7_14, .long (if 0 < (((((c_above_r2 (v7_14).toNatClampNeg)).toInt64) * ((p2).toInt64)) - ((((c_below_r2 (v7_14).toNatClampNeg)).toInt64) * ((p1).toInt64))) then (((((c_above_r2 (v7_14).toNatClampNeg)).toInt64) * ((p2).toInt64)) - ((((c_below_r2 (v7_14).toNatClampNeg)).toInt64) * ((p1).toInt64))) else -(((((c_above_r2 (v7_14).toNatClampNeg)).toInt64) * ((p2).toInt64)) - ((((c_below_r2 (v7_14).toNatClampNeg)).toInt64) * ((p1).toInt64)))), .int v4_14, .long v5_14]) (rest := []) ⟨hx, hb, hml, hown, hts⟩ (mX7_isNearer l D cy H.size b b_box b_above b_below b_kind b_first b_second b_order b_merged b_table b_start b_builtFor c_size_r2 c_levels_r2 c_levelsInOrder_r2 c_below_r2 c_start_r2 c_above_r2 v7_14 (if 0 < (((((c_above_r2 (v7_14).toNatClampNeg)).toInt64) * ((p2).toInt64)) - ((((c_below_r2 (v7_14).toNatClampNeg)).toInt64) * ((p1).toInt64))) then (((((c_above_r2 (v7_14).toNatClampNeg)).toInt64) * ((p2).toInt64)) - ((((c_below_r2 (v7_14).toNatClampNeg)).toInt64) * ((p1).toInt64))) else -(((((c_above_r2 (v7_14).toNatClampNeg)).toInt64) * ((p2).toInt64)) - ((((c_below_r2 (v7_14).toNatClampNeg)).toInt64) * ((p1).toInt64)))) v4_14 v5_14 (r70) hq70) (cwV 4 hts gX7_nearestTo_X7_isNearer rfl rfl rfl ⟨rfl, cdX7_isNearer⟩ ⟨Nat.le_of_ble_eq_true rfl, Nat.le_of_ble_eq_true rfl⟩) (zPV hK hP hD [0, 7, 5, 6] rfl rfl (q0 := 0) (ci := 7) rfl rfl rfl) rfl rfl hl.1 rfl (lv_room (Nat.le_of_ble_eq_true rfl)) dX7_nearestTo_70 ⟨Nat.zero_le _, Nat.zero_le _⟩) hP hD hS hA [0, 7, 5, 6] [1, 2, 3, 4, 8, 9, 10] [7, 0, 1, 2, 3, 9, 10, 8, 4, 5, 6] rfl rfl rfl rfl (fun H locs hn70 hP hD hS => ?_)
          refine lv_if_eq (tgt := 84) hx hb dX7_nearestTo_73 (by decide) (fun hc73 => ?_) (fun hc73 => ?_)
          · replace h := zi_t hc73 h
            refine lv_iinc (v := (v7_14 + (1 : Int32))) (lv' := [(7, .int (v7_14 + (1 : Int32))), (8, .long (if 0 < (((((c_above_r2 (v7_14).toNatClampNeg)).toInt64) * ((p2).toInt64)) - ((((c_below_r2 (v7_14).toNatClampNeg)).toInt64) * ((p1).toInt64))) then (((((c_above_r2 (v7_14).toNatClampNeg)).toInt64) * ((p2).toInt64)) - ((((c_below_r2 (v7_14).toNatClampNeg)).toInt64) * ((p1).toInt64))) else -(((((c_above_r2 (v7_14).toNatClampNeg)).toInt64) * ((p2).toInt64)) - ((((c_below_r2 (v7_14).toNatClampNeg)).toInt64) * ((p1).toInt64))))), (0, .ref b), (1, .int p1), (2, .int p2), (3, .int p3), (4, .int v4_14), (5, .long v5_14)]) hx hb dX7_nearestTo_84 hl (k := 7) rfl (by rfl) (Nat.le_of_ble_eq_true rfl) rfl (fun ls hl => ?_)
            refine lv_goto (tgt := 14) hx hb dX7_nearestTo_87 (by decide) ?_
            exact ih14 v4_14 v5_14 (v7_14 + (1 : Int32)) _ _ _ hP hD hS (lv_sub hl [2, 3, 4, 5, 6, 7, 0] rfl) h
          · replace h := zi_f hc73 h
            refine lv_iload hx hb dX7_nearestTo_76 (lv_at hl 7 rfl) ?_
            refine lv_istore (lv' := [(4, .int v7_14), (8, .long (if 0 < (((((c_above_r2 (v7_14).toNatClampNeg)).toInt64) * ((p2).toInt64)) - ((((c_below_r2 (v7_14).toNatClampNeg)).toInt64) * ((p1).toInt64))) then (((((c_above_r2 (v7_14).toNatClampNeg)).toInt64) * ((p2).toInt64)) - ((((c_below_r2 (v7_14).toNatClampNeg)).toInt64) * ((p1).toInt64))) else -(((((c_above_r2 (v7_14).toNatClampNeg)).toInt64) * ((p2).toInt64)) - ((((c_below_r2 (v7_14).toNatClampNeg)).toInt64) * ((p1).toInt64))))), (0, .ref b), (1, .int p1), (2, .int p2), (3, .int p3), (5, .long v5_14), (7, .int v7_14)]) hx hb dX7_nearestTo_78 hl (Nat.le_of_ble_eq_true rfl) rfl (fun ls hl => ?_)
            refine lv_lload hx hb dX7_nearestTo_80 (lv_at hl 1 rfl) ?_
            refine lv_lstore (lv' := [(5, .long (if 0 < (((((c_above_r2 (v7_14).toNatClampNeg)).toInt64) * ((p2).toInt64)) - ((((c_below_r2 (v7_14).toNatClampNeg)).toInt64) * ((p1).toInt64))) then (((((c_above_r2 (v7_14).toNatClampNeg)).toInt64) * ((p2).toInt64)) - ((((c_below_r2 (v7_14).toNatClampNeg)).toInt64) * ((p1).toInt64))) else -(((((c_above_r2 (v7_14).toNatClampNeg)).toInt64) * ((p2).toInt64)) - ((((c_below_r2 (v7_14).toNatClampNeg)).toInt64) * ((p1).toInt64))))), (4, .int v7_14), (8, .long (if 0 < (((((c_above_r2 (v7_14).toNatClampNeg)).toInt64) * ((p2).toInt64)) - ((((c_below_r2 (v7_14).toNatClampNeg)).toInt64) * ((p1).toInt64))) then (((((c_above_r2 (v7_14).toNatClampNeg)).toInt64) * ((p2).toInt64)) - ((((c_below_r2 (v7_14).toNatClampNeg)).toInt64) * ((p1).toInt64))) else -(((((c_above_r2 (v7_14).toNatClampNeg)).toInt64) * ((p2).toInt64)) - ((((c_below_r2 (v7_14).toNatClampNeg)).toInt64) * ((p1).toInt64))))), (0, .ref b), (1, .int p1), (2, .int p2), (3, .int p3), (7, .int v7_14)]) hx hb dX7_nearestTo_82 hl (Nat.le_of_ble_eq_true rfl) rfl (fun ls hl => ?_)
            refine lv_iinc (v := (v7_14 + (1 : Int32))) (lv' := [(7, .int (v7_14 + (1 : Int32))), (5, .long (if 0 < (((((c_above_r2 (v7_14).toNatClampNeg)).toInt64) * ((p2).toInt64)) - ((((c_below_r2 (v7_14).toNatClampNeg)).toInt64) * ((p1).toInt64))) then (((((c_above_r2 (v7_14).toNatClampNeg)).toInt64) * ((p2).toInt64)) - ((((c_below_r2 (v7_14).toNatClampNeg)).toInt64) * ((p1).toInt64))) else -(((((c_above_r2 (v7_14).toNatClampNeg)).toInt64) * ((p2).toInt64)) - ((((c_below_r2 (v7_14).toNatClampNeg)).toInt64) * ((p1).toInt64))))), (4, .int v7_14), (8, .long (if 0 < (((((c_above_r2 (v7_14).toNatClampNeg)).toInt64) * ((p2).toInt64)) - ((((c_below_r2 (v7_14).toNatClampNeg)).toInt64) * ((p1).toInt64))) then (((((c_above_r2 (v7_14).toNatClampNeg)).toInt64) * ((p2).toInt64)) - ((((c_below_r2 (v7_14).toNatClampNeg)).toInt64) * ((p1).toInt64))) else -(((((c_above_r2 (v7_14).toNatClampNeg)).toInt64) * ((p2).toInt64)) - ((((c_below_r2 (v7_14).toNatClampNeg)).toInt64) * ((p1).toInt64))))), (0, .ref b), (1, .int p1), (2, .int p2), (3, .int p3)]) hx hb dX7_nearestTo_84 hl (k := 7) rfl (by rfl) (Nat.le_of_ble_eq_true rfl) rfl (fun ls hl => ?_)
            refine lv_goto (tgt := 14) hx hb dX7_nearestTo_87 (by decide) ?_
            exact ih14 v7_14 (if 0 < (((((c_above_r2 (v7_14).toNatClampNeg)).toInt64) * ((p2).toInt64)) - ((((c_below_r2 (v7_14).toNatClampNeg)).toInt64) * ((p1).toInt64))) then (((((c_above_r2 (v7_14).toNatClampNeg)).toInt64) * ((p2).toInt64)) - ((((c_below_r2 (v7_14).toNatClampNeg)).toInt64) * ((p1).toInt64))) else -(((((c_above_r2 (v7_14).toNatClampNeg)).toInt64) * ((p2).toInt64)) - ((((c_below_r2 (v7_14).toNatClampNeg)).toInt64) * ((p1).toInt64)))) (v7_14 + (1 : Int32)) _ _ _ hP hD hS (lv_sub hl [4, 5, 6, 7, 2, 1, 0] rfl) h
  exact hL14 5000 (-1 : Int32) (0 : Int64) (0 : Int32) _ _ _ hP hD hS (lv_sub hl [3, 4, 5, 6, 2, 1, 0] rfl) h
