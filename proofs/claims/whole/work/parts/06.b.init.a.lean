theorem uX0_init_X0 : ∀ w ∈ u_ws RX0 TX0 2, w ∈ wsX0_init := fun w h => (List.mem_cons_of_mem _ (List.mem_append_right _ h))
abbrev wnX0 (cy : Nat → ClassId) (b : Nat) (u : Nat → Nat) : va_W := [(b, .inr (0, [.ref (u 0), .ref (u 1)])), ((u 0), .inl (cy 0, 4, .inl (fun _ => 0))), ((u 1), .inl (cy 0, 4, .inl (fun _ => 0)))]
abbrev rmX0_init : Room := { frames := 1, cells := 2, slots := 8, locals := 20 }
theorem cdX0_init : (yX0_init).cls ≠ "java/lang/invoke/MethodHandle" ∧ (yX0_init).cls ≠ "java/lang/invoke/VarHandle" ∧ (parseMethodDescriptor (yX0_init).desc).map (fun d => d.parameters.length) = some 0 := by decide +kernel
set_option maxHeartbeats 4000000 in
set_option maxRecDepth 100000 in
theorem mX0_init (l : Launch) (D : va_G) (cy : Nat → ClassId) (sz : Nat) (b : Nat) : zMc l yX0_init wsX0_init rmX0_init [.ref b] D cy [(b, .inr (0, [.null, .null]))] sz 2 8 (fun u => wnX0 cy b u) := by
  refine zOfc (by decide +kernel) rfl (Nat.le_of_ble_eq_true rfl) ?_
  intro p e s m args below meth c A ls Q hx hb hml hts hown hnm hP hK hD hA hS hl hret
  have hown : s.vm.findClass RX0 = some m.cls := hown
  have hin : meth.name = "<init>" := hnm
  have hl : lv_has ls 1 [(0, .ref b)] := hl
  refine lv_aload_n hx hb dX0_init_0 rfl (lv_at hl 0 rfl) ?_
  refine W.objInit hx hb hown (hts (.methodLink RX0 3 objectInit) (List.mem_of_getElem? (i := 1) rfl)) (hts (.instanceMethod objectInit) (List.mem_of_getElem? (i := 2) rfl)) (hts (.code objectInit ⟨#[0xb1]⟩ 1 none) (List.mem_of_getElem? (i := 3) rfl)) rfl (by rw [hml]; exact hl.1) rfl dX0_init_1 (Nat.le_of_ble_eq_true rfl) (Nat.le_of_ble_eq_true rfl) ?_
  refine W.eq (g2 := F0 m 4 ls []) rfl ?_
  refine lv_aload_n hx hb dX0_init_4 rfl (lv_at hl 0 rfl) ?_
  refine lv_iconst (v := (4 : Int32)) hx hb dX0_init_5 (by decide) ?_
  refine znew_int hx hb (hts (.arrayClass .int) (List.mem_of_getElem? (i := 4) rfl)) hK hP hD hS hA (by decide) (N' := 4) (by decide) (Nat.le_of_ble_eq_true rfl) (Nat.le_of_ble_eq_true rfl) (Nat.le_of_ble_eq_true rfl) dX0_init_6 (fun q6_5 H hP hD hS => ?_)
  have hP : va_P D vwCl [(b, .inr (0, [.null, .null])), (q6_5, .inl (cy 0, 4, .inl (fun _ => 0)))] H := hP
  have hD : va_D A [(b, .inr (0, [.null, .null])), (q6_5, .inl (cy 0, 4, .inl (fun _ => 0)))] := hD
  refine va_putF (D := D) (ci := 0) (v := .ref q6_5) (ty := .array .int) (C := RX0) (T := TX0) (N := 2) hx hb hts uX0_init_X0 tyX0 tyX0_ok nmX0 hown hK.1 hP hD hS 0 rfl rfl 0 (by decide) (hts (.fieldLink RX0 9 "WishedResistor$Box" "ohms" "[I") (List.mem_of_getElem? (i := 5) rfl)) (fun _ h9 => h9) rfl hin rfl (by decide +kernel) rfl rfl (Nat.le_of_ble_eq_true rfl) dX0_init_8 (fun H locs hP hD hS => ?_)
  have hP : va_P D vwCl [(b, .inr (0, [.ref q6_5, .null])), (q6_5, .inl (cy 0, 4, .inl (fun _ => 0)))] H := hP
  have hD : va_D A [(b, .inr (0, [.ref q6_5, .null])), (q6_5, .inl (cy 0, 4, .inl (fun _ => 0)))] := hD
  refine lv_aload_n hx hb dX0_init_11 rfl (lv_at hl 0 rfl) ?_
  refine lv_iconst (v := (4 : Int32)) hx hb dX0_init_12 (by decide) ?_
  refine znew_int hx hb (hts (.arrayClass .int) (List.mem_of_getElem? (i := 4) rfl)) hK hP hD hS hA (by decide) (N' := 4) (by decide) (Nat.le_of_ble_eq_true rfl) (Nat.le_of_ble_eq_true rfl) (Nat.le_of_ble_eq_true rfl) dX0_init_13 (fun q13_9 H hP hD hS => ?_)
  have hP : va_P D vwCl [(b, .inr (0, [.ref q6_5, .null])), (q6_5, .inl (cy 0, 4, .inl (fun _ => 0))), (q13_9, .inl (cy 0, 4, .inl (fun _ => 0)))] H := hP
  have hD : va_D A [(b, .inr (0, [.ref q6_5, .null])), (q6_5, .inl (cy 0, 4, .inl (fun _ => 0))), (q13_9, .inl (cy 0, 4, .inl (fun _ => 0)))] := hD
  refine va_putF (D := D) (ci := 0) (v := .ref q13_9) (ty := .array .int) (C := RX0) (T := TX0) (N := 2) hx hb hts uX0_init_X0 tyX0 tyX0_ok nmX0 hown hK.1 hP hD hS 0 rfl rfl 1 (by decide) (hts (.fieldLink RX0 15 "WishedResistor$Box" "spread" "[I") (List.mem_of_getElem? (i := 6) rfl)) (fun _ h9 => h9) rfl hin rfl (by decide +kernel) rfl rfl (Nat.le_of_ble_eq_true rfl) dX0_init_15 (fun H locs hP hD hS => ?_)
  have hP : va_P D vwCl [(b, .inr (0, [.ref q6_5, .ref q13_9])), (q6_5, .inl (cy 0, 4, .inl (fun _ => 0))), (q13_9, .inl (cy 0, 4, .inl (fun _ => 0)))] H := hP
  have hD : va_D A [(b, .inr (0, [.ref q6_5, .ref q13_9])), (q6_5, .inl (cy 0, 4, .inl (fun _ => 0))), (q13_9, .inl (cy 0, 4, .inl (fun _ => 0)))] := hD
  exact hret (fun k => if k = 0 then q6_5 else if k = 1 then q13_9 else 0) hP hD hS dX0_init_18

theorem uX1_init_X1 : ∀ w ∈ u_ws RX1 TX1 2, w ∈ wsX1_init := fun w h => (List.mem_cons_of_mem _ (List.mem_append_right _ h))
abbrev wnX1 (cy : Nat → ClassId) (b : Nat) (u : Nat → Nat) : va_W := [(b, .inr (1, [.long 0, .long (1 : Int64)]))]
abbrev rmX1_init : Room := { frames := 1, cells := 0, slots := 0, locals := 20 }
theorem cdX1_init : (yX1_init).cls ≠ "java/lang/invoke/MethodHandle" ∧ (yX1_init).cls ≠ "java/lang/invoke/VarHandle" ∧ (parseMethodDescriptor (yX1_init).desc).map (fun d => d.parameters.length) = some 0 := by decide +kernel
set_option maxHeartbeats 4000000 in
set_option maxRecDepth 100000 in
theorem mX1_init (l : Launch) (D : va_G) (cy : Nat → ClassId) (sz : Nat) (b : Nat) : zMc l yX1_init wsX1_init rmX1_init [.ref b] D cy [(b, .inr (1, [.long 0, .long 0]))] sz 0 0 (fun u => wnX1 cy b u) := by
  refine zOfc (by decide +kernel) rfl (Nat.le_of_ble_eq_true rfl) ?_
  intro p e s m args below meth c A ls Q hx hb hml hts hown hnm hP hK hD hA hS hl hret
  have hown : s.vm.findClass RX1 = some m.cls := hown
  have hin : meth.name = "<init>" := hnm
  have hl : lv_has ls 1 [(0, .ref b)] := hl
  refine lv_aload_n hx hb dX1_init_0 rfl (lv_at hl 0 rfl) ?_
  refine W.objInit hx hb hown (hts (.methodLink RX1 3 objectInit) (List.mem_of_getElem? (i := 1) rfl)) (hts (.instanceMethod objectInit) (List.mem_of_getElem? (i := 2) rfl)) (hts (.code objectInit ⟨#[0xb1]⟩ 1 none) (List.mem_of_getElem? (i := 3) rfl)) rfl (by rw [hml]; exact hl.1) rfl dX1_init_1 (Nat.le_of_ble_eq_true rfl) (Nat.le_of_ble_eq_true rfl) ?_
  refine W.eq (g2 := F0 m 4 ls []) rfl ?_
  refine lv_aload_n hx hb dX1_init_4 rfl (lv_at hl 0 rfl) ?_
  refine lv_lconst (v := (1 : Int64)) hx hb dX1_init_5 (by decide) ?_
  refine va_put (D := D) (ci := 1) (v := .long (1 : Int64)) (ty := .long) (C := RX1) (T := TX1) (N := 2) hx hb hts uX1_init_X1 tyX1 tyX1_ok nmX1 hown hK.1 hP hD hS 0 rfl rfl 1 (by decide) (hts (.fieldLink RX1 9 "WishedResistor$Fraction" "below" "J") (List.mem_of_getElem? (i := 4) rfl)) (fun _ h9 => h9) rfl (by decide +kernel) rfl rfl (Nat.le_of_ble_eq_true rfl) dX1_init_6 (fun H locs hP hD hS => ?_)
  have hP : va_P D vwCl [(b, .inr (1, [.long 0, .long (1 : Int64)]))] H := hP
  have hD : va_D A [(b, .inr (1, [.long 0, .long (1 : Int64)]))] := hD
  exact hret (fun k => 0) hP hD hS dX1_init_9

theorem uX5_init_X5 : ∀ w ∈ u_ws RX5 TX5 9, w ∈ wsX5_init := fun w h => (List.mem_cons_of_mem _ (List.mem_append_right _ h))
abbrev wnX5 (cy : Nat → ClassId) (b : Nat) (u : Nat → Nat) : va_W := [(b, .inr (5, [.ref (u 0), .ref (u 1), .ref (u 2), .ref (u 3), .int 0, .ref (u 4), .ref (u 5), .ref (u 6), .ref (u 7)])), ((u 0), .inl (cy 0, 40, .inl (fun _ => 0))), ((u 1), .inl (cy 0, 40, .inl (fun _ => 0))), ((u 2), .inl (cy 0, 40, .inl (fun _ => 0))), ((u 3), .inl (cy 0, 40, .inl (fun _ => 0))), ((u 4), .inl (cy 0, 40, .inl (fun _ => 0))), ((u 5), .inl (cy 0, 45, .inl (fun _ => 0))), ((u 6), .inl (cy 0, 60, .inl (fun _ => 0))), ((u 7), .inl (cy 0, 12, .inl (fun _ => 0)))]
abbrev rmX5_init : Room := { frames := 1, cells := 8, slots := 317, locals := 20 }
theorem cdX5_init : (yX5_init).cls ≠ "java/lang/invoke/MethodHandle" ∧ (yX5_init).cls ≠ "java/lang/invoke/VarHandle" ∧ (parseMethodDescriptor (yX5_init).desc).map (fun d => d.parameters.length) = some 0 := by decide +kernel
set_option maxHeartbeats 4000000 in
set_option maxRecDepth 100000 in
theorem mX5_init (l : Launch) (D : va_G) (cy : Nat → ClassId) (sz : Nat) (b : Nat) : zMc l yX5_init wsX5_init rmX5_init [.ref b] D cy [(b, .inr (5, [.null, .null, .null, .null, .int 0, .null, .null, .null, .null]))] sz 8 317 (fun u => wnX5 cy b u) := by
  refine zOfc (by decide +kernel) rfl (Nat.le_of_ble_eq_true rfl) ?_
  intro p e s m args below meth c A ls Q hx hb hml hts hown hnm hP hK hD hA hS hl hret
  have hown : s.vm.findClass RX5 = some m.cls := hown
  have hin : meth.name = "<init>" := hnm
  have hl : lv_has ls 1 [(0, .ref b)] := hl
  refine lv_aload_n hx hb dX5_init_0 rfl (lv_at hl 0 rfl) ?_
  refine W.objInit hx hb hown (hts (.methodLink RX5 3 objectInit) (List.mem_of_getElem? (i := 1) rfl)) (hts (.instanceMethod objectInit) (List.mem_of_getElem? (i := 2) rfl)) (hts (.code objectInit ⟨#[0xb1]⟩ 1 none) (List.mem_of_getElem? (i := 3) rfl)) rfl (by rw [hml]; exact hl.1) rfl dX5_init_1 (Nat.le_of_ble_eq_true rfl) (Nat.le_of_ble_eq_true rfl) ?_
  refine W.eq (g2 := F0 m 4 ls []) rfl ?_
  refine lv_aload_n hx hb dX5_init_4 rfl (lv_at hl 0 rfl) ?_
  refine lv_bipush (v := (40 : Int32)) hx hb dX5_init_5 (by decide) ?_
  refine znew_int hx hb (hts (.arrayClass .int) (List.mem_of_getElem? (i := 4) rfl)) hK hP hD hS hA (by decide) (N' := 40) (by decide) (Nat.le_of_ble_eq_true rfl) (Nat.le_of_ble_eq_true rfl) (Nat.le_of_ble_eq_true rfl) dX5_init_7 (fun q7_5 H hP hD hS => ?_)
  have hP : va_P D vwCl [(b, .inr (5, [.null, .null, .null, .null, .int 0, .null, .null, .null, .null])), (q7_5, .inl (cy 0, 40, .inl (fun _ => 0)))] H := hP
  have hD : va_D A [(b, .inr (5, [.null, .null, .null, .null, .int 0, .null, .null, .null, .null])), (q7_5, .inl (cy 0, 40, .inl (fun _ => 0)))] := hD
  refine va_putF (D := D) (ci := 5) (v := .ref q7_5) (ty := .array .int) (C := RX5) (T := TX5) (N := 9) hx hb hts uX5_init_X5 tyX5 tyX5_ok nmX5 hown hK.1 hP hD hS 0 rfl rfl 0 (by decide) (hts (.fieldLink RX5 9 "WishedResistor$Nets" "kind" "[I") (List.mem_of_getElem? (i := 5) rfl)) (fun _ h9 => h9) rfl hin rfl (by decide +kernel) rfl rfl (Nat.le_of_ble_eq_true rfl) dX5_init_9 (fun H locs hP hD hS => ?_)
  have hP : va_P D vwCl [(b, .inr (5, [.ref q7_5, .null, .null, .null, .int 0, .null, .null, .null, .null])), (q7_5, .inl (cy 0, 40, .inl (fun _ => 0)))] H := hP
  have hD : va_D A [(b, .inr (5, [.ref q7_5, .null, .null, .null, .int 0, .null, .null, .null, .null])), (q7_5, .inl (cy 0, 40, .inl (fun _ => 0)))] := hD
  refine lv_aload_n hx hb dX5_init_12 rfl (lv_at hl 0 rfl) ?_
  refine lv_bipush (v := (40 : Int32)) hx hb dX5_init_13 (by decide) ?_
  refine znew_int hx hb (hts (.arrayClass .int) (List.mem_of_getElem? (i := 4) rfl)) hK hP hD hS hA (by decide) (N' := 40) (by decide) (Nat.le_of_ble_eq_true rfl) (Nat.le_of_ble_eq_true rfl) (Nat.le_of_ble_eq_true rfl) dX5_init_15 (fun q15_9 H hP hD hS => ?_)
  have hP : va_P D vwCl [(b, .inr (5, [.ref q7_5, .null, .null, .null, .int 0, .null, .null, .null, .null])), (q7_5, .inl (cy 0, 40, .inl (fun _ => 0))), (q15_9, .inl (cy 0, 40, .inl (fun _ => 0)))] H := hP
  have hD : va_D A [(b, .inr (5, [.ref q7_5, .null, .null, .null, .int 0, .null, .null, .null, .null])), (q7_5, .inl (cy 0, 40, .inl (fun _ => 0))), (q15_9, .inl (cy 0, 40, .inl (fun _ => 0)))] := hD
  refine va_putF (D := D) (ci := 5) (v := .ref q15_9) (ty := .array .int) (C := RX5) (T := TX5) (N := 9) hx hb hts uX5_init_X5 tyX5 tyX5_ok nmX5 hown hK.1 hP hD hS 0 rfl rfl 1 (by decide) (hts (.fieldLink RX5 15 "WishedResistor$Nets" "first" "[I") (List.mem_of_getElem? (i := 6) rfl)) (fun _ h9 => h9) rfl hin rfl (by decide +kernel) rfl rfl (Nat.le_of_ble_eq_true rfl) dX5_init_17 (fun H locs hP hD hS => ?_)
  have hP : va_P D vwCl [(b, .inr (5, [.ref q7_5, .ref q15_9, .null, .null, .int 0, .null, .null, .null, .null])), (q7_5, .inl (cy 0, 40, .inl (fun _ => 0))), (q15_9, .inl (cy 0, 40, .inl (fun _ => 0)))] H := hP
  have hD : va_D A [(b, .inr (5, [.ref q7_5, .ref q15_9, .null, .null, .int 0, .null, .null, .null, .null])), (q7_5, .inl (cy 0, 40, .inl (fun _ => 0))), (q15_9, .inl (cy 0, 40, .inl (fun _ => 0)))] := hD
  refine lv_aload_n hx hb dX5_init_20 rfl (lv_at hl 0 rfl) ?_
  refine lv_bipush (v := (40 : Int32)) hx hb dX5_init_21 (by decide) ?_
  refine znew_int hx hb (hts (.arrayClass .int) (List.mem_of_getElem? (i := 4) rfl)) hK hP hD hS hA (by decide) (N' := 40) (by decide) (Nat.le_of_ble_eq_true rfl) (Nat.le_of_ble_eq_true rfl) (Nat.le_of_ble_eq_true rfl) dX5_init_23 (fun q23_13 H hP hD hS => ?_)
  have hP : va_P D vwCl [(b, .inr (5, [.ref q7_5, .ref q15_9, .null, .null, .int 0, .null, .null, .null, .null])), (q7_5, .inl (cy 0, 40, .inl (fun _ => 0))), (q15_9, .inl (cy 0, 40, .inl (fun _ => 0))), (q23_13, .inl (cy 0, 40, .inl (fun _ => 0)))] H := hP
  have hD : va_D A [(b, .inr (5, [.ref q7_5, .ref q15_9, .null, .null, .int 0, .null, .null, .null, .null])), (q7_5, .inl (cy 0, 40, .inl (fun _ => 0))), (q15_9, .inl (cy 0, 40, .inl (fun _ => 0))), (q23_13, .inl (cy 0, 40, .inl (fun _ => 0)))] := hD
  refine va_putF (D := D) (ci := 5) (v := .ref q23_13) (ty := .array .int) (C := RX5) (T := TX5) (N := 9) hx hb hts uX5_init_X5 tyX5 tyX5_ok nmX5 hown hK.1 hP hD hS 0 rfl rfl 2 (by decide) (hts (.fieldLink RX5 18 "WishedResistor$Nets" "second" "[I") (List.mem_of_getElem? (i := 7) rfl)) (fun _ h9 => h9) rfl hin rfl (by decide +kernel) rfl rfl (Nat.le_of_ble_eq_true rfl) dX5_init_25 (fun H locs hP hD hS => ?_)
  have hP : va_P D vwCl [(b, .inr (5, [.ref q7_5, .ref q15_9, .ref q23_13, .null, .int 0, .null, .null, .null, .null])), (q7_5, .inl (cy 0, 40, .inl (fun _ => 0))), (q15_9, .inl (cy 0, 40, .inl (fun _ => 0))), (q23_13, .inl (cy 0, 40, .inl (fun _ => 0)))] H := hP
  have hD : va_D A [(b, .inr (5, [.ref q7_5, .ref q15_9, .ref q23_13, .null, .int 0, .null, .null, .null, .null])), (q7_5, .inl (cy 0, 40, .inl (fun _ => 0))), (q15_9, .inl (cy 0, 40, .inl (fun _ => 0))), (q23_13, .inl (cy 0, 40, .inl (fun _ => 0)))] := hD
  refine lv_aload_n hx hb dX5_init_28 rfl (lv_at hl 0 rfl) ?_
  refine lv_bipush (v := (40 : Int32)) hx hb dX5_init_29 (by decide) ?_
  refine znew_int hx hb (hts (.arrayClass .int) (List.mem_of_getElem? (i := 4) rfl)) hK hP hD hS hA (by decide) (N' := 40) (by decide) (Nat.le_of_ble_eq_true rfl) (Nat.le_of_ble_eq_true rfl) (Nat.le_of_ble_eq_true rfl) dX5_init_31 (fun q31_17 H hP hD hS => ?_)
  have hP : va_P D vwCl [(b, .inr (5, [.ref q7_5, .ref q15_9, .ref q23_13, .null, .int 0, .null, .null, .null, .null])), (q7_5, .inl (cy 0, 40, .inl (fun _ => 0))), (q15_9, .inl (cy 0, 40, .inl (fun _ => 0))), (q23_13, .inl (cy 0, 40, .inl (fun _ => 0))), (q31_17, .inl (cy 0, 40, .inl (fun _ => 0)))] H := hP
  have hD : va_D A [(b, .inr (5, [.ref q7_5, .ref q15_9, .ref q23_13, .null, .int 0, .null, .null, .null, .null])), (q7_5, .inl (cy 0, 40, .inl (fun _ => 0))), (q15_9, .inl (cy 0, 40, .inl (fun _ => 0))), (q23_13, .inl (cy 0, 40, .inl (fun _ => 0))), (q31_17, .inl (cy 0, 40, .inl (fun _ => 0)))] := hD
  refine va_putF (D := D) (ci := 5) (v := .ref q31_17) (ty := .array .int) (C := RX5) (T := TX5) (N := 9) hx hb hts uX5_init_X5 tyX5 tyX5_ok nmX5 hown hK.1 hP hD hS 0 rfl rfl 3 (by decide) (hts (.fieldLink RX5 21 "WishedResistor$Nets" "parts" "[I") (List.mem_of_getElem? (i := 8) rfl)) (fun _ h9 => h9) rfl hin rfl (by decide +kernel) rfl rfl (Nat.le_of_ble_eq_true rfl) dX5_init_33 (fun H locs hP hD hS => ?_)
  have hP : va_P D vwCl [(b, .inr (5, [.ref q7_5, .ref q15_9, .ref q23_13, .ref q31_17, .int 0, .null, .null, .null, .null])), (q7_5, .inl (cy 0, 40, .inl (fun _ => 0))), (q15_9, .inl (cy 0, 40, .inl (fun _ => 0))), (q23_13, .inl (cy 0, 40, .inl (fun _ => 0))), (q31_17, .inl (cy 0, 40, .inl (fun _ => 0)))] H := hP
  have hD : va_D A [(b, .inr (5, [.ref q7_5, .ref q15_9, .ref q23_13, .ref q31_17, .int 0, .null, .null, .null, .null])), (q7_5, .inl (cy 0, 40, .inl (fun _ => 0))), (q15_9, .inl (cy 0, 40, .inl (fun _ => 0))), (q23_13, .inl (cy 0, 40, .inl (fun _ => 0))), (q31_17, .inl (cy 0, 40, .inl (fun _ => 0)))] := hD
  refine lv_aload_n hx hb dX5_init_36 rfl (lv_at hl 0 rfl) ?_
  refine lv_bipush (v := (40 : Int32)) hx hb dX5_init_37 (by decide) ?_
  refine znew_int hx hb (hts (.arrayClass .int) (List.mem_of_getElem? (i := 4) rfl)) hK hP hD hS hA (by decide) (N' := 40) (by decide) (Nat.le_of_ble_eq_true rfl) (Nat.le_of_ble_eq_true rfl) (Nat.le_of_ble_eq_true rfl) dX5_init_39 (fun q39_21 H hP hD hS => ?_)
  have hP : va_P D vwCl [(b, .inr (5, [.ref q7_5, .ref q15_9, .ref q23_13, .ref q31_17, .int 0, .null, .null, .null, .null])), (q7_5, .inl (cy 0, 40, .inl (fun _ => 0))), (q15_9, .inl (cy 0, 40, .inl (fun _ => 0))), (q23_13, .inl (cy 0, 40, .inl (fun _ => 0))), (q31_17, .inl (cy 0, 40, .inl (fun _ => 0))), (q39_21, .inl (cy 0, 40, .inl (fun _ => 0)))] H := hP
  have hD : va_D A [(b, .inr (5, [.ref q7_5, .ref q15_9, .ref q23_13, .ref q31_17, .int 0, .null, .null, .null, .null])), (q7_5, .inl (cy 0, 40, .inl (fun _ => 0))), (q15_9, .inl (cy 0, 40, .inl (fun _ => 0))), (q23_13, .inl (cy 0, 40, .inl (fun _ => 0))), (q31_17, .inl (cy 0, 40, .inl (fun _ => 0))), (q39_21, .inl (cy 0, 40, .inl (fun _ => 0)))] := hD
  refine va_putF (D := D) (ci := 5) (v := .ref q39_21) (ty := .array .int) (C := RX5) (T := TX5) (N := 9) hx hb hts uX5_init_X5 tyX5 tyX5_ok nmX5 hown hK.1 hP hD hS 0 rfl rfl 5 (by decide) (hts (.fieldLink RX5 24 "WishedResistor$Nets" "likes" "[I") (List.mem_of_getElem? (i := 9) rfl)) (fun _ h9 => h9) rfl hin rfl (by decide +kernel) rfl rfl (Nat.le_of_ble_eq_true rfl) dX5_init_41 (fun H locs hP hD hS => ?_)
  have hP : va_P D vwCl [(b, .inr (5, [.ref q7_5, .ref q15_9, .ref q23_13, .ref q31_17, .int 0, .ref q39_21, .null, .null, .null])), (q7_5, .inl (cy 0, 40, .inl (fun _ => 0))), (q15_9, .inl (cy 0, 40, .inl (fun _ => 0))), (q23_13, .inl (cy 0, 40, .inl (fun _ => 0))), (q31_17, .inl (cy 0, 40, .inl (fun _ => 0))), (q39_21, .inl (cy 0, 40, .inl (fun _ => 0)))] H := hP
  have hD : va_D A [(b, .inr (5, [.ref q7_5, .ref q15_9, .ref q23_13, .ref q31_17, .int 0, .ref q39_21, .null, .null, .null])), (q7_5, .inl (cy 0, 40, .inl (fun _ => 0))), (q15_9, .inl (cy 0, 40, .inl (fun _ => 0))), (q23_13, .inl (cy 0, 40, .inl (fun _ => 0))), (q31_17, .inl (cy 0, 40, .inl (fun _ => 0))), (q39_21, .inl (cy 0, 40, .inl (fun _ => 0)))] := hD
  refine lv_aload_n hx hb dX5_init_44 rfl (lv_at hl 0 rfl) ?_
  refine lv_bipush (v := (45 : Int32)) hx hb dX5_init_45 (by decide) ?_
  refine znew_int hx hb (hts (.arrayClass .int) (List.mem_of_getElem? (i := 4) rfl)) hK hP hD hS hA (by decide) (N' := 45) (by decide) (Nat.le_of_ble_eq_true rfl) (Nat.le_of_ble_eq_true rfl) (Nat.le_of_ble_eq_true rfl) dX5_init_47 (fun q47_25 H hP hD hS => ?_)
  have hP : va_P D vwCl [(b, .inr (5, [.ref q7_5, .ref q15_9, .ref q23_13, .ref q31_17, .int 0, .ref q39_21, .null, .null, .null])), (q7_5, .inl (cy 0, 40, .inl (fun _ => 0))), (q15_9, .inl (cy 0, 40, .inl (fun _ => 0))), (q23_13, .inl (cy 0, 40, .inl (fun _ => 0))), (q31_17, .inl (cy 0, 40, .inl (fun _ => 0))), (q39_21, .inl (cy 0, 40, .inl (fun _ => 0))), (q47_25, .inl (cy 0, 45, .inl (fun _ => 0)))] H := hP
  have hD : va_D A [(b, .inr (5, [.ref q7_5, .ref q15_9, .ref q23_13, .ref q31_17, .int 0, .ref q39_21, .null, .null, .null])), (q7_5, .inl (cy 0, 40, .inl (fun _ => 0))), (q15_9, .inl (cy 0, 40, .inl (fun _ => 0))), (q23_13, .inl (cy 0, 40, .inl (fun _ => 0))), (q31_17, .inl (cy 0, 40, .inl (fun _ => 0))), (q39_21, .inl (cy 0, 40, .inl (fun _ => 0))), (q47_25, .inl (cy 0, 45, .inl (fun _ => 0)))] := hD
  refine va_putF (D := D) (ci := 5) (v := .ref q47_25) (ty := .array .int) (C := RX5) (T := TX5) (N := 9) hx hb hts uX5_init_X5 tyX5 tyX5_ok nmX5 hown hK.1 hP hD hS 0 rfl rfl 6 (by decide) (hts (.fieldLink RX5 27 "WishedResistor$Nets" "letters" "[I") (List.mem_of_getElem? (i := 10) rfl)) (fun _ h9 => h9) rfl hin rfl (by decide +kernel) rfl rfl (Nat.le_of_ble_eq_true rfl) dX5_init_49 (fun H locs hP hD hS => ?_)
  have hP : va_P D vwCl [(b, .inr (5, [.ref q7_5, .ref q15_9, .ref q23_13, .ref q31_17, .int 0, .ref q39_21, .ref q47_25, .null, .null])), (q7_5, .inl (cy 0, 40, .inl (fun _ => 0))), (q15_9, .inl (cy 0, 40, .inl (fun _ => 0))), (q23_13, .inl (cy 0, 40, .inl (fun _ => 0))), (q31_17, .inl (cy 0, 40, .inl (fun _ => 0))), (q39_21, .inl (cy 0, 40, .inl (fun _ => 0))), (q47_25, .inl (cy 0, 45, .inl (fun _ => 0)))] H := hP
  have hD : va_D A [(b, .inr (5, [.ref q7_5, .ref q15_9, .ref q23_13, .ref q31_17, .int 0, .ref q39_21, .ref q47_25, .null, .null])), (q7_5, .inl (cy 0, 40, .inl (fun _ => 0))), (q15_9, .inl (cy 0, 40, .inl (fun _ => 0))), (q23_13, .inl (cy 0, 40, .inl (fun _ => 0))), (q31_17, .inl (cy 0, 40, .inl (fun _ => 0))), (q39_21, .inl (cy 0, 40, .inl (fun _ => 0))), (q47_25, .inl (cy 0, 45, .inl (fun _ => 0)))] := hD
  refine lv_aload_n hx hb dX5_init_52 rfl (lv_at hl 0 rfl) ?_
  refine lv_bipush (v := (60 : Int32)) hx hb dX5_init_53 (by decide) ?_
  refine znew_int hx hb (hts (.arrayClass .int) (List.mem_of_getElem? (i := 4) rfl)) hK hP hD hS hA (by decide) (N' := 60) (by decide) (Nat.le_of_ble_eq_true rfl) (Nat.le_of_ble_eq_true rfl) (Nat.le_of_ble_eq_true rfl) dX5_init_55 (fun q55_29 H hP hD hS => ?_)
  have hP : va_P D vwCl [(b, .inr (5, [.ref q7_5, .ref q15_9, .ref q23_13, .ref q31_17, .int 0, .ref q39_21, .ref q47_25, .null, .null])), (q7_5, .inl (cy 0, 40, .inl (fun _ => 0))), (q15_9, .inl (cy 0, 40, .inl (fun _ => 0))), (q23_13, .inl (cy 0, 40, .inl (fun _ => 0))), (q31_17, .inl (cy 0, 40, .inl (fun _ => 0))), (q39_21, .inl (cy 0, 40, .inl (fun _ => 0))), (q47_25, .inl (cy 0, 45, .inl (fun _ => 0))), (q55_29, .inl (cy 0, 60, .inl (fun _ => 0)))] H := hP
  have hD : va_D A [(b, .inr (5, [.ref q7_5, .ref q15_9, .ref q23_13, .ref q31_17, .int 0, .ref q39_21, .ref q47_25, .null, .null])), (q7_5, .inl (cy 0, 40, .inl (fun _ => 0))), (q15_9, .inl (cy 0, 40, .inl (fun _ => 0))), (q23_13, .inl (cy 0, 40, .inl (fun _ => 0))), (q31_17, .inl (cy 0, 40, .inl (fun _ => 0))), (q39_21, .inl (cy 0, 40, .inl (fun _ => 0))), (q47_25, .inl (cy 0, 45, .inl (fun _ => 0))), (q55_29, .inl (cy 0, 60, .inl (fun _ => 0)))] := hD
  refine va_putF (D := D) (ci := 5) (v := .ref q55_29) (ty := .array .int) (C := RX5) (T := TX5) (N := 9) hx hb hts uX5_init_X5 tyX5 tyX5_ok nmX5 hown hK.1 hP hD hS 0 rfl rfl 7 (by decide) (hts (.fieldLink RX5 30 "WishedResistor$Nets" "waiting" "[I") (List.mem_of_getElem? (i := 11) rfl)) (fun _ h9 => h9) rfl hin rfl (by decide +kernel) rfl rfl (Nat.le_of_ble_eq_true rfl) dX5_init_57 (fun H locs hP hD hS => ?_)
  have hP : va_P D vwCl [(b, .inr (5, [.ref q7_5, .ref q15_9, .ref q23_13, .ref q31_17, .int 0, .ref q39_21, .ref q47_25, .ref q55_29, .null])), (q7_5, .inl (cy 0, 40, .inl (fun _ => 0))), (q15_9, .inl (cy 0, 40, .inl (fun _ => 0))), (q23_13, .inl (cy 0, 40, .inl (fun _ => 0))), (q31_17, .inl (cy 0, 40, .inl (fun _ => 0))), (q39_21, .inl (cy 0, 40, .inl (fun _ => 0))), (q47_25, .inl (cy 0, 45, .inl (fun _ => 0))), (q55_29, .inl (cy 0, 60, .inl (fun _ => 0)))] H := hP
  have hD : va_D A [(b, .inr (5, [.ref q7_5, .ref q15_9, .ref q23_13, .ref q31_17, .int 0, .ref q39_21, .ref q47_25, .ref q55_29, .null])), (q7_5, .inl (cy 0, 40, .inl (fun _ => 0))), (q15_9, .inl (cy 0, 40, .inl (fun _ => 0))), (q23_13, .inl (cy 0, 40, .inl (fun _ => 0))), (q31_17, .inl (cy 0, 40, .inl (fun _ => 0))), (q39_21, .inl (cy 0, 40, .inl (fun _ => 0))), (q47_25, .inl (cy 0, 45, .inl (fun _ => 0))), (q55_29, .inl (cy 0, 60, .inl (fun _ => 0)))] := hD
  refine lv_aload_n hx hb dX5_init_60 rfl (lv_at hl 0 rfl) ?_
  refine lv_bipush (v := (12 : Int32)) hx hb dX5_init_61 (by decide) ?_
  refine znew_int hx hb (hts (.arrayClass .int) (List.mem_of_getElem? (i := 4) rfl)) hK hP hD hS hA (by decide) (N' := 12) (by decide) (Nat.le_of_ble_eq_true rfl) (Nat.le_of_ble_eq_true rfl) (Nat.le_of_ble_eq_true rfl) dX5_init_63 (fun q63_33 H hP hD hS => ?_)
  have hP : va_P D vwCl [(b, .inr (5, [.ref q7_5, .ref q15_9, .ref q23_13, .ref q31_17, .int 0, .ref q39_21, .ref q47_25, .ref q55_29, .null])), (q7_5, .inl (cy 0, 40, .inl (fun _ => 0))), (q15_9, .inl (cy 0, 40, .inl (fun _ => 0))), (q23_13, .inl (cy 0, 40, .inl (fun _ => 0))), (q31_17, .inl (cy 0, 40, .inl (fun _ => 0))), (q39_21, .inl (cy 0, 40, .inl (fun _ => 0))), (q47_25, .inl (cy 0, 45, .inl (fun _ => 0))), (q55_29, .inl (cy 0, 60, .inl (fun _ => 0))), (q63_33, .inl (cy 0, 12, .inl (fun _ => 0)))] H := hP
  have hD : va_D A [(b, .inr (5, [.ref q7_5, .ref q15_9, .ref q23_13, .ref q31_17, .int 0, .ref q39_21, .ref q47_25, .ref q55_29, .null])), (q7_5, .inl (cy 0, 40, .inl (fun _ => 0))), (q15_9, .inl (cy 0, 40, .inl (fun _ => 0))), (q23_13, .inl (cy 0, 40, .inl (fun _ => 0))), (q31_17, .inl (cy 0, 40, .inl (fun _ => 0))), (q39_21, .inl (cy 0, 40, .inl (fun _ => 0))), (q47_25, .inl (cy 0, 45, .inl (fun _ => 0))), (q55_29, .inl (cy 0, 60, .inl (fun _ => 0))), (q63_33, .inl (cy 0, 12, .inl (fun _ => 0)))] := hD
  refine va_putF (D := D) (ci := 5) (v := .ref q63_33) (ty := .array .int) (C := RX5) (T := TX5) (N := 9) hx hb hts uX5_init_X5 tyX5 tyX5_ok nmX5 hown hK.1 hP hD hS 0 rfl rfl 8 (by decide) (hts (.fieldLink RX5 33 "WishedResistor$Nets" "made" "[I") (List.mem_of_getElem? (i := 12) rfl)) (fun _ h9 => h9) rfl hin rfl (by decide +kernel) rfl rfl (Nat.le_of_ble_eq_true rfl) dX5_init_65 (fun H locs hP hD hS => ?_)
  have hP : va_P D vwCl [(b, .inr (5, [.ref q7_5, .ref q15_9, .ref q23_13, .ref q31_17, .int 0, .ref q39_21, .ref q47_25, .ref q55_29, .ref q63_33])), (q7_5, .inl (cy 0, 40, .inl (fun _ => 0))), (q15_9, .inl (cy 0, 40, .inl (fun _ => 0))), (q23_13, .inl (cy 0, 40, .inl (fun _ => 0))), (q31_17, .inl (cy 0, 40, .inl (fun _ => 0))), (q39_21, .inl (cy 0, 40, .inl (fun _ => 0))), (q47_25, .inl (cy 0, 45, .inl (fun _ => 0))), (q55_29, .inl (cy 0, 60, .inl (fun _ => 0))), (q63_33, .inl (cy 0, 12, .inl (fun _ => 0)))] H := hP
  have hD : va_D A [(b, .inr (5, [.ref q7_5, .ref q15_9, .ref q23_13, .ref q31_17, .int 0, .ref q39_21, .ref q47_25, .ref q55_29, .ref q63_33])), (q7_5, .inl (cy 0, 40, .inl (fun _ => 0))), (q15_9, .inl (cy 0, 40, .inl (fun _ => 0))), (q23_13, .inl (cy 0, 40, .inl (fun _ => 0))), (q31_17, .inl (cy 0, 40, .inl (fun _ => 0))), (q39_21, .inl (cy 0, 40, .inl (fun _ => 0))), (q47_25, .inl (cy 0, 45, .inl (fun _ => 0))), (q55_29, .inl (cy 0, 60, .inl (fun _ => 0))), (q63_33, .inl (cy 0, 12, .inl (fun _ => 0)))] := hD
  exact hret (fun k => if k = 0 then q7_5 else if k = 1 then q15_9 else if k = 2 then q23_13 else if k = 3 then q31_17 else if k = 4 then q39_21 else if k = 5 then q47_25 else if k = 6 then q55_29 else if k = 7 then q63_33 else 0) hP hD hS dX5_init_68

theorem uX6_init_X6 : ∀ w ∈ u_ws RX6 TX6 4, w ∈ wsX6_init := fun w h => (List.mem_cons_of_mem _ (List.mem_append_right _ h))
abbrev wnX6 (cy : Nat → ClassId) (b : Nat) (u : Nat → Nat) : va_W := [(b, .inr (6, [.ref (u 0), .ref (u 1), .int 0, .ref (u 2)])), ((u 0), .inl (cy 0, 23, .inl (fun _ => 0))), ((u 1), .inl (cy 0, 23, .inl (fun _ => 0))), ((u 2), .inl (cy 0, 24, .inl (fun _ => 0)))]
abbrev rmX6_init : Room := { frames := 1, cells := 3, slots := 70, locals := 20 }
theorem cdX6_init : (yX6_init).cls ≠ "java/lang/invoke/MethodHandle" ∧ (yX6_init).cls ≠ "java/lang/invoke/VarHandle" ∧ (parseMethodDescriptor (yX6_init).desc).map (fun d => d.parameters.length) = some 0 := by decide +kernel
set_option maxHeartbeats 4000000 in
set_option maxRecDepth 100000 in
theorem mX6_init (l : Launch) (D : va_G) (cy : Nat → ClassId) (sz : Nat) (b : Nat) : zMc l yX6_init wsX6_init rmX6_init [.ref b] D cy [(b, .inr (6, [.null, .null, .int 0, .null]))] sz 3 70 (fun u => wnX6 cy b u) := by
  refine zOfc (by decide +kernel) rfl (Nat.le_of_ble_eq_true rfl) ?_
  intro p e s m args below meth c A ls Q hx hb hml hts hown hnm hP hK hD hA hS hl hret
  have hown : s.vm.findClass RX6 = some m.cls := hown
  have hin : meth.name = "<init>" := hnm
  have hl : lv_has ls 1 [(0, .ref b)] := hl
  refine lv_aload_n hx hb dX6_init_0 rfl (lv_at hl 0 rfl) ?_
  refine W.objInit hx hb hown (hts (.methodLink RX6 3 objectInit) (List.mem_of_getElem? (i := 1) rfl)) (hts (.instanceMethod objectInit) (List.mem_of_getElem? (i := 2) rfl)) (hts (.code objectInit ⟨#[0xb1]⟩ 1 none) (List.mem_of_getElem? (i := 3) rfl)) rfl (by rw [hml]; exact hl.1) rfl dX6_init_1 (Nat.le_of_ble_eq_true rfl) (Nat.le_of_ble_eq_true rfl) ?_
  refine W.eq (g2 := F0 m 4 ls []) rfl ?_
  refine lv_aload_n hx hb dX6_init_4 rfl (lv_at hl 0 rfl) ?_
  refine lv_bipush (v := (23 : Int32)) hx hb dX6_init_5 (by decide) ?_
  refine znew_int hx hb (hts (.arrayClass .int) (List.mem_of_getElem? (i := 4) rfl)) hK hP hD hS hA (by decide) (N' := 23) (by decide) (Nat.le_of_ble_eq_true rfl) (Nat.le_of_ble_eq_true rfl) (Nat.le_of_ble_eq_true rfl) dX6_init_7 (fun q7_5 H hP hD hS => ?_)
  have hP : va_P D vwCl [(b, .inr (6, [.null, .null, .int 0, .null])), (q7_5, .inl (cy 0, 23, .inl (fun _ => 0)))] H := hP
  have hD : va_D A [(b, .inr (6, [.null, .null, .int 0, .null])), (q7_5, .inl (cy 0, 23, .inl (fun _ => 0)))] := hD
  refine va_putF (D := D) (ci := 6) (v := .ref q7_5) (ty := .array .int) (C := RX6) (T := TX6) (N := 4) hx hb hts uX6_init_X6 tyX6 tyX6_ok nmX6 hown hK.1 hP hD hS 0 rfl rfl 0 (by decide) (hts (.fieldLink RX6 9 "WishedResistor$Plan" "kind" "[I") (List.mem_of_getElem? (i := 5) rfl)) (fun _ h9 => h9) rfl hin rfl (by decide +kernel) rfl rfl (Nat.le_of_ble_eq_true rfl) dX6_init_9 (fun H locs hP hD hS => ?_)
  have hP : va_P D vwCl [(b, .inr (6, [.ref q7_5, .null, .int 0, .null])), (q7_5, .inl (cy 0, 23, .inl (fun _ => 0)))] H := hP
  have hD : va_D A [(b, .inr (6, [.ref q7_5, .null, .int 0, .null])), (q7_5, .inl (cy 0, 23, .inl (fun _ => 0)))] := hD
  refine lv_aload_n hx hb dX6_init_12 rfl (lv_at hl 0 rfl) ?_
  refine lv_bipush (v := (23 : Int32)) hx hb dX6_init_13 (by decide) ?_
  refine znew_int hx hb (hts (.arrayClass .int) (List.mem_of_getElem? (i := 4) rfl)) hK hP hD hS hA (by decide) (N' := 23) (by decide) (Nat.le_of_ble_eq_true rfl) (Nat.le_of_ble_eq_true rfl) (Nat.le_of_ble_eq_true rfl) dX6_init_15 (fun q15_9 H hP hD hS => ?_)
  have hP : va_P D vwCl [(b, .inr (6, [.ref q7_5, .null, .int 0, .null])), (q7_5, .inl (cy 0, 23, .inl (fun _ => 0))), (q15_9, .inl (cy 0, 23, .inl (fun _ => 0)))] H := hP
  have hD : va_D A [(b, .inr (6, [.ref q7_5, .null, .int 0, .null])), (q7_5, .inl (cy 0, 23, .inl (fun _ => 0))), (q15_9, .inl (cy 0, 23, .inl (fun _ => 0)))] := hD
  refine va_putF (D := D) (ci := 6) (v := .ref q15_9) (ty := .array .int) (C := RX6) (T := TX6) (N := 4) hx hb hts uX6_init_X6 tyX6 tyX6_ok nmX6 hown hK.1 hP hD hS 0 rfl rfl 1 (by decide) (hts (.fieldLink RX6 15 "WishedResistor$Plan" "sort" "[I") (List.mem_of_getElem? (i := 6) rfl)) (fun _ h9 => h9) rfl hin rfl (by decide +kernel) rfl rfl (Nat.le_of_ble_eq_true rfl) dX6_init_17 (fun H locs hP hD hS => ?_)
  have hP : va_P D vwCl [(b, .inr (6, [.ref q7_5, .ref q15_9, .int 0, .null])), (q7_5, .inl (cy 0, 23, .inl (fun _ => 0))), (q15_9, .inl (cy 0, 23, .inl (fun _ => 0)))] H := hP
  have hD : va_D A [(b, .inr (6, [.ref q7_5, .ref q15_9, .int 0, .null])), (q7_5, .inl (cy 0, 23, .inl (fun _ => 0))), (q15_9, .inl (cy 0, 23, .inl (fun _ => 0)))] := hD
  refine lv_aload_n hx hb dX6_init_20 rfl (lv_at hl 0 rfl) ?_
  refine lv_bipush (v := (24 : Int32)) hx hb dX6_init_21 (by decide) ?_
  refine znew_int hx hb (hts (.arrayClass .int) (List.mem_of_getElem? (i := 4) rfl)) hK hP hD hS hA (by decide) (N' := 24) (by decide) (Nat.le_of_ble_eq_true rfl) (Nat.le_of_ble_eq_true rfl) (Nat.le_of_ble_eq_true rfl) dX6_init_23 (fun q23_13 H hP hD hS => ?_)
  have hP : va_P D vwCl [(b, .inr (6, [.ref q7_5, .ref q15_9, .int 0, .null])), (q7_5, .inl (cy 0, 23, .inl (fun _ => 0))), (q15_9, .inl (cy 0, 23, .inl (fun _ => 0))), (q23_13, .inl (cy 0, 24, .inl (fun _ => 0)))] H := hP
  have hD : va_D A [(b, .inr (6, [.ref q7_5, .ref q15_9, .int 0, .null])), (q7_5, .inl (cy 0, 23, .inl (fun _ => 0))), (q15_9, .inl (cy 0, 23, .inl (fun _ => 0))), (q23_13, .inl (cy 0, 24, .inl (fun _ => 0)))] := hD
  refine va_putF (D := D) (ci := 6) (v := .ref q23_13) (ty := .array .int) (C := RX6) (T := TX6) (N := 4) hx hb hts uX6_init_X6 tyX6 tyX6_ok nmX6 hown hK.1 hP hD hS 0 rfl rfl 3 (by decide) (hts (.fieldLink RX6 18 "WishedResistor$Plan" "waiting" "[I") (List.mem_of_getElem? (i := 7) rfl)) (fun _ h9 => h9) rfl hin rfl (by decide +kernel) rfl rfl (Nat.le_of_ble_eq_true rfl) dX6_init_25 (fun H locs hP hD hS => ?_)
  have hP : va_P D vwCl [(b, .inr (6, [.ref q7_5, .ref q15_9, .int 0, .ref q23_13])), (q7_5, .inl (cy 0, 23, .inl (fun _ => 0))), (q15_9, .inl (cy 0, 23, .inl (fun _ => 0))), (q23_13, .inl (cy 0, 24, .inl (fun _ => 0)))] H := hP
  have hD : va_D A [(b, .inr (6, [.ref q7_5, .ref q15_9, .int 0, .ref q23_13])), (q7_5, .inl (cy 0, 23, .inl (fun _ => 0))), (q15_9, .inl (cy 0, 23, .inl (fun _ => 0))), (q23_13, .inl (cy 0, 24, .inl (fun _ => 0)))] := hD
  exact hret (fun k => if k = 0 then q7_5 else if k = 1 then q15_9 else if k = 2 then q23_13 else 0) hP hD hS dX6_init_28

theorem uX8_init_X8 : ∀ w ∈ u_ws RX8 TX8 3, w ∈ wsX8_init := fun w h => (List.mem_cons_of_mem _ (List.mem_append_right _ h))
abbrev wnX8 (cy : Nat → ClassId) (b : Nat) (u : Nat → Nat) : va_W := [(b, .inr (8, [.ref (u 0), .int 0, .ref (u 1)])), ((u 0), .inl (cy 0, 60, .inl (fun _ => 0))), ((u 1), .inl (cy 0, 11, .inl (fun _ => 0)))]
abbrev rmX8_init : Room := { frames := 1, cells := 2, slots := 71, locals := 20 }
theorem cdX8_init : (yX8_init).cls ≠ "java/lang/invoke/MethodHandle" ∧ (yX8_init).cls ≠ "java/lang/invoke/VarHandle" ∧ (parseMethodDescriptor (yX8_init).desc).map (fun d => d.parameters.length) = some 0 := by decide +kernel
set_option maxHeartbeats 4000000 in
set_option maxRecDepth 100000 in
theorem mX8_init (l : Launch) (D : va_G) (cy : Nat → ClassId) (sz : Nat) (b : Nat) : zMc l yX8_init wsX8_init rmX8_init [.ref b] D cy [(b, .inr (8, [.null, .int 0, .null]))] sz 2 71 (fun u => wnX8 cy b u) := by
  refine zOfc (by decide +kernel) rfl (Nat.le_of_ble_eq_true rfl) ?_
  intro p e s m args below meth c A ls Q hx hb hml hts hown hnm hP hK hD hA hS hl hret
  have hown : s.vm.findClass RX8 = some m.cls := hown
  have hin : meth.name = "<init>" := hnm
  have hl : lv_has ls 1 [(0, .ref b)] := hl
  refine lv_aload_n hx hb dX8_init_0 rfl (lv_at hl 0 rfl) ?_
  refine W.objInit hx hb hown (hts (.methodLink RX8 3 objectInit) (List.mem_of_getElem? (i := 1) rfl)) (hts (.instanceMethod objectInit) (List.mem_of_getElem? (i := 2) rfl)) (hts (.code objectInit ⟨#[0xb1]⟩ 1 none) (List.mem_of_getElem? (i := 3) rfl)) rfl (by rw [hml]; exact hl.1) rfl dX8_init_1 (Nat.le_of_ble_eq_true rfl) (Nat.le_of_ble_eq_true rfl) ?_
  refine W.eq (g2 := F0 m 4 ls []) rfl ?_
  refine lv_aload_n hx hb dX8_init_4 rfl (lv_at hl 0 rfl) ?_
  refine lv_bipush (v := (60 : Int32)) hx hb dX8_init_5 (by decide) ?_
  refine znew_int hx hb (hts (.arrayClass .int) (List.mem_of_getElem? (i := 4) rfl)) hK hP hD hS hA (by decide) (N' := 60) (by decide) (Nat.le_of_ble_eq_true rfl) (Nat.le_of_ble_eq_true rfl) (Nat.le_of_ble_eq_true rfl) dX8_init_7 (fun q7_5 H hP hD hS => ?_)
  have hP : va_P D vwCl [(b, .inr (8, [.null, .int 0, .null])), (q7_5, .inl (cy 0, 60, .inl (fun _ => 0)))] H := hP
  have hD : va_D A [(b, .inr (8, [.null, .int 0, .null])), (q7_5, .inl (cy 0, 60, .inl (fun _ => 0)))] := hD
  refine va_putF (D := D) (ci := 8) (v := .ref q7_5) (ty := .array .int) (C := RX8) (T := TX8) (N := 3) hx hb hts uX8_init_X8 tyX8 tyX8_ok nmX8 hown hK.1 hP hD hS 0 rfl rfl 0 (by decide) (hts (.fieldLink RX8 9 "WishedResistor$Tape" "letters" "[I") (List.mem_of_getElem? (i := 5) rfl)) (fun _ h9 => h9) rfl hin rfl (by decide +kernel) rfl rfl (Nat.le_of_ble_eq_true rfl) dX8_init_9 (fun H locs hP hD hS => ?_)
  have hP : va_P D vwCl [(b, .inr (8, [.ref q7_5, .int 0, .null])), (q7_5, .inl (cy 0, 60, .inl (fun _ => 0)))] H := hP
  have hD : va_D A [(b, .inr (8, [.ref q7_5, .int 0, .null])), (q7_5, .inl (cy 0, 60, .inl (fun _ => 0)))] := hD
  refine lv_aload_n hx hb dX8_init_12 rfl (lv_at hl 0 rfl) ?_
  refine lv_bipush (v := (11 : Int32)) hx hb dX8_init_13 (by decide) ?_
  refine znew_int hx hb (hts (.arrayClass .int) (List.mem_of_getElem? (i := 4) rfl)) hK hP hD hS hA (by decide) (N' := 11) (by decide) (Nat.le_of_ble_eq_true rfl) (Nat.le_of_ble_eq_true rfl) (Nat.le_of_ble_eq_true rfl) dX8_init_15 (fun q15_9 H hP hD hS => ?_)
  have hP : va_P D vwCl [(b, .inr (8, [.ref q7_5, .int 0, .null])), (q7_5, .inl (cy 0, 60, .inl (fun _ => 0))), (q15_9, .inl (cy 0, 11, .inl (fun _ => 0)))] H := hP
  have hD : va_D A [(b, .inr (8, [.ref q7_5, .int 0, .null])), (q7_5, .inl (cy 0, 60, .inl (fun _ => 0))), (q15_9, .inl (cy 0, 11, .inl (fun _ => 0)))] := hD
  refine va_putF (D := D) (ci := 8) (v := .ref q15_9) (ty := .array .int) (C := RX8) (T := TX8) (N := 3) hx hb hts uX8_init_X8 tyX8 tyX8_ok nmX8 hown hK.1 hP hD hS 0 rfl rfl 2 (by decide) (hts (.fieldLink RX8 15 "WishedResistor$Tape" "joins" "[I") (List.mem_of_getElem? (i := 6) rfl)) (fun _ h9 => h9) rfl hin rfl (by decide +kernel) rfl rfl (Nat.le_of_ble_eq_true rfl) dX8_init_17 (fun H locs hP hD hS => ?_)
  have hP : va_P D vwCl [(b, .inr (8, [.ref q7_5, .int 0, .ref q15_9])), (q7_5, .inl (cy 0, 60, .inl (fun _ => 0))), (q15_9, .inl (cy 0, 11, .inl (fun _ => 0)))] H := hP
  have hD : va_D A [(b, .inr (8, [.ref q7_5, .int 0, .ref q15_9])), (q7_5, .inl (cy 0, 60, .inl (fun _ => 0))), (q15_9, .inl (cy 0, 11, .inl (fun _ => 0)))] := hD
  exact hret (fun k => if k = 0 then q7_5 else if k = 1 then q15_9 else 0) hP hD hS dX8_init_20

theorem uX9_init_X9 : ∀ w ∈ u_ws RX9 TX9 3, w ∈ wsX9_init := fun w h => (List.mem_cons_of_mem _ (List.mem_append_right _ h))
abbrev wnX9 (cy : Nat → ClassId) (b : Nat) (u : Nat → Nat) : va_W := [(b, .inr (9, [.int (-1 : Int32), .int 0, .ref (u 0)])), ((u 0), .inl (cy 0, 20, .inl (fun _ => 0)))]
abbrev rmX9_init : Room := { frames := 1, cells := 1, slots := 20, locals := 20 }
theorem cdX9_init : (yX9_init).cls ≠ "java/lang/invoke/MethodHandle" ∧ (yX9_init).cls ≠ "java/lang/invoke/VarHandle" ∧ (parseMethodDescriptor (yX9_init).desc).map (fun d => d.parameters.length) = some 0 := by decide +kernel
set_option maxHeartbeats 4000000 in
set_option maxRecDepth 100000 in
theorem mX9_init (l : Launch) (D : va_G) (cy : Nat → ClassId) (sz : Nat) (b : Nat) : zMc l yX9_init wsX9_init rmX9_init [.ref b] D cy [(b, .inr (9, [.int 0, .int 0, .null]))] sz 1 20 (fun u => wnX9 cy b u) := by
  refine zOfc (by decide +kernel) rfl (Nat.le_of_ble_eq_true rfl) ?_
  intro p e s m args below meth c A ls Q hx hb hml hts hown hnm hP hK hD hA hS hl hret
  have hown : s.vm.findClass RX9 = some m.cls := hown
  have hin : meth.name = "<init>" := hnm
  have hl : lv_has ls 1 [(0, .ref b)] := hl
  refine lv_aload_n hx hb dX9_init_0 rfl (lv_at hl 0 rfl) ?_
  refine W.objInit hx hb hown (hts (.methodLink RX9 3 objectInit) (List.mem_of_getElem? (i := 1) rfl)) (hts (.instanceMethod objectInit) (List.mem_of_getElem? (i := 2) rfl)) (hts (.code objectInit ⟨#[0xb1]⟩ 1 none) (List.mem_of_getElem? (i := 3) rfl)) rfl (by rw [hml]; exact hl.1) rfl dX9_init_1 (Nat.le_of_ble_eq_true rfl) (Nat.le_of_ble_eq_true rfl) ?_
  refine W.eq (g2 := F0 m 4 ls []) rfl ?_
  refine lv_aload_n hx hb dX9_init_4 rfl (lv_at hl 0 rfl) ?_
  refine lv_iconst (v := (-1 : Int32)) hx hb dX9_init_5 (by decide) ?_
  refine va_put (D := D) (ci := 9) (v := .int (-1 : Int32)) (ty := .int) (C := RX9) (T := TX9) (N := 3) hx hb hts uX9_init_X9 tyX9 tyX9_ok nmX9 hown hK.1 hP hD hS 0 rfl rfl 0 (by decide) (hts (.fieldLink RX9 9 "WishedResistor$Tray" "kind" "I") (List.mem_of_getElem? (i := 4) rfl)) (fun _ h9 => h9) rfl (by decide +kernel) rfl rfl (Nat.le_of_ble_eq_true rfl) dX9_init_6 (fun H locs hP hD hS => ?_)
  have hP : va_P D vwCl [(b, .inr (9, [.int (-1 : Int32), .int 0, .null]))] H := hP
  have hD : va_D A [(b, .inr (9, [.int (-1 : Int32), .int 0, .null]))] := hD
  refine lv_aload_n hx hb dX9_init_9 rfl (lv_at hl 0 rfl) ?_
  refine lv_bipush (v := (20 : Int32)) hx hb dX9_init_10 (by decide) ?_
  refine znew_int hx hb (hts (.arrayClass .int) (List.mem_of_getElem? (i := 5) rfl)) hK hP hD hS hA (by decide) (N' := 20) (by decide) (Nat.le_of_ble_eq_true rfl) (Nat.le_of_ble_eq_true rfl) (Nat.le_of_ble_eq_true rfl) dX9_init_12 (fun q12_8 H hP hD hS => ?_)
  have hP : va_P D vwCl [(b, .inr (9, [.int (-1 : Int32), .int 0, .null])), (q12_8, .inl (cy 0, 20, .inl (fun _ => 0)))] H := hP
  have hD : va_D A [(b, .inr (9, [.int (-1 : Int32), .int 0, .null])), (q12_8, .inl (cy 0, 20, .inl (fun _ => 0)))] := hD
  refine va_putF (D := D) (ci := 9) (v := .ref q12_8) (ty := .array .int) (C := RX9) (T := TX9) (N := 3) hx hb hts uX9_init_X9 tyX9 tyX9_ok nmX9 hown hK.1 hP hD hS 0 rfl rfl 2 (by decide) (hts (.fieldLink RX9 15 "WishedResistor$Tray" "places" "[I") (List.mem_of_getElem? (i := 6) rfl)) (fun _ h9 => h9) rfl hin rfl (by decide +kernel) rfl rfl (Nat.le_of_ble_eq_true rfl) dX9_init_14 (fun H locs hP hD hS => ?_)
  have hP : va_P D vwCl [(b, .inr (9, [.int (-1 : Int32), .int 0, .ref q12_8])), (q12_8, .inl (cy 0, 20, .inl (fun _ => 0)))] H := hP
  have hD : va_D A [(b, .inr (9, [.int (-1 : Int32), .int 0, .ref q12_8])), (q12_8, .inl (cy 0, 20, .inl (fun _ => 0)))] := hD
  exact hret (fun k => if k = 0 then q12_8 else 0) hP hD hS dX9_init_17
