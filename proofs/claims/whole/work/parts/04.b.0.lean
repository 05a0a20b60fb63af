theorem uX5_copy_X5 : ∀ w ∈ u_ws RX5 TX5 9, w ∈ wsX5_copy := fun w h => (List.mem_cons_of_mem _ (List.mem_append_right _ h))
abbrev wdX5_copy (cy : Nat → ClassId) (bp1 bp1_kind bp1_first bp1_second bp1_parts bp1_likes bp1_letters bp1_waiting bp1_made b b_kind b_first b_second b_parts b_likes b_letters b_waiting b_made : Nat) (cp1_count c_count : Int32) (c_kind cp1_kind c_first cp1_first c_second cp1_second c_parts cp1_parts : Nat → Int32) : va_W := [(bp1, .inr (5, [.ref bp1_kind, .ref bp1_first, .ref bp1_second, .ref bp1_parts, .int cp1_count, .ref bp1_likes, .ref bp1_letters, .ref bp1_waiting, .ref bp1_made])), (b, .inr (5, [.ref b_kind, .ref b_first, .ref b_second, .ref b_parts, .int c_count, .ref b_likes, .ref b_letters, .ref b_waiting, .ref b_made])), (b_kind, .inl (cy 0, 40, .inl c_kind)), (bp1_kind, .inl (cy 0, 40, .inl cp1_kind)), (b_first, .inl (cy 0, 40, .inl c_first)), (bp1_first, .inl (cy 0, 40, .inl cp1_first)), (b_second, .inl (cy 0, 40, .inl c_second)), (bp1_second, .inl (cy 0, 40, .inl cp1_second)), (b_parts, .inl (cy 0, 40, .inl c_parts)), (bp1_parts, .inl (cy 0, 40, .inl cp1_parts))]
abbrev rmX5_copy : Room := { frames := 1, cells := 0, slots := 0, locals := 27 }
theorem cdX5_copy : (yX5_copy).cls ≠ "java/lang/invoke/MethodHandle" ∧ (yX5_copy).cls ≠ "java/lang/invoke/VarHandle" ∧ (parseMethodDescriptor (yX5_copy).desc).map (fun d => d.parameters.length) = some 1 := by decide +kernel
def fX5_copy (cp1_count c_count : Int32) (c_kind cp1_kind c_first cp1_first c_second cp1_second c_parts cp1_parts : Nat → Int32) : Option (Int32 × (Nat → Int32) × (Nat → Int32) × (Nat → Int32) × (Nat → Int32)) :=
  some (cp1_count, (va_cpy cp1_kind c_kind ((0 : Int32)).toNatClampNeg ((0 : Int32)).toNatClampNeg ((40 : Int32)).toNatClampNeg), (va_cpy cp1_first c_first ((0 : Int32)).toNatClampNeg ((0 : Int32)).toNatClampNeg ((40 : Int32)).toNatClampNeg), (va_cpy cp1_second c_second ((0 : Int32)).toNatClampNeg ((0 : Int32)).toNatClampNeg ((40 : Int32)).toNatClampNeg), (va_cpy cp1_parts c_parts ((0 : Int32)).toNatClampNeg ((0 : Int32)).toNatClampNeg ((40 : Int32)).toNatClampNeg))
set_option maxHeartbeats 4000000 in
set_option maxRecDepth 100000 in
theorem mX5_copy (l : Launch) (D : va_G) (cy : Nat → ClassId) (sz : Nat) (bp1 bp1_kind bp1_first bp1_second bp1_parts bp1_likes bp1_letters bp1_waiting bp1_made b b_kind b_first b_second b_parts b_likes b_letters b_waiting b_made : Nat) (cp1_count c_count : Int32) (c_kind cp1_kind c_first cp1_first c_second cp1_second c_parts cp1_parts : Nat → Int32) (res : (Int32 × (Nat → Int32) × (Nat → Int32) × (Nat → Int32) × (Nat → Int32))) (h : fX5_copy cp1_count c_count c_kind cp1_kind c_first cp1_first c_second cp1_second c_parts cp1_parts = some res) : zMv l yX5_copy wsX5_copy rmX5_copy [.ref b, .ref bp1] D cy (wdX5_copy cy bp1 bp1_kind bp1_first bp1_second bp1_parts bp1_likes bp1_letters bp1_waiting bp1_made b b_kind b_first b_second b_parts b_likes b_letters b_waiting b_made cp1_count c_count c_kind cp1_kind c_first cp1_first c_second cp1_second c_parts cp1_parts) sz  ((fun (o : (Int32 × (Nat → Int32) × (Nat → Int32) × (Nat → Int32) × (Nat → Int32))) => (wdX5_copy cy bp1 bp1_kind bp1_first bp1_second bp1_parts bp1_likes bp1_letters bp1_waiting bp1_made b b_kind b_first b_second b_parts b_likes b_letters b_waiting b_made cp1_count (o.1) (o.2.1) cp1_kind (o.2.2.1) cp1_first (o.2.2.2.1) cp1_second (o.2.2.2.2) cp1_parts)) res) := by
  refine zOfv (res := res) (Wf := (fun (o : (Int32 × (Nat → Int32) × (Nat → Int32) × (Nat → Int32) × (Nat → Int32))) => (wdX5_copy cy bp1 bp1_kind bp1_first bp1_second bp1_parts bp1_likes bp1_letters bp1_waiting bp1_made b b_kind b_first b_second b_parts b_likes b_letters b_waiting b_made cp1_count (o.1) (o.2.1) cp1_kind (o.2.2.1) cp1_first (o.2.2.2.1) cp1_second (o.2.2.2.2) cp1_parts))) (by decide +kernel) rfl (Nat.le_of_ble_eq_true rfl) ?_
  intro p e s m args below meth c A ls Q hx hb hml hts hown hP hK hD hA hS hl hret
  have hown : s.vm.findClass RX5 = some m.cls := hown
  have hl : lv_has ls 2 [(0, .ref b), (1, .ref bp1)] := hl
  refine lv_aload_n hx hb dX5_copy_0 rfl (lv_at hl 1 rfl) ?_
  refine va_get (D := D) (ci := 5) (v := .ref bp1_kind) (C := RX5) (T := TX5) (N := 9) hx hb hts uX5_copy_X5 hown hK.1 hP 0 rfl rfl 0 (by decide) (hts (.fieldLink RX5 9 "WishedResistor$Nets" "kind" "[I") (List.mem_of_getElem? (i := 1) rfl)) (fun _ h9 => h9) rfl dX5_copy_1 ?_
  refine lv_iconst (v := (0 : Int32)) hx hb dX5_copy_4 (by decide) ?_
  refine lv_aload_n hx hb dX5_copy_5 rfl (lv_at hl 0 rfl) ?_
  refine va_get (D := D) (ci := 5) (v := .ref b_kind) (C := RX5) (T := TX5) (N := 9) hx hb hts uX5_copy_X5 hown hK.1 hP 1 rfl rfl 0 (by decide) (hts (.fieldLink RX5 9 "WishedResistor$Nets" "kind" "[I") (List.mem_of_getElem? (i := 1) rfl)) (fun _ h9 => h9) rfl dX5_copy_6 ?_
  refine lv_iconst (v := (0 : Int32)) hx hb dX5_copy_9 (by decide) ?_
  refine lv_bipush (v := (40 : Int32)) hx hb dX5_copy_10 (by decide) ?_
  refine va_copyi hx hb (hml.trans hl.1.symm) hown (hts (.methodLink RX5 75 arraycopyName) (List.mem_of_getElem? (i := 2) rfl)) (hts (.native arraycopyName) (List.mem_of_getElem? (i := 3) rfl)) (hts (.static arraycopyName) (List.mem_of_getElem? (i := 4) rfl)) (hts (.initialized "java/lang/System") (List.mem_of_getElem? (i := 5) rfl)) hK.1 hP hD hS 3 2 0 0 rfl rfl rfl rfl rfl (by decide) (by decide) (by decide) (by decide) (by decide) (fun _ _ => rfl) (Nat.le_of_ble_eq_true rfl) (Nat.le_of_ble_eq_true rfl) dX5_copy_12 (fun H locs hP hD hS => ?_)
  have hP : va_P D vwCl (wdX5_copy cy bp1 bp1_kind bp1_first bp1_second bp1_parts bp1_likes bp1_letters bp1_waiting bp1_made b b_kind b_first b_second b_parts b_likes b_letters b_waiting b_made cp1_count c_count (va_cpy cp1_kind c_kind ((0 : Int32)).toNatClampNeg ((0 : Int32)).toNatClampNeg ((40 : Int32)).toNatClampNeg) cp1_kind c_first cp1_first c_second cp1_second c_parts cp1_parts) H := hP
  have hD : va_D A (wdX5_copy cy bp1 bp1_kind bp1_first bp1_second bp1_parts bp1_likes bp1_letters bp1_waiting bp1_made b b_kind b_first b_second b_parts b_likes b_letters b_waiting b_made cp1_count c_count (va_cpy cp1_kind c_kind ((0 : Int32)).toNatClampNeg ((0 : Int32)).toNatClampNeg ((40 : Int32)).toNatClampNeg) cp1_kind c_first cp1_first c_second cp1_second c_parts cp1_parts) := hD
  refine lv_aload_n hx hb dX5_copy_15 rfl (lv_at hl 1 rfl) ?_
  refine va_get (D := D) (ci := 5) (v := .ref bp1_first) (C := RX5) (T := TX5) (N := 9) hx hb hts uX5_copy_X5 hown hK.1 hP 0 rfl rfl 1 (by decide) (hts (.fieldLink RX5 15 "WishedResistor$Nets" "first" "[I") (List.mem_of_getElem? (i := 6) rfl)) (fun _ h9 => h9) rfl dX5_copy_16 ?_
  refine lv_iconst (v := (0 : Int32)) hx hb dX5_copy_19 (by decide) ?_
  refine lv_aload_n hx hb dX5_copy_20 rfl (lv_at hl 0 rfl) ?_
  refine va_get (D := D) (ci := 5) (v := .ref b_first) (C := RX5) (T := TX5) (N := 9) hx hb hts uX5_copy_X5 hown hK.1 hP 1 rfl rfl 1 (by decide) (hts (.fieldLink RX5 15 "WishedResistor$Nets" "first" "[I") (List.mem_of_getElem? (i := 6) rfl)) (fun _ h9 => h9) rfl dX5_copy_21 ?_
  refine lv_iconst (v := (0 : Int32)) hx hb dX5_copy_24 (by decide) ?_
  refine lv_bipush (v := (40 : Int32)) hx hb dX5_copy_25 (by decide) ?_
  refine va_copyi hx hb (hml.trans hl.1.symm) hown (hts (.methodLink RX5 75 arraycopyName) (List.mem_of_getElem? (i := 2) rfl)) (hts (.native arraycopyName) (List.mem_of_getElem? (i := 3) rfl)) (hts (.static arraycopyName) (List.mem_of_getElem? (i := 4) rfl)) (hts (.initialized "java/lang/System") (List.mem_of_getElem? (i := 5) rfl)) hK.1 hP hD hS 5 4 0 0 rfl rfl rfl rfl rfl (by decide) (by decide) (by decide) (by decide) (by decide) (fun _ _ => rfl) (Nat.le_of_ble_eq_true rfl) (Nat.le_of_ble_eq_true rfl) dX5_copy_27 (fun H locs hP hD hS => ?_)
  have hP : va_P D vwCl (wdX5_copy cy bp1 bp1_kind bp1_first bp1_second bp1_parts bp1_likes bp1_letters bp1_waiting bp1_made b b_kind b_first b_second b_parts b_likes b_letters b_waiting b_made cp1_count c_count (va_cpy cp1_kind c_kind ((0 : Int32)).toNatClampNeg ((0 : Int32)).toNatClampNeg ((40 : Int32)).toNatClampNeg) cp1_kind (va_cpy cp1_first c_first ((0 : Int32)).toNatClampNeg ((0 : Int32)).toNatClampNeg ((40 : Int32)).toNatClampNeg) cp1_first c_second cp1_second c_parts cp1_parts) H := hP
  have hD : va_D A (wdX5_copy cy bp1 bp1_kind bp1_first bp1_second bp1_parts bp1_likes bp1_letters bp1_waiting bp1_made b b_kind b_first b_second b_parts b_likes b_letters b_waiting b_made cp1_count c_count (va_cpy cp1_kind c_kind ((0 : Int32)).toNatClampNeg ((0 : Int32)).toNatClampNeg ((40 : Int32)).toNatClampNeg) cp1_kind (va_cpy cp1_first c_first ((0 : Int32)).toNatClampNeg ((0 : Int32)).toNatClampNeg ((40 : Int32)).toNatClampNeg) cp1_first c_second cp1_second c_parts cp1_parts) := hD
  refine lv_aload_n hx hb dX5_copy_30 rfl (lv_at hl 1 rfl) ?_
  refine va_get (D := D) (ci := 5) (v := .ref bp1_second) (C := RX5) (T := TX5) (N := 9) hx hb hts uX5_copy_X5 hown hK.1 hP 0 rfl rfl 2 (by decide) (hts (.fieldLink RX5 18 "WishedResistor$Nets" "second" "[I") (List.mem_of_getElem? (i := 7) rfl)) (fun _ h9 => h9) rfl dX5_copy_31 ?_
  refine lv_iconst (v := (0 : Int32)) hx hb dX5_copy_34 (by decide) ?_
  refine lv_aload_n hx hb dX5_copy_35 rfl (lv_at hl 0 rfl) ?_
  refine va_get (D := D) (ci := 5) (v := .ref b_second) (C := RX5) (T := TX5) (N := 9) hx hb hts uX5_copy_X5 hown hK.1 hP 1 rfl rfl 2 (by decide) (hts (.fieldLink RX5 18 "WishedResistor$Nets" "second" "[I") (List.mem_of_getElem? (i := 7) rfl)) (fun _ h9 => h9) rfl dX5_copy_36 ?_
  refine lv_iconst (v := (0 : Int32)) hx hb dX5_copy_39 (by decide) ?_
  refine lv_bipush (v := (40 : Int32)) hx hb dX5_copy_40 (by decide) ?_
  refine va_copyi hx hb (hml.trans hl.1.symm) hown (hts (.methodLink RX5 75 arraycopyName) (List.mem_of_getElem? (i := 2) rfl)) (hts (.native arraycopyName) (List.mem_of_getElem? (i := 3) rfl)) (hts (.static arraycopyName) (List.mem_of_getElem? (i := 4) rfl)) (hts (.initialized "java/lang/System") (List.mem_of_getElem? (i := 5) rfl)) hK.1 hP hD hS 7 6 0 0 rfl rfl rfl rfl rfl (by decide) (by decide) (by decide) (by decide) (by decide) (fun _ _ => rfl) (Nat.le_of_ble_eq_true rfl) (Nat.le_of_ble_eq_true rfl) dX5_copy_42 (fun H locs hP hD hS => ?_)
  have hP : va_P D vwCl (wdX5_copy cy bp1 bp1_kind bp1_first bp1_second bp1_parts bp1_likes bp1_letters bp1_waiting bp1_made b b_kind b_first b_second b_parts b_likes b_letters b_waiting b_made cp1_count c_count (va_cpy cp1_kind c_kind ((0 : Int32)).toNatClampNeg ((0 : Int32)).toNatClampNeg ((40 : Int32)).toNatClampNeg) cp1_kind (va_cpy cp1_first c_first ((0 : Int32)).toNatClampNeg ((0 : Int32)).toNatClampNeg ((40 : Int32)).toNatClampNeg) cp1_first (va_cpy cp1_second c_second ((0 : Int32)).toNatClampNeg ((0 : Int32)).toNatClampNeg ((40 : Int32)).toNatClampNeg) cp1_second c_parts cp1_parts) H := hP
  have hD : va_D A (wdX5_copy cy bp1 bp1_kind bp1_first bp1_second bp1_parts bp1_likes bp1_letters bp1_waiting bp1_made b b_kind b_first b_second b_parts b_likes b_letters b_waiting b_made cp1_count c_count (va_cpy cp1_kind c_kind ((0 : Int32)).toNatClampNeg ((0 : Int32)).toNatClampNeg ((40 : Int32)).toNatClampNeg) cp1_kind (va_cpy cp1_first c_first ((0 : Int32)).toNatClampNeg ((0 : Int32)).toNatClampNeg ((40 : Int32)).toNatClampNeg) cp1_first (va_cpy cp1_second c_second ((0 : Int32)).toNatClampNeg ((0 : Int32)).toNatClampNeg ((40 : Int32)).toNatClampNeg) cp1_second c_parts cp1_parts) := hD
  refine lv_aload_n hx hb dX5_copy_45 rfl (lv_at hl 1 rfl) ?_
  refine va_get (D := D) (ci := 5) (v := .ref bp1_parts) (C := RX5) (T := TX5) (N := 9) hx hb hts uX5_copy_X5 hown hK.1 hP 0 rfl rfl 3 (by decide) (hts (.fieldLink RX5 21 "WishedResistor$Nets" "parts" "[I") (List.mem_of_getElem? (i := 8) rfl)) (fun _ h9 => h9) rfl dX5_copy_46 ?_
  refine lv_iconst (v := (0 : Int32)) hx hb dX5_copy_49 (by decide) ?_
  refine lv_aload_n hx hb dX5_copy_50 rfl (lv_at hl 0 rfl) ?_
  refine va_get (D := D) (ci := 5) (v := .ref b_parts) (C := RX5) (T := TX5) (N := 9) hx hb hts uX5_copy_X5 hown hK.1 hP 1 rfl rfl 3 (by decide) (hts (.fieldLink RX5 21 "WishedResistor$Nets" "parts" "[I") (List.mem_of_getElem? (i := 8) rfl)) (fun _ h9 => h9) rfl dX5_copy_51 ?_
  refine lv_iconst (v := (0 : Int32)) hx hb dX5_copy_54 (by decide) ?_
  refine lv_bipush (v := (40 : Int32)) hx hb dX5_copy_55 (by decide) ?_
  refine va_copyi hx hb (hml.trans hl.1.symm) hown (hts (.methodLink RX5 75 arraycopyName) (List.mem_of_getElem? (i := 2) rfl)) (hts (.native arraycopyName) (List.mem_of_getElem? (i := 3) rfl)) (hts (.static arraycopyName) (List.mem_of_getElem? (i := 4) rfl)) (hts (.initialized "java/lang/System") (List.mem_of_getElem? (i := 5) rfl)) hK.1 hP hD hS 9 8 0 0 rfl rfl rfl rfl rfl (by decide) (by decide) (by decide) (by decide) (by decide) (fun _ _ => rfl) (Nat.le_of_ble_eq_true rfl) (Nat.le_of_ble_eq_true rfl) dX5_copy_57 (fun H locs hP hD hS => ?_)
  have hP : va_P D vwCl (wdX5_copy cy bp1 bp1_kind bp1_first bp1_second bp1_parts bp1_likes bp1_letters bp1_waiting bp1_made b b_kind b_first b_second b_parts b_likes b_letters b_waiting b_made cp1_count c_count (va_cpy cp1_kind c_kind ((0 : Int32)).toNatClampNeg ((0 : Int32)).toNatClampNeg ((40 : Int32)).toNatClampNeg) cp1_kind (va_cpy cp1_first c_first ((0 : Int32)).toNatClampNeg ((0 : Int32)).toNatClampNeg ((40 : Int32)).toNatClampNeg) cp1_first (va_cpy cp1_second c_second ((0 : Int32)).toNatClampNeg ((0 : Int32)).toNatClampNeg ((40 : Int32)).toNatClampNeg) cp1_second (va_cpy cp1_parts c_parts ((0 : Int32)).toNatClampNeg ((0 : Int32)).toNatClampNeg ((40 : Int32)).toNatClampNeg) cp1_parts) H := hP
  have hD : va_D A (wdX5_copy cy bp1 bp1_kind bp1_first bp1_second bp1_parts bp1_likes bp1_letters bp1_waiting bp1_made b b_kind b_first b_second b_parts b_likes b_letters b_waiting b_made cp1_count c_count (va_cpy cp1_kind c_kind ((0 : Int32)).toNatClampNeg ((0 : Int32)).toNatClampNeg ((40 : Int32)).toNatClampNeg) cp1_kind (va_cpy cp1_first c_first ((0 : Int32)).toNatClampNeg ((0 : Int32)).toNatClampNeg ((40 : Int32)).toNatClampNeg) cp1_first (va_cpy cp1_second c_second ((0 : Int32)).toNatClampNeg ((0 : Int32)).toNatClampNeg ((40 : Int32)).toNatClampNeg) cp1_second (va_cpy cp1_parts c_parts ((0 : Int32)).toNatClampNeg ((0 : Int32)).toNatClampNeg ((40 : Int32)).toNatClampNeg) cp1_parts) := hD
  refine lv_aload_n hx hb dX5_copy_60 rfl (lv_at hl 0 rfl) ?_
  refine lv_aload_n hx hb dX5_copy_61 rfl (lv_at hl 1 rfl) ?_
  refine va_get (D := D) (ci := 5) (v := .int cp1_count) (C := RX5) (T := TX5) (N := 9) hx hb hts uX5_copy_X5 hown hK.1 hP 0 rfl rfl 4 (by decide) (hts (.fieldLink RX5 36 "WishedResistor$Nets" "count" "I") (List.mem_of_getElem? (i := 9) rfl)) (fun _ h9 => h9) rfl dX5_copy_62 ?_
  refine va_put (D := D) (ci := 5) (v := .int cp1_count) (ty := .int) (C := RX5) (T := TX5) (N := 9) hx hb hts uX5_copy_X5 tyX5 tyX5_ok nmX5 hown hK.1 hP hD hS 1 rfl rfl 4 (by decide) (hts (.fieldLink RX5 36 "WishedResistor$Nets" "count" "I") (List.mem_of_getElem? (i := 9) rfl)) (fun _ h9 => h9) rfl (by decide +kernel) rfl rfl (Nat.le_of_ble_eq_true rfl) dX5_copy_65 (fun H locs hP hD hS => ?_)
  have hP : va_P D vwCl (wdX5_copy cy bp1 bp1_kind bp1_first bp1_second bp1_parts bp1_likes bp1_letters bp1_waiting bp1_made b b_kind b_first b_second b_parts b_likes b_letters b_waiting b_made cp1_count cp1_count (va_cpy cp1_kind c_kind ((0 : Int32)).toNatClampNeg ((0 : Int32)).toNatClampNeg ((40 : Int32)).toNatClampNeg) cp1_kind (va_cpy cp1_first c_first ((0 : Int32)).toNatClampNeg ((0 : Int32)).toNatClampNeg ((40 : Int32)).toNatClampNeg) cp1_first (va_cpy cp1_second c_second ((0 : Int32)).toNatClampNeg ((0 : Int32)).toNatClampNeg ((40 : Int32)).toNatClampNeg) cp1_second (va_cpy cp1_parts c_parts ((0 : Int32)).toNatClampNeg ((0 : Int32)).toNatClampNeg ((40 : Int32)).toNatClampNeg) cp1_parts) H := hP
  have hD : va_D A (wdX5_copy cy bp1 bp1_kind bp1_first bp1_second bp1_parts bp1_likes bp1_letters bp1_waiting bp1_made b b_kind b_first b_second b_parts b_likes b_letters b_waiting b_made cp1_count cp1_count (va_cpy cp1_kind c_kind ((0 : Int32)).toNatClampNeg ((0 : Int32)).toNatClampNeg ((40 : Int32)).toNatClampNeg) cp1_kind (va_cpy cp1_first c_first ((0 : Int32)).toNatClampNeg ((0 : Int32)).toNatClampNeg ((40 : Int32)).toNatClampNeg) cp1_first (va_cpy cp1_second c_second ((0 : Int32)).toNatClampNeg ((0 : Int32)).toNatClampNeg ((40 : Int32)).toNatClampNeg) cp1_second (va_cpy cp1_parts c_parts ((0 : Int32)).toNatClampNeg ((0 : Int32)).toNatClampNeg ((40 : Int32)).toNatClampNeg) cp1_parts) := hD
  exact hret (o := (cp1_count, (va_cpy cp1_kind c_kind ((0 : Int32)).toNatClampNeg ((0 : Int32)).toNatClampNeg ((40 : Int32)).toNatClampNeg), (va_cpy cp1_first c_first ((0 : Int32)).toNatClampNeg ((0 : Int32)).toNatClampNeg ((40 : Int32)).toNatClampNeg), (va_cpy cp1_second c_second ((0 : Int32)).toNatClampNeg ((0 : Int32)).toNatClampNeg ((40 : Int32)).toNatClampNeg), (va_cpy cp1_parts c_parts ((0 : Int32)).toNatClampNeg ((0 : Int32)).toNatClampNeg ((40 : Int32)).toNatClampNeg))) h hP hD hS dX5_copy_68

theorem uX9_copy_X9 : ∀ w ∈ u_ws RX9 TX9 3, w ∈ wsX9_copy := fun w h => (List.mem_cons_of_mem _ (List.mem_append_right _ h))
abbrev wdX9_copy (cy : Nat → ClassId) (bp1 bp1_places b b_places : Nat) (cp1_kind cp1_size c_kind c_size : Int32) (c_places cp1_places : Nat → Int32) : va_W := [(bp1, .inr (9, [.int cp1_kind, .int cp1_size, .ref bp1_places])), (b, .inr (9, [.int c_kind, .int c_size, .ref b_places])), (b_places, .inl (cy 0, 20, .inl c_places)), (bp1_places, .inl (cy 0, 20, .inl cp1_places))]
abbrev rmX9_copy : Room := { frames := 1, cells := 0, slots := 0, locals := 27 }
theorem cdX9_copy : (yX9_copy).cls ≠ "java/lang/invoke/MethodHandle" ∧ (yX9_copy).cls ≠ "java/lang/invoke/VarHandle" ∧ (parseMethodDescriptor (yX9_copy).desc).map (fun d => d.parameters.length) = some 1 := by decide +kernel
def fX9_copy (cp1_kind cp1_size c_kind c_size : Int32) (c_places cp1_places : Nat → Int32) : Option (Int32 × Int32 × (Nat → Int32)) :=
  some (cp1_kind, cp1_size, (va_cpy cp1_places c_places ((0 : Int32)).toNatClampNeg ((0 : Int32)).toNatClampNeg ((20 : Int32)).toNatClampNeg))
set_option maxHeartbeats 4000000 in
set_option maxRecDepth 100000 in
theorem mX9_copy (l : Launch) (D : va_G) (cy : Nat → ClassId) (sz : Nat) (bp1 bp1_places b b_places : Nat) (cp1_kind cp1_size c_kind c_size : Int32) (c_places cp1_places : Nat → Int32) (res : (Int32 × Int32 × (Nat → Int32))) (h : fX9_copy cp1_kind cp1_size c_kind c_size c_places cp1_places = some res) : zMv l yX9_copy wsX9_copy rmX9_copy [.ref b, .ref bp1] D cy (wdX9_copy cy bp1 bp1_places b b_places cp1_kind cp1_size c_kind c_size c_places cp1_places) sz  ((fun (o : (Int32 × Int32 × (Nat → Int32))) => (wdX9_copy cy bp1 bp1_places b b_places cp1_kind cp1_size (o.1) (o.2.1) (o.2.2) cp1_places)) res) := by
  refine zOfv (res := res) (Wf := (fun (o : (Int32 × Int32 × (Nat → Int32))) => (wdX9_copy cy bp1 bp1_places b b_places cp1_kind cp1_size (o.1) (o.2.1) (o.2.2) cp1_places))) (by decide +kernel) rfl (Nat.le_of_ble_eq_true rfl) ?_
  intro p e s m args below meth c A ls Q hx hb hml hts hown hP hK hD hA hS hl hret
  have hown : s.vm.findClass RX9 = some m.cls := hown
  have hl : lv_has ls 2 [(0, .ref b), (1, .ref bp1)] := hl
  refine lv_aload_n hx hb dX9_copy_0 rfl (lv_at hl 0 rfl) ?_
  refine lv_aload_n hx hb dX9_copy_1 rfl (lv_at hl 1 rfl) ?_
  refine va_get (D := D) (ci := 9) (v := .int cp1_kind) (C := RX9) (T := TX9) (N := 3) hx hb hts uX9_copy_X9 hown hK.1 hP 0 rfl rfl 0 (by decide) (hts (.fieldLink RX9 9 "WishedResistor$Tray" "kind" "I") (List.mem_of_getElem? (i := 1) rfl)) (fun _ h9 => h9) rfl dX9_copy_2 ?_
  refine va_put (D := D) (ci := 9) (v := .int cp1_kind) (ty := .int) (C := RX9) (T := TX9) (N := 3) hx hb hts uX9_copy_X9 tyX9 tyX9_ok nmX9 hown hK.1 hP hD hS 1 rfl rfl 0 (by decide) (hts (.fieldLink RX9 9 "WishedResistor$Tray" "kind" "I") (List.mem_of_getElem? (i := 1) rfl)) (fun _ h9 => h9) rfl (by decide +kernel) rfl rfl (Nat.le_of_ble_eq_true rfl) dX9_copy_5 (fun H locs hP hD hS => ?_)
  have hP : va_P D vwCl (wdX9_copy cy bp1 bp1_places b b_places cp1_kind cp1_size cp1_kind c_size c_places cp1_places) H := hP
  have hD : va_D A (wdX9_copy cy bp1 bp1_places b b_places cp1_kind cp1_size cp1_kind c_size c_places cp1_places) := hD
  refine lv_aload_n hx hb dX9_copy_8 rfl (lv_at hl 0 rfl) ?_
  refine lv_aload_n hx hb dX9_copy_9 rfl (lv_at hl 1 rfl) ?_
  refine va_get (D := D) (ci := 9) (v := .int cp1_size) (C := RX9) (T := TX9) (N := 3) hx hb hts uX9_copy_X9 hown hK.1 hP 0 rfl rfl 1 (by decide) (hts (.fieldLink RX9 19 "WishedResistor$Tray" "size" "I") (List.mem_of_getElem? (i := 2) rfl)) (fun _ h9 => h9) rfl dX9_copy_10 ?_
  refine va_put (D := D) (ci := 9) (v := .int cp1_size) (ty := .int) (C := RX9) (T := TX9) (N := 3) hx hb hts uX9_copy_X9 tyX9 tyX9_ok nmX9 hown hK.1 hP hD hS 1 rfl rfl 1 (by decide) (hts (.fieldLink RX9 19 "WishedResistor$Tray" "size" "I") (List.mem_of_getElem? (i := 2) rfl)) (fun _ h9 => h9) rfl (by decide +kernel) rfl rfl (Nat.le_of_ble_eq_true rfl) dX9_copy_13 (fun H locs hP hD hS => ?_)
  have hP : va_P D vwCl (wdX9_copy cy bp1 bp1_places b b_places cp1_kind cp1_size cp1_kind cp1_size c_places cp1_places) H := hP
  have hD : va_D A (wdX9_copy cy bp1 bp1_places b b_places cp1_kind cp1_size cp1_kind cp1_size c_places cp1_places) := hD
  refine lv_aload_n hx hb dX9_copy_16 rfl (lv_at hl 1 rfl) ?_
  refine va_get (D := D) (ci := 9) (v := .ref bp1_places) (C := RX9) (T := TX9) (N := 3) hx hb hts uX9_copy_X9 hown hK.1 hP 0 rfl rfl 2 (by decide) (hts (.fieldLink RX9 15 "WishedResistor$Tray" "places" "[I") (List.mem_of_getElem? (i := 3) rfl)) (fun _ h9 => h9) rfl dX9_copy_17 ?_
  refine lv_iconst (v := (0 : Int32)) hx hb dX9_copy_20 (by decide) ?_
  refine lv_aload_n hx hb dX9_copy_21 rfl (lv_at hl 0 rfl) ?_
  refine va_get (D := D) (ci := 9) (v := .ref b_places) (C := RX9) (T := TX9) (N := 3) hx hb hts uX9_copy_X9 hown hK.1 hP 1 rfl rfl 2 (by decide) (hts (.fieldLink RX9 15 "WishedResistor$Tray" "places" "[I") (List.mem_of_getElem? (i := 3) rfl)) (fun _ h9 => h9) rfl dX9_copy_22 ?_
  refine lv_iconst (v := (0 : Int32)) hx hb dX9_copy_25 (by decide) ?_
  refine lv_bipush (v := (20 : Int32)) hx hb dX9_copy_26 (by decide) ?_
  refine va_copyi hx hb (hml.trans hl.1.symm) hown (hts (.methodLink RX9 36 arraycopyName) (List.mem_of_getElem? (i := 4) rfl)) (hts (.native arraycopyName) (List.mem_of_getElem? (i := 5) rfl)) (hts (.static arraycopyName) (List.mem_of_getElem? (i := 6) rfl)) (hts (.initialized "java/lang/System") (List.mem_of_getElem? (i := 7) rfl)) hK.1 hP hD hS 3 2 0 0 rfl rfl rfl rfl rfl (by decide) (by decide) (by decide) (by decide) (by decide) (fun _ _ => rfl) (Nat.le_of_ble_eq_true rfl) (Nat.le_of_ble_eq_true rfl) dX9_copy_28 (fun H locs hP hD hS => ?_)
  have hP : va_P D vwCl (wdX9_copy cy bp1 bp1_places b b_places cp1_kind cp1_size cp1_kind cp1_size (va_cpy cp1_places c_places ((0 : Int32)).toNatClampNeg ((0 : Int32)).toNatClampNeg ((20 : Int32)).toNatClampNeg) cp1_places) H := hP
  have hD : va_D A (wdX9_copy cy bp1 bp1_places b b_places cp1_kind cp1_size cp1_kind cp1_size (va_cpy cp1_places c_places ((0 : Int32)).toNatClampNeg ((0 : Int32)).toNatClampNeg ((20 : Int32)).toNatClampNeg) cp1_places) := hD
  exact hret (o := (cp1_kind, cp1_size, (va_cpy cp1_places c_places ((0 : Int32)).toNatClampNeg ((0 : Int32)).toNatClampNeg ((20 : Int32)).toNatClampNeg))) h hP hD hS dX9_copy_31

theorem uX6_fill_X6 : ∀ w ∈ u_ws RX6 TX6 4, w ∈ wsX6_fill := fun w h => (List.mem_cons_of_mem _ (List.mem_append_right _ h))
abbrev wdX6_fill (cy : Nat → ClassId) (b b_kind b_sort b_waiting bp3 bp4 bp5 np3 np4 np5 : Nat) (c_length : Int32) (c_waiting cp3 c_kind cp4 c_sort cp5 : Nat → Int32) : va_W := [(b, .inr (6, [.ref b_kind, .ref b_sort, .int c_length, .ref b_waiting])), (b_waiting, .inl (cy 0, 24, .inl c_waiting)), (bp3, .inl (cy 0, np3, .inl cp3)), (b_kind, .inl (cy 0, 23, .inl c_kind)), (bp4, .inl (cy 0, np4, .inl cp4)), (b_sort, .inl (cy 0, 23, .inl c_sort)), (bp5, .inl (cy 0, np5, .inl cp5))]
abbrev rmX6_fill : Room := { frames := 0, cells := 0, slots := 0, locals := 0 }
theorem cdX6_fill : (yX6_fill).cls ≠ "java/lang/invoke/MethodHandle" ∧ (yX6_fill).cls ≠ "java/lang/invoke/VarHandle" ∧ (parseMethodDescriptor (yX6_fill).desc).map (fun d => d.parameters.length) = some 5 := by decide +kernel
def fX6_fill_L37 (np3 : Nat) (cp3 : Nat → Int32) (np4 : Nat) (cp4 : Nat → Int32) (np5 : Nat) (cp5 : Nat → Int32) (s1_16 : Int32) : Nat → Int32 → Int32 → (Nat → Int32) → (Nat → Int32) → (Nat → Int32) → Option (Int32 × (Nat → Int32) × (Nat → Int32) × (Nat → Int32)) :=
  zl5 (fun rec37 v6_37 v7_37 c_waiting_37 c_kind_37 c_sort_37 => if v7_37 < 0 then (some (s1_16, c_waiting_37, c_kind_37, c_sort_37)) else (if v6_37 ≤ 0 then (some (s1_16, c_waiting_37, c_kind_37, c_sort_37)) else (zg (zin (v6_37 + (-1 : Int32)) 24) (zg (zin (c_waiting_37 ((v6_37 + (-1 : Int32))).toNatClampNeg) np3) (zg (zin v7_37 23) (zg (zin (c_waiting_37 ((v6_37 + (-1 : Int32))).toNatClampNeg) np4) (zg (zin v7_37 23) (zg (zin (c_waiting_37 ((v6_37 + (-1 : Int32))).toNatClampNeg) np3) (if (cp3 ((c_waiting_37 ((v6_37 + (-1 : Int32))).toNatClampNeg)).toNatClampNeg) = 0 then (rec37 (v6_37 + (-1 : Int32)) (v7_37 + (-1 : Int32)) c_waiting_37 (upd c_kind_37 (v7_37).toNatClampNeg (cp3 ((c_waiting_37 ((v6_37 + (-1 : Int32))).toNatClampNeg)).toNatClampNeg)) (upd c_sort_37 (v7_37).toNatClampNeg (cp4 ((c_waiting_37 ((v6_37 + (-1 : Int32))).toNatClampNeg)).toNatClampNeg))) else (if (24 : Int32) < ((v6_37 + (-1 : Int32)) + (2 : Int32)) then (rec37 (v6_37 + (-1 : Int32)) (v7_37 + (-1 : Int32)) c_waiting_37 (upd c_kind_37 (v7_37).toNatClampNeg (cp3 ((c_waiting_37 ((v6_37 + (-1 : Int32))).toNatClampNeg)).toNatClampNeg)) (upd c_sort_37 (v7_37).toNatClampNeg (cp4 ((c_waiting_37 ((v6_37 + (-1 : Int32))).toNatClampNeg)).toNatClampNeg))) else (zg (zin (c_waiting_37 ((v6_37 + (-1 : Int32))).toNatClampNeg) np4) (zg (zin (v6_37 + (-1 : Int32)) 24) (zg (zin (c_waiting_37 ((v6_37 + (-1 : Int32))).toNatClampNeg) np5) (zg (zin ((v6_37 + (-1 : Int32)) + (1 : Int32)) 24) (rec37 ((v6_37 + (-1 : Int32)) + (2 : Int32)) (v7_37 + (-1 : Int32)) (upd (upd c_waiting_37 ((v6_37 + (-1 : Int32))).toNatClampNeg (cp4 ((c_waiting_37 ((v6_37 + (-1 : Int32))).toNatClampNeg)).toNatClampNeg)) (((v6_37 + (-1 : Int32)) + (1 : Int32))).toNatClampNeg (cp5 ((c_waiting_37 ((v6_37 + (-1 : Int32))).toNatClampNeg)).toNatClampNeg)) (upd c_kind_37 (v7_37).toNatClampNeg (cp3 ((c_waiting_37 ((v6_37 + (-1 : Int32))).toNatClampNeg)).toNatClampNeg)) (upd c_sort_37 (v7_37).toNatClampNeg (cp4 ((c_waiting_37 ((v6_37 + (-1 : Int32))).toNatClampNeg)).toNatClampNeg)))))))))))))))))
def fX6_fill_J16 (c_waiting : Nat → Int32) (np3 : Nat) (cp3 c_kind : Nat → Int32) (np4 : Nat) (cp4 c_sort : Nat → Int32) (np5 : Nat) (cp5 : Nat → Int32) (p1 : Int32) (s1_16 : Int32) : Option (Int32 × (Nat → Int32) × (Nat → Int32) × (Nat → Int32)) :=
  fX6_fill_L37 np3 cp3 np4 cp4 np5 cp5 s1_16 5000 (1 : Int32) (s1_16 - (1 : Int32)) (upd c_waiting ((0 : Int32)).toNatClampNeg p1) c_kind c_sort
def fX6_fill (p1 p2 : Int32) (np3 np4 np5 : Nat) (c_length : Int32) (c_waiting cp3 c_kind cp4 c_sort cp5 : Nat → Int32) : Option (Int32 × (Nat → Int32) × (Nat → Int32) × (Nat → Int32)) :=
  if p2 ≤ (12 : Int32) then (fX6_fill_J16 c_waiting np3 cp3 c_kind np4 cp4 c_sort np5 cp5 p1 (((2 : Int32) * p2) - (1 : Int32))) else (fX6_fill_J16 c_waiting np3 cp3 c_kind np4 cp4 c_sort np5 cp5 p1 (0 : Int32))
set_option maxHeartbeats 4000000 in
set_option maxRecDepth 100000 in
theorem mX6_fill (l : Launch) (D : va_G) (cy : Nat → ClassId) (sz : Nat) (b b_kind b_sort b_waiting bp3 bp4 bp5 np3 np4 np5 : Nat) (c_length : Int32) (c_waiting cp3 c_kind cp4 c_sort cp5 : Nat → Int32) (p1 p2 : Int32) (res : (Int32 × (Nat → Int32) × (Nat → Int32) × (Nat → Int32))) (h : fX6_fill p1 p2 np3 np4 np5 c_length c_waiting cp3 c_kind cp4 c_sort cp5 = some res) : zMv l yX6_fill wsX6_fill rmX6_fill [.ref b, .int p1, .int p2, .ref bp3, .ref bp4, .ref bp5] D cy (wdX6_fill cy b b_kind b_sort b_waiting bp3 bp4 bp5 np3 np4 np5 c_length c_waiting cp3 c_kind cp4 c_sort cp5) sz  ((fun (o : (Int32 × (Nat → Int32) × (Nat → Int32) × (Nat → Int32))) => (wdX6_fill cy b b_kind b_sort b_waiting bp3 bp4 bp5 np3 np4 np5 (o.1) (o.2.1) cp3 (o.2.2.1) cp4 (o.2.2.2) cp5)) res) := by
  refine zOfv (res := res) (Wf := (fun (o : (Int32 × (Nat → Int32) × (Nat → Int32) × (Nat → Int32))) => (wdX6_fill cy b b_kind b_sort b_waiting bp3 bp4 bp5 np3 np4 np5 (o.1) (o.2.1) cp3 (o.2.2.1) cp4 (o.2.2.2) cp5))) (by decide +kernel) rfl (Nat.le_of_ble_eq_true rfl) ?_
  intro p e s m args below meth c A ls Q hx hb hml hts hown hP hK hD hA hS hl hret
  have hown : s.vm.findClass RX6 = some m.cls := hown
  have hl : lv_has ls 9 [(0, .ref b), (1, .int p1), (2, .int p2), (3, .ref bp3), (4, .ref bp4), (5, .ref bp5)] := hl
  refine lv_aload_n hx hb dX6_fill_0 rfl (lv_at hl 0 rfl) ?_
  refine lv_iload_n hx hb dX6_fill_1 rfl (lv_at hl 2 rfl) ?_
  refine lv_bipush (v := (12 : Int32)) hx hb dX6_fill_2 (by decide) ?_
  have hJ16 : ∀ (s1_16 : Int32) (H : Heap) (locs : List Loc) (ls : Array Slot), va_P D vwCl (wdX6_fill cy b b_kind b_sort b_waiting bp3 bp4 bp5 np3 np4 np5 c_length c_waiting cp3 c_kind cp4 c_sort cp5) H → va_D A (wdX6_fill cy b b_kind b_sort b_waiting bp3 bp4 bp5 np3 np4 np5 c_length c_waiting cp3 c_kind cp4 c_sort cp5) → va_S A s.heap H locs → lv_has ls 9 [(0, .ref b), (1, .int p1), (3, .ref bp3), (4, .ref bp4), (5, .ref bp5)] → fX6_fill_J16 c_waiting np3 cp3 c_kind np4 cp4 c_sort np5 cp5 p1 s1_16 = some res → W p l e rmX6_fill s m args below meth c H locs 0 0 Q (F0 m 16 ls [.int s1_16, .ref b]) := by
    intro s1_16 H locs ls hP hD hS hl h
    refine va_put (D := D) (ci := 6) (v := .int s1_16) (ty := .int) (C := RX6) (T := TX6) (N := 4) hx hb hts uX6_fill_X6 tyX6 tyX6_ok nmX6 hown hK.1 hP hD hS 0 rfl rfl 2 (by decide) (hts (.fieldLink RX6 21 "WishedResistor$Plan" "length" "I") (List.mem_of_getElem? (i := 1) rfl)) (fun _ h9 => h9) rfl (by decide +kernel) rfl rfl (Nat.le_of_ble_eq_true rfl) dX6_fill_16 (fun H locs hP hD hS => ?_)
    have hP : va_P D vwCl (wdX6_fill cy b b_kind b_sort b_waiting bp3 bp4 bp5 np3 np4 np5 s1_16 c_waiting cp3 c_kind cp4 c_sort cp5) H := hP
    have hD : va_D A (wdX6_fill cy b b_kind b_sort b_waiting bp3 bp4 bp5 np3 np4 np5 s1_16 c_waiting cp3 c_kind cp4 c_sort cp5) := hD
    refine lv_iconst (v := (1 : Int32)) hx hb dX6_fill_19 (by decide) ?_
    refine lv_istore (lv' := [(6, .int (1 : Int32)), (0, .ref b), (1, .int p1), (3, .ref bp3), (4, .ref bp4), (5, .ref bp5)]) hx hb dX6_fill_20 hl (Nat.le_of_ble_eq_true rfl) rfl (fun ls hl => ?_)
    refine lv_aload_n hx hb dX6_fill_22 rfl (lv_at hl 1 rfl) ?_
    refine va_get (D := D) (ci := 6) (v := .ref b_waiting) (C := RX6) (T := TX6) (N := 4) hx hb hts uX6_fill_X6 hown hK.1 hP 0 rfl rfl 3 (by decide) (hts (.fieldLink RX6 18 "WishedResistor$Plan" "waiting" "[I") (List.mem_of_getElem? (i := 2) rfl)) (fun _ h9 => h9) rfl dX6_fill_23 ?_
    refine lv_iconst (v := (0 : Int32)) hx hb dX6_fill_26 (by decide) ?_
    refine lv_iload_n hx hb dX6_fill_27 rfl (lv_at hl 2 rfl) ?_
    refine va_iast hx hb hK.1 hP hD hS 1 0 rfl rfl (show zin (0 : Int32) 24 from by decide) dX6_fill_28 (fun H locs hP hD hS => ?_)
    have hP : va_P D vwCl (wdX6_fill cy b b_kind b_sort b_waiting bp3 bp4 bp5 np3 np4 np5 s1_16 (upd c_waiting ((0 : Int32)).toNatClampNeg p1) cp3 c_kind cp4 c_sort cp5) H := hP
    have hD : va_D A (wdX6_fill cy b b_kind b_sort b_waiting bp3 bp4 bp5 np3 np4 np5 s1_16 (upd c_waiting ((0 : Int32)).toNatClampNeg p1) cp3 c_kind cp4 c_sort cp5) := hD
    refine lv_aload_n hx hb dX6_fill_29 rfl (lv_at hl 1 rfl) ?_
    refine va_get (D := D) (ci := 6) (v := .int s1_16) (C := RX6) (T := TX6) (N := 4) hx hb hts uX6_fill_X6 hown hK.1 hP 0 rfl rfl 2 (by decide) (hts (.fieldLink RX6 21 "WishedResistor$Plan" "length" "I") (List.mem_of_getElem? (i := 1) rfl)) (fun _ h9 => h9) rfl dX6_fill_30 ?_
    refine lv_iconst (v := (1 : Int32)) hx hb dX6_fill_33 (by decide) ?_
    refine lv_isub hx hb dX6_fill_34 ?_
    refine lv_istore (lv' := [(7, .int (s1_16 - (1 : Int32))), (6, .int (1 : Int32)), (0, .ref b), (1, .int p1), (3, .ref bp3), (4, .ref bp4), (5, .ref bp5)]) hx hb dX6_fill_35 hl (Nat.le_of_ble_eq_true rfl) rfl (fun ls hl => ?_)
    have hL37 : ∀ n37 : Nat, ∀ (v6_37 v7_37 : Int32) (c_waiting_37 c_kind_37 c_sort_37 : Nat → Int32) (H : Heap) (locs : List Loc) (ls : Array Slot), va_P D vwCl (wdX6_fill cy b b_kind b_sort b_waiting bp3 bp4 bp5 np3 np4 np5 s1_16 c_waiting_37 cp3 c_kind_37 cp4 c_sort_37 cp5) H → va_D A (wdX6_fill cy b b_kind b_sort b_waiting bp3 bp4 bp5 np3 np4 np5 s1_16 c_waiting_37 cp3 c_kind_37 cp4 c_sort_37 cp5) → va_S A s.heap H locs → lv_has ls 9 [(0, .ref b), (3, .ref bp3), (4, .ref bp4), (5, .ref bp5), (6, .int v6_37), (7, .int v7_37)] → fX6_fill_L37 np3 cp3 np4 cp4 np5 cp5 s1_16 n37 v6_37 v7_37 c_waiting_37 c_kind_37 c_sort_37 = some res → W p l e rmX6_fill s m args below meth c H locs 0 0 Q (F0 m 37 ls []) := by
      intro n37
      induction n37 with
      | zero =>
        intro v6_37 v7_37 c_waiting_37 c_kind_37 c_sort_37 H locs ls hP hD hS hl h
        exact zl5_0 h
      | succ n37 ih37 =>
        intro v6_37 v7_37 c_waiting_37 c_kind_37 c_sort_37 H locs ls hP hD hS hl h
        replace h := zl5_s h
        refine lv_iload hx hb dX6_fill_37 (lv_at hl 5 rfl) ?_
        refine lv_if_lt (tgt := 136) hx hb dX6_fill_39 (by decide) (fun hc39 => ?_) (fun hc39 => ?_)
        · replace h := zi_t hc39 h
          exact hret (o := (s1_16, c_waiting_37, c_kind_37, c_sort_37)) h hP hD hS dX6_fill_136
        · replace h := zi_f hc39 h
          refine lv_iload hx hb dX6_fill_42 (lv_at hl 4 rfl) ?_
          refine lv_if_le (tgt := 136) hx hb dX6_fill_44 (by decide) (fun hc44 => ?_) (fun hc44 => ?_)
          · replace h := zi_t hc44 h
            exact hret (o := (s1_16, c_waiting_37, c_kind_37, c_sort_37)) h hP hD hS dX6_fill_136
          · replace h := zi_f hc44 h
            refine lv_iinc (v := (v6_37 + (-1 : Int32))) (lv' := [(6, .int (v6_37 + (-1 : Int32))), (0, .ref b), (3, .ref bp3), (4, .ref bp4), (5, .ref bp5), (7, .int v7_37)]) hx hb dX6_fill_47 hl (k := 4) rfl (by rw [show (Int32.ofInt (-1)) = (-1 : Int32) from by decide]) (Nat.le_of_ble_eq_true rfl) rfl (fun ls hl => ?_)
            refine lv_aload_n hx hb dX6_fill_50 rfl (lv_at hl 1 rfl) ?_
            refine va_get (D := D) (ci := 6) (v := .ref b_waiting) (C := RX6) (T := TX6) (N := 4) hx hb hts uX6_fill_X6 hown hK.1 hP 0 rfl rfl 3 (by decide) (hts (.fieldLink RX6 18 "WishedResistor$Plan" "waiting" "[I") (List.mem_of_getElem? (i := 2) rfl)) (fun _ h9 => h9) rfl dX6_fill_51 ?_
            refine lv_iload hx hb dX6_fill_54 (lv_at hl 0 rfl) ?_
            obtain ⟨hi56, h⟩ := zg_s h
            refine va_iald hx hb hK.1 hP 1 0 rfl rfl hi56 dX6_fill_56 ?_
            refine lv_istore (lv' := [(8, .int (c_waiting_37 ((v6_37 + (-1 : Int32))).toNatClampNeg)), (6, .int (v6_37 + (-1 : Int32))), (0, .ref b), (3, .ref bp3), (4, .ref bp4), (5, .ref bp5), (7, .int v7_37)]) hx hb dX6_fill_57 hl (Nat.le_of_ble_eq_true rfl) rfl (fun ls hl => ?_)
            refine lv_aload_n hx hb dX6_fill_59 rfl (lv_at hl 2 rfl) ?_
            refine va_get (D := D) (ci := 6) (v := .ref b_kind) (C := RX6) (T := TX6) (N := 4) hx hb hts uX6_fill_X6 hown hK.1 hP 0 rfl rfl 0 (by decide) (hts (.fieldLink RX6 9 "WishedResistor$Plan" "kind" "[I") (List.mem_of_getElem? (i := 3) rfl)) (fun _ h9 => h9) rfl dX6_fill_60 ?_
            refine lv_iload hx hb dX6_fill_63 (lv_at hl 6 rfl) ?_
            refine lv_aload_n hx hb dX6_fill_65 rfl (lv_at hl 3 rfl) ?_
            refine lv_iload hx hb dX6_fill_66 (lv_at hl 0 rfl) ?_
            obtain ⟨hi68, h⟩ := zg_s h
            refine va_iald hx hb hK.1 hP 2 0 rfl rfl hi68 dX6_fill_68 ?_
            obtain ⟨hi69, h⟩ := zg_s h
            refine va_iast hx hb hK.1 hP hD hS 3 0 rfl rfl hi69 dX6_fill_69 (fun H locs hP hD hS => ?_)
            have hP : va_P D vwCl (wdX6_fill cy b b_kind b_sort b_waiting bp3 bp4 bp5 np3 np4 np5 s1_16 c_waiting_37 cp3 (upd c_kind_37 (v7_37).toNatClampNeg (cp3 ((c_waiting_37 ((v6_37 + (-1 : Int32))).toNatClampNeg)).toNatClampNeg)) cp4 c_sort_37 cp5) H := hP
            have hD : va_D A (wdX6_fill cy b b_kind b_sort b_waiting bp3 bp4 bp5 np3 np4 np5 s1_16 c_waiting_37 cp3 (upd c_kind_37 (v7_37).toNatClampNeg (cp3 ((c_waiting_37 ((v6_37 + (-1 : Int32))).toNatClampNeg)).toNatClampNeg)) cp4 c_sort_37 cp5) := hD
            refine lv_aload_n hx hb dX6_fill_70 rfl (lv_at hl 2 rfl) ?_
            refine va_get (D := D) (ci := 6) (v := .ref b_sort) (C := RX6) (T := TX6) (N := 4) hx hb hts uX6_fill_X6 hown hK.1 hP 0 rfl rfl 1 (by decide) (hts (.fieldLink RX6 15 "WishedResistor$Plan" "sort" "[I") (List.mem_of_getElem? (i := 4) rfl)) (fun _ h9 => h9) rfl dX6_fill_71 ?_
            refine lv_iload hx hb dX6_fill_74 (lv_at hl 6 rfl) ?_
            refine lv_aload hx hb dX6_fill_76 (lv_at hl 4 rfl) ?_
            refine lv_iload hx hb dX6_fill_78 (lv_at hl 0 rfl) ?_
            obtain ⟨hi80, h⟩ := zg_s h
            refine va_iald hx hb hK.1 hP 4 0 rfl rfl hi80 dX6_fill_80 ?_
            obtain ⟨hi81, h⟩ := zg_s h
            refine va_iast hx hb hK.1 hP hD hS 5 0 rfl rfl hi81 dX6_fill_81 (fun H locs hP hD hS => ?_)
            have hP : va_P D vwCl (wdX6_fill cy b b_kind b_sort b_waiting bp3 bp4 bp5 np3 np4 np5 s1_16 c_waiting_37 cp3 (upd c_kind_37 (v7_37).toNatClampNeg (cp3 ((c_waiting_37 ((v6_37 + (-1 : Int32))).toNatClampNeg)).toNatClampNeg)) cp4 (upd c_sort_37 (v7_37).toNatClampNeg (cp4 ((c_waiting_37 ((v6_37 + (-1 : Int32))).toNatClampNeg)).toNatClampNeg)) cp5) H := hP
            have hD : va_D A (wdX6_fill cy b b_kind b_sort b_waiting bp3 bp4 bp5 np3 np4 np5 s1_16 c_waiting_37 cp3 (upd c_kind_37 (v7_37).toNatClampNeg (cp3 ((c_waiting_37 ((v6_37 + (-1 : Int32))).toNatClampNeg)).toNatClampNeg)) cp4 (upd c_sort_37 (v7_37).toNatClampNeg (cp4 ((c_waiting_37 ((v6_37 + (-1 : Int32))).toNatClampNeg)).toNatClampNeg)) cp5) := hD
            refine lv_aload_n hx hb dX6_fill_82 rfl (lv_at hl 3 rfl) ?_
            refine lv_iload hx hb dX6_fill_83 (lv_at hl 0 rfl) ?_
            obtain ⟨hi85, h⟩ := zg_s h
            refine va_iald hx hb hK.1 hP 2 0 rfl rfl hi85 dX6_fill_85 ?_
            refine lv_if_eq (tgt := 130) hx hb dX6_fill_86 (by decide) (fun hc86 => ?_) (fun hc86 => ?_)
            · replace h := zi_t hc86 h
              refine lv_iinc (v := (v7_37 + (-1 : Int32))) (lv' := [(7, .int (v7_37 + (-1 : Int32))), (8, .int (c_waiting_37 ((v6_37 + (-1 : Int32))).toNatClampNeg)), (6, .int (v6_37 + (-1 : Int32))), (0, .ref b), (3, .ref bp3), (4, .ref bp4), (5, .ref bp5)]) hx hb dX6_fill_130 hl (k := 6) rfl (by rw [show (Int32.ofInt (-1)) = (-1 : Int32) from by decide]) (Nat.le_of_ble_eq_true rfl) rfl (fun ls hl => ?_)
              refine lv_goto (tgt := 37) hx hb dX6_fill_133 (by decide) ?_
              exact ih37 (v6_37 + (-1 : Int32)) (v7_37 + (-1 : Int32)) c_waiting_37 (upd c_kind_37 (v7_37).toNatClampNeg (cp3 ((c_waiting_37 ((v6_37 + (-1 : Int32))).toNatClampNeg)).toNatClampNeg)) (upd c_sort_37 (v7_37).toNatClampNeg (cp4 ((c_waiting_37 ((v6_37 + (-1 : Int32))).toNatClampNeg)).toNatClampNeg)) _ _ _ hP hD hS (lv_sub hl [3, 4, 5, 6, 2, 0] rfl) h
            · replace h := zi_f hc86 h
              refine lv_iload hx hb dX6_fill_89 (lv_at hl 1 rfl) ?_
              refine lv_iconst (v := (2 : Int32)) hx hb dX6_fill_91 (by decide) ?_
              refine lv_iadd hx hb dX6_fill_92 ?_
              refine lv_aload_n hx hb dX6_fill_93 rfl (lv_at hl 2 rfl) ?_
              refine va_get (D := D) (ci := 6) (v := .ref b_waiting) (C := RX6) (T := TX6) (N := 4) hx hb hts uX6_fill_X6 hown hK.1 hP 0 rfl rfl 3 (by decide) (hts (.fieldLink RX6 18 "WishedResistor$Plan" "waiting" "[I") (List.mem_of_getElem? (i := 2) rfl)) (fun _ h9 => h9) rfl dX6_fill_94 ?_
              refine va_alen (v := (24 : Int32)) hx hb hK.1 hP 1 0 rfl rfl rfl dX6_fill_97 ?_
              refine lv_icmp_gt (tgt := 130) hx hb dX6_fill_98 (by decide) (fun hc98 => ?_) (fun hc98 => ?_)
              · replace h := zi_t hc98 h
                refine lv_iinc (v := (v7_37 + (-1 : Int32))) (lv' := [(7, .int (v7_37 + (-1 : Int32))), (8, .int (c_waiting_37 ((v6_37 + (-1 : Int32))).toNatClampNeg)), (6, .int (v6_37 + (-1 : Int32))), (0, .ref b), (3, .ref bp3), (4, .ref bp4), (5, .ref bp5)]) hx hb dX6_fill_130 hl (k := 6) rfl (by rw [show (Int32.ofInt (-1)) = (-1 : Int32) from by decide]) (Nat.le_of_ble_eq_true rfl) rfl (fun ls hl => ?_)
                refine lv_goto (tgt := 37) hx hb dX6_fill_133 (by decide) ?_
                exact ih37 (v6_37 + (-1 : Int32)) (v7_37 + (-1 : Int32)) c_waiting_37 (upd c_kind_37 (v7_37).toNatClampNeg (cp3 ((c_waiting_37 ((v6_37 + (-1 : Int32))).toNatClampNeg)).toNatClampNeg)) (upd c_sort_37 (v7_37).toNatClampNeg (cp4 ((c_waiting_37 ((v6_37 + (-1 : Int32))).toNatClampNeg)).toNatClampNeg)) _ _ _ hP hD hS (lv_sub hl [3, 4, 5, 6, 2, 0] rfl) h
              · replace h := zi_f hc98 h
                refine lv_aload_n hx hb dX6_fill_101 rfl (lv_at hl 2 rfl) ?_
                refine va_get (D := D) (ci := 6) (v := .ref b_waiting) (C := RX6) (T := TX6) (N := 4) hx hb hts uX6_fill_X6 hown hK.1 hP 0 rfl rfl 3 (by decide) (hts (.fieldLink RX6 18 "WishedResistor$Plan" "waiting" "[I") (List.mem_of_getElem? (i := 2) rfl)) (fun _ h9 => h9) rfl dX6_fill_102 ?_
                refine lv_iload hx hb dX6_fill_105 (lv_at hl 1 rfl) ?_
                refine lv_aload hx hb dX6_fill_107 (lv_at hl 4 rfl) ?_
                refine lv_iload hx hb dX6_fill_109 (lv_at hl 0 rfl) ?_
                obtain ⟨hi111, h⟩ := zg_s h
                refine va_iald hx hb hK.1 hP 4 0 rfl rfl hi111 dX6_fill_111 ?_
                obtain ⟨hi112, h⟩ := zg_s h
                refine va_iast hx hb hK.1 hP hD hS 1 0 rfl rfl hi112 dX6_fill_112 (fun H locs hP hD hS => ?_)
                have hP : va_P D vwCl (wdX6_fill cy b b_kind b_sort b_waiting bp3 bp4 bp5 np3 np4 np5 s1_16 (upd c_waiting_37 ((v6_37 + (-1 : Int32))).toNatClampNeg (cp4 ((c_waiting_37 ((v6_37 + (-1 : Int32))).toNatClampNeg)).toNatClampNeg)) cp3 (upd c_kind_37 (v7_37).toNatClampNeg (cp3 ((c_waiting_37 ((v6_37 + (-1 : Int32))).toNatClampNeg)).toNatClampNeg)) cp4 (upd c_sort_37 (v7_37).toNatClampNeg (cp4 ((c_waiting_37 ((v6_37 + (-1 : Int32))).toNatClampNeg)).toNatClampNeg)) cp5) H := hP
                have hD : va_D A (wdX6_fill cy b b_kind b_sort b_waiting bp3 bp4 bp5 np3 np4 np5 s1_16 (upd c_waiting_37 ((v6_37 + (-1 : Int32))).toNatClampNeg (cp4 ((c_waiting_37 ((v6_37 + (-1 : Int32))).toNatClampNeg)).toNatClampNeg)) cp3 (upd c_kind_37 (v7_37).toNatClampNeg (cp3 ((c_waiting_37 ((v6_37 + (-1 : Int32))).toNatClampNeg)).toNatClampNeg)) cp4 (upd c_sort_37 (v7_37).toNatClampNeg (cp4 ((c_waiting_37 ((v6_37 + (-1 : Int32))).toNatClampNeg)).toNatClampNeg)) cp5) := hD
                refine lv_aload_n hx hb dX6_fill_113 rfl (lv_at hl 2 rfl) ?_
                refine va_get (D := D) (ci := 6) (v := .ref b_waiting) (C := RX6) (T := TX6) (N := 4) hx hb hts uX6_fill_X6 hown hK.1 hP 0 rfl rfl 3 (by decide) (hts (.fieldLink RX6 18 "WishedResistor$Plan" "waiting" "[I") (List.mem_of_getElem? (i := 2) rfl)) (fun _ h9 => h9) rfl dX6_fill_114 ?_
                refine lv_iload hx hb dX6_fill_117 (lv_at hl 1 rfl) ?_
                refine lv_iconst (v := (1 : Int32)) hx hb dX6_fill_119 (by decide) ?_
                refine lv_iadd hx hb dX6_fill_120 ?_
                refine lv_aload hx hb dX6_fill_121 (lv_at hl 5 rfl) ?_
                refine lv_iload hx hb dX6_fill_123 (lv_at hl 0 rfl) ?_
                obtain ⟨hi125, h⟩ := zg_s h
                refine va_iald hx hb hK.1 hP 6 0 rfl rfl hi125 dX6_fill_125 ?_
                obtain ⟨hi126, h⟩ := zg_s h
                refine va_iast hx hb hK.1 hP hD hS 1 0 rfl rfl hi126 dX6_fill_126 (fun H locs hP hD hS => ?_)
                have hP : va_P D vwCl (wdX6_fill cy b b_kind b_sort b_waiting bp3 bp4 bp5 np3 np4 np5 s1_16 (upd (upd c_waiting_37 ((v6_37 + (-1 : Int32))).toNatClampNeg (cp4 ((c_waiting_37 ((v6_37 + (-1 : Int32))).toNatClampNeg)).toNatClampNeg)) (((v6_37 + (-1 : Int32)) + (1 : Int32))).toNatClampNeg (cp5 ((c_waiting_37 ((v6_37 + (-1 : Int32))).toNatClampNeg)).toNatClampNeg)) cp3 (upd c_kind_37 (v7_37).toNatClampNeg (cp3 ((c_waiting_37 ((v6_37 + (-1 : Int32))).toNatClampNeg)).toNatClampNeg)) cp4 (upd c_sort_37 (v7_37).toNatClampNeg (cp4 ((c_waiting_37 ((v6_37 + (-1 : Int32))).toNatClampNeg)).toNatClampNeg)) cp5) H := hP
                have hD : va_D A (wdX6_fill cy b b_kind b_sort b_waiting bp3 bp4 bp5 np3 np4 np5 s1_16 (upd (upd c_waiting_37 ((v6_37 + (-1 : Int32))).toNatClampNeg (cp4 ((c_waiting_37 ((v6_37 + (-1 : Int32))).toNatClampNeg)).toNatClampNeg)) (((v6_37 + (-1 : Int32)) + (1 : Int32))).toNatClampNeg (cp5 ((c_waiting_37 ((v6_37 + (-1 : Int32))).toNatClampNeg)).toNatClampNeg)) cp3 (upd c_kind_37 (v7_37).toNatClampNeg (cp3 ((c_waiting_37 ((v6_37 + (-1 : Int32))).toNatClampNeg)).toNatClampNeg)) cp4 (upd c_sort_37 (v7_37).toNatClampNeg (cp4 ((c_waiting_37 ((v6_37 + (-1 : Int32))).toNatClampNeg)).toNatClampNeg)) cp5) := hD
                refine lv_iinc (v := ((v6_37 + (-1 : Int32)) + (2 : Int32))) (lv' := [(6, .int ((v6_37 + (-1 : Int32)) + (2 : Int32))), (8, .int (c_waiting_37 ((v6_37 + (-1 : Int32))).toNatClampNeg)), (0, .ref b), (3, .ref bp3), (4, .ref bp4), (5, .ref bp5), (7, .int v7_37)]) hx hb dX6_fill_127 hl (k := 1) rfl (by rfl) (Nat.le_of_ble_eq_true rfl) rfl (fun ls hl => ?_)
                refine lv_iinc (v := (v7_37 + (-1 : Int32))) (lv' := [(7, .int (v7_37 + (-1 : Int32))), (6, .int ((v6_37 + (-1 : Int32)) + (2 : Int32))), (8, .int (c_waiting_37 ((v6_37 + (-1 : Int32))).toNatClampNeg)), (0, .ref b), (3, .ref bp3), (4, .ref bp4), (5, .ref bp5)]) hx hb dX6_fill_130 hl (k := 6) rfl (by rw [show (Int32.ofInt (-1)) = (-1 : Int32) from by decide]) (Nat.le_of_ble_eq_true rfl) rfl (fun ls hl => ?_)
                refine lv_goto (tgt := 37) hx hb dX6_fill_133 (by decide) ?_
                exact ih37 ((v6_37 + (-1 : Int32)) + (2 : Int32)) (v7_37 + (-1 : Int32)) (upd (upd c_waiting_37 ((v6_37 + (-1 : Int32))).toNatClampNeg (cp4 ((c_waiting_37 ((v6_37 + (-1 : Int32))).toNatClampNeg)).toNatClampNeg)) (((v6_37 + (-1 : Int32)) + (1 : Int32))).toNatClampNeg (cp5 ((c_waiting_37 ((v6_37 + (-1 : Int32))).toNatClampNeg)).toNatClampNeg)) (upd c_kind_37 (v7_37).toNatClampNeg (cp3 ((c_waiting_37 ((v6_37 + (-1 : Int32))).toNatClampNeg)).toNatClampNeg)) (upd c_sort_37 (v7_37).toNatClampNeg (cp4 ((c_waiting_37 ((v6_37 + (-1 : Int32))).toNatClampNeg)).toNatClampNeg)) _ _ _ hP hD hS (lv_sub hl [3, 4, 5, 6, 1, 0] rfl) h
    exact hL37 5000 (1 : Int32) (s1_16 - (1 : Int32)) (upd c_waiting ((0 : Int32)).toNatClampNeg p1) c_kind c_sort _ _ _ hP hD hS (lv_sub hl [2, 4, 5, 6, 1, 0] rfl) h
  refine lv_icmp_le (tgt := 11) hx hb dX6_fill_4 (by decide) (fun hc4 => ?_) (fun hc4 => ?_)
  · replace h := zi_t hc4 h
    refine lv_iconst (v := (2 : Int32)) hx hb dX6_fill_11 (by decide) ?_
    refine lv_iload_n hx hb dX6_fill_12 rfl (lv_at hl 2 rfl) ?_
    refine lv_imul hx hb dX6_fill_13 ?_
    refine lv_iconst (v := (1 : Int32)) hx hb dX6_fill_14 (by decide) ?_
    refine lv_isub hx hb dX6_fill_15 ?_
    exact hJ16 (((2 : Int32) * p2) - (1 : Int32)) _ _ _ hP hD hS (lv_sub hl [0, 1, 3, 4, 5] rfl) h
  · replace h := zi_f hc4 h
    refine lv_iconst (v := (0 : Int32)) hx hb dX6_fill_7 (by decide) ?_
    refine lv_goto (tgt := 16) hx hb dX6_fill_8 (by decide) ?_
    exact hJ16 (0 : Int32) _ _ _ hP hD hS (lv_sub hl [0, 1, 3, 4, 5] rfl) h

theorem uX5_has_X5 : ∀ w ∈ u_ws RX5 TX5 9, w ∈ wsX5_has := fun w h => (List.mem_cons_of_mem _ (List.mem_append_right _ h))
abbrev wdX5_has (cy : Nat → ClassId) (b b_kind b_first b_second b_parts b_likes b_letters b_waiting b_made : Nat) (c_count : Int32) : va_W := [(b, .inr (5, [.ref b_kind, .ref b_first, .ref b_second, .ref b_parts, .int c_count, .ref b_likes, .ref b_letters, .ref b_waiting, .ref b_made]))]
abbrev rmX5_has : Room := { frames := 0, cells := 0, slots := 0, locals := 0 }
theorem cdX5_has : (yX5_has).cls ≠ "java/lang/invoke/MethodHandle" ∧ (yX5_has).cls ≠ "java/lang/invoke/VarHandle" ∧ (parseMethodDescriptor (yX5_has).desc).map (fun d => d.parameters.length) = some 1 := by decide +kernel
def fX5_has (p1 c_count : Int32) : Option (Int32) :=
  if p1 < 0 then (some ((0 : Int32))) else (if c_count ≤ p1 then (some ((0 : Int32))) else (if (40 : Int32) ≤ p1 then (some ((0 : Int32))) else (some ((1 : Int32)))))
set_option maxHeartbeats 4000000 in
set_option maxRecDepth 100000 in
theorem mX5_has (l : Launch) (D : va_G) (cy : Nat → ClassId) (sz : Nat) (b b_kind b_first b_second b_parts b_likes b_letters b_waiting b_made : Nat) (c_count p1 : Int32) (res : (Int32)) (h : fX5_has p1 c_count = some res) : zMz l yX5_has wsX5_has rmX5_has [.ref b, .int p1] D cy (wdX5_has cy b b_kind b_first b_second b_parts b_likes b_letters b_waiting b_made c_count) sz ((fun (o : (Int32)) => o) res) ((fun (o : (Int32)) => (wdX5_has cy b b_kind b_first b_second b_parts b_likes b_letters b_waiting b_made c_count)) res) := by
  refine zOfz (res := res) (rf := (fun (o : (Int32)) => o)) (Wf := (fun (o : (Int32)) => (wdX5_has cy b b_kind b_first b_second b_parts b_likes b_letters b_waiting b_made c_count))) (by decide +kernel) rfl (Nat.le_of_ble_eq_true rfl) ?_
  intro p e s m args below meth c A ls Q hx hb hml hts hown hP hK hD hA hS hl hret
  have hown : s.vm.findClass RX5 = some m.cls := hown
  have hl : lv_has ls 2 [(0, .ref b), (1, .int p1)] := hl
  refine lv_iload_n hx hb dX5_has_0 rfl (lv_at hl 1 rfl) ?_
  refine lv_if_lt (tgt := 22) hx hb dX5_has_1 (by decide) (fun hc1 => ?_) (fun hc1 => ?_)
  · replace h := zi_t hc1 h
    refine lv_iconst (v := (0 : Int32)) hx hb dX5_has_22 (by decide) ?_
    exact hret (o := ((0 : Int32))) h (show narrow .boolean (.int (0 : Int32)) = .int (0 : Int32) from by decide) hP hD hS dX5_has_23
  · replace h := zi_f hc1 h
    refine lv_iload_n hx hb dX5_has_4 rfl (lv_at hl 1 rfl) ?_
    refine lv_aload_n hx hb dX5_has_5 rfl (lv_at hl 0 rfl) ?_
    refine va_get (D := D) (ci := 5) (v := .int c_count) (C := RX5) (T := TX5) (N := 9) hx hb hts uX5_has_X5 hown hK.1 hP 0 rfl rfl 4 (by decide) (hts (.fieldLink RX5 36 "WishedResistor$Nets" "count" "I") (List.mem_of_getElem? (i := 1) rfl)) (fun _ h9 => h9) rfl dX5_has_6 ?_
    refine lv_icmp_ge (tgt := 22) hx hb dX5_has_9 (by decide) (fun hc9 => ?_) (fun hc9 => ?_)
    · replace h := zi_t hc9 h
      refine lv_iconst (v := (0 : Int32)) hx hb dX5_has_22 (by decide) ?_
      exact hret (o := ((0 : Int32))) h (show narrow .boolean (.int (0 : Int32)) = .int (0 : Int32) from by decide) hP hD hS dX5_has_23
    · replace h := zi_f hc9 h
      refine lv_iload_n hx hb dX5_has_12 rfl (lv_at hl 1 rfl) ?_
      refine lv_bipush (v := (40 : Int32)) hx hb dX5_has_13 (by decide) ?_
      refine lv_icmp_ge (tgt := 22) hx hb dX5_has_15 (by decide) (fun hc15 => ?_) (fun hc15 => ?_)
      · replace h := zi_t hc15 h
        refine lv_iconst (v := (0 : Int32)) hx hb dX5_has_22 (by decide) ?_
        exact hret (o := ((0 : Int32))) h (show narrow .boolean (.int (0 : Int32)) = .int (0 : Int32) from by decide) hP hD hS dX5_has_23
      · replace h := zi_f hc15 h
        refine lv_iconst (v := (1 : Int32)) hx hb dX5_has_18 (by decide) ?_
        refine lv_goto (tgt := 23) hx hb dX5_has_19 (by decide) ?_
        exact hret (o := ((1 : Int32))) h (show narrow .boolean (.int (1 : Int32)) = .int (1 : Int32) from by decide) hP hD hS dX5_has_23

theorem uX5_find_X5 : ∀ w ∈ u_ws RX5 TX5 9, w ∈ wsX5_find := fun w h => (List.mem_cons_of_mem _ (List.mem_append_right _ h))
abbrev wdX5_find (cy : Nat → ClassId) (b b_kind b_first b_second b_parts b_likes b_letters b_waiting b_made : Nat) (c_count : Int32) (c_kind c_first c_second : Nat → Int32) : va_W := [(b, .inr (5, [.ref b_kind, .ref b_first, .ref b_second, .ref b_parts, .int c_count, .ref b_likes, .ref b_letters, .ref b_waiting, .ref b_made])), (b_kind, .inl (cy 0, 40, .inl c_kind)), (b_first, .inl (cy 0, 40, .inl c_first)), (b_second, .inl (cy 0, 40, .inl c_second))]
abbrev rmX5_find : Room := { frames := 0, cells := 0, slots := 0, locals := 0 }
theorem cdX5_find : (yX5_find).cls ≠ "java/lang/invoke/MethodHandle" ∧ (yX5_find).cls ≠ "java/lang/invoke/VarHandle" ∧ (parseMethodDescriptor (yX5_find).desc).map (fun d => d.parameters.length) = some 3 := by decide +kernel
def fX5_find_L3 (c_count : Int32) (c_kind c_first c_second : Nat → Int32) (p1 p2 p3 : Int32) : Nat → Int32 → Option (Int32) :=
  zl1 (fun rec3 v4_3 => if c_count ≤ v4_3 then (some ((-1 : Int32))) else (zg (zin v4_3 40) (if (c_kind (v4_3).toNatClampNeg) = p1 then (zg (zin v4_3 40) (if (c_first (v4_3).toNatClampNeg) = p2 then (zg (zin v4_3 40) (if (c_second (v4_3).toNatClampNeg) = p3 then (some (v4_3)) else (rec3 (v4_3 + (1 : Int32))))) else (rec3 (v4_3 + (1 : Int32))))) else (rec3 (v4_3 + (1 : Int32))))))
def fX5_find (p1 p2 p3 c_count : Int32) (c_kind c_first c_second : Nat → Int32) : Option (Int32) :=
  fX5_find_L3 c_count c_kind c_first c_second p1 p2 p3 5000 (0 : Int32)
set_option maxHeartbeats 4000000 in
set_option maxRecDepth 100000 in
theorem mX5_find (l : Launch) (D : va_G) (cy : Nat → ClassId) (sz : Nat) (b b_kind b_first b_second b_parts b_likes b_letters b_waiting b_made : Nat) (c_count : Int32) (c_kind c_first c_second : Nat → Int32) (p1 p2 p3 : Int32) (res : (Int32)) (h : fX5_find p1 p2 p3 c_count c_kind c_first c_second = some res) : zMi l yX5_find wsX5_find rmX5_find [.ref b, .int p1, .int p2, .int p3] D cy (wdX5_find cy b b_kind b_first b_second b_parts b_likes b_letters b_waiting b_made c_count c_kind c_first c_second) sz ((fun (o : (Int32)) => o) res) ((fun (o : (Int32)) => (wdX5_find cy b b_kind b_first b_second b_parts b_likes b_letters b_waiting b_made c_count c_kind c_first c_second)) res) := by
  refine zOfi (res := res) (rf := (fun (o : (Int32)) => o)) (Wf := (fun (o : (Int32)) => (wdX5_find cy b b_kind b_first b_second b_parts b_likes b_letters b_waiting b_made c_count c_kind c_first c_second))) (by decide +kernel) rfl (Nat.le_of_ble_eq_true rfl) ?_
  intro p e s m args below meth c A ls Q hx hb hml hts hown hP hK hD hA hS hl hret
  have hown : s.vm.findClass RX5 = some m.cls := hown
  have hl : lv_has ls 5 [(0, .ref b), (1, .int p1), (2, .int p2), (3, .int p3)] := hl
  refine lv_iconst (v := (0 : Int32)) hx hb dX5_find_0 (by decide) ?_
  refine lv_istore (lv' := [(4, .int (0 : Int32)), (0, .ref b), (1, .int p1), (2, .int p2), (3, .int p3)]) hx hb dX5_find_1 hl (Nat.le_of_ble_eq_true rfl) rfl (fun ls hl => ?_)
  have hL3 : ∀ n3 : Nat, ∀ (v4_3 : Int32) (H : Heap) (locs : List Loc) (ls : Array Slot), va_P D vwCl (wdX5_find cy b b_kind b_first b_second b_parts b_likes b_letters b_waiting b_made c_count c_kind c_first c_second) H → va_D A (wdX5_find cy b b_kind b_first b_second b_parts b_likes b_letters b_waiting b_made c_count c_kind c_first c_second) → va_S A s.heap H locs → lv_has ls 5 [(0, .ref b), (1, .int p1), (2, .int p2), (3, .int p3), (4, .int v4_3)] → fX5_find_L3 c_count c_kind c_first c_second p1 p2 p3 n3 v4_3 = some res → W p l e rmX5_find s m args below meth c H locs 0 0 Q (F0 m 3 ls []) := by
    intro n3
    induction n3 with
    | zero =>
      intro v4_3 H locs ls hP hD hS hl h
      exact zl1_0 h
    | succ n3 ih3 =>
      intro v4_3 H locs ls hP hD hS hl h
      replace h := zl1_s h
      refine lv_iload hx hb dX5_find_3 (lv_at hl 4 rfl) ?_
      refine lv_aload_n hx hb dX5_find_5 rfl (lv_at hl 0 rfl) ?_
      refine va_get (D := D) (ci := 5) (v := .int c_count) (C := RX5) (T := TX5) (N := 9) hx hb hts uX5_find_X5 hown hK.1 hP 0 rfl rfl 4 (by decide) (hts (.fieldLink RX5 36 "WishedResistor$Nets" "count" "I") (List.mem_of_getElem? (i := 1) rfl)) (fun _ h9 => h9) rfl dX5_find_6 ?_
      refine lv_icmp_ge (tgt := 54) hx hb dX5_find_9 (by decide) (fun hc9 => ?_) (fun hc9 => ?_)
      · replace h := zi_t hc9 h
        refine lv_iconst (v := (-1 : Int32)) hx hb dX5_find_54 (by decide) ?_
        exact hret (o := ((-1 : Int32))) h hP hD hS dX5_find_55
      · replace h := zi_f hc9 h
        refine lv_aload_n hx hb dX5_find_12 rfl (lv_at hl 0 rfl) ?_
        refine va_get (D := D) (ci := 5) (v := .ref b_kind) (C := RX5) (T := TX5) (N := 9) hx hb hts uX5_find_X5 hown hK.1 hP 0 rfl rfl 0 (by decide) (hts (.fieldLink RX5 9 "WishedResistor$Nets" "kind" "[I") (List.mem_of_getElem? (i := 2) rfl)) (fun _ h9 => h9) rfl dX5_find_13 ?_
        refine lv_iload hx hb dX5_find_16 (lv_at hl 4 rfl) ?_
        obtain ⟨hi18, h⟩ := zg_s h
        refine va_iald hx hb hK.1 hP 1 0 rfl rfl hi18 dX5_find_18 ?_
        refine lv_iload_n hx hb dX5_find_19 rfl (lv_at hl 1 rfl) ?_
        refine lv_icmp_ne (tgt := 48) hx hb dX5_find_20 (by decide) (fun hc20 => ?_) (fun hc20 => ?_)
        · replace h := zi_f hc20 h
          refine lv_iinc (v := (v4_3 + (1 : Int32))) (lv' := [(4, .int (v4_3 + (1 : Int32))), (0, .ref b), (1, .int p1), (2, .int p2), (3, .int p3)]) hx hb dX5_find_48 hl (k := 4) rfl (by rfl) (Nat.le_of_ble_eq_true rfl) rfl (fun ls hl => ?_)
          refine lv_goto (tgt := 3) hx hb dX5_find_51 (by decide) ?_
          exact ih3 (v4_3 + (1 : Int32)) _ _ _ hP hD hS (lv_sub hl [1, 2, 3, 4, 0] rfl) h
        · replace h := zi_t hc20 h
          refine lv_aload_n hx hb dX5_find_23 rfl (lv_at hl 0 rfl) ?_
          refine va_get (D := D) (ci := 5) (v := .ref b_first) (C := RX5) (T := TX5) (N := 9) hx hb hts uX5_find_X5 hown hK.1 hP 0 rfl rfl 1 (by decide) (hts (.fieldLink RX5 15 "WishedResistor$Nets" "first" "[I") (List.mem_of_getElem? (i := 3) rfl)) (fun _ h9 => h9) rfl dX5_find_24 ?_
          refine lv_iload hx hb dX5_find_27 (lv_at hl 4 rfl) ?_
          obtain ⟨hi29, h⟩ := zg_s h
          refine va_iald hx hb hK.1 hP 2 0 rfl rfl hi29 dX5_find_29 ?_
          refine lv_iload_n hx hb dX5_find_30 rfl (lv_at hl 2 rfl) ?_
          refine lv_icmp_ne (tgt := 48) hx hb dX5_find_31 (by decide) (fun hc31 => ?_) (fun hc31 => ?_)
          · replace h := zi_f hc31 h
            refine lv_iinc (v := (v4_3 + (1 : Int32))) (lv' := [(4, .int (v4_3 + (1 : Int32))), (0, .ref b), (1, .int p1), (2, .int p2), (3, .int p3)]) hx hb dX5_find_48 hl (k := 4) rfl (by rfl) (Nat.le_of_ble_eq_true rfl) rfl (fun ls hl => ?_)
            refine lv_goto (tgt := 3) hx hb dX5_find_51 (by decide) ?_
            exact ih3 (v4_3 + (1 : Int32)) _ _ _ hP hD hS (lv_sub hl [1, 2, 3, 4, 0] rfl) h
          · replace h := zi_t hc31 h
            refine lv_aload_n hx hb dX5_find_34 rfl (lv_at hl 0 rfl) ?_
            refine va_get (D := D) (ci := 5) (v := .ref b_second) (C := RX5) (T := TX5) (N := 9) hx hb hts uX5_find_X5 hown hK.1 hP 0 rfl rfl 2 (by decide) (hts (.fieldLink RX5 18 "WishedResistor$Nets" "second" "[I") (List.mem_of_getElem? (i := 4) rfl)) (fun _ h9 => h9) rfl dX5_find_35 ?_
            refine lv_iload hx hb dX5_find_38 (lv_at hl 4 rfl) ?_
            obtain ⟨hi40, h⟩ := zg_s h
            refine va_iald hx hb hK.1 hP 3 0 rfl rfl hi40 dX5_find_40 ?_
            refine lv_iload_n hx hb dX5_find_41 rfl (lv_at hl 3 rfl) ?_
            refine lv_icmp_ne (tgt := 48) hx hb dX5_find_42 (by decide) (fun hc42 => ?_) (fun hc42 => ?_)
            · replace h := zi_f hc42 h
              refine lv_iinc (v := (v4_3 + (1 : Int32))) (lv' := [(4, .int (v4_3 + (1 : Int32))), (0, .ref b), (1, .int p1), (2, .int p2), (3, .int p3)]) hx hb dX5_find_48 hl (k := 4) rfl (by rfl) (Nat.le_of_ble_eq_true rfl) rfl (fun ls hl => ?_)
              refine lv_goto (tgt := 3) hx hb dX5_find_51 (by decide) ?_
              exact ih3 (v4_3 + (1 : Int32)) _ _ _ hP hD hS (lv_sub hl [1, 2, 3, 4, 0] rfl) h
            · replace h := zi_t hc42 h
              refine lv_iload hx hb dX5_find_45 (lv_at hl 4 rfl) ?_
              exact hret (o := (v4_3)) h hP hD hS dX5_find_47
  exact hL3 5000 (0 : Int32) _ _ _ hP hD hS (lv_sub hl [1, 2, 3, 4, 0] rfl) h

abbrev wdX5_partOf (cy : Nat → ClassId) (b b_kind b_first b_second b_parts b_likes b_letters b_waiting b_made : Nat) (c_count : Int32) (c_kind c_first c_second : Nat → Int32) : va_W := [(b, .inr (5, [.ref b_kind, .ref b_first, .ref b_second, .ref b_parts, .int c_count, .ref b_likes, .ref b_letters, .ref b_waiting, .ref b_made])), (b_kind, .inl (cy 0, 40, .inl c_kind)), (b_first, .inl (cy 0, 40, .inl c_first)), (b_second, .inl (cy 0, 40, .inl c_second))]
abbrev rmX5_partOf : Room := { frames := 1, cells := 0, slots := 0, locals := 24 }
theorem cdX5_partOf : (yX5_partOf).cls ≠ "java/lang/invoke/MethodHandle" ∧ (yX5_partOf).cls ≠ "java/lang/invoke/VarHandle" ∧ (parseMethodDescriptor (yX5_partOf).desc).map (fun d => d.parameters.length) = some 1 := by decide +kernel
def fX5_partOf (p1 c_count : Int32) (c_kind c_first c_second : Nat → Int32) : Option (Int32) :=
  zb1 (fX5_find (0 : Int32) p1 (-1 : Int32) c_count c_kind c_first c_second) (fun r4 => some (r4))
set_option maxHeartbeats 4000000 in
set_option maxRecDepth 100000 in
theorem mX5_partOf (l : Launch) (D : va_G) (cy : Nat → ClassId) (sz : Nat) (b b_kind b_first b_second b_parts b_likes b_letters b_waiting b_made : Nat) (c_count : Int32) (c_kind c_first c_second : Nat → Int32) (p1 : Int32) (res : (Int32)) (h : fX5_partOf p1 c_count c_kind c_first c_second = some res) : zMi l yX5_partOf wsX5_partOf rmX5_partOf [.ref b, .int p1] D cy (wdX5_partOf cy b b_kind b_first b_second b_parts b_likes b_letters b_waiting b_made c_count c_kind c_first c_second) sz ((fun (o : (Int32)) => o) res) ((fun (o : (Int32)) => (wdX5_partOf cy b b_kind b_first b_second b_parts b_likes b_letters b_waiting b_made c_count c_kind c_first c_second)) res) := by
  refine zOfi (res := res) (rf := (fun (o : (Int32)) => o)) (Wf := (fun (o : (Int32)) => (wdX5_partOf cy b b_kind b_first b_second b_parts b_likes b_letters b_waiting b_made c_count c_kind c_first c_second))) (by decide +kernel) rfl (Nat.le_of_ble_eq_true rfl) ?_
  intro p e s m args below meth c A ls Q hx hb hml hts hown hP hK hD hA hS hl hret
  have hown : s.vm.findClass RX5 = some m.cls := hown
  have hl : lv_has ls 2 [(0, .ref b), (1, .int p1)] := hl
  refine lv_aload_n hx hb dX5_partOf_0 rfl (lv_at hl 0 rfl) ?_
  refine lv_iconst (v := (0 : Int32)) hx hb dX5_partOf_1 (by decide) ?_
  refine lv_iload_n hx hb dX5_partOf_2 rfl (lv_at hl 1 rfl) ?_
  refine lv_iconst (v := (-1 : Int32)) hx hb dX5_partOf_3 (by decide) ?_
  obtain ⟨r4, hq4, h⟩ := zb1_s h
  refine zCi (r0 := r4) (w1 := (wdX5_find cy b b_kind b_first b_second b_parts b_likes b_letters b_waiting b_made c_count c_kind c_first c_second)) (ws' := (wdX5_partOf cy b b_kind b_first b_second b_parts b_likes b_letters b_waiting b_made c_count c_kind c_first c_second)) (va_runV (As := [.int (0 : Int32), .int p1, .int (-1 : Int32)]) (rest := []) ⟨hx, hb, hml, hown, hts⟩ (mX5_find l D cy s.heap.size b b_kind b_first b_second b_parts b_likes b_letters b_waiting b_made c_count c_kind c_first c_second (0 : Int32) p1 (-1 : Int32) (r4) hq4) (cwV 3 hts gX5_partOf_X5_find rfl rfl rfl ⟨rfl, cdX5_find⟩ ⟨Nat.le_of_ble_eq_true rfl, Nat.le_of_ble_eq_true rfl⟩) (zPV hK hP hD [0, 1, 2, 3] rfl rfl (q0 := 0) (ci := 5) rfl rfl rfl) rfl rfl hl.1 rfl (lv_room (Nat.le_of_ble_eq_true rfl)) dX5_partOf_4 ⟨Nat.zero_le _, Nat.zero_le _⟩) hP hD hS hA [0, 1, 2, 3] [] [0, 1, 2, 3] rfl rfl rfl rfl (fun H locs hP hD hS => ?_)
  exact hret (o := (r4)) h hP hD hS dX5_partOf_7

theorem uX5_add_X5 : ∀ w ∈ u_ws RX5 TX5 9, w ∈ wsX5_add := fun w h => (List.mem_cons_of_mem _ (List.mem_append_right _ h))
abbrev wdX5_add (cy : Nat → ClassId) (b b_kind b_first b_second b_parts b_likes b_letters b_waiting b_made : Nat) (c_count : Int32) (c_kind c_first c_second c_parts : Nat → Int32) : va_W := [(b, .inr (5, [.ref b_kind, .ref b_first, .ref b_second, .ref b_parts, .int c_count, .ref b_likes, .ref b_letters, .ref b_waiting, .ref b_made])), (b_kind, .inl (cy 0, 40, .inl c_kind)), (b_first, .inl (cy 0, 40, .inl c_first)), (b_second, .inl (cy 0, 40, .inl c_second)), (b_parts, .inl (cy 0, 40, .inl c_parts))]
abbrev rmX5_add : Room := { frames := 0, cells := 0, slots := 0, locals := 0 }
theorem cdX5_add : (yX5_add).cls ≠ "java/lang/invoke/MethodHandle" ∧ (yX5_add).cls ≠ "java/lang/invoke/VarHandle" ∧ (parseMethodDescriptor (yX5_add).desc).map (fun d => d.parameters.length) = some 4 := by decide +kernel
def fX5_add (p1 p2 p3 p4 c_count : Int32) (c_kind c_first c_second c_parts : Nat → Int32) : Option (Int32 × Int32 × (Nat → Int32) × (Nat → Int32) × (Nat → Int32) × (Nat → Int32)) :=
  if c_count < (40 : Int32) then (zg (zin c_count 40) (zg (zin c_count 40) (zg (zin c_count 40) (zg (zin c_count 40) (some (((c_count + (1 : Int32)) - (1 : Int32)), (c_count + (1 : Int32)), (upd c_kind (c_count).toNatClampNeg p1), (upd c_first (c_count).toNatClampNeg p2), (upd c_second (c_count).toNatClampNeg p3), (upd c_parts (c_count).toNatClampNeg p4))))))) else (some ((-3 : Int32), c_count, c_kind, c_first, c_second, c_parts))
set_option maxHeartbeats 4000000 in
set_option maxRecDepth 100000 in
theorem mX5_add (l : Launch) (D : va_G) (cy : Nat → ClassId) (sz : Nat) (b b_kind b_first b_second b_parts b_likes b_letters b_waiting b_made : Nat) (c_count : Int32) (c_kind c_first c_second c_parts : Nat → Int32) (p1 p2 p3 p4 : Int32) (res : (Int32 × Int32 × (Nat → Int32) × (Nat → Int32) × (Nat → Int32) × (Nat → Int32))) (h : fX5_add p1 p2 p3 p4 c_count c_kind c_first c_second c_parts = some res) : zMi l yX5_add wsX5_add rmX5_add [.ref b, .int p1, .int p2, .int p3, .int p4] D cy (wdX5_add cy b b_kind b_first b_second b_parts b_likes b_letters b_waiting b_made c_count c_kind c_first c_second c_parts) sz ((fun (o : (Int32 × Int32 × (Nat → Int32) × (Nat → Int32) × (Nat → Int32) × (Nat → Int32))) => o.1) res) ((fun (o : (Int32 × Int32 × (Nat → Int32) × (Nat → Int32) × (Nat → Int32) × (Nat → Int32))) => (wdX5_add cy b b_kind b_first b_second b_parts b_likes b_letters b_waiting b_made (o.2.1) (o.2.2.1) (o.2.2.2.1) (o.2.2.2.2.1) (o.2.2.2.2.2))) res) := by
  refine zOfi (res := res) (rf := (fun (o : (Int32 × Int32 × (Nat → Int32) × (Nat → Int32) × (Nat → Int32) × (Nat → Int32))) => o.1)) (Wf := (fun (o : (Int32 × Int32 × (Nat → Int32) × (Nat → Int32) × (Nat → Int32) × (Nat → Int32))) => (wdX5_add cy b b_kind b_first b_second b_parts b_likes b_letters b_waiting b_made (o.2.1) (o.2.2.1) (o.2.2.2.1) (o.2.2.2.2.1) (o.2.2.2.2.2)))) (by decide +kernel) rfl (Nat.le_of_ble_eq_true rfl) ?_
  intro p e s m args below meth c A ls Q hx hb hml hts hown hP hK hD hA hS hl hret
  have hown : s.vm.findClass RX5 = some m.cls := hown
  have hl : lv_has ls 5 [(0, .ref b), (1, .int p1), (2, .int p2), (3, .int p3), (4, .int p4)] := hl
  refine lv_aload_n hx hb dX5_add_0 rfl (lv_at hl 0 rfl) ?_
  refine va_get (D := D) (ci := 5) (v := .int c_count) (C := RX5) (T := TX5) (N := 9) hx hb hts uX5_add_X5 hown hK.1 hP 0 rfl rfl 4 (by decide) (hts (.fieldLink RX5 36 "WishedResistor$Nets" "count" "I") (List.mem_of_getElem? (i := 1) rfl)) (fun _ h9 => h9) rfl dX5_add_1 ?_
  refine lv_bipush (v := (40 : Int32)) hx hb dX5_add_4 (by decide) ?_
  refine lv_icmp_lt (tgt := 12) hx hb dX5_add_6 (by decide) (fun hc6 => ?_) (fun hc6 => ?_)
  · replace h := zi_t hc6 h
    refine lv_aload_n hx hb dX5_add_12 rfl (lv_at hl 0 rfl) ?_
    refine va_get (D := D) (ci := 5) (v := .ref b_kind) (C := RX5) (T := TX5) (N := 9) hx hb hts uX5_add_X5 hown hK.1 hP 0 rfl rfl 0 (by decide) (hts (.fieldLink RX5 9 "WishedResistor$Nets" "kind" "[I") (List.mem_of_getElem? (i := 2) rfl)) (fun _ h9 => h9) rfl dX5_add_13 ?_
    refine lv_aload_n hx hb dX5_add_16 rfl (lv_at hl 0 rfl) ?_
    refine va_get (D := D) (ci := 5) (v := .int c_count) (C := RX5) (T := TX5) (N := 9) hx hb hts uX5_add_X5 hown hK.1 hP 0 rfl rfl 4 (by decide) (hts (.fieldLink RX5 36 "WishedResistor$Nets" "count" "I") (List.mem_of_getElem? (i := 1) rfl)) (fun _ h9 => h9) rfl dX5_add_17 ?_
    refine lv_iload_n hx hb dX5_add_20 rfl (lv_at hl 1 rfl) ?_
    obtain ⟨hi21, h⟩ := zg_s h
    refine va_iast hx hb hK.1 hP hD hS 1 0 rfl rfl hi21 dX5_add_21 (fun H locs hP hD hS => ?_)
    have hP : va_P D vwCl (wdX5_add cy b b_kind b_first b_second b_parts b_likes b_letters b_waiting b_made c_count (upd c_kind (c_count).toNatClampNeg p1) c_first c_second c_parts) H := hP
    have hD : va_D A (wdX5_add cy b b_kind b_first b_second b_parts b_likes b_letters b_waiting b_made c_count (upd c_kind (c_count).toNatClampNeg p1) c_first c_second c_parts) := hD
    refine lv_aload_n hx hb dX5_add_22 rfl (lv_at hl 0 rfl) ?_
    refine va_get (D := D) (ci := 5) (v := .ref b_first) (C := RX5) (T := TX5) (N := 9) hx hb hts uX5_add_X5 hown hK.1 hP 0 rfl rfl 1 (by decide) (hts (.fieldLink RX5 15 "WishedResistor$Nets" "first" "[I") (List.mem_of_getElem? (i := 3) rfl)) (fun _ h9 => h9) rfl dX5_add_23 ?_
    refine lv_aload_n hx hb dX5_add_26 rfl (lv_at hl 0 rfl) ?_
    refine va_get (D := D) (ci := 5) (v := .int c_count) (C := RX5) (T := TX5) (N := 9) hx hb hts uX5_add_X5 hown hK.1 hP 0 rfl rfl 4 (by decide) (hts (.fieldLink RX5 36 "WishedResistor$Nets" "count" "I") (List.mem_of_getElem? (i := 1) rfl)) (fun _ h9 => h9) rfl dX5_add_27 ?_
    refine lv_iload_n hx hb dX5_add_30 rfl (lv_at hl 2 rfl) ?_
    obtain ⟨hi31, h⟩ := zg_s h
    refine va_iast hx hb hK.1 hP hD hS 2 0 rfl rfl hi31 dX5_add_31 (fun H locs hP hD hS => ?_)
    have hP : va_P D vwCl (wdX5_add cy b b_kind b_first b_second b_parts b_likes b_letters b_waiting b_made c_count (upd c_kind (c_count).toNatClampNeg p1) (upd c_first (c_count).toNatClampNeg p2) c_second c_parts) H := hP
    have hD : va_D A (wdX5_add cy b b_kind b_first b_second b_parts b_likes b_letters b_waiting b_made c_count (upd c_kind (c_count).toNatClampNeg p1) (upd c_first (c_count).toNatClampNeg p2) c_second c_parts) := hD
    refine lv_aload_n hx hb dX5_add_32 rfl (lv_at hl 0 rfl) ?_
    refine va_get (D := D) (ci := 5) (v := .ref b_second) (C := RX5) (T := TX5) (N := 9) hx hb hts uX5_add_X5 hown hK.1 hP 0 rfl rfl 2 (by decide) (hts (.fieldLink RX5 18 "WishedResistor$Nets" "second" "[I") (List.mem_of_getElem? (i := 4) rfl)) (fun _ h9 => h9) rfl dX5_add_33 ?_
    refine lv_aload_n hx hb dX5_add_36 rfl (lv_at hl 0 rfl) ?_
    refine va_get (D := D) (ci := 5) (v := .int c_count) (C := RX5) (T := TX5) (N := 9) hx hb hts uX5_add_X5 hown hK.1 hP 0 rfl rfl 4 (by decide) (hts (.fieldLink RX5 36 "WishedResistor$Nets" "count" "I") (List.mem_of_getElem? (i := 1) rfl)) (fun _ h9 => h9) rfl dX5_add_37 ?_
    refine lv_iload_n hx hb dX5_add_40 rfl (lv_at hl 3 rfl) ?_
    obtain ⟨hi41, h⟩ := zg_s h
    refine va_iast hx hb hK.1 hP hD hS 3 0 rfl rfl hi41 dX5_add_41 (fun H locs hP hD hS => ?_)
    have hP : va_P D vwCl (wdX5_add cy b b_kind b_first b_second b_parts b_likes b_letters b_waiting b_made c_count (upd c_kind (c_count).toNatClampNeg p1) (upd c_first (c_count).toNatClampNeg p2) (upd c_second (c_count).toNatClampNeg p3) c_parts) H := hP
    have hD : va_D A (wdX5_add cy b b_kind b_first b_second b_parts b_likes b_letters b_waiting b_made c_count (upd c_kind (c_count).toNatClampNeg p1) (upd c_first (c_count).toNatClampNeg p2) (upd c_second (c_count).toNatClampNeg p3) c_parts) := hD
    refine lv_aload_n hx hb dX5_add_42 rfl (lv_at hl 0 rfl) ?_
    refine va_get (D := D) (ci := 5) (v := .ref b_parts) (C := RX5) (T := TX5) (N := 9) hx hb hts uX5_add_X5 hown hK.1 hP 0 rfl rfl 3 (by decide) (hts (.fieldLink RX5 21 "WishedResistor$Nets" "parts" "[I") (List.mem_of_getElem? (i := 5) rfl)) (fun _ h9 => h9) rfl dX5_add_43 ?_
    refine lv_aload_n hx hb dX5_add_46 rfl (lv_at hl 0 rfl) ?_
    refine va_get (D := D) (ci := 5) (v := .int c_count) (C := RX5) (T := TX5) (N := 9) hx hb hts uX5_add_X5 hown hK.1 hP 0 rfl rfl 4 (by decide) (hts (.fieldLink RX5 36 "WishedResistor$Nets" "count" "I") (List.mem_of_getElem? (i := 1) rfl)) (fun _ h9 => h9) rfl dX5_add_47 ?_
    refine lv_iload hx hb dX5_add_50 (lv_at hl 4 rfl) ?_
    obtain ⟨hi52, h⟩ := zg_s h
    refine va_iast hx hb hK.1 hP hD hS 4 0 rfl rfl hi52 dX5_add_52 (fun H locs hP hD hS => ?_)
    have hP : va_P D vwCl (wdX5_add cy b b_kind b_first b_second b_parts b_likes b_letters b_waiting b_made c_count (upd c_kind (c_count).toNatClampNeg p1) (upd c_first (c_count).toNatClampNeg p2) (upd c_second (c_count).toNatClampNeg p3) (upd c_parts (c_count).toNatClampNeg p4)) H := hP
    have hD : va_D A (wdX5_add cy b b_kind b_first b_second b_parts b_likes b_letters b_waiting b_made c_count (upd c_kind (c_count).toNatClampNeg p1) (upd c_first (c_count).toNatClampNeg p2) (upd c_second (c_count).toNatClampNeg p3) (upd c_parts (c_count).toNatClampNeg p4)) := hD
    refine lv_aload_n hx hb dX5_add_53 rfl (lv_at hl 0 rfl) ?_
    refine lv_dup hx hb dX5_add_54 rfl ?_
    refine va_get (D := D) (ci := 5) (v := .int c_count) (C := RX5) (T := TX5) (N := 9) hx hb hts uX5_add_X5 hown hK.1 hP 0 rfl rfl 4 (by decide) (hts (.fieldLink RX5 36 "WishedResistor$Nets" "count" "I") (List.mem_of_getElem? (i := 1) rfl)) (fun _ h9 => h9) rfl dX5_add_55 ?_
    refine lv_iconst (v := (1 : Int32)) hx hb dX5_add_58 (by decide) ?_
    refine lv_iadd hx hb dX5_add_59 ?_
    refine va_put (D := D) (ci := 5) (v := .int (c_count + (1 : Int32))) (ty := .int) (C := RX5) (T := TX5) (N := 9) hx hb hts uX5_add_X5 tyX5 tyX5_ok nmX5 hown hK.1 hP hD hS 0 rfl rfl 4 (by decide) (hts (.fieldLink RX5 36 "WishedResistor$Nets" "count" "I") (List.mem_of_getElem? (i := 1) rfl)) (fun _ h9 => h9) rfl (by decide +kernel) rfl rfl (Nat.le_of_ble_eq_true rfl) dX5_add_60 (fun H locs hP hD hS => ?_)
    have hP : va_P D vwCl (wdX5_add cy b b_kind b_first b_second b_parts b_likes b_letters b_waiting b_made (c_count + (1 : Int32)) (upd c_kind (c_count).toNatClampNeg p1) (upd c_first (c_count).toNatClampNeg p2) (upd c_second (c_count).toNatClampNeg p3) (upd c_parts (c_count).toNatClampNeg p4)) H := hP
    have hD : va_D A (wdX5_add cy b b_kind b_first b_second b_parts b_likes b_letters b_waiting b_made (c_count + (1 : Int32)) (upd c_kind (c_count).toNatClampNeg p1) (upd c_first (c_count).toNatClampNeg p2) (upd c_second (c_count).toNatClampNeg p3) (upd c_parts (c_count).toNatClampNeg p4)) := hD
    refine lv_aload_n hx hb dX5_add_63 rfl (lv_at hl 0 rfl) ?_
    refine va_get (D := D) (ci := 5) (v := .int (c_count + (1 : Int32))) (C := RX5) (T := TX5) (N := 9) hx hb hts uX5_add_X5 hown hK.1 hP 0 rfl rfl 4 (by decide) (hts (.fieldLink RX5 36 "WishedResistor$Nets" "count" "I") (List.mem_of_getElem? (i := 1) rfl)) (fun _ h9 => h9) rfl dX5_add_64 ?_
    refine lv_iconst (v := (1 : Int32)) hx hb dX5_add_67 (by decide) ?_
    refine lv_isub hx hb dX5_add_68 ?_
    exact hret (o := (((c_count + (1 : Int32)) - (1 : Int32)), (c_count + (1 : Int32)), (upd c_kind (c_count).toNatClampNeg p1), (upd c_first (c_count).toNatClampNeg p2), (upd c_second (c_count).toNatClampNeg p3), (upd c_parts (c_count).toNatClampNeg p4))) h hP hD hS dX5_add_69
  · replace h := zi_f hc6 h
    refine lv_bipush (v := (-3 : Int32)) hx hb dX5_add_9 (by decide) ?_
    exact hret (o := ((-3 : Int32), c_count, c_kind, c_first, c_second, c_parts)) h hP hD hS dX5_add_11

abbrev wdX5_keepPart (cy : Nat → ClassId) (b b_kind b_first b_second b_parts b_likes b_letters b_waiting b_made : Nat) (c_count : Int32) (c_kind c_first c_second c_parts : Nat → Int32) : va_W := [(b, .inr (5, [.ref b_kind, .ref b_first, .ref b_second, .ref b_parts, .int c_count, .ref b_likes, .ref b_letters, .ref b_waiting, .ref b_made])), (b_kind, .inl (cy 0, 40, .inl c_kind)), (b_first, .inl (cy 0, 40, .inl c_first)), (b_second, .inl (cy 0, 40, .inl c_second)), (b_parts, .inl (cy 0, 40, .inl c_parts))]
abbrev rmX5_keepPart : Room := { frames := 2, cells := 0, slots := 0, locals := 45 }
theorem cdX5_keepPart : (yX5_keepPart).cls ≠ "java/lang/invoke/MethodHandle" ∧ (yX5_keepPart).cls ≠ "java/lang/invoke/VarHandle" ∧ (parseMethodDescriptor (yX5_keepPart).desc).map (fun d => d.parameters.length) = some 1 := by decide +kernel
def fX5_keepPart (p1 c_count : Int32) (c_kind c_first c_second c_parts : Nat → Int32) : Option (Int32 × Int32 × (Nat → Int32) × (Nat → Int32) × (Nat → Int32) × (Nat → Int32)) :=
  zb1 (fX5_partOf p1 c_count c_kind c_first c_second) (fun r2 => if r2 = (-1 : Int32) then (zb6 (fX5_add (0 : Int32) p1 (-1 : Int32) (1 : Int32) c_count c_kind c_first c_second c_parts) (fun r16 c_count_r16 c_kind_r16 c_first_r16 c_second_r16 c_parts_r16 => some (r16, c_count_r16, c_kind_r16, c_first_r16, c_second_r16, c_parts_r16))) else (some (r2, c_count, c_kind, c_first, c_second, c_parts)))
set_option maxHeartbeats 4000000 in
set_option maxRecDepth 100000 in
theorem mX5_keepPart (l : Launch) (D : va_G) (cy : Nat → ClassId) (sz : Nat) (b b_kind b_first b_second b_parts b_likes b_letters b_waiting b_made : Nat) (c_count : Int32) (c_kind c_first c_second c_parts : Nat → Int32) (p1 : Int32) (res : (Int32 × Int32 × (Nat → Int32) × (Nat → Int32) × (Nat → Int32) × (Nat → Int32))) (h : fX5_keepPart p1 c_count c_kind c_first c_second c_parts = some res) : zMi l yX5_keepPart wsX5_keepPart rmX5_keepPart [.ref b, .int p1] D cy (wdX5_keepPart cy b b_kind b_first b_second b_parts b_likes b_letters b_waiting b_made c_count c_kind c_first c_second c_parts) sz ((fun (o : (Int32 × Int32 × (Nat → Int32) × (Nat → Int32) × (Nat → Int32) × (Nat → Int32))) => o.1) res) ((fun (o : (Int32 × Int32 × (Nat → Int32) × (Nat → Int32) × (Nat → Int32) × (Nat → Int32))) => (wdX5_keepPart cy b b_kind b_first b_second b_parts b_likes b_letters b_waiting b_made (o.2.1) (o.2.2.1) (o.2.2.2.1) (o.2.2.2.2.1) (o.2.2.2.2.2))) res) := by
  refine zOfi (res := res) (rf := (fun (o : (Int32 × Int32 × (Nat → Int32) × (Nat → Int32) × (Nat → Int32) × (Nat → Int32))) => o.1)) (Wf := (fun (o : (Int32 × Int32 × (Nat → Int32) × (Nat → Int32) × (Nat → Int32) × (Nat → Int32))) => (wdX5_keepPart cy b b_kind b_first b_second b_parts b_likes b_letters b_waiting b_made (o.2.1) (o.2.2.1) (o.2.2.2.1) (o.2.2.2.2.1) (o.2.2.2.2.2)))) (by decide +kernel) rfl (Nat.le_of_ble_eq_true rfl) ?_
  intro p e s m args below meth c A ls Q hx hb hml hts hown hP hK hD hA hS hl hret
  have hown : s.vm.findClass RX5 = some m.cls := hown
  have hl : lv_has ls 3 [(0, .ref b), (1, .int p1)] := hl
  refine lv_aload_n hx hb dX5_keepPart_0 rfl (lv_at hl 0 rfl) ?_
  refine lv_iload_n hx hb dX5_keepPart_1 rfl (lv_at hl 1 rfl) ?_
  obtain ⟨r2, hq2, h⟩ := zb1_s h
  refine zCi (r0 := r2) (w1 := (wdX5_partOf cy b b_kind b_first b_second b_parts b_likes b_letters b_waiting b_made c_count c_kind c_first c_second)) (ws' := (wdX5_keepPart cy b b_kind b_first b_second b_parts b_likes b_letters b_waiting b_made c_count c_kind c_first c_second c_parts)) (va_runV (As := [.int p1]) (rest := []) ⟨hx, hb, hml, hown, hts⟩ (mX5_partOf l D cy s.heap.size b b_kind b_first b_second b_parts b_likes b_letters b_waiting b_made c_count c_kind c_first c_second p1 (r2) hq2) (cwV 1 hts gX5_keepPart_X5_partOf rfl rfl rfl ⟨rfl, cdX5_partOf⟩ ⟨Nat.le_of_ble_eq_true rfl, Nat.le_of_ble_eq_true rfl⟩) (zPV hK hP hD [0, 1, 2, 3] rfl rfl (q0 := 0) (ci := 5) rfl rfl rfl) rfl rfl hl.1 rfl (lv_room (Nat.le_of_ble_eq_true rfl)) dX5_keepPart_2 ⟨Nat.zero_le _, Nat.zero_le _⟩) hP hD hS hA [0, 1, 2, 3] [4] [1, 2, 3, 4, 0] rfl rfl rfl rfl (fun H locs hP hD hS => ?_)
  refine lv_istore_n (lv' := [(2, .int r2), (0, .ref b), (1, .int p1)]) hx hb dX5_keepPart_5 rfl hl (Nat.le_of_ble_eq_true rfl) rfl (fun ls hl => ?_)
  refine lv_iload_n hx hb dX5_keepPart_6 rfl (lv_at hl 0 rfl) ?_
  refine lv_iconst (v := (-1 : Int32)) hx hb dX5_keepPart_7 (by decide) ?_
  refine lv_icmp_ne (tgt := 22) hx hb dX5_keepPart_8 (by decide) (fun hc8 => ?_) (fun hc8 => ?_)
  · replace h := zi_f hc8 h
    refine lv_iload_n hx hb dX5_keepPart_22 rfl (lv_at hl 0 rfl) ?_
    exact hret (o := (r2, c_count, c_kind, c_first, c_second, c_parts)) h hP hD hS dX5_keepPart_23
  · replace h := zi_t hc8 h
    refine lv_aload_n hx hb dX5_keepPart_11 rfl (lv_at hl 1 rfl) ?_
    refine lv_iconst (v := (0 : Int32)) hx hb dX5_keepPart_12 (by decide) ?_
    refine lv_iload_n hx hb dX5_keepPart_13 rfl (lv_at hl 2 rfl) ?_
    refine lv_iconst (v := (-1 : Int32)) hx hb dX5_keepPart_14 (by decide) ?_
    refine lv_iconst (v := (1 : Int32)) hx hb dX5_keepPart_15 (by decide) ?_
    obtain ⟨r16, c_count_r16, c_kind_r16, c_first_r16, c_second_r16, c_parts_r16, hq16, h⟩ := zb6_s h
    refine zCi (r0 := r16) (w1 := (wdX5_add cy b b_kind b_first b_second b_parts b_likes b_letters b_waiting b_made c_count_r16 c_kind_r16 c_first_r16 c_second_r16 c_parts_r16)) (ws' := (wdX5_keepPart cy b b_kind b_first b_second b_parts b_likes b_letters b_waiting b_made c_count_r16 c_kind_r16 c_first_r16 c_second_r16 c_parts_r16)) (va_runV (As := [.int (0 : Int32), .int p1, .int (-1 : Int32), .int (1 : Int32)]) (rest := []) ⟨hx, hb, hml, hown, hts⟩ (mX5_add l D cy H.size b b_kind b_first b_second b_parts b_likes b_letters b_waiting b_made c_count c_kind c_first c_second c_parts (0 : Int32) p1 (-1 : Int32) (1 : Int32) (r16, c_count_r16, c_kind_r16, c_first_r16, c_second_r16, c_parts_r16) hq16) (cwV 4 hts gX5_keepPart_X5_add rfl rfl rfl ⟨rfl, cdX5_add⟩ ⟨Nat.le_of_ble_eq_true rfl, Nat.le_of_ble_eq_true rfl⟩) (zPV hK hP hD [0, 1, 2, 3, 4] rfl rfl (q0 := 0) (ci := 5) rfl rfl rfl) rfl rfl hl.1 rfl (lv_room (Nat.le_of_ble_eq_true rfl)) dX5_keepPart_16 ⟨Nat.zero_le _, Nat.zero_le _⟩) hP hD hS hA [0, 1, 2, 3, 4] [] [0, 1, 2, 3, 4] rfl rfl rfl rfl (fun H locs hP hD hS => ?_)
    refine lv_goto (tgt := 23) hx hb dX5_keepPart_19 (by decide) ?_
    exact hret (o := (r16, c_count_r16, c_kind_r16, c_first_r16, c_second_r16, c_parts_r16)) h hP hD hS dX5_keepPart_23

theorem uX5_keepJoin_X5 : ∀ w ∈ u_ws RX5 TX5 9, w ∈ wsX5_keepJoin := fun w h => (List.mem_cons_of_mem _ (List.mem_append_right _ h))
abbrev wdX5_keepJoin (cy : Nat → ClassId) (b b_kind b_first b_second b_parts b_likes b_letters b_waiting b_made : Nat) (c_count : Int32) (c_parts c_kind c_first c_second : Nat → Int32) : va_W := [(b, .inr (5, [.ref b_kind, .ref b_first, .ref b_second, .ref b_parts, .int c_count, .ref b_likes, .ref b_letters, .ref b_waiting, .ref b_made])), (b_parts, .inl (cy 0, 40, .inl c_parts)), (b_kind, .inl (cy 0, 40, .inl c_kind)), (b_first, .inl (cy 0, 40, .inl c_first)), (b_second, .inl (cy 0, 40, .inl c_second))]
abbrev rmX5_keepJoin : Room := { frames := 1, cells := 0, slots := 0, locals := 24 }
theorem cdX5_keepJoin : (yX5_keepJoin).cls ≠ "java/lang/invoke/MethodHandle" ∧ (yX5_keepJoin).cls ≠ "java/lang/invoke/VarHandle" ∧ (parseMethodDescriptor (yX5_keepJoin).desc).map (fun d => d.parameters.length) = some 3 := by decide +kernel
def fX5_keepJoin (p1 p2 p3 c_count : Int32) (c_parts c_kind c_first c_second : Nat → Int32) : Option (Int32 × Int32 × (Nat → Int32) × (Nat → Int32) × (Nat → Int32) × (Nat → Int32)) :=
  zg (zin p2 40) (zg (zin p3 40) (if ((c_parts (p2).toNatClampNeg) + (c_parts (p3).toNatClampNeg)) ≤ (12 : Int32) then (zb1 (fX5_find p1 p2 p3 c_count c_kind c_first c_second) (fun r29 => if r29 = (-1 : Int32) then (zb6 (fX5_add p1 p2 p3 ((c_parts (p2).toNatClampNeg) + (c_parts (p3).toNatClampNeg)) c_count c_kind c_first c_second c_parts) (fun r46 c_count_r46 c_kind_r46 c_first_r46 c_second_r46 c_parts_r46 => some (r46, c_count_r46, c_parts_r46, c_kind_r46, c_first_r46, c_second_r46))) else (some (r29, c_count, c_parts, c_kind, c_first, c_second)))) else (some ((-7 : Int32), c_count, c_parts, c_kind, c_first, c_second))))
set_option maxHeartbeats 4000000 in
set_option maxRecDepth 100000 in
theorem mX5_keepJoin (l : Launch) (D : va_G) (cy : Nat → ClassId) (sz : Nat) (b b_kind b_first b_second b_parts b_likes b_letters b_waiting b_made : Nat) (c_count : Int32) (c_parts c_kind c_first c_second : Nat → Int32) (p1 p2 p3 : Int32) (res : (Int32 × Int32 × (Nat → Int32) × (Nat → Int32) × (Nat → Int32) × (Nat → Int32))) (h : fX5_keepJoin p1 p2 p3 c_count c_parts c_kind c_first c_second = some res) : zMi l yX5_keepJoin wsX5_keepJoin rmX5_keepJoin [.ref b, .int p1, .int p2, .int p3] D cy (wdX5_keepJoin cy b b_kind b_first b_second b_parts b_likes b_letters b_waiting b_made c_count c_parts c_kind c_first c_second) sz ((fun (o : (Int32 × Int32 × (Nat → Int32) × (Nat → Int32) × (Nat → Int32) × (Nat → Int32))) => o.1) res) ((fun (o : (Int32 × Int32 × (Nat → Int32) × (Nat → Int32) × (Nat → Int32) × (Nat → Int32))) => (wdX5_keepJoin cy b b_kind b_first b_second b_parts b_likes b_letters b_waiting b_made (o.2.1) (o.2.2.1) (o.2.2.2.1) (o.2.2.2.2.1) (o.2.2.2.2.2))) res) := by
  refine zOfi (res := res) (rf := (fun (o : (Int32 × Int32 × (Nat → Int32) × (Nat → Int32) × (Nat → Int32) × (Nat → Int32))) => o.1)) (Wf := (fun (o : (Int32 × Int32 × (Nat → Int32) × (Nat → Int32) × (Nat → Int32) × (Nat → Int32))) => (wdX5_keepJoin cy b b_kind b_first b_second b_parts b_likes b_letters b_waiting b_made (o.2.1) (o.2.2.1) (o.2.2.2.1) (o.2.2.2.2.1) (o.2.2.2.2.2)))) (by decide +kernel) rfl (Nat.le_of_ble_eq_true rfl) ?_
  intro p e s m args below meth c A ls Q hx hb hml hts hown hP hK hD hA hS hl hret
  have hown : s.vm.findClass RX5 = some m.cls := hown
  have hl : lv_has ls 6 [(0, .ref b), (1, .int p1), (2, .int p2), (3, .int p3)] := hl
  refine lv_aload_n hx hb dX5_keepJoin_0 rfl (lv_at hl 0 rfl) ?_
  refine va_get (D := D) (ci := 5) (v := .ref b_parts) (C := RX5) (T := TX5) (N := 9) hx hb hts uX5_keepJoin_X5 hown hK.1 hP 0 rfl rfl 3 (by decide) (hts (.fieldLink RX5 21 "WishedResistor$Nets" "parts" "[I") (List.mem_of_getElem? (i := 1) rfl)) (fun _ h9 => h9) rfl dX5_keepJoin_1 ?_
  refine lv_iload_n hx hb dX5_keepJoin_4 rfl (lv_at hl 2 rfl) ?_
  obtain ⟨hi5, h⟩ := zg_s h
  refine va_iald hx hb hK.1 hP 1 0 rfl rfl hi5 dX5_keepJoin_5 ?_
  refine lv_aload_n hx hb dX5_keepJoin_6 rfl (lv_at hl 0 rfl) ?_
  refine va_get (D := D) (ci := 5) (v := .ref b_parts) (C := RX5) (T := TX5) (N := 9) hx hb hts uX5_keepJoin_X5 hown hK.1 hP 0 rfl rfl 3 (by decide) (hts (.fieldLink RX5 21 "WishedResistor$Nets" "parts" "[I") (List.mem_of_getElem? (i := 1) rfl)) (fun _ h9 => h9) rfl dX5_keepJoin_7 ?_
  refine lv_iload_n hx hb dX5_keepJoin_10 rfl (lv_at hl 3 rfl) ?_
  obtain ⟨hi11, h⟩ := zg_s h
  refine va_iald hx hb hK.1 hP 1 0 rfl rfl hi11 dX5_keepJoin_11 ?_
  refine lv_iadd hx hb dX5_keepJoin_12 ?_
  refine lv_istore (lv' := [(4, .int ((c_parts (p2).toNatClampNeg) + (c_parts (p3).toNatClampNeg))), (0, .ref b), (1, .int p1), (2, .int p2), (3, .int p3)]) hx hb dX5_keepJoin_13 hl (Nat.le_of_ble_eq_true rfl) rfl (fun ls hl => ?_)
  refine lv_iload hx hb dX5_keepJoin_15 (lv_at hl 0 rfl) ?_
  refine lv_bipush (v := (12 : Int32)) hx hb dX5_keepJoin_17 (by decide) ?_
  refine lv_icmp_le (tgt := 25) hx hb dX5_keepJoin_19 (by decide) (fun hc19 => ?_) (fun hc19 => ?_)
  · replace h := zi_t hc19 h
    refine lv_aload_n hx hb dX5_keepJoin_25 rfl (lv_at hl 1 rfl) ?_
    refine lv_iload_n hx hb dX5_keepJoin_26 rfl (lv_at hl 2 rfl) ?_
    refine lv_iload_n hx hb dX5_keepJoin_27 rfl (lv_at hl 3 rfl) ?_
    refine lv_iload_n hx hb dX5_keepJoin_28 rfl (lv_at hl 4 rfl) ?_
    obtain ⟨r29, hq29, h⟩ := zb1_s h
    refine zCi (r0 := r29) (w1 := (wdX5_find cy b b_kind b_first b_second b_parts b_likes b_letters b_waiting b_made c_count c_kind c_first c_second)) (ws' := (wdX5_keepJoin cy b b_kind b_first b_second b_parts b_likes b_letters b_waiting b_made c_count c_parts c_kind c_first c_second)) (va_runV (As := [.int p1, .int p2, .int p3]) (rest := []) ⟨hx, hb, hml, hown, hts⟩ (mX5_find l D cy s.heap.size b b_kind b_first b_second b_parts b_likes b_letters b_waiting b_made c_count c_kind c_first c_second p1 p2 p3 (r29) hq29) (cwV 3 hts gX5_keepJoin_X5_find rfl rfl rfl ⟨rfl, cdX5_find⟩ ⟨Nat.le_of_ble_eq_true rfl, Nat.le_of_ble_eq_true rfl⟩) (zPV hK hP hD [0, 2, 3, 4] rfl rfl (q0 := 0) (ci := 5) rfl rfl rfl) rfl rfl hl.1 rfl (lv_room (Nat.le_of_ble_eq_true rfl)) dX5_keepJoin_29 ⟨Nat.zero_le _, Nat.zero_le _⟩) hP hD hS hA [0, 2, 3, 4] [1] [1, 0, 2, 3, 4] rfl rfl rfl rfl (fun H locs hP hD hS => ?_)
    refine lv_istore (lv' := [(5, .int r29), (4, .int ((c_parts (p2).toNatClampNeg) + (c_parts (p3).toNatClampNeg))), (0, .ref b), (1, .int p1), (2, .int p2), (3, .int p3)]) hx hb dX5_keepJoin_32 hl (Nat.le_of_ble_eq_true rfl) rfl (fun ls hl => ?_)
    refine lv_iload hx hb dX5_keepJoin_34 (lv_at hl 0 rfl) ?_
    refine lv_iconst (v := (-1 : Int32)) hx hb dX5_keepJoin_36 (by decide) ?_
    refine lv_icmp_ne (tgt := 52) hx hb dX5_keepJoin_37 (by decide) (fun hc37 => ?_) (fun hc37 => ?_)
    · replace h := zi_f hc37 h
      refine lv_iload hx hb dX5_keepJoin_52 (lv_at hl 0 rfl) ?_
      exact hret (o := (r29, c_count, c_parts, c_kind, c_first, c_second)) h hP hD hS dX5_keepJoin_54
    · replace h := zi_t hc37 h
      refine lv_aload_n hx hb dX5_keepJoin_40 rfl (lv_at hl 2 rfl) ?_
      refine lv_iload_n hx hb dX5_keepJoin_41 rfl (lv_at hl 3 rfl) ?_
      refine lv_iload_n hx hb dX5_keepJoin_42 rfl (lv_at hl 4 rfl) ?_
      refine lv_iload_n hx hb dX5_keepJoin_43 rfl (lv_at hl 5 rfl) ?_
      refine lv_iload hx hb dX5_keepJoin_44 (lv_at hl 1 rfl) ?_
      obtain ⟨r46, c_count_r46, c_kind_r46, c_first_r46, c_second_r46, c_parts_r46, hq46, h⟩ := zb6_s h
      refine zCi (r0 := r46) (w1 := (wdX5_add cy b b_kind b_first b_second b_parts b_likes b_letters b_waiting b_made c_count_r46 c_kind_r46 c_first_r46 c_second_r46 c_parts_r46)) (ws' := (wdX5_keepJoin cy b b_kind b_first b_second b_parts b_likes b_letters b_waiting b_made c_count_r46 c_parts_r46 c_kind_r46 c_first_r46 c_second_r46)) (va_runV (As := [.int p1, .int p2, .int p3, .int ((c_parts (p2).toNatClampNeg) + (c_parts (p3).toNatClampNeg))]) (rest := []) ⟨hx, hb, hml, hown, hts⟩ (mX5_add l D cy H.size b b_kind b_first b_second b_parts b_likes b_letters b_waiting b_made c_count c_kind c_first c_second c_parts p1 p2 p3 ((c_parts (p2).toNatClampNeg) + (c_parts (p3).toNatClampNeg)) (r46, c_count_r46, c_kind_r46, c_first_r46, c_second_r46, c_parts_r46) hq46) (cwV 4 hts gX5_keepJoin_X5_add rfl rfl rfl ⟨rfl, cdX5_add⟩ ⟨Nat.le_of_ble_eq_true rfl, Nat.le_of_ble_eq_true rfl⟩) (zPV hK hP hD [0, 2, 3, 4, 1] rfl rfl (q0 := 0) (ci := 5) rfl rfl rfl) rfl rfl hl.1 rfl (lv_room (Nat.le_of_ble_eq_true rfl)) dX5_keepJoin_46 ⟨Nat.zero_le _, Nat.zero_le _⟩) hP hD hS hA [0, 2, 3, 4, 1] [] [0, 4, 1, 2, 3] rfl rfl rfl rfl (fun H locs hP hD hS => ?_)
      refine lv_goto (tgt := 54) hx hb dX5_keepJoin_49 (by decide) ?_
      exact hret (o := (r46, c_count_r46, c_parts_r46, c_kind_r46, c_first_r46, c_second_r46)) h hP hD hS dX5_keepJoin_54
  · replace h := zi_f hc19 h
    refine lv_bipush (v := (-7 : Int32)) hx hb dX5_keepJoin_22 (by decide) ?_
    exact hret (o := ((-7 : Int32), c_count, c_parts, c_kind, c_first, c_second)) h hP hD hS dX5_keepJoin_24

theorem uX5_keepPlan_X5 : ∀ w ∈ u_ws RX5 TX5 9, w ∈ wsX5_keepPlan := fun w h => (List.mem_cons_of_mem _ (List.mem_append_right _ h))
theorem uX5_keepPlan_X6 : ∀ w ∈ u_ws RX6 TX6 4, w ∈ wsX5_keepPlan := fun w h => (List.mem_cons_of_mem _ (List.mem_append_left _ (List.mem_append_right _ h)))
abbrev wdX5_keepPlan (cy : Nat → ClassId) (bp1 bp1_kind bp1_sort bp1_waiting b b_kind b_first b_second b_parts b_likes b_letters b_waiting b_made : Nat) (cp1_length : Int32) (cp1_kind cp1_sort : Nat → Int32) (c_count : Int32) (c_kind c_first c_second c_parts c_made : Nat → Int32) : va_W := [(bp1, .inr (6, [.ref bp1_kind, .ref bp1_sort, .int cp1_length, .ref bp1_waiting])), (bp1_kind, .inl (cy 0, 23, .inl cp1_kind)), (bp1_sort, .inl (cy 0, 23, .inl cp1_sort)), (b, .inr (5, [.ref b_kind, .ref b_first, .ref b_second, .ref b_parts, .int c_count, .ref b_likes, .ref b_letters, .ref b_waiting, .ref b_made])), (b_kind, .inl (cy 0, 40, .inl c_kind)), (b_first, .inl (cy 0, 40, .inl c_first)), (b_second, .inl (cy 0, 40, .inl c_second)), (b_parts, .inl (cy 0, 40, .inl c_parts)), (b_made, .inl (cy 0, 12, .inl c_made))]
abbrev rmX5_keepPlan : Room := { frames := 3, cells := 0, slots := 0, locals := 67 }
theorem cdX5_keepPlan : (yX5_keepPlan).cls ≠ "java/lang/invoke/MethodHandle" ∧ (yX5_keepPlan).cls ≠ "java/lang/invoke/VarHandle" ∧ (parseMethodDescriptor (yX5_keepPlan).desc).map (fun d => d.parameters.length) = some 1 := by decide +kernel
def fX5_keepPlan_J104  (c_count_104 : Int32) (c_kind_104 c_first_104 c_second_104 c_parts_104 c_made_104 : Nat → Int32) : Option (Int32 × Int32 × (Nat → Int32) × (Nat → Int32) × (Nat → Int32) × (Nat → Int32) × (Nat → Int32)) :=
  some ((c_made_104 ((0 : Int32)).toNatClampNeg), c_count_104, c_kind_104, c_first_104, c_second_104, c_parts_104, c_made_104)
def fX5_keepPlan_J73 (v3_4 : Int32) (c_made_4 : Nat → Int32) (rec4 : Int32 → Int32 → Int32 → (Nat → Int32) → (Nat → Int32) → (Nat → Int32) → (Nat → Int32) → (Nat → Int32) → Option (Int32 × Int32 × (Nat → Int32) × (Nat → Int32) × (Nat → Int32) × (Nat → Int32) × (Nat → Int32))) (v2_73 v4_73 c_count_73 : Int32) (c_kind_73 c_first_73 c_second_73 c_parts_73 : Nat → Int32) : Option (Int32 × Int32 × (Nat → Int32) × (Nat → Int32) × (Nat → Int32) × (Nat → Int32) × (Nat → Int32)) :=
  if v4_73 < 0 then (some (v4_73, c_count_73, c_kind_73, c_first_73, c_second_73, c_parts_73, c_made_4)) else (if v2_73 < (12 : Int32) then (zg (zin v2_73 12) (rec4 (v2_73 + (1 : Int32)) (v3_4 + (1 : Int32)) c_count_73 c_kind_73 c_first_73 c_second_73 c_parts_73 (upd c_made_4 (v2_73).toNatClampNeg v4_73))) else (some (v4_73, c_count_73, c_kind_73, c_first_73, c_second_73, c_parts_73, c_made_4)))
def fX5_keepPlan_L4 (k104_4 : Int32 → (Nat → Int32) → (Nat → Int32) → (Nat → Int32) → (Nat → Int32) → (Nat → Int32) → Option (Int32 × Int32 × (Nat → Int32) × (Nat → Int32) × (Nat → Int32) × (Nat → Int32) × (Nat → Int32))) (cp1_length : Int32) (cp1_kind cp1_sort : Nat → Int32) : Nat → Int32 → Int32 → Int32 → (Nat → Int32) → (Nat → Int32) → (Nat → Int32) → (Nat → Int32) → (Nat → Int32) → Option (Int32 × Int32 × (Nat → Int32) × (Nat → Int32) × (Nat → Int32) × (Nat → Int32) × (Nat → Int32)) :=
  zl8 (fun rec4 v2_4 v3_4 c_count_4 c_kind_4 c_first_4 c_second_4 c_parts_4 c_made_4 => if cp1_length ≤ v3_4 then (k104_4 c_count_4 c_kind_4 c_first_4 c_second_4 c_parts_4 c_made_4) else (zg (zin v3_4 23) (if (cp1_kind (v3_4).toNatClampNeg) = 0 then (zg (zin v3_4 23) (zb6 (fX5_keepPart (cp1_sort (v3_4).toNatClampNeg) c_count_4 c_kind_4 c_first_4 c_second_4 c_parts_4) (fun r31 c_count_r31 c_kind_r31 c_first_r31 c_second_r31 c_parts_r31 => fX5_keepPlan_J73 v3_4 c_made_4 rec4 v2_4 r31 c_count_r31 c_kind_r31 c_first_r31 c_second_r31 c_parts_r31))) else (if v2_4 < (2 : Int32) then (fX5_keepPlan_J73 v3_4 c_made_4 rec4 v2_4 (-1 : Int32) c_count_4 c_kind_4 c_first_4 c_second_4 c_parts_4) else (zg (zin v3_4 23) (zg (zin (v2_4 + (-2 : Int32)) 12) (zg (zin ((v2_4 + (-2 : Int32)) + (1 : Int32)) 12) (zb6 (fX5_keepJoin (cp1_kind (v3_4).toNatClampNeg) (c_made_4 ((v2_4 + (-2 : Int32))).toNatClampNeg) (c_made_4 (((v2_4 + (-2 : Int32)) + (1 : Int32))).toNatClampNeg) c_count_4 c_parts_4 c_kind_4 c_first_4 c_second_4) (fun r68 c_count_r68 c_parts_r68 c_kind_r68 c_first_r68 c_second_r68 => fX5_keepPlan_J73 v3_4 c_made_4 rec4 (v2_4 + (-2 : Int32)) r68 c_count_r68 c_kind_r68 c_first_r68 c_second_r68 c_parts_r68)))))))))
def fX5_keepPlan (cp1_length : Int32) (cp1_kind cp1_sort : Nat → Int32) (c_count : Int32) (c_kind c_first c_second c_parts c_made : Nat → Int32) : Option (Int32 × Int32 × (Nat → Int32) × (Nat → Int32) × (Nat → Int32) × (Nat → Int32) × (Nat → Int32)) :=
  fX5_keepPlan_L4 fX5_keepPlan_J104 cp1_length cp1_kind cp1_sort 5000 (0 : Int32) (0 : Int32) c_count c_kind c_first c_second c_parts c_made
set_option maxHeartbeats 4000000 in
set_option maxRecDepth 100000 in
theorem mX5_keepPlan (l : Launch) (D : va_G) (cy : Nat → ClassId) (sz : Nat) (bp1 bp1_kind bp1_sort bp1_waiting b b_kind b_first b_second b_parts b_likes b_letters b_waiting b_made : Nat) (cp1_length : Int32) (cp1_kind cp1_sort : Nat → Int32) (c_count : Int32) (c_kind c_first c_second c_parts c_made : Nat → Int32) (res : (Int32 × Int32 × (Nat → Int32) × (Nat → Int32) × (Nat → Int32) × (Nat → Int32) × (Nat → Int32))) (h : fX5_keepPlan cp1_length cp1_kind cp1_sort c_count c_kind c_first c_second c_parts c_made = some res) : zMi l yX5_keepPlan wsX5_keepPlan rmX5_keepPlan [.ref b, .ref bp1] D cy (wdX5_keepPlan cy bp1 bp1_kind bp1_sort bp1_waiting b b_kind b_first b_second b_parts b_likes b_letters b_waiting b_made cp1_length cp1_kind cp1_sort c_count c_kind c_first c_second c_parts c_made) sz ((fun (o : (Int32 × Int32 × (Nat → Int32) × (Nat → Int32) × (Nat → Int32) × (Nat → Int32) × (Nat → Int32))) => o.1) res) ((fun (o : (Int32 × Int32 × (Nat → Int32) × (Nat → Int32) × (Nat → Int32) × (Nat → Int32) × (Nat → Int32))) => (wdX5_keepPlan cy bp1 bp1_kind bp1_sort bp1_waiting b b_kind b_first b_second b_parts b_likes b_letters b_waiting b_made cp1_length cp1_kind cp1_sort (o.2.1) (o.2.2.1) (o.2.2.2.1) (o.2.2.2.2.1) (o.2.2.2.2.2.1) (o.2.2.2.2.2.2))) res) := by
  refine zOfi (res := res) (rf := (fun (o : (Int32 × Int32 × (Nat → Int32) × (Nat → Int32) × (Nat → Int32) × (Nat → Int32) × (Nat → Int32))) => o.1)) (Wf := (fun (o : (Int32 × Int32 × (Nat → Int32) × (Nat → Int32) × (Nat → Int32) × (Nat → Int32) × (Nat → Int32))) => (wdX5_keepPlan cy bp1 bp1_kind bp1_sort bp1_waiting b b_kind b_first b_second b_parts b_likes b_letters b_waiting b_made cp1_length cp1_kind cp1_sort (o.2.1) (o.2.2.1) (o.2.2.2.1) (o.2.2.2.2.1) (o.2.2.2.2.2.1) (o.2.2.2.2.2.2)))) (by decide +kernel) rfl (Nat.le_of_ble_eq_true rfl) ?_
  intro p e s m args below meth c A ls Q hx hb hml hts hown hP hK hD hA hS hl hret
  have hown : s.vm.findClass RX5 = some m.cls := hown
  have hl : lv_has ls 5 [(0, .ref b), (1, .ref bp1)] := hl
  refine lv_iconst (v := (0 : Int32)) hx hb dX5_keepPlan_0 (by decide) ?_
  refine lv_istore_n (lv' := [(2, .int (0 : Int32)), (0, .ref b), (1, .ref bp1)]) hx hb dX5_keepPlan_1 rfl hl (Nat.le_of_ble_eq_true rfl) rfl (fun ls hl => ?_)
  refine lv_iconst (v := (0 : Int32)) hx hb dX5_keepPlan_2 (by decide) ?_
  refine lv_istore_n (lv' := [(3, .int (0 : Int32)), (2, .int (0 : Int32)), (0, .ref b), (1, .ref bp1)]) hx hb dX5_keepPlan_3 rfl hl (Nat.le_of_ble_eq_true rfl) rfl (fun ls hl => ?_)
  have hJ104 : ∀ (c_count_104 : Int32) (c_kind_104 c_first_104 c_second_104 c_parts_104 c_made_104 : Nat → Int32) (H : Heap) (locs : List Loc) (ls : Array Slot), va_P D vwCl (wdX5_keepPlan cy bp1 bp1_kind bp1_sort bp1_waiting b b_kind b_first b_second b_parts b_likes b_letters b_waiting b_made cp1_length cp1_kind cp1_sort c_count_104 c_kind_104 c_first_104 c_second_104 c_parts_104 c_made_104) H → va_D A (wdX5_keepPlan cy bp1 bp1_kind bp1_sort bp1_waiting b b_kind b_first b_second b_parts b_likes b_letters b_waiting b_made cp1_length cp1_kind cp1_sort c_count_104 c_kind_104 c_first_104 c_second_104 c_parts_104 c_made_104) → va_S A s.heap H locs → lv_has ls 5 [(0, .ref b)] → fX5_keepPlan_J104 c_count_104 c_kind_104 c_first_104 c_second_104 c_parts_104 c_made_104 = some res → W p l e rmX5_keepPlan s m args below meth c H locs 0 0 Q (F0 m 104 ls []) := by
    intro c_count_104 c_kind_104 c_first_104 c_second_104 c_parts_104 c_made_104 H locs ls hP hD hS hl h
    refine lv_aload_n hx hb dX5_keepPlan_104 rfl (lv_at hl 0 rfl) ?_
    refine va_get (D := D) (ci := 5) (v := .ref b_made) (C := RX5) (T := TX5) (N := 9) hx hb hts uX5_keepPlan_X5 hown hK.1 hP 3 rfl rfl 8 (by decide) (hts (.fieldLink RX5 33 "WishedResistor$Nets" "made" "[I") (List.mem_of_getElem? (i := 4) rfl)) (fun _ h9 => h9) rfl dX5_keepPlan_105 ?_
    refine lv_iconst (v := (0 : Int32)) hx hb dX5_keepPlan_108 (by decide) ?_
    refine va_iald hx hb hK.1 hP 8 0 rfl rfl (show zin (0 : Int32) 12 from by decide) dX5_keepPlan_109 ?_
    exact hret (o := ((c_made_104 ((0 : Int32)).toNatClampNeg), c_count_104, c_kind_104, c_first_104, c_second_104, c_parts_104, c_made_104)) h hP hD hS dX5_keepPlan_110
  have hL4 : ∀ n4 : Nat, ∀ (v2_4 v3_4 c_count_4 : Int32) (c_kind_4 c_first_4 c_second_4 c_parts_4 c_made_4 : Nat → Int32) (H : Heap) (locs : List Loc) (ls : Array Slot), va_P D vwCl (wdX5_keepPlan cy bp1 bp1_kind bp1_sort bp1_waiting b b_kind b_first b_second b_parts b_likes b_letters b_waiting b_made cp1_length cp1_kind cp1_sort c_count_4 c_kind_4 c_first_4 c_second_4 c_parts_4 c_made_4) H → va_D A (wdX5_keepPlan cy bp1 bp1_kind bp1_sort bp1_waiting b b_kind b_first b_second b_parts b_likes b_letters b_waiting b_made cp1_length cp1_kind cp1_sort c_count_4 c_kind_4 c_first_4 c_second_4 c_parts_4 c_made_4) → va_S A s.heap H locs → lv_has ls 5 [(0, .ref b), (1, .ref bp1), (2, .int v2_4), (3, .int v3_4)] → fX5_keepPlan_L4 fX5_keepPlan_J104 cp1_length cp1_kind cp1_sort n4 v2_4 v3_4 c_count_4 c_kind_4 c_first_4 c_second_4 c_parts_4 c_made_4 = some res → W p l e rmX5_keepPlan s m args below meth c H locs 0 0 Q (F0 m 4 ls []) := by
    intro n4
    induction n4 with
    | zero =>
      intro v2_4 v3_4 c_count_4 c_kind_4 c_first_4 c_second_4 c_parts_4 c_made_4 H locs ls hP hD hS hl h
      exact zl8_0 h
    | succ n4 ih4 =>
      intro v2_4 v3_4 c_count_4 c_kind_4 c_first_4 c_second_4 c_parts_4 c_made_4 H locs ls hP hD hS hl h
      replace h := zl8_s h
      refine lv_iload_n hx hb dX5_keepPlan_4 rfl (lv_at hl 3 rfl) ?_
      refine lv_aload_n hx hb dX5_keepPlan_5 rfl (lv_at hl 1 rfl) ?_
      refine va_get (D := D) (ci := 6) (v := .int cp1_length) (C := RX6) (T := TX6) (N := 4) hx hb hts uX5_keepPlan_X6 hown hK.1 hP 0 rfl rfl 2 (by decide) (hts (.fieldLink RX5 52 "WishedResistor$Plan" "length" "I") (List.mem_of_getElem? (i := 1) rfl)) (fun _ h9 => h9) rfl dX5_keepPlan_6 ?_
      refine lv_icmp_ge (tgt := 104) hx hb dX5_keepPlan_9 (by decide) (fun hc9 => ?_) (fun hc9 => ?_)
      · replace h := zi_t hc9 h
        exact hJ104 c_count_4 c_kind_4 c_first_4 c_second_4 c_parts_4 c_made_4 _ _ _ hP hD hS (lv_sub hl [0] rfl) h
      · replace h := zi_f hc9 h
        refine lv_iconst (v := (-1 : Int32)) hx hb dX5_keepPlan_12 (by decide) ?_
        refine lv_istore (lv' := [(4, .int (-1 : Int32)), (0, .ref b), (1, .ref bp1), (2, .int v2_4), (3, .int v3_4)]) hx hb dX5_keepPlan_13 hl (Nat.le_of_ble_eq_true rfl) rfl (fun ls hl => ?_)
        refine lv_aload_n hx hb dX5_keepPlan_15 rfl (lv_at hl 2 rfl) ?_
        refine va_get (D := D) (ci := 6) (v := .ref bp1_kind) (C := RX6) (T := TX6) (N := 4) hx hb hts uX5_keepPlan_X6 hown hK.1 hP 0 rfl rfl 0 (by decide) (hts (.fieldLink RX5 57 "WishedResistor$Plan" "kind" "[I") (List.mem_of_getElem? (i := 2) rfl)) (fun _ h9 => h9) rfl dX5_keepPlan_16 ?_
        refine lv_iload_n hx hb dX5_keepPlan_19 rfl (lv_at hl 4 rfl) ?_
        obtain ⟨hi20, h⟩ := zg_s h
        refine va_iald hx hb hK.1 hP 1 0 rfl rfl hi20 dX5_keepPlan_20 ?_
        have hJ73 : ∀ (v2_73 v4_73 c_count_73 : Int32) (c_kind_73 c_first_73 c_second_73 c_parts_73 : Nat → Int32) (H : Heap) (locs : List Loc) (ls : Array Slot), va_P D vwCl (wdX5_keepPlan cy bp1 bp1_kind bp1_sort bp1_waiting b b_kind b_first b_second b_parts b_likes b_letters b_waiting b_made cp1_length cp1_kind cp1_sort c_count_73 c_kind_73 c_first_73 c_second_73 c_parts_73 c_made_4) H → va_D A (wdX5_keepPlan cy bp1 bp1_kind bp1_sort bp1_waiting b b_kind b_first b_second b_parts b_likes b_letters b_waiting b_made cp1_length cp1_kind cp1_sort c_count_73 c_kind_73 c_first_73 c_second_73 c_parts_73 c_made_4) → va_S A s.heap H locs → lv_has ls 5 [(0, .ref b), (1, .ref bp1), (2, .int v2_73), (3, .int v3_4), (4, .int v4_73)] → fX5_keepPlan_J73 v3_4 c_made_4 (fX5_keepPlan_L4 fX5_keepPlan_J104 cp1_length cp1_kind cp1_sort n4) v2_73 v4_73 c_count_73 c_kind_73 c_first_73 c_second_73 c_parts_73 = some res → W p l e rmX5_keepPlan s m args below meth c H locs 0 0 Q (F0 m 73 ls []) := by
          intro v2_73 v4_73 c_count_73 c_kind_73 c_first_73 c_second_73 c_parts_73 H locs ls hP hD hS hl h
          refine lv_iload hx hb dX5_keepPlan_73 (lv_at hl 4 rfl) ?_
          refine lv_if_lt (tgt := 84) hx hb dX5_keepPlan_75 (by decide) (fun hc75 => ?_) (fun hc75 => ?_)
          · replace h := zi_t hc75 h
            refine lv_iload hx hb dX5_keepPlan_84 (lv_at hl 4 rfl) ?_
            exact hret (o := (v4_73, c_count_73, c_kind_73, c_first_73, c_second_73, c_parts_73, c_made_4)) h hP hD hS dX5_keepPlan_86
          · replace h := zi_f hc75 h
            refine lv_iload_n hx hb dX5_keepPlan_78 rfl (lv_at hl 2 rfl) ?_
            refine lv_bipush (v := (12 : Int32)) hx hb dX5_keepPlan_79 (by decide) ?_
            refine lv_icmp_lt (tgt := 87) hx hb dX5_keepPlan_81 (by decide) (fun hc81 => ?_) (fun hc81 => ?_)
            · replace h := zi_t hc81 h
              refine lv_aload_n hx hb dX5_keepPlan_87 rfl (lv_at hl 0 rfl) ?_
              refine va_get (D := D) (ci := 5) (v := .ref b_made) (C := RX5) (T := TX5) (N := 9) hx hb hts uX5_keepPlan_X5 hown hK.1 hP 3 rfl rfl 8 (by decide) (hts (.fieldLink RX5 33 "WishedResistor$Nets" "made" "[I") (List.mem_of_getElem? (i := 4) rfl)) (fun _ h9 => h9) rfl dX5_keepPlan_88 ?_
              refine lv_iload_n hx hb dX5_keepPlan_91 rfl (lv_at hl 2 rfl) ?_
              refine lv_iload hx hb dX5_keepPlan_92 (lv_at hl 4 rfl) ?_
              obtain ⟨hi94, h⟩ := zg_s h
              refine va_iast hx hb hK.1 hP hD hS 8 0 rfl rfl hi94 dX5_keepPlan_94 (fun H locs hP hD hS => ?_)
              have hP : va_P D vwCl (wdX5_keepPlan cy bp1 bp1_kind bp1_sort bp1_waiting b b_kind b_first b_second b_parts b_likes b_letters b_waiting b_made cp1_length cp1_kind cp1_sort c_count_73 c_kind_73 c_first_73 c_second_73 c_parts_73 (upd c_made_4 (v2_73).toNatClampNeg v4_73)) H := hP
              have hD : va_D A (wdX5_keepPlan cy bp1 bp1_kind bp1_sort bp1_waiting b b_kind b_first b_second b_parts b_likes b_letters b_waiting b_made cp1_length cp1_kind cp1_sort c_count_73 c_kind_73 c_first_73 c_second_73 c_parts_73 (upd c_made_4 (v2_73).toNatClampNeg v4_73)) := hD
              refine lv_iinc (v := (v2_73 + (1 : Int32))) (lv' := [(2, .int (v2_73 + (1 : Int32))), (0, .ref b), (1, .ref bp1), (3, .int v3_4), (4, .int v4_73)]) hx hb dX5_keepPlan_95 hl (k := 2) rfl (by rfl) (Nat.le_of_ble_eq_true rfl) rfl (fun ls hl => ?_)
              refine lv_iinc (v := (v3_4 + (1 : Int32))) (lv' := [(3, .int (v3_4 + (1 : Int32))), (2, .int (v2_73 + (1 : Int32))), (0, .ref b), (1, .ref bp1), (4, .int v4_73)]) hx hb dX5_keepPlan_98 hl (k := 3) rfl (by rfl) (Nat.le_of_ble_eq_true rfl) rfl (fun ls hl => ?_)
              refine lv_goto (tgt := 4) hx hb dX5_keepPlan_101 (by decide) ?_
              exact ih4 (v2_73 + (1 : Int32)) (v3_4 + (1 : Int32)) c_count_73 c_kind_73 c_first_73 c_second_73 c_parts_73 (upd c_made_4 (v2_73).toNatClampNeg v4_73) _ _ _ hP hD hS (lv_sub hl [2, 3, 1, 0] rfl) h
            · replace h := zi_f hc81 h
              refine lv_iload hx hb dX5_keepPlan_84 (lv_at hl 4 rfl) ?_
              exact hret (o := (v4_73, c_count_73, c_kind_73, c_first_73, c_second_73, c_parts_73, c_made_4)) h hP hD hS dX5_keepPlan_86
        refine lv_if_ne (tgt := 39) hx hb dX5_keepPlan_21 (by decide) (fun hc21 => ?_) (fun hc21 => ?_)
        · replace h := zi_f hc21 h
          refine lv_iload_n hx hb dX5_keepPlan_39 rfl (lv_at hl 3 rfl) ?_
          refine lv_iconst (v := (2 : Int32)) hx hb dX5_keepPlan_40 (by decide) ?_
          refine lv_icmp_lt (tgt := 73) hx hb dX5_keepPlan_41 (by decide) (fun hc41 => ?_) (fun hc41 => ?_)
          · replace h := zi_t hc41 h
            exact hJ73 v2_4 (-1 : Int32) c_count_4 c_kind_4 c_first_4 c_second_4 c_parts_4 _ _ _ hP hD hS (lv_sub hl [1, 2, 3, 4, 0] rfl) h
          · replace h := zi_f hc41 h
            refine lv_iinc (v := (v2_4 + (-2 : Int32))) (lv' := [(2, .int (v2_4 + (-2 : Int32))), (4, .int (-1 : Int32)), (0, .ref b), (1, .ref bp1), (3, .int v3_4)]) hx hb dX5_keepPlan_44 hl (k := 3) rfl (by rw [show (Int32.ofInt (-2)) = (-2 : Int32) from by decide]) (Nat.le_of_ble_eq_true rfl) rfl (fun ls hl => ?_)
            refine lv_aload_n hx hb dX5_keepPlan_47 rfl (lv_at hl 2 rfl) ?_
            refine lv_aload_n hx hb dX5_keepPlan_48 rfl (lv_at hl 3 rfl) ?_
            refine va_get (D := D) (ci := 6) (v := .ref bp1_kind) (C := RX6) (T := TX6) (N := 4) hx hb hts uX5_keepPlan_X6 hown hK.1 hP 0 rfl rfl 0 (by decide) (hts (.fieldLink RX5 57 "WishedResistor$Plan" "kind" "[I") (List.mem_of_getElem? (i := 2) rfl)) (fun _ h9 => h9) rfl dX5_keepPlan_49 ?_
            refine lv_iload_n hx hb dX5_keepPlan_52 rfl (lv_at hl 4 rfl) ?_
            obtain ⟨hi53, h⟩ := zg_s h
            refine va_iald hx hb hK.1 hP 1 0 rfl rfl hi53 dX5_keepPlan_53 ?_
            refine lv_aload_n hx hb dX5_keepPlan_54 rfl (lv_at hl 2 rfl) ?_
            refine va_get (D := D) (ci := 5) (v := .ref b_made) (C := RX5) (T := TX5) (N := 9) hx hb hts uX5_keepPlan_X5 hown hK.1 hP 3 rfl rfl 8 (by decide) (hts (.fieldLink RX5 33 "WishedResistor$Nets" "made" "[I") (List.mem_of_getElem? (i := 4) rfl)) (fun _ h9 => h9) rfl dX5_keepPlan_55 ?_
            refine lv_iload_n hx hb dX5_keepPlan_58 rfl (lv_at hl 0 rfl) ?_
            obtain ⟨hi59, h⟩ := zg_s h
            refine va_iald hx hb hK.1 hP 8 0 rfl rfl hi59 dX5_keepPlan_59 ?_
            refine lv_aload_n hx hb dX5_keepPlan_60 rfl (lv_at hl 2 rfl) ?_
            refine va_get (D := D) (ci := 5) (v := .ref b_made) (C := RX5) (T := TX5) (N := 9) hx hb hts uX5_keepPlan_X5 hown hK.1 hP 3 rfl rfl 8 (by decide) (hts (.fieldLink RX5 33 "WishedResistor$Nets" "made" "[I") (List.mem_of_getElem? (i := 4) rfl)) (fun _ h9 => h9) rfl dX5_keepPlan_61 ?_
            refine lv_iload_n hx hb dX5_keepPlan_64 rfl (lv_at hl 0 rfl) ?_
            refine lv_iconst (v := (1 : Int32)) hx hb dX5_keepPlan_65 (by decide) ?_
            refine lv_iadd hx hb dX5_keepPlan_66 ?_
            obtain ⟨hi67, h⟩ := zg_s h
            refine va_iald hx hb hK.1 hP 8 0 rfl rfl hi67 dX5_keepPlan_67 ?_
            obtain ⟨r68, c_count_r68, c_parts_r68, c_kind_r68, c_first_r68, c_second_r68, hq68, h⟩ := zb6_s h
            refine zCi (r0 := r68) (w1 := (wdX5_keepJoin cy b b_kind b_first b_second b_parts b_likes b_letters b_waiting b_made c_count_r68 c_parts_r68 c_kind_r68 c_first_r68 c_second_r68)) (ws' := (wdX5_keepPlan cy bp1 bp1_kind bp1_sort bp1_waiting b b_kind b_first b_second b_parts b_likes b_letters b_waiting b_made cp1_length cp1_kind cp1_sort c_count_r68 c_kind_r68 c_first_r68 c_second_r68 c_parts_r68 c_made_4)) (va_runV (As := [.int (cp1_kind (v3_4).toNatClampNeg), .int (c_made_4 ((v2_4 + (-2 : Int32))).toNatClampNeg), .int (c_made_4 (((v2_4 + (-2 : Int32)) + (1 : Int32))).toNatClampNeg)]) (rest := []) ⟨hx, hb, hml, hown, hts⟩ (mX5_keepJoin l D cy H.size b b_kind b_first b_second b_parts b_likes b_letters b_waiting b_made c_count_4 c_parts_4 c_kind_4 c_first_4 c_second_4 (cp1_kind (v3_4).toNatClampNeg) (c_made_4 ((v2_4 + (-2 : Int32))).toNatClampNeg) (c_made_4 (((v2_4 + (-2 : Int32)) + (1 : Int32))).toNatClampNeg) (r68, c_count_r68, c_parts_r68, c_kind_r68, c_first_r68, c_second_r68) hq68) (cwV 3 hts gX5_keepPlan_X5_keepJoin rfl rfl rfl ⟨rfl, cdX5_keepJoin⟩ ⟨Nat.le_of_ble_eq_true rfl, Nat.le_of_ble_eq_true rfl⟩) (zPV hK hP hD [3, 7, 4, 5, 6] rfl rfl (q0 := 3) (ci := 5) rfl rfl rfl) rfl rfl hl.1 rfl (lv_room (Nat.le_of_ble_eq_true rfl)) dX5_keepPlan_68 ⟨Nat.zero_le _, Nat.zero_le _⟩) hP hD hS hA [3, 7, 4, 5, 6] [0, 1, 2, 8] [0, 1, 2, 4, 6, 7, 8, 5, 3] rfl rfl rfl rfl (fun H locs hP hD hS => ?_)
            refine lv_istore (lv' := [(4, .int r68), (2, .int (v2_4 + (-2 : Int32))), (0, .ref b), (1, .ref bp1), (3, .int v3_4)]) hx hb dX5_keepPlan_71 hl (Nat.le_of_ble_eq_true rfl) rfl (fun ls hl => ?_)
            exact hJ73 (v2_4 + (-2 : Int32)) r68 c_count_r68 c_kind_r68 c_first_r68 c_second_r68 c_parts_r68 _ _ _ hP hD hS (lv_sub hl [2, 3, 1, 4, 0] rfl) h
        · replace h := zi_t hc21 h
          refine lv_aload_n hx hb dX5_keepPlan_24 rfl (lv_at hl 1 rfl) ?_
          refine lv_aload_n hx hb dX5_keepPlan_25 rfl (lv_at hl 2 rfl) ?_
          refine va_get (D := D) (ci := 6) (v := .ref bp1_sort) (C := RX6) (T := TX6) (N := 4) hx hb hts uX5_keepPlan_X6 hown hK.1 hP 0 rfl rfl 1 (by decide) (hts (.fieldLink RX5 58 "WishedResistor$Plan" "sort" "[I") (List.mem_of_getElem? (i := 3) rfl)) (fun _ h9 => h9) rfl dX5_keepPlan_26 ?_
          refine lv_iload_n hx hb dX5_keepPlan_29 rfl (lv_at hl 4 rfl) ?_
          obtain ⟨hi30, h⟩ := zg_s h
          refine va_iald hx hb hK.1 hP 2 0 rfl rfl hi30 dX5_keepPlan_30 ?_
          obtain ⟨r31, c_count_r31, c_kind_r31, c_first_r31, c_second_r31, c_parts_r31, hq31, h⟩ := zb6_s h
          refine zCi (r0 := r31) (w1 := (wdX5_keepPart cy b b_kind b_first b_second b_parts b_likes b_letters b_waiting b_made c_count_r31 c_kind_r31 c_first_r31 c_second_r31 c_parts_r31)) (ws' := (wdX5_keepPlan cy bp1 bp1_kind bp1_sort bp1_waiting b b_kind b_first b_second b_parts b_likes b_letters b_waiting b_made cp1_length cp1_kind cp1_sort c_count_r31 c_kind_r31 c_first_r31 c_second_r31 c_parts_r31 c_made_4)) (va_runV (As := [.int (cp1_sort (v3_4).toNatClampNeg)]) (rest := []) ⟨hx, hb, hml, hown, hts⟩ (mX5_keepPart l D cy H.size b b_kind b_first b_second b_parts b_likes b_letters b_waiting b_made c_count_4 c_kind_4 c_first_4 c_second_4 c_parts_4 (cp1_sort (v3_4).toNatClampNeg) (r31, c_count_r31, c_kind_r31, c_first_r31, c_second_r31, c_parts_r31) hq31) (cwV 1 hts gX5_keepPlan_X5_keepPart rfl rfl rfl ⟨rfl, cdX5_keepPart⟩ ⟨Nat.le_of_ble_eq_true rfl, Nat.le_of_ble_eq_true rfl⟩) (zPV hK hP hD [3, 4, 5, 6, 7] rfl rfl (q0 := 3) (ci := 5) rfl rfl rfl) rfl rfl hl.1 rfl (lv_room (Nat.le_of_ble_eq_true rfl)) dX5_keepPlan_31 ⟨Nat.zero_le _, Nat.zero_le _⟩) hP hD hS hA [3, 4, 5, 6, 7] [0, 1, 2, 8] [0, 1, 2, 4, 5, 6, 7, 8, 3] rfl rfl rfl rfl (fun H locs hP hD hS => ?_)
          refine lv_istore (lv' := [(4, .int r31), (0, .ref b), (1, .ref bp1), (2, .int v2_4), (3, .int v3_4)]) hx hb dX5_keepPlan_34 hl (Nat.le_of_ble_eq_true rfl) rfl (fun ls hl => ?_)
          refine lv_goto (tgt := 73) hx hb dX5_keepPlan_36 (by decide) ?_
          exact hJ73 v2_4 r31 c_count_r31 c_kind_r31 c_first_r31 c_second_r31 c_parts_r31 _ _ _ hP hD hS (lv_sub hl [1, 2, 3, 4, 0] rfl) h
  exact hL4 5000 (0 : Int32) (0 : Int32) c_count c_kind c_first c_second c_parts c_made _ _ _ hP hD hS (lv_sub hl [2, 3, 1, 0] rfl) h

theorem uX5_usersOf_X5 : ∀ w ∈ u_ws RX5 TX5 9, w ∈ wsX5_usersOf := fun w h => (List.mem_cons_of_mem _ (List.mem_append_right _ h))
abbrev wdX5_usersOf (cy : Nat → ClassId) (b b_kind b_first b_second b_parts b_likes b_letters b_waiting b_made : Nat) (c_count : Int32) (c_kind c_first c_second : Nat → Int32) : va_W := [(b, .inr (5, [.ref b_kind, .ref b_first, .ref b_second, .ref b_parts, .int c_count, .ref b_likes, .ref b_letters, .ref b_waiting, .ref b_made])), (b_kind, .inl (cy 0, 40, .inl c_kind)), (b_first, .inl (cy 0, 40, .inl c_first)), (b_second, .inl (cy 0, 40, .inl c_second))]
abbrev rmX5_usersOf : Room := { frames := 0, cells := 0, slots := 0, locals := 0 }
theorem cdX5_usersOf : (yX5_usersOf).cls ≠ "java/lang/invoke/MethodHandle" ∧ (yX5_usersOf).cls ≠ "java/lang/invoke/VarHandle" ∧ (parseMethodDescriptor (yX5_usersOf).desc).map (fun d => d.parameters.length) = some 1 := by decide +kernel
def fX5_usersOf_L4 (c_count : Int32) (c_kind c_first c_second : Nat → Int32) (p1 : Int32) : Nat → Int32 → Int32 → Option (Int32) :=
  zl2 (fun rec4 v2_4 v3_4 => if c_count ≤ v3_4 then (some (v2_4)) else (zg (zin v3_4 40) (if (c_kind (v3_4).toNatClampNeg) = 0 then (rec4 v2_4 (v3_4 + (1 : Int32))) else (zg (zin v3_4 40) (if (c_first (v3_4).toNatClampNeg) = p1 then (rec4 (v2_4 + (1 : Int32)) (v3_4 + (1 : Int32))) else (zg (zin v3_4 40) (if (c_second (v3_4).toNatClampNeg) = p1 then (rec4 (v2_4 + (1 : Int32)) (v3_4 + (1 : Int32))) else (rec4 v2_4 (v3_4 + (1 : Int32))))))))))
def fX5_usersOf (p1 c_count : Int32) (c_kind c_first c_second : Nat → Int32) : Option (Int32) :=
  fX5_usersOf_L4 c_count c_kind c_first c_second p1 5000 (0 : Int32) (0 : Int32)
set_option maxHeartbeats 4000000 in
set_option maxRecDepth 100000 in
theorem mX5_usersOf (l : Launch) (D : va_G) (cy : Nat → ClassId) (sz : Nat) (b b_kind b_first b_second b_parts b_likes b_letters b_waiting b_made : Nat) (c_count : Int32) (c_kind c_first c_second : Nat → Int32) (p1 : Int32) (res : (Int32)) (h : fX5_usersOf p1 c_count c_kind c_first c_second = some res) : zMi l yX5_usersOf wsX5_usersOf rmX5_usersOf [.ref b, .int p1] D cy (wdX5_usersOf cy b b_kind b_first b_second b_parts b_likes b_letters b_waiting b_made c_count c_kind c_first c_second) sz ((fun (o : (Int32)) => o) res) ((fun (o : (Int32)) => (wdX5_usersOf cy b b_kind b_first b_second b_parts b_likes b_letters b_waiting b_made c_count c_kind c_first c_second)) res) := by
  refine zOfi (res := res) (rf := (fun (o : (Int32)) => o)) (Wf := (fun (o : (Int32)) => (wdX5_usersOf cy b b_kind b_first b_second b_parts b_likes b_letters b_waiting b_made c_count c_kind c_first c_second))) (by decide +kernel) rfl (Nat.le_of_ble_eq_true rfl) ?_
  intro p e s m args below meth c A ls Q hx hb hml hts hown hP hK hD hA hS hl hret
  have hown : s.vm.findClass RX5 = some m.cls := hown
  have hl : lv_has ls 4 [(0, .ref b), (1, .int p1)] := hl
  refine lv_iconst (v := (0 : Int32)) hx hb dX5_usersOf_0 (by decide) ?_
  refine lv_istore_n (lv' := [(2, .int (0 : Int32)), (0, .ref b), (1, .int p1)]) hx hb dX5_usersOf_1 rfl hl (Nat.le_of_ble_eq_true rfl) rfl (fun ls hl => ?_)
  refine lv_iconst (v := (0 : Int32)) hx hb dX5_usersOf_2 (by decide) ?_
  refine lv_istore_n (lv' := [(3, .int (0 : Int32)), (2, .int (0 : Int32)), (0, .ref b), (1, .int p1)]) hx hb dX5_usersOf_3 rfl hl (Nat.le_of_ble_eq_true rfl) rfl (fun ls hl => ?_)
  have hL4 : ∀ n4 : Nat, ∀ (v2_4 v3_4 : Int32) (H : Heap) (locs : List Loc) (ls : Array Slot), va_P D vwCl (wdX5_usersOf cy b b_kind b_first b_second b_parts b_likes b_letters b_waiting b_made c_count c_kind c_first c_second) H → va_D A (wdX5_usersOf cy b b_kind b_first b_second b_parts b_likes b_letters b_waiting b_made c_count c_kind c_first c_second) → va_S A s.heap H locs → lv_has ls 4 [(0, .ref b), (1, .int p1), (2, .int v2_4), (3, .int v3_4)] → fX5_usersOf_L4 c_count c_kind c_first c_second p1 n4 v2_4 v3_4 = some res → W p l e rmX5_usersOf s m args below meth c H locs 0 0 Q (F0 m 4 ls []) := by
    intro n4
    induction n4 with
    | zero =>
      intro v2_4 v3_4 H locs ls hP hD hS hl h
      exact zl2_0 h
    | succ n4 ih4 =>
      intro v2_4 v3_4 H locs ls hP hD hS hl h
      replace h := zl2_s h
      refine lv_iload_n hx hb dX5_usersOf_4 rfl (lv_at hl 3 rfl) ?_
      refine lv_aload_n hx hb dX5_usersOf_5 rfl (lv_at hl 0 rfl) ?_
      refine va_get (D := D) (ci := 5) (v := .int c_count) (C := RX5) (T := TX5) (N := 9) hx hb hts uX5_usersOf_X5 hown hK.1 hP 0 rfl rfl 4 (by decide) (hts (.fieldLink RX5 36 "WishedResistor$Nets" "count" "I") (List.mem_of_getElem? (i := 1) rfl)) (fun _ h9 => h9) rfl dX5_usersOf_6 ?_
      refine lv_icmp_ge (tgt := 50) hx hb dX5_usersOf_9 (by decide) (fun hc9 => ?_) (fun hc9 => ?_)
      · replace h := zi_t hc9 h
        refine lv_iload_n hx hb dX5_usersOf_50 rfl (lv_at hl 2 rfl) ?_
        exact hret (o := (v2_4)) h hP hD hS dX5_usersOf_51
      · replace h := zi_f hc9 h
        refine lv_aload_n hx hb dX5_usersOf_12 rfl (lv_at hl 0 rfl) ?_
        refine va_get (D := D) (ci := 5) (v := .ref b_kind) (C := RX5) (T := TX5) (N := 9) hx hb hts uX5_usersOf_X5 hown hK.1 hP 0 rfl rfl 0 (by decide) (hts (.fieldLink RX5 9 "WishedResistor$Nets" "kind" "[I") (List.mem_of_getElem? (i := 2) rfl)) (fun _ h9 => h9) rfl dX5_usersOf_13 ?_
        refine lv_iload_n hx hb dX5_usersOf_16 rfl (lv_at hl 3 rfl) ?_
        obtain ⟨hi17, h⟩ := zg_s h
        refine va_iald hx hb hK.1 hP 1 0 rfl rfl hi17 dX5_usersOf_17 ?_
        refine lv_if_eq (tgt := 44) hx hb dX5_usersOf_18 (by decide) (fun hc18 => ?_) (fun hc18 => ?_)
        · replace h := zi_t hc18 h
          refine lv_iinc (v := (v3_4 + (1 : Int32))) (lv' := [(3, .int (v3_4 + (1 : Int32))), (0, .ref b), (1, .int p1), (2, .int v2_4)]) hx hb dX5_usersOf_44 hl (k := 3) rfl (by rfl) (Nat.le_of_ble_eq_true rfl) rfl (fun ls hl => ?_)
          refine lv_goto (tgt := 4) hx hb dX5_usersOf_47 (by decide) ?_
          exact ih4 v2_4 (v3_4 + (1 : Int32)) _ _ _ hP hD hS (lv_sub hl [1, 2, 3, 0] rfl) h
        · replace h := zi_f hc18 h
          refine lv_aload_n hx hb dX5_usersOf_21 rfl (lv_at hl 0 rfl) ?_
          refine va_get (D := D) (ci := 5) (v := .ref b_first) (C := RX5) (T := TX5) (N := 9) hx hb hts uX5_usersOf_X5 hown hK.1 hP 0 rfl rfl 1 (by decide) (hts (.fieldLink RX5 15 "WishedResistor$Nets" "first" "[I") (List.mem_of_getElem? (i := 3) rfl)) (fun _ h9 => h9) rfl dX5_usersOf_22 ?_
          refine lv_iload_n hx hb dX5_usersOf_25 rfl (lv_at hl 3 rfl) ?_
          obtain ⟨hi26, h⟩ := zg_s h
          refine va_iald hx hb hK.1 hP 2 0 rfl rfl hi26 dX5_usersOf_26 ?_
          refine lv_iload_n hx hb dX5_usersOf_27 rfl (lv_at hl 1 rfl) ?_
          refine lv_icmp_eq (tgt := 41) hx hb dX5_usersOf_28 (by decide) (fun hc28 => ?_) (fun hc28 => ?_)
          · replace h := zi_t hc28 h
            refine lv_iinc (v := (v2_4 + (1 : Int32))) (lv' := [(2, .int (v2_4 + (1 : Int32))), (0, .ref b), (1, .int p1), (3, .int v3_4)]) hx hb dX5_usersOf_41 hl (k := 2) rfl (by rfl) (Nat.le_of_ble_eq_true rfl) rfl (fun ls hl => ?_)
            refine lv_iinc (v := (v3_4 + (1 : Int32))) (lv' := [(3, .int (v3_4 + (1 : Int32))), (2, .int (v2_4 + (1 : Int32))), (0, .ref b), (1, .int p1)]) hx hb dX5_usersOf_44 hl (k := 3) rfl (by rfl) (Nat.le_of_ble_eq_true rfl) rfl (fun ls hl => ?_)
            refine lv_goto (tgt := 4) hx hb dX5_usersOf_47 (by decide) ?_
            exact ih4 (v2_4 + (1 : Int32)) (v3_4 + (1 : Int32)) _ _ _ hP hD hS (lv_sub hl [2, 3, 1, 0] rfl) h
          · replace h := zi_f hc28 h
            refine lv_aload_n hx hb dX5_usersOf_31 rfl (lv_at hl 0 rfl) ?_
            refine va_get (D := D) (ci := 5) (v := .ref b_second) (C := RX5) (T := TX5) (N := 9) hx hb hts uX5_usersOf_X5 hown hK.1 hP 0 rfl rfl 2 (by decide) (hts (.fieldLink RX5 18 "WishedResistor$Nets" "second" "[I") (List.mem_of_getElem? (i := 4) rfl)) (fun _ h9 => h9) rfl dX5_usersOf_32 ?_
            refine lv_iload_n hx hb dX5_usersOf_35 rfl (lv_at hl 3 rfl) ?_
            obtain ⟨hi36, h⟩ := zg_s h
            refine va_iald hx hb hK.1 hP 3 0 rfl rfl hi36 dX5_usersOf_36 ?_
            refine lv_iload_n hx hb dX5_usersOf_37 rfl (lv_at hl 1 rfl) ?_
            refine lv_icmp_ne (tgt := 44) hx hb dX5_usersOf_38 (by decide) (fun hc38 => ?_) (fun hc38 => ?_)
            · replace h := zi_f hc38 h
              refine lv_iinc (v := (v3_4 + (1 : Int32))) (lv' := [(3, .int (v3_4 + (1 : Int32))), (0, .ref b), (1, .int p1), (2, .int v2_4)]) hx hb dX5_usersOf_44 hl (k := 3) rfl (by rfl) (Nat.le_of_ble_eq_true rfl) rfl (fun ls hl => ?_)
              refine lv_goto (tgt := 4) hx hb dX5_usersOf_47 (by decide) ?_
              exact ih4 v2_4 (v3_4 + (1 : Int32)) _ _ _ hP hD hS (lv_sub hl [1, 2, 3, 0] rfl) h
            · replace h := zi_t hc38 h
              refine lv_iinc (v := (v2_4 + (1 : Int32))) (lv' := [(2, .int (v2_4 + (1 : Int32))), (0, .ref b), (1, .int p1), (3, .int v3_4)]) hx hb dX5_usersOf_41 hl (k := 2) rfl (by rfl) (Nat.le_of_ble_eq_true rfl) rfl (fun ls hl => ?_)
              refine lv_iinc (v := (v3_4 + (1 : Int32))) (lv' := [(3, .int (v3_4 + (1 : Int32))), (2, .int (v2_4 + (1 : Int32))), (0, .ref b), (1, .int p1)]) hx hb dX5_usersOf_44 hl (k := 3) rfl (by rfl) (Nat.le_of_ble_eq_true rfl) rfl (fun ls hl => ?_)
              refine lv_goto (tgt := 4) hx hb dX5_usersOf_47 (by decide) ?_
              exact ih4 (v2_4 + (1 : Int32)) (v3_4 + (1 : Int32)) _ _ _ hP hD hS (lv_sub hl [2, 3, 1, 0] rfl) h
  exact hL4 5000 (0 : Int32) (0 : Int32) _ _ _ hP hD hS (lv_sub hl [2, 3, 1, 0] rfl) h

theorem uX5_isTurn_X5 : ∀ w ∈ u_ws RX5 TX5 9, w ∈ wsX5_isTurn := fun w h => (List.mem_cons_of_mem _ (List.mem_append_right _ h))
abbrev wdX5_isTurn (cy : Nat → ClassId) (b b_kind b_first b_second b_parts b_likes b_letters b_waiting b_made : Nat) (c_count : Int32) (c_kind c_first c_likes c_second : Nat → Int32) : va_W := [(b, .inr (5, [.ref b_kind, .ref b_first, .ref b_second, .ref b_parts, .int c_count, .ref b_likes, .ref b_letters, .ref b_waiting, .ref b_made])), (b_kind, .inl (cy 0, 40, .inl c_kind)), (b_first, .inl (cy 0, 40, .inl c_first)), (b_likes, .inl (cy 0, 40, .inl c_likes)), (b_second, .inl (cy 0, 40, .inl c_second))]
abbrev rmX5_isTurn : Room := { frames := 0, cells := 0, slots := 0, locals := 0 }
theorem cdX5_isTurn : (yX5_isTurn).cls ≠ "java/lang/invoke/MethodHandle" ∧ (yX5_isTurn).cls ≠ "java/lang/invoke/VarHandle" ∧ (parseMethodDescriptor (yX5_isTurn).desc).map (fun d => d.parameters.length) = some 2 := by decide +kernel
def fX5_isTurn_J90 (c_first c_likes c_second : Nat → Int32) (p1 p2 : Int32)  : Option (Int32) :=
  if (c_likes ((c_first (p1).toNatClampNeg)).toNatClampNeg) = (c_likes ((c_second (p2).toNatClampNeg)).toNatClampNeg) then (if (c_likes ((c_second (p1).toNatClampNeg)).toNatClampNeg) = (c_likes ((c_first (p2).toNatClampNeg)).toNatClampNeg) then (some ((1 : Int32))) else (some ((0 : Int32)))) else (some ((0 : Int32)))
def fX5_isTurn (p1 p2 : Int32) (c_kind c_first c_likes c_second : Nat → Int32) : Option (Int32) :=
  zg (zin p1 40) (zg (zin p2 40) (if (c_kind (p1).toNatClampNeg) = (c_kind (p2).toNatClampNeg) then (zg (zin p1 40) (if (c_kind (p1).toNatClampNeg) = 0 then (some ((0 : Int32))) else (zg (zin p1 40) (zg (zin (c_first (p1).toNatClampNeg) 40) (zg (zin p1 40) (zg (zin (c_second (p1).toNatClampNeg) 40) (zg (zin p2 40) (zg (zin (c_first (p2).toNatClampNeg) 40) (zg (zin p2 40) (zg (zin (c_second (p2).toNatClampNeg) 40) (if (c_likes ((c_first (p1).toNatClampNeg)).toNatClampNeg) = (c_likes ((c_first (p2).toNatClampNeg)).toNatClampNeg) then (if (c_likes ((c_second (p1).toNatClampNeg)).toNatClampNeg) = (c_likes ((c_second (p2).toNatClampNeg)).toNatClampNeg) then (some ((1 : Int32))) else (fX5_isTurn_J90 c_first c_likes c_second p1 p2)) else (fX5_isTurn_J90 c_first c_likes c_second p1 p2)))))))))))) else (some ((0 : Int32)))))
set_option maxHeartbeats 4000000 in
set_option maxRecDepth 100000 in
theorem mX5_isTurn (l : Launch) (D : va_G) (cy : Nat → ClassId) (sz : Nat) (b b_kind b_first b_second b_parts b_likes b_letters b_waiting b_made : Nat) (c_count : Int32) (c_kind c_first c_likes c_second : Nat → Int32) (p1 p2 : Int32) (res : (Int32)) (h : fX5_isTurn p1 p2 c_kind c_first c_likes c_second = some res) : zMz l yX5_isTurn wsX5_isTurn rmX5_isTurn [.ref b, .int p1, .int p2] D cy (wdX5_isTurn cy b b_kind b_first b_second b_parts b_likes b_letters b_waiting b_made c_count c_kind c_first c_likes c_second) sz ((fun (o : (Int32)) => o) res) ((fun (o : (Int32)) => (wdX5_isTurn cy b b_kind b_first b_second b_parts b_likes b_letters b_waiting b_made c_count c_kind c_first c_likes c_second)) res) := by
  refine zOfz (res := res) (rf := (fun (o : (Int32)) => o)) (Wf := (fun (o : (Int32)) => (wdX5_isTurn cy b b_kind b_first b_second b_parts b_likes b_letters b_waiting b_made c_count c_kind c_first c_likes c_second))) (by decide +kernel) rfl (Nat.le_of_ble_eq_true rfl) ?_
  intro p e s m args below meth c A ls Q hx hb hml hts hown hP hK hD hA hS hl hret
  have hown : s.vm.findClass RX5 = some m.cls := hown
  have hl : lv_has ls 7 [(0, .ref b), (1, .int p1), (2, .int p2)] := hl
  refine lv_aload_n hx hb dX5_isTurn_0 rfl (lv_at hl 0 rfl) ?_
  refine va_get (D := D) (ci := 5) (v := .ref b_kind) (C := RX5) (T := TX5) (N := 9) hx hb hts uX5_isTurn_X5 hown hK.1 hP 0 rfl rfl 0 (by decide) (hts (.fieldLink RX5 9 "WishedResistor$Nets" "kind" "[I") (List.mem_of_getElem? (i := 1) rfl)) (fun _ h9 => h9) rfl dX5_isTurn_1 ?_
  refine lv_iload_n hx hb dX5_isTurn_4 rfl (lv_at hl 1 rfl) ?_
  obtain ⟨hi5, h⟩ := zg_s h
  refine va_iald hx hb hK.1 hP 1 0 rfl rfl hi5 dX5_isTurn_5 ?_
  refine lv_aload_n hx hb dX5_isTurn_6 rfl (lv_at hl 0 rfl) ?_
  refine va_get (D := D) (ci := 5) (v := .ref b_kind) (C := RX5) (T := TX5) (N := 9) hx hb hts uX5_isTurn_X5 hown hK.1 hP 0 rfl rfl 0 (by decide) (hts (.fieldLink RX5 9 "WishedResistor$Nets" "kind" "[I") (List.mem_of_getElem? (i := 1) rfl)) (fun _ h9 => h9) rfl dX5_isTurn_7 ?_
  refine lv_iload_n hx hb dX5_isTurn_10 rfl (lv_at hl 2 rfl) ?_
  obtain ⟨hi11, h⟩ := zg_s h
  refine va_iald hx hb hK.1 hP 1 0 rfl rfl hi11 dX5_isTurn_11 ?_
  refine lv_icmp_ne (tgt := 24) hx hb dX5_isTurn_12 (by decide) (fun hc12 => ?_) (fun hc12 => ?_)
  · replace h := zi_f hc12 h
    refine lv_iconst (v := (0 : Int32)) hx hb dX5_isTurn_24 (by decide) ?_
    exact hret (o := ((0 : Int32))) h (show narrow .boolean (.int (0 : Int32)) = .int (0 : Int32) from by decide) hP hD hS dX5_isTurn_25
  · replace h := zi_t hc12 h
    refine lv_aload_n hx hb dX5_isTurn_15 rfl (lv_at hl 0 rfl) ?_
    refine va_get (D := D) (ci := 5) (v := .ref b_kind) (C := RX5) (T := TX5) (N := 9) hx hb hts uX5_isTurn_X5 hown hK.1 hP 0 rfl rfl 0 (by decide) (hts (.fieldLink RX5 9 "WishedResistor$Nets" "kind" "[I") (List.mem_of_getElem? (i := 1) rfl)) (fun _ h9 => h9) rfl dX5_isTurn_16 ?_
    refine lv_iload_n hx hb dX5_isTurn_19 rfl (lv_at hl 1 rfl) ?_
    obtain ⟨hi20, h⟩ := zg_s h
    refine va_iald hx hb hK.1 hP 1 0 rfl rfl hi20 dX5_isTurn_20 ?_
    refine lv_if_ne (tgt := 26) hx hb dX5_isTurn_21 (by decide) (fun hc21 => ?_) (fun hc21 => ?_)
    · replace h := zi_f hc21 h
      refine lv_aload_n hx hb dX5_isTurn_26 rfl (lv_at hl 0 rfl) ?_
      refine va_get (D := D) (ci := 5) (v := .ref b_likes) (C := RX5) (T := TX5) (N := 9) hx hb hts uX5_isTurn_X5 hown hK.1 hP 0 rfl rfl 5 (by decide) (hts (.fieldLink RX5 24 "WishedResistor$Nets" "likes" "[I") (List.mem_of_getElem? (i := 2) rfl)) (fun _ h9 => h9) rfl dX5_isTurn_27 ?_
      refine lv_aload_n hx hb dX5_isTurn_30 rfl (lv_at hl 0 rfl) ?_
      refine va_get (D := D) (ci := 5) (v := .ref b_first) (C := RX5) (T := TX5) (N := 9) hx hb hts uX5_isTurn_X5 hown hK.1 hP 0 rfl rfl 1 (by decide) (hts (.fieldLink RX5 15 "WishedResistor$Nets" "first" "[I") (List.mem_of_getElem? (i := 3) rfl)) (fun _ h9 => h9) rfl dX5_isTurn_31 ?_
      refine lv_iload_n hx hb dX5_isTurn_34 rfl (lv_at hl 1 rfl) ?_
      obtain ⟨hi35, h⟩ := zg_s h
      refine va_iald hx hb hK.1 hP 2 0 rfl rfl hi35 dX5_isTurn_35 ?_
      obtain ⟨hi36, h⟩ := zg_s h
      refine va_iald hx hb hK.1 hP 3 0 rfl rfl hi36 dX5_isTurn_36 ?_
      refine lv_istore_n (lv' := [(3, .int (c_likes ((c_first (p1).toNatClampNeg)).toNatClampNeg)), (0, .ref b), (1, .int p1), (2, .int p2)]) hx hb dX5_isTurn_37 rfl hl (Nat.le_of_ble_eq_true rfl) rfl (fun ls hl => ?_)
      refine lv_aload_n hx hb dX5_isTurn_38 rfl (lv_at hl 1 rfl) ?_
      refine va_get (D := D) (ci := 5) (v := .ref b_likes) (C := RX5) (T := TX5) (N := 9) hx hb hts uX5_isTurn_X5 hown hK.1 hP 0 rfl rfl 5 (by decide) (hts (.fieldLink RX5 24 "WishedResistor$Nets" "likes" "[I") (List.mem_of_getElem? (i := 2) rfl)) (fun _ h9 => h9) rfl dX5_isTurn_39 ?_
      refine lv_aload_n hx hb dX5_isTurn_42 rfl (lv_at hl 1 rfl) ?_
      refine va_get (D := D) (ci := 5) (v := .ref b_second) (C := RX5) (T := TX5) (N := 9) hx hb hts uX5_isTurn_X5 hown hK.1 hP 0 rfl rfl 2 (by decide) (hts (.fieldLink RX5 18 "WishedResistor$Nets" "second" "[I") (List.mem_of_getElem? (i := 4) rfl)) (fun _ h9 => h9) rfl dX5_isTurn_43 ?_
      refine lv_iload_n hx hb dX5_isTurn_46 rfl (lv_at hl 2 rfl) ?_
      obtain ⟨hi47, h⟩ := zg_s h
      refine va_iald hx hb hK.1 hP 4 0 rfl rfl hi47 dX5_isTurn_47 ?_
      obtain ⟨hi48, h⟩ := zg_s h
      refine va_iald hx hb hK.1 hP 3 0 rfl rfl hi48 dX5_isTurn_48 ?_
      refine lv_istore (lv' := [(4, .int (c_likes ((c_second (p1).toNatClampNeg)).toNatClampNeg)), (3, .int (c_likes ((c_first (p1).toNatClampNeg)).toNatClampNeg)), (0, .ref b), (1, .int p1), (2, .int p2)]) hx hb dX5_isTurn_49 hl (Nat.le_of_ble_eq_true rfl) rfl (fun ls hl => ?_)
      refine lv_aload_n hx hb dX5_isTurn_51 rfl (lv_at hl 2 rfl) ?_
      refine va_get (D := D) (ci := 5) (v := .ref b_likes) (C := RX5) (T := TX5) (N := 9) hx hb hts uX5_isTurn_X5 hown hK.1 hP 0 rfl rfl 5 (by decide) (hts (.fieldLink RX5 24 "WishedResistor$Nets" "likes" "[I") (List.mem_of_getElem? (i := 2) rfl)) (fun _ h9 => h9) rfl dX5_isTurn_52 ?_
      refine lv_aload_n hx hb dX5_isTurn_55 rfl (lv_at hl 2 rfl) ?_
      refine va_get (D := D) (ci := 5) (v := .ref b_first) (C := RX5) (T := TX5) (N := 9) hx hb hts uX5_isTurn_X5 hown hK.1 hP 0 rfl rfl 1 (by decide) (hts (.fieldLink RX5 15 "WishedResistor$Nets" "first" "[I") (List.mem_of_getElem? (i := 3) rfl)) (fun _ h9 => h9) rfl dX5_isTurn_56 ?_
      refine lv_iload_n hx hb dX5_isTurn_59 rfl (lv_at hl 4 rfl) ?_
      obtain ⟨hi60, h⟩ := zg_s h
      refine va_iald hx hb hK.1 hP 2 0 rfl rfl hi60 dX5_isTurn_60 ?_
      obtain ⟨hi61, h⟩ := zg_s h
      refine va_iald hx hb hK.1 hP 3 0 rfl rfl hi61 dX5_isTurn_61 ?_
      refine lv_istore (lv' := [(5, .int (c_likes ((c_first (p2).toNatClampNeg)).toNatClampNeg)), (4, .int (c_likes ((c_second (p1).toNatClampNeg)).toNatClampNeg)), (3, .int (c_likes ((c_first (p1).toNatClampNeg)).toNatClampNeg)), (0, .ref b), (1, .int p1), (2, .int p2)]) hx hb dX5_isTurn_62 hl (Nat.le_of_ble_eq_true rfl) rfl (fun ls hl => ?_)
      refine lv_aload_n hx hb dX5_isTurn_64 rfl (lv_at hl 3 rfl) ?_
      refine va_get (D := D) (ci := 5) (v := .ref b_likes) (C := RX5) (T := TX5) (N := 9) hx hb hts uX5_isTurn_X5 hown hK.1 hP 0 rfl rfl 5 (by decide) (hts (.fieldLink RX5 24 "WishedResistor$Nets" "likes" "[I") (List.mem_of_getElem? (i := 2) rfl)) (fun _ h9 => h9) rfl dX5_isTurn_65 ?_
      refine lv_aload_n hx hb dX5_isTurn_68 rfl (lv_at hl 3 rfl) ?_
      refine va_get (D := D) (ci := 5) (v := .ref b_second) (C := RX5) (T := TX5) (N := 9) hx hb hts uX5_isTurn_X5 hown hK.1 hP 0 rfl rfl 2 (by decide) (hts (.fieldLink RX5 18 "WishedResistor$Nets" "second" "[I") (List.mem_of_getElem? (i := 4) rfl)) (fun _ h9 => h9) rfl dX5_isTurn_69 ?_
      refine lv_iload_n hx hb dX5_isTurn_72 rfl (lv_at hl 5 rfl) ?_
      obtain ⟨hi73, h⟩ := zg_s h
      refine va_iald hx hb hK.1 hP 4 0 rfl rfl hi73 dX5_isTurn_73 ?_
      obtain ⟨hi74, h⟩ := zg_s h
      refine va_iald hx hb hK.1 hP 3 0 rfl rfl hi74 dX5_isTurn_74 ?_
      refine lv_istore (lv' := [(6, .int (c_likes ((c_second (p2).toNatClampNeg)).toNatClampNeg)), (5, .int (c_likes ((c_first (p2).toNatClampNeg)).toNatClampNeg)), (4, .int (c_likes ((c_second (p1).toNatClampNeg)).toNatClampNeg)), (3, .int (c_likes ((c_first (p1).toNatClampNeg)).toNatClampNeg)), (0, .ref b), (1, .int p1), (2, .int p2)]) hx hb dX5_isTurn_75 hl (Nat.le_of_ble_eq_true rfl) rfl (fun ls hl => ?_)
      refine lv_iload_n hx hb dX5_isTurn_77 rfl (lv_at hl 3 rfl) ?_
      refine lv_iload hx hb dX5_isTurn_78 (lv_at hl 1 rfl) ?_
      have hJ90 : ∀  (H : Heap) (locs : List Loc) (ls : Array Slot), va_P D vwCl (wdX5_isTurn cy b b_kind b_first b_second b_parts b_likes b_letters b_waiting b_made c_count c_kind c_first c_likes c_second) H → va_D A (wdX5_isTurn cy b b_kind b_first b_second b_parts b_likes b_letters b_waiting b_made c_count c_kind c_first c_likes c_second) → va_S A s.heap H locs → lv_has ls 7 [(3, .int (c_likes ((c_first (p1).toNatClampNeg)).toNatClampNeg)), (4, .int (c_likes ((c_second (p1).toNatClampNeg)).toNatClampNeg)), (5, .int (c_likes ((c_first (p2).toNatClampNeg)).toNatClampNeg)), (6, .int (c_likes ((c_second (p2).toNatClampNeg)).toNatClampNeg))] → fX5_isTurn_J90 c_first c_likes c_second p1 p2 = some res → W p l e rmX5_isTurn s m args below meth c H locs 0 0 Q (F0 m 90 ls []) := by
        intro  H locs ls hP hD hS hl h
        refine lv_iload_n hx hb dX5_isTurn_90 rfl (lv_at hl 0 rfl) ?_
        refine lv_iload hx hb dX5_isTurn_91 (lv_at hl 3 rfl) ?_
        refine lv_icmp_ne (tgt := 107) hx hb dX5_isTurn_93 (by decide) (fun hc93 => ?_) (fun hc93 => ?_)
        · replace h := zi_f hc93 h
          refine lv_iconst (v := (0 : Int32)) hx hb dX5_isTurn_107 (by decide) ?_
          exact hret (o := ((0 : Int32))) h (show narrow .boolean (.int (0 : Int32)) = .int (0 : Int32) from by decide) hP hD hS dX5_isTurn_108
        · replace h := zi_t hc93 h
          refine lv_iload hx hb dX5_isTurn_96 (lv_at hl 1 rfl) ?_
          refine lv_iload hx hb dX5_isTurn_98 (lv_at hl 2 rfl) ?_
          refine lv_icmp_ne (tgt := 107) hx hb dX5_isTurn_100 (by decide) (fun hc100 => ?_) (fun hc100 => ?_)
          · replace h := zi_f hc100 h
            refine lv_iconst (v := (0 : Int32)) hx hb dX5_isTurn_107 (by decide) ?_
            exact hret (o := ((0 : Int32))) h (show narrow .boolean (.int (0 : Int32)) = .int (0 : Int32) from by decide) hP hD hS dX5_isTurn_108
          · replace h := zi_t hc100 h
            refine lv_iconst (v := (1 : Int32)) hx hb dX5_isTurn_103 (by decide) ?_
            refine lv_goto (tgt := 108) hx hb dX5_isTurn_104 (by decide) ?_
            exact hret (o := ((1 : Int32))) h (show narrow .boolean (.int (1 : Int32)) = .int (1 : Int32) from by decide) hP hD hS dX5_isTurn_108
      refine lv_icmp_ne (tgt := 90) hx hb dX5_isTurn_80 (by decide) (fun hc80 => ?_) (fun hc80 => ?_)
      · replace h := zi_f hc80 h
        exact hJ90 _ _ _ hP hD hS (lv_sub hl [3, 2, 1, 0] rfl) h
      · replace h := zi_t hc80 h
        refine lv_iload hx hb dX5_isTurn_83 (lv_at hl 2 rfl) ?_
        refine lv_iload hx hb dX5_isTurn_85 (lv_at hl 0 rfl) ?_
        refine lv_icmp_eq (tgt := 103) hx hb dX5_isTurn_87 (by decide) (fun hc87 => ?_) (fun hc87 => ?_)
        · replace h := zi_t hc87 h
          refine lv_iconst (v := (1 : Int32)) hx hb dX5_isTurn_103 (by decide) ?_
          refine lv_goto (tgt := 108) hx hb dX5_isTurn_104 (by decide) ?_
          exact hret (o := ((1 : Int32))) h (show narrow .boolean (.int (1 : Int32)) = .int (1 : Int32) from by decide) hP hD hS dX5_isTurn_108
        · replace h := zi_f hc87 h
          exact hJ90 _ _ _ hP hD hS (lv_sub hl [3, 2, 1, 0] rfl) h
    · replace h := zi_t hc21 h
      refine lv_iconst (v := (0 : Int32)) hx hb dX5_isTurn_24 (by decide) ?_
      exact hret (o := ((0 : Int32))) h (show narrow .boolean (.int (0 : Int32)) = .int (0 : Int32) from by decide) hP hD hS dX5_isTurn_25

theorem uX5_areTurned_X5 : ∀ w ∈ u_ws RX5 TX5 9, w ∈ wsX5_areTurned := fun w h => (List.mem_cons_of_mem _ (List.mem_append_right _ h))
abbrev wdX5_areTurned (cy : Nat → ClassId) (b b_kind b_first b_second b_parts b_likes b_letters b_waiting b_made : Nat) (c_count : Int32) (c_kind c_first c_likes c_second : Nat → Int32) : va_W := [(b, .inr (5, [.ref b_kind, .ref b_first, .ref b_second, .ref b_parts, .int c_count, .ref b_likes, .ref b_letters, .ref b_waiting, .ref b_made])), (b_kind, .inl (cy 0, 40, .inl c_kind)), (b_first, .inl (cy 0, 40, .inl c_first)), (b_likes, .inl (cy 0, 40, .inl c_likes)), (b_second, .inl (cy 0, 40, .inl c_second))]
abbrev rmX5_areTurned : Room := { frames := 1, cells := 0, slots := 0, locals := 26 }
theorem cdX5_areTurned : (yX5_areTurned).cls ≠ "java/lang/invoke/MethodHandle" ∧ (yX5_areTurned).cls ≠ "java/lang/invoke/VarHandle" ∧ (parseMethodDescriptor (yX5_areTurned).desc).map (fun d => d.parameters.length) = some 2 := by decide +kernel
def fX5_areTurned_J67 (p1 p2 : Int32) (c_likes_67 : Nat → Int32) : Option (Int32 × (Nat → Int32)) :=
  zg (zin p1 40) (zg (zin p2 40) (if (c_likes_67 (p1).toNatClampNeg) = (c_likes_67 (p2).toNatClampNeg) then (some ((1 : Int32), c_likes_67)) else (some ((0 : Int32), c_likes_67))))
def fX5_areTurned_J53 (v3_2 : Int32) (c_likes_2 : Nat → Int32) (rec2 : Int32 → (Nat → Int32) → Option (Int32 × (Nat → Int32))) (v4_53 : Int32) : Option (Int32 × (Nat → Int32)) :=
  zg (zin v3_2 40) (rec2 (v3_2 + (1 : Int32)) (upd c_likes_2 (v3_2).toNatClampNeg v4_53))
def fX5_areTurned_L16 (k53_16 : Int32 → Option (Int32 × (Nat → Int32))) (c_kind c_first c_second : Nat → Int32) (v3_2 : Int32) (c_likes_2 : Nat → Int32) : Nat → Int32 → Int32 → Option (Int32 × (Nat → Int32)) :=
  zl2 (fun rec16 v4_16 v5_16 => if v3_2 ≤ v5_16 then (k53_16 v4_16) else (if v4_16 = v3_2 then (zb1 (fX5_isTurn v5_16 v3_2 c_kind c_first c_likes_2 c_second) (fun r32 => if r32 = 0 then (rec16 v4_16 (v5_16 + (1 : Int32))) else (zg (zin v5_16 40) (rec16 (c_likes_2 (v5_16).toNatClampNeg) (v5_16 + (1 : Int32)))))) else (k53_16 v4_16)))
def fX5_areTurned_L2 (k67_2 : (Nat → Int32) → Option (Int32 × (Nat → Int32))) (c_count : Int32) (c_kind c_first c_second : Nat → Int32) : Nat → Int32 → (Nat → Int32) → Option (Int32 × (Nat → Int32)) :=
  zl2 (fun rec2 v3_2 c_likes_2 => if c_count ≤ v3_2 then (k67_2 c_likes_2) else (fX5_areTurned_L16 (fX5_areTurned_J53 v3_2 c_likes_2 rec2) c_kind c_first c_second v3_2 c_likes_2 5000 v3_2 (0 : Int32)))
def fX5_areTurned (p1 p2 c_count : Int32) (c_kind c_first c_likes c_second : Nat → Int32) : Option (Int32 × (Nat → Int32)) :=
  fX5_areTurned_L2 (fX5_areTurned_J67 p1 p2) c_count c_kind c_first c_second 5000 (0 : Int32) c_likes
set_option maxHeartbeats 4000000 in
set_option maxRecDepth 100000 in
theorem mX5_areTurned (l : Launch) (D : va_G) (cy : Nat → ClassId) (sz : Nat) (b b_kind b_first b_second b_parts b_likes b_letters b_waiting b_made : Nat) (c_count : Int32) (c_kind c_first c_likes c_second : Nat → Int32) (p1 p2 : Int32) (res : (Int32 × (Nat → Int32))) (h : fX5_areTurned p1 p2 c_count c_kind c_first c_likes c_second = some res) : zMz l yX5_areTurned wsX5_areTurned rmX5_areTurned [.ref b, .int p1, .int p2] D cy (wdX5_areTurned cy b b_kind b_first b_second b_parts b_likes b_letters b_waiting b_made c_count c_kind c_first c_likes c_second) sz ((fun (o : (Int32 × (Nat → Int32))) => o.1) res) ((fun (o : (Int32 × (Nat → Int32))) => (wdX5_areTurned cy b b_kind b_first b_second b_parts b_likes b_letters b_waiting b_made c_count c_kind c_first (o.2) c_second)) res) := by
  refine zOfz (res := res) (rf := (fun (o : (Int32 × (Nat → Int32))) => o.1)) (Wf := (fun (o : (Int32 × (Nat → Int32))) => (wdX5_areTurned cy b b_kind b_first b_second b_parts b_likes b_letters b_waiting b_made c_count c_kind c_first (o.2) c_second))) (by decide +kernel) rfl (Nat.le_of_ble_eq_true rfl) ?_
  intro p e s m args below meth c A ls Q hx hb hml hts hown hP hK hD hA hS hl hret
  have hown : s.vm.findClass RX5 = some m.cls := hown
  have hl : lv_has ls 6 [(0, .ref b), (1, .int p1), (2, .int p2)] := hl
  refine lv_iconst (v := (0 : Int32)) hx hb dX5_areTurned_0 (by decide) ?_
  refine lv_istore_n (lv' := [(3, .int (0 : Int32)), (0, .ref b), (1, .int p1), (2, .int p2)]) hx hb dX5_areTurned_1 rfl hl (Nat.le_of_ble_eq_true rfl) rfl (fun ls hl => ?_)
  have hJ67 : ∀ (c_likes_67 : Nat → Int32) (H : Heap) (locs : List Loc) (ls : Array Slot), va_P D vwCl (wdX5_areTurned cy b b_kind b_first b_second b_parts b_likes b_letters b_waiting b_made c_count c_kind c_first c_likes_67 c_second) H → va_D A (wdX5_areTurned cy b b_kind b_first b_second b_parts b_likes b_letters b_waiting b_made c_count c_kind c_first c_likes_67 c_second) → va_S A s.heap H locs → lv_has ls 6 [(0, .ref b), (1, .int p1), (2, .int p2)] → fX5_areTurned_J67 p1 p2 c_likes_67 = some res → W p l e rmX5_areTurned s m args below meth c H locs 0 0 Q (F0 m 67 ls []) := by
    intro c_likes_67 H locs ls hP hD hS hl h
    refine lv_aload_n hx hb dX5_areTurned_67 rfl (lv_at hl 0 rfl) ?_
    refine va_get (D := D) (ci := 5) (v := .ref b_likes) (C := RX5) (T := TX5) (N := 9) hx hb hts uX5_areTurned_X5 hown hK.1 hP 0 rfl rfl 5 (by decide) (hts (.fieldLink RX5 24 "WishedResistor$Nets" "likes" "[I") (List.mem_of_getElem? (i := 2) rfl)) (fun _ h9 => h9) rfl dX5_areTurned_68 ?_
    refine lv_iload_n hx hb dX5_areTurned_71 rfl (lv_at hl 1 rfl) ?_
    obtain ⟨hi72, h⟩ := zg_s h
    refine va_iald hx hb hK.1 hP 3 0 rfl rfl hi72 dX5_areTurned_72 ?_
    refine lv_aload_n hx hb dX5_areTurned_73 rfl (lv_at hl 0 rfl) ?_
    refine va_get (D := D) (ci := 5) (v := .ref b_likes) (C := RX5) (T := TX5) (N := 9) hx hb hts uX5_areTurned_X5 hown hK.1 hP 0 rfl rfl 5 (by decide) (hts (.fieldLink RX5 24 "WishedResistor$Nets" "likes" "[I") (List.mem_of_getElem? (i := 2) rfl)) (fun _ h9 => h9) rfl dX5_areTurned_74 ?_
    refine lv_iload_n hx hb dX5_areTurned_77 rfl (lv_at hl 2 rfl) ?_
    obtain ⟨hi78, h⟩ := zg_s h
    refine va_iald hx hb hK.1 hP 3 0 rfl rfl hi78 dX5_areTurned_78 ?_
    refine lv_icmp_ne (tgt := 86) hx hb dX5_areTurned_79 (by decide) (fun hc79 => ?_) (fun hc79 => ?_)
    · replace h := zi_f hc79 h
      refine lv_iconst (v := (0 : Int32)) hx hb dX5_areTurned_86 (by decide) ?_
      exact hret (o := ((0 : Int32), c_likes_67)) h (show narrow .boolean (.int (0 : Int32)) = .int (0 : Int32) from by decide) hP hD hS dX5_areTurned_87
    · replace h := zi_t hc79 h
      refine lv_iconst (v := (1 : Int32)) hx hb dX5_areTurned_82 (by decide) ?_
      refine lv_goto (tgt := 87) hx hb dX5_areTurned_83 (by decide) ?_
      exact hret (o := ((1 : Int32), c_likes_67)) h (show narrow .boolean (.int (1 : Int32)) = .int (1 : Int32) from by decide) hP hD hS dX5_areTurned_87
  have hL2 : ∀ n2 : Nat, ∀ (v3_2 : Int32) (c_likes_2 : Nat → Int32) (H : Heap) (locs : List Loc) (ls : Array Slot), va_P D vwCl (wdX5_areTurned cy b b_kind b_first b_second b_parts b_likes b_letters b_waiting b_made c_count c_kind c_first c_likes_2 c_second) H → va_D A (wdX5_areTurned cy b b_kind b_first b_second b_parts b_likes b_letters b_waiting b_made c_count c_kind c_first c_likes_2 c_second) → va_S A s.heap H locs → lv_has ls 6 [(0, .ref b), (1, .int p1), (2, .int p2), (3, .int v3_2)] → fX5_areTurned_L2 (fX5_areTurned_J67 p1 p2) c_count c_kind c_first c_second n2 v3_2 c_likes_2 = some res → W p l e rmX5_areTurned s m args below meth c H locs 0 0 Q (F0 m 2 ls []) := by
    intro n2
    induction n2 with
    | zero =>
      intro v3_2 c_likes_2 H locs ls hP hD hS hl h
      exact zl2_0 h
    | succ n2 ih2 =>
      intro v3_2 c_likes_2 H locs ls hP hD hS hl h
      replace h := zl2_s h
      refine lv_iload_n hx hb dX5_areTurned_2 rfl (lv_at hl 3 rfl) ?_
      refine lv_aload_n hx hb dX5_areTurned_3 rfl (lv_at hl 0 rfl) ?_
      refine va_get (D := D) (ci := 5) (v := .int c_count) (C := RX5) (T := TX5) (N := 9) hx hb hts uX5_areTurned_X5 hown hK.1 hP 0 rfl rfl 4 (by decide) (hts (.fieldLink RX5 36 "WishedResistor$Nets" "count" "I") (List.mem_of_getElem? (i := 1) rfl)) (fun _ h9 => h9) rfl dX5_areTurned_4 ?_
      refine lv_icmp_ge (tgt := 67) hx hb dX5_areTurned_7 (by decide) (fun hc7 => ?_) (fun hc7 => ?_)
      · replace h := zi_t hc7 h
        exact hJ67 c_likes_2 _ _ _ hP hD hS (lv_sub hl [0, 1, 2] rfl) h
      · replace h := zi_f hc7 h
        refine lv_iload_n hx hb dX5_areTurned_10 rfl (lv_at hl 3 rfl) ?_
        refine lv_istore (lv' := [(4, .int v3_2), (0, .ref b), (1, .int p1), (2, .int p2), (3, .int v3_2)]) hx hb dX5_areTurned_11 hl (Nat.le_of_ble_eq_true rfl) rfl (fun ls hl => ?_)
        refine lv_iconst (v := (0 : Int32)) hx hb dX5_areTurned_13 (by decide) ?_
        refine lv_istore (lv' := [(5, .int (0 : Int32)), (4, .int v3_2), (0, .ref b), (1, .int p1), (2, .int p2), (3, .int v3_2)]) hx hb dX5_areTurned_14 hl (Nat.le_of_ble_eq_true rfl) rfl (fun ls hl => ?_)
        have hJ53 : ∀ (v4_53 : Int32) (H : Heap) (locs : List Loc) (ls : Array Slot), va_P D vwCl (wdX5_areTurned cy b b_kind b_first b_second b_parts b_likes b_letters b_waiting b_made c_count c_kind c_first c_likes_2 c_second) H → va_D A (wdX5_areTurned cy b b_kind b_first b_second b_parts b_likes b_letters b_waiting b_made c_count c_kind c_first c_likes_2 c_second) → va_S A s.heap H locs → lv_has ls 6 [(0, .ref b), (1, .int p1), (2, .int p2), (3, .int v3_2), (4, .int v4_53)] → fX5_areTurned_J53 v3_2 c_likes_2 (fX5_areTurned_L2 (fX5_areTurned_J67 p1 p2) c_count c_kind c_first c_second n2) v4_53 = some res → W p l e rmX5_areTurned s m args below meth c H locs 0 0 Q (F0 m 53 ls []) := by
          intro v4_53 H locs ls hP hD hS hl h
          refine lv_aload_n hx hb dX5_areTurned_53 rfl (lv_at hl 0 rfl) ?_
          refine va_get (D := D) (ci := 5) (v := .ref b_likes) (C := RX5) (T := TX5) (N := 9) hx hb hts uX5_areTurned_X5 hown hK.1 hP 0 rfl rfl 5 (by decide) (hts (.fieldLink RX5 24 "WishedResistor$Nets" "likes" "[I") (List.mem_of_getElem? (i := 2) rfl)) (fun _ h9 => h9) rfl dX5_areTurned_54 ?_
          refine lv_iload_n hx hb dX5_areTurned_57 rfl (lv_at hl 3 rfl) ?_
          refine lv_iload hx hb dX5_areTurned_58 (lv_at hl 4 rfl) ?_
          obtain ⟨hi60, h⟩ := zg_s h
          refine va_iast hx hb hK.1 hP hD hS 3 0 rfl rfl hi60 dX5_areTurned_60 (fun H locs hP hD hS => ?_)
          have hP : va_P D vwCl (wdX5_areTurned cy b b_kind b_first b_second b_parts b_likes b_letters b_waiting b_made c_count c_kind c_first (upd c_likes_2 (v3_2).toNatClampNeg v4_53) c_second) H := hP
          have hD : va_D A (wdX5_areTurned cy b b_kind b_first b_second b_parts b_likes b_letters b_waiting b_made c_count c_kind c_first (upd c_likes_2 (v3_2).toNatClampNeg v4_53) c_second) := hD
          refine lv_iinc (v := (v3_2 + (1 : Int32))) (lv' := [(3, .int (v3_2 + (1 : Int32))), (0, .ref b), (1, .int p1), (2, .int p2), (4, .int v4_53)]) hx hb dX5_areTurned_61 hl (k := 3) rfl (by rfl) (Nat.le_of_ble_eq_true rfl) rfl (fun ls hl => ?_)
          refine lv_goto (tgt := 2) hx hb dX5_areTurned_64 (by decide) ?_
          exact ih2 (v3_2 + (1 : Int32)) (upd c_likes_2 (v3_2).toNatClampNeg v4_53) _ _ _ hP hD hS (lv_sub hl [1, 2, 3, 0] rfl) h
        have hL16 : ∀ n16 : Nat, ∀ (v4_16 v5_16 : Int32) (H : Heap) (locs : List Loc) (ls : Array Slot), va_P D vwCl (wdX5_areTurned cy b b_kind b_first b_second b_parts b_likes b_letters b_waiting b_made c_count c_kind c_first c_likes_2 c_second) H → va_D A (wdX5_areTurned cy b b_kind b_first b_second b_parts b_likes b_letters b_waiting b_made c_count c_kind c_first c_likes_2 c_second) → va_S A s.heap H locs → lv_has ls 6 [(0, .ref b), (1, .int p1), (2, .int p2), (3, .int v3_2), (4, .int v4_16), (5, .int v5_16)] → fX5_areTurned_L16 (fX5_areTurned_J53 v3_2 c_likes_2 (fX5_areTurned_L2 (fX5_areTurned_J67 p1 p2) c_count c_kind c_first c_second n2)) c_kind c_first c_second v3_2 c_likes_2 n16 v4_16 v5_16 = some res → W p l e rmX5_areTurned s m args below meth c H locs 0 0 Q (F0 m 16 ls []) := by
          intro n16
          induction n16 with
          | zero =>
            intro v4_16 v5_16 H locs ls hP hD hS hl h
            exact zl2_0 h
          | succ n16 ih16 =>
            intro v4_16 v5_16 H locs ls hP hD hS hl h
            replace h := zl2_s h
            refine lv_iload hx hb dX5_areTurned_16 (lv_at hl 5 rfl) ?_
            refine lv_iload_n hx hb dX5_areTurned_18 rfl (lv_at hl 3 rfl) ?_
            refine lv_icmp_ge (tgt := 53) hx hb dX5_areTurned_19 (by decide) (fun hc19 => ?_) (fun hc19 => ?_)
            · replace h := zi_t hc19 h
              exact hJ53 v4_16 _ _ _ hP hD hS (lv_sub hl [0, 1, 2, 3, 4] rfl) h
            · replace h := zi_f hc19 h
              refine lv_iload hx hb dX5_areTurned_22 (lv_at hl 4 rfl) ?_
              refine lv_iload_n hx hb dX5_areTurned_24 rfl (lv_at hl 3 rfl) ?_
              refine lv_icmp_ne (tgt := 53) hx hb dX5_areTurned_25 (by decide) (fun hc25 => ?_) (fun hc25 => ?_)
              · replace h := zi_f hc25 h
                exact hJ53 v4_16 _ _ _ hP hD hS (lv_sub hl [0, 1, 2, 3, 4] rfl) h
              · replace h := zi_t hc25 h
                refine lv_aload_n hx hb dX5_areTurned_28 rfl (lv_at hl 0 rfl) ?_
                refine lv_iload hx hb dX5_areTurned_29 (lv_at hl 5 rfl) ?_
                refine lv_iload_n hx hb dX5_areTurned_31 rfl (lv_at hl 3 rfl) ?_
                obtain ⟨r32, hq32, h⟩ := zb1_s h
                refine zCz (r0 := r32) (w1 := (wdX5_isTurn cy b b_kind b_first b_second b_parts b_likes b_letters b_waiting b_made c_count c_kind c_first c_likes_2 c_second)) (ws' := (wdX5_areTurned cy b b_kind b_first b_second b_parts b_likes b_letters b_waiting b_made c_count c_kind c_first c_likes_2 c_second)) (va_runV (As := [.int v5_16, .int v3_2]) (rest := []) ⟨hx, hb, hml, hown, hts⟩ (mX5_isTurn l D cy H.size b b_kind b_first b_second b_parts b_likes b_letters b_waiting b_made c_count c_kind c_first c_likes_2 c_second v5_16 v3_2 (r32) hq32) (cwV 2 hts gX5_areTurned_X5_isTurn rfl rfl rfl ⟨rfl, cdX5_isTurn⟩ ⟨Nat.le_of_ble_eq_true rfl, Nat.le_of_ble_eq_true rfl⟩) (zPV hK hP hD [0, 1, 2, 3, 4] rfl rfl (q0 := 0) (ci := 5) rfl rfl rfl) rfl rfl hl.1 rfl (lv_room (Nat.le_of_ble_eq_true rfl)) dX5_areTurned_32 ⟨Nat.zero_le _, Nat.zero_le _⟩) hP hD hS hA [0, 1, 2, 3, 4] [] [0, 1, 2, 3, 4] rfl rfl rfl rfl (fun H locs hn32 hP hD hS => ?_)
                refine lv_if_eq (tgt := 47) hx hb dX5_areTurned_35 (by decide) (fun hc35 => ?_) (fun hc35 => ?_)
                · replace h := zi_t hc35 h
                  refine lv_iinc (v := (v5_16 + (1 : Int32))) (lv' := [(5, .int (v5_16 + (1 : Int32))), (0, .ref b), (1, .int p1), (2, .int p2), (3, .int v3_2), (4, .int v4_16)]) hx hb dX5_areTurned_47 hl (k := 5) rfl (by rfl) (Nat.le_of_ble_eq_true rfl) rfl (fun ls hl => ?_)
                  refine lv_goto (tgt := 16) hx hb dX5_areTurned_50 (by decide) ?_
                  exact ih16 v4_16 (v5_16 + (1 : Int32)) _ _ _ hP hD hS (lv_sub hl [1, 2, 3, 4, 5, 0] rfl) h
                · replace h := zi_f hc35 h
                  refine lv_aload_n hx hb dX5_areTurned_38 rfl (lv_at hl 0 rfl) ?_
                  refine va_get (D := D) (ci := 5) (v := .ref b_likes) (C := RX5) (T := TX5) (N := 9) hx hb hts uX5_areTurned_X5 hown hK.1 hP 0 rfl rfl 5 (by decide) (hts (.fieldLink RX5 24 "WishedResistor$Nets" "likes" "[I") (List.mem_of_getElem? (i := 2) rfl)) (fun _ h9 => h9) rfl dX5_areTurned_39 ?_
                  refine lv_iload hx hb dX5_areTurned_42 (lv_at hl 5 rfl) ?_
                  obtain ⟨hi44, h⟩ := zg_s h
                  refine va_iald hx hb hK.1 hP 3 0 rfl rfl hi44 dX5_areTurned_44 ?_
                  refine lv_istore (lv' := [(4, .int (c_likes_2 (v5_16).toNatClampNeg)), (0, .ref b), (1, .int p1), (2, .int p2), (3, .int v3_2), (5, .int v5_16)]) hx hb dX5_areTurned_45 hl (Nat.le_of_ble_eq_true rfl) rfl (fun ls hl => ?_)
                  refine lv_iinc (v := (v5_16 + (1 : Int32))) (lv' := [(5, .int (v5_16 + (1 : Int32))), (4, .int (c_likes_2 (v5_16).toNatClampNeg)), (0, .ref b), (1, .int p1), (2, .int p2), (3, .int v3_2)]) hx hb dX5_areTurned_47 hl (k := 5) rfl (by rfl) (Nat.le_of_ble_eq_true rfl) rfl (fun ls hl => ?_)
                  refine lv_goto (tgt := 16) hx hb dX5_areTurned_50 (by decide) ?_
                  exact ih16 (c_likes_2 (v5_16).toNatClampNeg) (v5_16 + (1 : Int32)) _ _ _ hP hD hS (lv_sub hl [2, 3, 4, 5, 1, 0] rfl) h
        exact hL16 5000 v3_2 (0 : Int32) _ _ _ hP hD hS (lv_sub hl [2, 3, 4, 5, 1, 0] rfl) h
  exact hL2 5000 (0 : Int32) c_likes _ _ _ hP hD hS (lv_sub hl [1, 2, 3, 0] rfl) h

theorem uX5_openBrackets_X5 : ∀ w ∈ u_ws RX5 TX5 9, w ∈ wsX5_openBrackets := fun w h => (List.mem_cons_of_mem _ (List.mem_append_right _ h))
abbrev wdX5_openBrackets (cy : Nat → ClassId) (b b_kind b_first b_second b_parts b_likes b_letters b_waiting b_made : Nat) (c_count : Int32) (c_waiting c_second c_kind c_first : Nat → Int32) : va_W := [(b, .inr (5, [.ref b_kind, .ref b_first, .ref b_second, .ref b_parts, .int c_count, .ref b_likes, .ref b_letters, .ref b_waiting, .ref b_made])), (b_waiting, .inl (cy 0, 60, .inl c_waiting)), (b_second, .inl (cy 0, 40, .inl c_second)), (b_kind, .inl (cy 0, 40, .inl c_kind)), (b_first, .inl (cy 0, 40, .inl c_first))]
abbrev rmX5_openBrackets : Room := { frames := 0, cells := 0, slots := 0, locals := 0 }
theorem cdX5_openBrackets : (yX5_openBrackets).cls ≠ "java/lang/invoke/MethodHandle" ∧ (yX5_openBrackets).cls ≠ "java/lang/invoke/VarHandle" ∧ (parseMethodDescriptor (yX5_openBrackets).desc).map (fun d => d.parameters.length) = some 2 := by decide +kernel
def fX5_openBrackets_J59 (c_waiting c_second c_first : Nat → Int32) (p1 p2 : Int32) (s2_59 : Int32) : Option (Int32 × (Nat → Int32)) :=
  zg (zin (p2 + (2 : Int32)) 60) (zg (zin p1 40) (zg (zin (p2 + (3 : Int32)) 60) (zg (zin (p2 + (4 : Int32)) 60) (some ((p2 + (5 : Int32)), (upd (upd (upd (upd (upd c_waiting (p2).toNatClampNeg (-41 : Int32)) ((p2 + (1 : Int32))).toNatClampNeg (c_second (p1).toNatClampNeg)) ((p2 + (2 : Int32))).toNatClampNeg s2_59) ((p2 + (3 : Int32))).toNatClampNeg (c_first (p1).toNatClampNeg)) ((p2 + (4 : Int32))).toNatClampNeg (-40 : Int32)))))))
def fX5_openBrackets (p1 p2 : Int32) (c_waiting c_second c_kind c_first : Nat → Int32) : Option (Int32 × (Nat → Int32)) :=
  if (p2 + (5 : Int32)) ≤ (60 : Int32) then (zg (zin p2 60) (zg (zin p1 40) (zg (zin (p2 + (1 : Int32)) 60) (zg (zin p1 40) (if (c_kind (p1).toNatClampNeg) = (1 : Int32) then (fX5_openBrackets_J59 c_waiting c_second c_first p1 p2 (-43 : Int32)) else (fX5_openBrackets_J59 c_waiting c_second c_first p1 p2 (-124 : Int32))))))) else (some (p2, c_waiting))
set_option maxHeartbeats 4000000 in
set_option maxRecDepth 100000 in
theorem mX5_openBrackets (l : Launch) (D : va_G) (cy : Nat → ClassId) (sz : Nat) (b b_kind b_first b_second b_parts b_likes b_letters b_waiting b_made : Nat) (c_count : Int32) (c_waiting c_second c_kind c_first : Nat → Int32) (p1 p2 : Int32) (res : (Int32 × (Nat → Int32))) (h : fX5_openBrackets p1 p2 c_waiting c_second c_kind c_first = some res) : zMi l yX5_openBrackets wsX5_openBrackets rmX5_openBrackets [.ref b, .int p1, .int p2] D cy (wdX5_openBrackets cy b b_kind b_first b_second b_parts b_likes b_letters b_waiting b_made c_count c_waiting c_second c_kind c_first) sz ((fun (o : (Int32 × (Nat → Int32))) => o.1) res) ((fun (o : (Int32 × (Nat → Int32))) => (wdX5_openBrackets cy b b_kind b_first b_second b_parts b_likes b_letters b_waiting b_made c_count (o.2) c_second c_kind c_first)) res) := by
  refine zOfi (res := res) (rf := (fun (o : (Int32 × (Nat → Int32))) => o.1)) (Wf := (fun (o : (Int32 × (Nat → Int32))) => (wdX5_openBrackets cy b b_kind b_first b_second b_parts b_likes b_letters b_waiting b_made c_count (o.2) c_second c_kind c_first))) (by decide +kernel) rfl (Nat.le_of_ble_eq_true rfl) ?_
  intro p e s m args below meth c A ls Q hx hb hml hts hown hP hK hD hA hS hl hret
  have hown : s.vm.findClass RX5 = some m.cls := hown
  have hl : lv_has ls 3 [(0, .ref b), (1, .int p1), (2, .int p2)] := hl
  refine lv_iload_n hx hb dX5_openBrackets_0 rfl (lv_at hl 2 rfl) ?_
  refine lv_iconst (v := (5 : Int32)) hx hb dX5_openBrackets_1 (by decide) ?_
  refine lv_iadd hx hb dX5_openBrackets_2 ?_
  refine lv_aload_n hx hb dX5_openBrackets_3 rfl (lv_at hl 0 rfl) ?_
  refine va_get (D := D) (ci := 5) (v := .ref b_waiting) (C := RX5) (T := TX5) (N := 9) hx hb hts uX5_openBrackets_X5 hown hK.1 hP 0 rfl rfl 7 (by decide) (hts (.fieldLink RX5 30 "WishedResistor$Nets" "waiting" "[I") (List.mem_of_getElem? (i := 1) rfl)) (fun _ h9 => h9) rfl dX5_openBrackets_4 ?_
  refine va_alen (v := (60 : Int32)) hx hb hK.1 hP 1 0 rfl rfl rfl dX5_openBrackets_7 ?_
  refine lv_icmp_le (tgt := 13) hx hb dX5_openBrackets_8 (by decide) (fun hc8 => ?_) (fun hc8 => ?_)
  · replace h := zi_t hc8 h
    refine lv_aload_n hx hb dX5_openBrackets_13 rfl (lv_at hl 0 rfl) ?_
    refine va_get (D := D) (ci := 5) (v := .ref b_waiting) (C := RX5) (T := TX5) (N := 9) hx hb hts uX5_openBrackets_X5 hown hK.1 hP 0 rfl rfl 7 (by decide) (hts (.fieldLink RX5 30 "WishedResistor$Nets" "waiting" "[I") (List.mem_of_getElem? (i := 1) rfl)) (fun _ h9 => h9) rfl dX5_openBrackets_14 ?_
    refine lv_iload_n hx hb dX5_openBrackets_17 rfl (lv_at hl 2 rfl) ?_
    refine lv_bipush (v := (-41 : Int32)) hx hb dX5_openBrackets_18 (by decide) ?_
    obtain ⟨hi20, h⟩ := zg_s h
    refine va_iast hx hb hK.1 hP hD hS 1 0 rfl rfl hi20 dX5_openBrackets_20 (fun H locs hP hD hS => ?_)
    have hP : va_P D vwCl (wdX5_openBrackets cy b b_kind b_first b_second b_parts b_likes b_letters b_waiting b_made c_count (upd c_waiting (p2).toNatClampNeg (-41 : Int32)) c_second c_kind c_first) H := hP
    have hD : va_D A (wdX5_openBrackets cy b b_kind b_first b_second b_parts b_likes b_letters b_waiting b_made c_count (upd c_waiting (p2).toNatClampNeg (-41 : Int32)) c_second c_kind c_first) := hD
    refine lv_aload_n hx hb dX5_openBrackets_21 rfl (lv_at hl 0 rfl) ?_
    refine va_get (D := D) (ci := 5) (v := .ref b_waiting) (C := RX5) (T := TX5) (N := 9) hx hb hts uX5_openBrackets_X5 hown hK.1 hP 0 rfl rfl 7 (by decide) (hts (.fieldLink RX5 30 "WishedResistor$Nets" "waiting" "[I") (List.mem_of_getElem? (i := 1) rfl)) (fun _ h9 => h9) rfl dX5_openBrackets_22 ?_
    refine lv_iload_n hx hb dX5_openBrackets_25 rfl (lv_at hl 2 rfl) ?_
    refine lv_iconst (v := (1 : Int32)) hx hb dX5_openBrackets_26 (by decide) ?_
    refine lv_iadd hx hb dX5_openBrackets_27 ?_
    refine lv_aload_n hx hb dX5_openBrackets_28 rfl (lv_at hl 0 rfl) ?_
    refine va_get (D := D) (ci := 5) (v := .ref b_second) (C := RX5) (T := TX5) (N := 9) hx hb hts uX5_openBrackets_X5 hown hK.1 hP 0 rfl rfl 2 (by decide) (hts (.fieldLink RX5 18 "WishedResistor$Nets" "second" "[I") (List.mem_of_getElem? (i := 2) rfl)) (fun _ h9 => h9) rfl dX5_openBrackets_29 ?_
    refine lv_iload_n hx hb dX5_openBrackets_32 rfl (lv_at hl 1 rfl) ?_
    obtain ⟨hi33, h⟩ := zg_s h
    refine va_iald hx hb hK.1 hP 2 0 rfl rfl hi33 dX5_openBrackets_33 ?_
    obtain ⟨hi34, h⟩ := zg_s h
    refine va_iast hx hb hK.1 hP hD hS 1 0 rfl rfl hi34 dX5_openBrackets_34 (fun H locs hP hD hS => ?_)
    have hP : va_P D vwCl (wdX5_openBrackets cy b b_kind b_first b_second b_parts b_likes b_letters b_waiting b_made c_count (upd (upd c_waiting (p2).toNatClampNeg (-41 : Int32)) ((p2 + (1 : Int32))).toNatClampNeg (c_second (p1).toNatClampNeg)) c_second c_kind c_first) H := hP
    have hD : va_D A (wdX5_openBrackets cy b b_kind b_first b_second b_parts b_likes b_letters b_waiting b_made c_count (upd (upd c_waiting (p2).toNatClampNeg (-41 : Int32)) ((p2 + (1 : Int32))).toNatClampNeg (c_second (p1).toNatClampNeg)) c_second c_kind c_first) := hD
    refine lv_aload_n hx hb dX5_openBrackets_35 rfl (lv_at hl 0 rfl) ?_
    refine va_get (D := D) (ci := 5) (v := .ref b_waiting) (C := RX5) (T := TX5) (N := 9) hx hb hts uX5_openBrackets_X5 hown hK.1 hP 0 rfl rfl 7 (by decide) (hts (.fieldLink RX5 30 "WishedResistor$Nets" "waiting" "[I") (List.mem_of_getElem? (i := 1) rfl)) (fun _ h9 => h9) rfl dX5_openBrackets_36 ?_
    refine lv_iload_n hx hb dX5_openBrackets_39 rfl (lv_at hl 2 rfl) ?_
    refine lv_iconst (v := (2 : Int32)) hx hb dX5_openBrackets_40 (by decide) ?_
    refine lv_iadd hx hb dX5_openBrackets_41 ?_
    refine lv_aload_n hx hb dX5_openBrackets_42 rfl (lv_at hl 0 rfl) ?_
    refine va_get (D := D) (ci := 5) (v := .ref b_kind) (C := RX5) (T := TX5) (N := 9) hx hb hts uX5_openBrackets_X5 hown hK.1 hP 0 rfl rfl 0 (by decide) (hts (.fieldLink RX5 9 "WishedResistor$Nets" "kind" "[I") (List.mem_of_getElem? (i := 3) rfl)) (fun _ h9 => h9) rfl dX5_openBrackets_43 ?_
    refine lv_iload_n hx hb dX5_openBrackets_46 rfl (lv_at hl 1 rfl) ?_
    obtain ⟨hi47, h⟩ := zg_s h
    refine va_iald hx hb hK.1 hP 3 0 rfl rfl hi47 dX5_openBrackets_47 ?_
    refine lv_iconst (v := (1 : Int32)) hx hb dX5_openBrackets_48 (by decide) ?_
    have hJ59 : ∀ (s2_59 : Int32) (H : Heap) (locs : List Loc) (ls : Array Slot), va_P D vwCl (wdX5_openBrackets cy b b_kind b_first b_second b_parts b_likes b_letters b_waiting b_made c_count (upd (upd c_waiting (p2).toNatClampNeg (-41 : Int32)) ((p2 + (1 : Int32))).toNatClampNeg (c_second (p1).toNatClampNeg)) c_second c_kind c_first) H → va_D A (wdX5_openBrackets cy b b_kind b_first b_second b_parts b_likes b_letters b_waiting b_made c_count (upd (upd c_waiting (p2).toNatClampNeg (-41 : Int32)) ((p2 + (1 : Int32))).toNatClampNeg (c_second (p1).toNatClampNeg)) c_second c_kind c_first) → va_S A s.heap H locs → lv_has ls 3 [(0, .ref b), (1, .int p1), (2, .int p2)] → fX5_openBrackets_J59 c_waiting c_second c_first p1 p2 s2_59 = some res → W p l e rmX5_openBrackets s m args below meth c H locs 0 0 Q (F0 m 59 ls [.int s2_59, .int (p2 + (2 : Int32)), .ref b_waiting]) := by
      intro s2_59 H locs ls hP hD hS hl h
      obtain ⟨hi59, h⟩ := zg_s h
      refine va_iast hx hb hK.1 hP hD hS 1 0 rfl rfl hi59 dX5_openBrackets_59 (fun H locs hP hD hS => ?_)
      have hP : va_P D vwCl (wdX5_openBrackets cy b b_kind b_first b_second b_parts b_likes b_letters b_waiting b_made c_count (upd (upd (upd c_waiting (p2).toNatClampNeg (-41 : Int32)) ((p2 + (1 : Int32))).toNatClampNeg (c_second (p1).toNatClampNeg)) ((p2 + (2 : Int32))).toNatClampNeg s2_59) c_second c_kind c_first) H := hP
      have hD : va_D A (wdX5_openBrackets cy b b_kind b_first b_second b_parts b_likes b_letters b_waiting b_made c_count (upd (upd (upd c_waiting (p2).toNatClampNeg (-41 : Int32)) ((p2 + (1 : Int32))).toNatClampNeg (c_second (p1).toNatClampNeg)) ((p2 + (2 : Int32))).toNatClampNeg s2_59) c_second c_kind c_first) := hD
      refine lv_aload_n hx hb dX5_openBrackets_60 rfl (lv_at hl 0 rfl) ?_
      refine va_get (D := D) (ci := 5) (v := .ref b_waiting) (C := RX5) (T := TX5) (N := 9) hx hb hts uX5_openBrackets_X5 hown hK.1 hP 0 rfl rfl 7 (by decide) (hts (.fieldLink RX5 30 "WishedResistor$Nets" "waiting" "[I") (List.mem_of_getElem? (i := 1) rfl)) (fun _ h9 => h9) rfl dX5_openBrackets_61 ?_
      refine lv_iload_n hx hb dX5_openBrackets_64 rfl (lv_at hl 2 rfl) ?_
      refine lv_iconst (v := (3 : Int32)) hx hb dX5_openBrackets_65 (by decide) ?_
      refine lv_iadd hx hb dX5_openBrackets_66 ?_
      refine lv_aload_n hx hb dX5_openBrackets_67 rfl (lv_at hl 0 rfl) ?_
      refine va_get (D := D) (ci := 5) (v := .ref b_first) (C := RX5) (T := TX5) (N := 9) hx hb hts uX5_openBrackets_X5 hown hK.1 hP 0 rfl rfl 1 (by decide) (hts (.fieldLink RX5 15 "WishedResistor$Nets" "first" "[I") (List.mem_of_getElem? (i := 4) rfl)) (fun _ h9 => h9) rfl dX5_openBrackets_68 ?_
      refine lv_iload_n hx hb dX5_openBrackets_71 rfl (lv_at hl 1 rfl) ?_
      obtain ⟨hi72, h⟩ := zg_s h
      refine va_iald hx hb hK.1 hP 4 0 rfl rfl hi72 dX5_openBrackets_72 ?_
      obtain ⟨hi73, h⟩ := zg_s h
      refine va_iast hx hb hK.1 hP hD hS 1 0 rfl rfl hi73 dX5_openBrackets_73 (fun H locs hP hD hS => ?_)
      have hP : va_P D vwCl (wdX5_openBrackets cy b b_kind b_first b_second b_parts b_likes b_letters b_waiting b_made c_count (upd (upd (upd (upd c_waiting (p2).toNatClampNeg (-41 : Int32)) ((p2 + (1 : Int32))).toNatClampNeg (c_second (p1).toNatClampNeg)) ((p2 + (2 : Int32))).toNatClampNeg s2_59) ((p2 + (3 : Int32))).toNatClampNeg (c_first (p1).toNatClampNeg)) c_second c_kind c_first) H := hP
      have hD : va_D A (wdX5_openBrackets cy b b_kind b_first b_second b_parts b_likes b_letters b_waiting b_made c_count (upd (upd (upd (upd c_waiting (p2).toNatClampNeg (-41 : Int32)) ((p2 + (1 : Int32))).toNatClampNeg (c_second (p1).toNatClampNeg)) ((p2 + (2 : Int32))).toNatClampNeg s2_59) ((p2 + (3 : Int32))).toNatClampNeg (c_first (p1).toNatClampNeg)) c_second c_kind c_first) := hD
      refine lv_aload_n hx hb dX5_openBrackets_74 rfl (lv_at hl 0 rfl) ?_
      refine va_get (D := D) (ci := 5) (v := .ref b_waiting) (C := RX5) (T := TX5) (N := 9) hx hb hts uX5_openBrackets_X5 hown hK.1 hP 0 rfl rfl 7 (by decide) (hts (.fieldLink RX5 30 "WishedResistor$Nets" "waiting" "[I") (List.mem_of_getElem? (i := 1) rfl)) (fun _ h9 => h9) rfl dX5_openBrackets_75 ?_
      refine lv_iload_n hx hb dX5_openBrackets_78 rfl (lv_at hl 2 rfl) ?_
      refine lv_iconst (v := (4 : Int32)) hx hb dX5_openBrackets_79 (by decide) ?_
      refine lv_iadd hx hb dX5_openBrackets_80 ?_
      refine lv_bipush (v := (-40 : Int32)) hx hb dX5_openBrackets_81 (by decide) ?_
      obtain ⟨hi83, h⟩ := zg_s h
      refine va_iast hx hb hK.1 hP hD hS 1 0 rfl rfl hi83 dX5_openBrackets_83 (fun H locs hP hD hS => ?_)
      have hP : va_P D vwCl (wdX5_openBrackets cy b b_kind b_first b_second b_parts b_likes b_letters b_waiting b_made c_count (upd (upd (upd (upd (upd c_waiting (p2).toNatClampNeg (-41 : Int32)) ((p2 + (1 : Int32))).toNatClampNeg (c_second (p1).toNatClampNeg)) ((p2 + (2 : Int32))).toNatClampNeg s2_59) ((p2 + (3 : Int32))).toNatClampNeg (c_first (p1).toNatClampNeg)) ((p2 + (4 : Int32))).toNatClampNeg (-40 : Int32)) c_second c_kind c_first) H := hP
      have hD : va_D A (wdX5_openBrackets cy b b_kind b_first b_second b_parts b_likes b_letters b_waiting b_made c_count (upd (upd (upd (upd (upd c_waiting (p2).toNatClampNeg (-41 : Int32)) ((p2 + (1 : Int32))).toNatClampNeg (c_second (p1).toNatClampNeg)) ((p2 + (2 : Int32))).toNatClampNeg s2_59) ((p2 + (3 : Int32))).toNatClampNeg (c_first (p1).toNatClampNeg)) ((p2 + (4 : Int32))).toNatClampNeg (-40 : Int32)) c_second c_kind c_first) := hD
      refine lv_iload_n hx hb dX5_openBrackets_84 rfl (lv_at hl 2 rfl) ?_
      refine lv_iconst (v := (5 : Int32)) hx hb dX5_openBrackets_85 (by decide) ?_
      refine lv_iadd hx hb dX5_openBrackets_86 ?_
      exact hret (o := ((p2 + (5 : Int32)), (upd (upd (upd (upd (upd c_waiting (p2).toNatClampNeg (-41 : Int32)) ((p2 + (1 : Int32))).toNatClampNeg (c_second (p1).toNatClampNeg)) ((p2 + (2 : Int32))).toNatClampNeg s2_59) ((p2 + (3 : Int32))).toNatClampNeg (c_first (p1).toNatClampNeg)) ((p2 + (4 : Int32))).toNatClampNeg (-40 : Int32)))) h hP hD hS dX5_openBrackets_87
    refine lv_icmp_ne (tgt := 57) hx hb dX5_openBrackets_49 (by decide) (fun hc49 => ?_) (fun hc49 => ?_)
    · replace h := zi_f hc49 h
      refine lv_bipush (v := (-124 : Int32)) hx hb dX5_openBrackets_57 (by decide) ?_
      exact hJ59 (-124 : Int32) _ _ _ hP hD hS (lv_sub hl [0, 1, 2] rfl) h
    · replace h := zi_t hc49 h
      refine lv_bipush (v := (-43 : Int32)) hx hb dX5_openBrackets_52 (by decide) ?_
      refine lv_goto (tgt := 59) hx hb dX5_openBrackets_54 (by decide) ?_
      exact hJ59 (-43 : Int32) _ _ _ hP hD hS (lv_sub hl [0, 1, 2] rfl) h
  · replace h := zi_f hc8 h
    refine lv_iload_n hx hb dX5_openBrackets_11 rfl (lv_at hl 2 rfl) ?_
    exact hret (o := (p2, c_waiting)) h hP hD hS dX5_openBrackets_12

theorem uX5_spell_X5 : ∀ w ∈ u_ws RX5 TX5 9, w ∈ wsX5_spell := fun w h => (List.mem_cons_of_mem _ (List.mem_append_right _ h))
abbrev wdX5_spell (cy : Nat → ClassId) (b b_kind b_first b_second b_parts b_likes b_letters b_waiting b_made : Nat) (c_count : Int32) (c_waiting c_letters c_kind c_second c_first : Nat → Int32) : va_W := [(b, .inr (5, [.ref b_kind, .ref b_first, .ref b_second, .ref b_parts, .int c_count, .ref b_likes, .ref b_letters, .ref b_waiting, .ref b_made])), (b_waiting, .inl (cy 0, 60, .inl c_waiting)), (b_letters, .inl (cy 0, 45, .inl c_letters)), (b_kind, .inl (cy 0, 40, .inl c_kind)), (b_second, .inl (cy 0, 40, .inl c_second)), (b_first, .inl (cy 0, 40, .inl c_first))]
abbrev rmX5_spell : Room := { frames := 1, cells := 0, slots := 0, locals := 22 }
theorem cdX5_spell : (yX5_spell).cls ≠ "java/lang/invoke/MethodHandle" ∧ (yX5_spell).cls ≠ "java/lang/invoke/VarHandle" ∧ (parseMethodDescriptor (yX5_spell).desc).map (fun d => d.parameters.length) = some 1 := by decide +kernel
def fX5_spell_J102 (v2_14 v3_14 v4_14 : Int32) (c_waiting_14 c_letters_14 : Nat → Int32) (rec14 : Int32 → Int32 → Int32 → (Nat → Int32) → (Nat → Int32) → Option (Int32 × (Nat → Int32) × (Nat → Int32))) (s2_102 : Int32) : Option (Int32 × (Nat → Int32) × (Nat → Int32)) :=
  zg (zin v2_14 45) (rec14 (v2_14 + (1 : Int32)) (v3_14 + (-1 : Int32)) (v4_14 + (1 : Int32)) c_waiting_14 (upd c_letters_14 (v2_14).toNatClampNeg s2_102))
def fX5_spell_J67 (c_first : Nat → Int32) (v2_14 v3_14 v4_14 : Int32) (c_waiting_14 c_letters_14 : Nat → Int32) (rec14 : Int32 → Int32 → Int32 → (Nat → Int32) → (Nat → Int32) → Option (Int32 × (Nat → Int32) × (Nat → Int32)))  : Option (Int32 × (Nat → Int32) × (Nat → Int32)) :=
  if (45 : Int32) ≤ v2_14 then (rec14 v2_14 (v3_14 + (-1 : Int32)) (v4_14 + (1 : Int32)) c_waiting_14 c_letters_14) else (if 0 ≤ (c_waiting_14 ((v3_14 + (-1 : Int32))).toNatClampNeg) then (zg (zin (c_waiting_14 ((v3_14 + (-1 : Int32))).toNatClampNeg) 40) (fX5_spell_J102 v2_14 v3_14 v4_14 c_waiting_14 c_letters_14 rec14 ((97 : Int32) + (c_first ((c_waiting_14 ((v3_14 + (-1 : Int32))).toNatClampNeg)).toNatClampNeg)))) else (fX5_spell_J102 v2_14 v3_14 v4_14 c_waiting_14 c_letters_14 rec14 (-(c_waiting_14 ((v3_14 + (-1 : Int32))).toNatClampNeg))))
def fX5_spell_L14 (c_kind c_second c_first : Nat → Int32) : Nat → Int32 → Int32 → Int32 → (Nat → Int32) → (Nat → Int32) → Option (Int32 × (Nat → Int32) × (Nat → Int32)) :=
  zl5 (fun rec14 v2_14 v3_14 v4_14 c_waiting_14 c_letters_14 => if ((45 : Int32) * (2 : Int32)) ≤ v4_14 then (some (v2_14, c_waiting_14, c_letters_14)) else (if v3_14 ≤ 0 then (some (v2_14, c_waiting_14, c_letters_14)) else (zg (zin (v3_14 + (-1 : Int32)) 60) (if (c_waiting_14 ((v3_14 + (-1 : Int32))).toNatClampNeg) < 0 then (fX5_spell_J67 c_first v2_14 v3_14 v4_14 c_waiting_14 c_letters_14 rec14) else (zg (zin (c_waiting_14 ((v3_14 + (-1 : Int32))).toNatClampNeg) 40) (if (c_kind ((c_waiting_14 ((v3_14 + (-1 : Int32))).toNatClampNeg)).toNatClampNeg) = 0 then (fX5_spell_J67 c_first v2_14 v3_14 v4_14 c_waiting_14 c_letters_14 rec14) else (zb2 (fX5_openBrackets (c_waiting_14 ((v3_14 + (-1 : Int32))).toNatClampNeg) (v3_14 + (-1 : Int32)) c_waiting_14 c_second c_kind c_first) (fun r60 c_waiting_r60 => rec14 v2_14 r60 (v4_14 + (1 : Int32)) c_waiting_r60 c_letters_14))))))))
def fX5_spell (p1 : Int32) (c_waiting c_letters c_kind c_second c_first : Nat → Int32) : Option (Int32 × (Nat → Int32) × (Nat → Int32)) :=
  fX5_spell_L14 c_kind c_second c_first 5000 (0 : Int32) (1 : Int32) (0 : Int32) (upd c_waiting ((0 : Int32)).toNatClampNeg p1) c_letters
set_option maxHeartbeats 4000000 in
set_option maxRecDepth 100000 in
theorem mX5_spell (l : Launch) (D : va_G) (cy : Nat → ClassId) (sz : Nat) (b b_kind b_first b_second b_parts b_likes b_letters b_waiting b_made : Nat) (c_count : Int32) (c_waiting c_letters c_kind c_second c_first : Nat → Int32) (p1 : Int32) (res : (Int32 × (Nat → Int32) × (Nat → Int32))) (h : fX5_spell p1 c_waiting c_letters c_kind c_second c_first = some res) : zMi l yX5_spell wsX5_spell rmX5_spell [.ref b, .int p1] D cy (wdX5_spell cy b b_kind b_first b_second b_parts b_likes b_letters b_waiting b_made c_count c_waiting c_letters c_kind c_second c_first) sz ((fun (o : (Int32 × (Nat → Int32) × (Nat → Int32))) => o.1) res) ((fun (o : (Int32 × (Nat → Int32) × (Nat → Int32))) => (wdX5_spell cy b b_kind b_first b_second b_parts b_likes b_letters b_waiting b_made c_count (o.2.1) (o.2.2) c_kind c_second c_first)) res) := by
  refine zOfi (res := res) (rf := (fun (o : (Int32 × (Nat → Int32) × (Nat → Int32))) => o.1)) (Wf := (fun (o : (Int32 × (Nat → Int32) × (Nat → Int32))) => (wdX5_spell cy b b_kind b_first b_second b_parts b_likes b_letters b_waiting b_made c_count (o.2.1) (o.2.2) c_kind c_second c_first))) (by decide +kernel) rfl (Nat.le_of_ble_eq_true rfl) ?_
  intro p e s m args below meth c A ls Q hx hb hml hts hown hP hK hD hA hS hl hret
  have hown : s.vm.findClass RX5 = some m.cls := hown
  have hl : lv_has ls 6 [(0, .ref b), (1, .int p1)] := hl
  refine lv_iconst (v := (0 : Int32)) hx hb dX5_spell_0 (by decide) ?_
  refine lv_istore_n (lv' := [(2, .int (0 : Int32)), (0, .ref b), (1, .int p1)]) hx hb dX5_spell_1 rfl hl (Nat.le_of_ble_eq_true rfl) rfl (fun ls hl => ?_)
  refine lv_iconst (v := (1 : Int32)) hx hb dX5_spell_2 (by decide) ?_
  refine lv_istore_n (lv' := [(3, .int (1 : Int32)), (2, .int (0 : Int32)), (0, .ref b), (1, .int p1)]) hx hb dX5_spell_3 rfl hl (Nat.le_of_ble_eq_true rfl) rfl (fun ls hl => ?_)
  refine lv_aload_n hx hb dX5_spell_4 rfl (lv_at hl 2 rfl) ?_
  refine va_get (D := D) (ci := 5) (v := .ref b_waiting) (C := RX5) (T := TX5) (N := 9) hx hb hts uX5_spell_X5 hown hK.1 hP 0 rfl rfl 7 (by decide) (hts (.fieldLink RX5 30 "WishedResistor$Nets" "waiting" "[I") (List.mem_of_getElem? (i := 1) rfl)) (fun _ h9 => h9) rfl dX5_spell_5 ?_
  refine lv_iconst (v := (0 : Int32)) hx hb dX5_spell_8 (by decide) ?_
  refine lv_iload_n hx hb dX5_spell_9 rfl (lv_at hl 3 rfl) ?_
  refine va_iast hx hb hK.1 hP hD hS 1 0 rfl rfl (show zin (0 : Int32) 60 from by decide) dX5_spell_10 (fun H locs hP hD hS => ?_)
  have hP : va_P D vwCl (wdX5_spell cy b b_kind b_first b_second b_parts b_likes b_letters b_waiting b_made c_count (upd c_waiting ((0 : Int32)).toNatClampNeg p1) c_letters c_kind c_second c_first) H := hP
  have hD : va_D A (wdX5_spell cy b b_kind b_first b_second b_parts b_likes b_letters b_waiting b_made c_count (upd c_waiting ((0 : Int32)).toNatClampNeg p1) c_letters c_kind c_second c_first) := hD
  refine lv_iconst (v := (0 : Int32)) hx hb dX5_spell_11 (by decide) ?_
  refine lv_istore (lv' := [(4, .int (0 : Int32)), (3, .int (1 : Int32)), (2, .int (0 : Int32)), (0, .ref b), (1, .int p1)]) hx hb dX5_spell_12 hl (Nat.le_of_ble_eq_true rfl) rfl (fun ls hl => ?_)
  have hL14 : ∀ n14 : Nat, ∀ (v2_14 v3_14 v4_14 : Int32) (c_waiting_14 c_letters_14 : Nat → Int32) (H : Heap) (locs : List Loc) (ls : Array Slot), va_P D vwCl (wdX5_spell cy b b_kind b_first b_second b_parts b_likes b_letters b_waiting b_made c_count c_waiting_14 c_letters_14 c_kind c_second c_first) H → va_D A (wdX5_spell cy b b_kind b_first b_second b_parts b_likes b_letters b_waiting b_made c_count c_waiting_14 c_letters_14 c_kind c_second c_first) → va_S A s.heap H locs → lv_has ls 6 [(0, .ref b), (2, .int v2_14), (3, .int v3_14), (4, .int v4_14)] → fX5_spell_L14 c_kind c_second c_first n14 v2_14 v3_14 v4_14 c_waiting_14 c_letters_14 = some res → W p l e rmX5_spell s m args below meth c H locs 0 0 Q (F0 m 14 ls []) := by
    intro n14
    induction n14 with
    | zero =>
      intro v2_14 v3_14 v4_14 c_waiting_14 c_letters_14 H locs ls hP hD hS hl h
      exact zl5_0 h
    | succ n14 ih14 =>
      intro v2_14 v3_14 v4_14 c_waiting_14 c_letters_14 H locs ls hP hD hS hl h
      replace h := zl5_s h
      refine lv_iload hx hb dX5_spell_14 (lv_at hl 3 rfl) ?_
      refine lv_aload_n hx hb dX5_spell_16 rfl (lv_at hl 0 rfl) ?_
      refine va_get (D := D) (ci := 5) (v := .ref b_letters) (C := RX5) (T := TX5) (N := 9) hx hb hts uX5_spell_X5 hown hK.1 hP 0 rfl rfl 6 (by decide) (hts (.fieldLink RX5 27 "WishedResistor$Nets" "letters" "[I") (List.mem_of_getElem? (i := 2) rfl)) (fun _ h9 => h9) rfl dX5_spell_17 ?_
      refine va_alen (v := (45 : Int32)) hx hb hK.1 hP 2 0 rfl rfl rfl dX5_spell_20 ?_
      refine lv_iconst (v := (2 : Int32)) hx hb dX5_spell_21 (by decide) ?_
      refine lv_imul hx hb dX5_spell_22 ?_
      refine lv_icmp_ge (tgt := 112) hx hb dX5_spell_23 (by decide) (fun hc23 => ?_) (fun hc23 => ?_)
      · replace h := zi_t hc23 h
        refine lv_iload_n hx hb dX5_spell_112 rfl (lv_at hl 1 rfl) ?_
        exact hret (o := (v2_14, c_waiting_14, c_letters_14)) h hP hD hS dX5_spell_113
      · replace h := zi_f hc23 h
        refine lv_iload_n hx hb dX5_spell_26 rfl (lv_at hl 2 rfl) ?_
        refine lv_if_le (tgt := 112) hx hb dX5_spell_27 (by decide) (fun hc27 => ?_) (fun hc27 => ?_)
        · replace h := zi_t hc27 h
          refine lv_iload_n hx hb dX5_spell_112 rfl (lv_at hl 1 rfl) ?_
          exact hret (o := (v2_14, c_waiting_14, c_letters_14)) h hP hD hS dX5_spell_113
        · replace h := zi_f hc27 h
          refine lv_iinc (v := (v3_14 + (-1 : Int32))) (lv' := [(3, .int (v3_14 + (-1 : Int32))), (0, .ref b), (2, .int v2_14), (4, .int v4_14)]) hx hb dX5_spell_30 hl (k := 2) rfl (by rw [show (Int32.ofInt (-1)) = (-1 : Int32) from by decide]) (Nat.le_of_ble_eq_true rfl) rfl (fun ls hl => ?_)
          refine lv_aload_n hx hb dX5_spell_33 rfl (lv_at hl 1 rfl) ?_
          refine va_get (D := D) (ci := 5) (v := .ref b_waiting) (C := RX5) (T := TX5) (N := 9) hx hb hts uX5_spell_X5 hown hK.1 hP 0 rfl rfl 7 (by decide) (hts (.fieldLink RX5 30 "WishedResistor$Nets" "waiting" "[I") (List.mem_of_getElem? (i := 1) rfl)) (fun _ h9 => h9) rfl dX5_spell_34 ?_
          refine lv_iload_n hx hb dX5_spell_37 rfl (lv_at hl 0 rfl) ?_
          obtain ⟨hi38, h⟩ := zg_s h
          refine va_iald hx hb hK.1 hP 1 0 rfl rfl hi38 dX5_spell_38 ?_
          refine lv_istore (lv' := [(5, .int (c_waiting_14 ((v3_14 + (-1 : Int32))).toNatClampNeg)), (3, .int (v3_14 + (-1 : Int32))), (0, .ref b), (2, .int v2_14), (4, .int v4_14)]) hx hb dX5_spell_39 hl (Nat.le_of_ble_eq_true rfl) rfl (fun ls hl => ?_)
          refine lv_iload hx hb dX5_spell_41 (lv_at hl 0 rfl) ?_
          have hJ67 : ∀  (H : Heap) (locs : List Loc) (ls : Array Slot), va_P D vwCl (wdX5_spell cy b b_kind b_first b_second b_parts b_likes b_letters b_waiting b_made c_count c_waiting_14 c_letters_14 c_kind c_second c_first) H → va_D A (wdX5_spell cy b b_kind b_first b_second b_parts b_likes b_letters b_waiting b_made c_count c_waiting_14 c_letters_14 c_kind c_second c_first) → va_S A s.heap H locs → lv_has ls 6 [(0, .ref b), (2, .int v2_14), (3, .int (v3_14 + (-1 : Int32))), (4, .int v4_14), (5, .int (c_waiting_14 ((v3_14 + (-1 : Int32))).toNatClampNeg))] → fX5_spell_J67 c_first v2_14 v3_14 v4_14 c_waiting_14 c_letters_14 (fX5_spell_L14 c_kind c_second c_first n14) = some res → W p l e rmX5_spell s m args below meth c H locs 0 0 Q (F0 m 67 ls []) := by
            intro  H locs ls hP hD hS hl h
            refine lv_iload_n hx hb dX5_spell_67 rfl (lv_at hl 1 rfl) ?_
            refine lv_aload_n hx hb dX5_spell_68 rfl (lv_at hl 0 rfl) ?_
            refine va_get (D := D) (ci := 5) (v := .ref b_letters) (C := RX5) (T := TX5) (N := 9) hx hb hts uX5_spell_X5 hown hK.1 hP 0 rfl rfl 6 (by decide) (hts (.fieldLink RX5 27 "WishedResistor$Nets" "letters" "[I") (List.mem_of_getElem? (i := 2) rfl)) (fun _ h9 => h9) rfl dX5_spell_69 ?_
            refine va_alen (v := (45 : Int32)) hx hb hK.1 hP 2 0 rfl rfl rfl dX5_spell_72 ?_
            refine lv_icmp_ge (tgt := 106) hx hb dX5_spell_73 (by decide) (fun hc73 => ?_) (fun hc73 => ?_)
            · replace h := zi_t hc73 h
              refine lv_iinc (v := (v4_14 + (1 : Int32))) (lv' := [(4, .int (v4_14 + (1 : Int32))), (0, .ref b), (2, .int v2_14), (3, .int (v3_14 + (-1 : Int32))), (5, .int (c_waiting_14 ((v3_14 + (-1 : Int32))).toNatClampNeg))]) hx hb dX5_spell_106 hl (k := 3) rfl (by rfl) (Nat.le_of_ble_eq_true rfl) rfl (fun ls hl => ?_)
              refine lv_goto (tgt := 14) hx hb dX5_spell_109 (by decide) ?_
              exact ih14 v2_14 (v3_14 + (-1 : Int32)) (v4_14 + (1 : Int32)) c_waiting_14 c_letters_14 _ _ _ hP hD hS (lv_sub hl [1, 2, 3, 0] rfl) h
            · replace h := zi_f hc73 h
              refine lv_aload_n hx hb dX5_spell_76 rfl (lv_at hl 0 rfl) ?_
              refine va_get (D := D) (ci := 5) (v := .ref b_letters) (C := RX5) (T := TX5) (N := 9) hx hb hts uX5_spell_X5 hown hK.1 hP 0 rfl rfl 6 (by decide) (hts (.fieldLink RX5 27 "WishedResistor$Nets" "letters" "[I") (List.mem_of_getElem? (i := 2) rfl)) (fun _ h9 => h9) rfl dX5_spell_77 ?_
              refine lv_iload_n hx hb dX5_spell_80 rfl (lv_at hl 1 rfl) ?_
              refine lv_iload hx hb dX5_spell_81 (lv_at hl 4 rfl) ?_
              have hJ102 : ∀ (s2_102 : Int32) (H : Heap) (locs : List Loc) (ls : Array Slot), va_P D vwCl (wdX5_spell cy b b_kind b_first b_second b_parts b_likes b_letters b_waiting b_made c_count c_waiting_14 c_letters_14 c_kind c_second c_first) H → va_D A (wdX5_spell cy b b_kind b_first b_second b_parts b_likes b_letters b_waiting b_made c_count c_waiting_14 c_letters_14 c_kind c_second c_first) → va_S A s.heap H locs → lv_has ls 6 [(0, .ref b), (2, .int v2_14), (3, .int (v3_14 + (-1 : Int32))), (4, .int v4_14)] → fX5_spell_J102 v2_14 v3_14 v4_14 c_waiting_14 c_letters_14 (fX5_spell_L14 c_kind c_second c_first n14) s2_102 = some res → W p l e rmX5_spell s m args below meth c H locs 0 0 Q (F0 m 102 ls [.int s2_102, .int v2_14, .ref b_letters]) := by
                intro s2_102 H locs ls hP hD hS hl h
                obtain ⟨hi102, h⟩ := zg_s h
                refine va_iast hx hb hK.1 hP hD hS 2 0 rfl rfl hi102 dX5_spell_102 (fun H locs hP hD hS => ?_)
                have hP : va_P D vwCl (wdX5_spell cy b b_kind b_first b_second b_parts b_likes b_letters b_waiting b_made c_count c_waiting_14 (upd c_letters_14 (v2_14).toNatClampNeg s2_102) c_kind c_second c_first) H := hP
                have hD : va_D A (wdX5_spell cy b b_kind b_first b_second b_parts b_likes b_letters b_waiting b_made c_count c_waiting_14 (upd c_letters_14 (v2_14).toNatClampNeg s2_102) c_kind c_second c_first) := hD
                refine lv_iinc (v := (v2_14 + (1 : Int32))) (lv' := [(2, .int (v2_14 + (1 : Int32))), (0, .ref b), (3, .int (v3_14 + (-1 : Int32))), (4, .int v4_14)]) hx hb dX5_spell_103 hl (k := 1) rfl (by rfl) (Nat.le_of_ble_eq_true rfl) rfl (fun ls hl => ?_)
                refine lv_iinc (v := (v4_14 + (1 : Int32))) (lv' := [(4, .int (v4_14 + (1 : Int32))), (2, .int (v2_14 + (1 : Int32))), (0, .ref b), (3, .int (v3_14 + (-1 : Int32)))]) hx hb dX5_spell_106 hl (k := 3) rfl (by rfl) (Nat.le_of_ble_eq_true rfl) rfl (fun ls hl => ?_)
                refine lv_goto (tgt := 14) hx hb dX5_spell_109 (by decide) ?_
                exact ih14 (v2_14 + (1 : Int32)) (v3_14 + (-1 : Int32)) (v4_14 + (1 : Int32)) c_waiting_14 (upd c_letters_14 (v2_14).toNatClampNeg s2_102) _ _ _ hP hD hS (lv_sub hl [2, 1, 3, 0] rfl) h
              refine lv_if_ge (tgt := 92) hx hb dX5_spell_83 (by decide) (fun hc83 => ?_) (fun hc83 => ?_)
              · replace h := zi_t hc83 h
                refine lv_bipush (v := (97 : Int32)) hx hb dX5_spell_92 (by decide) ?_
                refine lv_aload_n hx hb dX5_spell_94 rfl (lv_at hl 0 rfl) ?_
                refine va_get (D := D) (ci := 5) (v := .ref b_first) (C := RX5) (T := TX5) (N := 9) hx hb hts uX5_spell_X5 hown hK.1 hP 0 rfl rfl 1 (by decide) (hts (.fieldLink RX5 15 "WishedResistor$Nets" "first" "[I") (List.mem_of_getElem? (i := 4) rfl)) (fun _ h9 => h9) rfl dX5_spell_95 ?_
                refine lv_iload hx hb dX5_spell_98 (lv_at hl 4 rfl) ?_
                obtain ⟨hi100, h⟩ := zg_s h
                refine va_iald hx hb hK.1 hP 5 0 rfl rfl hi100 dX5_spell_100 ?_
                refine lv_iadd hx hb dX5_spell_101 ?_
                exact hJ102 ((97 : Int32) + (c_first ((c_waiting_14 ((v3_14 + (-1 : Int32))).toNatClampNeg)).toNatClampNeg)) _ _ _ hP hD hS (lv_sub hl [0, 1, 2, 3] rfl) h
              · replace h := zi_f hc83 h
                refine lv_iload hx hb dX5_spell_86 (lv_at hl 4 rfl) ?_
                refine lv_ineg hx hb dX5_spell_88 ?_
                refine lv_goto (tgt := 102) hx hb dX5_spell_89 (by decide) ?_
                exact hJ102 (-(c_waiting_14 ((v3_14 + (-1 : Int32))).toNatClampNeg)) _ _ _ hP hD hS (lv_sub hl [0, 1, 2, 3] rfl) h
          refine lv_if_lt (tgt := 67) hx hb dX5_spell_43 (by decide) (fun hc43 => ?_) (fun hc43 => ?_)
          · replace h := zi_t hc43 h
            exact hJ67 _ _ _ hP hD hS (lv_sub hl [2, 3, 1, 4, 0] rfl) h
          · replace h := zi_f hc43 h
            refine lv_aload_n hx hb dX5_spell_46 rfl (lv_at hl 2 rfl) ?_
            refine va_get (D := D) (ci := 5) (v := .ref b_kind) (C := RX5) (T := TX5) (N := 9) hx hb hts uX5_spell_X5 hown hK.1 hP 0 rfl rfl 0 (by decide) (hts (.fieldLink RX5 9 "WishedResistor$Nets" "kind" "[I") (List.mem_of_getElem? (i := 3) rfl)) (fun _ h9 => h9) rfl dX5_spell_47 ?_
            refine lv_iload hx hb dX5_spell_50 (lv_at hl 0 rfl) ?_
            obtain ⟨hi52, h⟩ := zg_s h
            refine va_iald hx hb hK.1 hP 3 0 rfl rfl hi52 dX5_spell_52 ?_
            refine lv_if_eq (tgt := 67) hx hb dX5_spell_53 (by decide) (fun hc53 => ?_) (fun hc53 => ?_)
            · replace h := zi_t hc53 h
              exact hJ67 _ _ _ hP hD hS (lv_sub hl [2, 3, 1, 4, 0] rfl) h
            · replace h := zi_f hc53 h
              refine lv_aload_n hx hb dX5_spell_56 rfl (lv_at hl 2 rfl) ?_
              refine lv_iload hx hb dX5_spell_57 (lv_at hl 0 rfl) ?_
              refine lv_iload_n hx hb dX5_spell_59 rfl (lv_at hl 1 rfl) ?_
              obtain ⟨r60, c_waiting_r60, hq60, h⟩ := zb2_s h
              refine zCi (r0 := r60) (w1 := (wdX5_openBrackets cy b b_kind b_first b_second b_parts b_likes b_letters b_waiting b_made c_count c_waiting_r60 c_second c_kind c_first)) (ws' := (wdX5_spell cy b b_kind b_first b_second b_parts b_likes b_letters b_waiting b_made c_count c_waiting_r60 c_letters_14 c_kind c_second c_first)) (va_runV (As := [.int (c_waiting_14 ((v3_14 + (-1 : Int32))).toNatClampNeg), .int (v3_14 + (-1 : Int32))]) (rest := []) ⟨hx, hb, hml, hown, hts⟩ (mX5_openBrackets l D cy H.size b b_kind b_first b_second b_parts b_likes b_letters b_waiting b_made c_count c_waiting_14 c_second c_kind c_first (c_waiting_14 ((v3_14 + (-1 : Int32))).toNatClampNeg) (v3_14 + (-1 : Int32)) (r60, c_waiting_r60) hq60) (cwV 2 hts gX5_spell_X5_openBrackets rfl rfl rfl ⟨rfl, cdX5_openBrackets⟩ ⟨Nat.le_of_ble_eq_true rfl, Nat.le_of_ble_eq_true rfl⟩) (zPV hK hP hD [0, 1, 4, 3, 5] rfl rfl (q0 := 0) (ci := 5) rfl rfl rfl) rfl rfl hl.1 rfl (lv_room (Nat.le_of_ble_eq_true rfl)) dX5_spell_60 ⟨Nat.zero_le _, Nat.zero_le _⟩) hP hD hS hA [0, 1, 4, 3, 5] [2] [1, 2, 0, 4, 3, 5] rfl rfl rfl rfl (fun H locs hP hD hS => ?_)
              refine lv_istore_n (lv' := [(3, .int r60), (5, .int (c_waiting_14 ((v3_14 + (-1 : Int32))).toNatClampNeg)), (0, .ref b), (2, .int v2_14), (4, .int v4_14)]) hx hb dX5_spell_63 rfl hl (Nat.le_of_ble_eq_true rfl) rfl (fun ls hl => ?_)
              refine lv_goto (tgt := 106) hx hb dX5_spell_64 (by decide) ?_
              refine lv_iinc (v := (v4_14 + (1 : Int32))) (lv' := [(4, .int (v4_14 + (1 : Int32))), (3, .int r60), (5, .int (c_waiting_14 ((v3_14 + (-1 : Int32))).toNatClampNeg)), (0, .ref b), (2, .int v2_14)]) hx hb dX5_spell_106 hl (k := 4) rfl (by rfl) (Nat.le_of_ble_eq_true rfl) rfl (fun ls hl => ?_)
              refine lv_goto (tgt := 14) hx hb dX5_spell_109 (by decide) ?_
              exact ih14 v2_14 r60 (v4_14 + (1 : Int32)) c_waiting_r60 c_letters_14 _ _ _ hP hD hS (lv_sub hl [3, 4, 1, 0] rfl) h
  exact hL14 5000 (0 : Int32) (1 : Int32) (0 : Int32) (upd c_waiting ((0 : Int32)).toNatClampNeg p1) c_letters _ _ _ hP hD hS (lv_sub hl [3, 2, 1, 0] rfl) h

theorem uX6_add_X6 : ∀ w ∈ u_ws RX6 TX6 4, w ∈ wsX6_add := fun w h => (List.mem_cons_of_mem _ (List.mem_append_right _ h))
abbrev wdX6_add (cy : Nat → ClassId) (b b_kind b_sort b_waiting : Nat) (c_length : Int32) (c_kind c_sort : Nat → Int32) : va_W := [(b, .inr (6, [.ref b_kind, .ref b_sort, .int c_length, .ref b_waiting])), (b_kind, .inl (cy 0, 23, .inl c_kind)), (b_sort, .inl (cy 0, 23, .inl c_sort))]
abbrev rmX6_add : Room := { frames := 0, cells := 0, slots := 0, locals := 0 }
theorem cdX6_add : (yX6_add).cls ≠ "java/lang/invoke/MethodHandle" ∧ (yX6_add).cls ≠ "java/lang/invoke/VarHandle" ∧ (parseMethodDescriptor (yX6_add).desc).map (fun d => d.parameters.length) = some 2 := by decide +kernel
def fX6_add (p1 p2 c_length : Int32) (c_kind c_sort : Nat → Int32) : Option (Int32 × (Nat → Int32) × (Nat → Int32)) :=
  if (23 : Int32) ≤ c_length then (some (c_length, c_kind, c_sort)) else (zg (zin c_length 23) (zg (zin c_length 23) (some ((c_length + (1 : Int32)), (upd c_kind (c_length).toNatClampNeg p1), (upd c_sort (c_length).toNatClampNeg p2)))))
set_option maxHeartbeats 4000000 in
set_option maxRecDepth 100000 in
theorem mX6_add (l : Launch) (D : va_G) (cy : Nat → ClassId) (sz : Nat) (b b_kind b_sort b_waiting : Nat) (c_length : Int32) (c_kind c_sort : Nat → Int32) (p1 p2 : Int32) (res : (Int32 × (Nat → Int32) × (Nat → Int32))) (h : fX6_add p1 p2 c_length c_kind c_sort = some res) : zMv l yX6_add wsX6_add rmX6_add [.ref b, .int p1, .int p2] D cy (wdX6_add cy b b_kind b_sort b_waiting c_length c_kind c_sort) sz  ((fun (o : (Int32 × (Nat → Int32) × (Nat → Int32))) => (wdX6_add cy b b_kind b_sort b_waiting (o.1) (o.2.1) (o.2.2))) res) := by
  refine zOfv (res := res) (Wf := (fun (o : (Int32 × (Nat → Int32) × (Nat → Int32))) => (wdX6_add cy b b_kind b_sort b_waiting (o.1) (o.2.1) (o.2.2)))) (by decide +kernel) rfl (Nat.le_of_ble_eq_true rfl) ?_
  intro p e s m args below meth c A ls Q hx hb hml hts hown hP hK hD hA hS hl hret
  have hown : s.vm.findClass RX6 = some m.cls := hown
  have hl : lv_has ls 3 [(0, .ref b), (1, .int p1), (2, .int p2)] := hl
  refine lv_aload_n hx hb dX6_add_0 rfl (lv_at hl 0 rfl) ?_
  refine va_get (D := D) (ci := 6) (v := .int c_length) (C := RX6) (T := TX6) (N := 4) hx hb hts uX6_add_X6 hown hK.1 hP 0 rfl rfl 2 (by decide) (hts (.fieldLink RX6 21 "WishedResistor$Plan" "length" "I") (List.mem_of_getElem? (i := 1) rfl)) (fun _ h9 => h9) rfl dX6_add_1 ?_
  refine lv_bipush (v := (23 : Int32)) hx hb dX6_add_4 (by decide) ?_
  refine lv_icmp_ge (tgt := 39) hx hb dX6_add_6 (by decide) (fun hc6 => ?_) (fun hc6 => ?_)
  · replace h := zi_t hc6 h
    exact hret (o := (c_length, c_kind, c_sort)) h hP hD hS dX6_add_39
  · replace h := zi_f hc6 h
    refine lv_aload_n hx hb dX6_add_9 rfl (lv_at hl 0 rfl) ?_
    refine va_get (D := D) (ci := 6) (v := .ref b_kind) (C := RX6) (T := TX6) (N := 4) hx hb hts uX6_add_X6 hown hK.1 hP 0 rfl rfl 0 (by decide) (hts (.fieldLink RX6 9 "WishedResistor$Plan" "kind" "[I") (List.mem_of_getElem? (i := 2) rfl)) (fun _ h9 => h9) rfl dX6_add_10 ?_
    refine lv_aload_n hx hb dX6_add_13 rfl (lv_at hl 0 rfl) ?_
    refine va_get (D := D) (ci := 6) (v := .int c_length) (C := RX6) (T := TX6) (N := 4) hx hb hts uX6_add_X6 hown hK.1 hP 0 rfl rfl 2 (by decide) (hts (.fieldLink RX6 21 "WishedResistor$Plan" "length" "I") (List.mem_of_getElem? (i := 1) rfl)) (fun _ h9 => h9) rfl dX6_add_14 ?_
    refine lv_iload_n hx hb dX6_add_17 rfl (lv_at hl 1 rfl) ?_
    obtain ⟨hi18, h⟩ := zg_s h
    refine va_iast hx hb hK.1 hP hD hS 1 0 rfl rfl hi18 dX6_add_18 (fun H locs hP hD hS => ?_)
    have hP : va_P D vwCl (wdX6_add cy b b_kind b_sort b_waiting c_length (upd c_kind (c_length).toNatClampNeg p1) c_sort) H := hP
    have hD : va_D A (wdX6_add cy b b_kind b_sort b_waiting c_length (upd c_kind (c_length).toNatClampNeg p1) c_sort) := hD
    refine lv_aload_n hx hb dX6_add_19 rfl (lv_at hl 0 rfl) ?_
    refine va_get (D := D) (ci := 6) (v := .ref b_sort) (C := RX6) (T := TX6) (N := 4) hx hb hts uX6_add_X6 hown hK.1 hP 0 rfl rfl 1 (by decide) (hts (.fieldLink RX6 15 "WishedResistor$Plan" "sort" "[I") (List.mem_of_getElem? (i := 3) rfl)) (fun _ h9 => h9) rfl dX6_add_20 ?_
    refine lv_aload_n hx hb dX6_add_23 rfl (lv_at hl 0 rfl) ?_
    refine va_get (D := D) (ci := 6) (v := .int c_length) (C := RX6) (T := TX6) (N := 4) hx hb hts uX6_add_X6 hown hK.1 hP 0 rfl rfl 2 (by decide) (hts (.fieldLink RX6 21 "WishedResistor$Plan" "length" "I") (List.mem_of_getElem? (i := 1) rfl)) (fun _ h9 => h9) rfl dX6_add_24 ?_
    refine lv_iload_n hx hb dX6_add_27 rfl (lv_at hl 2 rfl) ?_
    obtain ⟨hi28, h⟩ := zg_s h
    refine va_iast hx hb hK.1 hP hD hS 2 0 rfl rfl hi28 dX6_add_28 (fun H locs hP hD hS => ?_)
    have hP : va_P D vwCl (wdX6_add cy b b_kind b_sort b_waiting c_length (upd c_kind (c_length).toNatClampNeg p1) (upd c_sort (c_length).toNatClampNeg p2)) H := hP
    have hD : va_D A (wdX6_add cy b b_kind b_sort b_waiting c_length (upd c_kind (c_length).toNatClampNeg p1) (upd c_sort (c_length).toNatClampNeg p2)) := hD
    refine lv_aload_n hx hb dX6_add_29 rfl (lv_at hl 0 rfl) ?_
    refine lv_dup hx hb dX6_add_30 rfl ?_
    refine va_get (D := D) (ci := 6) (v := .int c_length) (C := RX6) (T := TX6) (N := 4) hx hb hts uX6_add_X6 hown hK.1 hP 0 rfl rfl 2 (by decide) (hts (.fieldLink RX6 21 "WishedResistor$Plan" "length" "I") (List.mem_of_getElem? (i := 1) rfl)) (fun _ h9 => h9) rfl dX6_add_31 ?_
    refine lv_iconst (v := (1 : Int32)) hx hb dX6_add_34 (by decide) ?_
    refine lv_iadd hx hb dX6_add_35 ?_
    refine va_put (D := D) (ci := 6) (v := .int (c_length + (1 : Int32))) (ty := .int) (C := RX6) (T := TX6) (N := 4) hx hb hts uX6_add_X6 tyX6 tyX6_ok nmX6 hown hK.1 hP hD hS 0 rfl rfl 2 (by decide) (hts (.fieldLink RX6 21 "WishedResistor$Plan" "length" "I") (List.mem_of_getElem? (i := 1) rfl)) (fun _ h9 => h9) rfl (by decide +kernel) rfl rfl (Nat.le_of_ble_eq_true rfl) dX6_add_36 (fun H locs hP hD hS => ?_)
    have hP : va_P D vwCl (wdX6_add cy b b_kind b_sort b_waiting (c_length + (1 : Int32)) (upd c_kind (c_length).toNatClampNeg p1) (upd c_sort (c_length).toNatClampNeg p2)) H := hP
    have hD : va_D A (wdX6_add cy b b_kind b_sort b_waiting (c_length + (1 : Int32)) (upd c_kind (c_length).toNatClampNeg p1) (upd c_sort (c_length).toNatClampNeg p2)) := hD
    exact hret (o := ((c_length + (1 : Int32)), (upd c_kind (c_length).toNatClampNeg p1), (upd c_sort (c_length).toNatClampNeg p2))) h hP hD hS dX6_add_39

theorem uX8_take_X8 : ∀ w ∈ u_ws RX8 TX8 3, w ∈ wsX8_take := fun w h => (List.mem_cons_of_mem _ (List.mem_append_right _ h))
abbrev wdX8_take (cy : Nat → ClassId) (b b_letters b_joins : Nat) (c_length : Int32) (c_letters : Nat → Int32) : va_W := [(b, .inr (8, [.ref b_letters, .int c_length, .ref b_joins])), (b_letters, .inl (cy 0, 60, .inl c_letters))]
abbrev rmX8_take : Room := { frames := 0, cells := 0, slots := 0, locals := 0 }
theorem cdX8_take : (yX8_take).cls ≠ "java/lang/invoke/MethodHandle" ∧ (yX8_take).cls ≠ "java/lang/invoke/VarHandle" ∧ (parseMethodDescriptor (yX8_take).desc).map (fun d => d.parameters.length) = some 1 := by decide +kernel
def fX8_take (p1 c_length : Int32) (c_letters : Nat → Int32) : Option (Int32 × Int32 × (Nat → Int32)) :=
  if c_length < (60 : Int32) then (zg (zin c_length 60) (some ((c_length + (1 : Int32)), (c_length + (1 : Int32)), (upd c_letters (c_length).toNatClampNeg p1)))) else (some ((-3 : Int32), c_length, c_letters))
set_option maxHeartbeats 4000000 in
set_option maxRecDepth 100000 in
theorem mX8_take (l : Launch) (D : va_G) (cy : Nat → ClassId) (sz : Nat) (b b_letters b_joins : Nat) (c_length : Int32) (c_letters : Nat → Int32) (p1 : Int32) (res : (Int32 × Int32 × (Nat → Int32))) (h : fX8_take p1 c_length c_letters = some res) : zMi l yX8_take wsX8_take rmX8_take [.ref b, .int p1] D cy (wdX8_take cy b b_letters b_joins c_length c_letters) sz ((fun (o : (Int32 × Int32 × (Nat → Int32))) => o.1) res) ((fun (o : (Int32 × Int32 × (Nat → Int32))) => (wdX8_take cy b b_letters b_joins (o.2.1) (o.2.2))) res) := by
  refine zOfi (res := res) (rf := (fun (o : (Int32 × Int32 × (Nat → Int32))) => o.1)) (Wf := (fun (o : (Int32 × Int32 × (Nat → Int32))) => (wdX8_take cy b b_letters b_joins (o.2.1) (o.2.2)))) (by decide +kernel) rfl (Nat.le_of_ble_eq_true rfl) ?_
  intro p e s m args below meth c A ls Q hx hb hml hts hown hP hK hD hA hS hl hret
  have hown : s.vm.findClass RX8 = some m.cls := hown
  have hl : lv_has ls 2 [(0, .ref b), (1, .int p1)] := hl
  refine lv_aload_n hx hb dX8_take_0 rfl (lv_at hl 0 rfl) ?_
  refine va_get (D := D) (ci := 8) (v := .int c_length) (C := RX8) (T := TX8) (N := 3) hx hb hts uX8_take_X8 hown hK.1 hP 0 rfl rfl 1 (by decide) (hts (.fieldLink RX8 18 "WishedResistor$Tape" "length" "I") (List.mem_of_getElem? (i := 1) rfl)) (fun _ h9 => h9) rfl dX8_take_1 ?_
  refine lv_bipush (v := (60 : Int32)) hx hb dX8_take_4 (by decide) ?_
  refine lv_icmp_lt (tgt := 12) hx hb dX8_take_6 (by decide) (fun hc6 => ?_) (fun hc6 => ?_)
  · replace h := zi_t hc6 h
    refine lv_aload_n hx hb dX8_take_12 rfl (lv_at hl 0 rfl) ?_
    refine va_get (D := D) (ci := 8) (v := .ref b_letters) (C := RX8) (T := TX8) (N := 3) hx hb hts uX8_take_X8 hown hK.1 hP 0 rfl rfl 0 (by decide) (hts (.fieldLink RX8 9 "WishedResistor$Tape" "letters" "[I") (List.mem_of_getElem? (i := 2) rfl)) (fun _ h9 => h9) rfl dX8_take_13 ?_
    refine lv_aload_n hx hb dX8_take_16 rfl (lv_at hl 0 rfl) ?_
    refine va_get (D := D) (ci := 8) (v := .int c_length) (C := RX8) (T := TX8) (N := 3) hx hb hts uX8_take_X8 hown hK.1 hP 0 rfl rfl 1 (by decide) (hts (.fieldLink RX8 18 "WishedResistor$Tape" "length" "I") (List.mem_of_getElem? (i := 1) rfl)) (fun _ h9 => h9) rfl dX8_take_17 ?_
    refine lv_iload_n hx hb dX8_take_20 rfl (lv_at hl 1 rfl) ?_
    obtain ⟨hi21, h⟩ := zg_s h
    refine va_iast hx hb hK.1 hP hD hS 1 0 rfl rfl hi21 dX8_take_21 (fun H locs hP hD hS => ?_)
    have hP : va_P D vwCl (wdX8_take cy b b_letters b_joins c_length (upd c_letters (c_length).toNatClampNeg p1)) H := hP
    have hD : va_D A (wdX8_take cy b b_letters b_joins c_length (upd c_letters (c_length).toNatClampNeg p1)) := hD
    refine lv_aload_n hx hb dX8_take_22 rfl (lv_at hl 0 rfl) ?_
    refine lv_dup hx hb dX8_take_23 rfl ?_
    refine va_get (D := D) (ci := 8) (v := .int c_length) (C := RX8) (T := TX8) (N := 3) hx hb hts uX8_take_X8 hown hK.1 hP 0 rfl rfl 1 (by decide) (hts (.fieldLink RX8 18 "WishedResistor$Tape" "length" "I") (List.mem_of_getElem? (i := 1) rfl)) (fun _ h9 => h9) rfl dX8_take_24 ?_
    refine lv_iconst (v := (1 : Int32)) hx hb dX8_take_27 (by decide) ?_
    refine lv_iadd hx hb dX8_take_28 ?_
    refine va_put (D := D) (ci := 8) (v := .int (c_length + (1 : Int32))) (ty := .int) (C := RX8) (T := TX8) (N := 3) hx hb hts uX8_take_X8 tyX8 tyX8_ok nmX8 hown hK.1 hP hD hS 0 rfl rfl 1 (by decide) (hts (.fieldLink RX8 18 "WishedResistor$Tape" "length" "I") (List.mem_of_getElem? (i := 1) rfl)) (fun _ h9 => h9) rfl (by decide +kernel) rfl rfl (Nat.le_of_ble_eq_true rfl) dX8_take_29 (fun H locs hP hD hS => ?_)
    have hP : va_P D vwCl (wdX8_take cy b b_letters b_joins (c_length + (1 : Int32)) (upd c_letters (c_length).toNatClampNeg p1)) H := hP
    have hD : va_D A (wdX8_take cy b b_letters b_joins (c_length + (1 : Int32)) (upd c_letters (c_length).toNatClampNeg p1)) := hD
    refine lv_aload_n hx hb dX8_take_32 rfl (lv_at hl 0 rfl) ?_
    refine va_get (D := D) (ci := 8) (v := .int (c_length + (1 : Int32))) (C := RX8) (T := TX8) (N := 3) hx hb hts uX8_take_X8 hown hK.1 hP 0 rfl rfl 1 (by decide) (hts (.fieldLink RX8 18 "WishedResistor$Tape" "length" "I") (List.mem_of_getElem? (i := 1) rfl)) (fun _ h9 => h9) rfl dX8_take_33 ?_
    exact hret (o := ((c_length + (1 : Int32)), (c_length + (1 : Int32)), (upd c_letters (c_length).toNatClampNeg p1))) h hP hD hS dX8_take_36
  · replace h := zi_f hc6 h
    refine lv_bipush (v := (-3 : Int32)) hx hb dX8_take_9 (by decide) ?_
    exact hret (o := ((-3 : Int32), c_length, c_letters)) h hP hD hS dX8_take_11

abbrev rmX8_joinOf : Room := { frames := 0, cells := 0, slots := 0, locals := 0 }
theorem cdX8_joinOf : (yX8_joinOf).cls ≠ "java/lang/invoke/MethodHandle" ∧ (yX8_joinOf).cls ≠ "java/lang/invoke/VarHandle" ∧ (parseMethodDescriptor (yX8_joinOf).desc).map (fun d => d.parameters.length) = some 1 := by decide +kernel
def fX8_joinOf (p1 : Int32) : Option (Int32) :=
  if p1 = (43 : Int32) then (some ((1 : Int32))) else (if p1 = (124 : Int32) then (some ((2 : Int32))) else (some ((-1 : Int32))))
set_option maxHeartbeats 4000000 in
set_option maxRecDepth 100000 in
theorem mX8_joinOf (l : Launch) (D : va_G) (cy : Nat → ClassId) (sz : Nat) (p1 : Int32) (res : (Int32)) (h : fX8_joinOf p1 = some res) : zMi l yX8_joinOf wsX8_joinOf rmX8_joinOf [.int p1] D cy ([] : va_W) sz ((fun (o : (Int32)) => o) res) ((fun (_ : (Int32)) => ([] : va_W)) res) := by
  refine zOfi (res := res) (rf := (fun (o : (Int32)) => o)) (Wf := (fun (_ : (Int32)) => ([] : va_W))) (by decide +kernel) rfl (Nat.le_of_ble_eq_true rfl) ?_
  intro p e s m args below meth c A ls Q hx hb hml hts hown hP hK hD hA hS hl hret
  have hown : s.vm.findClass RX8 = some m.cls := hown
  have hl : lv_has ls 1 [(0, .int p1)] := hl
  refine lv_iload_n hx hb dX8_joinOf_0 rfl (lv_at hl 0 rfl) ?_
  refine lv_bipush (v := (43 : Int32)) hx hb dX8_joinOf_1 (by decide) ?_
  refine lv_icmp_ne (tgt := 10) hx hb dX8_joinOf_3 (by decide) (fun hc3 => ?_) (fun hc3 => ?_)
  · replace h := zi_f hc3 h
    refine lv_iload_n hx hb dX8_joinOf_10 rfl (lv_at hl 0 rfl) ?_
    refine lv_bipush (v := (124 : Int32)) hx hb dX8_joinOf_11 (by decide) ?_
    refine lv_icmp_ne (tgt := 20) hx hb dX8_joinOf_13 (by decide) (fun hc13 => ?_) (fun hc13 => ?_)
    · replace h := zi_f hc13 h
      refine lv_iconst (v := (-1 : Int32)) hx hb dX8_joinOf_20 (by decide) ?_
      exact hret (o := ((-1 : Int32))) h hP hD hS dX8_joinOf_21
    · replace h := zi_t hc13 h
      refine lv_iconst (v := (2 : Int32)) hx hb dX8_joinOf_16 (by decide) ?_
      refine lv_goto (tgt := 21) hx hb dX8_joinOf_17 (by decide) ?_
      exact hret (o := ((2 : Int32))) h hP hD hS dX8_joinOf_21
  · replace h := zi_t hc3 h
    refine lv_iconst (v := (1 : Int32)) hx hb dX8_joinOf_6 (by decide) ?_
    refine lv_goto (tgt := 21) hx hb dX8_joinOf_7 (by decide) ?_
    exact hret (o := ((1 : Int32))) h hP hD hS dX8_joinOf_21

theorem uX8_faultOrPlan_X6 : ∀ w ∈ u_ws RX6 TX6 4, w ∈ wsX8_faultOrPlan := fun w h => (List.mem_cons_of_mem _ (List.mem_append_left _ (List.mem_append_left _ (List.mem_append_right _ h))))
theorem uX8_faultOrPlan_X8 : ∀ w ∈ u_ws RX8 TX8 3, w ∈ wsX8_faultOrPlan := fun w h => (List.mem_cons_of_mem _ (List.mem_append_left _ (List.mem_append_right _ h)))
abbrev wdX8_faultOrPlan (cy : Nat → ClassId) (bp2 bp2_kind bp2_sort bp2_waiting b b_letters b_joins bp1 bp1_ohms bp1_spread : Nat) (cp2_length c_length : Int32) (c_letters c_joins cp1_ohms cp2_kind cp2_sort : Nat → Int32) : va_W := [(bp2, .inr (6, [.ref bp2_kind, .ref bp2_sort, .int cp2_length, .ref bp2_waiting])), (b, .inr (8, [.ref b_letters, .int c_length, .ref b_joins])), (b_letters, .inl (cy 0, 60, .inl c_letters)), (b_joins, .inl (cy 0, 11, .inl c_joins)), (bp1, .inr (0, [.ref bp1_ohms, .ref bp1_spread])), (bp1_ohms, .inl (cy 0, 4, .inl cp1_ohms)), (bp2_kind, .inl (cy 0, 23, .inl cp2_kind)), (bp2_sort, .inl (cy 0, 23, .inl cp2_sort))]
abbrev rmX8_faultOrPlan : Room := { frames := 2, cells := 0, slots := 0, locals := 41 }
theorem cdX8_faultOrPlan : (yX8_faultOrPlan).cls ≠ "java/lang/invoke/MethodHandle" ∧ (yX8_faultOrPlan).cls ≠ "java/lang/invoke/VarHandle" ∧ (parseMethodDescriptor (yX8_faultOrPlan).desc).map (fun d => d.parameters.length) = some 2 := by decide +kernel
def fX8_faultOrPlan_J205 (c_length : Int32) (v3_205 v5_205 cp2_length_205 : Int32) (c_joins_205 cp2_kind_205 cp2_sort_205 : Nat → Int32) : Option (Int32 × Int32 × (Nat → Int32) × (Nat → Int32) × (Nat → Int32)) :=
  if v5_205 = 0 then (if v3_205 ≤ 0 then (some ((-1 : Int32), cp2_length_205, c_joins_205, cp2_kind_205, cp2_sort_205)) else (some (c_length, cp2_length_205, c_joins_205, cp2_kind_205, cp2_sort_205))) else (some (c_length, cp2_length_205, c_joins_205, cp2_kind_205, cp2_sort_205))
def fX8_faultOrPlan_J160 (c_letters : Nat → Int32) (v3_16 v4_16 v5_16 v6_16 cp2_length_16 : Int32) (c_joins_16 cp2_kind_16 cp2_sort_16 : Nat → Int32) (rec16 : Int32 → Int32 → Int32 → Int32 → Int32 → (Nat → Int32) → (Nat → Int32) → (Nat → Int32) → Option (Int32 × Int32 × (Nat → Int32) × (Nat → Int32) × (Nat → Int32)))  : Option (Int32 × Int32 × (Nat → Int32) × (Nat → Int32) × (Nat → Int32)) :=
  zg (zin (v3_16 - (1 : Int32)) 11) (if (c_joins_16 ((v3_16 - (1 : Int32))).toNatClampNeg) = (-1 : Int32) then (some (v6_16, cp2_length_16, c_joins_16, cp2_kind_16, cp2_sort_16)) else (if (c_letters (v6_16).toNatClampNeg) = (41 : Int32) then (zg (zin (v3_16 + (-1 : Int32)) 11) (zb3 (fX6_add (c_joins_16 ((v3_16 + (-1 : Int32))).toNatClampNeg) (-1 : Int32) cp2_length_16 cp2_kind_16 cp2_sort_16) (fun cp2_length_r190 cp2_kind_r190 cp2_sort_r190 => rec16 (v3_16 + (-1 : Int32)) v4_16 v5_16 (v6_16 + (1 : Int32)) cp2_length_r190 c_joins_16 cp2_kind_r190 cp2_sort_r190))) else (some (v6_16, cp2_length_16, c_joins_16, cp2_kind_16, cp2_sort_16))))
def fX8_faultOrPlan_J108 (c_letters : Nat → Int32) (v3_16 v4_16 v5_16 v6_16 cp2_length_16 : Int32) (c_joins_16 cp2_kind_16 cp2_sort_16 : Nat → Int32) (rec16 : Int32 → Int32 → Int32 → Int32 → Int32 → (Nat → Int32) → (Nat → Int32) → (Nat → Int32) → Option (Int32 × Int32 × (Nat → Int32) × (Nat → Int32) × (Nat → Int32)))  : Option (Int32 × Int32 × (Nat → Int32) × (Nat → Int32) × (Nat → Int32)) :=
  if v5_16 = 0 then (if v3_16 = 0 then (some (v6_16, cp2_length_16, c_joins_16, cp2_kind_16, cp2_sort_16)) else (zg (zin (v3_16 - (1 : Int32)) 11) (if (c_joins_16 ((v3_16 - (1 : Int32))).toNatClampNeg) = (-1 : Int32) then (zb1 (fX8_joinOf (c_letters (v6_16).toNatClampNeg)) (fun r134 => if r134 = (-1 : Int32) then (fX8_faultOrPlan_J160 c_letters v3_16 v4_16 v5_16 v6_16 cp2_length_16 c_joins_16 cp2_kind_16 cp2_sort_16 rec16) else (zb1 (fX8_joinOf (c_letters (v6_16).toNatClampNeg)) (fun r150 => zg (zin (v3_16 - (1 : Int32)) 11) (rec16 v3_16 v4_16 (1 : Int32) (v6_16 + (1 : Int32)) cp2_length_16 (upd c_joins_16 ((v3_16 - (1 : Int32))).toNatClampNeg r150) cp2_kind_16 cp2_sort_16))))) else (fX8_faultOrPlan_J160 c_letters v3_16 v4_16 v5_16 v6_16 cp2_length_16 c_joins_16 cp2_kind_16 cp2_sort_16 rec16)))) else (some (v6_16, cp2_length_16, c_joins_16, cp2_kind_16, cp2_sort_16))
def fX8_faultOrPlan_J65 (c_letters cp1_ohms : Nat → Int32) (v3_16 v4_16 v5_16 v6_16 cp2_length_16 : Int32) (c_joins_16 cp2_kind_16 cp2_sort_16 : Nat → Int32) (rec16 : Int32 → Int32 → Int32 → Int32 → Int32 → (Nat → Int32) → (Nat → Int32) → (Nat → Int32) → Option (Int32 × Int32 × (Nat → Int32) × (Nat → Int32) × (Nat → Int32)))  : Option (Int32 × Int32 × (Nat → Int32) × (Nat → Int32) × (Nat → Int32)) :=
  if v5_16 = 0 then (fX8_faultOrPlan_J108 c_letters v3_16 v4_16 v5_16 v6_16 cp2_length_16 c_joins_16 cp2_kind_16 cp2_sort_16 rec16) else (zb1 (fX0_has ((c_letters (v6_16).toNatClampNeg) - (97 : Int32)) cp1_ohms) (fun r76 => if r76 = 0 then (fX8_faultOrPlan_J108 c_letters v3_16 v4_16 v5_16 v6_16 cp2_length_16 c_joins_16 cp2_kind_16 cp2_sort_16 rec16) else (if (12 : Int32) ≤ v4_16 then (fX8_faultOrPlan_J108 c_letters v3_16 v4_16 v5_16 v6_16 cp2_length_16 c_joins_16 cp2_kind_16 cp2_sort_16 rec16) else (zb3 (fX6_add (0 : Int32) ((c_letters (v6_16).toNatClampNeg) - (97 : Int32)) cp2_length_16 cp2_kind_16 cp2_sort_16) (fun cp2_length_r96 cp2_kind_r96 cp2_sort_r96 => rec16 v3_16 (v4_16 + (1 : Int32)) (0 : Int32) (v6_16 + (1 : Int32)) cp2_length_r96 c_joins_16 cp2_kind_r96 cp2_sort_r96)))))
def fX8_faultOrPlan_L16 (k205_16 : Int32 → Int32 → Int32 → (Nat → Int32) → (Nat → Int32) → (Nat → Int32) → Option (Int32 × Int32 × (Nat → Int32) × (Nat → Int32) × (Nat → Int32))) (c_length : Int32) (c_letters cp1_ohms : Nat → Int32) : Nat → Int32 → Int32 → Int32 → Int32 → Int32 → (Nat → Int32) → (Nat → Int32) → (Nat → Int32) → Option (Int32 × Int32 × (Nat → Int32) × (Nat → Int32) × (Nat → Int32)) :=
  zl8 (fun rec16 v3_16 v4_16 v5_16 v6_16 cp2_length_16 c_joins_16 cp2_kind_16 cp2_sort_16 => if c_length ≤ v6_16 then (k205_16 v3_16 v5_16 cp2_length_16 c_joins_16 cp2_kind_16 cp2_sort_16) else (zg (zin v6_16 60) (if v5_16 = 0 then (fX8_faultOrPlan_J65 c_letters cp1_ohms v3_16 v4_16 v5_16 v6_16 cp2_length_16 c_joins_16 cp2_kind_16 cp2_sort_16 rec16) else (if (c_letters (v6_16).toNatClampNeg) = (40 : Int32) then (if (11 : Int32) ≤ v3_16 then (fX8_faultOrPlan_J65 c_letters cp1_ohms v3_16 v4_16 v5_16 v6_16 cp2_length_16 c_joins_16 cp2_kind_16 cp2_sort_16 rec16) else (zg (zin v3_16 11) (rec16 (v3_16 + (1 : Int32)) v4_16 v5_16 (v6_16 + (1 : Int32)) cp2_length_16 (upd c_joins_16 (v3_16).toNatClampNeg (-1 : Int32)) cp2_kind_16 cp2_sort_16))) else (fX8_faultOrPlan_J65 c_letters cp1_ohms v3_16 v4_16 v5_16 v6_16 cp2_length_16 c_joins_16 cp2_kind_16 cp2_sort_16 rec16)))))
def fX8_faultOrPlan (cp2_length c_length : Int32) (c_letters c_joins cp1_ohms cp2_kind cp2_sort : Nat → Int32) : Option (Int32 × Int32 × (Nat → Int32) × (Nat → Int32) × (Nat → Int32)) :=
  fX8_faultOrPlan_L16 (fX8_faultOrPlan_J205 c_length) c_length c_letters cp1_ohms 5000 (0 : Int32) (0 : Int32) (1 : Int32) (0 : Int32) (0 : Int32) c_joins cp2_kind cp2_sort
set_option maxHeartbeats 4000000 in
set_option maxRecDepth 100000 in
theorem mX8_faultOrPlan (l : Launch) (D : va_G) (cy : Nat → ClassId) (sz : Nat) (bp2 bp2_kind bp2_sort bp2_waiting b b_letters b_joins bp1 bp1_ohms bp1_spread : Nat) (cp2_length c_length : Int32) (c_letters c_joins cp1_ohms cp2_kind cp2_sort : Nat → Int32) (res : (Int32 × Int32 × (Nat → Int32) × (Nat → Int32) × (Nat → Int32))) (h : fX8_faultOrPlan cp2_length c_length c_letters c_joins cp1_ohms cp2_kind cp2_sort = some res) : zMi l yX8_faultOrPlan wsX8_faultOrPlan rmX8_faultOrPlan [.ref b, .ref bp1, .ref bp2] D cy (wdX8_faultOrPlan cy bp2 bp2_kind bp2_sort bp2_waiting b b_letters b_joins bp1 bp1_ohms bp1_spread cp2_length c_length c_letters c_joins cp1_ohms cp2_kind cp2_sort) sz ((fun (o : (Int32 × Int32 × (Nat → Int32) × (Nat → Int32) × (Nat → Int32))) => o.1) res) ((fun (o : (Int32 × Int32 × (Nat → Int32) × (Nat → Int32) × (Nat → Int32))) => (wdX8_faultOrPlan cy bp2 bp2_kind bp2_sort bp2_waiting b b_letters b_joins bp1 bp1_ohms bp1_spread (o.2.1) c_length c_letters (o.2.2.1) cp1_ohms (o.2.2.2.1) (o.2.2.2.2))) res) := by
  refine zOfi (res := res) (rf := (fun (o : (Int32 × Int32 × (Nat → Int32) × (Nat → Int32) × (Nat → Int32))) => o.1)) (Wf := (fun (o : (Int32 × Int32 × (Nat → Int32) × (Nat → Int32) × (Nat → Int32))) => (wdX8_faultOrPlan cy bp2 bp2_kind bp2_sort bp2_waiting b b_letters b_joins bp1 bp1_ohms bp1_spread (o.2.1) c_length c_letters (o.2.2.1) cp1_ohms (o.2.2.2.1) (o.2.2.2.2)))) (by decide +kernel) rfl (Nat.le_of_ble_eq_true rfl) ?_
  intro p e s m args below meth c A ls Q hx hb hml hts hown hP hK hD hA hS hl hret
  have hown : s.vm.findClass RX8 = some m.cls := hown
  have hl : lv_has ls 8 [(0, .ref b), (1, .ref bp1), (2, .ref bp2)] := hl
  refine lv_aload_n hx hb dX8_faultOrPlan_0 rfl (lv_at hl 2 rfl) ?_
  refine lv_iconst (v := (0 : Int32)) hx hb dX8_faultOrPlan_1 (by decide) ?_
  refine va_put (D := D) (ci := 6) (v := .int (0 : Int32)) (ty := .int) (C := RX6) (T := TX6) (N := 4) hx hb hts uX8_faultOrPlan_X6 tyX6 tyX6_ok nmX6 hown hK.1 hP hD hS 0 rfl rfl 2 (by decide) (hts (.fieldLink RX8 22 "WishedResistor$Plan" "length" "I") (List.mem_of_getElem? (i := 1) rfl)) (fun _ h9 => h9) rfl (by decide +kernel) rfl rfl (Nat.le_of_ble_eq_true rfl) dX8_faultOrPlan_2 (fun H locs hP hD hS => ?_)
  have hP : va_P D vwCl (wdX8_faultOrPlan cy bp2 bp2_kind bp2_sort bp2_waiting b b_letters b_joins bp1 bp1_ohms bp1_spread (0 : Int32) c_length c_letters c_joins cp1_ohms cp2_kind cp2_sort) H := hP
  have hD : va_D A (wdX8_faultOrPlan cy bp2 bp2_kind bp2_sort bp2_waiting b b_letters b_joins bp1 bp1_ohms bp1_spread (0 : Int32) c_length c_letters c_joins cp1_ohms cp2_kind cp2_sort) := hD
  refine lv_iconst (v := (0 : Int32)) hx hb dX8_faultOrPlan_5 (by decide) ?_
  refine lv_istore_n (lv' := [(3, .int (0 : Int32)), (0, .ref b), (1, .ref bp1), (2, .ref bp2)]) hx hb dX8_faultOrPlan_6 rfl hl (Nat.le_of_ble_eq_true rfl) rfl (fun ls hl => ?_)
  refine lv_iconst (v := (0 : Int32)) hx hb dX8_faultOrPlan_7 (by decide) ?_
  refine lv_istore (lv' := [(4, .int (0 : Int32)), (3, .int (0 : Int32)), (0, .ref b), (1, .ref bp1), (2, .ref bp2)]) hx hb dX8_faultOrPlan_8 hl (Nat.le_of_ble_eq_true rfl) rfl (fun ls hl => ?_)
  refine lv_iconst (v := (1 : Int32)) hx hb dX8_faultOrPlan_10 (by decide) ?_
  refine lv_istore (lv' := [(5, .int (1 : Int32)), (4, .int (0 : Int32)), (3, .int (0 : Int32)), (0, .ref b), (1, .ref bp1), (2, .ref bp2)]) hx hb dX8_faultOrPlan_11 hl (Nat.le_of_ble_eq_true rfl) rfl (fun ls hl => ?_)
  refine lv_iconst (v := (0 : Int32)) hx hb dX8_faultOrPlan_13 (by decide) ?_
  refine lv_istore (lv' := [(6, .int (0 : Int32)), (5, .int (1 : Int32)), (4, .int (0 : Int32)), (3, .int (0 : Int32)), (0, .ref b), (1, .ref bp1), (2, .ref bp2)]) hx hb dX8_faultOrPlan_14 hl (Nat.le_of_ble_eq_true rfl) rfl (fun ls hl => ?_)
  have hJ205 : ∀ (v3_205 v5_205 cp2_length_205 : Int32) (c_joins_205 cp2_kind_205 cp2_sort_205 : Nat → Int32) (H : Heap) (locs : List Loc) (ls : Array Slot), va_P D vwCl (wdX8_faultOrPlan cy bp2 bp2_kind bp2_sort bp2_waiting b b_letters b_joins bp1 bp1_ohms bp1_spread cp2_length_205 c_length c_letters c_joins_205 cp1_ohms cp2_kind_205 cp2_sort_205) H → va_D A (wdX8_faultOrPlan cy bp2 bp2_kind bp2_sort bp2_waiting b b_letters b_joins bp1 bp1_ohms bp1_spread cp2_length_205 c_length c_letters c_joins_205 cp1_ohms cp2_kind_205 cp2_sort_205) → va_S A s.heap H locs → lv_has ls 8 [(0, .ref b), (3, .int v3_205), (5, .int v5_205)] → fX8_faultOrPlan_J205 c_length v3_205 v5_205 cp2_length_205 c_joins_205 cp2_kind_205 cp2_sort_205 = some res → W p l e rmX8_faultOrPlan s m args below meth c H locs 0 0 Q (F0 m 205 ls []) := by
    intro v3_205 v5_205 cp2_length_205 c_joins_205 cp2_kind_205 cp2_sort_205 H locs ls hP hD hS hl h
    refine lv_iload hx hb dX8_faultOrPlan_205 (lv_at hl 2 rfl) ?_
    refine lv_if_ne (tgt := 214) hx hb dX8_faultOrPlan_207 (by decide) (fun hc207 => ?_) (fun hc207 => ?_)
    · replace h := zi_f hc207 h
      refine lv_aload_n hx hb dX8_faultOrPlan_214 rfl (lv_at hl 0 rfl) ?_
      refine va_get (D := D) (ci := 8) (v := .int c_length) (C := RX8) (T := TX8) (N := 3) hx hb hts uX8_faultOrPlan_X8 hown hK.1 hP 1 rfl rfl 1 (by decide) (hts (.fieldLink RX8 18 "WishedResistor$Tape" "length" "I") (List.mem_of_getElem? (i := 2) rfl)) (fun _ h9 => h9) rfl dX8_faultOrPlan_215 ?_
      refine lv_goto (tgt := 222) hx hb dX8_faultOrPlan_218 (by decide) ?_
      exact hret (o := (c_length, cp2_length_205, c_joins_205, cp2_kind_205, cp2_sort_205)) h hP hD hS dX8_faultOrPlan_222
    · replace h := zi_t hc207 h
      refine lv_iload_n hx hb dX8_faultOrPlan_210 rfl (lv_at hl 1 rfl) ?_
      refine lv_if_le (tgt := 221) hx hb dX8_faultOrPlan_211 (by decide) (fun hc211 => ?_) (fun hc211 => ?_)
      · replace h := zi_t hc211 h
        refine lv_iconst (v := (-1 : Int32)) hx hb dX8_faultOrPlan_221 (by decide) ?_
        exact hret (o := ((-1 : Int32), cp2_length_205, c_joins_205, cp2_kind_205, cp2_sort_205)) h hP hD hS dX8_faultOrPlan_222
      · replace h := zi_f hc211 h
        refine lv_aload_n hx hb dX8_faultOrPlan_214 rfl (lv_at hl 0 rfl) ?_
        refine va_get (D := D) (ci := 8) (v := .int c_length) (C := RX8) (T := TX8) (N := 3) hx hb hts uX8_faultOrPlan_X8 hown hK.1 hP 1 rfl rfl 1 (by decide) (hts (.fieldLink RX8 18 "WishedResistor$Tape" "length" "I") (List.mem_of_getElem? (i := 2) rfl)) (fun _ h9 => h9) rfl dX8_faultOrPlan_215 ?_
        refine lv_goto (tgt := 222) hx hb dX8_faultOrPlan_218 (by decide) ?_
        exact hret (o := (c_length, cp2_length_205, c_joins_205, cp2_kind_205, cp2_sort_205)) h hP hD hS dX8_faultOrPlan_222
  have hL16 : ∀ n16 : Nat, ∀ (v3_16 v4_16 v5_16 v6_16 cp2_length_16 : Int32) (c_joins_16 cp2_kind_16 cp2_sort_16 : Nat → Int32) (H : Heap) (locs : List Loc) (ls : Array Slot), va_P D vwCl (wdX8_faultOrPlan cy bp2 bp2_kind bp2_sort bp2_waiting b b_letters b_joins bp1 bp1_ohms bp1_spread cp2_length_16 c_length c_letters c_joins_16 cp1_ohms cp2_kind_16 cp2_sort_16) H → va_D A (wdX8_faultOrPlan cy bp2 bp2_kind bp2_sort bp2_waiting b b_letters b_joins bp1 bp1_ohms bp1_spread cp2_length_16 c_length c_letters c_joins_16 cp1_ohms cp2_kind_16 cp2_sort_16) → va_S A s.heap H locs → lv_has ls 8 [(0, .ref b), (1, .ref bp1), (2, .ref bp2), (3, .int v3_16), (4, .int v4_16), (5, .int v5_16), (6, .int v6_16)] → fX8_faultOrPlan_L16 (fX8_faultOrPlan_J205 c_length) c_length c_letters cp1_ohms n16 v3_16 v4_16 v5_16 v6_16 cp2_length_16 c_joins_16 cp2_kind_16 cp2_sort_16 = some res → W p l e rmX8_faultOrPlan s m args below meth c H locs 0 0 Q (F0 m 16 ls []) := by
    intro n16
    induction n16 with
    | zero =>
      intro v3_16 v4_16 v5_16 v6_16 cp2_length_16 c_joins_16 cp2_kind_16 cp2_sort_16 H locs ls hP hD hS hl h
      exact zl8_0 h
    | succ n16 ih16 =>
      intro v3_16 v4_16 v5_16 v6_16 cp2_length_16 c_joins_16 cp2_kind_16 cp2_sort_16 H locs ls hP hD hS hl h
      replace h := zl8_s h
      refine lv_iload hx hb dX8_faultOrPlan_16 (lv_at hl 6 rfl) ?_
      refine lv_aload_n hx hb dX8_faultOrPlan_18 rfl (lv_at hl 0 rfl) ?_
      refine va_get (D := D) (ci := 8) (v := .int c_length) (C := RX8) (T := TX8) (N := 3) hx hb hts uX8_faultOrPlan_X8 hown hK.1 hP 1 rfl rfl 1 (by decide) (hts (.fieldLink RX8 18 "WishedResistor$Tape" "length" "I") (List.mem_of_getElem? (i := 2) rfl)) (fun _ h9 => h9) rfl dX8_faultOrPlan_19 ?_
      refine lv_icmp_ge (tgt := 205) hx hb dX8_faultOrPlan_22 (by decide) (fun hc22 => ?_) (fun hc22 => ?_)
      · replace h := zi_t hc22 h
        exact hJ205 v3_16 v5_16 cp2_length_16 c_joins_16 cp2_kind_16 cp2_sort_16 _ _ _ hP hD hS (lv_sub hl [0, 3, 5] rfl) h
      · replace h := zi_f hc22 h
        refine lv_aload_n hx hb dX8_faultOrPlan_25 rfl (lv_at hl 0 rfl) ?_
        refine va_get (D := D) (ci := 8) (v := .ref b_letters) (C := RX8) (T := TX8) (N := 3) hx hb hts uX8_faultOrPlan_X8 hown hK.1 hP 1 rfl rfl 0 (by decide) (hts (.fieldLink RX8 9 "WishedResistor$Tape" "letters" "[I") (List.mem_of_getElem? (i := 3) rfl)) (fun _ h9 => h9) rfl dX8_faultOrPlan_26 ?_
        refine lv_iload hx hb dX8_faultOrPlan_29 (lv_at hl 6 rfl) ?_
        obtain ⟨hi31, h⟩ := zg_s h
        refine va_iald hx hb hK.1 hP 2 0 rfl rfl hi31 dX8_faultOrPlan_31 ?_
        refine lv_istore (lv' := [(7, .int (c_letters (v6_16).toNatClampNeg)), (0, .ref b), (1, .ref bp1), (2, .ref bp2), (3, .int v3_16), (4, .int v4_16), (5, .int v5_16), (6, .int v6_16)]) hx hb dX8_faultOrPlan_32 hl (Nat.le_of_ble_eq_true rfl) rfl (fun ls hl => ?_)
        refine lv_iload hx hb dX8_faultOrPlan_34 (lv_at hl 6 rfl) ?_
        have hJ65 : ∀  (H : Heap) (locs : List Loc) (ls : Array Slot), va_P D vwCl (wdX8_faultOrPlan cy bp2 bp2_kind bp2_sort bp2_waiting b b_letters b_joins bp1 bp1_ohms bp1_spread cp2_length_16 c_length c_letters c_joins_16 cp1_ohms cp2_kind_16 cp2_sort_16) H → va_D A (wdX8_faultOrPlan cy bp2 bp2_kind bp2_sort bp2_waiting b b_letters b_joins bp1 bp1_ohms bp1_spread cp2_length_16 c_length c_letters c_joins_16 cp1_ohms cp2_kind_16 cp2_sort_16) → va_S A s.heap H locs → lv_has ls 8 [(0, .ref b), (1, .ref bp1), (2, .ref bp2), (3, .int v3_16), (4, .int v4_16), (5, .int v5_16), (6, .int v6_16), (7, .int (c_letters (v6_16).toNatClampNeg))] → fX8_faultOrPlan_J65 c_letters cp1_ohms v3_16 v4_16 v5_16 v6_16 cp2_length_16 c_joins_16 cp2_kind_16 cp2_sort_16 (fX8_faultOrPlan_L16 (fX8_faultOrPlan_J205 c_length) c_length c_letters cp1_ohms n16) = some res → W p l e rmX8_faultOrPlan s m args below meth c H locs 0 0 Q (F0 m 65 ls []) := by
          intro  H locs ls hP hD hS hl h
          refine lv_iload hx hb dX8_faultOrPlan_65 (lv_at hl 5 rfl) ?_
          have hJ108 : ∀  (H : Heap) (locs : List Loc) (ls : Array Slot), va_P D vwCl (wdX8_faultOrPlan cy bp2 bp2_kind bp2_sort bp2_waiting b b_letters b_joins bp1 bp1_ohms bp1_spread cp2_length_16 c_length c_letters c_joins_16 cp1_ohms cp2_kind_16 cp2_sort_16) H → va_D A (wdX8_faultOrPlan cy bp2 bp2_kind bp2_sort bp2_waiting b b_letters b_joins bp1 bp1_ohms bp1_spread cp2_length_16 c_length c_letters c_joins_16 cp1_ohms cp2_kind_16 cp2_sort_16) → va_S A s.heap H locs → lv_has ls 8 [(0, .ref b), (1, .ref bp1), (2, .ref bp2), (3, .int v3_16), (4, .int v4_16), (5, .int v5_16), (6, .int v6_16), (7, .int (c_letters (v6_16).toNatClampNeg))] → fX8_faultOrPlan_J108 c_letters v3_16 v4_16 v5_16 v6_16 cp2_length_16 c_joins_16 cp2_kind_16 cp2_sort_16 (fX8_faultOrPlan_L16 (fX8_faultOrPlan_J205 c_length) c_length c_letters cp1_ohms n16) = some res → W p l e rmX8_faultOrPlan s m args below meth c H locs 0 0 Q (F0 m 108 ls []) := by
            intro  H locs ls hP hD hS hl h
            refine lv_iload hx hb dX8_faultOrPlan_108 (lv_at hl 5 rfl) ?_
            refine lv_if_ne (tgt := 117) hx hb dX8_faultOrPlan_110 (by decide) (fun hc110 => ?_) (fun hc110 => ?_)
            · replace h := zi_f hc110 h
              refine lv_iload hx hb dX8_faultOrPlan_117 (lv_at hl 6 rfl) ?_
              exact hret (o := (v6_16, cp2_length_16, c_joins_16, cp2_kind_16, cp2_sort_16)) h hP hD hS dX8_faultOrPlan_119
            · replace h := zi_t hc110 h
              refine lv_iload_n hx hb dX8_faultOrPlan_113 rfl (lv_at hl 3 rfl) ?_
              refine lv_if_ne (tgt := 120) hx hb dX8_faultOrPlan_114 (by decide) (fun hc114 => ?_) (fun hc114 => ?_)
              · replace h := zi_f hc114 h
                refine lv_aload_n hx hb dX8_faultOrPlan_120 rfl (lv_at hl 0 rfl) ?_
                refine va_get (D := D) (ci := 8) (v := .ref b_joins) (C := RX8) (T := TX8) (N := 3) hx hb hts uX8_faultOrPlan_X8 hown hK.1 hP 1 rfl rfl 2 (by decide) (hts (.fieldLink RX8 15 "WishedResistor$Tape" "joins" "[I") (List.mem_of_getElem? (i := 4) rfl)) (fun _ h9 => h9) rfl dX8_faultOrPlan_121 ?_
                refine lv_iload_n hx hb dX8_faultOrPlan_124 rfl (lv_at hl 3 rfl) ?_
                refine lv_iconst (v := (1 : Int32)) hx hb dX8_faultOrPlan_125 (by decide) ?_
                refine lv_isub hx hb dX8_faultOrPlan_126 ?_
                obtain ⟨hi127, h⟩ := zg_s h
                refine va_iald hx hb hK.1 hP 3 0 rfl rfl hi127 dX8_faultOrPlan_127 ?_
                refine lv_iconst (v := (-1 : Int32)) hx hb dX8_faultOrPlan_128 (by decide) ?_
                have hJ160 : ∀  (H : Heap) (locs : List Loc) (ls : Array Slot), va_P D vwCl (wdX8_faultOrPlan cy bp2 bp2_kind bp2_sort bp2_waiting b b_letters b_joins bp1 bp1_ohms bp1_spread cp2_length_16 c_length c_letters c_joins_16 cp1_ohms cp2_kind_16 cp2_sort_16) H → va_D A (wdX8_faultOrPlan cy bp2 bp2_kind bp2_sort bp2_waiting b b_letters b_joins bp1 bp1_ohms bp1_spread cp2_length_16 c_length c_letters c_joins_16 cp1_ohms cp2_kind_16 cp2_sort_16) → va_S A s.heap H locs → lv_has ls 8 [(0, .ref b), (1, .ref bp1), (2, .ref bp2), (3, .int v3_16), (4, .int v4_16), (5, .int v5_16), (6, .int v6_16), (7, .int (c_letters (v6_16).toNatClampNeg))] → fX8_faultOrPlan_J160 c_letters v3_16 v4_16 v5_16 v6_16 cp2_length_16 c_joins_16 cp2_kind_16 cp2_sort_16 (fX8_faultOrPlan_L16 (fX8_faultOrPlan_J205 c_length) c_length c_letters cp1_ohms n16) = some res → W p l e rmX8_faultOrPlan s m args below meth c H locs 0 0 Q (F0 m 160 ls []) := by
                  intro  H locs ls hP hD hS hl h
                  refine lv_aload_n hx hb dX8_faultOrPlan_160 rfl (lv_at hl 0 rfl) ?_
                  refine va_get (D := D) (ci := 8) (v := .ref b_joins) (C := RX8) (T := TX8) (N := 3) hx hb hts uX8_faultOrPlan_X8 hown hK.1 hP 1 rfl rfl 2 (by decide) (hts (.fieldLink RX8 15 "WishedResistor$Tape" "joins" "[I") (List.mem_of_getElem? (i := 4) rfl)) (fun _ h9 => h9) rfl dX8_faultOrPlan_161 ?_
                  refine lv_iload_n hx hb dX8_faultOrPlan_164 rfl (lv_at hl 3 rfl) ?_
                  refine lv_iconst (v := (1 : Int32)) hx hb dX8_faultOrPlan_165 (by decide) ?_
                  refine lv_isub hx hb dX8_faultOrPlan_166 ?_
                  obtain ⟨hi167, h⟩ := zg_s h
                  refine va_iald hx hb hK.1 hP 3 0 rfl rfl hi167 dX8_faultOrPlan_167 ?_
                  refine lv_iconst (v := (-1 : Int32)) hx hb dX8_faultOrPlan_168 (by decide) ?_
                  refine lv_icmp_eq (tgt := 196) hx hb dX8_faultOrPlan_169 (by decide) (fun hc169 => ?_) (fun hc169 => ?_)
                  · replace h := zi_t hc169 h
                    refine lv_iload hx hb dX8_faultOrPlan_196 (lv_at hl 6 rfl) ?_
                    exact hret (o := (v6_16, cp2_length_16, c_joins_16, cp2_kind_16, cp2_sort_16)) h hP hD hS dX8_faultOrPlan_198
                  · replace h := zi_f hc169 h
                    refine lv_iload hx hb dX8_faultOrPlan_172 (lv_at hl 7 rfl) ?_
                    refine lv_bipush (v := (41 : Int32)) hx hb dX8_faultOrPlan_174 (by decide) ?_
                    refine lv_icmp_ne (tgt := 196) hx hb dX8_faultOrPlan_176 (by decide) (fun hc176 => ?_) (fun hc176 => ?_)
                    · replace h := zi_f hc176 h
                      refine lv_iload hx hb dX8_faultOrPlan_196 (lv_at hl 6 rfl) ?_
                      exact hret (o := (v6_16, cp2_length_16, c_joins_16, cp2_kind_16, cp2_sort_16)) h hP hD hS dX8_faultOrPlan_198
                    · replace h := zi_t hc176 h
                      refine lv_iinc (v := (v3_16 + (-1 : Int32))) (lv' := [(3, .int (v3_16 + (-1 : Int32))), (0, .ref b), (1, .ref bp1), (2, .ref bp2), (4, .int v4_16), (5, .int v5_16), (6, .int v6_16), (7, .int (c_letters (v6_16).toNatClampNeg))]) hx hb dX8_faultOrPlan_179 hl (k := 3) rfl (by rw [show (Int32.ofInt (-1)) = (-1 : Int32) from by decide]) (Nat.le_of_ble_eq_true rfl) rfl (fun ls hl => ?_)
                      refine lv_aload_n hx hb dX8_faultOrPlan_182 rfl (lv_at hl 3 rfl) ?_
                      refine lv_aload_n hx hb dX8_faultOrPlan_183 rfl (lv_at hl 1 rfl) ?_
                      refine va_get (D := D) (ci := 8) (v := .ref b_joins) (C := RX8) (T := TX8) (N := 3) hx hb hts uX8_faultOrPlan_X8 hown hK.1 hP 1 rfl rfl 2 (by decide) (hts (.fieldLink RX8 15 "WishedResistor$Tape" "joins" "[I") (List.mem_of_getElem? (i := 4) rfl)) (fun _ h9 => h9) rfl dX8_faultOrPlan_184 ?_
                      refine lv_iload_n hx hb dX8_faultOrPlan_187 rfl (lv_at hl 0 rfl) ?_
                      obtain ⟨hi188, h⟩ := zg_s h
                      refine va_iald hx hb hK.1 hP 3 0 rfl rfl hi188 dX8_faultOrPlan_188 ?_
                      refine lv_iconst (v := (-1 : Int32)) hx hb dX8_faultOrPlan_189 (by decide) ?_
                      obtain ⟨cp2_length_r190, cp2_kind_r190, cp2_sort_r190, hq190, h⟩ := zb3_s h
                      refine zCv (w1 := (wdX6_add cy bp2 bp2_kind bp2_sort bp2_waiting cp2_length_r190 cp2_kind_r190 cp2_sort_r190)) (ws' := (wdX8_faultOrPlan cy bp2 bp2_kind bp2_sort bp2_waiting b b_letters b_joins bp1 bp1_ohms bp1_spread cp2_length_r190 c_length c_letters c_joins_16 cp1_ohms cp2_kind_r190 cp2_sort_r190)) (va_runV (As := [.int (c_joins_16 ((v3_16 + (-1 : Int32))).toNatClampNeg), .int (-1 : Int32)]) (rest := []) ⟨hx, hb, hml, hown, hts⟩ (mX6_add l D cy H.size bp2 bp2_kind bp2_sort bp2_waiting cp2_length_16 cp2_kind_16 cp2_sort_16 (c_joins_16 ((v3_16 + (-1 : Int32))).toNatClampNeg) (-1 : Int32) (cp2_length_r190, cp2_kind_r190, cp2_sort_r190) hq190) (cwV 2 hts gX8_faultOrPlan_X6_add rfl rfl rfl ⟨rfl, cdX6_add⟩ ⟨Nat.le_of_ble_eq_true rfl, Nat.le_of_ble_eq_true rfl⟩) (zPV hK hP hD [0, 6, 7] rfl rfl (q0 := 0) (ci := 6) rfl rfl rfl) rfl rfl hl.1 rfl (lv_room (Nat.le_of_ble_eq_true rfl)) dX8_faultOrPlan_190 ⟨Nat.zero_le _, Nat.zero_le _⟩) hP hD hS hA [0, 6, 7] [1, 2, 3, 4, 5] [5, 0, 1, 2, 3, 4, 6, 7] rfl rfl rfl rfl (fun H locs hP hD hS => ?_)
                      refine lv_goto (tgt := 199) hx hb dX8_faultOrPlan_193 (by decide) ?_
                      refine lv_iinc (v := (v6_16 + (1 : Int32))) (lv' := [(6, .int (v6_16 + (1 : Int32))), (3, .int (v3_16 + (-1 : Int32))), (0, .ref b), (1, .ref bp1), (2, .ref bp2), (4, .int v4_16), (5, .int v5_16), (7, .int (c_letters (v6_16).toNatClampNeg))]) hx hb dX8_faultOrPlan_199 hl (k := 6) rfl (by rfl) (Nat.le_of_ble_eq_true rfl) rfl (fun ls hl => ?_)
                      refine lv_goto (tgt := 16) hx hb dX8_faultOrPlan_202 (by decide) ?_
                      exact ih16 (v3_16 + (-1 : Int32)) v4_16 v5_16 (v6_16 + (1 : Int32)) cp2_length_r190 c_joins_16 cp2_kind_r190 cp2_sort_r190 _ _ _ hP hD hS (lv_sub hl [2, 3, 4, 1, 5, 6, 0] rfl) h
                refine lv_icmp_ne (tgt := 160) hx hb dX8_faultOrPlan_129 (by decide) (fun hc129 => ?_) (fun hc129 => ?_)
                · replace h := zi_f hc129 h
                  exact hJ160 _ _ _ hP hD hS (lv_sub hl [0, 1, 2, 3, 4, 5, 6, 7] rfl) h
                · replace h := zi_t hc129 h
                  refine lv_iload hx hb dX8_faultOrPlan_132 (lv_at hl 7 rfl) ?_
                  obtain ⟨r134, hq134, h⟩ := zb1_s h
                  refine zCi0 (r0 := r134) (va_runS (As := [.int (c_letters (v6_16).toNatClampNeg)]) (rest := []) ⟨hx, hb, hml, hown, hts⟩ (mX8_joinOf l D cy H.size (c_letters (v6_16).toNatClampNeg) (r134) hq134) (va_cwS 1 hts gX8_faultOrPlan_X8_joinOf rfl rfl rfl cdX8_joinOf ⟨Nat.le_of_ble_eq_true rfl, Nat.le_of_ble_eq_true rfl⟩) (zPS hK hP hD [] rfl rfl) rfl rfl hl.1 rfl (lv_room (Nat.le_of_ble_eq_true rfl)) dX8_faultOrPlan_134 ⟨Nat.zero_le _, Nat.zero_le _⟩) hP hD hS hA (fun H locs hP hD hS => ?_)
                  refine lv_iconst (v := (-1 : Int32)) hx hb dX8_faultOrPlan_137 (by decide) ?_
                  refine lv_icmp_eq (tgt := 160) hx hb dX8_faultOrPlan_138 (by decide) (fun hc138 => ?_) (fun hc138 => ?_)
                  · replace h := zi_t hc138 h
                    exact hJ160 _ _ _ hP hD hS (lv_sub hl [0, 1, 2, 3, 4, 5, 6, 7] rfl) h
                  · replace h := zi_f hc138 h
                    refine lv_aload_n hx hb dX8_faultOrPlan_141 rfl (lv_at hl 0 rfl) ?_
                    refine va_get (D := D) (ci := 8) (v := .ref b_joins) (C := RX8) (T := TX8) (N := 3) hx hb hts uX8_faultOrPlan_X8 hown hK.1 hP 1 rfl rfl 2 (by decide) (hts (.fieldLink RX8 15 "WishedResistor$Tape" "joins" "[I") (List.mem_of_getElem? (i := 4) rfl)) (fun _ h9 => h9) rfl dX8_faultOrPlan_142 ?_
                    refine lv_iload_n hx hb dX8_faultOrPlan_145 rfl (lv_at hl 3 rfl) ?_
                    refine lv_iconst (v := (1 : Int32)) hx hb dX8_faultOrPlan_146 (by decide) ?_
                    refine lv_isub hx hb dX8_faultOrPlan_147 ?_
                    refine lv_iload hx hb dX8_faultOrPlan_148 (lv_at hl 7 rfl) ?_
                    obtain ⟨r150, hq150, h⟩ := zb1_s h
                    refine zCi0 (r0 := r150) (va_runS (As := [.int (c_letters (v6_16).toNatClampNeg)]) (rest := [.int (v3_16 - (1 : Int32)), .ref b_joins]) ⟨hx, hb, hml, hown, hts⟩ (mX8_joinOf l D cy H.size (c_letters (v6_16).toNatClampNeg) (r150) hq150) (va_cwS 1 hts gX8_faultOrPlan_X8_joinOf rfl rfl rfl cdX8_joinOf ⟨Nat.le_of_ble_eq_true rfl, Nat.le_of_ble_eq_true rfl⟩) (zPS hK hP hD [] rfl rfl) rfl rfl hl.1 rfl (lv_room (Nat.le_of_ble_eq_true rfl)) dX8_faultOrPlan_150 ⟨Nat.zero_le _, Nat.zero_le _⟩) hP hD hS hA (fun H locs hP hD hS => ?_)
                    obtain ⟨hi153, h⟩ := zg_s h
                    refine va_iast hx hb hK.1 hP hD hS 3 0 rfl rfl hi153 dX8_faultOrPlan_153 (fun H locs hP hD hS => ?_)
                    have hP : va_P D vwCl (wdX8_faultOrPlan cy bp2 bp2_kind bp2_sort bp2_waiting b b_letters b_joins bp1 bp1_ohms bp1_spread cp2_length_16 c_length c_letters (upd c_joins_16 ((v3_16 - (1 : Int32))).toNatClampNeg r150) cp1_ohms cp2_kind_16 cp2_sort_16) H := hP
                    have hD : va_D A (wdX8_faultOrPlan cy bp2 bp2_kind bp2_sort bp2_waiting b b_letters b_joins bp1 bp1_ohms bp1_spread cp2_length_16 c_length c_letters (upd c_joins_16 ((v3_16 - (1 : Int32))).toNatClampNeg r150) cp1_ohms cp2_kind_16 cp2_sort_16) := hD
                    refine lv_iconst (v := (1 : Int32)) hx hb dX8_faultOrPlan_154 (by decide) ?_
                    refine lv_istore (lv' := [(5, .int (1 : Int32)), (0, .ref b), (1, .ref bp1), (2, .ref bp2), (3, .int v3_16), (4, .int v4_16), (6, .int v6_16), (7, .int (c_letters (v6_16).toNatClampNeg))]) hx hb dX8_faultOrPlan_155 hl (Nat.le_of_ble_eq_true rfl) rfl (fun ls hl => ?_)
                    refine lv_goto (tgt := 199) hx hb dX8_faultOrPlan_157 (by decide) ?_
                    refine lv_iinc (v := (v6_16 + (1 : Int32))) (lv' := [(6, .int (v6_16 + (1 : Int32))), (5, .int (1 : Int32)), (0, .ref b), (1, .ref bp1), (2, .ref bp2), (3, .int v3_16), (4, .int v4_16), (7, .int (c_letters (v6_16).toNatClampNeg))]) hx hb dX8_faultOrPlan_199 hl (k := 6) rfl (by rfl) (Nat.le_of_ble_eq_true rfl) rfl (fun ls hl => ?_)
                    refine lv_goto (tgt := 16) hx hb dX8_faultOrPlan_202 (by decide) ?_
                    exact ih16 v3_16 v4_16 (1 : Int32) (v6_16 + (1 : Int32)) cp2_length_16 (upd c_joins_16 ((v3_16 - (1 : Int32))).toNatClampNeg r150) cp2_kind_16 cp2_sort_16 _ _ _ hP hD hS (lv_sub hl [2, 3, 4, 5, 6, 1, 0] rfl) h
              · replace h := zi_t hc114 h
                refine lv_iload hx hb dX8_faultOrPlan_117 (lv_at hl 6 rfl) ?_
                exact hret (o := (v6_16, cp2_length_16, c_joins_16, cp2_kind_16, cp2_sort_16)) h hP hD hS dX8_faultOrPlan_119
          refine lv_if_eq (tgt := 108) hx hb dX8_faultOrPlan_67 (by decide) (fun hc67 => ?_) (fun hc67 => ?_)
          · replace h := zi_t hc67 h
            exact hJ108 _ _ _ hP hD hS (lv_sub hl [0, 1, 2, 3, 4, 5, 6, 7] rfl) h
          · replace h := zi_f hc67 h
            refine lv_aload_n hx hb dX8_faultOrPlan_70 rfl (lv_at hl 1 rfl) ?_
            refine lv_iload hx hb dX8_faultOrPlan_71 (lv_at hl 7 rfl) ?_
            refine lv_bipush (v := (97 : Int32)) hx hb dX8_faultOrPlan_73 (by decide) ?_
            refine lv_isub hx hb dX8_faultOrPlan_75 ?_
            obtain ⟨r76, hq76, h⟩ := zb1_s h
            refine zCz (r0 := r76) (w1 := (wdX0_has cy bp1 bp1_ohms bp1_spread cp1_ohms)) (ws' := (wdX8_faultOrPlan cy bp2 bp2_kind bp2_sort bp2_waiting b b_letters b_joins bp1 bp1_ohms bp1_spread cp2_length_16 c_length c_letters c_joins_16 cp1_ohms cp2_kind_16 cp2_sort_16)) (va_runV (As := [.int ((c_letters (v6_16).toNatClampNeg) - (97 : Int32))]) (rest := []) ⟨hx, hb, hml, hown, hts⟩ (mX0_has l D cy H.size bp1 bp1_ohms bp1_spread cp1_ohms ((c_letters (v6_16).toNatClampNeg) - (97 : Int32)) (r76) hq76) (cwV 1 hts gX8_faultOrPlan_X0_has rfl rfl rfl ⟨rfl, cdX0_has⟩ ⟨Nat.le_of_ble_eq_true rfl, Nat.le_of_ble_eq_true rfl⟩) (zPV hK hP hD [4, 5] rfl rfl (q0 := 4) (ci := 0) rfl rfl rfl) rfl rfl hl.1 rfl (lv_room (Nat.le_of_ble_eq_true rfl)) dX8_faultOrPlan_76 ⟨Nat.zero_le _, Nat.zero_le _⟩) hP hD hS hA [4, 5] [0, 1, 2, 3, 6, 7] [0, 1, 2, 3, 6, 7, 4, 5] rfl rfl rfl rfl (fun H locs hn76 hP hD hS => ?_)
            refine lv_if_eq (tgt := 108) hx hb dX8_faultOrPlan_79 (by decide) (fun hc79 => ?_) (fun hc79 => ?_)
            · replace h := zi_t hc79 h
              exact hJ108 _ _ _ hP hD hS (lv_sub hl [0, 1, 2, 3, 4, 5, 6, 7] rfl) h
            · replace h := zi_f hc79 h
              refine lv_iload hx hb dX8_faultOrPlan_82 (lv_at hl 4 rfl) ?_
              refine lv_bipush (v := (12 : Int32)) hx hb dX8_faultOrPlan_84 (by decide) ?_
              refine lv_icmp_ge (tgt := 108) hx hb dX8_faultOrPlan_86 (by decide) (fun hc86 => ?_) (fun hc86 => ?_)
              · replace h := zi_t hc86 h
                exact hJ108 _ _ _ hP hD hS (lv_sub hl [0, 1, 2, 3, 4, 5, 6, 7] rfl) h
              · replace h := zi_f hc86 h
                refine lv_aload_n hx hb dX8_faultOrPlan_89 rfl (lv_at hl 2 rfl) ?_
                refine lv_iconst (v := (0 : Int32)) hx hb dX8_faultOrPlan_90 (by decide) ?_
                refine lv_iload hx hb dX8_faultOrPlan_91 (lv_at hl 7 rfl) ?_
                refine lv_bipush (v := (97 : Int32)) hx hb dX8_faultOrPlan_93 (by decide) ?_
                refine lv_isub hx hb dX8_faultOrPlan_95 ?_
                obtain ⟨cp2_length_r96, cp2_kind_r96, cp2_sort_r96, hq96, h⟩ := zb3_s h
                refine zCv (w1 := (wdX6_add cy bp2 bp2_kind bp2_sort bp2_waiting cp2_length_r96 cp2_kind_r96 cp2_sort_r96)) (ws' := (wdX8_faultOrPlan cy bp2 bp2_kind bp2_sort bp2_waiting b b_letters b_joins bp1 bp1_ohms bp1_spread cp2_length_r96 c_length c_letters c_joins_16 cp1_ohms cp2_kind_r96 cp2_sort_r96)) (va_runV (As := [.int (0 : Int32), .int ((c_letters (v6_16).toNatClampNeg) - (97 : Int32))]) (rest := []) ⟨hx, hb, hml, hown, hts⟩ (mX6_add l D cy H.size bp2 bp2_kind bp2_sort bp2_waiting cp2_length_16 cp2_kind_16 cp2_sort_16 (0 : Int32) ((c_letters (v6_16).toNatClampNeg) - (97 : Int32)) (cp2_length_r96, cp2_kind_r96, cp2_sort_r96) hq96) (cwV 2 hts gX8_faultOrPlan_X6_add rfl rfl rfl ⟨rfl, cdX6_add⟩ ⟨Nat.le_of_ble_eq_true rfl, Nat.le_of_ble_eq_true rfl⟩) (zPV hK hP hD [0, 6, 7] rfl rfl (q0 := 0) (ci := 6) rfl rfl rfl) rfl rfl hl.1 rfl (lv_room (Nat.le_of_ble_eq_true rfl)) dX8_faultOrPlan_96 ⟨Nat.zero_le _, Nat.zero_le _⟩) hP hD hS hA [0, 6, 7] [1, 2, 3, 4, 5] [5, 0, 1, 2, 3, 4, 6, 7] rfl rfl rfl rfl (fun H locs hP hD hS => ?_)
                refine lv_iinc (v := (v4_16 + (1 : Int32))) (lv' := [(4, .int (v4_16 + (1 : Int32))), (0, .ref b), (1, .ref bp1), (2, .ref bp2), (3, .int v3_16), (5, .int v5_16), (6, .int v6_16), (7, .int (c_letters (v6_16).toNatClampNeg))]) hx hb dX8_faultOrPlan_99 hl (k := 4) rfl (by rfl) (Nat.le_of_ble_eq_true rfl) rfl (fun ls hl => ?_)
                refine lv_iconst (v := (0 : Int32)) hx hb dX8_faultOrPlan_102 (by decide) ?_
                refine lv_istore (lv' := [(5, .int (0 : Int32)), (4, .int (v4_16 + (1 : Int32))), (0, .ref b), (1, .ref bp1), (2, .ref bp2), (3, .int v3_16), (6, .int v6_16), (7, .int (c_letters (v6_16).toNatClampNeg))]) hx hb dX8_faultOrPlan_103 hl (Nat.le_of_ble_eq_true rfl) rfl (fun ls hl => ?_)
                refine lv_goto (tgt := 199) hx hb dX8_faultOrPlan_105 (by decide) ?_
                refine lv_iinc (v := (v6_16 + (1 : Int32))) (lv' := [(6, .int (v6_16 + (1 : Int32))), (5, .int (0 : Int32)), (4, .int (v4_16 + (1 : Int32))), (0, .ref b), (1, .ref bp1), (2, .ref bp2), (3, .int v3_16), (7, .int (c_letters (v6_16).toNatClampNeg))]) hx hb dX8_faultOrPlan_199 hl (k := 6) rfl (by rfl) (Nat.le_of_ble_eq_true rfl) rfl (fun ls hl => ?_)
                refine lv_goto (tgt := 16) hx hb dX8_faultOrPlan_202 (by decide) ?_
                exact ih16 v3_16 (v4_16 + (1 : Int32)) (0 : Int32) (v6_16 + (1 : Int32)) cp2_length_r96 c_joins_16 cp2_kind_r96 cp2_sort_r96 _ _ _ hP hD hS (lv_sub hl [3, 4, 5, 6, 2, 1, 0] rfl) h
        refine lv_if_eq (tgt := 65) hx hb dX8_faultOrPlan_36 (by decide) (fun hc36 => ?_) (fun hc36 => ?_)
        · replace h := zi_t hc36 h
          exact hJ65 _ _ _ hP hD hS (lv_sub hl [1, 2, 3, 4, 5, 6, 7, 0] rfl) h
        · replace h := zi_f hc36 h
          refine lv_iload hx hb dX8_faultOrPlan_39 (lv_at hl 0 rfl) ?_
          refine lv_bipush (v := (40 : Int32)) hx hb dX8_faultOrPlan_41 (by decide) ?_
          refine lv_icmp_ne (tgt := 65) hx hb dX8_faultOrPlan_43 (by decide) (fun hc43 => ?_) (fun hc43 => ?_)
          · replace h := zi_f hc43 h
            exact hJ65 _ _ _ hP hD hS (lv_sub hl [1, 2, 3, 4, 5, 6, 7, 0] rfl) h
          · replace h := zi_t hc43 h
            refine lv_iload_n hx hb dX8_faultOrPlan_46 rfl (lv_at hl 4 rfl) ?_
            refine lv_bipush (v := (11 : Int32)) hx hb dX8_faultOrPlan_47 (by decide) ?_
            refine lv_icmp_ge (tgt := 65) hx hb dX8_faultOrPlan_49 (by decide) (fun hc49 => ?_) (fun hc49 => ?_)
            · replace h := zi_t hc49 h
              exact hJ65 _ _ _ hP hD hS (lv_sub hl [1, 2, 3, 4, 5, 6, 7, 0] rfl) h
            · replace h := zi_f hc49 h
              refine lv_aload_n hx hb dX8_faultOrPlan_52 rfl (lv_at hl 1 rfl) ?_
              refine va_get (D := D) (ci := 8) (v := .ref b_joins) (C := RX8) (T := TX8) (N := 3) hx hb hts uX8_faultOrPlan_X8 hown hK.1 hP 1 rfl rfl 2 (by decide) (hts (.fieldLink RX8 15 "WishedResistor$Tape" "joins" "[I") (List.mem_of_getElem? (i := 4) rfl)) (fun _ h9 => h9) rfl dX8_faultOrPlan_53 ?_
              refine lv_iload_n hx hb dX8_faultOrPlan_56 rfl (lv_at hl 4 rfl) ?_
              refine lv_iconst (v := (-1 : Int32)) hx hb dX8_faultOrPlan_57 (by decide) ?_
              obtain ⟨hi58, h⟩ := zg_s h
              refine va_iast hx hb hK.1 hP hD hS 3 0 rfl rfl hi58 dX8_faultOrPlan_58 (fun H locs hP hD hS => ?_)
              have hP : va_P D vwCl (wdX8_faultOrPlan cy bp2 bp2_kind bp2_sort bp2_waiting b b_letters b_joins bp1 bp1_ohms bp1_spread cp2_length_16 c_length c_letters (upd c_joins_16 (v3_16).toNatClampNeg (-1 : Int32)) cp1_ohms cp2_kind_16 cp2_sort_16) H := hP
              have hD : va_D A (wdX8_faultOrPlan cy bp2 bp2_kind bp2_sort bp2_waiting b b_letters b_joins bp1 bp1_ohms bp1_spread cp2_length_16 c_length c_letters (upd c_joins_16 (v3_16).toNatClampNeg (-1 : Int32)) cp1_ohms cp2_kind_16 cp2_sort_16) := hD
              refine lv_iinc (v := (v3_16 + (1 : Int32))) (lv' := [(3, .int (v3_16 + (1 : Int32))), (7, .int (c_letters (v6_16).toNatClampNeg)), (0, .ref b), (1, .ref bp1), (2, .ref bp2), (4, .int v4_16), (5, .int v5_16), (6, .int v6_16)]) hx hb dX8_faultOrPlan_59 hl (k := 4) rfl (by rfl) (Nat.le_of_ble_eq_true rfl) rfl (fun ls hl => ?_)
              refine lv_goto (tgt := 199) hx hb dX8_faultOrPlan_62 (by decide) ?_
              refine lv_iinc (v := (v6_16 + (1 : Int32))) (lv' := [(6, .int (v6_16 + (1 : Int32))), (3, .int (v3_16 + (1 : Int32))), (7, .int (c_letters (v6_16).toNatClampNeg)), (0, .ref b), (1, .ref bp1), (2, .ref bp2), (4, .int v4_16), (5, .int v5_16)]) hx hb dX8_faultOrPlan_199 hl (k := 7) rfl (by rfl) (Nat.le_of_ble_eq_true rfl) rfl (fun ls hl => ?_)
              refine lv_goto (tgt := 16) hx hb dX8_faultOrPlan_202 (by decide) ?_
              exact ih16 (v3_16 + (1 : Int32)) v4_16 v5_16 (v6_16 + (1 : Int32)) cp2_length_16 (upd c_joins_16 (v3_16).toNatClampNeg (-1 : Int32)) cp2_kind_16 cp2_sort_16 _ _ _ hP hD hS (lv_sub hl [3, 4, 5, 1, 6, 7, 0] rfl) h
  exact hL16 5000 (0 : Int32) (0 : Int32) (1 : Int32) (0 : Int32) (0 : Int32) c_joins cp2_kind cp2_sort _ _ _ hP hD hS (lv_sub hl [4, 5, 6, 3, 2, 1, 0] rfl) h

theorem uX9_become_X9 : ∀ w ∈ u_ws RX9 TX9 3, w ∈ wsX9_become := fun w h => (List.mem_cons_of_mem _ (List.mem_append_right _ h))
abbrev wdX9_become (cy : Nat → ClassId) (b b_places : Nat) (c_kind c_size : Int32) (c_places : Nat → Int32) : va_W := [(b, .inr (9, [.int c_kind, .int c_size, .ref b_places])), (b_places, .inl (cy 0, 20, .inl c_places))]
abbrev rmX9_become : Room := { frames := 1, cells := 0, slots := 0, locals := 23 }
theorem cdX9_become : (yX9_become).cls ≠ "java/lang/invoke/MethodHandle" ∧ (yX9_become).cls ≠ "java/lang/invoke/VarHandle" ∧ (parseMethodDescriptor (yX9_become).desc).map (fun d => d.parameters.length) = some 2 := by decide +kernel
def fX9_become (p1 p2 c_kind c_size : Int32) (c_places : Nat → Int32) : Option (Int32 × Int32 × (Nat → Int32)) :=
  zb1 (fJ7_fill_53178 (-1 : Int32) 20 c_places) (fun c_places_r15 => some (p1, p2, c_places_r15))
set_option maxHeartbeats 4000000 in
set_option maxRecDepth 100000 in
theorem mX9_become (l : Launch) (D : va_G) (cy : Nat → ClassId) (sz : Nat) (b b_places : Nat) (c_kind c_size : Int32) (c_places : Nat → Int32) (p1 p2 : Int32) (res : (Int32 × Int32 × (Nat → Int32))) (h : fX9_become p1 p2 c_kind c_size c_places = some res) : zMv l yX9_become wsX9_become rmX9_become [.ref b, .int p1, .int p2] D cy (wdX9_become cy b b_places c_kind c_size c_places) sz  ((fun (o : (Int32 × Int32 × (Nat → Int32))) => (wdX9_become cy b b_places (o.1) (o.2.1) (o.2.2))) res) := by
  refine zOfv (res := res) (Wf := (fun (o : (Int32 × Int32 × (Nat → Int32))) => (wdX9_become cy b b_places (o.1) (o.2.1) (o.2.2)))) (by decide +kernel) rfl (Nat.le_of_ble_eq_true rfl) ?_
  intro p e s m args below meth c A ls Q hx hb hml hts hown hP hK hD hA hS hl hret
  have hown : s.vm.findClass RX9 = some m.cls := hown
  have hl : lv_has ls 3 [(0, .ref b), (1, .int p1), (2, .int p2)] := hl
  refine lv_aload_n hx hb dX9_become_0 rfl (lv_at hl 0 rfl) ?_
  refine lv_iload_n hx hb dX9_become_1 rfl (lv_at hl 1 rfl) ?_
  refine va_put (D := D) (ci := 9) (v := .int p1) (ty := .int) (C := RX9) (T := TX9) (N := 3) hx hb hts uX9_become_X9 tyX9 tyX9_ok nmX9 hown hK.1 hP hD hS 0 rfl rfl 0 (by decide) (hts (.fieldLink RX9 9 "WishedResistor$Tray" "kind" "I") (List.mem_of_getElem? (i := 1) rfl)) (fun _ h9 => h9) rfl (by decide +kernel) rfl rfl (Nat.le_of_ble_eq_true rfl) dX9_become_2 (fun H locs hP hD hS => ?_)
  have hP : va_P D vwCl (wdX9_become cy b b_places p1 c_size c_places) H := hP
  have hD : va_D A (wdX9_become cy b b_places p1 c_size c_places) := hD
  refine lv_aload_n hx hb dX9_become_5 rfl (lv_at hl 0 rfl) ?_
  refine lv_iload_n hx hb dX9_become_6 rfl (lv_at hl 2 rfl) ?_
  refine va_put (D := D) (ci := 9) (v := .int p2) (ty := .int) (C := RX9) (T := TX9) (N := 3) hx hb hts uX9_become_X9 tyX9 tyX9_ok nmX9 hown hK.1 hP hD hS 0 rfl rfl 1 (by decide) (hts (.fieldLink RX9 19 "WishedResistor$Tray" "size" "I") (List.mem_of_getElem? (i := 2) rfl)) (fun _ h9 => h9) rfl (by decide +kernel) rfl rfl (Nat.le_of_ble_eq_true rfl) dX9_become_7 (fun H locs hP hD hS => ?_)
  have hP : va_P D vwCl (wdX9_become cy b b_places p1 p2 c_places) H := hP
  have hD : va_D A (wdX9_become cy b b_places p1 p2 c_places) := hD
  refine lv_aload_n hx hb dX9_become_10 rfl (lv_at hl 0 rfl) ?_
  refine va_get (D := D) (ci := 9) (v := .ref b_places) (C := RX9) (T := TX9) (N := 3) hx hb hts uX9_become_X9 hown hK.1 hP 0 rfl rfl 2 (by decide) (hts (.fieldLink RX9 15 "WishedResistor$Tray" "places" "[I") (List.mem_of_getElem? (i := 3) rfl)) (fun _ h9 => h9) rfl dX9_become_11 ?_
  refine lv_iconst (v := (-1 : Int32)) hx hb dX9_become_14 (by decide) ?_
  obtain ⟨c_places_r15, hq15, h⟩ := zb1_s h
  refine zCv (w1 := (wdJ7_fill_53178 cy b_places 20 c_places_r15)) (ws' := (wdX9_become cy b b_places p1 p2 c_places_r15)) (va_runS (As := [.ref b_places, .int (-1 : Int32)]) (rest := []) ⟨hx, hb, hml, hown, hts⟩ (mJ7_fill_53178 l D cy H.size b_places 20 c_places (-1 : Int32) (c_places_r15) hq15) (va_cwS 2 hts gX9_become_J7_fill_53178 rfl rfl rfl cdJ7_fill_53178 ⟨Nat.le_of_ble_eq_true rfl, Nat.le_of_ble_eq_true rfl⟩) (zPS hK hP hD [1] rfl rfl) rfl rfl hl.1 rfl (lv_room (Nat.le_of_ble_eq_true rfl)) dX9_become_15 ⟨Nat.zero_le _, Nat.zero_le _⟩) hP hD hS hA [1] [0] [0, 1] rfl rfl rfl rfl (fun H locs hP hD hS => ?_)
  exact hret (o := (p1, p2, c_places_r15)) h hP hD hS dX9_become_18

theorem uX9_isMissing_X9 : ∀ w ∈ u_ws RX9 TX9 3, w ∈ wsX9_isMissing := fun w h => (List.mem_cons_of_mem _ (List.mem_append_right _ h))
abbrev wdX9_isMissing (cy : Nat → ClassId) (b b_places : Nat) (c_kind c_size : Int32) : va_W := [(b, .inr (9, [.int c_kind, .int c_size, .ref b_places]))]
abbrev rmX9_isMissing : Room := { frames := 0, cells := 0, slots := 0, locals := 0 }
theorem cdX9_isMissing : (yX9_isMissing).cls ≠ "java/lang/invoke/MethodHandle" ∧ (yX9_isMissing).cls ≠ "java/lang/invoke/VarHandle" ∧ (parseMethodDescriptor (yX9_isMissing).desc).map (fun d => d.parameters.length) = some 0 := by decide +kernel
def fX9_isMissing (c_kind : Int32) : Option (Int32) :=
  if c_kind = (-1 : Int32) then (some ((1 : Int32))) else (some ((0 : Int32)))
set_option maxHeartbeats 4000000 in
set_option maxRecDepth 100000 in
theorem mX9_isMissing (l : Launch) (D : va_G) (cy : Nat → ClassId) (sz : Nat) (b b_places : Nat) (c_kind c_size : Int32) (res : (Int32)) (h : fX9_isMissing c_kind = some res) : zMz l yX9_isMissing wsX9_isMissing rmX9_isMissing [.ref b] D cy (wdX9_isMissing cy b b_places c_kind c_size) sz ((fun (o : (Int32)) => o) res) ((fun (o : (Int32)) => (wdX9_isMissing cy b b_places c_kind c_size)) res) := by
  refine zOfz (res := res) (rf := (fun (o : (Int32)) => o)) (Wf := (fun (o : (Int32)) => (wdX9_isMissing cy b b_places c_kind c_size))) (by decide +kernel) rfl (Nat.le_of_ble_eq_true rfl) ?_
  intro p e s m args below meth c A ls Q hx hb hml hts hown hP hK hD hA hS hl hret
  have hown : s.vm.findClass RX9 = some m.cls := hown
  have hl : lv_has ls 1 [(0, .ref b)] := hl
  refine lv_aload_n hx hb dX9_isMissing_0 rfl (lv_at hl 0 rfl) ?_
  refine va_get (D := D) (ci := 9) (v := .int c_kind) (C := RX9) (T := TX9) (N := 3) hx hb hts uX9_isMissing_X9 hown hK.1 hP 0 rfl rfl 0 (by decide) (hts (.fieldLink RX9 9 "WishedResistor$Tray" "kind" "I") (List.mem_of_getElem? (i := 1) rfl)) (fun _ h9 => h9) rfl dX9_isMissing_1 ?_
  refine lv_iconst (v := (-1 : Int32)) hx hb dX9_isMissing_4 (by decide) ?_
  refine lv_icmp_ne (tgt := 12) hx hb dX9_isMissing_5 (by decide) (fun hc5 => ?_) (fun hc5 => ?_)
  · replace h := zi_f hc5 h
    refine lv_iconst (v := (0 : Int32)) hx hb dX9_isMissing_12 (by decide) ?_
    exact hret (o := ((0 : Int32))) h (show narrow .boolean (.int (0 : Int32)) = .int (0 : Int32) from by decide) hP hD hS dX9_isMissing_13
  · replace h := zi_t hc5 h
    refine lv_iconst (v := (1 : Int32)) hx hb dX9_isMissing_8 (by decide) ?_
    refine lv_goto (tgt := 13) hx hb dX9_isMissing_9 (by decide) ?_
    exact hret (o := ((1 : Int32))) h (show narrow .boolean (.int (1 : Int32)) = .int (1 : Int32) from by decide) hP hD hS dX9_isMissing_13

theorem uX9_hasPlace_X9 : ∀ w ∈ u_ws RX9 TX9 3, w ∈ wsX9_hasPlace := fun w h => (List.mem_cons_of_mem _ (List.mem_append_right _ h))
abbrev wdX9_hasPlace (cy : Nat → ClassId) (b b_places : Nat) (c_kind c_size : Int32) : va_W := [(b, .inr (9, [.int c_kind, .int c_size, .ref b_places]))]
abbrev rmX9_hasPlace : Room := { frames := 0, cells := 0, slots := 0, locals := 0 }
theorem cdX9_hasPlace : (yX9_hasPlace).cls ≠ "java/lang/invoke/MethodHandle" ∧ (yX9_hasPlace).cls ≠ "java/lang/invoke/VarHandle" ∧ (parseMethodDescriptor (yX9_hasPlace).desc).map (fun d => d.parameters.length) = some 1 := by decide +kernel
def fX9_hasPlace (p1 c_size : Int32) : Option (Int32) :=
  if p1 < 0 then (some ((0 : Int32))) else (if c_size ≤ p1 then (some ((0 : Int32))) else (if (20 : Int32) ≤ p1 then (some ((0 : Int32))) else (some ((1 : Int32)))))
set_option maxHeartbeats 4000000 in
set_option maxRecDepth 100000 in
theorem mX9_hasPlace (l : Launch) (D : va_G) (cy : Nat → ClassId) (sz : Nat) (b b_places : Nat) (c_kind c_size p1 : Int32) (res : (Int32)) (h : fX9_hasPlace p1 c_size = some res) : zMz l yX9_hasPlace wsX9_hasPlace rmX9_hasPlace [.ref b, .int p1] D cy (wdX9_hasPlace cy b b_places c_kind c_size) sz ((fun (o : (Int32)) => o) res) ((fun (o : (Int32)) => (wdX9_hasPlace cy b b_places c_kind c_size)) res) := by
  refine zOfz (res := res) (rf := (fun (o : (Int32)) => o)) (Wf := (fun (o : (Int32)) => (wdX9_hasPlace cy b b_places c_kind c_size))) (by decide +kernel) rfl (Nat.le_of_ble_eq_true rfl) ?_
  intro p e s m args below meth c A ls Q hx hb hml hts hown hP hK hD hA hS hl hret
  have hown : s.vm.findClass RX9 = some m.cls := hown
  have hl : lv_has ls 2 [(0, .ref b), (1, .int p1)] := hl
  refine lv_iload_n hx hb dX9_hasPlace_0 rfl (lv_at hl 1 rfl) ?_
  refine lv_if_lt (tgt := 22) hx hb dX9_hasPlace_1 (by decide) (fun hc1 => ?_) (fun hc1 => ?_)
  · replace h := zi_t hc1 h
    refine lv_iconst (v := (0 : Int32)) hx hb dX9_hasPlace_22 (by decide) ?_
    exact hret (o := ((0 : Int32))) h (show narrow .boolean (.int (0 : Int32)) = .int (0 : Int32) from by decide) hP hD hS dX9_hasPlace_23
  · replace h := zi_f hc1 h
    refine lv_iload_n hx hb dX9_hasPlace_4 rfl (lv_at hl 1 rfl) ?_
    refine lv_aload_n hx hb dX9_hasPlace_5 rfl (lv_at hl 0 rfl) ?_
    refine va_get (D := D) (ci := 9) (v := .int c_size) (C := RX9) (T := TX9) (N := 3) hx hb hts uX9_hasPlace_X9 hown hK.1 hP 0 rfl rfl 1 (by decide) (hts (.fieldLink RX9 19 "WishedResistor$Tray" "size" "I") (List.mem_of_getElem? (i := 1) rfl)) (fun _ h9 => h9) rfl dX9_hasPlace_6 ?_
    refine lv_icmp_ge (tgt := 22) hx hb dX9_hasPlace_9 (by decide) (fun hc9 => ?_) (fun hc9 => ?_)
    · replace h := zi_t hc9 h
      refine lv_iconst (v := (0 : Int32)) hx hb dX9_hasPlace_22 (by decide) ?_
      exact hret (o := ((0 : Int32))) h (show narrow .boolean (.int (0 : Int32)) = .int (0 : Int32) from by decide) hP hD hS dX9_hasPlace_23
    · replace h := zi_f hc9 h
      refine lv_iload_n hx hb dX9_hasPlace_12 rfl (lv_at hl 1 rfl) ?_
      refine lv_bipush (v := (20 : Int32)) hx hb dX9_hasPlace_13 (by decide) ?_
      refine lv_icmp_ge (tgt := 22) hx hb dX9_hasPlace_15 (by decide) (fun hc15 => ?_) (fun hc15 => ?_)
      · replace h := zi_t hc15 h
        refine lv_iconst (v := (0 : Int32)) hx hb dX9_hasPlace_22 (by decide) ?_
        exact hret (o := ((0 : Int32))) h (show narrow .boolean (.int (0 : Int32)) = .int (0 : Int32) from by decide) hP hD hS dX9_hasPlace_23
      · replace h := zi_f hc15 h
        refine lv_iconst (v := (1 : Int32)) hx hb dX9_hasPlace_18 (by decide) ?_
        refine lv_goto (tgt := 23) hx hb dX9_hasPlace_19 (by decide) ?_
        exact hret (o := ((1 : Int32))) h (show narrow .boolean (.int (1 : Int32)) = .int (1 : Int32) from by decide) hP hD hS dX9_hasPlace_23

theorem uX9_hasStretch_X9 : ∀ w ∈ u_ws RX9 TX9 3, w ∈ wsX9_hasStretch := fun w h => (List.mem_cons_of_mem _ (List.mem_append_right _ h))
abbrev wdX9_hasStretch (cy : Nat → ClassId) (b b_places : Nat) (c_kind c_size : Int32) : va_W := [(b, .inr (9, [.int c_kind, .int c_size, .ref b_places]))]
abbrev rmX9_hasStretch : Room := { frames := 0, cells := 0, slots := 0, locals := 0 }
theorem cdX9_hasStretch : (yX9_hasStretch).cls ≠ "java/lang/invoke/MethodHandle" ∧ (yX9_hasStretch).cls ≠ "java/lang/invoke/VarHandle" ∧ (parseMethodDescriptor (yX9_hasStretch).desc).map (fun d => d.parameters.length) = some 2 := by decide +kernel
def fX9_hasStretch (p1 p2 c_size : Int32) : Option (Int32) :=
  if p1 < 0 then (some ((0 : Int32))) else (if p2 < 0 then (some ((0 : Int32))) else (if (c_size - p2) < p1 then (some ((0 : Int32))) else (if (20 : Int32) < c_size then (some ((0 : Int32))) else (some ((1 : Int32))))))
set_option maxHeartbeats 4000000 in
set_option maxRecDepth 100000 in
theorem mX9_hasStretch (l : Launch) (D : va_G) (cy : Nat → ClassId) (sz : Nat) (b b_places : Nat) (c_kind c_size p1 p2 : Int32) (res : (Int32)) (h : fX9_hasStretch p1 p2 c_size = some res) : zMz l yX9_hasStretch wsX9_hasStretch rmX9_hasStretch [.ref b, .int p1, .int p2] D cy (wdX9_hasStretch cy b b_places c_kind c_size) sz ((fun (o : (Int32)) => o) res) ((fun (o : (Int32)) => (wdX9_hasStretch cy b b_places c_kind c_size)) res) := by
  refine zOfz (res := res) (rf := (fun (o : (Int32)) => o)) (Wf := (fun (o : (Int32)) => (wdX9_hasStretch cy b b_places c_kind c_size))) (by decide +kernel) rfl (Nat.le_of_ble_eq_true rfl) ?_
  intro p e s m args below meth c A ls Q hx hb hml hts hown hP hK hD hA hS hl hret
  have hown : s.vm.findClass RX9 = some m.cls := hown
  have hl : lv_has ls 3 [(0, .ref b), (1, .int p1), (2, .int p2)] := hl
  refine lv_iload_n hx hb dX9_hasStretch_0 rfl (lv_at hl 1 rfl) ?_
  refine lv_if_lt (tgt := 31) hx hb dX9_hasStretch_1 (by decide) (fun hc1 => ?_) (fun hc1 => ?_)
  · replace h := zi_t hc1 h
    refine lv_iconst (v := (0 : Int32)) hx hb dX9_hasStretch_31 (by decide) ?_
    exact hret (o := ((0 : Int32))) h (show narrow .boolean (.int (0 : Int32)) = .int (0 : Int32) from by decide) hP hD hS dX9_hasStretch_32
  · replace h := zi_f hc1 h
    refine lv_iload_n hx hb dX9_hasStretch_4 rfl (lv_at hl 2 rfl) ?_
    refine lv_if_lt (tgt := 31) hx hb dX9_hasStretch_5 (by decide) (fun hc5 => ?_) (fun hc5 => ?_)
    · replace h := zi_t hc5 h
      refine lv_iconst (v := (0 : Int32)) hx hb dX9_hasStretch_31 (by decide) ?_
      exact hret (o := ((0 : Int32))) h (show narrow .boolean (.int (0 : Int32)) = .int (0 : Int32) from by decide) hP hD hS dX9_hasStretch_32
    · replace h := zi_f hc5 h
      refine lv_iload_n hx hb dX9_hasStretch_8 rfl (lv_at hl 1 rfl) ?_
      refine lv_aload_n hx hb dX9_hasStretch_9 rfl (lv_at hl 0 rfl) ?_
      refine va_get (D := D) (ci := 9) (v := .int c_size) (C := RX9) (T := TX9) (N := 3) hx hb hts uX9_hasStretch_X9 hown hK.1 hP 0 rfl rfl 1 (by decide) (hts (.fieldLink RX9 19 "WishedResistor$Tray" "size" "I") (List.mem_of_getElem? (i := 1) rfl)) (fun _ h9 => h9) rfl dX9_hasStretch_10 ?_
      refine lv_iload_n hx hb dX9_hasStretch_13 rfl (lv_at hl 2 rfl) ?_
      refine lv_isub hx hb dX9_hasStretch_14 ?_
      refine lv_icmp_gt (tgt := 31) hx hb dX9_hasStretch_15 (by decide) (fun hc15 => ?_) (fun hc15 => ?_)
      · replace h := zi_t hc15 h
        refine lv_iconst (v := (0 : Int32)) hx hb dX9_hasStretch_31 (by decide) ?_
        exact hret (o := ((0 : Int32))) h (show narrow .boolean (.int (0 : Int32)) = .int (0 : Int32) from by decide) hP hD hS dX9_hasStretch_32
      · replace h := zi_f hc15 h
        refine lv_aload_n hx hb dX9_hasStretch_18 rfl (lv_at hl 0 rfl) ?_
        refine va_get (D := D) (ci := 9) (v := .int c_size) (C := RX9) (T := TX9) (N := 3) hx hb hts uX9_hasStretch_X9 hown hK.1 hP 0 rfl rfl 1 (by decide) (hts (.fieldLink RX9 19 "WishedResistor$Tray" "size" "I") (List.mem_of_getElem? (i := 1) rfl)) (fun _ h9 => h9) rfl dX9_hasStretch_19 ?_
        refine lv_bipush (v := (20 : Int32)) hx hb dX9_hasStretch_22 (by decide) ?_
        refine lv_icmp_gt (tgt := 31) hx hb dX9_hasStretch_24 (by decide) (fun hc24 => ?_) (fun hc24 => ?_)
        · replace h := zi_t hc24 h
          refine lv_iconst (v := (0 : Int32)) hx hb dX9_hasStretch_31 (by decide) ?_
          exact hret (o := ((0 : Int32))) h (show narrow .boolean (.int (0 : Int32)) = .int (0 : Int32) from by decide) hP hD hS dX9_hasStretch_32
        · replace h := zi_f hc24 h
          refine lv_iconst (v := (1 : Int32)) hx hb dX9_hasStretch_27 (by decide) ?_
          refine lv_goto (tgt := 32) hx hb dX9_hasStretch_28 (by decide) ?_
          exact hret (o := ((1 : Int32))) h (show narrow .boolean (.int (1 : Int32)) = .int (1 : Int32) from by decide) hP hD hS dX9_hasStretch_32
