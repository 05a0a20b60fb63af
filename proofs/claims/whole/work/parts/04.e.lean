theorem uX3_copy_X3 : ∀ w ∈ u_ws RX3 TX3 8, w ∈ wsX3_copy := fun w h => (List.mem_cons_of_mem _ (List.mem_append_right _ h))
abbrev wdX3_copy (cy : Nat → ClassId) (bp1 bp1_one bp1_other bp1_ohms bp1_trees bp1_worth bp1_best b b_one b_other b_ohms b_trees b_worth b_best : Nat) (cp1_points cp1_edges c_points c_edges : Int32) (c_one cp1_one c_other cp1_other c_ohms cp1_ohms : Nat → Int32) : va_W := [(bp1, .inr (3, [.int cp1_points, .int cp1_edges, .ref bp1_one, .ref bp1_other, .ref bp1_ohms, .ref bp1_trees, .ref bp1_worth, .ref bp1_best])), (b, .inr (3, [.int c_points, .int c_edges, .ref b_one, .ref b_other, .ref b_ohms, .ref b_trees, .ref b_worth, .ref b_best])), (b_one, .inl (cy 0, 8, .inl c_one)), (bp1_one, .inl (cy 0, 8, .inl cp1_one)), (b_other, .inl (cy 0, 8, .inl c_other)), (bp1_other, .inl (cy 0, 8, .inl cp1_other)), (b_ohms, .inl (cy 0, 8, .inl c_ohms)), (bp1_ohms, .inl (cy 0, 8, .inl cp1_ohms))]
abbrev rmX3_copy : Room := { frames := 1, cells := 0, slots := 0, locals := 27 }
theorem cdX3_copy : (yX3_copy).cls ≠ "java/lang/invoke/MethodHandle" ∧ (yX3_copy).cls ≠ "java/lang/invoke/VarHandle" ∧ (parseMethodDescriptor (yX3_copy).desc).map (fun d => d.parameters.length) = some 1 := by decide +kernel
def fX3_copy (cp1_points cp1_edges c_points c_edges : Int32) (c_one cp1_one c_other cp1_other c_ohms cp1_ohms : Nat → Int32) : Option (Int32 × Int32 × (Nat → Int32) × (Nat → Int32) × (Nat → Int32)) :=
  some (cp1_points, cp1_edges, (va_cpy cp1_one c_one ((0 : Int32)).toNatClampNeg ((0 : Int32)).toNatClampNeg ((8 : Int32)).toNatClampNeg), (va_cpy cp1_other c_other ((0 : Int32)).toNatClampNeg ((0 : Int32)).toNatClampNeg ((8 : Int32)).toNatClampNeg), (va_cpy cp1_ohms c_ohms ((0 : Int32)).toNatClampNeg ((0 : Int32)).toNatClampNeg ((8 : Int32)).toNatClampNeg))
set_option maxHeartbeats 4000000 in
set_option maxRecDepth 100000 in
theorem mX3_copy (l : Launch) (D : va_G) (cy : Nat → ClassId) (sz : Nat) (bp1 bp1_one bp1_other bp1_ohms bp1_trees bp1_worth bp1_best b b_one b_other b_ohms b_trees b_worth b_best : Nat) (cp1_points cp1_edges c_points c_edges : Int32) (c_one cp1_one c_other cp1_other c_ohms cp1_ohms : Nat → Int32) (res : (Int32 × Int32 × (Nat → Int32) × (Nat → Int32) × (Nat → Int32))) (h : fX3_copy cp1_points cp1_edges c_points c_edges c_one cp1_one c_other cp1_other c_ohms cp1_ohms = some res) : zMv l yX3_copy wsX3_copy rmX3_copy [.ref b, .ref bp1] D cy (wdX3_copy cy bp1 bp1_one bp1_other bp1_ohms bp1_trees bp1_worth bp1_best b b_one b_other b_ohms b_trees b_worth b_best cp1_points cp1_edges c_points c_edges c_one cp1_one c_other cp1_other c_ohms cp1_ohms) sz  ((fun (o : (Int32 × Int32 × (Nat → Int32) × (Nat → Int32) × (Nat → Int32))) => (wdX3_copy cy bp1 bp1_one bp1_other bp1_ohms bp1_trees bp1_worth bp1_best b b_one b_other b_ohms b_trees b_worth b_best cp1_points cp1_edges (o.1) (o.2.1) (o.2.2.1) cp1_one (o.2.2.2.1) cp1_other (o.2.2.2.2) cp1_ohms)) res) := by
  refine zOfv (res := res) (Wf := (fun (o : (Int32 × Int32 × (Nat → Int32) × (Nat → Int32) × (Nat → Int32))) => (wdX3_copy cy bp1 bp1_one bp1_other bp1_ohms bp1_trees bp1_worth bp1_best b b_one b_other b_ohms b_trees b_worth b_best cp1_points cp1_edges (o.1) (o.2.1) (o.2.2.1) cp1_one (o.2.2.2.1) cp1_other (o.2.2.2.2) cp1_ohms))) (by decide +kernel) rfl (Nat.le_of_ble_eq_true rfl) ?_
  intro p e s m args below meth c A ls Q hx hb hml hts hown hP hK hD hA hS hl hret
  have hown : s.vm.findClass RX3 = some m.cls := hown
  have hl : lv_has ls 2 [(0, .ref b), (1, .ref bp1)] := hl
  refine lv_aload_n hx hb dX3_copy_0 rfl (lv_at hl 0 rfl) ?_
  refine lv_aload_n hx hb dX3_copy_1 rfl (lv_at hl 1 rfl) ?_
  refine va_get (D := D) (ci := 3) (v := .int cp1_points) (C := RX3) (T := TX3) (N := 8) hx hb hts uX3_copy_X3 hown hK.1 hP 0 rfl rfl 0 (by decide) (hts (.fieldLink RX3 9 "WishedResistor$Mesh" "points" "I") (List.mem_of_getElem? (i := 1) rfl)) (fun _ h9 => h9) rfl dX3_copy_2 ?_
  refine va_put (D := D) (ci := 3) (v := .int cp1_points) (ty := .int) (C := RX3) (T := TX3) (N := 8) hx hb hts uX3_copy_X3 tyX3 tyX3_ok nmX3 hown hK.1 hP hD hS 1 rfl rfl 0 (by decide) (hts (.fieldLink RX3 9 "WishedResistor$Mesh" "points" "I") (List.mem_of_getElem? (i := 1) rfl)) (fun _ h9 => h9) rfl (by decide +kernel) rfl rfl (Nat.le_of_ble_eq_true rfl) dX3_copy_5 (fun H locs hP hD hS => ?_)
  have hP : va_P D vwCl (wdX3_copy cy bp1 bp1_one bp1_other bp1_ohms bp1_trees bp1_worth bp1_best b b_one b_other b_ohms b_trees b_worth b_best cp1_points cp1_edges cp1_points c_edges c_one cp1_one c_other cp1_other c_ohms cp1_ohms) H := hP
  have hD : va_D A (wdX3_copy cy bp1 bp1_one bp1_other bp1_ohms bp1_trees bp1_worth bp1_best b b_one b_other b_ohms b_trees b_worth b_best cp1_points cp1_edges cp1_points c_edges c_one cp1_one c_other cp1_other c_ohms cp1_ohms) := hD
  refine lv_aload_n hx hb dX3_copy_8 rfl (lv_at hl 0 rfl) ?_
  refine lv_aload_n hx hb dX3_copy_9 rfl (lv_at hl 1 rfl) ?_
  refine va_get (D := D) (ci := 3) (v := .int cp1_edges) (C := RX3) (T := TX3) (N := 8) hx hb hts uX3_copy_X3 hown hK.1 hP 0 rfl rfl 1 (by decide) (hts (.fieldLink RX3 38 "WishedResistor$Mesh" "edges" "I") (List.mem_of_getElem? (i := 2) rfl)) (fun _ h9 => h9) rfl dX3_copy_10 ?_
  refine va_put (D := D) (ci := 3) (v := .int cp1_edges) (ty := .int) (C := RX3) (T := TX3) (N := 8) hx hb hts uX3_copy_X3 tyX3 tyX3_ok nmX3 hown hK.1 hP hD hS 1 rfl rfl 1 (by decide) (hts (.fieldLink RX3 38 "WishedResistor$Mesh" "edges" "I") (List.mem_of_getElem? (i := 2) rfl)) (fun _ h9 => h9) rfl (by decide +kernel) rfl rfl (Nat.le_of_ble_eq_true rfl) dX3_copy_13 (fun H locs hP hD hS => ?_)
  have hP : va_P D vwCl (wdX3_copy cy bp1 bp1_one bp1_other bp1_ohms bp1_trees bp1_worth bp1_best b b_one b_other b_ohms b_trees b_worth b_best cp1_points cp1_edges cp1_points cp1_edges c_one cp1_one c_other cp1_other c_ohms cp1_ohms) H := hP
  have hD : va_D A (wdX3_copy cy bp1 bp1_one bp1_other bp1_ohms bp1_trees bp1_worth bp1_best b b_one b_other b_ohms b_trees b_worth b_best cp1_points cp1_edges cp1_points cp1_edges c_one cp1_one c_other cp1_other c_ohms cp1_ohms) := hD
  refine lv_aload_n hx hb dX3_copy_16 rfl (lv_at hl 1 rfl) ?_
  refine va_get (D := D) (ci := 3) (v := .ref bp1_one) (C := RX3) (T := TX3) (N := 8) hx hb hts uX3_copy_X3 hown hK.1 hP 0 rfl rfl 2 (by decide) (hts (.fieldLink RX3 15 "WishedResistor$Mesh" "one" "[I") (List.mem_of_getElem? (i := 3) rfl)) (fun _ h9 => h9) rfl dX3_copy_17 ?_
  refine lv_iconst (v := (0 : Int32)) hx hb dX3_copy_20 (by decide) ?_
  refine lv_aload_n hx hb dX3_copy_21 rfl (lv_at hl 0 rfl) ?_
  refine va_get (D := D) (ci := 3) (v := .ref b_one) (C := RX3) (T := TX3) (N := 8) hx hb hts uX3_copy_X3 hown hK.1 hP 1 rfl rfl 2 (by decide) (hts (.fieldLink RX3 15 "WishedResistor$Mesh" "one" "[I") (List.mem_of_getElem? (i := 3) rfl)) (fun _ h9 => h9) rfl dX3_copy_22 ?_
  refine lv_iconst (v := (0 : Int32)) hx hb dX3_copy_25 (by decide) ?_
  refine lv_bipush (v := (8 : Int32)) hx hb dX3_copy_26 (by decide) ?_
  refine va_copyi hx hb (hml.trans hl.1.symm) hown (hts (.methodLink RX3 92 arraycopyName) (List.mem_of_getElem? (i := 4) rfl)) (hts (.native arraycopyName) (List.mem_of_getElem? (i := 5) rfl)) (hts (.static arraycopyName) (List.mem_of_getElem? (i := 6) rfl)) (hts (.initialized "java/lang/System") (List.mem_of_getElem? (i := 7) rfl)) hK.1 hP hD hS 3 2 0 0 rfl rfl rfl rfl rfl (by decide) (by decide) (by decide) (by decide) (by decide) (fun _ _ => rfl) (Nat.le_of_ble_eq_true rfl) (Nat.le_of_ble_eq_true rfl) dX3_copy_28 (fun H locs hP hD hS => ?_)
  have hP : va_P D vwCl (wdX3_copy cy bp1 bp1_one bp1_other bp1_ohms bp1_trees bp1_worth bp1_best b b_one b_other b_ohms b_trees b_worth b_best cp1_points cp1_edges cp1_points cp1_edges (va_cpy cp1_one c_one ((0 : Int32)).toNatClampNeg ((0 : Int32)).toNatClampNeg ((8 : Int32)).toNatClampNeg) cp1_one c_other cp1_other c_ohms cp1_ohms) H := hP
  have hD : va_D A (wdX3_copy cy bp1 bp1_one bp1_other bp1_ohms bp1_trees bp1_worth bp1_best b b_one b_other b_ohms b_trees b_worth b_best cp1_points cp1_edges cp1_points cp1_edges (va_cpy cp1_one c_one ((0 : Int32)).toNatClampNeg ((0 : Int32)).toNatClampNeg ((8 : Int32)).toNatClampNeg) cp1_one c_other cp1_other c_ohms cp1_ohms) := hD
  refine lv_aload_n hx hb dX3_copy_31 rfl (lv_at hl 1 rfl) ?_
  refine va_get (D := D) (ci := 3) (v := .ref bp1_other) (C := RX3) (T := TX3) (N := 8) hx hb hts uX3_copy_X3 hown hK.1 hP 0 rfl rfl 3 (by decide) (hts (.fieldLink RX3 19 "WishedResistor$Mesh" "other" "[I") (List.mem_of_getElem? (i := 8) rfl)) (fun _ h9 => h9) rfl dX3_copy_32 ?_
  refine lv_iconst (v := (0 : Int32)) hx hb dX3_copy_35 (by decide) ?_
  refine lv_aload_n hx hb dX3_copy_36 rfl (lv_at hl 0 rfl) ?_
  refine va_get (D := D) (ci := 3) (v := .ref b_other) (C := RX3) (T := TX3) (N := 8) hx hb hts uX3_copy_X3 hown hK.1 hP 1 rfl rfl 3 (by decide) (hts (.fieldLink RX3 19 "WishedResistor$Mesh" "other" "[I") (List.mem_of_getElem? (i := 8) rfl)) (fun _ h9 => h9) rfl dX3_copy_37 ?_
  refine lv_iconst (v := (0 : Int32)) hx hb dX3_copy_40 (by decide) ?_
  refine lv_bipush (v := (8 : Int32)) hx hb dX3_copy_41 (by decide) ?_
  refine va_copyi hx hb (hml.trans hl.1.symm) hown (hts (.methodLink RX3 92 arraycopyName) (List.mem_of_getElem? (i := 4) rfl)) (hts (.native arraycopyName) (List.mem_of_getElem? (i := 5) rfl)) (hts (.static arraycopyName) (List.mem_of_getElem? (i := 6) rfl)) (hts (.initialized "java/lang/System") (List.mem_of_getElem? (i := 7) rfl)) hK.1 hP hD hS 5 4 0 0 rfl rfl rfl rfl rfl (by decide) (by decide) (by decide) (by decide) (by decide) (fun _ _ => rfl) (Nat.le_of_ble_eq_true rfl) (Nat.le_of_ble_eq_true rfl) dX3_copy_43 (fun H locs hP hD hS => ?_)
  have hP : va_P D vwCl (wdX3_copy cy bp1 bp1_one bp1_other bp1_ohms bp1_trees bp1_worth bp1_best b b_one b_other b_ohms b_trees b_worth b_best cp1_points cp1_edges cp1_points cp1_edges (va_cpy cp1_one c_one ((0 : Int32)).toNatClampNeg ((0 : Int32)).toNatClampNeg ((8 : Int32)).toNatClampNeg) cp1_one (va_cpy cp1_other c_other ((0 : Int32)).toNatClampNeg ((0 : Int32)).toNatClampNeg ((8 : Int32)).toNatClampNeg) cp1_other c_ohms cp1_ohms) H := hP
  have hD : va_D A (wdX3_copy cy bp1 bp1_one bp1_other bp1_ohms bp1_trees bp1_worth bp1_best b b_one b_other b_ohms b_trees b_worth b_best cp1_points cp1_edges cp1_points cp1_edges (va_cpy cp1_one c_one ((0 : Int32)).toNatClampNeg ((0 : Int32)).toNatClampNeg ((8 : Int32)).toNatClampNeg) cp1_one (va_cpy cp1_other c_other ((0 : Int32)).toNatClampNeg ((0 : Int32)).toNatClampNeg ((8 : Int32)).toNatClampNeg) cp1_other c_ohms cp1_ohms) := hD
  refine lv_aload_n hx hb dX3_copy_46 rfl (lv_at hl 1 rfl) ?_
  refine va_get (D := D) (ci := 3) (v := .ref bp1_ohms) (C := RX3) (T := TX3) (N := 8) hx hb hts uX3_copy_X3 hown hK.1 hP 0 rfl rfl 4 (by decide) (hts (.fieldLink RX3 22 "WishedResistor$Mesh" "ohms" "[I") (List.mem_of_getElem? (i := 9) rfl)) (fun _ h9 => h9) rfl dX3_copy_47 ?_
  refine lv_iconst (v := (0 : Int32)) hx hb dX3_copy_50 (by decide) ?_
  refine lv_aload_n hx hb dX3_copy_51 rfl (lv_at hl 0 rfl) ?_
  refine va_get (D := D) (ci := 3) (v := .ref b_ohms) (C := RX3) (T := TX3) (N := 8) hx hb hts uX3_copy_X3 hown hK.1 hP 1 rfl rfl 4 (by decide) (hts (.fieldLink RX3 22 "WishedResistor$Mesh" "ohms" "[I") (List.mem_of_getElem? (i := 9) rfl)) (fun _ h9 => h9) rfl dX3_copy_52 ?_
  refine lv_iconst (v := (0 : Int32)) hx hb dX3_copy_55 (by decide) ?_
  refine lv_bipush (v := (8 : Int32)) hx hb dX3_copy_56 (by decide) ?_
  refine va_copyi hx hb (hml.trans hl.1.symm) hown (hts (.methodLink RX3 92 arraycopyName) (List.mem_of_getElem? (i := 4) rfl)) (hts (.native arraycopyName) (List.mem_of_getElem? (i := 5) rfl)) (hts (.static arraycopyName) (List.mem_of_getElem? (i := 6) rfl)) (hts (.initialized "java/lang/System") (List.mem_of_getElem? (i := 7) rfl)) hK.1 hP hD hS 7 6 0 0 rfl rfl rfl rfl rfl (by decide) (by decide) (by decide) (by decide) (by decide) (fun _ _ => rfl) (Nat.le_of_ble_eq_true rfl) (Nat.le_of_ble_eq_true rfl) dX3_copy_58 (fun H locs hP hD hS => ?_)
  have hP : va_P D vwCl (wdX3_copy cy bp1 bp1_one bp1_other bp1_ohms bp1_trees bp1_worth bp1_best b b_one b_other b_ohms b_trees b_worth b_best cp1_points cp1_edges cp1_points cp1_edges (va_cpy cp1_one c_one ((0 : Int32)).toNatClampNeg ((0 : Int32)).toNatClampNeg ((8 : Int32)).toNatClampNeg) cp1_one (va_cpy cp1_other c_other ((0 : Int32)).toNatClampNeg ((0 : Int32)).toNatClampNeg ((8 : Int32)).toNatClampNeg) cp1_other (va_cpy cp1_ohms c_ohms ((0 : Int32)).toNatClampNeg ((0 : Int32)).toNatClampNeg ((8 : Int32)).toNatClampNeg) cp1_ohms) H := hP
  have hD : va_D A (wdX3_copy cy bp1 bp1_one bp1_other bp1_ohms bp1_trees bp1_worth bp1_best b b_one b_other b_ohms b_trees b_worth b_best cp1_points cp1_edges cp1_points cp1_edges (va_cpy cp1_one c_one ((0 : Int32)).toNatClampNeg ((0 : Int32)).toNatClampNeg ((8 : Int32)).toNatClampNeg) cp1_one (va_cpy cp1_other c_other ((0 : Int32)).toNatClampNeg ((0 : Int32)).toNatClampNeg ((8 : Int32)).toNatClampNeg) cp1_other (va_cpy cp1_ohms c_ohms ((0 : Int32)).toNatClampNeg ((0 : Int32)).toNatClampNeg ((8 : Int32)).toNatClampNeg) cp1_ohms) := hD
  exact hret (o := (cp1_points, cp1_edges, (va_cpy cp1_one c_one ((0 : Int32)).toNatClampNeg ((0 : Int32)).toNatClampNeg ((8 : Int32)).toNatClampNeg), (va_cpy cp1_other c_other ((0 : Int32)).toNatClampNeg ((0 : Int32)).toNatClampNeg ((8 : Int32)).toNatClampNeg), (va_cpy cp1_ohms c_ohms ((0 : Int32)).toNatClampNeg ((0 : Int32)).toNatClampNeg ((8 : Int32)).toNatClampNeg))) h hP hD hS dX3_copy_61

theorem uX2_take_X2 : ∀ w ∈ u_ws RX2 TX2 5, w ∈ wsX2_take := fun w h => (List.mem_cons_of_mem _ (List.mem_append_left _ (List.mem_append_left _ (List.mem_append_left _ (List.mem_append_left _ (List.mem_append_right _ h))))))
abbrev wdX2_take (cy : Nat → ClassId) (b b_box b_nets b_mesh b_trays bp1 bp1_ohms bp1_spread b_box_ohms b_box_spread bp2 bp2_kind bp2_first bp2_second bp2_parts bp2_likes bp2_letters bp2_waiting bp2_made b_nets_kind b_nets_first b_nets_second b_nets_parts b_nets_likes b_nets_letters b_nets_waiting b_nets_made bp3 bp3_one bp3_other bp3_ohms bp3_trees bp3_worth bp3_best b_mesh_one b_mesh_other b_mesh_ohms b_mesh_trees b_mesh_worth b_mesh_best bp4 bp4_e0 bp4_e1 bp4_e2 b_trays_e0 b_trays_e1 b_trays_e2 bp4_e0_places bp4_e1_places bp4_e2_places b_trays_e0_places b_trays_e1_places b_trays_e2_places : Nat) (c_isTaken : Int32) (c_box_ohms cp1_ohms c_box_spread cp1_spread : Nat → Int32) (cp2_count c_nets_count : Int32) (c_nets_kind cp2_kind c_nets_first cp2_first c_nets_second cp2_second c_nets_parts cp2_parts : Nat → Int32) (cp3_points cp3_edges c_mesh_points c_mesh_edges : Int32) (c_mesh_one cp3_one c_mesh_other cp3_other c_mesh_ohms cp3_ohms : Nat → Int32) (cp4_e0_kind cp4_e0_size cp4_e1_kind cp4_e1_size cp4_e2_kind cp4_e2_size c_trays_e0_kind c_trays_e0_size c_trays_e1_kind c_trays_e1_size c_trays_e2_kind c_trays_e2_size : Int32) (c_trays_e0_places c_trays_e1_places c_trays_e2_places cp4_e0_places cp4_e1_places cp4_e2_places : Nat → Int32) : va_W := [(b, .inr (2, [.ref b_box, .ref b_nets, .ref b_mesh, .ref b_trays, .int c_isTaken])), (bp1, .inr (0, [.ref bp1_ohms, .ref bp1_spread])), (b_box, .inr (0, [.ref b_box_ohms, .ref b_box_spread])), (b_box_ohms, .inl (cy 0, 4, .inl c_box_ohms)), (bp1_ohms, .inl (cy 0, 4, .inl cp1_ohms)), (b_box_spread, .inl (cy 0, 4, .inl c_box_spread)), (bp1_spread, .inl (cy 0, 4, .inl cp1_spread)), (bp2, .inr (5, [.ref bp2_kind, .ref bp2_first, .ref bp2_second, .ref bp2_parts, .int cp2_count, .ref bp2_likes, .ref bp2_letters, .ref bp2_waiting, .ref bp2_made])), (b_nets, .inr (5, [.ref b_nets_kind, .ref b_nets_first, .ref b_nets_second, .ref b_nets_parts, .int c_nets_count, .ref b_nets_likes, .ref b_nets_letters, .ref b_nets_waiting, .ref b_nets_made])), (b_nets_kind, .inl (cy 0, 40, .inl c_nets_kind)), (bp2_kind, .inl (cy 0, 40, .inl cp2_kind)), (b_nets_first, .inl (cy 0, 40, .inl c_nets_first)), (bp2_first, .inl (cy 0, 40, .inl cp2_first)), (b_nets_second, .inl (cy 0, 40, .inl c_nets_second)), (bp2_second, .inl (cy 0, 40, .inl cp2_second)), (b_nets_parts, .inl (cy 0, 40, .inl c_nets_parts)), (bp2_parts, .inl (cy 0, 40, .inl cp2_parts)), (bp3, .inr (3, [.int cp3_points, .int cp3_edges, .ref bp3_one, .ref bp3_other, .ref bp3_ohms, .ref bp3_trees, .ref bp3_worth, .ref bp3_best])), (b_mesh, .inr (3, [.int c_mesh_points, .int c_mesh_edges, .ref b_mesh_one, .ref b_mesh_other, .ref b_mesh_ohms, .ref b_mesh_trees, .ref b_mesh_worth, .ref b_mesh_best])), (b_mesh_one, .inl (cy 0, 8, .inl c_mesh_one)), (bp3_one, .inl (cy 0, 8, .inl cp3_one)), (b_mesh_other, .inl (cy 0, 8, .inl c_mesh_other)), (bp3_other, .inl (cy 0, 8, .inl cp3_other)), (b_mesh_ohms, .inl (cy 0, 8, .inl c_mesh_ohms)), (bp3_ohms, .inl (cy 0, 8, .inl cp3_ohms)), (bp4, .inl (cy 4, 3, .inr (.inr (.inr (.inr (va_up (va_up (va_up (fun _ => none) 0 (some bp4_e0)) 1 (some bp4_e1)) 2 (some bp4_e2))))))), (b_trays, .inl (cy 4, 3, .inr (.inr (.inr (.inr (va_up (va_up (va_up (fun _ => none) 0 (some b_trays_e0)) 1 (some b_trays_e1)) 2 (some b_trays_e2))))))), (bp4_e0, .inr (9, [.int cp4_e0_kind, .int cp4_e0_size, .ref bp4_e0_places])), (bp4_e1, .inr (9, [.int cp4_e1_kind, .int cp4_e1_size, .ref bp4_e1_places])), (bp4_e2, .inr (9, [.int cp4_e2_kind, .int cp4_e2_size, .ref bp4_e2_places])), (b_trays_e0, .inr (9, [.int c_trays_e0_kind, .int c_trays_e0_size, .ref b_trays_e0_places])), (b_trays_e1, .inr (9, [.int c_trays_e1_kind, .int c_trays_e1_size, .ref b_trays_e1_places])), (b_trays_e2, .inr (9, [.int c_trays_e2_kind, .int c_trays_e2_size, .ref b_trays_e2_places])), (b_trays_e0_places, .inl (cy 0, 20, .inl c_trays_e0_places)), (b_trays_e1_places, .inl (cy 0, 20, .inl c_trays_e1_places)), (b_trays_e2_places, .inl (cy 0, 20, .inl c_trays_e2_places)), (bp4_e0_places, .inl (cy 0, 20, .inl cp4_e0_places)), (bp4_e1_places, .inl (cy 0, 20, .inl cp4_e1_places)), (bp4_e2_places, .inl (cy 0, 20, .inl cp4_e2_places))]
abbrev rmX2_take : Room := { frames := 2, cells := 0, slots := 0, locals := 48 }
theorem cdX2_take : (yX2_take).cls ≠ "java/lang/invoke/MethodHandle" ∧ (yX2_take).cls ≠ "java/lang/invoke/VarHandle" ∧ (parseMethodDescriptor (yX2_take).desc).map (fun d => d.parameters.length) = some 4 := by decide +kernel
def fX2_take (c_isTaken : Int32) (c_box_ohms cp1_ohms c_box_spread cp1_spread : Nat → Int32) (cp2_count c_nets_count : Int32) (c_nets_kind cp2_kind c_nets_first cp2_first c_nets_second cp2_second c_nets_parts cp2_parts : Nat → Int32) (cp3_points cp3_edges c_mesh_points c_mesh_edges : Int32) (c_mesh_one cp3_one c_mesh_other cp3_other c_mesh_ohms cp3_ohms : Nat → Int32) (cp4_e0_kind cp4_e0_size cp4_e1_kind cp4_e1_size cp4_e2_kind cp4_e2_size c_trays_e0_kind c_trays_e0_size c_trays_e1_kind c_trays_e1_size c_trays_e2_kind c_trays_e2_size : Int32) (c_trays_e0_places c_trays_e1_places c_trays_e2_places cp4_e0_places cp4_e1_places cp4_e2_places : Nat → Int32) : Option (Int32 × (Nat → Int32) × (Nat → Int32) × Int32 × (Nat → Int32) × (Nat → Int32) × (Nat → Int32) × (Nat → Int32) × Int32 × Int32 × (Nat → Int32) × (Nat → Int32) × (Nat → Int32) × Int32 × Int32 × Int32 × Int32 × Int32 × Int32 × (Nat → Int32) × (Nat → Int32) × (Nat → Int32)) :=
  zb2 (fX0_copy c_box_ohms cp1_ohms c_box_spread cp1_spread) (fun c_box_ohms_r5 c_box_spread_r5 => zb5 (fX5_copy cp2_count c_nets_count c_nets_kind cp2_kind c_nets_first cp2_first c_nets_second cp2_second c_nets_parts cp2_parts) (fun c_nets_count_r13 c_nets_kind_r13 c_nets_first_r13 c_nets_second_r13 c_nets_parts_r13 => zb5 (fX3_copy cp3_points cp3_edges c_mesh_points c_mesh_edges c_mesh_one cp3_one c_mesh_other cp3_other c_mesh_ohms cp3_ohms) (fun c_mesh_points_r21 c_mesh_edges_r21 c_mesh_one_r21 c_mesh_other_r21 c_mesh_ohms_r21 => zb3 (fX9_copy cp4_e0_kind cp4_e0_size c_trays_e0_kind c_trays_e0_size c_trays_e0_places cp4_e0_places) (fun c_trays_e0_kind_r53 c_trays_e0_size_r53 c_trays_e0_places_r53 => zb3 (fX9_copy cp4_e1_kind cp4_e1_size c_trays_e1_kind c_trays_e1_size c_trays_e1_places cp4_e1_places) (fun c_trays_e1_kind_r53 c_trays_e1_size_r53 c_trays_e1_places_r53 => zb3 (fX9_copy cp4_e2_kind cp4_e2_size c_trays_e2_kind c_trays_e2_size c_trays_e2_places cp4_e2_places) (fun c_trays_e2_kind_r53 c_trays_e2_size_r53 c_trays_e2_places_r53 => some ((1 : Int32), c_box_ohms_r5, c_box_spread_r5, c_nets_count_r13, c_nets_kind_r13, c_nets_first_r13, c_nets_second_r13, c_nets_parts_r13, c_mesh_points_r21, c_mesh_edges_r21, c_mesh_one_r21, c_mesh_other_r21, c_mesh_ohms_r21, c_trays_e0_kind_r53, c_trays_e0_size_r53, c_trays_e1_kind_r53, c_trays_e1_size_r53, c_trays_e2_kind_r53, c_trays_e2_size_r53, c_trays_e0_places_r53, c_trays_e1_places_r53, c_trays_e2_places_r53)))))))
set_option maxHeartbeats 4000000 in
set_option maxRecDepth 100000 in
theorem mX2_take (l : Launch) (D : va_G) (cy : Nat → ClassId) (sz : Nat) (b b_box b_nets b_mesh b_trays bp1 bp1_ohms bp1_spread b_box_ohms b_box_spread bp2 bp2_kind bp2_first bp2_second bp2_parts bp2_likes bp2_letters bp2_waiting bp2_made b_nets_kind b_nets_first b_nets_second b_nets_parts b_nets_likes b_nets_letters b_nets_waiting b_nets_made bp3 bp3_one bp3_other bp3_ohms bp3_trees bp3_worth bp3_best b_mesh_one b_mesh_other b_mesh_ohms b_mesh_trees b_mesh_worth b_mesh_best bp4 bp4_e0 bp4_e1 bp4_e2 b_trays_e0 b_trays_e1 b_trays_e2 bp4_e0_places bp4_e1_places bp4_e2_places b_trays_e0_places b_trays_e1_places b_trays_e2_places : Nat) (c_isTaken : Int32) (c_box_ohms cp1_ohms c_box_spread cp1_spread : Nat → Int32) (cp2_count c_nets_count : Int32) (c_nets_kind cp2_kind c_nets_first cp2_first c_nets_second cp2_second c_nets_parts cp2_parts : Nat → Int32) (cp3_points cp3_edges c_mesh_points c_mesh_edges : Int32) (c_mesh_one cp3_one c_mesh_other cp3_other c_mesh_ohms cp3_ohms : Nat → Int32) (cp4_e0_kind cp4_e0_size cp4_e1_kind cp4_e1_size cp4_e2_kind cp4_e2_size c_trays_e0_kind c_trays_e0_size c_trays_e1_kind c_trays_e1_size c_trays_e2_kind c_trays_e2_size : Int32) (c_trays_e0_places c_trays_e1_places c_trays_e2_places cp4_e0_places cp4_e1_places cp4_e2_places : Nat → Int32) (res : (Int32 × (Nat → Int32) × (Nat → Int32) × Int32 × (Nat → Int32) × (Nat → Int32) × (Nat → Int32) × (Nat → Int32) × Int32 × Int32 × (Nat → Int32) × (Nat → Int32) × (Nat → Int32) × Int32 × Int32 × Int32 × Int32 × Int32 × Int32 × (Nat → Int32) × (Nat → Int32) × (Nat → Int32))) (h : fX2_take c_isTaken c_box_ohms cp1_ohms c_box_spread cp1_spread cp2_count c_nets_count c_nets_kind cp2_kind c_nets_first cp2_first c_nets_second cp2_second c_nets_parts cp2_parts cp3_points cp3_edges c_mesh_points c_mesh_edges c_mesh_one cp3_one c_mesh_other cp3_other c_mesh_ohms cp3_ohms cp4_e0_kind cp4_e0_size cp4_e1_kind cp4_e1_size cp4_e2_kind cp4_e2_size c_trays_e0_kind c_trays_e0_size c_trays_e1_kind c_trays_e1_size c_trays_e2_kind c_trays_e2_size c_trays_e0_places c_trays_e1_places c_trays_e2_places cp4_e0_places cp4_e1_places cp4_e2_places = some res) : zMv l yX2_take wsX2_take rmX2_take [.ref b, .ref bp1, .ref bp2, .ref bp3, .ref bp4] D cy (wdX2_take cy b b_box b_nets b_mesh b_trays bp1 bp1_ohms bp1_spread b_box_ohms b_box_spread bp2 bp2_kind bp2_first bp2_second bp2_parts bp2_likes bp2_letters bp2_waiting bp2_made b_nets_kind b_nets_first b_nets_second b_nets_parts b_nets_likes b_nets_letters b_nets_waiting b_nets_made bp3 bp3_one bp3_other bp3_ohms bp3_trees bp3_worth bp3_best b_mesh_one b_mesh_other b_mesh_ohms b_mesh_trees b_mesh_worth b_mesh_best bp4 bp4_e0 bp4_e1 bp4_e2 b_trays_e0 b_trays_e1 b_trays_e2 bp4_e0_places bp4_e1_places bp4_e2_places b_trays_e0_places b_trays_e1_places b_trays_e2_places c_isTaken c_box_ohms cp1_ohms c_box_spread cp1_spread cp2_count c_nets_count c_nets_kind cp2_kind c_nets_first cp2_first c_nets_second cp2_second c_nets_parts cp2_parts cp3_points cp3_edges c_mesh_points c_mesh_edges c_mesh_one cp3_one c_mesh_other cp3_other c_mesh_ohms cp3_ohms cp4_e0_kind cp4_e0_size cp4_e1_kind cp4_e1_size cp4_e2_kind cp4_e2_size c_trays_e0_kind c_trays_e0_size c_trays_e1_kind c_trays_e1_size c_trays_e2_kind c_trays_e2_size c_trays_e0_places c_trays_e1_places c_trays_e2_places cp4_e0_places cp4_e1_places cp4_e2_places) sz  ((fun (o : (Int32 × (Nat → Int32) × (Nat → Int32) × Int32 × (Nat → Int32) × (Nat → Int32) × (Nat → Int32) × (Nat → Int32) × Int32 × Int32 × (Nat → Int32) × (Nat → Int32) × (Nat → Int32) × Int32 × Int32 × Int32 × Int32 × Int32 × Int32 × (Nat → Int32) × (Nat → Int32) × (Nat → Int32))) => (wdX2_take cy b b_box b_nets b_mesh b_trays bp1 bp1_ohms bp1_spread b_box_ohms b_box_spread bp2 bp2_kind bp2_first bp2_second bp2_parts bp2_likes bp2_letters bp2_waiting bp2_made b_nets_kind b_nets_first b_nets_second b_nets_parts b_nets_likes b_nets_letters b_nets_waiting b_nets_made bp3 bp3_one bp3_other bp3_ohms bp3_trees bp3_worth bp3_best b_mesh_one b_mesh_other b_mesh_ohms b_mesh_trees b_mesh_worth b_mesh_best bp4 bp4_e0 bp4_e1 bp4_e2 b_trays_e0 b_trays_e1 b_trays_e2 bp4_e0_places bp4_e1_places bp4_e2_places b_trays_e0_places b_trays_e1_places b_trays_e2_places (o.1) (o.2.1) cp1_ohms (o.2.2.1) cp1_spread cp2_count (o.2.2.2.1) (o.2.2.2.2.1) cp2_kind (o.2.2.2.2.2.1) cp2_first (o.2.2.2.2.2.2.1) cp2_second (o.2.2.2.2.2.2.2.1) cp2_parts cp3_points cp3_edges (o.2.2.2.2.2.2.2.2.1) (o.2.2.2.2.2.2.2.2.2.1) (o.2.2.2.2.2.2.2.2.2.2.1) cp3_one (o.2.2.2.2.2.2.2.2.2.2.2.1) cp3_other (o.2.2.2.2.2.2.2.2.2.2.2.2.1) cp3_ohms cp4_e0_kind cp4_e0_size cp4_e1_kind cp4_e1_size cp4_e2_kind cp4_e2_size (o.2.2.2.2.2.2.2.2.2.2.2.2.2.1) (o.2.2.2.2.2.2.2.2.2.2.2.2.2.2.1) (o.2.2.2.2.2.2.2.2.2.2.2.2.2.2.2.1) (o.2.2.2.2.2.2.2.2.2.2.2.2.2.2.2.2.1) (o.2.2.2.2.2.2.2.2.2.2.2.2.2.2.2.2.2.1) (o.2.2.2.2.2.2.2.2.2.2.2.2.2.2.2.2.2.2.1) (o.2.2.2.2.2.2.2.2.2.2.2.2.2.2.2.2.2.2.2.1) (o.2.2.2.2.2.2.2.2.2.2.2.2.2.2.2.2.2.2.2.2.1) (o.2.2.2.2.2.2.2.2.2.2.2.2.2.2.2.2.2.2.2.2.2) cp4_e0_places cp4_e1_places cp4_e2_places)) res) := by
  refine zOfv (res := res) (Wf := (fun (o : (Int32 × (Nat → Int32) × (Nat → Int32) × Int32 × (Nat → Int32) × (Nat → Int32) × (Nat → Int32) × (Nat → Int32) × Int32 × Int32 × (Nat → Int32) × (Nat → Int32) × (Nat → Int32) × Int32 × Int32 × Int32 × Int32 × Int32 × Int32 × (Nat → Int32) × (Nat → Int32) × (Nat → Int32))) => (wdX2_take cy b b_box b_nets b_mesh b_trays bp1 bp1_ohms bp1_spread b_box_ohms b_box_spread bp2 bp2_kind bp2_first bp2_second bp2_parts bp2_likes bp2_letters bp2_waiting bp2_made b_nets_kind b_nets_first b_nets_second b_nets_parts b_nets_likes b_nets_letters b_nets_waiting b_nets_made bp3 bp3_one bp3_other bp3_ohms bp3_trees bp3_worth bp3_best b_mesh_one b_mesh_other b_mesh_ohms b_mesh_trees b_mesh_worth b_mesh_best bp4 bp4_e0 bp4_e1 bp4_e2 b_trays_e0 b_trays_e1 b_trays_e2 bp4_e0_places bp4_e1_places bp4_e2_places b_trays_e0_places b_trays_e1_places b_trays_e2_places (o.1) (o.2.1) cp1_ohms (o.2.2.1) cp1_spread cp2_count (o.2.2.2.1) (o.2.2.2.2.1) cp2_kind (o.2.2.2.2.2.1) cp2_first (o.2.2.2.2.2.2.1) cp2_second (o.2.2.2.2.2.2.2.1) cp2_parts cp3_points cp3_edges (o.2.2.2.2.2.2.2.2.1) (o.2.2.2.2.2.2.2.2.2.1) (o.2.2.2.2.2.2.2.2.2.2.1) cp3_one (o.2.2.2.2.2.2.2.2.2.2.2.1) cp3_other (o.2.2.2.2.2.2.2.2.2.2.2.2.1) cp3_ohms cp4_e0_kind cp4_e0_size cp4_e1_kind cp4_e1_size cp4_e2_kind cp4_e2_size (o.2.2.2.2.2.2.2.2.2.2.2.2.2.1) (o.2.2.2.2.2.2.2.2.2.2.2.2.2.2.1) (o.2.2.2.2.2.2.2.2.2.2.2.2.2.2.2.1) (o.2.2.2.2.2.2.2.2.2.2.2.2.2.2.2.2.1) (o.2.2.2.2.2.2.2.2.2.2.2.2.2.2.2.2.2.1) (o.2.2.2.2.2.2.2.2.2.2.2.2.2.2.2.2.2.2.1) (o.2.2.2.2.2.2.2.2.2.2.2.2.2.2.2.2.2.2.2.1) (o.2.2.2.2.2.2.2.2.2.2.2.2.2.2.2.2.2.2.2.2.1) (o.2.2.2.2.2.2.2.2.2.2.2.2.2.2.2.2.2.2.2.2.2) cp4_e0_places cp4_e1_places cp4_e2_places))) (by decide +kernel) rfl (Nat.le_of_ble_eq_true rfl) ?_
  intro p e s m args below meth c A ls Q hx hb hml hts hown hP hK hD hA hS hl hret
  have hown : s.vm.findClass RX2 = some m.cls := hown
  have hl : lv_has ls 6 [(0, .ref b), (1, .ref bp1), (2, .ref bp2), (3, .ref bp3), (4, .ref bp4)] := hl
  refine lv_aload_n hx hb dX2_take_0 rfl (lv_at hl 0 rfl) ?_
  refine va_get (D := D) (ci := 2) (v := .ref b_box) (C := RX2) (T := TX2) (N := 5) hx hb hts uX2_take_X2 hown hK.1 hP 0 rfl rfl 0 (by decide) (hts (.fieldLink RX2 12 "WishedResistor$Image" "box" "LWishedResistor$Box;") (List.mem_of_getElem? (i := 1) rfl)) (fun _ h9 => h9) rfl dX2_take_1 ?_
  refine lv_aload_n hx hb dX2_take_4 rfl (lv_at hl 1 rfl) ?_
  obtain ⟨c_box_ohms_r5, c_box_spread_r5, hq5, h⟩ := zb2_s h
  refine zCv (w1 := (wdX0_copy cy bp1 bp1_ohms bp1_spread b_box b_box_ohms b_box_spread c_box_ohms_r5 cp1_ohms c_box_spread_r5 cp1_spread)) (ws' := (wdX2_take cy b b_box b_nets b_mesh b_trays bp1 bp1_ohms bp1_spread b_box_ohms b_box_spread bp2 bp2_kind bp2_first bp2_second bp2_parts bp2_likes bp2_letters bp2_waiting bp2_made b_nets_kind b_nets_first b_nets_second b_nets_parts b_nets_likes b_nets_letters b_nets_waiting b_nets_made bp3 bp3_one bp3_other bp3_ohms bp3_trees bp3_worth bp3_best b_mesh_one b_mesh_other b_mesh_ohms b_mesh_trees b_mesh_worth b_mesh_best bp4 bp4_e0 bp4_e1 bp4_e2 b_trays_e0 b_trays_e1 b_trays_e2 bp4_e0_places bp4_e1_places bp4_e2_places b_trays_e0_places b_trays_e1_places b_trays_e2_places c_isTaken c_box_ohms_r5 cp1_ohms c_box_spread_r5 cp1_spread cp2_count c_nets_count c_nets_kind cp2_kind c_nets_first cp2_first c_nets_second cp2_second c_nets_parts cp2_parts cp3_points cp3_edges c_mesh_points c_mesh_edges c_mesh_one cp3_one c_mesh_other cp3_other c_mesh_ohms cp3_ohms cp4_e0_kind cp4_e0_size cp4_e1_kind cp4_e1_size cp4_e2_kind cp4_e2_size c_trays_e0_kind c_trays_e0_size c_trays_e1_kind c_trays_e1_size c_trays_e2_kind c_trays_e2_size c_trays_e0_places c_trays_e1_places c_trays_e2_places cp4_e0_places cp4_e1_places cp4_e2_places)) (va_runV (As := [.ref bp1]) (rest := []) ⟨hx, hb, hml, hown, hts⟩ (mX0_copy l D cy s.heap.size bp1 bp1_ohms bp1_spread b_box b_box_ohms b_box_spread c_box_ohms cp1_ohms c_box_spread cp1_spread (c_box_ohms_r5, c_box_spread_r5) hq5) (cwV 1 hts gX2_take_X0_copy rfl rfl rfl ⟨rfl, cdX0_copy⟩ ⟨Nat.le_of_ble_eq_true rfl, Nat.le_of_ble_eq_true rfl⟩) (zPV hK hP hD [1, 2, 3, 4, 5, 6] rfl rfl (q0 := 2) (ci := 0) rfl rfl rfl) rfl rfl hl.1 rfl (lv_room (Nat.le_of_ble_eq_true rfl)) dX2_take_5 ⟨Nat.zero_le _, Nat.zero_le _⟩) hP hD hS hA [1, 2, 3, 4, 5, 6] [0, 7, 8, 9, 10, 11, 12, 13, 14, 15, 16, 17, 18, 19, 20, 21, 22, 23, 24, 25, 26, 27, 28, 29, 30, 31, 32, 33, 34, 35, 36, 37, 38] [0, 33, 34, 35, 36, 37, 38, 1, 2, 3, 4, 5, 6, 7, 8, 9, 10, 11, 12, 13, 14, 15, 16, 17, 18, 19, 20, 21, 22, 23, 24, 25, 26, 27, 28, 29, 30, 31, 32] rfl rfl rfl rfl (fun H locs hP hD hS => ?_)
  refine lv_aload_n hx hb dX2_take_8 rfl (lv_at hl 0 rfl) ?_
  refine va_get (D := D) (ci := 2) (v := .ref b_nets) (C := RX2) (T := TX2) (N := 5) hx hb hts uX2_take_X2 hown hK.1 hP 0 rfl rfl 1 (by decide) (hts (.fieldLink RX2 21 "WishedResistor$Image" "nets" "LWishedResistor$Nets;") (List.mem_of_getElem? (i := 2) rfl)) (fun _ h9 => h9) rfl dX2_take_9 ?_
  refine lv_aload_n hx hb dX2_take_12 rfl (lv_at hl 2 rfl) ?_
  obtain ⟨c_nets_count_r13, c_nets_kind_r13, c_nets_first_r13, c_nets_second_r13, c_nets_parts_r13, hq13, h⟩ := zb5_s h
  refine zCv (w1 := (wdX5_copy cy bp2 bp2_kind bp2_first bp2_second bp2_parts bp2_likes bp2_letters bp2_waiting bp2_made b_nets b_nets_kind b_nets_first b_nets_second b_nets_parts b_nets_likes b_nets_letters b_nets_waiting b_nets_made cp2_count c_nets_count_r13 c_nets_kind_r13 cp2_kind c_nets_first_r13 cp2_first c_nets_second_r13 cp2_second c_nets_parts_r13 cp2_parts)) (ws' := (wdX2_take cy b b_box b_nets b_mesh b_trays bp1 bp1_ohms bp1_spread b_box_ohms b_box_spread bp2 bp2_kind bp2_first bp2_second bp2_parts bp2_likes bp2_letters bp2_waiting bp2_made b_nets_kind b_nets_first b_nets_second b_nets_parts b_nets_likes b_nets_letters b_nets_waiting b_nets_made bp3 bp3_one bp3_other bp3_ohms bp3_trees bp3_worth bp3_best b_mesh_one b_mesh_other b_mesh_ohms b_mesh_trees b_mesh_worth b_mesh_best bp4 bp4_e0 bp4_e1 bp4_e2 b_trays_e0 b_trays_e1 b_trays_e2 bp4_e0_places bp4_e1_places bp4_e2_places b_trays_e0_places b_trays_e1_places b_trays_e2_places c_isTaken c_box_ohms_r5 cp1_ohms c_box_spread_r5 cp1_spread cp2_count c_nets_count_r13 c_nets_kind_r13 cp2_kind c_nets_first_r13 cp2_first c_nets_second_r13 cp2_second c_nets_parts_r13 cp2_parts cp3_points cp3_edges c_mesh_points c_mesh_edges c_mesh_one cp3_one c_mesh_other cp3_other c_mesh_ohms cp3_ohms cp4_e0_kind cp4_e0_size cp4_e1_kind cp4_e1_size cp4_e2_kind cp4_e2_size c_trays_e0_kind c_trays_e0_size c_trays_e1_kind c_trays_e1_size c_trays_e2_kind c_trays_e2_size c_trays_e0_places c_trays_e1_places c_trays_e2_places cp4_e0_places cp4_e1_places cp4_e2_places)) (va_runV (As := [.ref bp2]) (rest := []) ⟨hx, hb, hml, hown, hts⟩ (mX5_copy l D cy H.size bp2 bp2_kind bp2_first bp2_second bp2_parts bp2_likes bp2_letters bp2_waiting bp2_made b_nets b_nets_kind b_nets_first b_nets_second b_nets_parts b_nets_likes b_nets_letters b_nets_waiting b_nets_made cp2_count c_nets_count c_nets_kind cp2_kind c_nets_first cp2_first c_nets_second cp2_second c_nets_parts cp2_parts (c_nets_count_r13, c_nets_kind_r13, c_nets_first_r13, c_nets_second_r13, c_nets_parts_r13) hq13) (cwV 1 hts gX2_take_X5_copy rfl rfl rfl ⟨rfl, cdX5_copy⟩ ⟨Nat.le_of_ble_eq_true rfl, Nat.le_of_ble_eq_true rfl⟩) (zPV hK hP hD [7, 8, 9, 10, 11, 12, 13, 14, 15, 16] rfl rfl (q0 := 8) (ci := 5) rfl rfl rfl) rfl rfl hl.1 rfl (lv_room (Nat.le_of_ble_eq_true rfl)) dX2_take_13 ⟨Nat.zero_le _, Nat.zero_le _⟩) hP hD hS hA [7, 8, 9, 10, 11, 12, 13, 14, 15, 16] [0, 1, 2, 3, 4, 5, 6, 17, 18, 19, 20, 21, 22, 23, 24, 25, 26, 27, 28, 29, 30, 31, 32, 33, 34, 35, 36, 37, 38] [0, 1, 2, 3, 4, 5, 6, 29, 30, 31, 32, 33, 34, 35, 36, 37, 38, 7, 8, 9, 10, 11, 12, 13, 14, 15, 16, 17, 18, 19, 20, 21, 22, 23, 24, 25, 26, 27, 28] rfl rfl rfl rfl (fun H locs hP hD hS => ?_)
  refine lv_aload_n hx hb dX2_take_16 rfl (lv_at hl 0 rfl) ?_
  refine va_get (D := D) (ci := 2) (v := .ref b_mesh) (C := RX2) (T := TX2) (N := 5) hx hb hts uX2_take_X2 hown hK.1 hP 0 rfl rfl 2 (by decide) (hts (.fieldLink RX2 28 "WishedResistor$Image" "mesh" "LWishedResistor$Mesh;") (List.mem_of_getElem? (i := 3) rfl)) (fun _ h9 => h9) rfl dX2_take_17 ?_
  refine lv_aload_n hx hb dX2_take_20 rfl (lv_at hl 3 rfl) ?_
  obtain ⟨c_mesh_points_r21, c_mesh_edges_r21, c_mesh_one_r21, c_mesh_other_r21, c_mesh_ohms_r21, hq21, h⟩ := zb5_s h
  refine zCv (w1 := (wdX3_copy cy bp3 bp3_one bp3_other bp3_ohms bp3_trees bp3_worth bp3_best b_mesh b_mesh_one b_mesh_other b_mesh_ohms b_mesh_trees b_mesh_worth b_mesh_best cp3_points cp3_edges c_mesh_points_r21 c_mesh_edges_r21 c_mesh_one_r21 cp3_one c_mesh_other_r21 cp3_other c_mesh_ohms_r21 cp3_ohms)) (ws' := (wdX2_take cy b b_box b_nets b_mesh b_trays bp1 bp1_ohms bp1_spread b_box_ohms b_box_spread bp2 bp2_kind bp2_first bp2_second bp2_parts bp2_likes bp2_letters bp2_waiting bp2_made b_nets_kind b_nets_first b_nets_second b_nets_parts b_nets_likes b_nets_letters b_nets_waiting b_nets_made bp3 bp3_one bp3_other bp3_ohms bp3_trees bp3_worth bp3_best b_mesh_one b_mesh_other b_mesh_ohms b_mesh_trees b_mesh_worth b_mesh_best bp4 bp4_e0 bp4_e1 bp4_e2 b_trays_e0 b_trays_e1 b_trays_e2 bp4_e0_places bp4_e1_places bp4_e2_places b_trays_e0_places b_trays_e1_places b_trays_e2_places c_isTaken c_box_ohms_r5 cp1_ohms c_box_spread_r5 cp1_spread cp2_count c_nets_count_r13 c_nets_kind_r13 cp2_kind c_nets_first_r13 cp2_first c_nets_second_r13 cp2_second c_nets_parts_r13 cp2_parts cp3_points cp3_edges c_mesh_points_r21 c_mesh_edges_r21 c_mesh_one_r21 cp3_one c_mesh_other_r21 cp3_other c_mesh_ohms_r21 cp3_ohms cp4_e0_kind cp4_e0_size cp4_e1_kind cp4_e1_size cp4_e2_kind cp4_e2_size c_trays_e0_kind c_trays_e0_size c_trays_e1_kind c_trays_e1_size c_trays_e2_kind c_trays_e2_size c_trays_e0_places c_trays_e1_places c_trays_e2_places cp4_e0_places cp4_e1_places cp4_e2_places)) (va_runV (As := [.ref bp3]) (rest := []) ⟨hx, hb, hml, hown, hts⟩ (mX3_copy l D cy H.size bp3 bp3_one bp3_other bp3_ohms bp3_trees bp3_worth bp3_best b_mesh b_mesh_one b_mesh_other b_mesh_ohms b_mesh_trees b_mesh_worth b_mesh_best cp3_points cp3_edges c_mesh_points c_mesh_edges c_mesh_one cp3_one c_mesh_other cp3_other c_mesh_ohms cp3_ohms (c_mesh_points_r21, c_mesh_edges_r21, c_mesh_one_r21, c_mesh_other_r21, c_mesh_ohms_r21) hq21) (cwV 1 hts gX2_take_X3_copy rfl rfl rfl ⟨rfl, cdX3_copy⟩ ⟨Nat.le_of_ble_eq_true rfl, Nat.le_of_ble_eq_true rfl⟩) (zPV hK hP hD [17, 18, 19, 20, 21, 22, 23, 24] rfl rfl (q0 := 18) (ci := 3) rfl rfl rfl) rfl rfl hl.1 rfl (lv_room (Nat.le_of_ble_eq_true rfl)) dX2_take_21 ⟨Nat.zero_le _, Nat.zero_le _⟩) hP hD hS hA [17, 18, 19, 20, 21, 22, 23, 24] [0, 1, 2, 3, 4, 5, 6, 7, 8, 9, 10, 11, 12, 13, 14, 15, 16, 25, 26, 27, 28, 29, 30, 31, 32, 33, 34, 35, 36, 37, 38] [0, 1, 2, 3, 4, 5, 6, 7, 8, 9, 10, 11, 12, 13, 14, 15, 16, 31, 32, 33, 34, 35, 36, 37, 38, 17, 18, 19, 20, 21, 22, 23, 24, 25, 26, 27, 28, 29, 30] rfl rfl rfl rfl (fun H locs hP hD hS => ?_)
  refine lv_iconst (v := (0 : Int32)) hx hb dX2_take_24 (by decide) ?_
  refine lv_istore (lv' := [(5, .int (0 : Int32)), (0, .ref b), (1, .ref bp1), (2, .ref bp2), (3, .ref bp3), (4, .ref bp4)]) hx hb dX2_take_25 hl (Nat.le_of_ble_eq_true rfl) rfl (fun ls hl => ?_)
  refine lv_iload hx hb dX2_take_27 (lv_at hl 0 rfl) ?_
  refine lv_iconst (v := (3 : Int32)) hx hb dX2_take_29 (by decide) ?_
  refine lv_icmp_ge (tgt := 62) hx hb dX2_take_30 (by decide) (fun hc => absurd hc (by decide)) (fun _ => ?_)
  refine lv_iload hx hb dX2_take_33 (lv_at hl 0 rfl) ?_
  refine lv_aload hx hb dX2_take_35 (lv_at hl 5 rfl) ?_
  refine va_alen (v := (3 : Int32)) hx hb hK.1 hP 25 4 rfl rfl rfl dX2_take_37 ?_
  refine lv_icmp_ge (tgt := 62) hx hb dX2_take_38 (by decide) (fun hc => absurd hc (by decide)) (fun _ => ?_)
  refine lv_aload_n hx hb dX2_take_41 rfl (lv_at hl 1 rfl) ?_
  refine va_get (D := D) (ci := 2) (v := .ref b_trays) (C := RX2) (T := TX2) (N := 5) hx hb hts uX2_take_X2 hown hK.1 hP 0 rfl rfl 3 (by decide) (hts (.fieldLink RX2 34 "WishedResistor$Image" "trays" "[LWishedResistor$Tray;") (List.mem_of_getElem? (i := 4) rfl)) (fun _ h9 => h9) rfl dX2_take_42 ?_
  refine lv_iload hx hb dX2_take_45 (lv_at hl 0 rfl) ?_
  refine zaldc (v := b_trays_e0) hx hb hK.1 hP 26 4 rfl rfl (show zin (0 : Int32) 3 from by decide) rfl dX2_take_47 ?_
  refine lv_aload hx hb dX2_take_48 (lv_at hl 5 rfl) ?_
  refine lv_iload hx hb dX2_take_50 (lv_at hl 0 rfl) ?_
  refine zaldc (v := bp4_e0) hx hb hK.1 hP 25 4 rfl rfl (show zin (0 : Int32) 3 from by decide) rfl dX2_take_52 ?_
  obtain ⟨c_trays_e0_kind_r53, c_trays_e0_size_r53, c_trays_e0_places_r53, hq53, h⟩ := zb3_s h
  refine zCv (w1 := (wdX9_copy cy bp4_e0 bp4_e0_places b_trays_e0 b_trays_e0_places cp4_e0_kind cp4_e0_size c_trays_e0_kind_r53 c_trays_e0_size_r53 c_trays_e0_places_r53 cp4_e0_places)) (ws' := (wdX2_take cy b b_box b_nets b_mesh b_trays bp1 bp1_ohms bp1_spread b_box_ohms b_box_spread bp2 bp2_kind bp2_first bp2_second bp2_parts bp2_likes bp2_letters bp2_waiting bp2_made b_nets_kind b_nets_first b_nets_second b_nets_parts b_nets_likes b_nets_letters b_nets_waiting b_nets_made bp3 bp3_one bp3_other bp3_ohms bp3_trees bp3_worth bp3_best b_mesh_one b_mesh_other b_mesh_ohms b_mesh_trees b_mesh_worth b_mesh_best bp4 bp4_e0 bp4_e1 bp4_e2 b_trays_e0 b_trays_e1 b_trays_e2 bp4_e0_places bp4_e1_places bp4_e2_places b_trays_e0_places b_trays_e1_places b_trays_e2_places c_isTaken c_box_ohms_r5 cp1_ohms c_box_spread_r5 cp1_spread cp2_count c_nets_count_r13 c_nets_kind_r13 cp2_kind c_nets_first_r13 cp2_first c_nets_second_r13 cp2_second c_nets_parts_r13 cp2_parts cp3_points cp3_edges c_mesh_points_r21 c_mesh_edges_r21 c_mesh_one_r21 cp3_one c_mesh_other_r21 cp3_other c_mesh_ohms_r21 cp3_ohms cp4_e0_kind cp4_e0_size cp4_e1_kind cp4_e1_size cp4_e2_kind cp4_e2_size c_trays_e0_kind_r53 c_trays_e0_size_r53 c_trays_e1_kind c_trays_e1_size c_trays_e2_kind c_trays_e2_size c_trays_e0_places_r53 c_trays_e1_places c_trays_e2_places cp4_e0_places cp4_e1_places cp4_e2_places)) (va_runV (As := [.ref bp4_e0]) (rest := []) ⟨hx, hb, hml, hown, hts⟩ (mX9_copy l D cy H.size bp4_e0 bp4_e0_places b_trays_e0 b_trays_e0_places cp4_e0_kind cp4_e0_size c_trays_e0_kind c_trays_e0_size c_trays_e0_places cp4_e0_places (c_trays_e0_kind_r53, c_trays_e0_size_r53, c_trays_e0_places_r53) hq53) (cwV 1 hts gX2_take_X9_copy rfl rfl rfl ⟨rfl, cdX9_copy⟩ ⟨Nat.le_of_ble_eq_true rfl, Nat.le_of_ble_eq_true rfl⟩) (zPV hK hP hD [27, 30, 33, 36] rfl rfl (q0 := 30) (ci := 9) rfl rfl rfl) rfl rfl hl.1 rfl (lv_room (Nat.le_of_ble_eq_true rfl)) dX2_take_53 ⟨Nat.zero_le _, Nat.zero_le _⟩) hP hD hS hA [27, 30, 33, 36] [0, 1, 2, 3, 4, 5, 6, 7, 8, 9, 10, 11, 12, 13, 14, 15, 16, 17, 18, 19, 20, 21, 22, 23, 24, 25, 26, 28, 29, 31, 32, 34, 35, 37, 38] [0, 1, 2, 3, 4, 5, 6, 7, 8, 9, 10, 11, 12, 13, 14, 15, 16, 17, 18, 19, 20, 21, 22, 23, 24, 25, 26, 35, 27, 28, 36, 29, 30, 37, 31, 32, 38, 33, 34] rfl rfl rfl rfl (fun H locs hP hD hS => ?_)
  refine lv_iinc (v := (1 : Int32)) (lv' := [(5, .int (1 : Int32)), (0, .ref b), (1, .ref bp1), (2, .ref bp2), (3, .ref bp3), (4, .ref bp4)]) hx hb dX2_take_56 hl (k := 0) rfl (by decide) (Nat.le_of_ble_eq_true rfl) rfl (fun ls hl => ?_)
  refine lv_goto (tgt := 27) hx hb dX2_take_59 (by decide) ?_
  refine lv_iload hx hb dX2_take_27 (lv_at hl 0 rfl) ?_
  refine lv_iconst (v := (3 : Int32)) hx hb dX2_take_29 (by decide) ?_
  refine lv_icmp_ge (tgt := 62) hx hb dX2_take_30 (by decide) (fun hc => absurd hc (by decide)) (fun _ => ?_)
  refine lv_iload hx hb dX2_take_33 (lv_at hl 0 rfl) ?_
  refine lv_aload hx hb dX2_take_35 (lv_at hl 5 rfl) ?_
  refine va_alen (v := (3 : Int32)) hx hb hK.1 hP 25 4 rfl rfl rfl dX2_take_37 ?_
  refine lv_icmp_ge (tgt := 62) hx hb dX2_take_38 (by decide) (fun hc => absurd hc (by decide)) (fun _ => ?_)
  refine lv_aload_n hx hb dX2_take_41 rfl (lv_at hl 1 rfl) ?_
  refine va_get (D := D) (ci := 2) (v := .ref b_trays) (C := RX2) (T := TX2) (N := 5) hx hb hts uX2_take_X2 hown hK.1 hP 0 rfl rfl 3 (by decide) (hts (.fieldLink RX2 34 "WishedResistor$Image" "trays" "[LWishedResistor$Tray;") (List.mem_of_getElem? (i := 4) rfl)) (fun _ h9 => h9) rfl dX2_take_42 ?_
  refine lv_iload hx hb dX2_take_45 (lv_at hl 0 rfl) ?_
  refine zaldc (v := b_trays_e1) hx hb hK.1 hP 26 4 rfl rfl (show zin (1 : Int32) 3 from by decide) rfl dX2_take_47 ?_
  refine lv_aload hx hb dX2_take_48 (lv_at hl 5 rfl) ?_
  refine lv_iload hx hb dX2_take_50 (lv_at hl 0 rfl) ?_
  refine zaldc (v := bp4_e1) hx hb hK.1 hP 25 4 rfl rfl (show zin (1 : Int32) 3 from by decide) rfl dX2_take_52 ?_
  obtain ⟨c_trays_e1_kind_r53, c_trays_e1_size_r53, c_trays_e1_places_r53, hq53, h⟩ := zb3_s h
  refine zCv (w1 := (wdX9_copy cy bp4_e1 bp4_e1_places b_trays_e1 b_trays_e1_places cp4_e1_kind cp4_e1_size c_trays_e1_kind_r53 c_trays_e1_size_r53 c_trays_e1_places_r53 cp4_e1_places)) (ws' := (wdX2_take cy b b_box b_nets b_mesh b_trays bp1 bp1_ohms bp1_spread b_box_ohms b_box_spread bp2 bp2_kind bp2_first bp2_second bp2_parts bp2_likes bp2_letters bp2_waiting bp2_made b_nets_kind b_nets_first b_nets_second b_nets_parts b_nets_likes b_nets_letters b_nets_waiting b_nets_made bp3 bp3_one bp3_other bp3_ohms bp3_trees bp3_worth bp3_best b_mesh_one b_mesh_other b_mesh_ohms b_mesh_trees b_mesh_worth b_mesh_best bp4 bp4_e0 bp4_e1 bp4_e2 b_trays_e0 b_trays_e1 b_trays_e2 bp4_e0_places bp4_e1_places bp4_e2_places b_trays_e0_places b_trays_e1_places b_trays_e2_places c_isTaken c_box_ohms_r5 cp1_ohms c_box_spread_r5 cp1_spread cp2_count c_nets_count_r13 c_nets_kind_r13 cp2_kind c_nets_first_r13 cp2_first c_nets_second_r13 cp2_second c_nets_parts_r13 cp2_parts cp3_points cp3_edges c_mesh_points_r21 c_mesh_edges_r21 c_mesh_one_r21 cp3_one c_mesh_other_r21 cp3_other c_mesh_ohms_r21 cp3_ohms cp4_e0_kind cp4_e0_size cp4_e1_kind cp4_e1_size cp4_e2_kind cp4_e2_size c_trays_e0_kind_r53 c_trays_e0_size_r53 c_trays_e1_kind_r53 c_trays_e1_size_r53 c_trays_e2_kind c_trays_e2_size c_trays_e0_places_r53 c_trays_e1_places_r53 c_trays_e2_places cp4_e0_places cp4_e1_places cp4_e2_places)) (va_runV (As := [.ref bp4_e1]) (rest := []) ⟨hx, hb, hml, hown, hts⟩ (mX9_copy l D cy H.size bp4_e1 bp4_e1_places b_trays_e1 b_trays_e1_places cp4_e1_kind cp4_e1_size c_trays_e1_kind c_trays_e1_size c_trays_e1_places cp4_e1_places (c_trays_e1_kind_r53, c_trays_e1_size_r53, c_trays_e1_places_r53) hq53) (cwV 1 hts gX2_take_X9_copy rfl rfl rfl ⟨rfl, cdX9_copy⟩ ⟨Nat.le_of_ble_eq_true rfl, Nat.le_of_ble_eq_true rfl⟩) (zPV hK hP hD [28, 31, 34, 37] rfl rfl (q0 := 31) (ci := 9) rfl rfl rfl) rfl rfl hl.1 rfl (lv_room (Nat.le_of_ble_eq_true rfl)) dX2_take_53 ⟨Nat.zero_le _, Nat.zero_le _⟩) hP hD hS hA [28, 31, 34, 37] [0, 1, 2, 3, 4, 5, 6, 7, 8, 9, 10, 11, 12, 13, 14, 15, 16, 17, 18, 19, 20, 21, 22, 23, 24, 25, 26, 27, 29, 30, 32, 33, 35, 36, 38] [0, 1, 2, 3, 4, 5, 6, 7, 8, 9, 10, 11, 12, 13, 14, 15, 16, 17, 18, 19, 20, 21, 22, 23, 24, 25, 26, 27, 35, 28, 29, 36, 30, 31, 37, 32, 33, 38, 34] rfl rfl rfl rfl (fun H locs hP hD hS => ?_)
  refine lv_iinc (v := (2 : Int32)) (lv' := [(5, .int (2 : Int32)), (0, .ref b), (1, .ref bp1), (2, .ref bp2), (3, .ref bp3), (4, .ref bp4)]) hx hb dX2_take_56 hl (k := 0) rfl (by decide) (Nat.le_of_ble_eq_true rfl) rfl (fun ls hl => ?_)
  refine lv_goto (tgt := 27) hx hb dX2_take_59 (by decide) ?_
  refine lv_iload hx hb dX2_take_27 (lv_at hl 0 rfl) ?_
  refine lv_iconst (v := (3 : Int32)) hx hb dX2_take_29 (by decide) ?_
  refine lv_icmp_ge (tgt := 62) hx hb dX2_take_30 (by decide) (fun hc => absurd hc (by decide)) (fun _ => ?_)
  refine lv_iload hx hb dX2_take_33 (lv_at hl 0 rfl) ?_
  refine lv_aload hx hb dX2_take_35 (lv_at hl 5 rfl) ?_
  refine va_alen (v := (3 : Int32)) hx hb hK.1 hP 25 4 rfl rfl rfl dX2_take_37 ?_
  refine lv_icmp_ge (tgt := 62) hx hb dX2_take_38 (by decide) (fun hc => absurd hc (by decide)) (fun _ => ?_)
  refine lv_aload_n hx hb dX2_take_41 rfl (lv_at hl 1 rfl) ?_
  refine va_get (D := D) (ci := 2) (v := .ref b_trays) (C := RX2) (T := TX2) (N := 5) hx hb hts uX2_take_X2 hown hK.1 hP 0 rfl rfl 3 (by decide) (hts (.fieldLink RX2 34 "WishedResistor$Image" "trays" "[LWishedResistor$Tray;") (List.mem_of_getElem? (i := 4) rfl)) (fun _ h9 => h9) rfl dX2_take_42 ?_
  refine lv_iload hx hb dX2_take_45 (lv_at hl 0 rfl) ?_
  refine zaldc (v := b_trays_e2) hx hb hK.1 hP 26 4 rfl rfl (show zin (2 : Int32) 3 from by decide) rfl dX2_take_47 ?_
  refine lv_aload hx hb dX2_take_48 (lv_at hl 5 rfl) ?_
  refine lv_iload hx hb dX2_take_50 (lv_at hl 0 rfl) ?_
  refine zaldc (v := bp4_e2) hx hb hK.1 hP 25 4 rfl rfl (show zin (2 : Int32) 3 from by decide) rfl dX2_take_52 ?_
  obtain ⟨c_trays_e2_kind_r53, c_trays_e2_size_r53, c_trays_e2_places_r53, hq53, h⟩ := zb3_s h
  refine zCv (w1 := (wdX9_copy cy bp4_e2 bp4_e2_places b_trays_e2 b_trays_e2_places cp4_e2_kind cp4_e2_size c_trays_e2_kind_r53 c_trays_e2_size_r53 c_trays_e2_places_r53 cp4_e2_places)) (ws' := (wdX2_take cy b b_box b_nets b_mesh b_trays bp1 bp1_ohms bp1_spread b_box_ohms b_box_spread bp2 bp2_kind bp2_first bp2_second bp2_parts bp2_likes bp2_letters bp2_waiting bp2_made b_nets_kind b_nets_first b_nets_second b_nets_parts b_nets_likes b_nets_letters b_nets_waiting b_nets_made bp3 bp3_one bp3_other bp3_ohms bp3_trees bp3_worth bp3_best b_mesh_one b_mesh_other b_mesh_ohms b_mesh_trees b_mesh_worth b_mesh_best bp4 bp4_e0 bp4_e1 bp4_e2 b_trays_e0 b_trays_e1 b_trays_e2 bp4_e0_places bp4_e1_places bp4_e2_places b_trays_e0_places b_trays_e1_places b_trays_e2_places c_isTaken c_box_ohms_r5 cp1_ohms c_box_spread_r5 cp1_spread cp2_count c_nets_count_r13 c_nets_kind_r13 cp2_kind c_nets_first_r13 cp2_first c_nets_second_r13 cp2_second c_nets_parts_r13 cp2_parts cp3_points cp3_edges c_mesh_points_r21 c_mesh_edges_r21 c_mesh_one_r21 cp3_one c_mesh_other_r21 cp3_other c_mesh_ohms_r21 cp3_ohms cp4_e0_kind cp4_e0_size cp4_e1_kind cp4_e1_size cp4_e2_kind cp4_e2_size c_trays_e0_kind_r53 c_trays_e0_size_r53 c_trays_e1_kind_r53 c_trays_e1_size_r53 c_trays_e2_kind_r53 c_trays_e2_size_r53 c_trays_e0_places_r53 c_trays_e1_places_r53 c_trays_e2_places_r53 cp4_e0_places cp4_e1_places cp4_e2_places)) (va_runV (As := [.ref bp4_e2]) (rest := []) ⟨hx, hb, hml, hown, hts⟩ (mX9_copy l D cy H.size bp4_e2 bp4_e2_places b_trays_e2 b_trays_e2_places cp4_e2_kind cp4_e2_size c_trays_e2_kind c_trays_e2_size c_trays_e2_places cp4_e2_places (c_trays_e2_kind_r53, c_trays_e2_size_r53, c_trays_e2_places_r53) hq53) (cwV 1 hts gX2_take_X9_copy rfl rfl rfl ⟨rfl, cdX9_copy⟩ ⟨Nat.le_of_ble_eq_true rfl, Nat.le_of_ble_eq_true rfl⟩) (zPV hK hP hD [29, 32, 35, 38] rfl rfl (q0 := 32) (ci := 9) rfl rfl rfl) rfl rfl hl.1 rfl (lv_room (Nat.le_of_ble_eq_true rfl)) dX2_take_53 ⟨Nat.zero_le _, Nat.zero_le _⟩) hP hD hS hA [29, 32, 35, 38] [0, 1, 2, 3, 4, 5, 6, 7, 8, 9, 10, 11, 12, 13, 14, 15, 16, 17, 18, 19, 20, 21, 22, 23, 24, 25, 26, 27, 28, 30, 31, 33, 34, 36, 37] [0, 1, 2, 3, 4, 5, 6, 7, 8, 9, 10, 11, 12, 13, 14, 15, 16, 17, 18, 19, 20, 21, 22, 23, 24, 25, 26, 27, 28, 35, 29, 30, 36, 31, 32, 37, 33, 34, 38] rfl rfl rfl rfl (fun H locs hP hD hS => ?_)
  refine lv_iinc (v := (3 : Int32)) (lv' := [(5, .int (3 : Int32)), (0, .ref b), (1, .ref bp1), (2, .ref bp2), (3, .ref bp3), (4, .ref bp4)]) hx hb dX2_take_56 hl (k := 0) rfl (by decide) (Nat.le_of_ble_eq_true rfl) rfl (fun ls hl => ?_)
  refine lv_goto (tgt := 27) hx hb dX2_take_59 (by decide) ?_
  refine lv_iload hx hb dX2_take_27 (lv_at hl 0 rfl) ?_
  refine lv_iconst (v := (3 : Int32)) hx hb dX2_take_29 (by decide) ?_
  refine lv_icmp_ge (tgt := 62) hx hb dX2_take_30 (by decide) (fun _ => ?_) (fun hc => absurd (by decide) hc)
  refine lv_aload_n hx hb dX2_take_62 rfl (lv_at hl 1 rfl) ?_
  refine lv_iconst (v := (1 : Int32)) hx hb dX2_take_63 (by decide) ?_
  refine va_put (D := D) (ci := 2) (v := .int (1 : Int32)) (ty := .boolean) (C := RX2) (T := TX2) (N := 5) hx hb hts uX2_take_X2 tyX2 tyX2_ok nmX2 hown hK.1 hP hD hS 0 rfl rfl 4 (by decide) (hts (.fieldLink RX2 52 "WishedResistor$Image" "isTaken" "Z") (List.mem_of_getElem? (i := 5) rfl)) (fun _ h9 => h9) rfl (by decide +kernel) rfl rfl (Nat.le_of_ble_eq_true rfl) dX2_take_64 (fun H locs hP hD hS => ?_)
  have hP : va_P D vwCl (wdX2_take cy b b_box b_nets b_mesh b_trays bp1 bp1_ohms bp1_spread b_box_ohms b_box_spread bp2 bp2_kind bp2_first bp2_second bp2_parts bp2_likes bp2_letters bp2_waiting bp2_made b_nets_kind b_nets_first b_nets_second b_nets_parts b_nets_likes b_nets_letters b_nets_waiting b_nets_made bp3 bp3_one bp3_other bp3_ohms bp3_trees bp3_worth bp3_best b_mesh_one b_mesh_other b_mesh_ohms b_mesh_trees b_mesh_worth b_mesh_best bp4 bp4_e0 bp4_e1 bp4_e2 b_trays_e0 b_trays_e1 b_trays_e2 bp4_e0_places bp4_e1_places bp4_e2_places b_trays_e0_places b_trays_e1_places b_trays_e2_places (1 : Int32) c_box_ohms_r5 cp1_ohms c_box_spread_r5 cp1_spread cp2_count c_nets_count_r13 c_nets_kind_r13 cp2_kind c_nets_first_r13 cp2_first c_nets_second_r13 cp2_second c_nets_parts_r13 cp2_parts cp3_points cp3_edges c_mesh_points_r21 c_mesh_edges_r21 c_mesh_one_r21 cp3_one c_mesh_other_r21 cp3_other c_mesh_ohms_r21 cp3_ohms cp4_e0_kind cp4_e0_size cp4_e1_kind cp4_e1_size cp4_e2_kind cp4_e2_size c_trays_e0_kind_r53 c_trays_e0_size_r53 c_trays_e1_kind_r53 c_trays_e1_size_r53 c_trays_e2_kind_r53 c_trays_e2_size_r53 c_trays_e0_places_r53 c_trays_e1_places_r53 c_trays_e2_places_r53 cp4_e0_places cp4_e1_places cp4_e2_places) H := hP
  have hD : va_D A (wdX2_take cy b b_box b_nets b_mesh b_trays bp1 bp1_ohms bp1_spread b_box_ohms b_box_spread bp2 bp2_kind bp2_first bp2_second bp2_parts bp2_likes bp2_letters bp2_waiting bp2_made b_nets_kind b_nets_first b_nets_second b_nets_parts b_nets_likes b_nets_letters b_nets_waiting b_nets_made bp3 bp3_one bp3_other bp3_ohms bp3_trees bp3_worth bp3_best b_mesh_one b_mesh_other b_mesh_ohms b_mesh_trees b_mesh_worth b_mesh_best bp4 bp4_e0 bp4_e1 bp4_e2 b_trays_e0 b_trays_e1 b_trays_e2 bp4_e0_places bp4_e1_places bp4_e2_places b_trays_e0_places b_trays_e1_places b_trays_e2_places (1 : Int32) c_box_ohms_r5 cp1_ohms c_box_spread_r5 cp1_spread cp2_count c_nets_count_r13 c_nets_kind_r13 cp2_kind c_nets_first_r13 cp2_first c_nets_second_r13 cp2_second c_nets_parts_r13 cp2_parts cp3_points cp3_edges c_mesh_points_r21 c_mesh_edges_r21 c_mesh_one_r21 cp3_one c_mesh_other_r21 cp3_other c_mesh_ohms_r21 cp3_ohms cp4_e0_kind cp4_e0_size cp4_e1_kind cp4_e1_size cp4_e2_kind cp4_e2_size c_trays_e0_kind_r53 c_trays_e0_size_r53 c_trays_e1_kind_r53 c_trays_e1_size_r53 c_trays_e2_kind_r53 c_trays_e2_size_r53 c_trays_e0_places_r53 c_trays_e1_places_r53 c_trays_e2_places_r53 cp4_e0_places cp4_e1_places cp4_e2_places) := hD
  exact hret (o := ((1 : Int32), c_box_ohms_r5, c_box_spread_r5, c_nets_count_r13, c_nets_kind_r13, c_nets_first_r13, c_nets_second_r13, c_nets_parts_r13, c_mesh_points_r21, c_mesh_edges_r21, c_mesh_one_r21, c_mesh_other_r21, c_mesh_ohms_r21, c_trays_e0_kind_r53, c_trays_e0_size_r53, c_trays_e1_kind_r53, c_trays_e1_size_r53, c_trays_e2_kind_r53, c_trays_e2_size_r53, c_trays_e0_places_r53, c_trays_e1_places_r53, c_trays_e2_places_r53)) h hP hD hS dX2_take_67

theorem uX2_give_X2 : ∀ w ∈ u_ws RX2 TX2 5, w ∈ wsX2_give := fun w h => (List.mem_cons_of_mem _ (List.mem_append_left _ (List.mem_append_left _ (List.mem_append_left _ (List.mem_append_left _ (List.mem_append_right _ h))))))
abbrev wdX2_give (cy : Nat → ClassId) (b b_box b_nets b_mesh b_trays b_box_ohms b_box_spread bp1 bp1_ohms bp1_spread b_nets_kind b_nets_first b_nets_second b_nets_parts b_nets_likes b_nets_letters b_nets_waiting b_nets_made bp2 bp2_kind bp2_first bp2_second bp2_parts bp2_likes bp2_letters bp2_waiting bp2_made b_mesh_one b_mesh_other b_mesh_ohms b_mesh_trees b_mesh_worth b_mesh_best bp3 bp3_one bp3_other bp3_ohms bp3_trees bp3_worth bp3_best bp4 bp4_e0 bp4_e1 bp4_e2 b_trays_e0 b_trays_e1 b_trays_e2 b_trays_e0_places b_trays_e1_places b_trays_e2_places bp4_e0_places bp4_e1_places bp4_e2_places : Nat) (c_isTaken : Int32) (cp1_ohms c_box_ohms cp1_spread c_box_spread : Nat → Int32) (c_nets_count cp2_count : Int32) (cp2_kind c_nets_kind cp2_first c_nets_first cp2_second c_nets_second cp2_parts c_nets_parts : Nat → Int32) (c_mesh_points c_mesh_edges cp3_points cp3_edges : Int32) (cp3_one c_mesh_one cp3_other c_mesh_other cp3_ohms c_mesh_ohms : Nat → Int32) (c_trays_e0_kind c_trays_e0_size c_trays_e1_kind c_trays_e1_size c_trays_e2_kind c_trays_e2_size cp4_e0_kind cp4_e0_size cp4_e1_kind cp4_e1_size cp4_e2_kind cp4_e2_size : Int32) (cp4_e0_places cp4_e1_places cp4_e2_places c_trays_e0_places c_trays_e1_places c_trays_e2_places : Nat → Int32) : va_W := [(b, .inr (2, [.ref b_box, .ref b_nets, .ref b_mesh, .ref b_trays, .int c_isTaken])), (b_box, .inr (0, [.ref b_box_ohms, .ref b_box_spread])), (bp1, .inr (0, [.ref bp1_ohms, .ref bp1_spread])), (bp1_ohms, .inl (cy 0, 4, .inl cp1_ohms)), (b_box_ohms, .inl (cy 0, 4, .inl c_box_ohms)), (bp1_spread, .inl (cy 0, 4, .inl cp1_spread)), (b_box_spread, .inl (cy 0, 4, .inl c_box_spread)), (b_nets, .inr (5, [.ref b_nets_kind, .ref b_nets_first, .ref b_nets_second, .ref b_nets_parts, .int c_nets_count, .ref b_nets_likes, .ref b_nets_letters, .ref b_nets_waiting, .ref b_nets_made])), (bp2, .inr (5, [.ref bp2_kind, .ref bp2_first, .ref bp2_second, .ref bp2_parts, .int cp2_count, .ref bp2_likes, .ref bp2_letters, .ref bp2_waiting, .ref bp2_made])), (bp2_kind, .inl (cy 0, 40, .inl cp2_kind)), (b_nets_kind, .inl (cy 0, 40, .inl c_nets_kind)), (bp2_first, .inl (cy 0, 40, .inl cp2_first)), (b_nets_first, .inl (cy 0, 40, .inl c_nets_first)), (bp2_second, .inl (cy 0, 40, .inl cp2_second)), (b_nets_second, .inl (cy 0, 40, .inl c_nets_second)), (bp2_parts, .inl (cy 0, 40, .inl cp2_parts)), (b_nets_parts, .inl (cy 0, 40, .inl c_nets_parts)), (b_mesh, .inr (3, [.int c_mesh_points, .int c_mesh_edges, .ref b_mesh_one, .ref b_mesh_other, .ref b_mesh_ohms, .ref b_mesh_trees, .ref b_mesh_worth, .ref b_mesh_best])), (bp3, .inr (3, [.int cp3_points, .int cp3_edges, .ref bp3_one, .ref bp3_other, .ref bp3_ohms, .ref bp3_trees, .ref bp3_worth, .ref bp3_best])), (bp3_one, .inl (cy 0, 8, .inl cp3_one)), (b_mesh_one, .inl (cy 0, 8, .inl c_mesh_one)), (bp3_other, .inl (cy 0, 8, .inl cp3_other)), (b_mesh_other, .inl (cy 0, 8, .inl c_mesh_other)), (bp3_ohms, .inl (cy 0, 8, .inl cp3_ohms)), (b_mesh_ohms, .inl (cy 0, 8, .inl c_mesh_ohms)), (bp4, .inl (cy 4, 3, .inr (.inr (.inr (.inr (va_up (va_up (va_up (fun _ => none) 0 (some bp4_e0)) 1 (some bp4_e1)) 2 (some bp4_e2))))))), (b_trays, .inl (cy 4, 3, .inr (.inr (.inr (.inr (va_up (va_up (va_up (fun _ => none) 0 (some b_trays_e0)) 1 (some b_trays_e1)) 2 (some b_trays_e2))))))), (b_trays_e0, .inr (9, [.int c_trays_e0_kind, .int c_trays_e0_size, .ref b_trays_e0_places])), (b_trays_e1, .inr (9, [.int c_trays_e1_kind, .int c_trays_e1_size, .ref b_trays_e1_places])), (b_trays_e2, .inr (9, [.int c_trays_e2_kind, .int c_trays_e2_size, .ref b_trays_e2_places])), (bp4_e0, .inr (9, [.int cp4_e0_kind, .int cp4_e0_size, .ref bp4_e0_places])), (bp4_e1, .inr (9, [.int cp4_e1_kind, .int cp4_e1_size, .ref bp4_e1_places])), (bp4_e2, .inr (9, [.int cp4_e2_kind, .int cp4_e2_size, .ref bp4_e2_places])), (bp4_e0_places, .inl (cy 0, 20, .inl cp4_e0_places)), (bp4_e1_places, .inl (cy 0, 20, .inl cp4_e1_places)), (bp4_e2_places, .inl (cy 0, 20, .inl cp4_e2_places)), (b_trays_e0_places, .inl (cy 0, 20, .inl c_trays_e0_places)), (b_trays_e1_places, .inl (cy 0, 20, .inl c_trays_e1_places)), (b_trays_e2_places, .inl (cy 0, 20, .inl c_trays_e2_places))]
abbrev rmX2_give : Room := { frames := 2, cells := 0, slots := 0, locals := 48 }
theorem cdX2_give : (yX2_give).cls ≠ "java/lang/invoke/MethodHandle" ∧ (yX2_give).cls ≠ "java/lang/invoke/VarHandle" ∧ (parseMethodDescriptor (yX2_give).desc).map (fun d => d.parameters.length) = some 4 := by decide +kernel
def fX2_give (cp1_ohms c_box_ohms cp1_spread c_box_spread : Nat → Int32) (c_nets_count cp2_count : Int32) (cp2_kind c_nets_kind cp2_first c_nets_first cp2_second c_nets_second cp2_parts c_nets_parts : Nat → Int32) (c_mesh_points c_mesh_edges cp3_points cp3_edges : Int32) (cp3_one c_mesh_one cp3_other c_mesh_other cp3_ohms c_mesh_ohms : Nat → Int32) (c_trays_e0_kind c_trays_e0_size c_trays_e1_kind c_trays_e1_size c_trays_e2_kind c_trays_e2_size cp4_e0_kind cp4_e0_size cp4_e1_kind cp4_e1_size cp4_e2_kind cp4_e2_size : Int32) (cp4_e0_places cp4_e1_places cp4_e2_places c_trays_e0_places c_trays_e1_places c_trays_e2_places : Nat → Int32) : Option ((Nat → Int32) × (Nat → Int32) × Int32 × (Nat → Int32) × (Nat → Int32) × (Nat → Int32) × (Nat → Int32) × Int32 × Int32 × (Nat → Int32) × (Nat → Int32) × (Nat → Int32) × Int32 × Int32 × Int32 × Int32 × Int32 × Int32 × (Nat → Int32) × (Nat → Int32) × (Nat → Int32)) :=
  zb2 (fX0_copy cp1_ohms c_box_ohms cp1_spread c_box_spread) (fun cp1_ohms_r5 cp1_spread_r5 => zb5 (fX5_copy c_nets_count cp2_count cp2_kind c_nets_kind cp2_first c_nets_first cp2_second c_nets_second cp2_parts c_nets_parts) (fun cp2_count_r13 cp2_kind_r13 cp2_first_r13 cp2_second_r13 cp2_parts_r13 => zb5 (fX3_copy c_mesh_points c_mesh_edges cp3_points cp3_edges cp3_one c_mesh_one cp3_other c_mesh_other cp3_ohms c_mesh_ohms) (fun cp3_points_r21 cp3_edges_r21 cp3_one_r21 cp3_other_r21 cp3_ohms_r21 => zb3 (fX9_copy c_trays_e0_kind c_trays_e0_size cp4_e0_kind cp4_e0_size cp4_e0_places c_trays_e0_places) (fun cp4_e0_kind_r53 cp4_e0_size_r53 cp4_e0_places_r53 => zb3 (fX9_copy c_trays_e1_kind c_trays_e1_size cp4_e1_kind cp4_e1_size cp4_e1_places c_trays_e1_places) (fun cp4_e1_kind_r53 cp4_e1_size_r53 cp4_e1_places_r53 => zb3 (fX9_copy c_trays_e2_kind c_trays_e2_size cp4_e2_kind cp4_e2_size cp4_e2_places c_trays_e2_places) (fun cp4_e2_kind_r53 cp4_e2_size_r53 cp4_e2_places_r53 => some (cp1_ohms_r5, cp1_spread_r5, cp2_count_r13, cp2_kind_r13, cp2_first_r13, cp2_second_r13, cp2_parts_r13, cp3_points_r21, cp3_edges_r21, cp3_one_r21, cp3_other_r21, cp3_ohms_r21, cp4_e0_kind_r53, cp4_e0_size_r53, cp4_e1_kind_r53, cp4_e1_size_r53, cp4_e2_kind_r53, cp4_e2_size_r53, cp4_e0_places_r53, cp4_e1_places_r53, cp4_e2_places_r53)))))))
set_option maxHeartbeats 4000000 in
set_option maxRecDepth 100000 in
theorem mX2_give (l : Launch) (D : va_G) (cy : Nat → ClassId) (sz : Nat) (b b_box b_nets b_mesh b_trays b_box_ohms b_box_spread bp1 bp1_ohms bp1_spread b_nets_kind b_nets_first b_nets_second b_nets_parts b_nets_likes b_nets_letters b_nets_waiting b_nets_made bp2 bp2_kind bp2_first bp2_second bp2_parts bp2_likes bp2_letters bp2_waiting bp2_made b_mesh_one b_mesh_other b_mesh_ohms b_mesh_trees b_mesh_worth b_mesh_best bp3 bp3_one bp3_other bp3_ohms bp3_trees bp3_worth bp3_best bp4 bp4_e0 bp4_e1 bp4_e2 b_trays_e0 b_trays_e1 b_trays_e2 b_trays_e0_places b_trays_e1_places b_trays_e2_places bp4_e0_places bp4_e1_places bp4_e2_places : Nat) (c_isTaken : Int32) (cp1_ohms c_box_ohms cp1_spread c_box_spread : Nat → Int32) (c_nets_count cp2_count : Int32) (cp2_kind c_nets_kind cp2_first c_nets_first cp2_second c_nets_second cp2_parts c_nets_parts : Nat → Int32) (c_mesh_points c_mesh_edges cp3_points cp3_edges : Int32) (cp3_one c_mesh_one cp3_other c_mesh_other cp3_ohms c_mesh_ohms : Nat → Int32) (c_trays_e0_kind c_trays_e0_size c_trays_e1_kind c_trays_e1_size c_trays_e2_kind c_trays_e2_size cp4_e0_kind cp4_e0_size cp4_e1_kind cp4_e1_size cp4_e2_kind cp4_e2_size : Int32) (cp4_e0_places cp4_e1_places cp4_e2_places c_trays_e0_places c_trays_e1_places c_trays_e2_places : Nat → Int32) (res : ((Nat → Int32) × (Nat → Int32) × Int32 × (Nat → Int32) × (Nat → Int32) × (Nat → Int32) × (Nat → Int32) × Int32 × Int32 × (Nat → Int32) × (Nat → Int32) × (Nat → Int32) × Int32 × Int32 × Int32 × Int32 × Int32 × Int32 × (Nat → Int32) × (Nat → Int32) × (Nat → Int32))) (h : fX2_give cp1_ohms c_box_ohms cp1_spread c_box_spread c_nets_count cp2_count cp2_kind c_nets_kind cp2_first c_nets_first cp2_second c_nets_second cp2_parts c_nets_parts c_mesh_points c_mesh_edges cp3_points cp3_edges cp3_one c_mesh_one cp3_other c_mesh_other cp3_ohms c_mesh_ohms c_trays_e0_kind c_trays_e0_size c_trays_e1_kind c_trays_e1_size c_trays_e2_kind c_trays_e2_size cp4_e0_kind cp4_e0_size cp4_e1_kind cp4_e1_size cp4_e2_kind cp4_e2_size cp4_e0_places cp4_e1_places cp4_e2_places c_trays_e0_places c_trays_e1_places c_trays_e2_places = some res) : zMv l yX2_give wsX2_give rmX2_give [.ref b, .ref bp1, .ref bp2, .ref bp3, .ref bp4] D cy (wdX2_give cy b b_box b_nets b_mesh b_trays b_box_ohms b_box_spread bp1 bp1_ohms bp1_spread b_nets_kind b_nets_first b_nets_second b_nets_parts b_nets_likes b_nets_letters b_nets_waiting b_nets_made bp2 bp2_kind bp2_first bp2_second bp2_parts bp2_likes bp2_letters bp2_waiting bp2_made b_mesh_one b_mesh_other b_mesh_ohms b_mesh_trees b_mesh_worth b_mesh_best bp3 bp3_one bp3_other bp3_ohms bp3_trees bp3_worth bp3_best bp4 bp4_e0 bp4_e1 bp4_e2 b_trays_e0 b_trays_e1 b_trays_e2 b_trays_e0_places b_trays_e1_places b_trays_e2_places bp4_e0_places bp4_e1_places bp4_e2_places c_isTaken cp1_ohms c_box_ohms cp1_spread c_box_spread c_nets_count cp2_count cp2_kind c_nets_kind cp2_first c_nets_first cp2_second c_nets_second cp2_parts c_nets_parts c_mesh_points c_mesh_edges cp3_points cp3_edges cp3_one c_mesh_one cp3_other c_mesh_other cp3_ohms c_mesh_ohms c_trays_e0_kind c_trays_e0_size c_trays_e1_kind c_trays_e1_size c_trays_e2_kind c_trays_e2_size cp4_e0_kind cp4_e0_size cp4_e1_kind cp4_e1_size cp4_e2_kind cp4_e2_size cp4_e0_places cp4_e1_places cp4_e2_places c_trays_e0_places c_trays_e1_places c_trays_e2_places) sz  ((fun (o : ((Nat → Int32) × (Nat → Int32) × Int32 × (Nat → Int32) × (Nat → Int32) × (Nat → Int32) × (Nat → Int32) × Int32 × Int32 × (Nat → Int32) × (Nat → Int32) × (Nat → Int32) × Int32 × Int32 × Int32 × Int32 × Int32 × Int32 × (Nat → Int32) × (Nat → Int32) × (Nat → Int32))) => (wdX2_give cy b b_box b_nets b_mesh b_trays b_box_ohms b_box_spread bp1 bp1_ohms bp1_spread b_nets_kind b_nets_first b_nets_second b_nets_parts b_nets_likes b_nets_letters b_nets_waiting b_nets_made bp2 bp2_kind bp2_first bp2_second bp2_parts bp2_likes bp2_letters bp2_waiting bp2_made b_mesh_one b_mesh_other b_mesh_ohms b_mesh_trees b_mesh_worth b_mesh_best bp3 bp3_one bp3_other bp3_ohms bp3_trees bp3_worth bp3_best bp4 bp4_e0 bp4_e1 bp4_e2 b_trays_e0 b_trays_e1 b_trays_e2 b_trays_e0_places b_trays_e1_places b_trays_e2_places bp4_e0_places bp4_e1_places bp4_e2_places c_isTaken (o.1) c_box_ohms (o.2.1) c_box_spread c_nets_count (o.2.2.1) (o.2.2.2.1) c_nets_kind (o.2.2.2.2.1) c_nets_first (o.2.2.2.2.2.1) c_nets_second (o.2.2.2.2.2.2.1) c_nets_parts c_mesh_points c_mesh_edges (o.2.2.2.2.2.2.2.1) (o.2.2.2.2.2.2.2.2.1) (o.2.2.2.2.2.2.2.2.2.1) c_mesh_one (o.2.2.2.2.2.2.2.2.2.2.1) c_mesh_other (o.2.2.2.2.2.2.2.2.2.2.2.1) c_mesh_ohms c_trays_e0_kind c_trays_e0_size c_trays_e1_kind c_trays_e1_size c_trays_e2_kind c_trays_e2_size (o.2.2.2.2.2.2.2.2.2.2.2.2.1) (o.2.2.2.2.2.2.2.2.2.2.2.2.2.1) (o.2.2.2.2.2.2.2.2.2.2.2.2.2.2.1) (o.2.2.2.2.2.2.2.2.2.2.2.2.2.2.2.1) (o.2.2.2.2.2.2.2.2.2.2.2.2.2.2.2.2.1) (o.2.2.2.2.2.2.2.2.2.2.2.2.2.2.2.2.2.1) (o.2.2.2.2.2.2.2.2.2.2.2.2.2.2.2.2.2.2.1) (o.2.2.2.2.2.2.2.2.2.2.2.2.2.2.2.2.2.2.2.1) (o.2.2.2.2.2.2.2.2.2.2.2.2.2.2.2.2.2.2.2.2) c_trays_e0_places c_trays_e1_places c_trays_e2_places)) res) := by
  refine zOfv (res := res) (Wf := (fun (o : ((Nat → Int32) × (Nat → Int32) × Int32 × (Nat → Int32) × (Nat → Int32) × (Nat → Int32) × (Nat → Int32) × Int32 × Int32 × (Nat → Int32) × (Nat → Int32) × (Nat → Int32) × Int32 × Int32 × Int32 × Int32 × Int32 × Int32 × (Nat → Int32) × (Nat → Int32) × (Nat → Int32))) => (wdX2_give cy b b_box b_nets b_mesh b_trays b_box_ohms b_box_spread bp1 bp1_ohms bp1_spread b_nets_kind b_nets_first b_nets_second b_nets_parts b_nets_likes b_nets_letters b_nets_waiting b_nets_made bp2 bp2_kind bp2_first bp2_second bp2_parts bp2_likes bp2_letters bp2_waiting bp2_made b_mesh_one b_mesh_other b_mesh_ohms b_mesh_trees b_mesh_worth b_mesh_best bp3 bp3_one bp3_other bp3_ohms bp3_trees bp3_worth bp3_best bp4 bp4_e0 bp4_e1 bp4_e2 b_trays_e0 b_trays_e1 b_trays_e2 b_trays_e0_places b_trays_e1_places b_trays_e2_places bp4_e0_places bp4_e1_places bp4_e2_places c_isTaken (o.1) c_box_ohms (o.2.1) c_box_spread c_nets_count (o.2.2.1) (o.2.2.2.1) c_nets_kind (o.2.2.2.2.1) c_nets_first (o.2.2.2.2.2.1) c_nets_second (o.2.2.2.2.2.2.1) c_nets_parts c_mesh_points c_mesh_edges (o.2.2.2.2.2.2.2.1) (o.2.2.2.2.2.2.2.2.1) (o.2.2.2.2.2.2.2.2.2.1) c_mesh_one (o.2.2.2.2.2.2.2.2.2.2.1) c_mesh_other (o.2.2.2.2.2.2.2.2.2.2.2.1) c_mesh_ohms c_trays_e0_kind c_trays_e0_size c_trays_e1_kind c_trays_e1_size c_trays_e2_kind c_trays_e2_size (o.2.2.2.2.2.2.2.2.2.2.2.2.1) (o.2.2.2.2.2.2.2.2.2.2.2.2.2.1) (o.2.2.2.2.2.2.2.2.2.2.2.2.2.2.1) (o.2.2.2.2.2.2.2.2.2.2.2.2.2.2.2.1) (o.2.2.2.2.2.2.2.2.2.2.2.2.2.2.2.2.1) (o.2.2.2.2.2.2.2.2.2.2.2.2.2.2.2.2.2.1) (o.2.2.2.2.2.2.2.2.2.2.2.2.2.2.2.2.2.2.1) (o.2.2.2.2.2.2.2.2.2.2.2.2.2.2.2.2.2.2.2.1) (o.2.2.2.2.2.2.2.2.2.2.2.2.2.2.2.2.2.2.2.2) c_trays_e0_places c_trays_e1_places c_trays_e2_places))) (by decide +kernel) rfl (Nat.le_of_ble_eq_true rfl) ?_
  intro p e s m args below meth c A ls Q hx hb hml hts hown hP hK hD hA hS hl hret
  have hown : s.vm.findClass RX2 = some m.cls := hown
  have hl : lv_has ls 6 [(0, .ref b), (1, .ref bp1), (2, .ref bp2), (3, .ref bp3), (4, .ref bp4)] := hl
  refine lv_aload_n hx hb dX2_give_0 rfl (lv_at hl 1 rfl) ?_
  refine lv_aload_n hx hb dX2_give_1 rfl (lv_at hl 0 rfl) ?_
  refine va_get (D := D) (ci := 2) (v := .ref b_box) (C := RX2) (T := TX2) (N := 5) hx hb hts uX2_give_X2 hown hK.1 hP 0 rfl rfl 0 (by decide) (hts (.fieldLink RX2 12 "WishedResistor$Image" "box" "LWishedResistor$Box;") (List.mem_of_getElem? (i := 1) rfl)) (fun _ h9 => h9) rfl dX2_give_2 ?_
  obtain ⟨cp1_ohms_r5, cp1_spread_r5, hq5, h⟩ := zb2_s h
  refine zCv (w1 := (wdX0_copy cy b_box b_box_ohms b_box_spread bp1 bp1_ohms bp1_spread cp1_ohms_r5 c_box_ohms cp1_spread_r5 c_box_spread)) (ws' := (wdX2_give cy b b_box b_nets b_mesh b_trays b_box_ohms b_box_spread bp1 bp1_ohms bp1_spread b_nets_kind b_nets_first b_nets_second b_nets_parts b_nets_likes b_nets_letters b_nets_waiting b_nets_made bp2 bp2_kind bp2_first bp2_second bp2_parts bp2_likes bp2_letters bp2_waiting bp2_made b_mesh_one b_mesh_other b_mesh_ohms b_mesh_trees b_mesh_worth b_mesh_best bp3 bp3_one bp3_other bp3_ohms bp3_trees bp3_worth bp3_best bp4 bp4_e0 bp4_e1 bp4_e2 b_trays_e0 b_trays_e1 b_trays_e2 b_trays_e0_places b_trays_e1_places b_trays_e2_places bp4_e0_places bp4_e1_places bp4_e2_places c_isTaken cp1_ohms_r5 c_box_ohms cp1_spread_r5 c_box_spread c_nets_count cp2_count cp2_kind c_nets_kind cp2_first c_nets_first cp2_second c_nets_second cp2_parts c_nets_parts c_mesh_points c_mesh_edges cp3_points cp3_edges cp3_one c_mesh_one cp3_other c_mesh_other cp3_ohms c_mesh_ohms c_trays_e0_kind c_trays_e0_size c_trays_e1_kind c_trays_e1_size c_trays_e2_kind c_trays_e2_size cp4_e0_kind cp4_e0_size cp4_e1_kind cp4_e1_size cp4_e2_kind cp4_e2_size cp4_e0_places cp4_e1_places cp4_e2_places c_trays_e0_places c_trays_e1_places c_trays_e2_places)) (va_runV (As := [.ref b_box]) (rest := []) ⟨hx, hb, hml, hown, hts⟩ (mX0_copy l D cy s.heap.size b_box b_box_ohms b_box_spread bp1 bp1_ohms bp1_spread cp1_ohms c_box_ohms cp1_spread c_box_spread (cp1_ohms_r5, cp1_spread_r5) hq5) (cwV 1 hts gX2_give_X0_copy rfl rfl rfl ⟨rfl, cdX0_copy⟩ ⟨Nat.le_of_ble_eq_true rfl, Nat.le_of_ble_eq_true rfl⟩) (zPV hK hP hD [1, 2, 3, 4, 5, 6] rfl rfl (q0 := 2) (ci := 0) rfl rfl rfl) rfl rfl hl.1 rfl (lv_room (Nat.le_of_ble_eq_true rfl)) dX2_give_5 ⟨Nat.zero_le _, Nat.zero_le _⟩) hP hD hS hA [1, 2, 3, 4, 5, 6] [0, 7, 8, 9, 10, 11, 12, 13, 14, 15, 16, 17, 18, 19, 20, 21, 22, 23, 24, 25, 26, 27, 28, 29, 30, 31, 32, 33, 34, 35, 36, 37, 38] [0, 33, 34, 35, 36, 37, 38, 1, 2, 3, 4, 5, 6, 7, 8, 9, 10, 11, 12, 13, 14, 15, 16, 17, 18, 19, 20, 21, 22, 23, 24, 25, 26, 27, 28, 29, 30, 31, 32] rfl rfl rfl rfl (fun H locs hP hD hS => ?_)
  refine lv_aload_n hx hb dX2_give_8 rfl (lv_at hl 2 rfl) ?_
  refine lv_aload_n hx hb dX2_give_9 rfl (lv_at hl 0 rfl) ?_
  refine va_get (D := D) (ci := 2) (v := .ref b_nets) (C := RX2) (T := TX2) (N := 5) hx hb hts uX2_give_X2 hown hK.1 hP 0 rfl rfl 1 (by decide) (hts (.fieldLink RX2 21 "WishedResistor$Image" "nets" "LWishedResistor$Nets;") (List.mem_of_getElem? (i := 2) rfl)) (fun _ h9 => h9) rfl dX2_give_10 ?_
  obtain ⟨cp2_count_r13, cp2_kind_r13, cp2_first_r13, cp2_second_r13, cp2_parts_r13, hq13, h⟩ := zb5_s h
  refine zCv (w1 := (wdX5_copy cy b_nets b_nets_kind b_nets_first b_nets_second b_nets_parts b_nets_likes b_nets_letters b_nets_waiting b_nets_made bp2 bp2_kind bp2_first bp2_second bp2_parts bp2_likes bp2_letters bp2_waiting bp2_made c_nets_count cp2_count_r13 cp2_kind_r13 c_nets_kind cp2_first_r13 c_nets_first cp2_second_r13 c_nets_second cp2_parts_r13 c_nets_parts)) (ws' := (wdX2_give cy b b_box b_nets b_mesh b_trays b_box_ohms b_box_spread bp1 bp1_ohms bp1_spread b_nets_kind b_nets_first b_nets_second b_nets_parts b_nets_likes b_nets_letters b_nets_waiting b_nets_made bp2 bp2_kind bp2_first bp2_second bp2_parts bp2_likes bp2_letters bp2_waiting bp2_made b_mesh_one b_mesh_other b_mesh_ohms b_mesh_trees b_mesh_worth b_mesh_best bp3 bp3_one bp3_other bp3_ohms bp3_trees bp3_worth bp3_best bp4 bp4_e0 bp4_e1 bp4_e2 b_trays_e0 b_trays_e1 b_trays_e2 b_trays_e0_places b_trays_e1_places b_trays_e2_places bp4_e0_places bp4_e1_places bp4_e2_places c_isTaken cp1_ohms_r5 c_box_ohms cp1_spread_r5 c_box_spread c_nets_count cp2_count_r13 cp2_kind_r13 c_nets_kind cp2_first_r13 c_nets_first cp2_second_r13 c_nets_second cp2_parts_r13 c_nets_parts c_mesh_points c_mesh_edges cp3_points cp3_edges cp3_one c_mesh_one cp3_other c_mesh_other cp3_ohms c_mesh_ohms c_trays_e0_kind c_trays_e0_size c_trays_e1_kind c_trays_e1_size c_trays_e2_kind c_trays_e2_size cp4_e0_kind cp4_e0_size cp4_e1_kind cp4_e1_size cp4_e2_kind cp4_e2_size cp4_e0_places cp4_e1_places cp4_e2_places c_trays_e0_places c_trays_e1_places c_trays_e2_places)) (va_runV (As := [.ref b_nets]) (rest := []) ⟨hx, hb, hml, hown, hts⟩ (mX5_copy l D cy H.size b_nets b_nets_kind b_nets_first b_nets_second b_nets_parts b_nets_likes b_nets_letters b_nets_waiting b_nets_made bp2 bp2_kind bp2_first bp2_second bp2_parts bp2_likes bp2_letters bp2_waiting bp2_made c_nets_count cp2_count cp2_kind c_nets_kind cp2_first c_nets_first cp2_second c_nets_second cp2_parts c_nets_parts (cp2_count_r13, cp2_kind_r13, cp2_first_r13, cp2_second_r13, cp2_parts_r13) hq13) (cwV 1 hts gX2_give_X5_copy rfl rfl rfl ⟨rfl, cdX5_copy⟩ ⟨Nat.le_of_ble_eq_true rfl, Nat.le_of_ble_eq_true rfl⟩) (zPV hK hP hD [7, 8, 9, 10, 11, 12, 13, 14, 15, 16] rfl rfl (q0 := 8) (ci := 5) rfl rfl rfl) rfl rfl hl.1 rfl (lv_room (Nat.le_of_ble_eq_true rfl)) dX2_give_13 ⟨Nat.zero_le _, Nat.zero_le _⟩) hP hD hS hA [7, 8, 9, 10, 11, 12, 13, 14, 15, 16] [0, 1, 2, 3, 4, 5, 6, 17, 18, 19, 20, 21, 22, 23, 24, 25, 26, 27, 28, 29, 30, 31, 32, 33, 34, 35, 36, 37, 38] [0, 1, 2, 3, 4, 5, 6, 29, 30, 31, 32, 33, 34, 35, 36, 37, 38, 7, 8, 9, 10, 11, 12, 13, 14, 15, 16, 17, 18, 19, 20, 21, 22, 23, 24, 25, 26, 27, 28] rfl rfl rfl rfl (fun H locs hP hD hS => ?_)
  refine lv_aload_n hx hb dX2_give_16 rfl (lv_at hl 3 rfl) ?_
  refine lv_aload_n hx hb dX2_give_17 rfl (lv_at hl 0 rfl) ?_
  refine va_get (D := D) (ci := 2) (v := .ref b_mesh) (C := RX2) (T := TX2) (N := 5) hx hb hts uX2_give_X2 hown hK.1 hP 0 rfl rfl 2 (by decide) (hts (.fieldLink RX2 28 "WishedResistor$Image" "mesh" "LWishedResistor$Mesh;") (List.mem_of_getElem? (i := 3) rfl)) (fun _ h9 => h9) rfl dX2_give_18 ?_
  obtain ⟨cp3_points_r21, cp3_edges_r21, cp3_one_r21, cp3_other_r21, cp3_ohms_r21, hq21, h⟩ := zb5_s h
  refine zCv (w1 := (wdX3_copy cy b_mesh b_mesh_one b_mesh_other b_mesh_ohms b_mesh_trees b_mesh_worth b_mesh_best bp3 bp3_one bp3_other bp3_ohms bp3_trees bp3_worth bp3_best c_mesh_points c_mesh_edges cp3_points_r21 cp3_edges_r21 cp3_one_r21 c_mesh_one cp3_other_r21 c_mesh_other cp3_ohms_r21 c_mesh_ohms)) (ws' := (wdX2_give cy b b_box b_nets b_mesh b_trays b_box_ohms b_box_spread bp1 bp1_ohms bp1_spread b_nets_kind b_nets_first b_nets_second b_nets_parts b_nets_likes b_nets_letters b_nets_waiting b_nets_made bp2 bp2_kind bp2_first bp2_second bp2_parts bp2_likes bp2_letters bp2_waiting bp2_made b_mesh_one b_mesh_other b_mesh_ohms b_mesh_trees b_mesh_worth b_mesh_best bp3 bp3_one bp3_other bp3_ohms bp3_trees bp3_worth bp3_best bp4 bp4_e0 bp4_e1 bp4_e2 b_trays_e0 b_trays_e1 b_trays_e2 b_trays_e0_places b_trays_e1_places b_trays_e2_places bp4_e0_places bp4_e1_places bp4_e2_places c_isTaken cp1_ohms_r5 c_box_ohms cp1_spread_r5 c_box_spread c_nets_count cp2_count_r13 cp2_kind_r13 c_nets_kind cp2_first_r13 c_nets_first cp2_second_r13 c_nets_second cp2_parts_r13 c_nets_parts c_mesh_points c_mesh_edges cp3_points_r21 cp3_edges_r21 cp3_one_r21 c_mesh_one cp3_other_r21 c_mesh_other cp3_ohms_r21 c_mesh_ohms c_trays_e0_kind c_trays_e0_size c_trays_e1_kind c_trays_e1_size c_trays_e2_kind c_trays_e2_size cp4_e0_kind cp4_e0_size cp4_e1_kind cp4_e1_size cp4_e2_kind cp4_e2_size cp4_e0_places cp4_e1_places cp4_e2_places c_trays_e0_places c_trays_e1_places c_trays_e2_places)) (va_runV (As := [.ref b_mesh]) (rest := []) ⟨hx, hb, hml, hown, hts⟩ (mX3_copy l D cy H.size b_mesh b_mesh_one b_mesh_other b_mesh_ohms b_mesh_trees b_mesh_worth b_mesh_best bp3 bp3_one bp3_other bp3_ohms bp3_trees bp3_worth bp3_best c_mesh_points c_mesh_edges cp3_points cp3_edges cp3_one c_mesh_one cp3_other c_mesh_other cp3_ohms c_mesh_ohms (cp3_points_r21, cp3_edges_r21, cp3_one_r21, cp3_other_r21, cp3_ohms_r21) hq21) (cwV 1 hts gX2_give_X3_copy rfl rfl rfl ⟨rfl, cdX3_copy⟩ ⟨Nat.le_of_ble_eq_true rfl, Nat.le_of_ble_eq_true rfl⟩) (zPV hK hP hD [17, 18, 19, 20, 21, 22, 23, 24] rfl rfl (q0 := 18) (ci := 3) rfl rfl rfl) rfl rfl hl.1 rfl (lv_room (Nat.le_of_ble_eq_true rfl)) dX2_give_21 ⟨Nat.zero_le _, Nat.zero_le _⟩) hP hD hS hA [17, 18, 19, 20, 21, 22, 23, 24] [0, 1, 2, 3, 4, 5, 6, 7, 8, 9, 10, 11, 12, 13, 14, 15, 16, 25, 26, 27, 28, 29, 30, 31, 32, 33, 34, 35, 36, 37, 38] [0, 1, 2, 3, 4, 5, 6, 7, 8, 9, 10, 11, 12, 13, 14, 15, 16, 31, 32, 33, 34, 35, 36, 37, 38, 17, 18, 19, 20, 21, 22, 23, 24, 25, 26, 27, 28, 29, 30] rfl rfl rfl rfl (fun H locs hP hD hS => ?_)
  refine lv_iconst (v := (0 : Int32)) hx hb dX2_give_24 (by decide) ?_
  refine lv_istore (lv' := [(5, .int (0 : Int32)), (0, .ref b), (1, .ref bp1), (2, .ref bp2), (3, .ref bp3), (4, .ref bp4)]) hx hb dX2_give_25 hl (Nat.le_of_ble_eq_true rfl) rfl (fun ls hl => ?_)
  refine lv_iload hx hb dX2_give_27 (lv_at hl 0 rfl) ?_
  refine lv_iconst (v := (3 : Int32)) hx hb dX2_give_29 (by decide) ?_
  refine lv_icmp_ge (tgt := 62) hx hb dX2_give_30 (by decide) (fun hc => absurd hc (by decide)) (fun _ => ?_)
  refine lv_iload hx hb dX2_give_33 (lv_at hl 0 rfl) ?_
  refine lv_aload hx hb dX2_give_35 (lv_at hl 5 rfl) ?_
  refine va_alen (v := (3 : Int32)) hx hb hK.1 hP 25 4 rfl rfl rfl dX2_give_37 ?_
  refine lv_icmp_ge (tgt := 62) hx hb dX2_give_38 (by decide) (fun hc => absurd hc (by decide)) (fun _ => ?_)
  refine lv_aload hx hb dX2_give_41 (lv_at hl 5 rfl) ?_
  refine lv_iload hx hb dX2_give_43 (lv_at hl 0 rfl) ?_
  refine zaldc (v := bp4_e0) hx hb hK.1 hP 25 4 rfl rfl (show zin (0 : Int32) 3 from by decide) rfl dX2_give_45 ?_
  refine lv_aload_n hx hb dX2_give_46 rfl (lv_at hl 1 rfl) ?_
  refine va_get (D := D) (ci := 2) (v := .ref b_trays) (C := RX2) (T := TX2) (N := 5) hx hb hts uX2_give_X2 hown hK.1 hP 0 rfl rfl 3 (by decide) (hts (.fieldLink RX2 34 "WishedResistor$Image" "trays" "[LWishedResistor$Tray;") (List.mem_of_getElem? (i := 4) rfl)) (fun _ h9 => h9) rfl dX2_give_47 ?_
  refine lv_iload hx hb dX2_give_50 (lv_at hl 0 rfl) ?_
  refine zaldc (v := b_trays_e0) hx hb hK.1 hP 26 4 rfl rfl (show zin (0 : Int32) 3 from by decide) rfl dX2_give_52 ?_
  obtain ⟨cp4_e0_kind_r53, cp4_e0_size_r53, cp4_e0_places_r53, hq53, h⟩ := zb3_s h
  refine zCv (w1 := (wdX9_copy cy b_trays_e0 b_trays_e0_places bp4_e0 bp4_e0_places c_trays_e0_kind c_trays_e0_size cp4_e0_kind_r53 cp4_e0_size_r53 cp4_e0_places_r53 c_trays_e0_places)) (ws' := (wdX2_give cy b b_box b_nets b_mesh b_trays b_box_ohms b_box_spread bp1 bp1_ohms bp1_spread b_nets_kind b_nets_first b_nets_second b_nets_parts b_nets_likes b_nets_letters b_nets_waiting b_nets_made bp2 bp2_kind bp2_first bp2_second bp2_parts bp2_likes bp2_letters bp2_waiting bp2_made b_mesh_one b_mesh_other b_mesh_ohms b_mesh_trees b_mesh_worth b_mesh_best bp3 bp3_one bp3_other bp3_ohms bp3_trees bp3_worth bp3_best bp4 bp4_e0 bp4_e1 bp4_e2 b_trays_e0 b_trays_e1 b_trays_e2 b_trays_e0_places b_trays_e1_places b_trays_e2_places bp4_e0_places bp4_e1_places bp4_e2_places c_isTaken cp1_ohms_r5 c_box_ohms cp1_spread_r5 c_box_spread c_nets_count cp2_count_r13 cp2_kind_r13 c_nets_kind cp2_first_r13 c_nets_first cp2_second_r13 c_nets_second cp2_parts_r13 c_nets_parts c_mesh_points c_mesh_edges cp3_points_r21 cp3_edges_r21 cp3_one_r21 c_mesh_one cp3_other_r21 c_mesh_other cp3_ohms_r21 c_mesh_ohms c_trays_e0_kind c_trays_e0_size c_trays_e1_kind c_trays_e1_size c_trays_e2_kind c_trays_e2_size cp4_e0_kind_r53 cp4_e0_size_r53 cp4_e1_kind cp4_e1_size cp4_e2_kind cp4_e2_size cp4_e0_places_r53 cp4_e1_places cp4_e2_places c_trays_e0_places c_trays_e1_places c_trays_e2_places)) (va_runV (As := [.ref b_trays_e0]) (rest := []) ⟨hx, hb, hml, hown, hts⟩ (mX9_copy l D cy H.size b_trays_e0 b_trays_e0_places bp4_e0 bp4_e0_places c_trays_e0_kind c_trays_e0_size cp4_e0_kind cp4_e0_size cp4_e0_places c_trays_e0_places (cp4_e0_kind_r53, cp4_e0_size_r53, cp4_e0_places_r53) hq53) (cwV 1 hts gX2_give_X9_copy rfl rfl rfl ⟨rfl, cdX9_copy⟩ ⟨Nat.le_of_ble_eq_true rfl, Nat.le_of_ble_eq_true rfl⟩) (zPV hK hP hD [27, 30, 33, 36] rfl rfl (q0 := 30) (ci := 9) rfl rfl rfl) rfl rfl hl.1 rfl (lv_room (Nat.le_of_ble_eq_true rfl)) dX2_give_53 ⟨Nat.zero_le _, Nat.zero_le _⟩) hP hD hS hA [27, 30, 33, 36] [0, 1, 2, 3, 4, 5, 6, 7, 8, 9, 10, 11, 12, 13, 14, 15, 16, 17, 18, 19, 20, 21, 22, 23, 24, 25, 26, 28, 29, 31, 32, 34, 35, 37, 38] [0, 1, 2, 3, 4, 5, 6, 7, 8, 9, 10, 11, 12, 13, 14, 15, 16, 17, 18, 19, 20, 21, 22, 23, 24, 25, 26, 35, 27, 28, 36, 29, 30, 37, 31, 32, 38, 33, 34] rfl rfl rfl rfl (fun H locs hP hD hS => ?_)
  refine lv_iinc (v := (1 : Int32)) (lv' := [(5, .int (1 : Int32)), (0, .ref b), (1, .ref bp1), (2, .ref bp2), (3, .ref bp3), (4, .ref bp4)]) hx hb dX2_give_56 hl (k := 0) rfl (by decide) (Nat.le_of_ble_eq_true rfl) rfl (fun ls hl => ?_)
  refine lv_goto (tgt := 27) hx hb dX2_give_59 (by decide) ?_
  refine lv_iload hx hb dX2_give_27 (lv_at hl 0 rfl) ?_
  refine lv_iconst (v := (3 : Int32)) hx hb dX2_give_29 (by decide) ?_
  refine lv_icmp_ge (tgt := 62) hx hb dX2_give_30 (by decide) (fun hc => absurd hc (by decide)) (fun _ => ?_)
  refine lv_iload hx hb dX2_give_33 (lv_at hl 0 rfl) ?_
  refine lv_aload hx hb dX2_give_35 (lv_at hl 5 rfl) ?_
  refine va_alen (v := (3 : Int32)) hx hb hK.1 hP 25 4 rfl rfl rfl dX2_give_37 ?_
  refine lv_icmp_ge (tgt := 62) hx hb dX2_give_38 (by decide) (fun hc => absurd hc (by decide)) (fun _ => ?_)
  refine lv_aload hx hb dX2_give_41 (lv_at hl 5 rfl) ?_
  refine lv_iload hx hb dX2_give_43 (lv_at hl 0 rfl) ?_
  refine zaldc (v := bp4_e1) hx hb hK.1 hP 25 4 rfl rfl (show zin (1 : Int32) 3 from by decide) rfl dX2_give_45 ?_
  refine lv_aload_n hx hb dX2_give_46 rfl (lv_at hl 1 rfl) ?_
  refine va_get (D := D) (ci := 2) (v := .ref b_trays) (C := RX2) (T := TX2) (N := 5) hx hb hts uX2_give_X2 hown hK.1 hP 0 rfl rfl 3 (by decide) (hts (.fieldLink RX2 34 "WishedResistor$Image" "trays" "[LWishedResistor$Tray;") (List.mem_of_getElem? (i := 4) rfl)) (fun _ h9 => h9) rfl dX2_give_47 ?_
  refine lv_iload hx hb dX2_give_50 (lv_at hl 0 rfl) ?_
  refine zaldc (v := b_trays_e1) hx hb hK.1 hP 26 4 rfl rfl (show zin (1 : Int32) 3 from by decide) rfl dX2_give_52 ?_
  obtain ⟨cp4_e1_kind_r53, cp4_e1_size_r53, cp4_e1_places_r53, hq53, h⟩ := zb3_s h
  refine zCv (w1 := (wdX9_copy cy b_trays_e1 b_trays_e1_places bp4_e1 bp4_e1_places c_trays_e1_kind c_trays_e1_size cp4_e1_kind_r53 cp4_e1_size_r53 cp4_e1_places_r53 c_trays_e1_places)) (ws' := (wdX2_give cy b b_box b_nets b_mesh b_trays b_box_ohms b_box_spread bp1 bp1_ohms bp1_spread b_nets_kind b_nets_first b_nets_second b_nets_parts b_nets_likes b_nets_letters b_nets_waiting b_nets_made bp2 bp2_kind bp2_first bp2_second bp2_parts bp2_likes bp2_letters bp2_waiting bp2_made b_mesh_one b_mesh_other b_mesh_ohms b_mesh_trees b_mesh_worth b_mesh_best bp3 bp3_one bp3_other bp3_ohms bp3_trees bp3_worth bp3_best bp4 bp4_e0 bp4_e1 bp4_e2 b_trays_e0 b_trays_e1 b_trays_e2 b_trays_e0_places b_trays_e1_places b_trays_e2_places bp4_e0_places bp4_e1_places bp4_e2_places c_isTaken cp1_ohms_r5 c_box_ohms cp1_spread_r5 c_box_spread c_nets_count cp2_count_r13 cp2_kind_r13 c_nets_kind cp2_first_r13 c_nets_first cp2_second_r13 c_nets_second cp2_parts_r13 c_nets_parts c_mesh_points c_mesh_edges cp3_points_r21 cp3_edges_r21 cp3_one_r21 c_mesh_one cp3_other_r21 c_mesh_other cp3_ohms_r21 c_mesh_ohms c_trays_e0_kind c_trays_e0_size c_trays_e1_kind c_trays_e1_size c_trays_e2_kind c_trays_e2_size cp4_e0_kind_r53 cp4_e0_size_r53 cp4_e1_kind_r53 cp4_e1_size_r53 cp4_e2_kind cp4_e2_size cp4_e0_places_r53 cp4_e1_places_r53 cp4_e2_places c_trays_e0_places c_trays_e1_places c_trays_e2_places)) (va_runV (As := [.ref b_trays_e1]) (rest := []) ⟨hx, hb, hml, hown, hts⟩ (mX9_copy l D cy H.size b_trays_e1 b_trays_e1_places bp4_e1 bp4_e1_places c_trays_e1_kind c_trays_e1_size cp4_e1_kind cp4_e1_size cp4_e1_places c_trays_e1_places (cp4_e1_kind_r53, cp4_e1_size_r53, cp4_e1_places_r53) hq53) (cwV 1 hts gX2_give_X9_copy rfl rfl rfl ⟨rfl, cdX9_copy⟩ ⟨Nat.le_of_ble_eq_true rfl, Nat.le_of_ble_eq_true rfl⟩) (zPV hK hP hD [28, 31, 34, 37] rfl rfl (q0 := 31) (ci := 9) rfl rfl rfl) rfl rfl hl.1 rfl (lv_room (Nat.le_of_ble_eq_true rfl)) dX2_give_53 ⟨Nat.zero_le _, Nat.zero_le _⟩) hP hD hS hA [28, 31, 34, 37] [0, 1, 2, 3, 4, 5, 6, 7, 8, 9, 10, 11, 12, 13, 14, 15, 16, 17, 18, 19, 20, 21, 22, 23, 24, 25, 26, 27, 29, 30, 32, 33, 35, 36, 38] [0, 1, 2, 3, 4, 5, 6, 7, 8, 9, 10, 11, 12, 13, 14, 15, 16, 17, 18, 19, 20, 21, 22, 23, 24, 25, 26, 27, 35, 28, 29, 36, 30, 31, 37, 32, 33, 38, 34] rfl rfl rfl rfl (fun H locs hP hD hS => ?_)
  refine lv_iinc (v := (2 : Int32)) (lv' := [(5, .int (2 : Int32)), (0, .ref b), (1, .ref bp1), (2, .ref bp2), (3, .ref bp3), (4, .ref bp4)]) hx hb dX2_give_56 hl (k := 0) rfl (by decide) (Nat.le_of_ble_eq_true rfl) rfl (fun ls hl => ?_)
  refine lv_goto (tgt := 27) hx hb dX2_give_59 (by decide) ?_
  refine lv_iload hx hb dX2_give_27 (lv_at hl 0 rfl) ?_
  refine lv_iconst (v := (3 : Int32)) hx hb dX2_give_29 (by decide) ?_
  refine lv_icmp_ge (tgt := 62) hx hb dX2_give_30 (by decide) (fun hc => absurd hc (by decide)) (fun _ => ?_)
  refine lv_iload hx hb dX2_give_33 (lv_at hl 0 rfl) ?_
  refine lv_aload hx hb dX2_give_35 (lv_at hl 5 rfl) ?_
  refine va_alen (v := (3 : Int32)) hx hb hK.1 hP 25 4 rfl rfl rfl dX2_give_37 ?_
  refine lv_icmp_ge (tgt := 62) hx hb dX2_give_38 (by decide) (fun hc => absurd hc (by decide)) (fun _ => ?_)
  refine lv_aload hx hb dX2_give_41 (lv_at hl 5 rfl) ?_
  refine lv_iload hx hb dX2_give_43 (lv_at hl 0 rfl) ?_
  refine zaldc (v := bp4_e2) hx hb hK.1 hP 25 4 rfl rfl (show zin (2 : Int32) 3 from by decide) rfl dX2_give_45 ?_
  refine lv_aload_n hx hb dX2_give_46 rfl (lv_at hl 1 rfl) ?_
  refine va_get (D := D) (ci := 2) (v := .ref b_trays) (C := RX2) (T := TX2) (N := 5) hx hb hts uX2_give_X2 hown hK.1 hP 0 rfl rfl 3 (by decide) (hts (.fieldLink RX2 34 "WishedResistor$Image" "trays" "[LWishedResistor$Tray;") (List.mem_of_getElem? (i := 4) rfl)) (fun _ h9 => h9) rfl dX2_give_47 ?_
  refine lv_iload hx hb dX2_give_50 (lv_at hl 0 rfl) ?_
  refine zaldc (v := b_trays_e2) hx hb hK.1 hP 26 4 rfl rfl (show zin (2 : Int32) 3 from by decide) rfl dX2_give_52 ?_
  obtain ⟨cp4_e2_kind_r53, cp4_e2_size_r53, cp4_e2_places_r53, hq53, h⟩ := zb3_s h
  refine zCv (w1 := (wdX9_copy cy b_trays_e2 b_trays_e2_places bp4_e2 bp4_e2_places c_trays_e2_kind c_trays_e2_size cp4_e2_kind_r53 cp4_e2_size_r53 cp4_e2_places_r53 c_trays_e2_places)) (ws' := (wdX2_give cy b b_box b_nets b_mesh b_trays b_box_ohms b_box_spread bp1 bp1_ohms bp1_spread b_nets_kind b_nets_first b_nets_second b_nets_parts b_nets_likes b_nets_letters b_nets_waiting b_nets_made bp2 bp2_kind bp2_first bp2_second bp2_parts bp2_likes bp2_letters bp2_waiting bp2_made b_mesh_one b_mesh_other b_mesh_ohms b_mesh_trees b_mesh_worth b_mesh_best bp3 bp3_one bp3_other bp3_ohms bp3_trees bp3_worth bp3_best bp4 bp4_e0 bp4_e1 bp4_e2 b_trays_e0 b_trays_e1 b_trays_e2 b_trays_e0_places b_trays_e1_places b_trays_e2_places bp4_e0_places bp4_e1_places bp4_e2_places c_isTaken cp1_ohms_r5 c_box_ohms cp1_spread_r5 c_box_spread c_nets_count cp2_count_r13 cp2_kind_r13 c_nets_kind cp2_first_r13 c_nets_first cp2_second_r13 c_nets_second cp2_parts_r13 c_nets_parts c_mesh_points c_mesh_edges cp3_points_r21 cp3_edges_r21 cp3_one_r21 c_mesh_one cp3_other_r21 c_mesh_other cp3_ohms_r21 c_mesh_ohms c_trays_e0_kind c_trays_e0_size c_trays_e1_kind c_trays_e1_size c_trays_e2_kind c_trays_e2_size cp4_e0_kind_r53 cp4_e0_size_r53 cp4_e1_kind_r53 cp4_e1_size_r53 cp4_e2_kind_r53 cp4_e2_size_r53 cp4_e0_places_r53 cp4_e1_places_r53 cp4_e2_places_r53 c_trays_e0_places c_trays_e1_places c_trays_e2_places)) (va_runV (As := [.ref b_trays_e2]) (rest := []) ⟨hx, hb, hml, hown, hts⟩ (mX9_copy l D cy H.size b_trays_e2 b_trays_e2_places bp4_e2 bp4_e2_places c_trays_e2_kind c_trays_e2_size cp4_e2_kind cp4_e2_size cp4_e2_places c_trays_e2_places (cp4_e2_kind_r53, cp4_e2_size_r53, cp4_e2_places_r53) hq53) (cwV 1 hts gX2_give_X9_copy rfl rfl rfl ⟨rfl, cdX9_copy⟩ ⟨Nat.le_of_ble_eq_true rfl, Nat.le_of_ble_eq_true rfl⟩) (zPV hK hP hD [29, 32, 35, 38] rfl rfl (q0 := 32) (ci := 9) rfl rfl rfl) rfl rfl hl.1 rfl (lv_room (Nat.le_of_ble_eq_true rfl)) dX2_give_53 ⟨Nat.zero_le _, Nat.zero_le _⟩) hP hD hS hA [29, 32, 35, 38] [0, 1, 2, 3, 4, 5, 6, 7, 8, 9, 10, 11, 12, 13, 14, 15, 16, 17, 18, 19, 20, 21, 22, 23, 24, 25, 26, 27, 28, 30, 31, 33, 34, 36, 37] [0, 1, 2, 3, 4, 5, 6, 7, 8, 9, 10, 11, 12, 13, 14, 15, 16, 17, 18, 19, 20, 21, 22, 23, 24, 25, 26, 27, 28, 35, 29, 30, 36, 31, 32, 37, 33, 34, 38] rfl rfl rfl rfl (fun H locs hP hD hS => ?_)
  refine lv_iinc (v := (3 : Int32)) (lv' := [(5, .int (3 : Int32)), (0, .ref b), (1, .ref bp1), (2, .ref bp2), (3, .ref bp3), (4, .ref bp4)]) hx hb dX2_give_56 hl (k := 0) rfl (by decide) (Nat.le_of_ble_eq_true rfl) rfl (fun ls hl => ?_)
  refine lv_goto (tgt := 27) hx hb dX2_give_59 (by decide) ?_
  refine lv_iload hx hb dX2_give_27 (lv_at hl 0 rfl) ?_
  refine lv_iconst (v := (3 : Int32)) hx hb dX2_give_29 (by decide) ?_
  refine lv_icmp_ge (tgt := 62) hx hb dX2_give_30 (by decide) (fun _ => ?_) (fun hc => absurd (by decide) hc)
  exact hret (o := (cp1_ohms_r5, cp1_spread_r5, cp2_count_r13, cp2_kind_r13, cp2_first_r13, cp2_second_r13, cp2_parts_r13, cp3_points_r21, cp3_edges_r21, cp3_one_r21, cp3_other_r21, cp3_ohms_r21, cp4_e0_kind_r53, cp4_e0_size_r53, cp4_e1_kind_r53, cp4_e1_size_r53, cp4_e2_kind_r53, cp4_e2_size_r53, cp4_e0_places_r53, cp4_e1_places_r53, cp4_e2_places_r53)) h hP hD hS dX2_give_62

theorem uX3_has_X3 : ∀ w ∈ u_ws RX3 TX3 8, w ∈ wsX3_has := fun w h => (List.mem_cons_of_mem _ (List.mem_append_right _ h))
abbrev wdX3_has (cy : Nat → ClassId) (b b_one b_other b_ohms b_trees b_worth b_best : Nat) (c_points c_edges : Int32) : va_W := [(b, .inr (3, [.int c_points, .int c_edges, .ref b_one, .ref b_other, .ref b_ohms, .ref b_trees, .ref b_worth, .ref b_best]))]
abbrev rmX3_has : Room := { frames := 0, cells := 0, slots := 0, locals := 0 }
theorem cdX3_has : (yX3_has).cls ≠ "java/lang/invoke/MethodHandle" ∧ (yX3_has).cls ≠ "java/lang/invoke/VarHandle" ∧ (parseMethodDescriptor (yX3_has).desc).map (fun d => d.parameters.length) = some 1 := by decide +kernel
def fX3_has (p1 c_points : Int32) : Option (Int32) :=
  if p1 < 0 then (some ((0 : Int32))) else (if c_points ≤ p1 then (some ((0 : Int32))) else (if (6 : Int32) ≤ p1 then (some ((0 : Int32))) else (some ((1 : Int32)))))
set_option maxHeartbeats 4000000 in
set_option maxRecDepth 100000 in
theorem mX3_has (l : Launch) (D : va_G) (cy : Nat → ClassId) (sz : Nat) (b b_one b_other b_ohms b_trees b_worth b_best : Nat) (c_points c_edges p1 : Int32) (res : (Int32)) (h : fX3_has p1 c_points = some res) : zMz l yX3_has wsX3_has rmX3_has [.ref b, .int p1] D cy (wdX3_has cy b b_one b_other b_ohms b_trees b_worth b_best c_points c_edges) sz ((fun (o : (Int32)) => o) res) ((fun (o : (Int32)) => (wdX3_has cy b b_one b_other b_ohms b_trees b_worth b_best c_points c_edges)) res) := by
  refine zOfz (res := res) (rf := (fun (o : (Int32)) => o)) (Wf := (fun (o : (Int32)) => (wdX3_has cy b b_one b_other b_ohms b_trees b_worth b_best c_points c_edges))) (by decide +kernel) rfl (Nat.le_of_ble_eq_true rfl) ?_
  intro p e s m args below meth c A ls Q hx hb hml hts hown hP hK hD hA hS hl hret
  have hown : s.vm.findClass RX3 = some m.cls := hown
  have hl : lv_has ls 2 [(0, .ref b), (1, .int p1)] := hl
  refine lv_iload_n hx hb dX3_has_0 rfl (lv_at hl 1 rfl) ?_
  refine lv_if_lt (tgt := 22) hx hb dX3_has_1 (by decide) (fun hc1 => ?_) (fun hc1 => ?_)
  · replace h := zi_t hc1 h
    refine lv_iconst (v := (0 : Int32)) hx hb dX3_has_22 (by decide) ?_
    exact hret (o := ((0 : Int32))) h (show narrow .boolean (.int (0 : Int32)) = .int (0 : Int32) from by decide) hP hD hS dX3_has_23
  · replace h := zi_f hc1 h
    refine lv_iload_n hx hb dX3_has_4 rfl (lv_at hl 1 rfl) ?_
    refine lv_aload_n hx hb dX3_has_5 rfl (lv_at hl 0 rfl) ?_
    refine va_get (D := D) (ci := 3) (v := .int c_points) (C := RX3) (T := TX3) (N := 8) hx hb hts uX3_has_X3 hown hK.1 hP 0 rfl rfl 0 (by decide) (hts (.fieldLink RX3 9 "WishedResistor$Mesh" "points" "I") (List.mem_of_getElem? (i := 1) rfl)) (fun _ h9 => h9) rfl dX3_has_6 ?_
    refine lv_icmp_ge (tgt := 22) hx hb dX3_has_9 (by decide) (fun hc9 => ?_) (fun hc9 => ?_)
    · replace h := zi_t hc9 h
      refine lv_iconst (v := (0 : Int32)) hx hb dX3_has_22 (by decide) ?_
      exact hret (o := ((0 : Int32))) h (show narrow .boolean (.int (0 : Int32)) = .int (0 : Int32) from by decide) hP hD hS dX3_has_23
    · replace h := zi_f hc9 h
      refine lv_iload_n hx hb dX3_has_12 rfl (lv_at hl 1 rfl) ?_
      refine lv_bipush (v := (6 : Int32)) hx hb dX3_has_13 (by decide) ?_
      refine lv_icmp_ge (tgt := 22) hx hb dX3_has_15 (by decide) (fun hc15 => ?_) (fun hc15 => ?_)
      · replace h := zi_t hc15 h
        refine lv_iconst (v := (0 : Int32)) hx hb dX3_has_22 (by decide) ?_
        exact hret (o := ((0 : Int32))) h (show narrow .boolean (.int (0 : Int32)) = .int (0 : Int32) from by decide) hP hD hS dX3_has_23
      · replace h := zi_f hc15 h
        refine lv_iconst (v := (1 : Int32)) hx hb dX3_has_18 (by decide) ?_
        refine lv_goto (tgt := 23) hx hb dX3_has_19 (by decide) ?_
        exact hret (o := ((1 : Int32))) h (show narrow .boolean (.int (1 : Int32)) = .int (1 : Int32) from by decide) hP hD hS dX3_has_23

theorem uX3_hasEdge_X3 : ∀ w ∈ u_ws RX3 TX3 8, w ∈ wsX3_hasEdge := fun w h => (List.mem_cons_of_mem _ (List.mem_append_right _ h))
abbrev wdX3_hasEdge (cy : Nat → ClassId) (b b_one b_other b_ohms b_trees b_worth b_best : Nat) (c_points c_edges : Int32) : va_W := [(b, .inr (3, [.int c_points, .int c_edges, .ref b_one, .ref b_other, .ref b_ohms, .ref b_trees, .ref b_worth, .ref b_best]))]
abbrev rmX3_hasEdge : Room := { frames := 0, cells := 0, slots := 0, locals := 0 }
theorem cdX3_hasEdge : (yX3_hasEdge).cls ≠ "java/lang/invoke/MethodHandle" ∧ (yX3_hasEdge).cls ≠ "java/lang/invoke/VarHandle" ∧ (parseMethodDescriptor (yX3_hasEdge).desc).map (fun d => d.parameters.length) = some 1 := by decide +kernel
def fX3_hasEdge (p1 c_edges : Int32) : Option (Int32) :=
  if p1 < 0 then (some ((0 : Int32))) else (if c_edges ≤ p1 then (some ((0 : Int32))) else (if (8 : Int32) ≤ p1 then (some ((0 : Int32))) else (some ((1 : Int32)))))
set_option maxHeartbeats 4000000 in
set_option maxRecDepth 100000 in
theorem mX3_hasEdge (l : Launch) (D : va_G) (cy : Nat → ClassId) (sz : Nat) (b b_one b_other b_ohms b_trees b_worth b_best : Nat) (c_points c_edges p1 : Int32) (res : (Int32)) (h : fX3_hasEdge p1 c_edges = some res) : zMz l yX3_hasEdge wsX3_hasEdge rmX3_hasEdge [.ref b, .int p1] D cy (wdX3_hasEdge cy b b_one b_other b_ohms b_trees b_worth b_best c_points c_edges) sz ((fun (o : (Int32)) => o) res) ((fun (o : (Int32)) => (wdX3_hasEdge cy b b_one b_other b_ohms b_trees b_worth b_best c_points c_edges)) res) := by
  refine zOfz (res := res) (rf := (fun (o : (Int32)) => o)) (Wf := (fun (o : (Int32)) => (wdX3_hasEdge cy b b_one b_other b_ohms b_trees b_worth b_best c_points c_edges))) (by decide +kernel) rfl (Nat.le_of_ble_eq_true rfl) ?_
  intro p e s m args below meth c A ls Q hx hb hml hts hown hP hK hD hA hS hl hret
  have hown : s.vm.findClass RX3 = some m.cls := hown
  have hl : lv_has ls 2 [(0, .ref b), (1, .int p1)] := hl
  refine lv_iload_n hx hb dX3_hasEdge_0 rfl (lv_at hl 1 rfl) ?_
  refine lv_if_lt (tgt := 22) hx hb dX3_hasEdge_1 (by decide) (fun hc1 => ?_) (fun hc1 => ?_)
  · replace h := zi_t hc1 h
    refine lv_iconst (v := (0 : Int32)) hx hb dX3_hasEdge_22 (by decide) ?_
    exact hret (o := ((0 : Int32))) h (show narrow .boolean (.int (0 : Int32)) = .int (0 : Int32) from by decide) hP hD hS dX3_hasEdge_23
  · replace h := zi_f hc1 h
    refine lv_iload_n hx hb dX3_hasEdge_4 rfl (lv_at hl 1 rfl) ?_
    refine lv_aload_n hx hb dX3_hasEdge_5 rfl (lv_at hl 0 rfl) ?_
    refine va_get (D := D) (ci := 3) (v := .int c_edges) (C := RX3) (T := TX3) (N := 8) hx hb hts uX3_hasEdge_X3 hown hK.1 hP 0 rfl rfl 1 (by decide) (hts (.fieldLink RX3 38 "WishedResistor$Mesh" "edges" "I") (List.mem_of_getElem? (i := 1) rfl)) (fun _ h9 => h9) rfl dX3_hasEdge_6 ?_
    refine lv_icmp_ge (tgt := 22) hx hb dX3_hasEdge_9 (by decide) (fun hc9 => ?_) (fun hc9 => ?_)
    · replace h := zi_t hc9 h
      refine lv_iconst (v := (0 : Int32)) hx hb dX3_hasEdge_22 (by decide) ?_
      exact hret (o := ((0 : Int32))) h (show narrow .boolean (.int (0 : Int32)) = .int (0 : Int32) from by decide) hP hD hS dX3_hasEdge_23
    · replace h := zi_f hc9 h
      refine lv_iload_n hx hb dX3_hasEdge_12 rfl (lv_at hl 1 rfl) ?_
      refine lv_bipush (v := (8 : Int32)) hx hb dX3_hasEdge_13 (by decide) ?_
      refine lv_icmp_ge (tgt := 22) hx hb dX3_hasEdge_15 (by decide) (fun hc15 => ?_) (fun hc15 => ?_)
      · replace h := zi_t hc15 h
        refine lv_iconst (v := (0 : Int32)) hx hb dX3_hasEdge_22 (by decide) ?_
        exact hret (o := ((0 : Int32))) h (show narrow .boolean (.int (0 : Int32)) = .int (0 : Int32) from by decide) hP hD hS dX3_hasEdge_23
      · replace h := zi_f hc15 h
        refine lv_iconst (v := (1 : Int32)) hx hb dX3_hasEdge_18 (by decide) ?_
        refine lv_goto (tgt := 23) hx hb dX3_hasEdge_19 (by decide) ?_
        exact hret (o := ((1 : Int32))) h (show narrow .boolean (.int (1 : Int32)) = .int (1 : Int32) from by decide) hP hD hS dX3_hasEdge_23

theorem uX3_put_X3 : ∀ w ∈ u_ws RX3 TX3 8, w ∈ wsX3_put := fun w h => (List.mem_cons_of_mem _ (List.mem_append_right _ h))
abbrev wdX3_put (cy : Nat → ClassId) (b b_one b_other b_ohms b_trees b_worth b_best : Nat) (c_points c_edges : Int32) (c_one c_other c_ohms : Nat → Int32) : va_W := [(b, .inr (3, [.int c_points, .int c_edges, .ref b_one, .ref b_other, .ref b_ohms, .ref b_trees, .ref b_worth, .ref b_best])), (b_one, .inl (cy 0, 8, .inl c_one)), (b_other, .inl (cy 0, 8, .inl c_other)), (b_ohms, .inl (cy 0, 8, .inl c_ohms))]
abbrev rmX3_put : Room := { frames := 0, cells := 0, slots := 0, locals := 0 }
theorem cdX3_put : (yX3_put).cls ≠ "java/lang/invoke/MethodHandle" ∧ (yX3_put).cls ≠ "java/lang/invoke/VarHandle" ∧ (parseMethodDescriptor (yX3_put).desc).map (fun d => d.parameters.length) = some 3 := by decide +kernel
def fX3_put (p1 p2 p3 c_edges : Int32) (c_one c_other c_ohms : Nat → Int32) : Option (Int32 × Int32 × (Nat → Int32) × (Nat → Int32) × (Nat → Int32)) :=
  if c_edges < (8 : Int32) then (zg (zin c_edges 8) (zg (zin c_edges 8) (zg (zin c_edges 8) (some (((c_edges + (1 : Int32)) - (1 : Int32)), (c_edges + (1 : Int32)), (upd c_one (c_edges).toNatClampNeg p1), (upd c_other (c_edges).toNatClampNeg p2), (upd c_ohms (c_edges).toNatClampNeg p3)))))) else (some ((-3 : Int32), c_edges, c_one, c_other, c_ohms))
set_option maxHeartbeats 4000000 in
set_option maxRecDepth 100000 in
theorem mX3_put (l : Launch) (D : va_G) (cy : Nat → ClassId) (sz : Nat) (b b_one b_other b_ohms b_trees b_worth b_best : Nat) (c_points c_edges : Int32) (c_one c_other c_ohms : Nat → Int32) (p1 p2 p3 : Int32) (res : (Int32 × Int32 × (Nat → Int32) × (Nat → Int32) × (Nat → Int32))) (h : fX3_put p1 p2 p3 c_edges c_one c_other c_ohms = some res) : zMi l yX3_put wsX3_put rmX3_put [.ref b, .int p1, .int p2, .int p3] D cy (wdX3_put cy b b_one b_other b_ohms b_trees b_worth b_best c_points c_edges c_one c_other c_ohms) sz ((fun (o : (Int32 × Int32 × (Nat → Int32) × (Nat → Int32) × (Nat → Int32))) => o.1) res) ((fun (o : (Int32 × Int32 × (Nat → Int32) × (Nat → Int32) × (Nat → Int32))) => (wdX3_put cy b b_one b_other b_ohms b_trees b_worth b_best c_points (o.2.1) (o.2.2.1) (o.2.2.2.1) (o.2.2.2.2))) res) := by
  refine zOfi (res := res) (rf := (fun (o : (Int32 × Int32 × (Nat → Int32) × (Nat → Int32) × (Nat → Int32))) => o.1)) (Wf := (fun (o : (Int32 × Int32 × (Nat → Int32) × (Nat → Int32) × (Nat → Int32))) => (wdX3_put cy b b_one b_other b_ohms b_trees b_worth b_best c_points (o.2.1) (o.2.2.1) (o.2.2.2.1) (o.2.2.2.2)))) (by decide +kernel) rfl (Nat.le_of_ble_eq_true rfl) ?_
  intro p e s m args below meth c A ls Q hx hb hml hts hown hP hK hD hA hS hl hret
  have hown : s.vm.findClass RX3 = some m.cls := hown
  have hl : lv_has ls 4 [(0, .ref b), (1, .int p1), (2, .int p2), (3, .int p3)] := hl
  refine lv_aload_n hx hb dX3_put_0 rfl (lv_at hl 0 rfl) ?_
  refine va_get (D := D) (ci := 3) (v := .int c_edges) (C := RX3) (T := TX3) (N := 8) hx hb hts uX3_put_X3 hown hK.1 hP 0 rfl rfl 1 (by decide) (hts (.fieldLink RX3 38 "WishedResistor$Mesh" "edges" "I") (List.mem_of_getElem? (i := 1) rfl)) (fun _ h9 => h9) rfl dX3_put_1 ?_
  refine lv_bipush (v := (8 : Int32)) hx hb dX3_put_4 (by decide) ?_
  refine lv_icmp_lt (tgt := 12) hx hb dX3_put_6 (by decide) (fun hc6 => ?_) (fun hc6 => ?_)
  · replace h := zi_t hc6 h
    refine lv_aload_n hx hb dX3_put_12 rfl (lv_at hl 0 rfl) ?_
    refine va_get (D := D) (ci := 3) (v := .ref b_one) (C := RX3) (T := TX3) (N := 8) hx hb hts uX3_put_X3 hown hK.1 hP 0 rfl rfl 2 (by decide) (hts (.fieldLink RX3 15 "WishedResistor$Mesh" "one" "[I") (List.mem_of_getElem? (i := 2) rfl)) (fun _ h9 => h9) rfl dX3_put_13 ?_
    refine lv_aload_n hx hb dX3_put_16 rfl (lv_at hl 0 rfl) ?_
    refine va_get (D := D) (ci := 3) (v := .int c_edges) (C := RX3) (T := TX3) (N := 8) hx hb hts uX3_put_X3 hown hK.1 hP 0 rfl rfl 1 (by decide) (hts (.fieldLink RX3 38 "WishedResistor$Mesh" "edges" "I") (List.mem_of_getElem? (i := 1) rfl)) (fun _ h9 => h9) rfl dX3_put_17 ?_
    refine lv_iload_n hx hb dX3_put_20 rfl (lv_at hl 1 rfl) ?_
    obtain ⟨hi21, h⟩ := zg_s h
    refine va_iast hx hb hK.1 hP hD hS 1 0 rfl rfl hi21 dX3_put_21 (fun H locs hP hD hS => ?_)
    have hP : va_P D vwCl (wdX3_put cy b b_one b_other b_ohms b_trees b_worth b_best c_points c_edges (upd c_one (c_edges).toNatClampNeg p1) c_other c_ohms) H := hP
    have hD : va_D A (wdX3_put cy b b_one b_other b_ohms b_trees b_worth b_best c_points c_edges (upd c_one (c_edges).toNatClampNeg p1) c_other c_ohms) := hD
    refine lv_aload_n hx hb dX3_put_22 rfl (lv_at hl 0 rfl) ?_
    refine va_get (D := D) (ci := 3) (v := .ref b_other) (C := RX3) (T := TX3) (N := 8) hx hb hts uX3_put_X3 hown hK.1 hP 0 rfl rfl 3 (by decide) (hts (.fieldLink RX3 19 "WishedResistor$Mesh" "other" "[I") (List.mem_of_getElem? (i := 3) rfl)) (fun _ h9 => h9) rfl dX3_put_23 ?_
    refine lv_aload_n hx hb dX3_put_26 rfl (lv_at hl 0 rfl) ?_
    refine va_get (D := D) (ci := 3) (v := .int c_edges) (C := RX3) (T := TX3) (N := 8) hx hb hts uX3_put_X3 hown hK.1 hP 0 rfl rfl 1 (by decide) (hts (.fieldLink RX3 38 "WishedResistor$Mesh" "edges" "I") (List.mem_of_getElem? (i := 1) rfl)) (fun _ h9 => h9) rfl dX3_put_27 ?_
    refine lv_iload_n hx hb dX3_put_30 rfl (lv_at hl 2 rfl) ?_
    obtain ⟨hi31, h⟩ := zg_s h
    refine va_iast hx hb hK.1 hP hD hS 2 0 rfl rfl hi31 dX3_put_31 (fun H locs hP hD hS => ?_)
    have hP : va_P D vwCl (wdX3_put cy b b_one b_other b_ohms b_trees b_worth b_best c_points c_edges (upd c_one (c_edges).toNatClampNeg p1) (upd c_other (c_edges).toNatClampNeg p2) c_ohms) H := hP
    have hD : va_D A (wdX3_put cy b b_one b_other b_ohms b_trees b_worth b_best c_points c_edges (upd c_one (c_edges).toNatClampNeg p1) (upd c_other (c_edges).toNatClampNeg p2) c_ohms) := hD
    refine lv_aload_n hx hb dX3_put_32 rfl (lv_at hl 0 rfl) ?_
    refine va_get (D := D) (ci := 3) (v := .ref b_ohms) (C := RX3) (T := TX3) (N := 8) hx hb hts uX3_put_X3 hown hK.1 hP 0 rfl rfl 4 (by decide) (hts (.fieldLink RX3 22 "WishedResistor$Mesh" "ohms" "[I") (List.mem_of_getElem? (i := 4) rfl)) (fun _ h9 => h9) rfl dX3_put_33 ?_
    refine lv_aload_n hx hb dX3_put_36 rfl (lv_at hl 0 rfl) ?_
    refine va_get (D := D) (ci := 3) (v := .int c_edges) (C := RX3) (T := TX3) (N := 8) hx hb hts uX3_put_X3 hown hK.1 hP 0 rfl rfl 1 (by decide) (hts (.fieldLink RX3 38 "WishedResistor$Mesh" "edges" "I") (List.mem_of_getElem? (i := 1) rfl)) (fun _ h9 => h9) rfl dX3_put_37 ?_
    refine lv_iload_n hx hb dX3_put_40 rfl (lv_at hl 3 rfl) ?_
    obtain ⟨hi41, h⟩ := zg_s h
    refine va_iast hx hb hK.1 hP hD hS 3 0 rfl rfl hi41 dX3_put_41 (fun H locs hP hD hS => ?_)
    have hP : va_P D vwCl (wdX3_put cy b b_one b_other b_ohms b_trees b_worth b_best c_points c_edges (upd c_one (c_edges).toNatClampNeg p1) (upd c_other (c_edges).toNatClampNeg p2) (upd c_ohms (c_edges).toNatClampNeg p3)) H := hP
    have hD : va_D A (wdX3_put cy b b_one b_other b_ohms b_trees b_worth b_best c_points c_edges (upd c_one (c_edges).toNatClampNeg p1) (upd c_other (c_edges).toNatClampNeg p2) (upd c_ohms (c_edges).toNatClampNeg p3)) := hD
    refine lv_aload_n hx hb dX3_put_42 rfl (lv_at hl 0 rfl) ?_
    refine lv_dup hx hb dX3_put_43 rfl ?_
    refine va_get (D := D) (ci := 3) (v := .int c_edges) (C := RX3) (T := TX3) (N := 8) hx hb hts uX3_put_X3 hown hK.1 hP 0 rfl rfl 1 (by decide) (hts (.fieldLink RX3 38 "WishedResistor$Mesh" "edges" "I") (List.mem_of_getElem? (i := 1) rfl)) (fun _ h9 => h9) rfl dX3_put_44 ?_
    refine lv_iconst (v := (1 : Int32)) hx hb dX3_put_47 (by decide) ?_
    refine lv_iadd hx hb dX3_put_48 ?_
    refine va_put (D := D) (ci := 3) (v := .int (c_edges + (1 : Int32))) (ty := .int) (C := RX3) (T := TX3) (N := 8) hx hb hts uX3_put_X3 tyX3 tyX3_ok nmX3 hown hK.1 hP hD hS 0 rfl rfl 1 (by decide) (hts (.fieldLink RX3 38 "WishedResistor$Mesh" "edges" "I") (List.mem_of_getElem? (i := 1) rfl)) (fun _ h9 => h9) rfl (by decide +kernel) rfl rfl (Nat.le_of_ble_eq_true rfl) dX3_put_49 (fun H locs hP hD hS => ?_)
    have hP : va_P D vwCl (wdX3_put cy b b_one b_other b_ohms b_trees b_worth b_best c_points (c_edges + (1 : Int32)) (upd c_one (c_edges).toNatClampNeg p1) (upd c_other (c_edges).toNatClampNeg p2) (upd c_ohms (c_edges).toNatClampNeg p3)) H := hP
    have hD : va_D A (wdX3_put cy b b_one b_other b_ohms b_trees b_worth b_best c_points (c_edges + (1 : Int32)) (upd c_one (c_edges).toNatClampNeg p1) (upd c_other (c_edges).toNatClampNeg p2) (upd c_ohms (c_edges).toNatClampNeg p3)) := hD
    refine lv_aload_n hx hb dX3_put_52 rfl (lv_at hl 0 rfl) ?_
    refine va_get (D := D) (ci := 3) (v := .int (c_edges + (1 : Int32))) (C := RX3) (T := TX3) (N := 8) hx hb hts uX3_put_X3 hown hK.1 hP 0 rfl rfl 1 (by decide) (hts (.fieldLink RX3 38 "WishedResistor$Mesh" "edges" "I") (List.mem_of_getElem? (i := 1) rfl)) (fun _ h9 => h9) rfl dX3_put_53 ?_
    refine lv_iconst (v := (1 : Int32)) hx hb dX3_put_56 (by decide) ?_
    refine lv_isub hx hb dX3_put_57 ?_
    exact hret (o := (((c_edges + (1 : Int32)) - (1 : Int32)), (c_edges + (1 : Int32)), (upd c_one (c_edges).toNatClampNeg p1), (upd c_other (c_edges).toNatClampNeg p2), (upd c_ohms (c_edges).toNatClampNeg p3))) h hP hD hS dX3_put_58
  · replace h := zi_f hc6 h
    refine lv_bipush (v := (-3 : Int32)) hx hb dX3_put_9 (by decide) ?_
    exact hret (o := ((-3 : Int32), c_edges, c_one, c_other, c_ohms)) h hP hD hS dX3_put_11

theorem uX3_closedEdges_X3 : ∀ w ∈ u_ws RX3 TX3 8, w ∈ wsX3_closedEdges := fun w h => (List.mem_cons_of_mem _ (List.mem_append_right _ h))
abbrev wdX3_closedEdges (cy : Nat → ClassId) (b b_one b_other b_ohms b_trees b_worth b_best : Nat) (c_points c_edges : Int32) (c_ohms : Nat → Int32) : va_W := [(b, .inr (3, [.int c_points, .int c_edges, .ref b_one, .ref b_other, .ref b_ohms, .ref b_trees, .ref b_worth, .ref b_best])), (b_ohms, .inl (cy 0, 8, .inl c_ohms))]
abbrev rmX3_closedEdges : Room := { frames := 0, cells := 0, slots := 0, locals := 0 }
theorem cdX3_closedEdges : (yX3_closedEdges).cls ≠ "java/lang/invoke/MethodHandle" ∧ (yX3_closedEdges).cls ≠ "java/lang/invoke/VarHandle" ∧ (parseMethodDescriptor (yX3_closedEdges).desc).map (fun d => d.parameters.length) = some 1 := by decide +kernel
def fX3_closedEdges_L4 (c_edges : Int32) (c_ohms : Nat → Int32) (p1 : Int32) : Nat → Int32 → Int32 → Option (Int32) :=
  zl2 (fun rec4 v2_4 v3_4 => if c_edges ≤ v3_4 then (some (v2_4)) else (zg (zin v3_4 8) (if (c_ohms (v3_4).toNatClampNeg) = 0 then (rec4 v2_4 (v3_4 + (1 : Int32))) else (if v3_4 = p1 then (rec4 v2_4 (v3_4 + (1 : Int32))) else (rec4 (v2_4 ||| ((1 : Int32) <<< (v3_4 &&& 31))) (v3_4 + (1 : Int32)))))))
def fX3_closedEdges (p1 c_edges : Int32) (c_ohms : Nat → Int32) : Option (Int32) :=
  fX3_closedEdges_L4 c_edges c_ohms p1 5000 (0 : Int32) (0 : Int32)
set_option maxHeartbeats 4000000 in
set_option maxRecDepth 100000 in
theorem mX3_closedEdges (l : Launch) (D : va_G) (cy : Nat → ClassId) (sz : Nat) (b b_one b_other b_ohms b_trees b_worth b_best : Nat) (c_points c_edges : Int32) (c_ohms : Nat → Int32) (p1 : Int32) (res : (Int32)) (h : fX3_closedEdges p1 c_edges c_ohms = some res) : zMi l yX3_closedEdges wsX3_closedEdges rmX3_closedEdges [.ref b, .int p1] D cy (wdX3_closedEdges cy b b_one b_other b_ohms b_trees b_worth b_best c_points c_edges c_ohms) sz ((fun (o : (Int32)) => o) res) ((fun (o : (Int32)) => (wdX3_closedEdges cy b b_one b_other b_ohms b_trees b_worth b_best c_points c_edges c_ohms)) res) := by
  refine zOfi (res := res) (rf := (fun (o : (Int32)) => o)) (Wf := (fun (o : (Int32)) => (wdX3_closedEdges cy b b_one b_other b_ohms b_trees b_worth b_best c_points c_edges c_ohms))) (by decide +kernel) rfl (Nat.le_of_ble_eq_true rfl) ?_
  intro p e s m args below meth c A ls Q hx hb hml hts hown hP hK hD hA hS hl hret
  have hown : s.vm.findClass RX3 = some m.cls := hown
  have hl : lv_has ls 4 [(0, .ref b), (1, .int p1)] := hl
  refine lv_iconst (v := (0 : Int32)) hx hb dX3_closedEdges_0 (by decide) ?_
  refine lv_istore_n (lv' := [(2, .int (0 : Int32)), (0, .ref b), (1, .int p1)]) hx hb dX3_closedEdges_1 rfl hl (Nat.le_of_ble_eq_true rfl) rfl (fun ls hl => ?_)
  refine lv_iconst (v := (0 : Int32)) hx hb dX3_closedEdges_2 (by decide) ?_
  refine lv_istore_n (lv' := [(3, .int (0 : Int32)), (2, .int (0 : Int32)), (0, .ref b), (1, .int p1)]) hx hb dX3_closedEdges_3 rfl hl (Nat.le_of_ble_eq_true rfl) rfl (fun ls hl => ?_)
  have hL4 : ∀ n4 : Nat, ∀ (v2_4 v3_4 : Int32) (H : Heap) (locs : List Loc) (ls : Array Slot), va_P D vwCl (wdX3_closedEdges cy b b_one b_other b_ohms b_trees b_worth b_best c_points c_edges c_ohms) H → va_D A (wdX3_closedEdges cy b b_one b_other b_ohms b_trees b_worth b_best c_points c_edges c_ohms) → va_S A s.heap H locs → lv_has ls 4 [(0, .ref b), (1, .int p1), (2, .int v2_4), (3, .int v3_4)] → fX3_closedEdges_L4 c_edges c_ohms p1 n4 v2_4 v3_4 = some res → W p l e rmX3_closedEdges s m args below meth c H locs 0 0 Q (F0 m 4 ls []) := by
    intro n4
    induction n4 with
    | zero =>
      intro v2_4 v3_4 H locs ls hP hD hS hl h
      exact zl2_0 h
    | succ n4 ih4 =>
      intro v2_4 v3_4 H locs ls hP hD hS hl h
      replace h := zl2_s h
      refine lv_iload_n hx hb dX3_closedEdges_4 rfl (lv_at hl 3 rfl) ?_
      refine lv_aload_n hx hb dX3_closedEdges_5 rfl (lv_at hl 0 rfl) ?_
      refine va_get (D := D) (ci := 3) (v := .int c_edges) (C := RX3) (T := TX3) (N := 8) hx hb hts uX3_closedEdges_X3 hown hK.1 hP 0 rfl rfl 1 (by decide) (hts (.fieldLink RX3 38 "WishedResistor$Mesh" "edges" "I") (List.mem_of_getElem? (i := 1) rfl)) (fun _ h9 => h9) rfl dX3_closedEdges_6 ?_
      refine lv_icmp_ge (tgt := 38) hx hb dX3_closedEdges_9 (by decide) (fun hc9 => ?_) (fun hc9 => ?_)
      · replace h := zi_t hc9 h
        refine lv_iload_n hx hb dX3_closedEdges_38 rfl (lv_at hl 2 rfl) ?_
        exact hret (o := (v2_4)) h hP hD hS dX3_closedEdges_39
      · replace h := zi_f hc9 h
        refine lv_aload_n hx hb dX3_closedEdges_12 rfl (lv_at hl 0 rfl) ?_
        refine va_get (D := D) (ci := 3) (v := .ref b_ohms) (C := RX3) (T := TX3) (N := 8) hx hb hts uX3_closedEdges_X3 hown hK.1 hP 0 rfl rfl 4 (by decide) (hts (.fieldLink RX3 22 "WishedResistor$Mesh" "ohms" "[I") (List.mem_of_getElem? (i := 2) rfl)) (fun _ h9 => h9) rfl dX3_closedEdges_13 ?_
        refine lv_iload_n hx hb dX3_closedEdges_16 rfl (lv_at hl 3 rfl) ?_
        obtain ⟨hi17, h⟩ := zg_s h
        refine va_iald hx hb hK.1 hP 1 0 rfl rfl hi17 dX3_closedEdges_17 ?_
        refine lv_if_eq (tgt := 32) hx hb dX3_closedEdges_18 (by decide) (fun hc18 => ?_) (fun hc18 => ?_)
        · replace h := zi_t hc18 h
          refine lv_iinc (v := (v3_4 + (1 : Int32))) (lv' := [(3, .int (v3_4 + (1 : Int32))), (0, .ref b), (1, .int p1), (2, .int v2_4)]) hx hb dX3_closedEdges_32 hl (k := 3) rfl (by rfl) (Nat.le_of_ble_eq_true rfl) rfl (fun ls hl => ?_)
          refine lv_goto (tgt := 4) hx hb dX3_closedEdges_35 (by decide) ?_
          exact ih4 v2_4 (v3_4 + (1 : Int32)) _ _ _ hP hD hS (lv_sub hl [1, 2, 3, 0] rfl) h
        · replace h := zi_f hc18 h
          refine lv_iload_n hx hb dX3_closedEdges_21 rfl (lv_at hl 3 rfl) ?_
          refine lv_iload_n hx hb dX3_closedEdges_22 rfl (lv_at hl 1 rfl) ?_
          refine lv_icmp_eq (tgt := 32) hx hb dX3_closedEdges_23 (by decide) (fun hc23 => ?_) (fun hc23 => ?_)
          · replace h := zi_t hc23 h
            refine lv_iinc (v := (v3_4 + (1 : Int32))) (lv' := [(3, .int (v3_4 + (1 : Int32))), (0, .ref b), (1, .int p1), (2, .int v2_4)]) hx hb dX3_closedEdges_32 hl (k := 3) rfl (by rfl) (Nat.le_of_ble_eq_true rfl) rfl (fun ls hl => ?_)
            refine lv_goto (tgt := 4) hx hb dX3_closedEdges_35 (by decide) ?_
            exact ih4 v2_4 (v3_4 + (1 : Int32)) _ _ _ hP hD hS (lv_sub hl [1, 2, 3, 0] rfl) h
          · replace h := zi_f hc23 h
            refine lv_iload_n hx hb dX3_closedEdges_26 rfl (lv_at hl 2 rfl) ?_
            refine lv_iconst (v := (1 : Int32)) hx hb dX3_closedEdges_27 (by decide) ?_
            refine lv_iload_n hx hb dX3_closedEdges_28 rfl (lv_at hl 3 rfl) ?_
            refine lv_ishl hx hb dX3_closedEdges_29 ?_
            refine lv_ior hx hb dX3_closedEdges_30 ?_
            refine lv_istore_n (lv' := [(2, .int (v2_4 ||| ((1 : Int32) <<< (v3_4 &&& 31)))), (0, .ref b), (1, .int p1), (3, .int v3_4)]) hx hb dX3_closedEdges_31 rfl hl (Nat.le_of_ble_eq_true rfl) rfl (fun ls hl => ?_)
            refine lv_iinc (v := (v3_4 + (1 : Int32))) (lv' := [(3, .int (v3_4 + (1 : Int32))), (2, .int (v2_4 ||| ((1 : Int32) <<< (v3_4 &&& 31)))), (0, .ref b), (1, .int p1)]) hx hb dX3_closedEdges_32 hl (k := 3) rfl (by rfl) (Nat.le_of_ble_eq_true rfl) rfl (fun ls hl => ?_)
            refine lv_goto (tgt := 4) hx hb dX3_closedEdges_35 (by decide) ?_
            exact ih4 (v2_4 ||| ((1 : Int32) <<< (v3_4 &&& 31))) (v3_4 + (1 : Int32)) _ _ _ hP hD hS (lv_sub hl [2, 3, 1, 0] rfl) h
  exact hL4 5000 (0 : Int32) (0 : Int32) _ _ _ hP hD hS (lv_sub hl [2, 3, 1, 0] rfl) h

theorem uX3_pointsFrom_X3 : ∀ w ∈ u_ws RX3 TX3 8, w ∈ wsX3_pointsFrom := fun w h => (List.mem_cons_of_mem _ (List.mem_append_right _ h))
abbrev wdX3_pointsFrom (cy : Nat → ClassId) (b b_one b_other b_ohms b_trees b_worth b_best : Nat) (c_points c_edges : Int32) (c_one c_other : Nat → Int32) : va_W := [(b, .inr (3, [.int c_points, .int c_edges, .ref b_one, .ref b_other, .ref b_ohms, .ref b_trees, .ref b_worth, .ref b_best])), (b_one, .inl (cy 0, 8, .inl c_one)), (b_other, .inl (cy 0, 8, .inl c_other))]
abbrev rmX3_pointsFrom : Room := { frames := 0, cells := 0, slots := 0, locals := 0 }
theorem cdX3_pointsFrom : (yX3_pointsFrom).cls ≠ "java/lang/invoke/MethodHandle" ∧ (yX3_pointsFrom).cls ≠ "java/lang/invoke/VarHandle" ∧ (parseMethodDescriptor (yX3_pointsFrom).desc).map (fun d => d.parameters.length) = some 2 := by decide +kernel
def fX3_pointsFrom_L19 (k7_19 : Int32 → Int32 → Option (Int32)) (c_edges : Int32) (c_one c_other : Nat → Int32) (p2 v4_7 : Int32) : Nat → Int32 → Int32 → Option (Int32) :=
  zl2 (fun rec19 v3_19 v5_19 => if c_edges ≤ v5_19 then (k7_19 v3_19 (v4_7 + (1 : Int32))) else (zg (zin v5_19 8) (zg (zin v5_19 8) (if ((p2 >>> (v5_19 &&& 31)) &&& (1 : Int32)) = 0 then (rec19 v3_19 (v5_19 + (1 : Int32))) else (if (v3_19 &&& (((1 : Int32) <<< ((c_one (v5_19).toNatClampNeg) &&& 31)) ||| ((1 : Int32) <<< ((c_other (v5_19).toNatClampNeg) &&& 31)))) = 0 then (rec19 v3_19 (v5_19 + (1 : Int32))) else (rec19 (v3_19 ||| (((1 : Int32) <<< ((c_one (v5_19).toNatClampNeg) &&& 31)) ||| ((1 : Int32) <<< ((c_other (v5_19).toNatClampNeg) &&& 31)))) (v5_19 + (1 : Int32))))))))
def fX3_pointsFrom_L7 (c_points c_edges : Int32) (c_one c_other : Nat → Int32) (p2 : Int32) : Nat → Int32 → Int32 → Option (Int32) :=
  zl2 (fun rec7 v3_7 v4_7 => if c_points ≤ v4_7 then (some (v3_7)) else (fX3_pointsFrom_L19 rec7 c_edges c_one c_other p2 v4_7 5000 v3_7 (0 : Int32)))
def fX3_pointsFrom (p1 p2 c_points c_edges : Int32) (c_one c_other : Nat → Int32) : Option (Int32) :=
  fX3_pointsFrom_L7 c_points c_edges c_one c_other p2 5000 ((1 : Int32) <<< (p1 &&& 31)) (1 : Int32)
set_option maxHeartbeats 4000000 in
set_option maxRecDepth 100000 in
theorem mX3_pointsFrom (l : Launch) (D : va_G) (cy : Nat → ClassId) (sz : Nat) (b b_one b_other b_ohms b_trees b_worth b_best : Nat) (c_points c_edges : Int32) (c_one c_other : Nat → Int32) (p1 p2 : Int32) (res : (Int32)) (h : fX3_pointsFrom p1 p2 c_points c_edges c_one c_other = some res) : zMi l yX3_pointsFrom wsX3_pointsFrom rmX3_pointsFrom [.ref b, .int p1, .int p2] D cy (wdX3_pointsFrom cy b b_one b_other b_ohms b_trees b_worth b_best c_points c_edges c_one c_other) sz ((fun (o : (Int32)) => o) res) ((fun (o : (Int32)) => (wdX3_pointsFrom cy b b_one b_other b_ohms b_trees b_worth b_best c_points c_edges c_one c_other)) res) := by
  refine zOfi (res := res) (rf := (fun (o : (Int32)) => o)) (Wf := (fun (o : (Int32)) => (wdX3_pointsFrom cy b b_one b_other b_ohms b_trees b_worth b_best c_points c_edges c_one c_other))) (by decide +kernel) rfl (Nat.le_of_ble_eq_true rfl) ?_
  intro p e s m args below meth c A ls Q hx hb hml hts hown hP hK hD hA hS hl hret
  have hown : s.vm.findClass RX3 = some m.cls := hown
  have hl : lv_has ls 7 [(0, .ref b), (1, .int p1), (2, .int p2)] := hl
  refine lv_iconst (v := (1 : Int32)) hx hb dX3_pointsFrom_0 (by decide) ?_
  refine lv_iload_n hx hb dX3_pointsFrom_1 rfl (lv_at hl 1 rfl) ?_
  refine lv_ishl hx hb dX3_pointsFrom_2 ?_
  refine lv_istore_n (lv' := [(3, .int ((1 : Int32) <<< (p1 &&& 31))), (0, .ref b), (1, .int p1), (2, .int p2)]) hx hb dX3_pointsFrom_3 rfl hl (Nat.le_of_ble_eq_true rfl) rfl (fun ls hl => ?_)
  refine lv_iconst (v := (1 : Int32)) hx hb dX3_pointsFrom_4 (by decide) ?_
  refine lv_istore (lv' := [(4, .int (1 : Int32)), (3, .int ((1 : Int32) <<< (p1 &&& 31))), (0, .ref b), (1, .int p1), (2, .int p2)]) hx hb dX3_pointsFrom_5 hl (Nat.le_of_ble_eq_true rfl) rfl (fun ls hl => ?_)
  have hL7 : ∀ n7 : Nat, ∀ (v3_7 v4_7 : Int32) (H : Heap) (locs : List Loc) (ls : Array Slot), va_P D vwCl (wdX3_pointsFrom cy b b_one b_other b_ohms b_trees b_worth b_best c_points c_edges c_one c_other) H → va_D A (wdX3_pointsFrom cy b b_one b_other b_ohms b_trees b_worth b_best c_points c_edges c_one c_other) → va_S A s.heap H locs → lv_has ls 7 [(0, .ref b), (2, .int p2), (3, .int v3_7), (4, .int v4_7)] → fX3_pointsFrom_L7 c_points c_edges c_one c_other p2 n7 v3_7 v4_7 = some res → W p l e rmX3_pointsFrom s m args below meth c H locs 0 0 Q (F0 m 7 ls []) := by
    intro n7
    induction n7 with
    | zero =>
      intro v3_7 v4_7 H locs ls hP hD hS hl h
      exact zl2_0 h
    | succ n7 ih7 =>
      intro v3_7 v4_7 H locs ls hP hD hS hl h
      replace h := zl2_s h
      refine lv_iload hx hb dX3_pointsFrom_7 (lv_at hl 3 rfl) ?_
      refine lv_aload_n hx hb dX3_pointsFrom_9 rfl (lv_at hl 0 rfl) ?_
      refine va_get (D := D) (ci := 3) (v := .int c_points) (C := RX3) (T := TX3) (N := 8) hx hb hts uX3_pointsFrom_X3 hown hK.1 hP 0 rfl rfl 0 (by decide) (hts (.fieldLink RX3 9 "WishedResistor$Mesh" "points" "I") (List.mem_of_getElem? (i := 1) rfl)) (fun _ h9 => h9) rfl dX3_pointsFrom_10 ?_
      refine lv_icmp_ge (tgt := 82) hx hb dX3_pointsFrom_13 (by decide) (fun hc13 => ?_) (fun hc13 => ?_)
      · replace h := zi_t hc13 h
        refine lv_iload_n hx hb dX3_pointsFrom_82 rfl (lv_at hl 2 rfl) ?_
        exact hret (o := (v3_7)) h hP hD hS dX3_pointsFrom_83
      · replace h := zi_f hc13 h
        refine lv_iconst (v := (0 : Int32)) hx hb dX3_pointsFrom_16 (by decide) ?_
        refine lv_istore (lv' := [(5, .int (0 : Int32)), (0, .ref b), (2, .int p2), (3, .int v3_7), (4, .int v4_7)]) hx hb dX3_pointsFrom_17 hl (Nat.le_of_ble_eq_true rfl) rfl (fun ls hl => ?_)
        have hL19 : ∀ n19 : Nat, ∀ (v3_19 v5_19 : Int32) (H : Heap) (locs : List Loc) (ls : Array Slot), va_P D vwCl (wdX3_pointsFrom cy b b_one b_other b_ohms b_trees b_worth b_best c_points c_edges c_one c_other) H → va_D A (wdX3_pointsFrom cy b b_one b_other b_ohms b_trees b_worth b_best c_points c_edges c_one c_other) → va_S A s.heap H locs → lv_has ls 7 [(0, .ref b), (2, .int p2), (3, .int v3_19), (4, .int v4_7), (5, .int v5_19)] → fX3_pointsFrom_L19 (fX3_pointsFrom_L7 c_points c_edges c_one c_other p2 n7) c_edges c_one c_other p2 v4_7 n19 v3_19 v5_19 = some res → W p l e rmX3_pointsFrom s m args below meth c H locs 0 0 Q (F0 m 19 ls []) := by
          intro n19
          induction n19 with
          | zero =>
            intro v3_19 v5_19 H locs ls hP hD hS hl h
            exact zl2_0 h
          | succ n19 ih19 =>
            intro v3_19 v5_19 H locs ls hP hD hS hl h
            replace h := zl2_s h
            refine lv_iload hx hb dX3_pointsFrom_19 (lv_at hl 4 rfl) ?_
            refine lv_aload_n hx hb dX3_pointsFrom_21 rfl (lv_at hl 0 rfl) ?_
            refine va_get (D := D) (ci := 3) (v := .int c_edges) (C := RX3) (T := TX3) (N := 8) hx hb hts uX3_pointsFrom_X3 hown hK.1 hP 0 rfl rfl 1 (by decide) (hts (.fieldLink RX3 38 "WishedResistor$Mesh" "edges" "I") (List.mem_of_getElem? (i := 2) rfl)) (fun _ h9 => h9) rfl dX3_pointsFrom_22 ?_
            refine lv_icmp_ge (tgt := 76) hx hb dX3_pointsFrom_25 (by decide) (fun hc25 => ?_) (fun hc25 => ?_)
            · replace h := zi_t hc25 h
              refine lv_iinc (v := (v4_7 + (1 : Int32))) (lv' := [(4, .int (v4_7 + (1 : Int32))), (0, .ref b), (2, .int p2), (3, .int v3_19), (5, .int v5_19)]) hx hb dX3_pointsFrom_76 hl (k := 3) rfl (by rfl) (Nat.le_of_ble_eq_true rfl) rfl (fun ls hl => ?_)
              refine lv_goto (tgt := 7) hx hb dX3_pointsFrom_79 (by decide) ?_
              exact ih7 v3_19 (v4_7 + (1 : Int32)) _ _ _ hP hD hS (lv_sub hl [1, 2, 3, 0] rfl) h
            · replace h := zi_f hc25 h
              refine lv_iconst (v := (1 : Int32)) hx hb dX3_pointsFrom_28 (by decide) ?_
              refine lv_aload_n hx hb dX3_pointsFrom_29 rfl (lv_at hl 0 rfl) ?_
              refine va_get (D := D) (ci := 3) (v := .ref b_one) (C := RX3) (T := TX3) (N := 8) hx hb hts uX3_pointsFrom_X3 hown hK.1 hP 0 rfl rfl 2 (by decide) (hts (.fieldLink RX3 15 "WishedResistor$Mesh" "one" "[I") (List.mem_of_getElem? (i := 3) rfl)) (fun _ h9 => h9) rfl dX3_pointsFrom_30 ?_
              refine lv_iload hx hb dX3_pointsFrom_33 (lv_at hl 4 rfl) ?_
              obtain ⟨hi35, h⟩ := zg_s h
              refine va_iald hx hb hK.1 hP 1 0 rfl rfl hi35 dX3_pointsFrom_35 ?_
              refine lv_ishl hx hb dX3_pointsFrom_36 ?_
              refine lv_iconst (v := (1 : Int32)) hx hb dX3_pointsFrom_37 (by decide) ?_
              refine lv_aload_n hx hb dX3_pointsFrom_38 rfl (lv_at hl 0 rfl) ?_
              refine va_get (D := D) (ci := 3) (v := .ref b_other) (C := RX3) (T := TX3) (N := 8) hx hb hts uX3_pointsFrom_X3 hown hK.1 hP 0 rfl rfl 3 (by decide) (hts (.fieldLink RX3 19 "WishedResistor$Mesh" "other" "[I") (List.mem_of_getElem? (i := 4) rfl)) (fun _ h9 => h9) rfl dX3_pointsFrom_39 ?_
              refine lv_iload hx hb dX3_pointsFrom_42 (lv_at hl 4 rfl) ?_
              obtain ⟨hi44, h⟩ := zg_s h
              refine va_iald hx hb hK.1 hP 2 0 rfl rfl hi44 dX3_pointsFrom_44 ?_
              refine lv_ishl hx hb dX3_pointsFrom_45 ?_
              refine lv_ior hx hb dX3_pointsFrom_46 ?_
              refine lv_istore (lv' := [(6, .int (((1 : Int32) <<< ((c_one (v5_19).toNatClampNeg) &&& 31)) ||| ((1 : Int32) <<< ((c_other (v5_19).toNatClampNeg) &&& 31)))), (0, .ref b), (2, .int p2), (3, .int v3_19), (4, .int v4_7), (5, .int v5_19)]) hx hb dX3_pointsFrom_47 hl (Nat.le_of_ble_eq_true rfl) rfl (fun ls hl => ?_)
              refine lv_iload_n hx hb dX3_pointsFrom_49 rfl (lv_at hl 2 rfl) ?_
              refine lv_iload hx hb dX3_pointsFrom_50 (lv_at hl 5 rfl) ?_
              refine lv_ishr hx hb dX3_pointsFrom_52 ?_
              refine lv_iconst (v := (1 : Int32)) hx hb dX3_pointsFrom_53 (by decide) ?_
              refine lv_iand hx hb dX3_pointsFrom_54 ?_
              refine lv_if_eq (tgt := 70) hx hb dX3_pointsFrom_55 (by decide) (fun hc55 => ?_) (fun hc55 => ?_)
              · replace h := zi_t hc55 h
                refine lv_iinc (v := (v5_19 + (1 : Int32))) (lv' := [(5, .int (v5_19 + (1 : Int32))), (6, .int (((1 : Int32) <<< ((c_one (v5_19).toNatClampNeg) &&& 31)) ||| ((1 : Int32) <<< ((c_other (v5_19).toNatClampNeg) &&& 31)))), (0, .ref b), (2, .int p2), (3, .int v3_19), (4, .int v4_7)]) hx hb dX3_pointsFrom_70 hl (k := 5) rfl (by rfl) (Nat.le_of_ble_eq_true rfl) rfl (fun ls hl => ?_)
                refine lv_goto (tgt := 19) hx hb dX3_pointsFrom_73 (by decide) ?_
                exact ih19 v3_19 (v5_19 + (1 : Int32)) _ _ _ hP hD hS (lv_sub hl [2, 3, 4, 5, 0] rfl) h
              · replace h := zi_f hc55 h
                refine lv_iload_n hx hb dX3_pointsFrom_58 rfl (lv_at hl 3 rfl) ?_
                refine lv_iload hx hb dX3_pointsFrom_59 (lv_at hl 0 rfl) ?_
                refine lv_iand hx hb dX3_pointsFrom_61 ?_
                refine lv_if_eq (tgt := 70) hx hb dX3_pointsFrom_62 (by decide) (fun hc62 => ?_) (fun hc62 => ?_)
                · replace h := zi_t hc62 h
                  refine lv_iinc (v := (v5_19 + (1 : Int32))) (lv' := [(5, .int (v5_19 + (1 : Int32))), (6, .int (((1 : Int32) <<< ((c_one (v5_19).toNatClampNeg) &&& 31)) ||| ((1 : Int32) <<< ((c_other (v5_19).toNatClampNeg) &&& 31)))), (0, .ref b), (2, .int p2), (3, .int v3_19), (4, .int v4_7)]) hx hb dX3_pointsFrom_70 hl (k := 5) rfl (by rfl) (Nat.le_of_ble_eq_true rfl) rfl (fun ls hl => ?_)
                  refine lv_goto (tgt := 19) hx hb dX3_pointsFrom_73 (by decide) ?_
                  exact ih19 v3_19 (v5_19 + (1 : Int32)) _ _ _ hP hD hS (lv_sub hl [2, 3, 4, 5, 0] rfl) h
                · replace h := zi_f hc62 h
                  refine lv_iload_n hx hb dX3_pointsFrom_65 rfl (lv_at hl 3 rfl) ?_
                  refine lv_iload hx hb dX3_pointsFrom_66 (lv_at hl 0 rfl) ?_
                  refine lv_ior hx hb dX3_pointsFrom_68 ?_
                  refine lv_istore_n (lv' := [(3, .int (v3_19 ||| (((1 : Int32) <<< ((c_one (v5_19).toNatClampNeg) &&& 31)) ||| ((1 : Int32) <<< ((c_other (v5_19).toNatClampNeg) &&& 31))))), (6, .int (((1 : Int32) <<< ((c_one (v5_19).toNatClampNeg) &&& 31)) ||| ((1 : Int32) <<< ((c_other (v5_19).toNatClampNeg) &&& 31)))), (0, .ref b), (2, .int p2), (4, .int v4_7), (5, .int v5_19)]) hx hb dX3_pointsFrom_69 rfl hl (Nat.le_of_ble_eq_true rfl) rfl (fun ls hl => ?_)
                  refine lv_iinc (v := (v5_19 + (1 : Int32))) (lv' := [(5, .int (v5_19 + (1 : Int32))), (3, .int (v3_19 ||| (((1 : Int32) <<< ((c_one (v5_19).toNatClampNeg) &&& 31)) ||| ((1 : Int32) <<< ((c_other (v5_19).toNatClampNeg) &&& 31))))), (6, .int (((1 : Int32) <<< ((c_one (v5_19).toNatClampNeg) &&& 31)) ||| ((1 : Int32) <<< ((c_other (v5_19).toNatClampNeg) &&& 31)))), (0, .ref b), (2, .int p2), (4, .int v4_7)]) hx hb dX3_pointsFrom_70 hl (k := 5) rfl (by rfl) (Nat.le_of_ble_eq_true rfl) rfl (fun ls hl => ?_)
                  refine lv_goto (tgt := 19) hx hb dX3_pointsFrom_73 (by decide) ?_
                  exact ih19 (v3_19 ||| (((1 : Int32) <<< ((c_one (v5_19).toNatClampNeg) &&& 31)) ||| ((1 : Int32) <<< ((c_other (v5_19).toNatClampNeg) &&& 31)))) (v5_19 + (1 : Int32)) _ _ _ hP hD hS (lv_sub hl [3, 4, 1, 5, 0] rfl) h
        exact hL19 5000 v3_7 (0 : Int32) _ _ _ hP hD hS (lv_sub hl [1, 2, 3, 4, 0] rfl) h
  exact hL7 5000 ((1 : Int32) <<< (p1 &&& 31)) (1 : Int32) _ _ _ hP hD hS (lv_sub hl [2, 4, 1, 0] rfl) h

abbrev wdX3_isWay (cy : Nat → ClassId) (b b_one b_other b_ohms b_trees b_worth b_best : Nat) (c_points c_edges : Int32) (c_ohms c_one c_other : Nat → Int32) : va_W := [(b, .inr (3, [.int c_points, .int c_edges, .ref b_one, .ref b_other, .ref b_ohms, .ref b_trees, .ref b_worth, .ref b_best])), (b_ohms, .inl (cy 0, 8, .inl c_ohms)), (b_one, .inl (cy 0, 8, .inl c_one)), (b_other, .inl (cy 0, 8, .inl c_other))]
abbrev rmX3_isWay : Room := { frames := 1, cells := 0, slots := 0, locals := 26 }
theorem cdX3_isWay : (yX3_isWay).cls ≠ "java/lang/invoke/MethodHandle" ∧ (yX3_isWay).cls ≠ "java/lang/invoke/VarHandle" ∧ (parseMethodDescriptor (yX3_isWay).desc).map (fun d => d.parameters.length) = some 3 := by decide +kernel
def fX3_isWay (p1 p2 p3 c_points c_edges : Int32) (c_ohms c_one c_other : Nat → Int32) : Option (Int32) :=
  zb1 (fX3_closedEdges p3 c_edges c_ohms) (fun r4 => zb1 (fX3_pointsFrom p1 r4 c_points c_edges c_one c_other) (fun r7 => if ((r7 >>> (p2 &&& 31)) &&& (1 : Int32)) = 0 then (some ((0 : Int32))) else (some ((1 : Int32)))))
set_option maxHeartbeats 4000000 in
set_option maxRecDepth 100000 in
theorem mX3_isWay (l : Launch) (D : va_G) (cy : Nat → ClassId) (sz : Nat) (b b_one b_other b_ohms b_trees b_worth b_best : Nat) (c_points c_edges : Int32) (c_ohms c_one c_other : Nat → Int32) (p1 p2 p3 : Int32) (res : (Int32)) (h : fX3_isWay p1 p2 p3 c_points c_edges c_ohms c_one c_other = some res) : zMz l yX3_isWay wsX3_isWay rmX3_isWay [.ref b, .int p1, .int p2, .int p3] D cy (wdX3_isWay cy b b_one b_other b_ohms b_trees b_worth b_best c_points c_edges c_ohms c_one c_other) sz ((fun (o : (Int32)) => o) res) ((fun (o : (Int32)) => (wdX3_isWay cy b b_one b_other b_ohms b_trees b_worth b_best c_points c_edges c_ohms c_one c_other)) res) := by
  refine zOfz (res := res) (rf := (fun (o : (Int32)) => o)) (Wf := (fun (o : (Int32)) => (wdX3_isWay cy b b_one b_other b_ohms b_trees b_worth b_best c_points c_edges c_ohms c_one c_other))) (by decide +kernel) rfl (Nat.le_of_ble_eq_true rfl) ?_
  intro p e s m args below meth c A ls Q hx hb hml hts hown hP hK hD hA hS hl hret
  have hown : s.vm.findClass RX3 = some m.cls := hown
  have hl : lv_has ls 4 [(0, .ref b), (1, .int p1), (2, .int p2), (3, .int p3)] := hl
  refine lv_aload_n hx hb dX3_isWay_0 rfl (lv_at hl 0 rfl) ?_
  refine lv_iload_n hx hb dX3_isWay_1 rfl (lv_at hl 1 rfl) ?_
  refine lv_aload_n hx hb dX3_isWay_2 rfl (lv_at hl 0 rfl) ?_
  refine lv_iload_n hx hb dX3_isWay_3 rfl (lv_at hl 3 rfl) ?_
  obtain ⟨r4, hq4, h⟩ := zb1_s h
  refine zCi (r0 := r4) (w1 := (wdX3_closedEdges cy b b_one b_other b_ohms b_trees b_worth b_best c_points c_edges c_ohms)) (ws' := (wdX3_isWay cy b b_one b_other b_ohms b_trees b_worth b_best c_points c_edges c_ohms c_one c_other)) (va_runV (As := [.int p3]) (rest := [.int p1, .ref b]) ⟨hx, hb, hml, hown, hts⟩ (mX3_closedEdges l D cy s.heap.size b b_one b_other b_ohms b_trees b_worth b_best c_points c_edges c_ohms p3 (r4) hq4) (cwV 1 hts gX3_isWay_X3_closedEdges rfl rfl rfl ⟨rfl, cdX3_closedEdges⟩ ⟨Nat.le_of_ble_eq_true rfl, Nat.le_of_ble_eq_true rfl⟩) (zPV hK hP hD [0, 1] rfl rfl (q0 := 0) (ci := 3) rfl rfl rfl) rfl rfl hl.1 rfl (lv_room (Nat.le_of_ble_eq_true rfl)) dX3_isWay_4 ⟨Nat.zero_le _, Nat.zero_le _⟩) hP hD hS hA [0, 1] [2, 3] [2, 3, 0, 1] rfl rfl rfl rfl (fun H locs hP hD hS => ?_)
  obtain ⟨r7, hq7, h⟩ := zb1_s h
  refine zCi (r0 := r7) (w1 := (wdX3_pointsFrom cy b b_one b_other b_ohms b_trees b_worth b_best c_points c_edges c_one c_other)) (ws' := (wdX3_isWay cy b b_one b_other b_ohms b_trees b_worth b_best c_points c_edges c_ohms c_one c_other)) (va_runV (As := [.int p1, .int r4]) (rest := []) ⟨hx, hb, hml, hown, hts⟩ (mX3_pointsFrom l D cy H.size b b_one b_other b_ohms b_trees b_worth b_best c_points c_edges c_one c_other p1 r4 (r7) hq7) (cwV 2 hts gX3_isWay_X3_pointsFrom rfl rfl rfl ⟨rfl, cdX3_pointsFrom⟩ ⟨Nat.le_of_ble_eq_true rfl, Nat.le_of_ble_eq_true rfl⟩) (zPV hK hP hD [0, 2, 3] rfl rfl (q0 := 0) (ci := 3) rfl rfl rfl) rfl rfl hl.1 rfl (lv_room (Nat.le_of_ble_eq_true rfl)) dX3_isWay_7 ⟨Nat.zero_le _, Nat.zero_le _⟩) hP hD hS hA [0, 2, 3] [1] [1, 0, 2, 3] rfl rfl rfl rfl (fun H locs hP hD hS => ?_)
  refine lv_iload_n hx hb dX3_isWay_10 rfl (lv_at hl 2 rfl) ?_
  refine lv_ishr hx hb dX3_isWay_11 ?_
  refine lv_iconst (v := (1 : Int32)) hx hb dX3_isWay_12 (by decide) ?_
  refine lv_iand hx hb dX3_isWay_13 ?_
  refine lv_if_eq (tgt := 21) hx hb dX3_isWay_14 (by decide) (fun hc14 => ?_) (fun hc14 => ?_)
  · replace h := zi_t hc14 h
    refine lv_iconst (v := (0 : Int32)) hx hb dX3_isWay_21 (by decide) ?_
    exact hret (o := ((0 : Int32))) h (show narrow .boolean (.int (0 : Int32)) = .int (0 : Int32) from by decide) hP hD hS dX3_isWay_22
  · replace h := zi_f hc14 h
    refine lv_iconst (v := (1 : Int32)) hx hb dX3_isWay_17 (by decide) ?_
    refine lv_goto (tgt := 22) hx hb dX3_isWay_18 (by decide) ?_
    exact hret (o := ((1 : Int32))) h (show narrow .boolean (.int (1 : Int32)) = .int (1 : Int32) from by decide) hP hD hS dX3_isWay_22

theorem uX3_edgesOn_X3 : ∀ w ∈ u_ws RX3 TX3 8, w ∈ wsX3_edgesOn := fun w h => (List.mem_cons_of_mem _ (List.mem_append_right _ h))
abbrev wdX3_edgesOn (cy : Nat → ClassId) (b b_one b_other b_ohms b_trees b_worth b_best : Nat) (c_points c_edges : Int32) (c_one : Nat → Int32) : va_W := [(b, .inr (3, [.int c_points, .int c_edges, .ref b_one, .ref b_other, .ref b_ohms, .ref b_trees, .ref b_worth, .ref b_best])), (b_one, .inl (cy 0, 8, .inl c_one))]
abbrev rmX3_edgesOn : Room := { frames := 0, cells := 0, slots := 0, locals := 0 }
theorem cdX3_edgesOn : (yX3_edgesOn).cls ≠ "java/lang/invoke/MethodHandle" ∧ (yX3_edgesOn).cls ≠ "java/lang/invoke/VarHandle" ∧ (parseMethodDescriptor (yX3_edgesOn).desc).map (fun d => d.parameters.length) = some 2 := by decide +kernel
def fX3_edgesOn_L5 (c_edges : Int32) (c_one : Nat → Int32) (p1 p2 : Int32) : Nat → Int32 → Int32 → Option (Int32) :=
  zl2 (fun rec5 v3_5 v4_5 => if c_edges ≤ v4_5 then (some (v3_5)) else (if ((p2 >>> (v4_5 &&& 31)) &&& (1 : Int32)) = 0 then (rec5 v3_5 (v4_5 + (1 : Int32))) else (zg (zin v4_5 8) (if ((p1 >>> ((c_one (v4_5).toNatClampNeg) &&& 31)) &&& (1 : Int32)) = 0 then (rec5 v3_5 (v4_5 + (1 : Int32))) else (rec5 (v3_5 ||| ((1 : Int32) <<< (v4_5 &&& 31))) (v4_5 + (1 : Int32)))))))
def fX3_edgesOn (p1 p2 c_edges : Int32) (c_one : Nat → Int32) : Option (Int32) :=
  fX3_edgesOn_L5 c_edges c_one p1 p2 5000 (0 : Int32) (0 : Int32)
set_option maxHeartbeats 4000000 in
set_option maxRecDepth 100000 in
theorem mX3_edgesOn (l : Launch) (D : va_G) (cy : Nat → ClassId) (sz : Nat) (b b_one b_other b_ohms b_trees b_worth b_best : Nat) (c_points c_edges : Int32) (c_one : Nat → Int32) (p1 p2 : Int32) (res : (Int32)) (h : fX3_edgesOn p1 p2 c_edges c_one = some res) : zMi l yX3_edgesOn wsX3_edgesOn rmX3_edgesOn [.ref b, .int p1, .int p2] D cy (wdX3_edgesOn cy b b_one b_other b_ohms b_trees b_worth b_best c_points c_edges c_one) sz ((fun (o : (Int32)) => o) res) ((fun (o : (Int32)) => (wdX3_edgesOn cy b b_one b_other b_ohms b_trees b_worth b_best c_points c_edges c_one)) res) := by
  refine zOfi (res := res) (rf := (fun (o : (Int32)) => o)) (Wf := (fun (o : (Int32)) => (wdX3_edgesOn cy b b_one b_other b_ohms b_trees b_worth b_best c_points c_edges c_one))) (by decide +kernel) rfl (Nat.le_of_ble_eq_true rfl) ?_
  intro p e s m args below meth c A ls Q hx hb hml hts hown hP hK hD hA hS hl hret
  have hown : s.vm.findClass RX3 = some m.cls := hown
  have hl : lv_has ls 5 [(0, .ref b), (1, .int p1), (2, .int p2)] := hl
  refine lv_iconst (v := (0 : Int32)) hx hb dX3_edgesOn_0 (by decide) ?_
  refine lv_istore_n (lv' := [(3, .int (0 : Int32)), (0, .ref b), (1, .int p1), (2, .int p2)]) hx hb dX3_edgesOn_1 rfl hl (Nat.le_of_ble_eq_true rfl) rfl (fun ls hl => ?_)
  refine lv_iconst (v := (0 : Int32)) hx hb dX3_edgesOn_2 (by decide) ?_
  refine lv_istore (lv' := [(4, .int (0 : Int32)), (3, .int (0 : Int32)), (0, .ref b), (1, .int p1), (2, .int p2)]) hx hb dX3_edgesOn_3 hl (Nat.le_of_ble_eq_true rfl) rfl (fun ls hl => ?_)
  have hL5 : ∀ n5 : Nat, ∀ (v3_5 v4_5 : Int32) (H : Heap) (locs : List Loc) (ls : Array Slot), va_P D vwCl (wdX3_edgesOn cy b b_one b_other b_ohms b_trees b_worth b_best c_points c_edges c_one) H → va_D A (wdX3_edgesOn cy b b_one b_other b_ohms b_trees b_worth b_best c_points c_edges c_one) → va_S A s.heap H locs → lv_has ls 5 [(0, .ref b), (1, .int p1), (2, .int p2), (3, .int v3_5), (4, .int v4_5)] → fX3_edgesOn_L5 c_edges c_one p1 p2 n5 v3_5 v4_5 = some res → W p l e rmX3_edgesOn s m args below meth c H locs 0 0 Q (F0 m 5 ls []) := by
    intro n5
    induction n5 with
    | zero =>
      intro v3_5 v4_5 H locs ls hP hD hS hl h
      exact zl2_0 h
    | succ n5 ih5 =>
      intro v3_5 v4_5 H locs ls hP hD hS hl h
      replace h := zl2_s h
      refine lv_iload hx hb dX3_edgesOn_5 (lv_at hl 4 rfl) ?_
      refine lv_aload_n hx hb dX3_edgesOn_7 rfl (lv_at hl 0 rfl) ?_
      refine va_get (D := D) (ci := 3) (v := .int c_edges) (C := RX3) (T := TX3) (N := 8) hx hb hts uX3_edgesOn_X3 hown hK.1 hP 0 rfl rfl 1 (by decide) (hts (.fieldLink RX3 38 "WishedResistor$Mesh" "edges" "I") (List.mem_of_getElem? (i := 1) rfl)) (fun _ h9 => h9) rfl dX3_edgesOn_8 ?_
      refine lv_icmp_ge (tgt := 50) hx hb dX3_edgesOn_11 (by decide) (fun hc11 => ?_) (fun hc11 => ?_)
      · replace h := zi_t hc11 h
        refine lv_iload_n hx hb dX3_edgesOn_50 rfl (lv_at hl 3 rfl) ?_
        exact hret (o := (v3_5)) h hP hD hS dX3_edgesOn_51
      · replace h := zi_f hc11 h
        refine lv_iload_n hx hb dX3_edgesOn_14 rfl (lv_at hl 2 rfl) ?_
        refine lv_iload hx hb dX3_edgesOn_15 (lv_at hl 4 rfl) ?_
        refine lv_ishr hx hb dX3_edgesOn_17 ?_
        refine lv_iconst (v := (1 : Int32)) hx hb dX3_edgesOn_18 (by decide) ?_
        refine lv_iand hx hb dX3_edgesOn_19 ?_
        refine lv_if_eq (tgt := 44) hx hb dX3_edgesOn_20 (by decide) (fun hc20 => ?_) (fun hc20 => ?_)
        · replace h := zi_t hc20 h
          refine lv_iinc (v := (v4_5 + (1 : Int32))) (lv' := [(4, .int (v4_5 + (1 : Int32))), (0, .ref b), (1, .int p1), (2, .int p2), (3, .int v3_5)]) hx hb dX3_edgesOn_44 hl (k := 4) rfl (by rfl) (Nat.le_of_ble_eq_true rfl) rfl (fun ls hl => ?_)
          refine lv_goto (tgt := 5) hx hb dX3_edgesOn_47 (by decide) ?_
          exact ih5 v3_5 (v4_5 + (1 : Int32)) _ _ _ hP hD hS (lv_sub hl [1, 2, 3, 4, 0] rfl) h
        · replace h := zi_f hc20 h
          refine lv_iload_n hx hb dX3_edgesOn_23 rfl (lv_at hl 1 rfl) ?_
          refine lv_aload_n hx hb dX3_edgesOn_24 rfl (lv_at hl 0 rfl) ?_
          refine va_get (D := D) (ci := 3) (v := .ref b_one) (C := RX3) (T := TX3) (N := 8) hx hb hts uX3_edgesOn_X3 hown hK.1 hP 0 rfl rfl 2 (by decide) (hts (.fieldLink RX3 15 "WishedResistor$Mesh" "one" "[I") (List.mem_of_getElem? (i := 2) rfl)) (fun _ h9 => h9) rfl dX3_edgesOn_25 ?_
          refine lv_iload hx hb dX3_edgesOn_28 (lv_at hl 4 rfl) ?_
          obtain ⟨hi30, h⟩ := zg_s h
          refine va_iald hx hb hK.1 hP 1 0 rfl rfl hi30 dX3_edgesOn_30 ?_
          refine lv_ishr hx hb dX3_edgesOn_31 ?_
          refine lv_iconst (v := (1 : Int32)) hx hb dX3_edgesOn_32 (by decide) ?_
          refine lv_iand hx hb dX3_edgesOn_33 ?_
          refine lv_if_eq (tgt := 44) hx hb dX3_edgesOn_34 (by decide) (fun hc34 => ?_) (fun hc34 => ?_)
          · replace h := zi_t hc34 h
            refine lv_iinc (v := (v4_5 + (1 : Int32))) (lv' := [(4, .int (v4_5 + (1 : Int32))), (0, .ref b), (1, .int p1), (2, .int p2), (3, .int v3_5)]) hx hb dX3_edgesOn_44 hl (k := 4) rfl (by rfl) (Nat.le_of_ble_eq_true rfl) rfl (fun ls hl => ?_)
            refine lv_goto (tgt := 5) hx hb dX3_edgesOn_47 (by decide) ?_
            exact ih5 v3_5 (v4_5 + (1 : Int32)) _ _ _ hP hD hS (lv_sub hl [1, 2, 3, 4, 0] rfl) h
          · replace h := zi_f hc34 h
            refine lv_iload_n hx hb dX3_edgesOn_37 rfl (lv_at hl 3 rfl) ?_
            refine lv_iconst (v := (1 : Int32)) hx hb dX3_edgesOn_38 (by decide) ?_
            refine lv_iload hx hb dX3_edgesOn_39 (lv_at hl 4 rfl) ?_
            refine lv_ishl hx hb dX3_edgesOn_41 ?_
            refine lv_ior hx hb dX3_edgesOn_42 ?_
            refine lv_istore_n (lv' := [(3, .int (v3_5 ||| ((1 : Int32) <<< (v4_5 &&& 31)))), (0, .ref b), (1, .int p1), (2, .int p2), (4, .int v4_5)]) hx hb dX3_edgesOn_43 rfl hl (Nat.le_of_ble_eq_true rfl) rfl (fun ls hl => ?_)
            refine lv_iinc (v := (v4_5 + (1 : Int32))) (lv' := [(4, .int (v4_5 + (1 : Int32))), (3, .int (v3_5 ||| ((1 : Int32) <<< (v4_5 &&& 31)))), (0, .ref b), (1, .int p1), (2, .int p2)]) hx hb dX3_edgesOn_44 hl (k := 4) rfl (by rfl) (Nat.le_of_ble_eq_true rfl) rfl (fun ls hl => ?_)
            refine lv_goto (tgt := 5) hx hb dX3_edgesOn_47 (by decide) ?_
            exact ih5 (v3_5 ||| ((1 : Int32) <<< (v4_5 &&& 31))) (v4_5 + (1 : Int32)) _ _ _ hP hD hS (lv_sub hl [2, 3, 4, 1, 0] rfl) h
  exact hL5 5000 (0 : Int32) (0 : Int32) _ _ _ hP hD hS (lv_sub hl [2, 3, 4, 1, 0] rfl) h

theorem uX3_hang_X3 : ∀ w ∈ u_ws RX3 TX3 8, w ∈ wsX3_hang := fun w h => (List.mem_cons_of_mem _ (List.mem_append_right _ h))
abbrev wdX3_hang (cy : Nat → ClassId) (b b_one b_other b_ohms b_trees b_worth b_best : Nat) (c_points c_edges : Int32) (c_trees : Nat → Int32) : va_W := [(b, .inr (3, [.int c_points, .int c_edges, .ref b_one, .ref b_other, .ref b_ohms, .ref b_trees, .ref b_worth, .ref b_best])), (b_trees, .inl (cy 0, 6, .inl c_trees))]
abbrev rmX3_hang : Room := { frames := 0, cells := 0, slots := 0, locals := 0 }
theorem cdX3_hang : (yX3_hang).cls ≠ "java/lang/invoke/MethodHandle" ∧ (yX3_hang).cls ≠ "java/lang/invoke/VarHandle" ∧ (parseMethodDescriptor (yX3_hang).desc).map (fun d => d.parameters.length) = some 2 := by decide +kernel
def fX3_hang_L2 (p1 p2 : Int32) : Nat → Int32 → (Nat → Int32) → Option ((Nat → Int32)) :=
  zl2 (fun rec2 v3_2 c_trees_2 => if (6 : Int32) ≤ v3_2 then (some (c_trees_2)) else (zg (zin v3_2 6) (if (c_trees_2 (v3_2).toNatClampNeg) = p1 then (zg (zin v3_2 6) (rec2 (v3_2 + (1 : Int32)) (upd c_trees_2 (v3_2).toNatClampNeg p2))) else (rec2 (v3_2 + (1 : Int32)) c_trees_2))))
def fX3_hang (p1 p2 : Int32) (c_trees : Nat → Int32) : Option ((Nat → Int32)) :=
  fX3_hang_L2 p1 p2 5000 (0 : Int32) c_trees
set_option maxHeartbeats 4000000 in
set_option maxRecDepth 100000 in
theorem mX3_hang (l : Launch) (D : va_G) (cy : Nat → ClassId) (sz : Nat) (b b_one b_other b_ohms b_trees b_worth b_best : Nat) (c_points c_edges : Int32) (c_trees : Nat → Int32) (p1 p2 : Int32) (res : ((Nat → Int32))) (h : fX3_hang p1 p2 c_trees = some res) : zMv l yX3_hang wsX3_hang rmX3_hang [.ref b, .int p1, .int p2] D cy (wdX3_hang cy b b_one b_other b_ohms b_trees b_worth b_best c_points c_edges c_trees) sz  ((fun (o : ((Nat → Int32))) => (wdX3_hang cy b b_one b_other b_ohms b_trees b_worth b_best c_points c_edges (o))) res) := by
  refine zOfv (res := res) (Wf := (fun (o : ((Nat → Int32))) => (wdX3_hang cy b b_one b_other b_ohms b_trees b_worth b_best c_points c_edges (o)))) (by decide +kernel) rfl (Nat.le_of_ble_eq_true rfl) ?_
  intro p e s m args below meth c A ls Q hx hb hml hts hown hP hK hD hA hS hl hret
  have hown : s.vm.findClass RX3 = some m.cls := hown
  have hl : lv_has ls 4 [(0, .ref b), (1, .int p1), (2, .int p2)] := hl
  refine lv_iconst (v := (0 : Int32)) hx hb dX3_hang_0 (by decide) ?_
  refine lv_istore_n (lv' := [(3, .int (0 : Int32)), (0, .ref b), (1, .int p1), (2, .int p2)]) hx hb dX3_hang_1 rfl hl (Nat.le_of_ble_eq_true rfl) rfl (fun ls hl => ?_)
  have hL2 : ∀ n2 : Nat, ∀ (v3_2 : Int32) (c_trees_2 : Nat → Int32) (H : Heap) (locs : List Loc) (ls : Array Slot), va_P D vwCl (wdX3_hang cy b b_one b_other b_ohms b_trees b_worth b_best c_points c_edges c_trees_2) H → va_D A (wdX3_hang cy b b_one b_other b_ohms b_trees b_worth b_best c_points c_edges c_trees_2) → va_S A s.heap H locs → lv_has ls 4 [(0, .ref b), (1, .int p1), (2, .int p2), (3, .int v3_2)] → fX3_hang_L2 p1 p2 n2 v3_2 c_trees_2 = some res → W p l e rmX3_hang s m args below meth c H locs 0 0 Q (F0 m 2 ls []) := by
    intro n2
    induction n2 with
    | zero =>
      intro v3_2 c_trees_2 H locs ls hP hD hS hl h
      exact zl2_0 h
    | succ n2 ih2 =>
      intro v3_2 c_trees_2 H locs ls hP hD hS hl h
      replace h := zl2_s h
      refine lv_iload_n hx hb dX3_hang_2 rfl (lv_at hl 3 rfl) ?_
      refine lv_bipush (v := (6 : Int32)) hx hb dX3_hang_3 (by decide) ?_
      refine lv_icmp_ge (tgt := 31) hx hb dX3_hang_5 (by decide) (fun hc5 => ?_) (fun hc5 => ?_)
      · replace h := zi_t hc5 h
        exact hret (o := (c_trees_2)) h hP hD hS dX3_hang_31
      · replace h := zi_f hc5 h
        refine lv_aload_n hx hb dX3_hang_8 rfl (lv_at hl 0 rfl) ?_
        refine va_get (D := D) (ci := 3) (v := .ref b_trees) (C := RX3) (T := TX3) (N := 8) hx hb hts uX3_hang_X3 hown hK.1 hP 0 rfl rfl 5 (by decide) (hts (.fieldLink RX3 25 "WishedResistor$Mesh" "trees" "[I") (List.mem_of_getElem? (i := 1) rfl)) (fun _ h9 => h9) rfl dX3_hang_9 ?_
        refine lv_iload_n hx hb dX3_hang_12 rfl (lv_at hl 3 rfl) ?_
        obtain ⟨hi13, h⟩ := zg_s h
        refine va_iald hx hb hK.1 hP 1 0 rfl rfl hi13 dX3_hang_13 ?_
        refine lv_iload_n hx hb dX3_hang_14 rfl (lv_at hl 1 rfl) ?_
        refine lv_icmp_ne (tgt := 25) hx hb dX3_hang_15 (by decide) (fun hc15 => ?_) (fun hc15 => ?_)
        · replace h := zi_f hc15 h
          refine lv_iinc (v := (v3_2 + (1 : Int32))) (lv' := [(3, .int (v3_2 + (1 : Int32))), (0, .ref b), (1, .int p1), (2, .int p2)]) hx hb dX3_hang_25 hl (k := 3) rfl (by rfl) (Nat.le_of_ble_eq_true rfl) rfl (fun ls hl => ?_)
          refine lv_goto (tgt := 2) hx hb dX3_hang_28 (by decide) ?_
          exact ih2 (v3_2 + (1 : Int32)) c_trees_2 _ _ _ hP hD hS (lv_sub hl [1, 2, 3, 0] rfl) h
        · replace h := zi_t hc15 h
          refine lv_aload_n hx hb dX3_hang_18 rfl (lv_at hl 0 rfl) ?_
          refine va_get (D := D) (ci := 3) (v := .ref b_trees) (C := RX3) (T := TX3) (N := 8) hx hb hts uX3_hang_X3 hown hK.1 hP 0 rfl rfl 5 (by decide) (hts (.fieldLink RX3 25 "WishedResistor$Mesh" "trees" "[I") (List.mem_of_getElem? (i := 1) rfl)) (fun _ h9 => h9) rfl dX3_hang_19 ?_
          refine lv_iload_n hx hb dX3_hang_22 rfl (lv_at hl 3 rfl) ?_
          refine lv_iload_n hx hb dX3_hang_23 rfl (lv_at hl 2 rfl) ?_
          obtain ⟨hi24, h⟩ := zg_s h
          refine va_iast hx hb hK.1 hP hD hS 1 0 rfl rfl hi24 dX3_hang_24 (fun H locs hP hD hS => ?_)
          have hP : va_P D vwCl (wdX3_hang cy b b_one b_other b_ohms b_trees b_worth b_best c_points c_edges (upd c_trees_2 (v3_2).toNatClampNeg p2)) H := hP
          have hD : va_D A (wdX3_hang cy b b_one b_other b_ohms b_trees b_worth b_best c_points c_edges (upd c_trees_2 (v3_2).toNatClampNeg p2)) := hD
          refine lv_iinc (v := (v3_2 + (1 : Int32))) (lv' := [(3, .int (v3_2 + (1 : Int32))), (0, .ref b), (1, .int p1), (2, .int p2)]) hx hb dX3_hang_25 hl (k := 3) rfl (by rfl) (Nat.le_of_ble_eq_true rfl) rfl (fun ls hl => ?_)
          refine lv_goto (tgt := 2) hx hb dX3_hang_28 (by decide) ?_
          exact ih2 (v3_2 + (1 : Int32)) (upd c_trees_2 (v3_2).toNatClampNeg p2) _ _ _ hP hD hS (lv_sub hl [1, 2, 3, 0] rfl) h
  exact hL2 5000 (0 : Int32) c_trees _ _ _ hP hD hS (lv_sub hl [1, 2, 3, 0] rfl) h

theorem uX3_isForest_X3 : ∀ w ∈ u_ws RX3 TX3 8, w ∈ wsX3_isForest := fun w h => (List.mem_cons_of_mem _ (List.mem_append_right _ h))
abbrev wdX3_isForest (cy : Nat → ClassId) (b b_one b_other b_ohms b_trees b_worth b_best : Nat) (c_points c_edges : Int32) (c_trees c_one c_other : Nat → Int32) : va_W := [(b, .inr (3, [.int c_points, .int c_edges, .ref b_one, .ref b_other, .ref b_ohms, .ref b_trees, .ref b_worth, .ref b_best])), (b_trees, .inl (cy 0, 6, .inl c_trees)), (b_one, .inl (cy 0, 8, .inl c_one)), (b_other, .inl (cy 0, 8, .inl c_other))]
abbrev rmX3_isForest : Room := { frames := 1, cells := 0, slots := 0, locals := 23 }
theorem cdX3_isForest : (yX3_isForest).cls ≠ "java/lang/invoke/MethodHandle" ∧ (yX3_isForest).cls ≠ "java/lang/invoke/VarHandle" ∧ (parseMethodDescriptor (yX3_isForest).desc).map (fun d => d.parameters.length) = some 1 := by decide +kernel
def fX3_isForest_L23 (c_edges : Int32) (c_one c_other : Nat → Int32) (p1 : Int32) : Nat → Int32 → (Nat → Int32) → Option (Int32 × (Nat → Int32)) :=
  zl2 (fun rec23 v2_23 c_trees_23 => if c_edges ≤ v2_23 then (some ((1 : Int32), c_trees_23)) else (if ((p1 >>> (v2_23 &&& 31)) &&& (1 : Int32)) = 0 then (rec23 (v2_23 + (1 : Int32)) c_trees_23) else (zg (zin v2_23 8) (zg (zin (c_one (v2_23).toNatClampNeg) 6) (zg (zin v2_23 8) (zg (zin (c_other (v2_23).toNatClampNeg) 6) (if (c_trees_23 ((c_one (v2_23).toNatClampNeg)).toNatClampNeg) = (c_trees_23 ((c_other (v2_23).toNatClampNeg)).toNatClampNeg) then (some ((0 : Int32), c_trees_23)) else (zb1 (fX3_hang (c_trees_23 ((c_other (v2_23).toNatClampNeg)).toNatClampNeg) (c_trees_23 ((c_one (v2_23).toNatClampNeg)).toNatClampNeg) c_trees_23) (fun c_trees_r76 => rec23 (v2_23 + (1 : Int32)) c_trees_r76)))))))))
def fX3_isForest_J21 (c_edges : Int32) (c_one c_other : Nat → Int32) (p1 : Int32) (c_trees_21 : Nat → Int32) : Option (Int32 × (Nat → Int32)) :=
  fX3_isForest_L23 c_edges c_one c_other p1 5000 (0 : Int32) c_trees_21
def fX3_isForest_L2 (k21_2 : (Nat → Int32) → Option (Int32 × (Nat → Int32))) : Nat → Int32 → (Nat → Int32) → Option (Int32 × (Nat → Int32)) :=
  zl2 (fun rec2 v2_2 c_trees_2 => if (6 : Int32) ≤ v2_2 then (k21_2 c_trees_2) else (zg (zin v2_2 6) (rec2 (v2_2 + (1 : Int32)) (upd c_trees_2 (v2_2).toNatClampNeg v2_2))))
def fX3_isForest (p1 c_edges : Int32) (c_trees c_one c_other : Nat → Int32) : Option (Int32 × (Nat → Int32)) :=
  fX3_isForest_L2 (fX3_isForest_J21 c_edges c_one c_other p1) 5000 (0 : Int32) c_trees
set_option maxHeartbeats 4000000 in
set_option maxRecDepth 100000 in
theorem mX3_isForest (l : Launch) (D : va_G) (cy : Nat → ClassId) (sz : Nat) (b b_one b_other b_ohms b_trees b_worth b_best : Nat) (c_points c_edges : Int32) (c_trees c_one c_other : Nat → Int32) (p1 : Int32) (res : (Int32 × (Nat → Int32))) (h : fX3_isForest p1 c_edges c_trees c_one c_other = some res) : zMz l yX3_isForest wsX3_isForest rmX3_isForest [.ref b, .int p1] D cy (wdX3_isForest cy b b_one b_other b_ohms b_trees b_worth b_best c_points c_edges c_trees c_one c_other) sz ((fun (o : (Int32 × (Nat → Int32))) => o.1) res) ((fun (o : (Int32 × (Nat → Int32))) => (wdX3_isForest cy b b_one b_other b_ohms b_trees b_worth b_best c_points c_edges (o.2) c_one c_other)) res) := by
  refine zOfz (res := res) (rf := (fun (o : (Int32 × (Nat → Int32))) => o.1)) (Wf := (fun (o : (Int32 × (Nat → Int32))) => (wdX3_isForest cy b b_one b_other b_ohms b_trees b_worth b_best c_points c_edges (o.2) c_one c_other))) (by decide +kernel) rfl (Nat.le_of_ble_eq_true rfl) ?_
  intro p e s m args below meth c A ls Q hx hb hml hts hown hP hK hD hA hS hl hret
  have hown : s.vm.findClass RX3 = some m.cls := hown
  have hl : lv_has ls 5 [(0, .ref b), (1, .int p1)] := hl
  refine lv_iconst (v := (0 : Int32)) hx hb dX3_isForest_0 (by decide) ?_
  refine lv_istore_n (lv' := [(2, .int (0 : Int32)), (0, .ref b), (1, .int p1)]) hx hb dX3_isForest_1 rfl hl (Nat.le_of_ble_eq_true rfl) rfl (fun ls hl => ?_)
  have hJ21 : ∀ (c_trees_21 : Nat → Int32) (H : Heap) (locs : List Loc) (ls : Array Slot), va_P D vwCl (wdX3_isForest cy b b_one b_other b_ohms b_trees b_worth b_best c_points c_edges c_trees_21 c_one c_other) H → va_D A (wdX3_isForest cy b b_one b_other b_ohms b_trees b_worth b_best c_points c_edges c_trees_21 c_one c_other) → va_S A s.heap H locs → lv_has ls 5 [(0, .ref b), (1, .int p1)] → fX3_isForest_J21 c_edges c_one c_other p1 c_trees_21 = some res → W p l e rmX3_isForest s m args below meth c H locs 0 0 Q (F0 m 21 ls []) := by
    intro c_trees_21 H locs ls hP hD hS hl h
    refine lv_iconst (v := (0 : Int32)) hx hb dX3_isForest_21 (by decide) ?_
    refine lv_istore_n (lv' := [(2, .int (0 : Int32)), (0, .ref b), (1, .int p1)]) hx hb dX3_isForest_22 rfl hl (Nat.le_of_ble_eq_true rfl) rfl (fun ls hl => ?_)
    have hL23 : ∀ n23 : Nat, ∀ (v2_23 : Int32) (c_trees_23 : Nat → Int32) (H : Heap) (locs : List Loc) (ls : Array Slot), va_P D vwCl (wdX3_isForest cy b b_one b_other b_ohms b_trees b_worth b_best c_points c_edges c_trees_23 c_one c_other) H → va_D A (wdX3_isForest cy b b_one b_other b_ohms b_trees b_worth b_best c_points c_edges c_trees_23 c_one c_other) → va_S A s.heap H locs → lv_has ls 5 [(0, .ref b), (1, .int p1), (2, .int v2_23)] → fX3_isForest_L23 c_edges c_one c_other p1 n23 v2_23 c_trees_23 = some res → W p l e rmX3_isForest s m args below meth c H locs 0 0 Q (F0 m 23 ls []) := by
      intro n23
      induction n23 with
      | zero =>
        intro v2_23 c_trees_23 H locs ls hP hD hS hl h
        exact zl2_0 h
      | succ n23 ih23 =>
        intro v2_23 c_trees_23 H locs ls hP hD hS hl h
        replace h := zl2_s h
        refine lv_iload_n hx hb dX3_isForest_23 rfl (lv_at hl 2 rfl) ?_
        refine lv_aload_n hx hb dX3_isForest_24 rfl (lv_at hl 0 rfl) ?_
        refine va_get (D := D) (ci := 3) (v := .int c_edges) (C := RX3) (T := TX3) (N := 8) hx hb hts uX3_isForest_X3 hown hK.1 hP 0 rfl rfl 1 (by decide) (hts (.fieldLink RX3 38 "WishedResistor$Mesh" "edges" "I") (List.mem_of_getElem? (i := 2) rfl)) (fun _ h9 => h9) rfl dX3_isForest_25 ?_
        refine lv_icmp_ge (tgt := 85) hx hb dX3_isForest_28 (by decide) (fun hc28 => ?_) (fun hc28 => ?_)
        · replace h := zi_t hc28 h
          refine lv_iconst (v := (1 : Int32)) hx hb dX3_isForest_85 (by decide) ?_
          exact hret (o := ((1 : Int32), c_trees_23)) h (show narrow .boolean (.int (1 : Int32)) = .int (1 : Int32) from by decide) hP hD hS dX3_isForest_86
        · replace h := zi_f hc28 h
          refine lv_iload_n hx hb dX3_isForest_31 rfl (lv_at hl 1 rfl) ?_
          refine lv_iload_n hx hb dX3_isForest_32 rfl (lv_at hl 2 rfl) ?_
          refine lv_ishr hx hb dX3_isForest_33 ?_
          refine lv_iconst (v := (1 : Int32)) hx hb dX3_isForest_34 (by decide) ?_
          refine lv_iand hx hb dX3_isForest_35 ?_
          refine lv_if_eq (tgt := 79) hx hb dX3_isForest_36 (by decide) (fun hc36 => ?_) (fun hc36 => ?_)
          · replace h := zi_t hc36 h
            refine lv_iinc (v := (v2_23 + (1 : Int32))) (lv' := [(2, .int (v2_23 + (1 : Int32))), (0, .ref b), (1, .int p1)]) hx hb dX3_isForest_79 hl (k := 2) rfl (by rfl) (Nat.le_of_ble_eq_true rfl) rfl (fun ls hl => ?_)
            refine lv_goto (tgt := 23) hx hb dX3_isForest_82 (by decide) ?_
            exact ih23 (v2_23 + (1 : Int32)) c_trees_23 _ _ _ hP hD hS (lv_sub hl [1, 2, 0] rfl) h
          · replace h := zi_f hc36 h
            refine lv_aload_n hx hb dX3_isForest_39 rfl (lv_at hl 0 rfl) ?_
            refine va_get (D := D) (ci := 3) (v := .ref b_trees) (C := RX3) (T := TX3) (N := 8) hx hb hts uX3_isForest_X3 hown hK.1 hP 0 rfl rfl 5 (by decide) (hts (.fieldLink RX3 25 "WishedResistor$Mesh" "trees" "[I") (List.mem_of_getElem? (i := 1) rfl)) (fun _ h9 => h9) rfl dX3_isForest_40 ?_
            refine lv_aload_n hx hb dX3_isForest_43 rfl (lv_at hl 0 rfl) ?_
            refine va_get (D := D) (ci := 3) (v := .ref b_one) (C := RX3) (T := TX3) (N := 8) hx hb hts uX3_isForest_X3 hown hK.1 hP 0 rfl rfl 2 (by decide) (hts (.fieldLink RX3 15 "WishedResistor$Mesh" "one" "[I") (List.mem_of_getElem? (i := 3) rfl)) (fun _ h9 => h9) rfl dX3_isForest_44 ?_
            refine lv_iload_n hx hb dX3_isForest_47 rfl (lv_at hl 2 rfl) ?_
            obtain ⟨hi48, h⟩ := zg_s h
            refine va_iald hx hb hK.1 hP 2 0 rfl rfl hi48 dX3_isForest_48 ?_
            obtain ⟨hi49, h⟩ := zg_s h
            refine va_iald hx hb hK.1 hP 1 0 rfl rfl hi49 dX3_isForest_49 ?_
            refine lv_istore_n (lv' := [(3, .int (c_trees_23 ((c_one (v2_23).toNatClampNeg)).toNatClampNeg)), (0, .ref b), (1, .int p1), (2, .int v2_23)]) hx hb dX3_isForest_50 rfl hl (Nat.le_of_ble_eq_true rfl) rfl (fun ls hl => ?_)
            refine lv_aload_n hx hb dX3_isForest_51 rfl (lv_at hl 1 rfl) ?_
            refine va_get (D := D) (ci := 3) (v := .ref b_trees) (C := RX3) (T := TX3) (N := 8) hx hb hts uX3_isForest_X3 hown hK.1 hP 0 rfl rfl 5 (by decide) (hts (.fieldLink RX3 25 "WishedResistor$Mesh" "trees" "[I") (List.mem_of_getElem? (i := 1) rfl)) (fun _ h9 => h9) rfl dX3_isForest_52 ?_
            refine lv_aload_n hx hb dX3_isForest_55 rfl (lv_at hl 1 rfl) ?_
            refine va_get (D := D) (ci := 3) (v := .ref b_other) (C := RX3) (T := TX3) (N := 8) hx hb hts uX3_isForest_X3 hown hK.1 hP 0 rfl rfl 3 (by decide) (hts (.fieldLink RX3 19 "WishedResistor$Mesh" "other" "[I") (List.mem_of_getElem? (i := 4) rfl)) (fun _ h9 => h9) rfl dX3_isForest_56 ?_
            refine lv_iload_n hx hb dX3_isForest_59 rfl (lv_at hl 3 rfl) ?_
            obtain ⟨hi60, h⟩ := zg_s h
            refine va_iald hx hb hK.1 hP 3 0 rfl rfl hi60 dX3_isForest_60 ?_
            obtain ⟨hi61, h⟩ := zg_s h
            refine va_iald hx hb hK.1 hP 1 0 rfl rfl hi61 dX3_isForest_61 ?_
            refine lv_istore (lv' := [(4, .int (c_trees_23 ((c_other (v2_23).toNatClampNeg)).toNatClampNeg)), (3, .int (c_trees_23 ((c_one (v2_23).toNatClampNeg)).toNatClampNeg)), (0, .ref b), (1, .int p1), (2, .int v2_23)]) hx hb dX3_isForest_62 hl (Nat.le_of_ble_eq_true rfl) rfl (fun ls hl => ?_)
            refine lv_iload_n hx hb dX3_isForest_64 rfl (lv_at hl 1 rfl) ?_
            refine lv_iload hx hb dX3_isForest_65 (lv_at hl 0 rfl) ?_
            refine lv_icmp_ne (tgt := 72) hx hb dX3_isForest_67 (by decide) (fun hc67 => ?_) (fun hc67 => ?_)
            · replace h := zi_f hc67 h
              refine lv_aload_n hx hb dX3_isForest_72 rfl (lv_at hl 2 rfl) ?_
              refine lv_iload hx hb dX3_isForest_73 (lv_at hl 0 rfl) ?_
              refine lv_iload_n hx hb dX3_isForest_75 rfl (lv_at hl 1 rfl) ?_
              obtain ⟨c_trees_r76, hq76, h⟩ := zb1_s h
              refine zCv (w1 := (wdX3_hang cy b b_one b_other b_ohms b_trees b_worth b_best c_points c_edges c_trees_r76)) (ws' := (wdX3_isForest cy b b_one b_other b_ohms b_trees b_worth b_best c_points c_edges c_trees_r76 c_one c_other)) (va_runV (As := [.int (c_trees_23 ((c_other (v2_23).toNatClampNeg)).toNatClampNeg), .int (c_trees_23 ((c_one (v2_23).toNatClampNeg)).toNatClampNeg)]) (rest := []) ⟨hx, hb, hml, hown, hts⟩ (mX3_hang l D cy H.size b b_one b_other b_ohms b_trees b_worth b_best c_points c_edges c_trees_23 (c_trees_23 ((c_other (v2_23).toNatClampNeg)).toNatClampNeg) (c_trees_23 ((c_one (v2_23).toNatClampNeg)).toNatClampNeg) (c_trees_r76) hq76) (cwV 2 hts gX3_isForest_X3_hang rfl rfl rfl ⟨rfl, cdX3_hang⟩ ⟨Nat.le_of_ble_eq_true rfl, Nat.le_of_ble_eq_true rfl⟩) (zPV hK hP hD [0, 1] rfl rfl (q0 := 0) (ci := 3) rfl rfl rfl) rfl rfl hl.1 rfl (lv_room (Nat.le_of_ble_eq_true rfl)) dX3_isForest_76 ⟨Nat.zero_le _, Nat.zero_le _⟩) hP hD hS hA [0, 1] [2, 3] [2, 3, 0, 1] rfl rfl rfl rfl (fun H locs hP hD hS => ?_)
              refine lv_iinc (v := (v2_23 + (1 : Int32))) (lv' := [(2, .int (v2_23 + (1 : Int32))), (4, .int (c_trees_23 ((c_other (v2_23).toNatClampNeg)).toNatClampNeg)), (3, .int (c_trees_23 ((c_one (v2_23).toNatClampNeg)).toNatClampNeg)), (0, .ref b), (1, .int p1)]) hx hb dX3_isForest_79 hl (k := 4) rfl (by rfl) (Nat.le_of_ble_eq_true rfl) rfl (fun ls hl => ?_)
              refine lv_goto (tgt := 23) hx hb dX3_isForest_82 (by decide) ?_
              exact ih23 (v2_23 + (1 : Int32)) c_trees_r76 _ _ _ hP hD hS (lv_sub hl [3, 4, 0] rfl) h
            · replace h := zi_t hc67 h
              refine lv_iconst (v := (0 : Int32)) hx hb dX3_isForest_70 (by decide) ?_
              exact hret (o := ((0 : Int32), c_trees_23)) h (show narrow .boolean (.int (0 : Int32)) = .int (0 : Int32) from by decide) hP hD hS dX3_isForest_71
    exact hL23 5000 (0 : Int32) c_trees_21 _ _ _ hP hD hS (lv_sub hl [1, 2, 0] rfl) h
  have hL2 : ∀ n2 : Nat, ∀ (v2_2 : Int32) (c_trees_2 : Nat → Int32) (H : Heap) (locs : List Loc) (ls : Array Slot), va_P D vwCl (wdX3_isForest cy b b_one b_other b_ohms b_trees b_worth b_best c_points c_edges c_trees_2 c_one c_other) H → va_D A (wdX3_isForest cy b b_one b_other b_ohms b_trees b_worth b_best c_points c_edges c_trees_2 c_one c_other) → va_S A s.heap H locs → lv_has ls 5 [(0, .ref b), (1, .int p1), (2, .int v2_2)] → fX3_isForest_L2 (fX3_isForest_J21 c_edges c_one c_other p1) n2 v2_2 c_trees_2 = some res → W p l e rmX3_isForest s m args below meth c H locs 0 0 Q (F0 m 2 ls []) := by
    intro n2
    induction n2 with
    | zero =>
      intro v2_2 c_trees_2 H locs ls hP hD hS hl h
      exact zl2_0 h
    | succ n2 ih2 =>
      intro v2_2 c_trees_2 H locs ls hP hD hS hl h
      replace h := zl2_s h
      refine lv_iload_n hx hb dX3_isForest_2 rfl (lv_at hl 2 rfl) ?_
      refine lv_bipush (v := (6 : Int32)) hx hb dX3_isForest_3 (by decide) ?_
      refine lv_icmp_ge (tgt := 21) hx hb dX3_isForest_5 (by decide) (fun hc5 => ?_) (fun hc5 => ?_)
      · replace h := zi_t hc5 h
        exact hJ21 c_trees_2 _ _ _ hP hD hS (lv_sub hl [0, 1] rfl) h
      · replace h := zi_f hc5 h
        refine lv_aload_n hx hb dX3_isForest_8 rfl (lv_at hl 0 rfl) ?_
        refine va_get (D := D) (ci := 3) (v := .ref b_trees) (C := RX3) (T := TX3) (N := 8) hx hb hts uX3_isForest_X3 hown hK.1 hP 0 rfl rfl 5 (by decide) (hts (.fieldLink RX3 25 "WishedResistor$Mesh" "trees" "[I") (List.mem_of_getElem? (i := 1) rfl)) (fun _ h9 => h9) rfl dX3_isForest_9 ?_
        refine lv_iload_n hx hb dX3_isForest_12 rfl (lv_at hl 2 rfl) ?_
        refine lv_iload_n hx hb dX3_isForest_13 rfl (lv_at hl 2 rfl) ?_
        obtain ⟨hi14, h⟩ := zg_s h
        refine va_iast hx hb hK.1 hP hD hS 1 0 rfl rfl hi14 dX3_isForest_14 (fun H locs hP hD hS => ?_)
        have hP : va_P D vwCl (wdX3_isForest cy b b_one b_other b_ohms b_trees b_worth b_best c_points c_edges (upd c_trees_2 (v2_2).toNatClampNeg v2_2) c_one c_other) H := hP
        have hD : va_D A (wdX3_isForest cy b b_one b_other b_ohms b_trees b_worth b_best c_points c_edges (upd c_trees_2 (v2_2).toNatClampNeg v2_2) c_one c_other) := hD
        refine lv_iinc (v := (v2_2 + (1 : Int32))) (lv' := [(2, .int (v2_2 + (1 : Int32))), (0, .ref b), (1, .int p1)]) hx hb dX3_isForest_15 hl (k := 2) rfl (by rfl) (Nat.le_of_ble_eq_true rfl) rfl (fun ls hl => ?_)
        refine lv_goto (tgt := 2) hx hb dX3_isForest_18 (by decide) ?_
        exact ih2 (v2_2 + (1 : Int32)) (upd c_trees_2 (v2_2).toNatClampNeg v2_2) _ _ _ hP hD hS (lv_sub hl [1, 2, 0] rfl) h
  exact hL2 5000 (0 : Int32) c_trees _ _ _ hP hD hS (lv_sub hl [1, 2, 0] rfl) h

theorem uX3_ohmsOf_X3 : ∀ w ∈ u_ws RX3 TX3 8, w ∈ wsX3_ohmsOf := fun w h => (List.mem_cons_of_mem _ (List.mem_append_right _ h))
abbrev wdX3_ohmsOf (cy : Nat → ClassId) (b b_one b_other b_ohms b_trees b_worth b_best : Nat) (c_points c_edges : Int32) (c_ohms : Nat → Int32) : va_W := [(b, .inr (3, [.int c_points, .int c_edges, .ref b_one, .ref b_other, .ref b_ohms, .ref b_trees, .ref b_worth, .ref b_best])), (b_ohms, .inl (cy 0, 8, .inl c_ohms))]
abbrev rmX3_ohmsOf : Room := { frames := 0, cells := 0, slots := 0, locals := 0 }
theorem cdX3_ohmsOf : (yX3_ohmsOf).cls ≠ "java/lang/invoke/MethodHandle" ∧ (yX3_ohmsOf).cls ≠ "java/lang/invoke/VarHandle" ∧ (parseMethodDescriptor (yX3_ohmsOf).desc).map (fun d => d.parameters.length) = some 1 := by decide +kernel
def fX3_ohmsOf_L5 (c_edges : Int32) (c_ohms : Nat → Int32) (p1 : Int32) : Nat → Int64 → Int32 → Option (Int64) :=
  zl2 (fun rec5 v2_5 v4_5 => if c_edges ≤ v4_5 then (some (v2_5)) else (if ((p1 >>> (v4_5 &&& 31)) &&& (1 : Int32)) = 0 then (rec5 v2_5 (v4_5 + (1 : Int32))) else (zg (zin v4_5 8) (rec5 (v2_5 * (((c_ohms (v4_5).toNatClampNeg)).toInt64)) (v4_5 + (1 : Int32))))))
def fX3_ohmsOf (p1 c_edges : Int32) (c_ohms : Nat → Int32) : Option (Int64) :=
  fX3_ohmsOf_L5 c_edges c_ohms p1 5000 (1 : Int64) (0 : Int32)
set_option maxHeartbeats 4000000 in
set_option maxRecDepth 100000 in
theorem mX3_ohmsOf (l : Launch) (D : va_G) (cy : Nat → ClassId) (sz : Nat) (b b_one b_other b_ohms b_trees b_worth b_best : Nat) (c_points c_edges : Int32) (c_ohms : Nat → Int32) (p1 : Int32) (res : (Int64)) (h : fX3_ohmsOf p1 c_edges c_ohms = some res) : zMl l yX3_ohmsOf wsX3_ohmsOf rmX3_ohmsOf [.ref b, .int p1] D cy (wdX3_ohmsOf cy b b_one b_other b_ohms b_trees b_worth b_best c_points c_edges c_ohms) sz ((fun (o : (Int64)) => o) res) ((fun (o : (Int64)) => (wdX3_ohmsOf cy b b_one b_other b_ohms b_trees b_worth b_best c_points c_edges c_ohms)) res) := by
  refine zOfl (res := res) (rf := (fun (o : (Int64)) => o)) (Wf := (fun (o : (Int64)) => (wdX3_ohmsOf cy b b_one b_other b_ohms b_trees b_worth b_best c_points c_edges c_ohms))) (by decide +kernel) rfl (Nat.le_of_ble_eq_true rfl) ?_
  intro p e s m args below meth c A ls Q hx hb hml hts hown hP hK hD hA hS hl hret
  have hown : s.vm.findClass RX3 = some m.cls := hown
  have hl : lv_has ls 5 [(0, .ref b), (1, .int p1)] := hl
  refine lv_lconst (v := (1 : Int64)) hx hb dX3_ohmsOf_0 (by decide) ?_
  refine lv_lstore_n (lv' := [(2, .long (1 : Int64)), (0, .ref b), (1, .int p1)]) hx hb dX3_ohmsOf_1 rfl hl (Nat.le_of_ble_eq_true rfl) rfl (fun ls hl => ?_)
  refine lv_iconst (v := (0 : Int32)) hx hb dX3_ohmsOf_2 (by decide) ?_
  refine lv_istore (lv' := [(4, .int (0 : Int32)), (2, .long (1 : Int64)), (0, .ref b), (1, .int p1)]) hx hb dX3_ohmsOf_3 hl (Nat.le_of_ble_eq_true rfl) rfl (fun ls hl => ?_)
  have hL5 : ∀ n5 : Nat, ∀ (v2_5 : Int64) (v4_5 : Int32) (H : Heap) (locs : List Loc) (ls : Array Slot), va_P D vwCl (wdX3_ohmsOf cy b b_one b_other b_ohms b_trees b_worth b_best c_points c_edges c_ohms) H → va_D A (wdX3_ohmsOf cy b b_one b_other b_ohms b_trees b_worth b_best c_points c_edges c_ohms) → va_S A s.heap H locs → lv_has ls 5 [(0, .ref b), (1, .int p1), (2, .long v2_5), (4, .int v4_5)] → fX3_ohmsOf_L5 c_edges c_ohms p1 n5 v2_5 v4_5 = some res → W p l e rmX3_ohmsOf s m args below meth c H locs 0 0 Q (F0 m 5 ls []) := by
    intro n5
    induction n5 with
    | zero =>
      intro v2_5 v4_5 H locs ls hP hD hS hl h
      exact zl2_0 h
    | succ n5 ih5 =>
      intro v2_5 v4_5 H locs ls hP hD hS hl h
      replace h := zl2_s h
      refine lv_iload hx hb dX3_ohmsOf_5 (lv_at hl 3 rfl) ?_
      refine lv_aload_n hx hb dX3_ohmsOf_7 rfl (lv_at hl 0 rfl) ?_
      refine va_get (D := D) (ci := 3) (v := .int c_edges) (C := RX3) (T := TX3) (N := 8) hx hb hts uX3_ohmsOf_X3 hown hK.1 hP 0 rfl rfl 1 (by decide) (hts (.fieldLink RX3 38 "WishedResistor$Mesh" "edges" "I") (List.mem_of_getElem? (i := 1) rfl)) (fun _ h9 => h9) rfl dX3_ohmsOf_8 ?_
      refine lv_icmp_ge (tgt := 40) hx hb dX3_ohmsOf_11 (by decide) (fun hc11 => ?_) (fun hc11 => ?_)
      · replace h := zi_t hc11 h
        refine lv_lload_n hx hb dX3_ohmsOf_40 rfl (lv_at hl 2 rfl) ?_
        exact hret (o := (v2_5)) h hP hD hS dX3_ohmsOf_41
      · replace h := zi_f hc11 h
        refine lv_iload_n hx hb dX3_ohmsOf_14 rfl (lv_at hl 1 rfl) ?_
        refine lv_iload hx hb dX3_ohmsOf_15 (lv_at hl 3 rfl) ?_
        refine lv_ishr hx hb dX3_ohmsOf_17 ?_
        refine lv_iconst (v := (1 : Int32)) hx hb dX3_ohmsOf_18 (by decide) ?_
        refine lv_iand hx hb dX3_ohmsOf_19 ?_
        refine lv_if_eq (tgt := 34) hx hb dX3_ohmsOf_20 (by decide) (fun hc20 => ?_) (fun hc20 => ?_)
        · replace h := zi_t hc20 h
          refine lv_iinc (v := (v4_5 + (1 : Int32))) (lv' := [(4, .int (v4_5 + (1 : Int32))), (0, .ref b), (1, .int p1), (2, .long v2_5)]) hx hb dX3_ohmsOf_34 hl (k := 3) rfl (by rfl) (Nat.le_of_ble_eq_true rfl) rfl (fun ls hl => ?_)
          refine lv_goto (tgt := 5) hx hb dX3_ohmsOf_37 (by decide) ?_
          exact ih5 v2_5 (v4_5 + (1 : Int32)) _ _ _ hP hD hS (lv_sub hl [1, 2, 3, 0] rfl) h
        · replace h := zi_f hc20 h
          refine lv_lload_n hx hb dX3_ohmsOf_23 rfl (lv_at hl 2 rfl) ?_
          refine lv_aload_n hx hb dX3_ohmsOf_24 rfl (lv_at hl 0 rfl) ?_
          refine va_get (D := D) (ci := 3) (v := .ref b_ohms) (C := RX3) (T := TX3) (N := 8) hx hb hts uX3_ohmsOf_X3 hown hK.1 hP 0 rfl rfl 4 (by decide) (hts (.fieldLink RX3 22 "WishedResistor$Mesh" "ohms" "[I") (List.mem_of_getElem? (i := 2) rfl)) (fun _ h9 => h9) rfl dX3_ohmsOf_25 ?_
          refine lv_iload hx hb dX3_ohmsOf_28 (lv_at hl 3 rfl) ?_
          obtain ⟨hi30, h⟩ := zg_s h
          refine va_iald hx hb hK.1 hP 1 0 rfl rfl hi30 dX3_ohmsOf_30 ?_
          refine lv_i2l hx hb dX3_ohmsOf_31 rfl ?_
          refine lv_lmul hx hb dX3_ohmsOf_32 ?_
          refine lv_lstore_n (lv' := [(2, .long (v2_5 * (((c_ohms (v4_5).toNatClampNeg)).toInt64))), (0, .ref b), (1, .int p1), (4, .int v4_5)]) hx hb dX3_ohmsOf_33 rfl hl (Nat.le_of_ble_eq_true rfl) rfl (fun ls hl => ?_)
          refine lv_iinc (v := (v4_5 + (1 : Int32))) (lv' := [(4, .int (v4_5 + (1 : Int32))), (2, .long (v2_5 * (((c_ohms (v4_5).toNatClampNeg)).toInt64))), (0, .ref b), (1, .int p1)]) hx hb dX3_ohmsOf_34 hl (k := 3) rfl (by rfl) (Nat.le_of_ble_eq_true rfl) rfl (fun ls hl => ?_)
          refine lv_goto (tgt := 5) hx hb dX3_ohmsOf_37 (by decide) ?_
          exact ih5 (v2_5 * (((c_ohms (v4_5).toNatClampNeg)).toInt64)) (v4_5 + (1 : Int32)) _ _ _ hP hD hS (lv_sub hl [2, 3, 1, 0] rfl) h
  exact hL5 5000 (1 : Int64) (0 : Int32) _ _ _ hP hD hS (lv_sub hl [2, 3, 1, 0] rfl) h

theorem uX3_measureWay_X3 : ∀ w ∈ u_ws RX3 TX3 8, w ∈ wsX3_measureWay := fun w h => (List.mem_cons_of_mem _ (List.mem_append_left _ (List.mem_append_right _ h)))
abbrev wdX3_measureWay (cy : Nat → ClassId) (b b_one b_other b_ohms b_trees b_worth b_best : Nat) (c_points c_edges : Int32) (c_one c_other c_trees c_ohms : Nat → Int32) (c_worth_above c_worth_below : Int64) : va_W := [(b, .inr (3, [.int c_points, .int c_edges, .ref b_one, .ref b_other, .ref b_ohms, .ref b_trees, .ref b_worth, .ref b_best])), (b_one, .inl (cy 0, 8, .inl c_one)), (b_other, .inl (cy 0, 8, .inl c_other)), (b_trees, .inl (cy 0, 6, .inl c_trees)), (b_ohms, .inl (cy 0, 8, .inl c_ohms)), (b_worth, .inr (1, [.long c_worth_above, .long c_worth_below]))]
abbrev rmX3_measureWay : Room := { frames := 2, cells := 0, slots := 0, locals := 56 }
theorem cdX3_measureWay : (yX3_measureWay).cls ≠ "java/lang/invoke/MethodHandle" ∧ (yX3_measureWay).cls ≠ "java/lang/invoke/VarHandle" ∧ (parseMethodDescriptor (yX3_measureWay).desc).map (fun d => d.parameters.length) = some 3 := by decide +kernel
def fX3_measureWay_J159 (c_worth_above c_worth_below : Int64) (v7_159 v9_159 : Int64) (c_trees_159 : Nat → Int32) : Option ((Nat → Int32) × Int64 × Int64) :=
  zb2 (fX1_become v7_159 v9_159 c_worth_above c_worth_below) (fun c_worth_above_r167 c_worth_below_r167 => some (c_trees_159, c_worth_above_r167, c_worth_below_r167))
def fX3_measureWay_J80 (c_edges : Int32) (c_one c_other c_ohms : Nat → Int32) (p1 p2 r12 r19 : Int32) (v7_35 v9_35 : Int64) (v11_35 : Int32) (c_trees_35 : Nat → Int32) (rec35 : Int64 → Int64 → Int32 → (Nat → Int32) → Option ((Nat → Int32) × Int64 × Int64)) (r44 : Int32) (s0_80 : Int32) : Option ((Nat → Int32) × Int64 × Int64) :=
  if s0_80 = 0 then (rec35 v7_35 v9_35 (v11_35 + (1 : Int32)) c_trees_35) else (zb2 (fX3_isForest v11_35 c_edges c_trees_35 c_one c_other) (fun r90 c_trees_r90 => if r90 = 0 then (rec35 v7_35 v9_35 (v11_35 + (1 : Int32)) c_trees_r90) else (if r44 = (r19 - (1 : Int32)) then (zb1 (fX3_ohmsOf (r12 &&& (v11_35 ^^^ (-1 : Int32))) c_edges c_ohms) (fun r113 => rec35 v7_35 (v9_35 + r113) (v11_35 + (1 : Int32)) c_trees_r90)) else (zg (zin p1 6) (zg (zin p2 6) (if (c_trees_r90 (p1).toNatClampNeg) = (c_trees_r90 (p2).toNatClampNeg) then (rec35 v7_35 v9_35 (v11_35 + (1 : Int32)) c_trees_r90) else (zb1 (fX3_ohmsOf (r12 &&& (v11_35 ^^^ (-1 : Int32))) c_edges c_ohms) (fun r147 => rec35 (v7_35 + r147) v9_35 (v11_35 + (1 : Int32)) c_trees_r90))))))))
def fX3_measureWay_L35 (k159_35 : Int64 → Int64 → (Nat → Int32) → Option ((Nat → Int32) × Int64 × Int64)) (c_edges : Int32) (c_one c_other c_ohms : Nat → Int32) (p1 p2 r12 r19 : Int32) : Nat → Int64 → Int64 → Int32 → (Nat → Int32) → Option ((Nat → Int32) × Int64 × Int64) :=
  zl4 (fun rec35 v7_35 v9_35 v11_35 c_trees_35 => if r12 < v11_35 then (k159_35 v7_35 v9_35 c_trees_35) else (zb1 (fJ6_bitCount_0f7a4 v11_35) (fun r44 => if (v11_35 &&& (r12 ^^^ (-1 : Int32))) = 0 then (if r44 = (r19 - (1 : Int32)) then (fX3_measureWay_J80 c_edges c_one c_other c_ohms p1 p2 r12 r19 v7_35 v9_35 v11_35 c_trees_35 rec35 r44 (1 : Int32)) else (if r44 = ((r19 - (1 : Int32)) - (1 : Int32)) then (fX3_measureWay_J80 c_edges c_one c_other c_ohms p1 p2 r12 r19 v7_35 v9_35 v11_35 c_trees_35 rec35 r44 (1 : Int32)) else (fX3_measureWay_J80 c_edges c_one c_other c_ohms p1 p2 r12 r19 v7_35 v9_35 v11_35 c_trees_35 rec35 r44 (0 : Int32)))) else (fX3_measureWay_J80 c_edges c_one c_other c_ohms p1 p2 r12 r19 v7_35 v9_35 v11_35 c_trees_35 rec35 r44 (0 : Int32)))))
def fX3_measureWay (p1 p2 p3 c_points c_edges : Int32) (c_one c_other c_trees c_ohms : Nat → Int32) (c_worth_above c_worth_below : Int64) : Option ((Nat → Int32) × Int64 × Int64) :=
  zb1 (fX3_pointsFrom p1 p3 c_points c_edges c_one c_other) (fun r3 => zb1 (fX3_edgesOn r3 p3 c_edges c_one) (fun r12 => zb1 (fJ6_bitCount_0f7a4 r3) (fun r19 => fX3_measureWay_L35 (fX3_measureWay_J159 c_worth_above c_worth_below) c_edges c_one c_other c_ohms p1 p2 r12 r19 5000 (0 : Int64) (0 : Int64) (0 : Int32) c_trees)))
set_option maxHeartbeats 4000000 in
set_option maxRecDepth 100000 in
theorem mX3_measureWay (l : Launch) (D : va_G) (cy : Nat → ClassId) (sz : Nat) (b b_one b_other b_ohms b_trees b_worth b_best : Nat) (c_points c_edges : Int32) (c_one c_other c_trees c_ohms : Nat → Int32) (c_worth_above c_worth_below : Int64) (p1 p2 p3 : Int32) (res : ((Nat → Int32) × Int64 × Int64)) (h : fX3_measureWay p1 p2 p3 c_points c_edges c_one c_other c_trees c_ohms c_worth_above c_worth_below = some res) : zMv l yX3_measureWay wsX3_measureWay rmX3_measureWay [.ref b, .int p1, .int p2, .int p3] D cy (wdX3_measureWay cy b b_one b_other b_ohms b_trees b_worth b_best c_points c_edges c_one c_other c_trees c_ohms c_worth_above c_worth_below) sz  ((fun (o : ((Nat → Int32) × Int64 × Int64)) => (wdX3_measureWay cy b b_one b_other b_ohms b_trees b_worth b_best c_points c_edges c_one c_other (o.1) c_ohms (o.2.1) (o.2.2))) res) := by
  refine zOfv (res := res) (Wf := (fun (o : ((Nat → Int32) × Int64 × Int64)) => (wdX3_measureWay cy b b_one b_other b_ohms b_trees b_worth b_best c_points c_edges c_one c_other (o.1) c_ohms (o.2.1) (o.2.2)))) (by decide +kernel) rfl (Nat.le_of_ble_eq_true rfl) ?_
  intro p e s m args below meth c A ls Q hx hb hml hts hown hP hK hD hA hS hl hret
  have hown : s.vm.findClass RX3 = some m.cls := hown
  have hl : lv_has ls 14 [(0, .ref b), (1, .int p1), (2, .int p2), (3, .int p3)] := hl
  refine lv_aload_n hx hb dX3_measureWay_0 rfl (lv_at hl 0 rfl) ?_
  refine lv_iload_n hx hb dX3_measureWay_1 rfl (lv_at hl 1 rfl) ?_
  refine lv_iload_n hx hb dX3_measureWay_2 rfl (lv_at hl 3 rfl) ?_
  obtain ⟨r3, hq3, h⟩ := zb1_s h
  refine zCi (r0 := r3) (w1 := (wdX3_pointsFrom cy b b_one b_other b_ohms b_trees b_worth b_best c_points c_edges c_one c_other)) (ws' := (wdX3_measureWay cy b b_one b_other b_ohms b_trees b_worth b_best c_points c_edges c_one c_other c_trees c_ohms c_worth_above c_worth_below)) (va_runV (As := [.int p1, .int p3]) (rest := []) ⟨hx, hb, hml, hown, hts⟩ (mX3_pointsFrom l D cy s.heap.size b b_one b_other b_ohms b_trees b_worth b_best c_points c_edges c_one c_other p1 p3 (r3) hq3) (cwV 2 hts gX3_measureWay_X3_pointsFrom rfl rfl rfl ⟨rfl, cdX3_pointsFrom⟩ ⟨Nat.le_of_ble_eq_true rfl, Nat.le_of_ble_eq_true rfl⟩) (zPV hK hP hD [0, 1, 2] rfl rfl (q0 := 0) (ci := 3) rfl rfl rfl) rfl rfl hl.1 rfl (lv_room (Nat.le_of_ble_eq_true rfl)) dX3_measureWay_3 ⟨Nat.zero_le _, Nat.zero_le _⟩) hP hD hS hA [0, 1, 2] [3, 4, 5] [3, 4, 5, 0, 1, 2] rfl rfl rfl rfl (fun H locs hP hD hS => ?_)
  refine lv_istore (lv' := [(4, .int r3), (0, .ref b), (1, .int p1), (2, .int p2), (3, .int p3)]) hx hb dX3_measureWay_6 hl (Nat.le_of_ble_eq_true rfl) rfl (fun ls hl => ?_)
  refine lv_aload_n hx hb dX3_measureWay_8 rfl (lv_at hl 1 rfl) ?_
  refine lv_iload hx hb dX3_measureWay_9 (lv_at hl 0 rfl) ?_
  refine lv_iload_n hx hb dX3_measureWay_11 rfl (lv_at hl 4 rfl) ?_
  obtain ⟨r12, hq12, h⟩ := zb1_s h
  refine zCi (r0 := r12) (w1 := (wdX3_edgesOn cy b b_one b_other b_ohms b_trees b_worth b_best c_points c_edges c_one)) (ws' := (wdX3_measureWay cy b b_one b_other b_ohms b_trees b_worth b_best c_points c_edges c_one c_other c_trees c_ohms c_worth_above c_worth_below)) (va_runV (As := [.int r3, .int p3]) (rest := []) ⟨hx, hb, hml, hown, hts⟩ (mX3_edgesOn l D cy H.size b b_one b_other b_ohms b_trees b_worth b_best c_points c_edges c_one r3 p3 (r12) hq12) (cwV 2 hts gX3_measureWay_X3_edgesOn rfl rfl rfl ⟨rfl, cdX3_edgesOn⟩ ⟨Nat.le_of_ble_eq_true rfl, Nat.le_of_ble_eq_true rfl⟩) (zPV hK hP hD [0, 1] rfl rfl (q0 := 0) (ci := 3) rfl rfl rfl) rfl rfl hl.1 rfl (lv_room (Nat.le_of_ble_eq_true rfl)) dX3_measureWay_12 ⟨Nat.zero_le _, Nat.zero_le _⟩) hP hD hS hA [0, 1] [2, 3, 4, 5] [4, 5, 0, 1, 2, 3] rfl rfl rfl rfl (fun H locs hP hD hS => ?_)
  refine lv_istore (lv' := [(5, .int r12), (4, .int r3), (0, .ref b), (1, .int p1), (2, .int p2), (3, .int p3)]) hx hb dX3_measureWay_15 hl (Nat.le_of_ble_eq_true rfl) rfl (fun ls hl => ?_)
  refine lv_iload hx hb dX3_measureWay_17 (lv_at hl 1 rfl) ?_
  obtain ⟨r19, hq19, h⟩ := zb1_s h
  refine zCi0 (r0 := r19) (va_runS (As := [.int r3]) (rest := []) ⟨hx, hb, hml, hown, hts⟩ (mJ6_bitCount_0f7a4 l D cy H.size r3 (r19) hq19) (va_cwS 1 hts gX3_measureWay_J6_bitCount_0f7a4 rfl rfl rfl cdJ6_bitCount_0f7a4 ⟨Nat.le_of_ble_eq_true rfl, Nat.le_of_ble_eq_true rfl⟩) (zPS hK hP hD [] rfl rfl) rfl rfl hl.1 rfl (lv_room (Nat.le_of_ble_eq_true rfl)) dX3_measureWay_19 ⟨Nat.zero_le _, Nat.zero_le _⟩) hP hD hS hA (fun H locs hP hD hS => ?_)
  refine lv_iconst (v := (1 : Int32)) hx hb dX3_measureWay_22 (by decide) ?_
  refine lv_isub hx hb dX3_measureWay_23 ?_
  refine lv_istore (lv' := [(6, .int (r19 - (1 : Int32))), (5, .int r12), (4, .int r3), (0, .ref b), (1, .int p1), (2, .int p2), (3, .int p3)]) hx hb dX3_measureWay_24 hl (Nat.le_of_ble_eq_true rfl) rfl (fun ls hl => ?_)
  refine lv_lconst (v := (0 : Int64)) hx hb dX3_measureWay_26 (by decide) ?_
  refine lv_lstore (lv' := [(7, .long (0 : Int64)), (6, .int (r19 - (1 : Int32))), (5, .int r12), (4, .int r3), (0, .ref b), (1, .int p1), (2, .int p2), (3, .int p3)]) hx hb dX3_measureWay_27 hl (Nat.le_of_ble_eq_true rfl) rfl (fun ls hl => ?_)
  refine lv_lconst (v := (0 : Int64)) hx hb dX3_measureWay_29 (by decide) ?_
  refine lv_lstore (lv' := [(9, .long (0 : Int64)), (7, .long (0 : Int64)), (6, .int (r19 - (1 : Int32))), (5, .int r12), (4, .int r3), (0, .ref b), (1, .int p1), (2, .int p2), (3, .int p3)]) hx hb dX3_measureWay_30 hl (Nat.le_of_ble_eq_true rfl) rfl (fun ls hl => ?_)
  refine lv_iconst (v := (0 : Int32)) hx hb dX3_measureWay_32 (by decide) ?_
  refine lv_istore (lv' := [(11, .int (0 : Int32)), (9, .long (0 : Int64)), (7, .long (0 : Int64)), (6, .int (r19 - (1 : Int32))), (5, .int r12), (4, .int r3), (0, .ref b), (1, .int p1), (2, .int p2), (3, .int p3)]) hx hb dX3_measureWay_33 hl (Nat.le_of_ble_eq_true rfl) rfl (fun ls hl => ?_)
  have hJ159 : ∀ (v7_159 v9_159 : Int64) (c_trees_159 : Nat → Int32) (H : Heap) (locs : List Loc) (ls : Array Slot), va_P D vwCl (wdX3_measureWay cy b b_one b_other b_ohms b_trees b_worth b_best c_points c_edges c_one c_other c_trees_159 c_ohms c_worth_above c_worth_below) H → va_D A (wdX3_measureWay cy b b_one b_other b_ohms b_trees b_worth b_best c_points c_edges c_one c_other c_trees_159 c_ohms c_worth_above c_worth_below) → va_S A s.heap H locs → lv_has ls 14 [(0, .ref b), (7, .long v7_159), (9, .long v9_159)] → fX3_measureWay_J159 c_worth_above c_worth_below v7_159 v9_159 c_trees_159 = some res → W p l e rmX3_measureWay s m args below meth c H locs 0 0 Q (F0 m 159 ls []) := by
    intro v7_159 v9_159 c_trees_159 H locs ls hP hD hS hl h
    refine lv_aload_n hx hb dX3_measureWay_159 rfl (lv_at hl 0 rfl) ?_
    refine va_get (D := D) (ci := 3) (v := .ref b_worth) (C := RX3) (T := TX3) (N := 8) hx hb hts uX3_measureWay_X3 hown hK.1 hP 0 rfl rfl 6 (by decide) (hts (.fieldLink RX3 31 "WishedResistor$Mesh" "worth" "LWishedResistor$Fraction;") (List.mem_of_getElem? (i := 2) rfl)) (fun _ h9 => h9) rfl dX3_measureWay_160 ?_
    refine lv_lload hx hb dX3_measureWay_163 (lv_at hl 1 rfl) ?_
    refine lv_lload hx hb dX3_measureWay_165 (lv_at hl 2 rfl) ?_
    obtain ⟨c_worth_above_r167, c_worth_below_r167, hq167, h⟩ := zb2_s h
    refine zCv (w1 := (wdX1_become cy b_worth c_worth_above_r167 c_worth_below_r167)) (ws' := (wdX3_measureWay cy b b_one b_other b_ohms b_trees b_worth b_best c_points c_edges c_one c_other c_trees_159 c_ohms c_worth_above_r167 c_worth_below_r167)) (va_runV (As := [.long v7_159, .long v9_159]) (rest := []) ⟨hx, hb, hml, hown, hts⟩ (mX1_become l D cy H.size b_worth c_worth_above c_worth_below v7_159 v9_159 (c_worth_above_r167, c_worth_below_r167) hq167) (cwV 2 hts gX3_measureWay_X1_become rfl rfl rfl ⟨rfl, cdX1_become⟩ ⟨Nat.le_of_ble_eq_true rfl, Nat.le_of_ble_eq_true rfl⟩) (zPV hK hP hD [5] rfl rfl (q0 := 5) (ci := 1) rfl rfl rfl) rfl rfl hl.1 rfl (lv_room (Nat.le_of_ble_eq_true rfl)) dX3_measureWay_167 ⟨Nat.zero_le _, Nat.zero_le _⟩) hP hD hS hA [5] [0, 1, 2, 3, 4] [0, 1, 2, 3, 4, 5] rfl rfl rfl rfl (fun H locs hP hD hS => ?_)
    exact hret (o := (c_trees_159, c_worth_above_r167, c_worth_below_r167)) h hP hD hS dX3_measureWay_170
  have hL35 : ∀ n35 : Nat, ∀ (v7_35 v9_35 : Int64) (v11_35 : Int32) (c_trees_35 : Nat → Int32) (H : Heap) (locs : List Loc) (ls : Array Slot), va_P D vwCl (wdX3_measureWay cy b b_one b_other b_ohms b_trees b_worth b_best c_points c_edges c_one c_other c_trees_35 c_ohms c_worth_above c_worth_below) H → va_D A (wdX3_measureWay cy b b_one b_other b_ohms b_trees b_worth b_best c_points c_edges c_one c_other c_trees_35 c_ohms c_worth_above c_worth_below) → va_S A s.heap H locs → lv_has ls 14 [(0, .ref b), (1, .int p1), (2, .int p2), (5, .int r12), (6, .int (r19 - (1 : Int32))), (7, .long v7_35), (9, .long v9_35), (11, .int v11_35)] → fX3_measureWay_L35 (fX3_measureWay_J159 c_worth_above c_worth_below) c_edges c_one c_other c_ohms p1 p2 r12 r19 n35 v7_35 v9_35 v11_35 c_trees_35 = some res → W p l e rmX3_measureWay s m args below meth c H locs 0 0 Q (F0 m 35 ls []) := by
    intro n35
    induction n35 with
    | zero =>
      intro v7_35 v9_35 v11_35 c_trees_35 H locs ls hP hD hS hl h
      exact zl4_0 h
    | succ n35 ih35 =>
      intro v7_35 v9_35 v11_35 c_trees_35 H locs ls hP hD hS hl h
      replace h := zl4_s h
      refine lv_iload hx hb dX3_measureWay_35 (lv_at hl 7 rfl) ?_
      refine lv_iload hx hb dX3_measureWay_37 (lv_at hl 3 rfl) ?_
      refine lv_icmp_gt (tgt := 159) hx hb dX3_measureWay_39 (by decide) (fun hc39 => ?_) (fun hc39 => ?_)
      · replace h := zi_t hc39 h
        exact hJ159 v7_35 v9_35 c_trees_35 _ _ _ hP hD hS (lv_sub hl [0, 5, 6] rfl) h
      · replace h := zi_f hc39 h
        refine lv_iload hx hb dX3_measureWay_42 (lv_at hl 7 rfl) ?_
        obtain ⟨r44, hq44, h⟩ := zb1_s h
        refine zCi0 (r0 := r44) (va_runS (As := [.int v11_35]) (rest := []) ⟨hx, hb, hml, hown, hts⟩ (mJ6_bitCount_0f7a4 l D cy H.size v11_35 (r44) hq44) (va_cwS 1 hts gX3_measureWay_J6_bitCount_0f7a4 rfl rfl rfl cdJ6_bitCount_0f7a4 ⟨Nat.le_of_ble_eq_true rfl, Nat.le_of_ble_eq_true rfl⟩) (zPS hK hP hD [] rfl rfl) rfl rfl hl.1 rfl (lv_room (Nat.le_of_ble_eq_true rfl)) dX3_measureWay_44 ⟨Nat.zero_le _, Nat.zero_le _⟩) hP hD hS hA (fun H locs hP hD hS => ?_)
        refine lv_istore (lv' := [(12, .int r44), (0, .ref b), (1, .int p1), (2, .int p2), (5, .int r12), (6, .int (r19 - (1 : Int32))), (7, .long v7_35), (9, .long v9_35), (11, .int v11_35)]) hx hb dX3_measureWay_47 hl (Nat.le_of_ble_eq_true rfl) rfl (fun ls hl => ?_)
        refine lv_iload hx hb dX3_measureWay_49 (lv_at hl 8 rfl) ?_
        refine lv_iload hx hb dX3_measureWay_51 (lv_at hl 4 rfl) ?_
        refine lv_iconst (v := (-1 : Int32)) hx hb dX3_measureWay_53 (by decide) ?_
        refine lv_ixor hx hb dX3_measureWay_54 ?_
        refine lv_iand hx hb dX3_measureWay_55 ?_
        have hJ80 : ∀ (s0_80 : Int32) (H : Heap) (locs : List Loc) (ls : Array Slot), va_P D vwCl (wdX3_measureWay cy b b_one b_other b_ohms b_trees b_worth b_best c_points c_edges c_one c_other c_trees_35 c_ohms c_worth_above c_worth_below) H → va_D A (wdX3_measureWay cy b b_one b_other b_ohms b_trees b_worth b_best c_points c_edges c_one c_other c_trees_35 c_ohms c_worth_above c_worth_below) → va_S A s.heap H locs → lv_has ls 14 [(0, .ref b), (1, .int p1), (2, .int p2), (5, .int r12), (6, .int (r19 - (1 : Int32))), (7, .long v7_35), (9, .long v9_35), (11, .int v11_35), (12, .int r44)] → fX3_measureWay_J80 c_edges c_one c_other c_ohms p1 p2 r12 r19 v7_35 v9_35 v11_35 c_trees_35 (fX3_measureWay_L35 (fX3_measureWay_J159 c_worth_above c_worth_below) c_edges c_one c_other c_ohms p1 p2 r12 r19 n35) r44 s0_80 = some res → W p l e rmX3_measureWay s m args below meth c H locs 0 0 Q (F0 m 80 ls [.int s0_80]) := by
          intro s0_80 H locs ls hP hD hS hl h
          refine lv_istore (lv' := [(13, .int s0_80), (0, .ref b), (1, .int p1), (2, .int p2), (5, .int r12), (6, .int (r19 - (1 : Int32))), (7, .long v7_35), (9, .long v9_35), (11, .int v11_35), (12, .int r44)]) hx hb dX3_measureWay_80 hl (Nat.le_of_ble_eq_true rfl) rfl (fun ls hl => ?_)
          refine lv_iload hx hb dX3_measureWay_82 (lv_at hl 0 rfl) ?_
          refine lv_if_eq (tgt := 153) hx hb dX3_measureWay_84 (by decide) (fun hc84 => ?_) (fun hc84 => ?_)
          · replace h := zi_t hc84 h
            refine lv_iinc (v := (v11_35 + (1 : Int32))) (lv' := [(11, .int (v11_35 + (1 : Int32))), (13, .int s0_80), (0, .ref b), (1, .int p1), (2, .int p2), (5, .int r12), (6, .int (r19 - (1 : Int32))), (7, .long v7_35), (9, .long v9_35), (12, .int r44)]) hx hb dX3_measureWay_153 hl (k := 8) rfl (by rfl) (Nat.le_of_ble_eq_true rfl) rfl (fun ls hl => ?_)
            refine lv_goto (tgt := 35) hx hb dX3_measureWay_156 (by decide) ?_
            exact ih35 v7_35 v9_35 (v11_35 + (1 : Int32)) c_trees_35 _ _ _ hP hD hS (lv_sub hl [2, 3, 4, 5, 6, 7, 8, 0] rfl) h
          · replace h := zi_f hc84 h
            refine lv_aload_n hx hb dX3_measureWay_87 rfl (lv_at hl 1 rfl) ?_
            refine lv_iload hx hb dX3_measureWay_88 (lv_at hl 8 rfl) ?_
            obtain ⟨r90, c_trees_r90, hq90, h⟩ := zb2_s h
            refine zCz (r0 := r90) (w1 := (wdX3_isForest cy b b_one b_other b_ohms b_trees b_worth b_best c_points c_edges c_trees_r90 c_one c_other)) (ws' := (wdX3_measureWay cy b b_one b_other b_ohms b_trees b_worth b_best c_points c_edges c_one c_other c_trees_r90 c_ohms c_worth_above c_worth_below)) (va_runV (As := [.int v11_35]) (rest := []) ⟨hx, hb, hml, hown, hts⟩ (mX3_isForest l D cy H.size b b_one b_other b_ohms b_trees b_worth b_best c_points c_edges c_trees_35 c_one c_other v11_35 (r90, c_trees_r90) hq90) (cwV 1 hts gX3_measureWay_X3_isForest rfl rfl rfl ⟨rfl, cdX3_isForest⟩ ⟨Nat.le_of_ble_eq_true rfl, Nat.le_of_ble_eq_true rfl⟩) (zPV hK hP hD [0, 3, 1, 2] rfl rfl (q0 := 0) (ci := 3) rfl rfl rfl) rfl rfl hl.1 rfl (lv_room (Nat.le_of_ble_eq_true rfl)) dX3_measureWay_90 ⟨Nat.zero_le _, Nat.zero_le _⟩) hP hD hS hA [0, 3, 1, 2] [4, 5] [2, 4, 5, 3, 0, 1] rfl rfl rfl rfl (fun H locs hn90 hP hD hS => ?_)
            refine lv_if_eq (tgt := 153) hx hb dX3_measureWay_93 (by decide) (fun hc93 => ?_) (fun hc93 => ?_)
            · replace h := zi_t hc93 h
              refine lv_iinc (v := (v11_35 + (1 : Int32))) (lv' := [(11, .int (v11_35 + (1 : Int32))), (13, .int s0_80), (0, .ref b), (1, .int p1), (2, .int p2), (5, .int r12), (6, .int (r19 - (1 : Int32))), (7, .long v7_35), (9, .long v9_35), (12, .int r44)]) hx hb dX3_measureWay_153 hl (k := 8) rfl (by rfl) (Nat.le_of_ble_eq_true rfl) rfl (fun ls hl => ?_)
              refine lv_goto (tgt := 35) hx hb dX3_measureWay_156 (by decide) ?_
              exact ih35 v7_35 v9_35 (v11_35 + (1 : Int32)) c_trees_r90 _ _ _ hP hD hS (lv_sub hl [2, 3, 4, 5, 6, 7, 8, 0] rfl) h
            · replace h := zi_f hc93 h
              refine lv_iload hx hb dX3_measureWay_96 (lv_at hl 9 rfl) ?_
              refine lv_iload hx hb dX3_measureWay_98 (lv_at hl 5 rfl) ?_
              refine lv_icmp_ne (tgt := 122) hx hb dX3_measureWay_100 (by decide) (fun hc100 => ?_) (fun hc100 => ?_)
              · replace h := zi_f hc100 h
                refine lv_aload_n hx hb dX3_measureWay_122 rfl (lv_at hl 1 rfl) ?_
                refine va_get (D := D) (ci := 3) (v := .ref b_trees) (C := RX3) (T := TX3) (N := 8) hx hb hts uX3_measureWay_X3 hown hK.1 hP 0 rfl rfl 5 (by decide) (hts (.fieldLink RX3 25 "WishedResistor$Mesh" "trees" "[I") (List.mem_of_getElem? (i := 1) rfl)) (fun _ h9 => h9) rfl dX3_measureWay_123 ?_
                refine lv_iload_n hx hb dX3_measureWay_126 rfl (lv_at hl 2 rfl) ?_
                obtain ⟨hi127, h⟩ := zg_s h
                refine va_iald hx hb hK.1 hP 3 0 rfl rfl hi127 dX3_measureWay_127 ?_
                refine lv_aload_n hx hb dX3_measureWay_128 rfl (lv_at hl 1 rfl) ?_
                refine va_get (D := D) (ci := 3) (v := .ref b_trees) (C := RX3) (T := TX3) (N := 8) hx hb hts uX3_measureWay_X3 hown hK.1 hP 0 rfl rfl 5 (by decide) (hts (.fieldLink RX3 25 "WishedResistor$Mesh" "trees" "[I") (List.mem_of_getElem? (i := 1) rfl)) (fun _ h9 => h9) rfl dX3_measureWay_129 ?_
                refine lv_iload_n hx hb dX3_measureWay_132 rfl (lv_at hl 3 rfl) ?_
                obtain ⟨hi133, h⟩ := zg_s h
                refine va_iald hx hb hK.1 hP 3 0 rfl rfl hi133 dX3_measureWay_133 ?_
                refine lv_icmp_eq (tgt := 153) hx hb dX3_measureWay_134 (by decide) (fun hc134 => ?_) (fun hc134 => ?_)
                · replace h := zi_t hc134 h
                  refine lv_iinc (v := (v11_35 + (1 : Int32))) (lv' := [(11, .int (v11_35 + (1 : Int32))), (13, .int s0_80), (0, .ref b), (1, .int p1), (2, .int p2), (5, .int r12), (6, .int (r19 - (1 : Int32))), (7, .long v7_35), (9, .long v9_35), (12, .int r44)]) hx hb dX3_measureWay_153 hl (k := 8) rfl (by rfl) (Nat.le_of_ble_eq_true rfl) rfl (fun ls hl => ?_)
                  refine lv_goto (tgt := 35) hx hb dX3_measureWay_156 (by decide) ?_
                  exact ih35 v7_35 v9_35 (v11_35 + (1 : Int32)) c_trees_r90 _ _ _ hP hD hS (lv_sub hl [2, 3, 4, 5, 6, 7, 8, 0] rfl) h
                · replace h := zi_f hc134 h
                  refine lv_lload hx hb dX3_measureWay_137 (lv_at hl 6 rfl) ?_
                  refine lv_aload_n hx hb dX3_measureWay_139 rfl (lv_at hl 1 rfl) ?_
                  refine lv_iload hx hb dX3_measureWay_140 (lv_at hl 4 rfl) ?_
                  refine lv_iload hx hb dX3_measureWay_142 (lv_at hl 8 rfl) ?_
                  refine lv_iconst (v := (-1 : Int32)) hx hb dX3_measureWay_144 (by decide) ?_
                  refine lv_ixor hx hb dX3_measureWay_145 ?_
                  refine lv_iand hx hb dX3_measureWay_146 ?_
                  obtain ⟨r147, hq147, h⟩ := zb1_s h
                  refine zCl (r0 := r147) (w1 := (wdX3_ohmsOf cy b b_one b_other b_ohms b_trees b_worth b_best c_points c_edges c_ohms)) (ws' := (wdX3_measureWay cy b b_one b_other b_ohms b_trees b_worth b_best c_points c_edges c_one c_other c_trees_r90 c_ohms c_worth_above c_worth_below)) (va_runV (As := [.int (r12 &&& (v11_35 ^^^ (-1 : Int32)))]) (rest := [.long v7_35]) ⟨hx, hb, hml, hown, hts⟩ (mX3_ohmsOf l D cy H.size b b_one b_other b_ohms b_trees b_worth b_best c_points c_edges c_ohms (r12 &&& (v11_35 ^^^ (-1 : Int32))) (r147) hq147) (cwV 1 hts gX3_measureWay_X3_ohmsOf rfl rfl rfl ⟨rfl, cdX3_ohmsOf⟩ ⟨Nat.le_of_ble_eq_true rfl, Nat.le_of_ble_eq_true rfl⟩) (zPV hK hP hD [0, 4] rfl rfl (q0 := 0) (ci := 3) rfl rfl rfl) rfl rfl hl.1 rfl (lv_room (Nat.le_of_ble_eq_true rfl)) dX3_measureWay_147 ⟨Nat.zero_le _, Nat.zero_le _⟩) hP hD hS hA [0, 4] [1, 2, 3, 5] [4, 0, 1, 2, 5, 3] rfl rfl rfl rfl (fun H locs hP hD hS => ?_)
                  refine lv_ladd hx hb dX3_measureWay_150 ?_
                  refine lv_lstore (lv' := [(7, .long (v7_35 + r147)), (13, .int s0_80), (0, .ref b), (1, .int p1), (2, .int p2), (5, .int r12), (6, .int (r19 - (1 : Int32))), (9, .long v9_35), (11, .int v11_35), (12, .int r44)]) hx hb dX3_measureWay_151 hl (Nat.le_of_ble_eq_true rfl) rfl (fun ls hl => ?_)
                  refine lv_iinc (v := (v11_35 + (1 : Int32))) (lv' := [(11, .int (v11_35 + (1 : Int32))), (7, .long (v7_35 + r147)), (13, .int s0_80), (0, .ref b), (1, .int p1), (2, .int p2), (5, .int r12), (6, .int (r19 - (1 : Int32))), (9, .long v9_35), (12, .int r44)]) hx hb dX3_measureWay_153 hl (k := 8) rfl (by rfl) (Nat.le_of_ble_eq_true rfl) rfl (fun ls hl => ?_)
                  refine lv_goto (tgt := 35) hx hb dX3_measureWay_156 (by decide) ?_
                  exact ih35 (v7_35 + r147) v9_35 (v11_35 + (1 : Int32)) c_trees_r90 _ _ _ hP hD hS (lv_sub hl [3, 4, 5, 6, 7, 1, 8, 0] rfl) h
              · replace h := zi_t hc100 h
                refine lv_lload hx hb dX3_measureWay_103 (lv_at hl 7 rfl) ?_
                refine lv_aload_n hx hb dX3_measureWay_105 rfl (lv_at hl 1 rfl) ?_
                refine lv_iload hx hb dX3_measureWay_106 (lv_at hl 4 rfl) ?_
                refine lv_iload hx hb dX3_measureWay_108 (lv_at hl 8 rfl) ?_
                refine lv_iconst (v := (-1 : Int32)) hx hb dX3_measureWay_110 (by decide) ?_
                refine lv_ixor hx hb dX3_measureWay_111 ?_
                refine lv_iand hx hb dX3_measureWay_112 ?_
                obtain ⟨r113, hq113, h⟩ := zb1_s h
                refine zCl (r0 := r113) (w1 := (wdX3_ohmsOf cy b b_one b_other b_ohms b_trees b_worth b_best c_points c_edges c_ohms)) (ws' := (wdX3_measureWay cy b b_one b_other b_ohms b_trees b_worth b_best c_points c_edges c_one c_other c_trees_r90 c_ohms c_worth_above c_worth_below)) (va_runV (As := [.int (r12 &&& (v11_35 ^^^ (-1 : Int32)))]) (rest := [.long v9_35]) ⟨hx, hb, hml, hown, hts⟩ (mX3_ohmsOf l D cy H.size b b_one b_other b_ohms b_trees b_worth b_best c_points c_edges c_ohms (r12 &&& (v11_35 ^^^ (-1 : Int32))) (r113) hq113) (cwV 1 hts gX3_measureWay_X3_ohmsOf rfl rfl rfl ⟨rfl, cdX3_ohmsOf⟩ ⟨Nat.le_of_ble_eq_true rfl, Nat.le_of_ble_eq_true rfl⟩) (zPV hK hP hD [0, 4] rfl rfl (q0 := 0) (ci := 3) rfl rfl rfl) rfl rfl hl.1 rfl (lv_room (Nat.le_of_ble_eq_true rfl)) dX3_measureWay_113 ⟨Nat.zero_le _, Nat.zero_le _⟩) hP hD hS hA [0, 4] [1, 2, 3, 5] [4, 0, 1, 2, 5, 3] rfl rfl rfl rfl (fun H locs hP hD hS => ?_)
                refine lv_ladd hx hb dX3_measureWay_116 ?_
                refine lv_lstore (lv' := [(9, .long (v9_35 + r113)), (13, .int s0_80), (0, .ref b), (1, .int p1), (2, .int p2), (5, .int r12), (6, .int (r19 - (1 : Int32))), (7, .long v7_35), (11, .int v11_35), (12, .int r44)]) hx hb dX3_measureWay_117 hl (Nat.le_of_ble_eq_true rfl) rfl (fun ls hl => ?_)
                refine lv_goto (tgt := 153) hx hb dX3_measureWay_119 (by decide) ?_
                refine lv_iinc (v := (v11_35 + (1 : Int32))) (lv' := [(11, .int (v11_35 + (1 : Int32))), (9, .long (v9_35 + r113)), (13, .int s0_80), (0, .ref b), (1, .int p1), (2, .int p2), (5, .int r12), (6, .int (r19 - (1 : Int32))), (7, .long v7_35), (12, .int r44)]) hx hb dX3_measureWay_153 hl (k := 8) rfl (by rfl) (Nat.le_of_ble_eq_true rfl) rfl (fun ls hl => ?_)
                refine lv_goto (tgt := 35) hx hb dX3_measureWay_156 (by decide) ?_
                exact ih35 v7_35 (v9_35 + r113) (v11_35 + (1 : Int32)) c_trees_r90 _ _ _ hP hD hS (lv_sub hl [3, 4, 5, 6, 7, 8, 1, 0] rfl) h
        refine lv_if_ne (tgt := 79) hx hb dX3_measureWay_56 (by decide) (fun hc56 => ?_) (fun hc56 => ?_)
        · replace h := zi_f hc56 h
          refine lv_iconst (v := (0 : Int32)) hx hb dX3_measureWay_79 (by decide) ?_
          exact hJ80 (0 : Int32) _ _ _ hP hD hS (lv_sub hl [1, 2, 3, 4, 5, 6, 7, 8, 0] rfl) h
        · replace h := zi_t hc56 h
          refine lv_iload hx hb dX3_measureWay_59 (lv_at hl 0 rfl) ?_
          refine lv_iload hx hb dX3_measureWay_61 (lv_at hl 5 rfl) ?_
          refine lv_icmp_eq (tgt := 75) hx hb dX3_measureWay_63 (by decide) (fun hc63 => ?_) (fun hc63 => ?_)
          · replace h := zi_t hc63 h
            refine lv_iconst (v := (1 : Int32)) hx hb dX3_measureWay_75 (by decide) ?_
            refine lv_goto (tgt := 80) hx hb dX3_measureWay_76 (by decide) ?_
            exact hJ80 (1 : Int32) _ _ _ hP hD hS (lv_sub hl [1, 2, 3, 4, 5, 6, 7, 8, 0] rfl) h
          · replace h := zi_f hc63 h
            refine lv_iload hx hb dX3_measureWay_66 (lv_at hl 0 rfl) ?_
            refine lv_iload hx hb dX3_measureWay_68 (lv_at hl 5 rfl) ?_
            refine lv_iconst (v := (1 : Int32)) hx hb dX3_measureWay_70 (by decide) ?_
            refine lv_isub hx hb dX3_measureWay_71 ?_
            refine lv_icmp_ne (tgt := 79) hx hb dX3_measureWay_72 (by decide) (fun hc72 => ?_) (fun hc72 => ?_)
            · replace h := zi_f hc72 h
              refine lv_iconst (v := (0 : Int32)) hx hb dX3_measureWay_79 (by decide) ?_
              exact hJ80 (0 : Int32) _ _ _ hP hD hS (lv_sub hl [1, 2, 3, 4, 5, 6, 7, 8, 0] rfl) h
            · replace h := zi_t hc72 h
              refine lv_iconst (v := (1 : Int32)) hx hb dX3_measureWay_75 (by decide) ?_
              refine lv_goto (tgt := 80) hx hb dX3_measureWay_76 (by decide) ?_
              exact hJ80 (1 : Int32) _ _ _ hP hD hS (lv_sub hl [1, 2, 3, 4, 5, 6, 7, 8, 0] rfl) h
  exact hL35 5000 (0 : Int64) (0 : Int64) (0 : Int32) c_trees _ _ _ hP hD hS (lv_sub hl [6, 7, 8, 4, 3, 2, 1, 0] rfl) h

theorem uX3_measure_X3 : ∀ w ∈ u_ws RX3 TX3 8, w ∈ wsX3_measure := fun w h => (List.mem_cons_of_mem _ (List.mem_append_left _ (List.mem_append_right _ h)))
abbrev wdX3_measure (cy : Nat → ClassId) (b b_one b_other b_ohms b_trees b_worth b_best : Nat) (c_points c_edges : Int32) (c_worth_above c_worth_below : Int64) (c_ohms c_one c_other c_trees : Nat → Int32) : va_W := [(b, .inr (3, [.int c_points, .int c_edges, .ref b_one, .ref b_other, .ref b_ohms, .ref b_trees, .ref b_worth, .ref b_best])), (b_worth, .inr (1, [.long c_worth_above, .long c_worth_below])), (b_ohms, .inl (cy 0, 8, .inl c_ohms)), (b_one, .inl (cy 0, 8, .inl c_one)), (b_other, .inl (cy 0, 8, .inl c_other)), (b_trees, .inl (cy 0, 6, .inl c_trees))]
abbrev rmX3_measure : Room := { frames := 3, cells := 0, slots := 0, locals := 89 }
theorem cdX3_measure : (yX3_measure).cls ≠ "java/lang/invoke/MethodHandle" ∧ (yX3_measure).cls ≠ "java/lang/invoke/VarHandle" ∧ (parseMethodDescriptor (yX3_measure).desc).map (fun d => d.parameters.length) = some 3 := by decide +kernel
def fX3_measure (p1 p2 p3 c_points c_edges : Int32) (c_worth_above c_worth_below : Int64) (c_ohms c_one c_other c_trees : Nat → Int32) : Option (Int64 × Int64 × (Nat → Int32)) :=
  if p1 = p2 then (zb2 (fX1_become (0 : Int64) (1 : Int64) c_worth_above c_worth_below) (fun c_worth_above_r11 c_worth_below_r11 => some (c_worth_above_r11, c_worth_below_r11, c_trees))) else (zb1 (fX3_isWay p1 p2 p3 c_points c_edges c_ohms c_one c_other) (fun r21 => if r21 = 0 then (zb2 (fX1_become (1 : Int64) (0 : Int64) c_worth_above c_worth_below) (fun c_worth_above_r33 c_worth_below_r33 => some (c_worth_above_r33, c_worth_below_r33, c_trees))) else (zb1 (fX3_closedEdges p3 c_edges c_ohms) (fun r44 => zb3 (fX3_measureWay p1 p2 r44 c_points c_edges c_one c_other c_trees c_ohms c_worth_above c_worth_below) (fun c_trees_r47 c_worth_above_r47 c_worth_below_r47 => some (c_worth_above_r47, c_worth_below_r47, c_trees_r47))))))
set_option maxHeartbeats 4000000 in
set_option maxRecDepth 100000 in
theorem mX3_measure (l : Launch) (D : va_G) (cy : Nat → ClassId) (sz : Nat) (b b_one b_other b_ohms b_trees b_worth b_best : Nat) (c_points c_edges : Int32) (c_worth_above c_worth_below : Int64) (c_ohms c_one c_other c_trees : Nat → Int32) (p1 p2 p3 : Int32) (res : (Int64 × Int64 × (Nat → Int32))) (h : fX3_measure p1 p2 p3 c_points c_edges c_worth_above c_worth_below c_ohms c_one c_other c_trees = some res) : zMv l yX3_measure wsX3_measure rmX3_measure [.ref b, .int p1, .int p2, .int p3] D cy (wdX3_measure cy b b_one b_other b_ohms b_trees b_worth b_best c_points c_edges c_worth_above c_worth_below c_ohms c_one c_other c_trees) sz  ((fun (o : (Int64 × Int64 × (Nat → Int32))) => (wdX3_measure cy b b_one b_other b_ohms b_trees b_worth b_best c_points c_edges (o.1) (o.2.1) c_ohms c_one c_other (o.2.2))) res) := by
  refine zOfv (res := res) (Wf := (fun (o : (Int64 × Int64 × (Nat → Int32))) => (wdX3_measure cy b b_one b_other b_ohms b_trees b_worth b_best c_points c_edges (o.1) (o.2.1) c_ohms c_one c_other (o.2.2)))) (by decide +kernel) rfl (Nat.le_of_ble_eq_true rfl) ?_
  intro p e s m args below meth c A ls Q hx hb hml hts hown hP hK hD hA hS hl hret
  have hown : s.vm.findClass RX3 = some m.cls := hown
  have hl : lv_has ls 4 [(0, .ref b), (1, .int p1), (2, .int p2), (3, .int p3)] := hl
  refine lv_iload_n hx hb dX3_measure_0 rfl (lv_at hl 1 rfl) ?_
  refine lv_iload_n hx hb dX3_measure_1 rfl (lv_at hl 2 rfl) ?_
  refine lv_icmp_ne (tgt := 17) hx hb dX3_measure_2 (by decide) (fun hc2 => ?_) (fun hc2 => ?_)
  · replace h := zi_f hc2 h
    refine lv_aload_n hx hb dX3_measure_17 rfl (lv_at hl 0 rfl) ?_
    refine lv_iload_n hx hb dX3_measure_18 rfl (lv_at hl 1 rfl) ?_
    refine lv_iload_n hx hb dX3_measure_19 rfl (lv_at hl 2 rfl) ?_
    refine lv_iload_n hx hb dX3_measure_20 rfl (lv_at hl 3 rfl) ?_
    obtain ⟨r21, hq21, h⟩ := zb1_s h
    refine zCz (r0 := r21) (w1 := (wdX3_isWay cy b b_one b_other b_ohms b_trees b_worth b_best c_points c_edges c_ohms c_one c_other)) (ws' := (wdX3_measure cy b b_one b_other b_ohms b_trees b_worth b_best c_points c_edges c_worth_above c_worth_below c_ohms c_one c_other c_trees)) (va_runV (As := [.int p1, .int p2, .int p3]) (rest := []) ⟨hx, hb, hml, hown, hts⟩ (mX3_isWay l D cy s.heap.size b b_one b_other b_ohms b_trees b_worth b_best c_points c_edges c_ohms c_one c_other p1 p2 p3 (r21) hq21) (cwV 3 hts gX3_measure_X3_isWay rfl rfl rfl ⟨rfl, cdX3_isWay⟩ ⟨Nat.le_of_ble_eq_true rfl, Nat.le_of_ble_eq_true rfl⟩) (zPV hK hP hD [0, 2, 3, 4] rfl rfl (q0 := 0) (ci := 3) rfl rfl rfl) rfl rfl hl.1 rfl (lv_room (Nat.le_of_ble_eq_true rfl)) dX3_measure_21 ⟨Nat.zero_le _, Nat.zero_le _⟩) hP hD hS hA [0, 2, 3, 4] [1, 5] [2, 0, 3, 4, 5, 1] rfl rfl rfl rfl (fun H locs hn21 hP hD hS => ?_)
    refine lv_if_ne (tgt := 39) hx hb dX3_measure_24 (by decide) (fun hc24 => ?_) (fun hc24 => ?_)
    · replace h := zi_f hc24 h
      refine lv_aload_n hx hb dX3_measure_39 rfl (lv_at hl 0 rfl) ?_
      refine lv_iload_n hx hb dX3_measure_40 rfl (lv_at hl 1 rfl) ?_
      refine lv_iload_n hx hb dX3_measure_41 rfl (lv_at hl 2 rfl) ?_
      refine lv_aload_n hx hb dX3_measure_42 rfl (lv_at hl 0 rfl) ?_
      refine lv_iload_n hx hb dX3_measure_43 rfl (lv_at hl 3 rfl) ?_
      obtain ⟨r44, hq44, h⟩ := zb1_s h
      refine zCi (r0 := r44) (w1 := (wdX3_closedEdges cy b b_one b_other b_ohms b_trees b_worth b_best c_points c_edges c_ohms)) (ws' := (wdX3_measure cy b b_one b_other b_ohms b_trees b_worth b_best c_points c_edges c_worth_above c_worth_below c_ohms c_one c_other c_trees)) (va_runV (As := [.int p3]) (rest := [.int p2, .int p1, .ref b]) ⟨hx, hb, hml, hown, hts⟩ (mX3_closedEdges l D cy H.size b b_one b_other b_ohms b_trees b_worth b_best c_points c_edges c_ohms p3 (r44) hq44) (cwV 1 hts gX3_measure_X3_closedEdges rfl rfl rfl ⟨rfl, cdX3_closedEdges⟩ ⟨Nat.le_of_ble_eq_true rfl, Nat.le_of_ble_eq_true rfl⟩) (zPV hK hP hD [0, 2] rfl rfl (q0 := 0) (ci := 3) rfl rfl rfl) rfl rfl hl.1 rfl (lv_room (Nat.le_of_ble_eq_true rfl)) dX3_measure_44 ⟨Nat.zero_le _, Nat.zero_le _⟩) hP hD hS hA [0, 2] [1, 3, 4, 5] [4, 0, 5, 1, 2, 3] rfl rfl rfl rfl (fun H locs hP hD hS => ?_)
      obtain ⟨c_trees_r47, c_worth_above_r47, c_worth_below_r47, hq47, h⟩ := zb3_s h
      refine zCv (w1 := (wdX3_measureWay cy b b_one b_other b_ohms b_trees b_worth b_best c_points c_edges c_one c_other c_trees_r47 c_ohms c_worth_above_r47 c_worth_below_r47)) (ws' := (wdX3_measure cy b b_one b_other b_ohms b_trees b_worth b_best c_points c_edges c_worth_above_r47 c_worth_below_r47 c_ohms c_one c_other c_trees_r47)) (va_runV (As := [.int p1, .int p2, .int r44]) (rest := []) ⟨hx, hb, hml, hown, hts⟩ (mX3_measureWay l D cy H.size b b_one b_other b_ohms b_trees b_worth b_best c_points c_edges c_one c_other c_trees c_ohms c_worth_above c_worth_below p1 p2 r44 (c_trees_r47, c_worth_above_r47, c_worth_below_r47) hq47) (cwV 3 hts gX3_measure_X3_measureWay rfl rfl rfl ⟨rfl, cdX3_measureWay⟩ ⟨Nat.le_of_ble_eq_true rfl, Nat.le_of_ble_eq_true rfl⟩) (zPV hK hP hD [0, 3, 4, 5, 2, 1] rfl rfl (q0 := 0) (ci := 3) rfl rfl rfl) rfl rfl hl.1 rfl (lv_room (Nat.le_of_ble_eq_true rfl)) dX3_measure_47 ⟨Nat.zero_le _, Nat.zero_le _⟩) hP hD hS hA [0, 3, 4, 5, 2, 1] [] [0, 5, 4, 1, 2, 3] rfl rfl rfl rfl (fun H locs hP hD hS => ?_)
      exact hret (o := (c_worth_above_r47, c_worth_below_r47, c_trees_r47)) h hP hD hS dX3_measure_50
    · replace h := zi_t hc24 h
      refine lv_aload_n hx hb dX3_measure_27 rfl (lv_at hl 0 rfl) ?_
      refine va_get (D := D) (ci := 3) (v := .ref b_worth) (C := RX3) (T := TX3) (N := 8) hx hb hts uX3_measure_X3 hown hK.1 hP 0 rfl rfl 6 (by decide) (hts (.fieldLink RX3 31 "WishedResistor$Mesh" "worth" "LWishedResistor$Fraction;") (List.mem_of_getElem? (i := 1) rfl)) (fun _ h9 => h9) rfl dX3_measure_28 ?_
      refine lv_lconst (v := (1 : Int64)) hx hb dX3_measure_31 (by decide) ?_
      refine lv_lconst (v := (0 : Int64)) hx hb dX3_measure_32 (by decide) ?_
      obtain ⟨c_worth_above_r33, c_worth_below_r33, hq33, h⟩ := zb2_s h
      refine zCv (w1 := (wdX1_become cy b_worth c_worth_above_r33 c_worth_below_r33)) (ws' := (wdX3_measure cy b b_one b_other b_ohms b_trees b_worth b_best c_points c_edges c_worth_above_r33 c_worth_below_r33 c_ohms c_one c_other c_trees)) (va_runV (As := [.long (1 : Int64), .long (0 : Int64)]) (rest := []) ⟨hx, hb, hml, hown, hts⟩ (mX1_become l D cy H.size b_worth c_worth_above c_worth_below (1 : Int64) (0 : Int64) (c_worth_above_r33, c_worth_below_r33) hq33) (cwV 2 hts gX3_measure_X1_become rfl rfl rfl ⟨rfl, cdX1_become⟩ ⟨Nat.le_of_ble_eq_true rfl, Nat.le_of_ble_eq_true rfl⟩) (zPV hK hP hD [1] rfl rfl (q0 := 1) (ci := 1) rfl rfl rfl) rfl rfl hl.1 rfl (lv_room (Nat.le_of_ble_eq_true rfl)) dX3_measure_33 ⟨Nat.zero_le _, Nat.zero_le _⟩) hP hD hS hA [1] [0, 2, 3, 4, 5] [0, 5, 1, 2, 3, 4] rfl rfl rfl rfl (fun H locs hP hD hS => ?_)
      refine lv_goto (tgt := 50) hx hb dX3_measure_36 (by decide) ?_
      exact hret (o := (c_worth_above_r33, c_worth_below_r33, c_trees)) h hP hD hS dX3_measure_50
  · replace h := zi_t hc2 h
    refine lv_aload_n hx hb dX3_measure_5 rfl (lv_at hl 0 rfl) ?_
    refine va_get (D := D) (ci := 3) (v := .ref b_worth) (C := RX3) (T := TX3) (N := 8) hx hb hts uX3_measure_X3 hown hK.1 hP 0 rfl rfl 6 (by decide) (hts (.fieldLink RX3 31 "WishedResistor$Mesh" "worth" "LWishedResistor$Fraction;") (List.mem_of_getElem? (i := 1) rfl)) (fun _ h9 => h9) rfl dX3_measure_6 ?_
    refine lv_lconst (v := (0 : Int64)) hx hb dX3_measure_9 (by decide) ?_
    refine lv_lconst (v := (1 : Int64)) hx hb dX3_measure_10 (by decide) ?_
    obtain ⟨c_worth_above_r11, c_worth_below_r11, hq11, h⟩ := zb2_s h
    refine zCv (w1 := (wdX1_become cy b_worth c_worth_above_r11 c_worth_below_r11)) (ws' := (wdX3_measure cy b b_one b_other b_ohms b_trees b_worth b_best c_points c_edges c_worth_above_r11 c_worth_below_r11 c_ohms c_one c_other c_trees)) (va_runV (As := [.long (0 : Int64), .long (1 : Int64)]) (rest := []) ⟨hx, hb, hml, hown, hts⟩ (mX1_become l D cy s.heap.size b_worth c_worth_above c_worth_below (0 : Int64) (1 : Int64) (c_worth_above_r11, c_worth_below_r11) hq11) (cwV 2 hts gX3_measure_X1_become rfl rfl rfl ⟨rfl, cdX1_become⟩ ⟨Nat.le_of_ble_eq_true rfl, Nat.le_of_ble_eq_true rfl⟩) (zPV hK hP hD [1] rfl rfl (q0 := 1) (ci := 1) rfl rfl rfl) rfl rfl hl.1 rfl (lv_room (Nat.le_of_ble_eq_true rfl)) dX3_measure_11 ⟨Nat.zero_le _, Nat.zero_le _⟩) hP hD hS hA [1] [0, 2, 3, 4, 5] [0, 5, 1, 2, 3, 4] rfl rfl rfl rfl (fun H locs hP hD hS => ?_)
    refine lv_goto (tgt := 50) hx hb dX3_measure_14 (by decide) ?_
    exact hret (o := (c_worth_above_r11, c_worth_below_r11, c_trees)) h hP hD hS dX3_measure_50

theorem uX3_dearestEdge_X3 : ∀ w ∈ u_ws RX3 TX3 8, w ∈ wsX3_dearestEdge := fun w h => (List.mem_cons_of_mem _ (List.mem_append_left _ (List.mem_append_right _ h)))
abbrev wdX3_dearestEdge (cy : Nat → ClassId) (b b_one b_other b_ohms b_trees b_worth b_best : Nat) (c_points c_edges : Int32) (c_worth_above c_worth_below : Int64) (c_ohms c_one c_other c_trees : Nat → Int32) (c_best_above c_best_below : Int64) : va_W := [(b, .inr (3, [.int c_points, .int c_edges, .ref b_one, .ref b_other, .ref b_ohms, .ref b_trees, .ref b_worth, .ref b_best])), (b_worth, .inr (1, [.long c_worth_above, .long c_worth_below])), (b_ohms, .inl (cy 0, 8, .inl c_ohms)), (b_one, .inl (cy 0, 8, .inl c_one)), (b_other, .inl (cy 0, 8, .inl c_other)), (b_trees, .inl (cy 0, 6, .inl c_trees)), (b_best, .inr (1, [.long c_best_above, .long c_best_below]))]
abbrev rmX3_dearestEdge : Room := { frames := 4, cells := 0, slots := 0, locals := 112 }
theorem cdX3_dearestEdge : (yX3_dearestEdge).cls ≠ "java/lang/invoke/MethodHandle" ∧ (yX3_dearestEdge).cls ≠ "java/lang/invoke/VarHandle" ∧ (parseMethodDescriptor (yX3_dearestEdge).desc).map (fun d => d.parameters.length) = some 2 := by decide +kernel
def fX3_dearestEdge_J41 (v4_5 : Int32) (c_best_above_5 c_best_below_5 : Int64) (rec5 : Int32 → Int32 → Int64 → Int64 → (Nat → Int32) → Int64 → Int64 → Option (Int32 × Int64 × Int64 × (Nat → Int32) × Int64 × Int64)) (c_worth_above_r19 c_worth_below_r19 : Int64) (c_trees_r19 : Nat → Int32)  : Option (Int32 × Int64 × Int64 × (Nat → Int32) × Int64 × Int64) :=
  zb2 (fX1_copy c_worth_above_r19 c_worth_below_r19 c_best_above_5 c_best_below_5) (fun c_best_above_r52 c_best_below_r52 => rec5 v4_5 (v4_5 + (1 : Int32)) c_worth_above_r19 c_worth_below_r19 c_trees_r19 c_best_above_r52 c_best_below_r52)
def fX3_dearestEdge_L5 (c_points c_edges : Int32) (c_ohms c_one c_other : Nat → Int32) (p1 p2 : Int32) : Nat → Int32 → Int32 → Int64 → Int64 → (Nat → Int32) → Int64 → Int64 → Option (Int32 × Int64 × Int64 × (Nat → Int32) × Int64 × Int64) :=
  zl7 (fun rec5 v3_5 v4_5 c_worth_above_5 c_worth_below_5 c_trees_5 c_best_above_5 c_best_below_5 => if c_edges ≤ v4_5 then (some (v3_5, c_worth_above_5, c_worth_below_5, c_trees_5, c_best_above_5, c_best_below_5)) else (zb3 (fX3_measure p1 p2 v4_5 c_points c_edges c_worth_above_5 c_worth_below_5 c_ohms c_one c_other c_trees_5) (fun c_worth_above_r19 c_worth_below_r19 c_trees_r19 => if v4_5 = 0 then (fX3_dearestEdge_J41 v4_5 c_best_above_5 c_best_below_5 rec5 c_worth_above_r19 c_worth_below_r19 c_trees_r19) else (zb1 (fX1_against c_worth_above_r19 c_worth_below_r19 c_best_above_5 c_best_below_5) (fun r35 => if r35 ≤ 0 then (rec5 v3_5 (v4_5 + (1 : Int32)) c_worth_above_r19 c_worth_below_r19 c_trees_r19 c_best_above_5 c_best_below_5) else (fX3_dearestEdge_J41 v4_5 c_best_above_5 c_best_below_5 rec5 c_worth_above_r19 c_worth_below_r19 c_trees_r19))))))
def fX3_dearestEdge (p1 p2 c_points c_edges : Int32) (c_worth_above c_worth_below : Int64) (c_ohms c_one c_other c_trees : Nat → Int32) (c_best_above c_best_below : Int64) : Option (Int32 × Int64 × Int64 × (Nat → Int32) × Int64 × Int64) :=
  fX3_dearestEdge_L5 c_points c_edges c_ohms c_one c_other p1 p2 5000 (0 : Int32) (0 : Int32) c_worth_above c_worth_below c_trees c_best_above c_best_below
set_option maxHeartbeats 4000000 in
set_option maxRecDepth 100000 in
theorem mX3_dearestEdge (l : Launch) (D : va_G) (cy : Nat → ClassId) (sz : Nat) (b b_one b_other b_ohms b_trees b_worth b_best : Nat) (c_points c_edges : Int32) (c_worth_above c_worth_below : Int64) (c_ohms c_one c_other c_trees : Nat → Int32) (c_best_above c_best_below : Int64) (p1 p2 : Int32) (res : (Int32 × Int64 × Int64 × (Nat → Int32) × Int64 × Int64)) (h : fX3_dearestEdge p1 p2 c_points c_edges c_worth_above c_worth_below c_ohms c_one c_other c_trees c_best_above c_best_below = some res) : zMi l yX3_dearestEdge wsX3_dearestEdge rmX3_dearestEdge [.ref b, .int p1, .int p2] D cy (wdX3_dearestEdge cy b b_one b_other b_ohms b_trees b_worth b_best c_points c_edges c_worth_above c_worth_below c_ohms c_one c_other c_trees c_best_above c_best_below) sz ((fun (o : (Int32 × Int64 × Int64 × (Nat → Int32) × Int64 × Int64)) => o.1) res) ((fun (o : (Int32 × Int64 × Int64 × (Nat → Int32) × Int64 × Int64)) => (wdX3_dearestEdge cy b b_one b_other b_ohms b_trees b_worth b_best c_points c_edges (o.2.1) (o.2.2.1) c_ohms c_one c_other (o.2.2.2.1) (o.2.2.2.2.1) (o.2.2.2.2.2))) res) := by
  refine zOfi (res := res) (rf := (fun (o : (Int32 × Int64 × Int64 × (Nat → Int32) × Int64 × Int64)) => o.1)) (Wf := (fun (o : (Int32 × Int64 × Int64 × (Nat → Int32) × Int64 × Int64)) => (wdX3_dearestEdge cy b b_one b_other b_ohms b_trees b_worth b_best c_points c_edges (o.2.1) (o.2.2.1) c_ohms c_one c_other (o.2.2.2.1) (o.2.2.2.2.1) (o.2.2.2.2.2)))) (by decide +kernel) rfl (Nat.le_of_ble_eq_true rfl) ?_
  intro p e s m args below meth c A ls Q hx hb hml hts hown hP hK hD hA hS hl hret
  have hown : s.vm.findClass RX3 = some m.cls := hown
  have hl : lv_has ls 5 [(0, .ref b), (1, .int p1), (2, .int p2)] := hl
  refine lv_iconst (v := (0 : Int32)) hx hb dX3_dearestEdge_0 (by decide) ?_
  refine lv_istore_n (lv' := [(3, .int (0 : Int32)), (0, .ref b), (1, .int p1), (2, .int p2)]) hx hb dX3_dearestEdge_1 rfl hl (Nat.le_of_ble_eq_true rfl) rfl (fun ls hl => ?_)
  refine lv_iconst (v := (0 : Int32)) hx hb dX3_dearestEdge_2 (by decide) ?_
  refine lv_istore (lv' := [(4, .int (0 : Int32)), (3, .int (0 : Int32)), (0, .ref b), (1, .int p1), (2, .int p2)]) hx hb dX3_dearestEdge_3 hl (Nat.le_of_ble_eq_true rfl) rfl (fun ls hl => ?_)
  have hL5 : ∀ n5 : Nat, ∀ (v3_5 v4_5 : Int32) (c_worth_above_5 c_worth_below_5 : Int64) (c_trees_5 : Nat → Int32) (c_best_above_5 c_best_below_5 : Int64) (H : Heap) (locs : List Loc) (ls : Array Slot), va_P D vwCl (wdX3_dearestEdge cy b b_one b_other b_ohms b_trees b_worth b_best c_points c_edges c_worth_above_5 c_worth_below_5 c_ohms c_one c_other c_trees_5 c_best_above_5 c_best_below_5) H → va_D A (wdX3_dearestEdge cy b b_one b_other b_ohms b_trees b_worth b_best c_points c_edges c_worth_above_5 c_worth_below_5 c_ohms c_one c_other c_trees_5 c_best_above_5 c_best_below_5) → va_S A s.heap H locs → lv_has ls 5 [(0, .ref b), (1, .int p1), (2, .int p2), (3, .int v3_5), (4, .int v4_5)] → fX3_dearestEdge_L5 c_points c_edges c_ohms c_one c_other p1 p2 n5 v3_5 v4_5 c_worth_above_5 c_worth_below_5 c_trees_5 c_best_above_5 c_best_below_5 = some res → W p l e rmX3_dearestEdge s m args below meth c H locs 0 0 Q (F0 m 5 ls []) := by
    intro n5
    induction n5 with
    | zero =>
      intro v3_5 v4_5 c_worth_above_5 c_worth_below_5 c_trees_5 c_best_above_5 c_best_below_5 H locs ls hP hD hS hl h
      exact zl7_0 h
    | succ n5 ih5 =>
      intro v3_5 v4_5 c_worth_above_5 c_worth_below_5 c_trees_5 c_best_above_5 c_best_below_5 H locs ls hP hD hS hl h
      replace h := zl7_s h
      refine lv_iload hx hb dX3_dearestEdge_5 (lv_at hl 4 rfl) ?_
      refine lv_aload_n hx hb dX3_dearestEdge_7 rfl (lv_at hl 0 rfl) ?_
      refine va_get (D := D) (ci := 3) (v := .int c_edges) (C := RX3) (T := TX3) (N := 8) hx hb hts uX3_dearestEdge_X3 hown hK.1 hP 0 rfl rfl 1 (by decide) (hts (.fieldLink RX3 38 "WishedResistor$Mesh" "edges" "I") (List.mem_of_getElem? (i := 1) rfl)) (fun _ h9 => h9) rfl dX3_dearestEdge_8 ?_
      refine lv_icmp_ge (tgt := 61) hx hb dX3_dearestEdge_11 (by decide) (fun hc11 => ?_) (fun hc11 => ?_)
      · replace h := zi_t hc11 h
        refine lv_iload_n hx hb dX3_dearestEdge_61 rfl (lv_at hl 3 rfl) ?_
        exact hret (o := (v3_5, c_worth_above_5, c_worth_below_5, c_trees_5, c_best_above_5, c_best_below_5)) h hP hD hS dX3_dearestEdge_62
      · replace h := zi_f hc11 h
        refine lv_aload_n hx hb dX3_dearestEdge_14 rfl (lv_at hl 0 rfl) ?_
        refine lv_iload_n hx hb dX3_dearestEdge_15 rfl (lv_at hl 1 rfl) ?_
        refine lv_iload_n hx hb dX3_dearestEdge_16 rfl (lv_at hl 2 rfl) ?_
        refine lv_iload hx hb dX3_dearestEdge_17 (lv_at hl 4 rfl) ?_
        obtain ⟨c_worth_above_r19, c_worth_below_r19, c_trees_r19, hq19, h⟩ := zb3_s h
        refine zCv (w1 := (wdX3_measure cy b b_one b_other b_ohms b_trees b_worth b_best c_points c_edges c_worth_above_r19 c_worth_below_r19 c_ohms c_one c_other c_trees_r19)) (ws' := (wdX3_dearestEdge cy b b_one b_other b_ohms b_trees b_worth b_best c_points c_edges c_worth_above_r19 c_worth_below_r19 c_ohms c_one c_other c_trees_r19 c_best_above_5 c_best_below_5)) (va_runV (As := [.int p1, .int p2, .int v4_5]) (rest := []) ⟨hx, hb, hml, hown, hts⟩ (mX3_measure l D cy H.size b b_one b_other b_ohms b_trees b_worth b_best c_points c_edges c_worth_above_5 c_worth_below_5 c_ohms c_one c_other c_trees_5 p1 p2 v4_5 (c_worth_above_r19, c_worth_below_r19, c_trees_r19) hq19) (cwV 3 hts gX3_dearestEdge_X3_measure rfl rfl rfl ⟨rfl, cdX3_measure⟩ ⟨Nat.le_of_ble_eq_true rfl, Nat.le_of_ble_eq_true rfl⟩) (zPV hK hP hD [0, 1, 2, 3, 4, 5] rfl rfl (q0 := 0) (ci := 3) rfl rfl rfl) rfl rfl hl.1 rfl (lv_room (Nat.le_of_ble_eq_true rfl)) dX3_dearestEdge_19 ⟨Nat.zero_le _, Nat.zero_le _⟩) hP hD hS hA [0, 1, 2, 3, 4, 5] [6] [1, 2, 3, 4, 5, 6, 0] rfl rfl rfl rfl (fun H locs hP hD hS => ?_)
        refine lv_iload hx hb dX3_dearestEdge_22 (lv_at hl 4 rfl) ?_
        have hJ41 : ∀  (H : Heap) (locs : List Loc) (ls : Array Slot), va_P D vwCl (wdX3_dearestEdge cy b b_one b_other b_ohms b_trees b_worth b_best c_points c_edges c_worth_above_r19 c_worth_below_r19 c_ohms c_one c_other c_trees_r19 c_best_above_5 c_best_below_5) H → va_D A (wdX3_dearestEdge cy b b_one b_other b_ohms b_trees b_worth b_best c_points c_edges c_worth_above_r19 c_worth_below_r19 c_ohms c_one c_other c_trees_r19 c_best_above_5 c_best_below_5) → va_S A s.heap H locs → lv_has ls 5 [(0, .ref b), (1, .int p1), (2, .int p2), (4, .int v4_5)] → fX3_dearestEdge_J41 v4_5 c_best_above_5 c_best_below_5 (fX3_dearestEdge_L5 c_points c_edges c_ohms c_one c_other p1 p2 n5) c_worth_above_r19 c_worth_below_r19 c_trees_r19 = some res → W p l e rmX3_dearestEdge s m args below meth c H locs 0 0 Q (F0 m 41 ls []) := by
          intro  H locs ls hP hD hS hl h
          refine lv_iload hx hb dX3_dearestEdge_41 (lv_at hl 3 rfl) ?_
          refine lv_istore_n (lv' := [(3, .int v4_5), (0, .ref b), (1, .int p1), (2, .int p2), (4, .int v4_5)]) hx hb dX3_dearestEdge_43 rfl hl (Nat.le_of_ble_eq_true rfl) rfl (fun ls hl => ?_)
          refine lv_aload_n hx hb dX3_dearestEdge_44 rfl (lv_at hl 1 rfl) ?_
          refine va_get (D := D) (ci := 3) (v := .ref b_best) (C := RX3) (T := TX3) (N := 8) hx hb hts uX3_dearestEdge_X3 hown hK.1 hP 0 rfl rfl 7 (by decide) (hts (.fieldLink RX3 35 "WishedResistor$Mesh" "best" "LWishedResistor$Fraction;") (List.mem_of_getElem? (i := 3) rfl)) (fun _ h9 => h9) rfl dX3_dearestEdge_45 ?_
          refine lv_aload_n hx hb dX3_dearestEdge_48 rfl (lv_at hl 1 rfl) ?_
          refine va_get (D := D) (ci := 3) (v := .ref b_worth) (C := RX3) (T := TX3) (N := 8) hx hb hts uX3_dearestEdge_X3 hown hK.1 hP 0 rfl rfl 6 (by decide) (hts (.fieldLink RX3 31 "WishedResistor$Mesh" "worth" "LWishedResistor$Fraction;") (List.mem_of_getElem? (i := 2) rfl)) (fun _ h9 => h9) rfl dX3_dearestEdge_49 ?_
          obtain ⟨c_best_above_r52, c_best_below_r52, hq52, h⟩ := zb2_s h
          refine zCv (w1 := (wdX1_copy cy b_worth b_best c_worth_above_r19 c_worth_below_r19 c_best_above_r52 c_best_below_r52)) (ws' := (wdX3_dearestEdge cy b b_one b_other b_ohms b_trees b_worth b_best c_points c_edges c_worth_above_r19 c_worth_below_r19 c_ohms c_one c_other c_trees_r19 c_best_above_r52 c_best_below_r52)) (va_runV (As := [.ref b_worth]) (rest := []) ⟨hx, hb, hml, hown, hts⟩ (mX1_copy l D cy H.size b_worth b_best c_worth_above_r19 c_worth_below_r19 c_best_above_5 c_best_below_5 (c_best_above_r52, c_best_below_r52) hq52) (cwV 1 hts gX3_dearestEdge_X1_copy rfl rfl rfl ⟨rfl, cdX1_copy⟩ ⟨Nat.le_of_ble_eq_true rfl, Nat.le_of_ble_eq_true rfl⟩) (zPV hK hP hD [1, 6] rfl rfl (q0 := 6) (ci := 1) rfl rfl rfl) rfl rfl hl.1 rfl (lv_room (Nat.le_of_ble_eq_true rfl)) dX3_dearestEdge_52 ⟨Nat.zero_le _, Nat.zero_le _⟩) hP hD hS hA [1, 6] [0, 2, 3, 4, 5] [0, 5, 1, 2, 3, 4, 6] rfl rfl rfl rfl (fun H locs hP hD hS => ?_)
          refine lv_iinc (v := (v4_5 + (1 : Int32))) (lv' := [(4, .int (v4_5 + (1 : Int32))), (3, .int v4_5), (0, .ref b), (1, .int p1), (2, .int p2)]) hx hb dX3_dearestEdge_55 hl (k := 4) rfl (by rfl) (Nat.le_of_ble_eq_true rfl) rfl (fun ls hl => ?_)
          refine lv_goto (tgt := 5) hx hb dX3_dearestEdge_58 (by decide) ?_
          exact ih5 v4_5 (v4_5 + (1 : Int32)) c_worth_above_r19 c_worth_below_r19 c_trees_r19 c_best_above_r52 c_best_below_r52 _ _ _ hP hD hS (lv_sub hl [2, 3, 4, 1, 0] rfl) h
        refine lv_if_eq (tgt := 41) hx hb dX3_dearestEdge_24 (by decide) (fun hc24 => ?_) (fun hc24 => ?_)
        · replace h := zi_t hc24 h
          exact hJ41 _ _ _ hP hD hS (lv_sub hl [0, 1, 2, 4] rfl) h
        · replace h := zi_f hc24 h
          refine lv_aload_n hx hb dX3_dearestEdge_27 rfl (lv_at hl 0 rfl) ?_
          refine va_get (D := D) (ci := 3) (v := .ref b_worth) (C := RX3) (T := TX3) (N := 8) hx hb hts uX3_dearestEdge_X3 hown hK.1 hP 0 rfl rfl 6 (by decide) (hts (.fieldLink RX3 31 "WishedResistor$Mesh" "worth" "LWishedResistor$Fraction;") (List.mem_of_getElem? (i := 2) rfl)) (fun _ h9 => h9) rfl dX3_dearestEdge_28 ?_
          refine lv_aload_n hx hb dX3_dearestEdge_31 rfl (lv_at hl 0 rfl) ?_
          refine va_get (D := D) (ci := 3) (v := .ref b_best) (C := RX3) (T := TX3) (N := 8) hx hb hts uX3_dearestEdge_X3 hown hK.1 hP 0 rfl rfl 7 (by decide) (hts (.fieldLink RX3 35 "WishedResistor$Mesh" "best" "LWishedResistor$Fraction;") (List.mem_of_getElem? (i := 3) rfl)) (fun _ h9 => h9) rfl dX3_dearestEdge_32 ?_
          obtain ⟨r35, hq35, h⟩ := zb1_s h
          refine zCi (r0 := r35) (w1 := (wdX1_against cy b_worth b_best c_worth_above_r19 c_worth_below_r19 c_best_above_5 c_best_below_5)) (ws' := (wdX3_dearestEdge cy b b_one b_other b_ohms b_trees b_worth b_best c_points c_edges c_worth_above_r19 c_worth_below_r19 c_ohms c_one c_other c_trees_r19 c_best_above_5 c_best_below_5)) (va_runV (As := [.ref b_best]) (rest := []) ⟨hx, hb, hml, hown, hts⟩ (mX1_against l D cy H.size b_worth b_best c_worth_above_r19 c_worth_below_r19 c_best_above_5 c_best_below_5 (r35) hq35) (cwV 1 hts gX3_dearestEdge_X1_against rfl rfl rfl ⟨rfl, cdX1_against⟩ ⟨Nat.le_of_ble_eq_true rfl, Nat.le_of_ble_eq_true rfl⟩) (zPV hK hP hD [1, 6] rfl rfl (q0 := 1) (ci := 1) rfl rfl rfl) rfl rfl hl.1 rfl (lv_room (Nat.le_of_ble_eq_true rfl)) dX3_dearestEdge_35 ⟨Nat.zero_le _, Nat.zero_le _⟩) hP hD hS hA [1, 6] [0, 2, 3, 4, 5] [0, 5, 1, 2, 3, 4, 6] rfl rfl rfl rfl (fun H locs hP hD hS => ?_)
          refine lv_if_le (tgt := 55) hx hb dX3_dearestEdge_38 (by decide) (fun hc38 => ?_) (fun hc38 => ?_)
          · replace h := zi_t hc38 h
            refine lv_iinc (v := (v4_5 + (1 : Int32))) (lv' := [(4, .int (v4_5 + (1 : Int32))), (0, .ref b), (1, .int p1), (2, .int p2), (3, .int v3_5)]) hx hb dX3_dearestEdge_55 hl (k := 4) rfl (by rfl) (Nat.le_of_ble_eq_true rfl) rfl (fun ls hl => ?_)
            refine lv_goto (tgt := 5) hx hb dX3_dearestEdge_58 (by decide) ?_
            exact ih5 v3_5 (v4_5 + (1 : Int32)) c_worth_above_r19 c_worth_below_r19 c_trees_r19 c_best_above_5 c_best_below_5 _ _ _ hP hD hS (lv_sub hl [1, 2, 3, 4, 0] rfl) h
          · replace h := zi_f hc38 h
            exact hJ41 _ _ _ hP hD hS (lv_sub hl [0, 1, 2, 4] rfl) h
  exact hL5 5000 (0 : Int32) (0 : Int32) c_worth_above c_worth_below c_trees c_best_above c_best_below _ _ _ hP hD hS (lv_sub hl [2, 3, 4, 1, 0] rfl) h

theorem uX3_bridgesOf_X3 : ∀ w ∈ u_ws RX3 TX3 8, w ∈ wsX3_bridgesOf := fun w h => (List.mem_cons_of_mem _ (List.mem_append_right _ h))
abbrev wdX3_bridgesOf (cy : Nat → ClassId) (b b_one b_other b_ohms b_trees b_worth b_best : Nat) (c_points c_edges : Int32) (c_ohms c_one c_other : Nat → Int32) : va_W := [(b, .inr (3, [.int c_points, .int c_edges, .ref b_one, .ref b_other, .ref b_ohms, .ref b_trees, .ref b_worth, .ref b_best])), (b_ohms, .inl (cy 0, 8, .inl c_ohms)), (b_one, .inl (cy 0, 8, .inl c_one)), (b_other, .inl (cy 0, 8, .inl c_other))]
abbrev rmX3_bridgesOf : Room := { frames := 2, cells := 0, slots := 0, locals := 49 }
theorem cdX3_bridgesOf : (yX3_bridgesOf).cls ≠ "java/lang/invoke/MethodHandle" ∧ (yX3_bridgesOf).cls ≠ "java/lang/invoke/VarHandle" ∧ (parseMethodDescriptor (yX3_bridgesOf).desc).map (fun d => d.parameters.length) = some 2 := by decide +kernel
def fX3_bridgesOf_L5 (c_points c_edges : Int32) (c_ohms c_one c_other : Nat → Int32) (p1 p2 : Int32) : Nat → Int32 → Int32 → Option (Int32) :=
  zl2 (fun rec5 v3_5 v4_5 => if c_edges ≤ v4_5 then (some (v3_5)) else (zb1 (fX3_isWay p1 p2 v4_5 c_points c_edges c_ohms c_one c_other) (fun r19 => if r19 = 0 then (rec5 (v3_5 ||| ((1 : Int32) <<< (v4_5 &&& 31))) (v4_5 + (1 : Int32))) else (rec5 v3_5 (v4_5 + (1 : Int32))))))
def fX3_bridgesOf (p1 p2 c_points c_edges : Int32) (c_ohms c_one c_other : Nat → Int32) : Option (Int32) :=
  fX3_bridgesOf_L5 c_points c_edges c_ohms c_one c_other p1 p2 5000 (0 : Int32) (0 : Int32)
set_option maxHeartbeats 4000000 in
set_option maxRecDepth 100000 in
theorem mX3_bridgesOf (l : Launch) (D : va_G) (cy : Nat → ClassId) (sz : Nat) (b b_one b_other b_ohms b_trees b_worth b_best : Nat) (c_points c_edges : Int32) (c_ohms c_one c_other : Nat → Int32) (p1 p2 : Int32) (res : (Int32)) (h : fX3_bridgesOf p1 p2 c_points c_edges c_ohms c_one c_other = some res) : zMi l yX3_bridgesOf wsX3_bridgesOf rmX3_bridgesOf [.ref b, .int p1, .int p2] D cy (wdX3_bridgesOf cy b b_one b_other b_ohms b_trees b_worth b_best c_points c_edges c_ohms c_one c_other) sz ((fun (o : (Int32)) => o) res) ((fun (o : (Int32)) => (wdX3_bridgesOf cy b b_one b_other b_ohms b_trees b_worth b_best c_points c_edges c_ohms c_one c_other)) res) := by
  refine zOfi (res := res) (rf := (fun (o : (Int32)) => o)) (Wf := (fun (o : (Int32)) => (wdX3_bridgesOf cy b b_one b_other b_ohms b_trees b_worth b_best c_points c_edges c_ohms c_one c_other))) (by decide +kernel) rfl (Nat.le_of_ble_eq_true rfl) ?_
  intro p e s m args below meth c A ls Q hx hb hml hts hown hP hK hD hA hS hl hret
  have hown : s.vm.findClass RX3 = some m.cls := hown
  have hl : lv_has ls 5 [(0, .ref b), (1, .int p1), (2, .int p2)] := hl
  refine lv_iconst (v := (0 : Int32)) hx hb dX3_bridgesOf_0 (by decide) ?_
  refine lv_istore_n (lv' := [(3, .int (0 : Int32)), (0, .ref b), (1, .int p1), (2, .int p2)]) hx hb dX3_bridgesOf_1 rfl hl (Nat.le_of_ble_eq_true rfl) rfl (fun ls hl => ?_)
  refine lv_iconst (v := (0 : Int32)) hx hb dX3_bridgesOf_2 (by decide) ?_
  refine lv_istore (lv' := [(4, .int (0 : Int32)), (3, .int (0 : Int32)), (0, .ref b), (1, .int p1), (2, .int p2)]) hx hb dX3_bridgesOf_3 hl (Nat.le_of_ble_eq_true rfl) rfl (fun ls hl => ?_)
  have hL5 : ∀ n5 : Nat, ∀ (v3_5 v4_5 : Int32) (H : Heap) (locs : List Loc) (ls : Array Slot), va_P D vwCl (wdX3_bridgesOf cy b b_one b_other b_ohms b_trees b_worth b_best c_points c_edges c_ohms c_one c_other) H → va_D A (wdX3_bridgesOf cy b b_one b_other b_ohms b_trees b_worth b_best c_points c_edges c_ohms c_one c_other) → va_S A s.heap H locs → lv_has ls 5 [(0, .ref b), (1, .int p1), (2, .int p2), (3, .int v3_5), (4, .int v4_5)] → fX3_bridgesOf_L5 c_points c_edges c_ohms c_one c_other p1 p2 n5 v3_5 v4_5 = some res → W p l e rmX3_bridgesOf s m args below meth c H locs 0 0 Q (F0 m 5 ls []) := by
    intro n5
    induction n5 with
    | zero =>
      intro v3_5 v4_5 H locs ls hP hD hS hl h
      exact zl2_0 h
    | succ n5 ih5 =>
      intro v3_5 v4_5 H locs ls hP hD hS hl h
      replace h := zl2_s h
      refine lv_iload hx hb dX3_bridgesOf_5 (lv_at hl 4 rfl) ?_
      refine lv_aload_n hx hb dX3_bridgesOf_7 rfl (lv_at hl 0 rfl) ?_
      refine va_get (D := D) (ci := 3) (v := .int c_edges) (C := RX3) (T := TX3) (N := 8) hx hb hts uX3_bridgesOf_X3 hown hK.1 hP 0 rfl rfl 1 (by decide) (hts (.fieldLink RX3 38 "WishedResistor$Mesh" "edges" "I") (List.mem_of_getElem? (i := 1) rfl)) (fun _ h9 => h9) rfl dX3_bridgesOf_8 ?_
      refine lv_icmp_ge (tgt := 38) hx hb dX3_bridgesOf_11 (by decide) (fun hc11 => ?_) (fun hc11 => ?_)
      · replace h := zi_t hc11 h
        refine lv_iload_n hx hb dX3_bridgesOf_38 rfl (lv_at hl 3 rfl) ?_
        exact hret (o := (v3_5)) h hP hD hS dX3_bridgesOf_39
      · replace h := zi_f hc11 h
        refine lv_aload_n hx hb dX3_bridgesOf_14 rfl (lv_at hl 0 rfl) ?_
        refine lv_iload_n hx hb dX3_bridgesOf_15 rfl (lv_at hl 1 rfl) ?_
        refine lv_iload_n hx hb dX3_bridgesOf_16 rfl (lv_at hl 2 rfl) ?_
        refine lv_iload hx hb dX3_bridgesOf_17 (lv_at hl 4 rfl) ?_
        obtain ⟨r19, hq19, h⟩ := zb1_s h
        refine zCz (r0 := r19) (w1 := (wdX3_isWay cy b b_one b_other b_ohms b_trees b_worth b_best c_points c_edges c_ohms c_one c_other)) (ws' := (wdX3_bridgesOf cy b b_one b_other b_ohms b_trees b_worth b_best c_points c_edges c_ohms c_one c_other)) (va_runV (As := [.int p1, .int p2, .int v4_5]) (rest := []) ⟨hx, hb, hml, hown, hts⟩ (mX3_isWay l D cy H.size b b_one b_other b_ohms b_trees b_worth b_best c_points c_edges c_ohms c_one c_other p1 p2 v4_5 (r19) hq19) (cwV 3 hts gX3_bridgesOf_X3_isWay rfl rfl rfl ⟨rfl, cdX3_isWay⟩ ⟨Nat.le_of_ble_eq_true rfl, Nat.le_of_ble_eq_true rfl⟩) (zPV hK hP hD [0, 1, 2, 3] rfl rfl (q0 := 0) (ci := 3) rfl rfl rfl) rfl rfl hl.1 rfl (lv_room (Nat.le_of_ble_eq_true rfl)) dX3_bridgesOf_19 ⟨Nat.zero_le _, Nat.zero_le _⟩) hP hD hS hA [0, 1, 2, 3] [] [0, 1, 2, 3] rfl rfl rfl rfl (fun H locs hn19 hP hD hS => ?_)
        refine lv_if_ne (tgt := 32) hx hb dX3_bridgesOf_22 (by decide) (fun hc22 => ?_) (fun hc22 => ?_)
        · replace h := zi_f hc22 h
          refine lv_iinc (v := (v4_5 + (1 : Int32))) (lv' := [(4, .int (v4_5 + (1 : Int32))), (0, .ref b), (1, .int p1), (2, .int p2), (3, .int v3_5)]) hx hb dX3_bridgesOf_32 hl (k := 4) rfl (by rfl) (Nat.le_of_ble_eq_true rfl) rfl (fun ls hl => ?_)
          refine lv_goto (tgt := 5) hx hb dX3_bridgesOf_35 (by decide) ?_
          exact ih5 v3_5 (v4_5 + (1 : Int32)) _ _ _ hP hD hS (lv_sub hl [1, 2, 3, 4, 0] rfl) h
        · replace h := zi_t hc22 h
          refine lv_iload_n hx hb dX3_bridgesOf_25 rfl (lv_at hl 3 rfl) ?_
          refine lv_iconst (v := (1 : Int32)) hx hb dX3_bridgesOf_26 (by decide) ?_
          refine lv_iload hx hb dX3_bridgesOf_27 (lv_at hl 4 rfl) ?_
          refine lv_ishl hx hb dX3_bridgesOf_29 ?_
          refine lv_ior hx hb dX3_bridgesOf_30 ?_
          refine lv_istore_n (lv' := [(3, .int (v3_5 ||| ((1 : Int32) <<< (v4_5 &&& 31)))), (0, .ref b), (1, .int p1), (2, .int p2), (4, .int v4_5)]) hx hb dX3_bridgesOf_31 rfl hl (Nat.le_of_ble_eq_true rfl) rfl (fun ls hl => ?_)
          refine lv_iinc (v := (v4_5 + (1 : Int32))) (lv' := [(4, .int (v4_5 + (1 : Int32))), (3, .int (v3_5 ||| ((1 : Int32) <<< (v4_5 &&& 31)))), (0, .ref b), (1, .int p1), (2, .int p2)]) hx hb dX3_bridgesOf_32 hl (k := 4) rfl (by rfl) (Nat.le_of_ble_eq_true rfl) rfl (fun ls hl => ?_)
          refine lv_goto (tgt := 5) hx hb dX3_bridgesOf_35 (by decide) ?_
          exact ih5 (v3_5 ||| ((1 : Int32) <<< (v4_5 &&& 31))) (v4_5 + (1 : Int32)) _ _ _ hP hD hS (lv_sub hl [2, 3, 4, 1, 0] rfl) h
  exact hL5 5000 (0 : Int32) (0 : Int32) _ _ _ hP hD hS (lv_sub hl [2, 3, 4, 1, 0] rfl) h
