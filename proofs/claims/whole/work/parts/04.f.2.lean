theorem uX10_lay_X10 : ∀ w ∈ u_ws RX10 TX10 10, w ∈ wsX10_lay := fun w h => (List.mem_cons_of_mem _ (List.mem_append_left _ (List.mem_append_left _ (List.mem_append_right _ h))))
theorem uX10_lay_X9 : ∀ w ∈ u_ws RX9 TX9 3, w ∈ wsX10_lay := fun w h => (List.mem_cons_of_mem _ (List.mem_append_left _ (List.mem_append_right _ h)))
abbrev wdX10_lay (cy : Nat → ClassId) (b b_box b_nets b_meter b_tape b_plan b_found b_mesh b_trays b_moved b_kept b_nets_kind b_nets_first b_nets_second b_nets_parts b_nets_likes b_nets_letters b_nets_waiting b_nets_made b_trays_e0 b_trays_e1 b_trays_e2 b_trays_e0_places b_trays_e1_places b_trays_e2_places : Nat) (c_nets_count c_trays_e0_kind c_trays_e0_size c_trays_e1_kind c_trays_e1_size c_trays_e2_kind c_trays_e2_size : Int32) (c_nets_kind c_trays_e0_places c_trays_e1_places c_trays_e2_places : Nat → Int32) : va_W := [(b, .inr (10, [.ref b_box, .ref b_nets, .ref b_meter, .ref b_tape, .ref b_plan, .ref b_found, .ref b_mesh, .ref b_trays, .ref b_moved, .ref b_kept])), (b_nets, .inr (5, [.ref b_nets_kind, .ref b_nets_first, .ref b_nets_second, .ref b_nets_parts, .int c_nets_count, .ref b_nets_likes, .ref b_nets_letters, .ref b_nets_waiting, .ref b_nets_made])), (b_trays, .inl (cy 4, 3, .inr (.inr (.inr (.inr (va_up (va_up (va_up (fun _ => none) 0 (some b_trays_e0)) 1 (some b_trays_e1)) 2 (some b_trays_e2))))))), (b_trays_e0, .inr (9, [.int c_trays_e0_kind, .int c_trays_e0_size, .ref b_trays_e0_places])), (b_trays_e1, .inr (9, [.int c_trays_e1_kind, .int c_trays_e1_size, .ref b_trays_e1_places])), (b_trays_e2, .inr (9, [.int c_trays_e2_kind, .int c_trays_e2_size, .ref b_trays_e2_places])), (b_nets_kind, .inl (cy 0, 40, .inl c_nets_kind)), (b_trays_e0_places, .inl (cy 0, 20, .inl c_trays_e0_places)), (b_trays_e1_places, .inl (cy 0, 20, .inl c_trays_e1_places)), (b_trays_e2_places, .inl (cy 0, 20, .inl c_trays_e2_places))]
abbrev rmX10_lay : Room := { frames := 2, cells := 0, slots := 0, locals := 43 }
theorem cdX10_lay : (yX10_lay).cls ≠ "java/lang/invoke/MethodHandle" ∧ (yX10_lay).cls ≠ "java/lang/invoke/VarHandle" ∧ (parseMethodDescriptor (yX10_lay).desc).map (fun d => d.parameters.length) = some 3 := by decide +kernel
def fX10_lay_J25 (c_nets_count c_trays_e0_kind c_trays_e0_size c_trays_e1_kind c_trays_e1_size c_trays_e2_kind c_trays_e2_size : Int32) (c_nets_kind c_trays_e0_places c_trays_e1_places c_trays_e2_places : Nat → Int32) (p1 p2 p3 : Int32)  : Option (Int32 × (Nat → Int32) × (Nat → Int32) × (Nat → Int32)) :=
  if p1 = (0 : Int32) then (zb1 (fX9_isMissing c_trays_e0_kind) (fun r35 => if r35 = 0 then (zb1 (fX9_hasPlace p2 c_trays_e0_size) (fun r47 => if r47 = 0 then (some ((-13 : Int32), c_trays_e0_places, c_trays_e1_places, c_trays_e2_places)) else (zb1 (fX9_fits p3 c_trays_e0_kind c_nets_count c_nets_kind) (fun r63 => if r63 = 0 then (some ((-12 : Int32), c_trays_e0_places, c_trays_e1_places, c_trays_e2_places)) else (zg (zin p2 20) (some ((1 : Int32), (upd c_trays_e0_places (p2).toNatClampNeg p3), c_trays_e1_places, c_trays_e2_places))))))) else (some ((-11 : Int32), c_trays_e0_places, c_trays_e1_places, c_trays_e2_places)))) else (if p1 = (1 : Int32) then (zb1 (fX9_isMissing c_trays_e1_kind) (fun r35 => if r35 = 0 then (zb1 (fX9_hasPlace p2 c_trays_e1_size) (fun r47 => if r47 = 0 then (some ((-13 : Int32), c_trays_e0_places, c_trays_e1_places, c_trays_e2_places)) else (zb1 (fX9_fits p3 c_trays_e1_kind c_nets_count c_nets_kind) (fun r63 => if r63 = 0 then (some ((-12 : Int32), c_trays_e0_places, c_trays_e1_places, c_trays_e2_places)) else (zg (zin p2 20) (some ((1 : Int32), c_trays_e0_places, (upd c_trays_e1_places (p2).toNatClampNeg p3), c_trays_e2_places))))))) else (some ((-11 : Int32), c_trays_e0_places, c_trays_e1_places, c_trays_e2_places)))) else (if p1 = (2 : Int32) then (zb1 (fX9_isMissing c_trays_e2_kind) (fun r35 => if r35 = 0 then (zb1 (fX9_hasPlace p2 c_trays_e2_size) (fun r47 => if r47 = 0 then (some ((-13 : Int32), c_trays_e0_places, c_trays_e1_places, c_trays_e2_places)) else (zb1 (fX9_fits p3 c_trays_e2_kind c_nets_count c_nets_kind) (fun r63 => if r63 = 0 then (some ((-12 : Int32), c_trays_e0_places, c_trays_e1_places, c_trays_e2_places)) else (zg (zin p2 20) (some ((1 : Int32), c_trays_e0_places, c_trays_e1_places, (upd c_trays_e2_places (p2).toNatClampNeg p3)))))))) else (some ((-11 : Int32), c_trays_e0_places, c_trays_e1_places, c_trays_e2_places)))) else (none)))
def fX10_lay (p1 p2 p3 c_nets_count c_trays_e0_kind c_trays_e0_size c_trays_e1_kind c_trays_e1_size c_trays_e2_kind c_trays_e2_size : Int32) (c_nets_kind c_trays_e0_places c_trays_e1_places c_trays_e2_places : Nat → Int32) : Option (Int32 × (Nat → Int32) × (Nat → Int32) × (Nat → Int32)) :=
  zb1 (fX10_isTray p1) (fun r1 => if r1 = 0 then (some ((-1 : Int32), c_trays_e0_places, c_trays_e1_places, c_trays_e2_places)) else (if p3 = (-1 : Int32) then (fX10_lay_J25 c_nets_count c_trays_e0_kind c_trays_e0_size c_trays_e1_kind c_trays_e1_size c_trays_e2_kind c_trays_e2_size c_nets_kind c_trays_e0_places c_trays_e1_places c_trays_e2_places p1 p2 p3) else (zb1 (fX5_has p3 c_nets_count) (fun r17 => if r17 = 0 then (some ((-1 : Int32), c_trays_e0_places, c_trays_e1_places, c_trays_e2_places)) else (fX10_lay_J25 c_nets_count c_trays_e0_kind c_trays_e0_size c_trays_e1_kind c_trays_e1_size c_trays_e2_kind c_trays_e2_size c_nets_kind c_trays_e0_places c_trays_e1_places c_trays_e2_places p1 p2 p3)))))
set_option maxHeartbeats 4000000 in
set_option maxRecDepth 100000 in
theorem mX10_lay (l : Launch) (D : va_G) (cy : Nat → ClassId) (sz : Nat) (b b_box b_nets b_meter b_tape b_plan b_found b_mesh b_trays b_moved b_kept b_nets_kind b_nets_first b_nets_second b_nets_parts b_nets_likes b_nets_letters b_nets_waiting b_nets_made b_trays_e0 b_trays_e1 b_trays_e2 b_trays_e0_places b_trays_e1_places b_trays_e2_places : Nat) (c_nets_count c_trays_e0_kind c_trays_e0_size c_trays_e1_kind c_trays_e1_size c_trays_e2_kind c_trays_e2_size : Int32) (c_nets_kind c_trays_e0_places c_trays_e1_places c_trays_e2_places : Nat → Int32) (p1 p2 p3 : Int32) (res : (Int32 × (Nat → Int32) × (Nat → Int32) × (Nat → Int32))) (h : fX10_lay p1 p2 p3 c_nets_count c_trays_e0_kind c_trays_e0_size c_trays_e1_kind c_trays_e1_size c_trays_e2_kind c_trays_e2_size c_nets_kind c_trays_e0_places c_trays_e1_places c_trays_e2_places = some res) : zMi l yX10_lay wsX10_lay rmX10_lay [.ref b, .int p1, .int p2, .int p3] D cy (wdX10_lay cy b b_box b_nets b_meter b_tape b_plan b_found b_mesh b_trays b_moved b_kept b_nets_kind b_nets_first b_nets_second b_nets_parts b_nets_likes b_nets_letters b_nets_waiting b_nets_made b_trays_e0 b_trays_e1 b_trays_e2 b_trays_e0_places b_trays_e1_places b_trays_e2_places c_nets_count c_trays_e0_kind c_trays_e0_size c_trays_e1_kind c_trays_e1_size c_trays_e2_kind c_trays_e2_size c_nets_kind c_trays_e0_places c_trays_e1_places c_trays_e2_places) sz ((fun (o : (Int32 × (Nat → Int32) × (Nat → Int32) × (Nat → Int32))) => o.1) res) ((fun (o : (Int32 × (Nat → Int32) × (Nat → Int32) × (Nat → Int32))) => (wdX10_lay cy b b_box b_nets b_meter b_tape b_plan b_found b_mesh b_trays b_moved b_kept b_nets_kind b_nets_first b_nets_second b_nets_parts b_nets_likes b_nets_letters b_nets_waiting b_nets_made b_trays_e0 b_trays_e1 b_trays_e2 b_trays_e0_places b_trays_e1_places b_trays_e2_places c_nets_count c_trays_e0_kind c_trays_e0_size c_trays_e1_kind c_trays_e1_size c_trays_e2_kind c_trays_e2_size c_nets_kind (o.2.1) (o.2.2.1) (o.2.2.2))) res) := by
  refine zOfi (res := res) (rf := (fun (o : (Int32 × (Nat → Int32) × (Nat → Int32) × (Nat → Int32))) => o.1)) (Wf := (fun (o : (Int32 × (Nat → Int32) × (Nat → Int32) × (Nat → Int32))) => (wdX10_lay cy b b_box b_nets b_meter b_tape b_plan b_found b_mesh b_trays b_moved b_kept b_nets_kind b_nets_first b_nets_second b_nets_parts b_nets_likes b_nets_letters b_nets_waiting b_nets_made b_trays_e0 b_trays_e1 b_trays_e2 b_trays_e0_places b_trays_e1_places b_trays_e2_places c_nets_count c_trays_e0_kind c_trays_e0_size c_trays_e1_kind c_trays_e1_size c_trays_e2_kind c_trays_e2_size c_nets_kind (o.2.1) (o.2.2.1) (o.2.2.2)))) (by decide +kernel) rfl (Nat.le_of_ble_eq_true rfl) ?_
  intro p e s m args below meth c A ls Q hx hb hml hts hown hP hK hD hA hS hl hret
  have hown : s.vm.findClass RX10 = some m.cls := hown
  have hl : lv_has ls 5 [(0, .ref b), (1, .int p1), (2, .int p2), (3, .int p3)] := hl
  refine lv_iload_n hx hb dX10_lay_0 rfl (lv_at hl 1 rfl) ?_
  obtain ⟨r1, hq1, h⟩ := zb1_s h
  refine zCz0 (r0 := r1) (va_runS (As := [.int p1]) (rest := []) ⟨hx, hb, hml, hown, hts⟩ (mX10_isTray l D cy s.heap.size p1 (r1) hq1) (va_cwS 1 hts gX10_lay_X10_isTray rfl rfl rfl cdX10_isTray ⟨Nat.le_of_ble_eq_true rfl, Nat.le_of_ble_eq_true rfl⟩) (zPS hK hP hD [] rfl rfl) rfl rfl hl.1 rfl (lv_room (Nat.le_of_ble_eq_true rfl)) dX10_lay_1 ⟨Nat.zero_le _, Nat.zero_le _⟩) hP hD hS hA (fun H locs hn1 hP hD hS => ?_)
  refine lv_if_eq (tgt := 23) hx hb dX10_lay_4 (by decide) (fun hc4 => ?_) (fun hc4 => ?_)
  · replace h := zi_t hc4 h
    refine lv_iconst (v := (-1 : Int32)) hx hb dX10_lay_23 (by decide) ?_
    exact hret (o := ((-1 : Int32), c_trays_e0_places, c_trays_e1_places, c_trays_e2_places)) h hP hD hS dX10_lay_24
  · replace h := zi_f hc4 h
    refine lv_iload_n hx hb dX10_lay_7 rfl (lv_at hl 3 rfl) ?_
    refine lv_iconst (v := (-1 : Int32)) hx hb dX10_lay_8 (by decide) ?_
    have hJ25 : ∀  (H : Heap) (locs : List Loc) (ls : Array Slot), va_P D vwCl (wdX10_lay cy b b_box b_nets b_meter b_tape b_plan b_found b_mesh b_trays b_moved b_kept b_nets_kind b_nets_first b_nets_second b_nets_parts b_nets_likes b_nets_letters b_nets_waiting b_nets_made b_trays_e0 b_trays_e1 b_trays_e2 b_trays_e0_places b_trays_e1_places b_trays_e2_places c_nets_count c_trays_e0_kind c_trays_e0_size c_trays_e1_kind c_trays_e1_size c_trays_e2_kind c_trays_e2_size c_nets_kind c_trays_e0_places c_trays_e1_places c_trays_e2_places) H → va_D A (wdX10_lay cy b b_box b_nets b_meter b_tape b_plan b_found b_mesh b_trays b_moved b_kept b_nets_kind b_nets_first b_nets_second b_nets_parts b_nets_likes b_nets_letters b_nets_waiting b_nets_made b_trays_e0 b_trays_e1 b_trays_e2 b_trays_e0_places b_trays_e1_places b_trays_e2_places c_nets_count c_trays_e0_kind c_trays_e0_size c_trays_e1_kind c_trays_e1_size c_trays_e2_kind c_trays_e2_size c_nets_kind c_trays_e0_places c_trays_e1_places c_trays_e2_places) → va_S A s.heap H locs → lv_has ls 5 [(0, .ref b), (1, .int p1), (2, .int p2), (3, .int p3)] → fX10_lay_J25 c_nets_count c_trays_e0_kind c_trays_e0_size c_trays_e1_kind c_trays_e1_size c_trays_e2_kind c_trays_e2_size c_nets_kind c_trays_e0_places c_trays_e1_places c_trays_e2_places p1 p2 p3 = some res → W p l e rmX10_lay s m args below meth c H locs 0 0 Q (F0 m 25 ls []) := by
      intro  H locs ls hP hD hS hl h
      refine lv_aload_n hx hb dX10_lay_25 rfl (lv_at hl 0 rfl) ?_
      refine va_get (D := D) (ci := 10) (v := .ref b_trays) (C := RX10) (T := TX10) (N := 10) hx hb hts uX10_lay_X10 hown hK.1 hP 0 rfl rfl 7 (by decide) (hts (.fieldLink RX10 66 "WishedResistor" "trays" "[LWishedResistor$Tray;") (List.mem_of_getElem? (i := 2) rfl)) (fun _ h9 => h9) rfl dX10_lay_26 ?_
      refine lv_iload_n hx hb dX10_lay_29 rfl (lv_at hl 1 rfl) ?_
      by_cases hc30_0 : p1 = (0 : Int32)
      · replace h := zi_t hc30_0 h
        refine zaldc (v := b_trays_e0) hx hb hK.1 hP 2 4 rfl rfl (by rw [hc30_0]; exact (show zin (0 : Int32) 3 from by decide)) (by rw [hc30_0]; rfl) dX10_lay_30 ?_
        refine lv_astore (lv' := [(4, .ref b_trays_e0), (0, .ref b), (1, .int p1), (2, .int p2), (3, .int p3)]) hx hb dX10_lay_31 hl (Nat.le_of_ble_eq_true rfl) rfl (fun ls hl => ?_)
        refine lv_aload hx hb dX10_lay_33 (lv_at hl 0 rfl) ?_
        obtain ⟨r35, hq35, h⟩ := zb1_s h
        refine zCz (r0 := r35) (w1 := (wdX9_isMissing cy b_trays_e0 b_trays_e0_places c_trays_e0_kind c_trays_e0_size)) (ws' := (wdX10_lay cy b b_box b_nets b_meter b_tape b_plan b_found b_mesh b_trays b_moved b_kept b_nets_kind b_nets_first b_nets_second b_nets_parts b_nets_likes b_nets_letters b_nets_waiting b_nets_made b_trays_e0 b_trays_e1 b_trays_e2 b_trays_e0_places b_trays_e1_places b_trays_e2_places c_nets_count c_trays_e0_kind c_trays_e0_size c_trays_e1_kind c_trays_e1_size c_trays_e2_kind c_trays_e2_size c_nets_kind c_trays_e0_places c_trays_e1_places c_trays_e2_places)) (va_runV (As := []) (rest := []) ⟨hx, hb, hml, hown, hts⟩ (mX9_isMissing l D cy H.size b_trays_e0 b_trays_e0_places c_trays_e0_kind c_trays_e0_size (r35) hq35) (cwV 0 hts gX10_lay_X9_isMissing rfl rfl rfl ⟨rfl, cdX9_isMissing⟩ ⟨Nat.le_of_ble_eq_true rfl, Nat.le_of_ble_eq_true rfl⟩) (zPV hK hP hD [3] rfl rfl (q0 := 3) (ci := 9) rfl rfl rfl) rfl rfl hl.1 rfl (lv_room (Nat.le_of_ble_eq_true rfl)) dX10_lay_35 ⟨Nat.zero_le _, Nat.zero_le _⟩) hP hD hS hA [3] [0, 1, 2, 4, 5, 6, 7, 8, 9] [0, 1, 2, 9, 3, 4, 5, 6, 7, 8] rfl rfl rfl rfl (fun H locs hn35 hP hD hS => ?_)
        refine lv_if_eq (tgt := 44) hx hb dX10_lay_38 (by decide) (fun hc38 => ?_) (fun hc38 => ?_)
        · replace h := zi_t hc38 h
          refine lv_aload hx hb dX10_lay_44 (lv_at hl 0 rfl) ?_
          refine lv_iload_n hx hb dX10_lay_46 rfl (lv_at hl 3 rfl) ?_
          obtain ⟨r47, hq47, h⟩ := zb1_s h
          refine zCz (r0 := r47) (w1 := (wdX9_hasPlace cy b_trays_e0 b_trays_e0_places c_trays_e0_kind c_trays_e0_size)) (ws' := (wdX10_lay cy b b_box b_nets b_meter b_tape b_plan b_found b_mesh b_trays b_moved b_kept b_nets_kind b_nets_first b_nets_second b_nets_parts b_nets_likes b_nets_letters b_nets_waiting b_nets_made b_trays_e0 b_trays_e1 b_trays_e2 b_trays_e0_places b_trays_e1_places b_trays_e2_places c_nets_count c_trays_e0_kind c_trays_e0_size c_trays_e1_kind c_trays_e1_size c_trays_e2_kind c_trays_e2_size c_nets_kind c_trays_e0_places c_trays_e1_places c_trays_e2_places)) (va_runV (As := [.int p2]) (rest := []) ⟨hx, hb, hml, hown, hts⟩ (mX9_hasPlace l D cy H.size b_trays_e0 b_trays_e0_places c_trays_e0_kind c_trays_e0_size p2 (r47) hq47) (cwV 1 hts gX10_lay_X9_hasPlace rfl rfl rfl ⟨rfl, cdX9_hasPlace⟩ ⟨Nat.le_of_ble_eq_true rfl, Nat.le_of_ble_eq_true rfl⟩) (zPV hK hP hD [3] rfl rfl (q0 := 3) (ci := 9) rfl rfl rfl) rfl rfl hl.1 rfl (lv_room (Nat.le_of_ble_eq_true rfl)) dX10_lay_47 ⟨Nat.zero_le _, Nat.zero_le _⟩) hP hD hS hA [3] [0, 1, 2, 4, 5, 6, 7, 8, 9] [0, 1, 2, 9, 3, 4, 5, 6, 7, 8] rfl rfl rfl rfl (fun H locs hn47 hP hD hS => ?_)
          refine lv_if_ne (tgt := 56) hx hb dX10_lay_50 (by decide) (fun hc50 => ?_) (fun hc50 => ?_)
          · replace h := zi_f hc50 h
            refine lv_aload hx hb dX10_lay_56 (lv_at hl 0 rfl) ?_
            refine lv_aload_n hx hb dX10_lay_58 rfl (lv_at hl 1 rfl) ?_
            refine va_get (D := D) (ci := 10) (v := .ref b_nets) (C := RX10) (T := TX10) (N := 10) hx hb hts uX10_lay_X10 hown hK.1 hP 0 rfl rfl 1 (by decide) (hts (.fieldLink RX10 21 "WishedResistor" "nets" "LWishedResistor$Nets;") (List.mem_of_getElem? (i := 1) rfl)) (fun _ h9 => h9) rfl dX10_lay_59 ?_
            refine lv_iload_n hx hb dX10_lay_62 rfl (lv_at hl 4 rfl) ?_
            obtain ⟨r63, hq63, h⟩ := zb1_s h
            refine zCz (r0 := r63) (w1 := (wdX9_fits cy b_trays_e0 b_trays_e0_places b_nets b_nets_kind b_nets_first b_nets_second b_nets_parts b_nets_likes b_nets_letters b_nets_waiting b_nets_made c_trays_e0_kind c_trays_e0_size c_nets_count c_nets_kind)) (ws' := (wdX10_lay cy b b_box b_nets b_meter b_tape b_plan b_found b_mesh b_trays b_moved b_kept b_nets_kind b_nets_first b_nets_second b_nets_parts b_nets_likes b_nets_letters b_nets_waiting b_nets_made b_trays_e0 b_trays_e1 b_trays_e2 b_trays_e0_places b_trays_e1_places b_trays_e2_places c_nets_count c_trays_e0_kind c_trays_e0_size c_trays_e1_kind c_trays_e1_size c_trays_e2_kind c_trays_e2_size c_nets_kind c_trays_e0_places c_trays_e1_places c_trays_e2_places)) (va_runV (As := [.ref b_nets, .int p3]) (rest := []) ⟨hx, hb, hml, hown, hts⟩ (mX9_fits l D cy H.size b_trays_e0 b_trays_e0_places b_nets b_nets_kind b_nets_first b_nets_second b_nets_parts b_nets_likes b_nets_letters b_nets_waiting b_nets_made c_trays_e0_kind c_trays_e0_size c_nets_count c_nets_kind p3 (r63) hq63) (cwV 2 hts gX10_lay_X9_fits rfl rfl rfl ⟨rfl, cdX9_fits⟩ ⟨Nat.le_of_ble_eq_true rfl, Nat.le_of_ble_eq_true rfl⟩) (zPV hK hP hD [3, 1, 6] rfl rfl (q0 := 3) (ci := 9) rfl rfl rfl) rfl rfl hl.1 rfl (lv_room (Nat.le_of_ble_eq_true rfl)) dX10_lay_63 ⟨Nat.zero_le _, Nat.zero_le _⟩) hP hD hS hA [3, 1, 6] [0, 2, 4, 5, 7, 8, 9] [0, 8, 1, 7, 2, 3, 9, 4, 5, 6] rfl rfl rfl rfl (fun H locs hn63 hP hD hS => ?_)
            refine lv_if_ne (tgt := 72) hx hb dX10_lay_66 (by decide) (fun hc66 => ?_) (fun hc66 => ?_)
            · replace h := zi_f hc66 h
              refine lv_aload hx hb dX10_lay_72 (lv_at hl 0 rfl) ?_
              refine va_get (D := D) (ci := 9) (v := .ref b_trays_e0_places) (C := RX9) (T := TX9) (N := 3) hx hb hts uX10_lay_X9 hown hK.1 hP 3 rfl rfl 2 (by decide) (hts (.fieldLink RX10 283 "WishedResistor$Tray" "places" "[I") (List.mem_of_getElem? (i := 3) rfl)) (fun _ h9 => h9) rfl dX10_lay_74 ?_
              refine lv_iload_n hx hb dX10_lay_77 rfl (lv_at hl 3 rfl) ?_
              refine lv_iload_n hx hb dX10_lay_78 rfl (lv_at hl 4 rfl) ?_
              obtain ⟨hi79, h⟩ := zg_s h
              refine va_iast hx hb hK.1 hP hD hS 7 0 rfl rfl hi79 dX10_lay_79 (fun H locs hP hD hS => ?_)
              have hP : va_P D vwCl (wdX10_lay cy b b_box b_nets b_meter b_tape b_plan b_found b_mesh b_trays b_moved b_kept b_nets_kind b_nets_first b_nets_second b_nets_parts b_nets_likes b_nets_letters b_nets_waiting b_nets_made b_trays_e0 b_trays_e1 b_trays_e2 b_trays_e0_places b_trays_e1_places b_trays_e2_places c_nets_count c_trays_e0_kind c_trays_e0_size c_trays_e1_kind c_trays_e1_size c_trays_e2_kind c_trays_e2_size c_nets_kind (upd c_trays_e0_places (p2).toNatClampNeg p3) c_trays_e1_places c_trays_e2_places) H := hP
              have hD : va_D A (wdX10_lay cy b b_box b_nets b_meter b_tape b_plan b_found b_mesh b_trays b_moved b_kept b_nets_kind b_nets_first b_nets_second b_nets_parts b_nets_likes b_nets_letters b_nets_waiting b_nets_made b_trays_e0 b_trays_e1 b_trays_e2 b_trays_e0_places b_trays_e1_places b_trays_e2_places c_nets_count c_trays_e0_kind c_trays_e0_size c_trays_e1_kind c_trays_e1_size c_trays_e2_kind c_trays_e2_size c_nets_kind (upd c_trays_e0_places (p2).toNatClampNeg p3) c_trays_e1_places c_trays_e2_places) := hD
              refine lv_iconst (v := (1 : Int32)) hx hb dX10_lay_80 (by decide) ?_
              exact hret (o := ((1 : Int32), (upd c_trays_e0_places (p2).toNatClampNeg p3), c_trays_e1_places, c_trays_e2_places)) h hP hD hS dX10_lay_81
            · replace h := zi_t hc66 h
              refine lv_bipush (v := (-12 : Int32)) hx hb dX10_lay_69 (by decide) ?_
              exact hret (o := ((-12 : Int32), c_trays_e0_places, c_trays_e1_places, c_trays_e2_places)) h hP hD hS dX10_lay_71
          · replace h := zi_t hc50 h
            refine lv_bipush (v := (-13 : Int32)) hx hb dX10_lay_53 (by decide) ?_
            exact hret (o := ((-13 : Int32), c_trays_e0_places, c_trays_e1_places, c_trays_e2_places)) h hP hD hS dX10_lay_55
        · replace h := zi_f hc38 h
          refine lv_bipush (v := (-11 : Int32)) hx hb dX10_lay_41 (by decide) ?_
          exact hret (o := ((-11 : Int32), c_trays_e0_places, c_trays_e1_places, c_trays_e2_places)) h hP hD hS dX10_lay_43
      · replace h := zi_f hc30_0 h
        by_cases hc30_1 : p1 = (1 : Int32)
        · replace h := zi_t hc30_1 h
          refine zaldc (v := b_trays_e1) hx hb hK.1 hP 2 4 rfl rfl (by rw [hc30_1]; exact (show zin (1 : Int32) 3 from by decide)) (by rw [hc30_1]; rfl) dX10_lay_30 ?_
          refine lv_astore (lv' := [(4, .ref b_trays_e1), (0, .ref b), (1, .int p1), (2, .int p2), (3, .int p3)]) hx hb dX10_lay_31 hl (Nat.le_of_ble_eq_true rfl) rfl (fun ls hl => ?_)
          refine lv_aload hx hb dX10_lay_33 (lv_at hl 0 rfl) ?_
          obtain ⟨r35, hq35, h⟩ := zb1_s h
          refine zCz (r0 := r35) (w1 := (wdX9_isMissing cy b_trays_e1 b_trays_e1_places c_trays_e1_kind c_trays_e1_size)) (ws' := (wdX10_lay cy b b_box b_nets b_meter b_tape b_plan b_found b_mesh b_trays b_moved b_kept b_nets_kind b_nets_first b_nets_second b_nets_parts b_nets_likes b_nets_letters b_nets_waiting b_nets_made b_trays_e0 b_trays_e1 b_trays_e2 b_trays_e0_places b_trays_e1_places b_trays_e2_places c_nets_count c_trays_e0_kind c_trays_e0_size c_trays_e1_kind c_trays_e1_size c_trays_e2_kind c_trays_e2_size c_nets_kind c_trays_e0_places c_trays_e1_places c_trays_e2_places)) (va_runV (As := []) (rest := []) ⟨hx, hb, hml, hown, hts⟩ (mX9_isMissing l D cy H.size b_trays_e1 b_trays_e1_places c_trays_e1_kind c_trays_e1_size (r35) hq35) (cwV 0 hts gX10_lay_X9_isMissing rfl rfl rfl ⟨rfl, cdX9_isMissing⟩ ⟨Nat.le_of_ble_eq_true rfl, Nat.le_of_ble_eq_true rfl⟩) (zPV hK hP hD [4] rfl rfl (q0 := 4) (ci := 9) rfl rfl rfl) rfl rfl hl.1 rfl (lv_room (Nat.le_of_ble_eq_true rfl)) dX10_lay_35 ⟨Nat.zero_le _, Nat.zero_le _⟩) hP hD hS hA [4] [0, 1, 2, 3, 5, 6, 7, 8, 9] [0, 1, 2, 3, 9, 4, 5, 6, 7, 8] rfl rfl rfl rfl (fun H locs hn35 hP hD hS => ?_)
          refine lv_if_eq (tgt := 44) hx hb dX10_lay_38 (by decide) (fun hc38 => ?_) (fun hc38 => ?_)
          · replace h := zi_t hc38 h
            refine lv_aload hx hb dX10_lay_44 (lv_at hl 0 rfl) ?_
            refine lv_iload_n hx hb dX10_lay_46 rfl (lv_at hl 3 rfl) ?_
            obtain ⟨r47, hq47, h⟩ := zb1_s h
            refine zCz (r0 := r47) (w1 := (wdX9_hasPlace cy b_trays_e1 b_trays_e1_places c_trays_e1_kind c_trays_e1_size)) (ws' := (wdX10_lay cy b b_box b_nets b_meter b_tape b_plan b_found b_mesh b_trays b_moved b_kept b_nets_kind b_nets_first b_nets_second b_nets_parts b_nets_likes b_nets_letters b_nets_waiting b_nets_made b_trays_e0 b_trays_e1 b_trays_e2 b_trays_e0_places b_trays_e1_places b_trays_e2_places c_nets_count c_trays_e0_kind c_trays_e0_size c_trays_e1_kind c_trays_e1_size c_trays_e2_kind c_trays_e2_size c_nets_kind c_trays_e0_places c_trays_e1_places c_trays_e2_places)) (va_runV (As := [.int p2]) (rest := []) ⟨hx, hb, hml, hown, hts⟩ (mX9_hasPlace l D cy H.size b_trays_e1 b_trays_e1_places c_trays_e1_kind c_trays_e1_size p2 (r47) hq47) (cwV 1 hts gX10_lay_X9_hasPlace rfl rfl rfl ⟨rfl, cdX9_hasPlace⟩ ⟨Nat.le_of_ble_eq_true rfl, Nat.le_of_ble_eq_true rfl⟩) (zPV hK hP hD [4] rfl rfl (q0 := 4) (ci := 9) rfl rfl rfl) rfl rfl hl.1 rfl (lv_room (Nat.le_of_ble_eq_true rfl)) dX10_lay_47 ⟨Nat.zero_le _, Nat.zero_le _⟩) hP hD hS hA [4] [0, 1, 2, 3, 5, 6, 7, 8, 9] [0, 1, 2, 3, 9, 4, 5, 6, 7, 8] rfl rfl rfl rfl (fun H locs hn47 hP hD hS => ?_)
            refine lv_if_ne (tgt := 56) hx hb dX10_lay_50 (by decide) (fun hc50 => ?_) (fun hc50 => ?_)
            · replace h := zi_f hc50 h
              refine lv_aload hx hb dX10_lay_56 (lv_at hl 0 rfl) ?_
              refine lv_aload_n hx hb dX10_lay_58 rfl (lv_at hl 1 rfl) ?_
              refine va_get (D := D) (ci := 10) (v := .ref b_nets) (C := RX10) (T := TX10) (N := 10) hx hb hts uX10_lay_X10 hown hK.1 hP 0 rfl rfl 1 (by decide) (hts (.fieldLink RX10 21 "WishedResistor" "nets" "LWishedResistor$Nets;") (List.mem_of_getElem? (i := 1) rfl)) (fun _ h9 => h9) rfl dX10_lay_59 ?_
              refine lv_iload_n hx hb dX10_lay_62 rfl (lv_at hl 4 rfl) ?_
              obtain ⟨r63, hq63, h⟩ := zb1_s h
              refine zCz (r0 := r63) (w1 := (wdX9_fits cy b_trays_e1 b_trays_e1_places b_nets b_nets_kind b_nets_first b_nets_second b_nets_parts b_nets_likes b_nets_letters b_nets_waiting b_nets_made c_trays_e1_kind c_trays_e1_size c_nets_count c_nets_kind)) (ws' := (wdX10_lay cy b b_box b_nets b_meter b_tape b_plan b_found b_mesh b_trays b_moved b_kept b_nets_kind b_nets_first b_nets_second b_nets_parts b_nets_likes b_nets_letters b_nets_waiting b_nets_made b_trays_e0 b_trays_e1 b_trays_e2 b_trays_e0_places b_trays_e1_places b_trays_e2_places c_nets_count c_trays_e0_kind c_trays_e0_size c_trays_e1_kind c_trays_e1_size c_trays_e2_kind c_trays_e2_size c_nets_kind c_trays_e0_places c_trays_e1_places c_trays_e2_places)) (va_runV (As := [.ref b_nets, .int p3]) (rest := []) ⟨hx, hb, hml, hown, hts⟩ (mX9_fits l D cy H.size b_trays_e1 b_trays_e1_places b_nets b_nets_kind b_nets_first b_nets_second b_nets_parts b_nets_likes b_nets_letters b_nets_waiting b_nets_made c_trays_e1_kind c_trays_e1_size c_nets_count c_nets_kind p3 (r63) hq63) (cwV 2 hts gX10_lay_X9_fits rfl rfl rfl ⟨rfl, cdX9_fits⟩ ⟨Nat.le_of_ble_eq_true rfl, Nat.le_of_ble_eq_true rfl⟩) (zPV hK hP hD [4, 1, 6] rfl rfl (q0 := 4) (ci := 9) rfl rfl rfl) rfl rfl hl.1 rfl (lv_room (Nat.le_of_ble_eq_true rfl)) dX10_lay_63 ⟨Nat.zero_le _, Nat.zero_le _⟩) hP hD hS hA [4, 1, 6] [0, 2, 3, 5, 7, 8, 9] [0, 8, 1, 2, 7, 3, 9, 4, 5, 6] rfl rfl rfl rfl (fun H locs hn63 hP hD hS => ?_)
              refine lv_if_ne (tgt := 72) hx hb dX10_lay_66 (by decide) (fun hc66 => ?_) (fun hc66 => ?_)
              · replace h := zi_f hc66 h
                refine lv_aload hx hb dX10_lay_72 (lv_at hl 0 rfl) ?_
                refine va_get (D := D) (ci := 9) (v := .ref b_trays_e1_places) (C := RX9) (T := TX9) (N := 3) hx hb hts uX10_lay_X9 hown hK.1 hP 4 rfl rfl 2 (by decide) (hts (.fieldLink RX10 283 "WishedResistor$Tray" "places" "[I") (List.mem_of_getElem? (i := 3) rfl)) (fun _ h9 => h9) rfl dX10_lay_74 ?_
                refine lv_iload_n hx hb dX10_lay_77 rfl (lv_at hl 3 rfl) ?_
                refine lv_iload_n hx hb dX10_lay_78 rfl (lv_at hl 4 rfl) ?_
                obtain ⟨hi79, h⟩ := zg_s h
                refine va_iast hx hb hK.1 hP hD hS 8 0 rfl rfl hi79 dX10_lay_79 (fun H locs hP hD hS => ?_)
                have hP : va_P D vwCl (wdX10_lay cy b b_box b_nets b_meter b_tape b_plan b_found b_mesh b_trays b_moved b_kept b_nets_kind b_nets_first b_nets_second b_nets_parts b_nets_likes b_nets_letters b_nets_waiting b_nets_made b_trays_e0 b_trays_e1 b_trays_e2 b_trays_e0_places b_trays_e1_places b_trays_e2_places c_nets_count c_trays_e0_kind c_trays_e0_size c_trays_e1_kind c_trays_e1_size c_trays_e2_kind c_trays_e2_size c_nets_kind c_trays_e0_places (upd c_trays_e1_places (p2).toNatClampNeg p3) c_trays_e2_places) H := hP
                have hD : va_D A (wdX10_lay cy b b_box b_nets b_meter b_tape b_plan b_found b_mesh b_trays b_moved b_kept b_nets_kind b_nets_first b_nets_second b_nets_parts b_nets_likes b_nets_letters b_nets_waiting b_nets_made b_trays_e0 b_trays_e1 b_trays_e2 b_trays_e0_places b_trays_e1_places b_trays_e2_places c_nets_count c_trays_e0_kind c_trays_e0_size c_trays_e1_kind c_trays_e1_size c_trays_e2_kind c_trays_e2_size c_nets_kind c_trays_e0_places (upd c_trays_e1_places (p2).toNatClampNeg p3) c_trays_e2_places) := hD
                refine lv_iconst (v := (1 : Int32)) hx hb dX10_lay_80 (by decide) ?_
                exact hret (o := ((1 : Int32), c_trays_e0_places, (upd c_trays_e1_places (p2).toNatClampNeg p3), c_trays_e2_places)) h hP hD hS dX10_lay_81
              · replace h := zi_t hc66 h
                refine lv_bipush (v := (-12 : Int32)) hx hb dX10_lay_69 (by decide) ?_
                exact hret (o := ((-12 : Int32), c_trays_e0_places, c_trays_e1_places, c_trays_e2_places)) h hP hD hS dX10_lay_71
            · replace h := zi_t hc50 h
              refine lv_bipush (v := (-13 : Int32)) hx hb dX10_lay_53 (by decide) ?_
              exact hret (o := ((-13 : Int32), c_trays_e0_places, c_trays_e1_places, c_trays_e2_places)) h hP hD hS dX10_lay_55
          · replace h := zi_f hc38 h
            refine lv_bipush (v := (-11 : Int32)) hx hb dX10_lay_41 (by decide) ?_
            exact hret (o := ((-11 : Int32), c_trays_e0_places, c_trays_e1_places, c_trays_e2_places)) h hP hD hS dX10_lay_43
        · replace h := zi_f hc30_1 h
          by_cases hc30_2 : p1 = (2 : Int32)
          · replace h := zi_t hc30_2 h
            refine zaldc (v := b_trays_e2) hx hb hK.1 hP 2 4 rfl rfl (by rw [hc30_2]; exact (show zin (2 : Int32) 3 from by decide)) (by rw [hc30_2]; rfl) dX10_lay_30 ?_
            refine lv_astore (lv' := [(4, .ref b_trays_e2), (0, .ref b), (1, .int p1), (2, .int p2), (3, .int p3)]) hx hb dX10_lay_31 hl (Nat.le_of_ble_eq_true rfl) rfl (fun ls hl => ?_)
            refine lv_aload hx hb dX10_lay_33 (lv_at hl 0 rfl) ?_
            obtain ⟨r35, hq35, h⟩ := zb1_s h
            refine zCz (r0 := r35) (w1 := (wdX9_isMissing cy b_trays_e2 b_trays_e2_places c_trays_e2_kind c_trays_e2_size)) (ws' := (wdX10_lay cy b b_box b_nets b_meter b_tape b_plan b_found b_mesh b_trays b_moved b_kept b_nets_kind b_nets_first b_nets_second b_nets_parts b_nets_likes b_nets_letters b_nets_waiting b_nets_made b_trays_e0 b_trays_e1 b_trays_e2 b_trays_e0_places b_trays_e1_places b_trays_e2_places c_nets_count c_trays_e0_kind c_trays_e0_size c_trays_e1_kind c_trays_e1_size c_trays_e2_kind c_trays_e2_size c_nets_kind c_trays_e0_places c_trays_e1_places c_trays_e2_places)) (va_runV (As := []) (rest := []) ⟨hx, hb, hml, hown, hts⟩ (mX9_isMissing l D cy H.size b_trays_e2 b_trays_e2_places c_trays_e2_kind c_trays_e2_size (r35) hq35) (cwV 0 hts gX10_lay_X9_isMissing rfl rfl rfl ⟨rfl, cdX9_isMissing⟩ ⟨Nat.le_of_ble_eq_true rfl, Nat.le_of_ble_eq_true rfl⟩) (zPV hK hP hD [5] rfl rfl (q0 := 5) (ci := 9) rfl rfl rfl) rfl rfl hl.1 rfl (lv_room (Nat.le_of_ble_eq_true rfl)) dX10_lay_35 ⟨Nat.zero_le _, Nat.zero_le _⟩) hP hD hS hA [5] [0, 1, 2, 3, 4, 6, 7, 8, 9] [0, 1, 2, 3, 4, 9, 5, 6, 7, 8] rfl rfl rfl rfl (fun H locs hn35 hP hD hS => ?_)
            refine lv_if_eq (tgt := 44) hx hb dX10_lay_38 (by decide) (fun hc38 => ?_) (fun hc38 => ?_)
            · replace h := zi_t hc38 h
              refine lv_aload hx hb dX10_lay_44 (lv_at hl 0 rfl) ?_
              refine lv_iload_n hx hb dX10_lay_46 rfl (lv_at hl 3 rfl) ?_
              obtain ⟨r47, hq47, h⟩ := zb1_s h
              refine zCz (r0 := r47) (w1 := (wdX9_hasPlace cy b_trays_e2 b_trays_e2_places c_trays_e2_kind c_trays_e2_size)) (ws' := (wdX10_lay cy b b_box b_nets b_meter b_tape b_plan b_found b_mesh b_trays b_moved b_kept b_nets_kind b_nets_first b_nets_second b_nets_parts b_nets_likes b_nets_letters b_nets_waiting b_nets_made b_trays_e0 b_trays_e1 b_trays_e2 b_trays_e0_places b_trays_e1_places b_trays_e2_places c_nets_count c_trays_e0_kind c_trays_e0_size c_trays_e1_kind c_trays_e1_size c_trays_e2_kind c_trays_e2_size c_nets_kind c_trays_e0_places c_trays_e1_places c_trays_e2_places)) (va_runV (As := [.int p2]) (rest := []) ⟨hx, hb, hml, hown, hts⟩ (mX9_hasPlace l D cy H.size b_trays_e2 b_trays_e2_places c_trays_e2_kind c_trays_e2_size p2 (r47) hq47) (cwV 1 hts gX10_lay_X9_hasPlace rfl rfl rfl ⟨rfl, cdX9_hasPlace⟩ ⟨Nat.le_of_ble_eq_true rfl, Nat.le_of_ble_eq_true rfl⟩) (zPV hK hP hD [5] rfl rfl (q0 := 5) (ci := 9) rfl rfl rfl) rfl rfl hl.1 rfl (lv_room (Nat.le_of_ble_eq_true rfl)) dX10_lay_47 ⟨Nat.zero_le _, Nat.zero_le _⟩) hP hD hS hA [5] [0, 1, 2, 3, 4, 6, 7, 8, 9] [0, 1, 2, 3, 4, 9, 5, 6, 7, 8] rfl rfl rfl rfl (fun H locs hn47 hP hD hS => ?_)
              refine lv_if_ne (tgt := 56) hx hb dX10_lay_50 (by decide) (fun hc50 => ?_) (fun hc50 => ?_)
              · replace h := zi_f hc50 h
                refine lv_aload hx hb dX10_lay_56 (lv_at hl 0 rfl) ?_
                refine lv_aload_n hx hb dX10_lay_58 rfl (lv_at hl 1 rfl) ?_
                refine va_get (D := D) (ci := 10) (v := .ref b_nets) (C := RX10) (T := TX10) (N := 10) hx hb hts uX10_lay_X10 hown hK.1 hP 0 rfl rfl 1 (by decide) (hts (.fieldLink RX10 21 "WishedResistor" "nets" "LWishedResistor$Nets;") (List.mem_of_getElem? (i := 1) rfl)) (fun _ h9 => h9) rfl dX10_lay_59 ?_
                refine lv_iload_n hx hb dX10_lay_62 rfl (lv_at hl 4 rfl) ?_
                obtain ⟨r63, hq63, h⟩ := zb1_s h
                refine zCz (r0 := r63) (w1 := (wdX9_fits cy b_trays_e2 b_trays_e2_places b_nets b_nets_kind b_nets_first b_nets_second b_nets_parts b_nets_likes b_nets_letters b_nets_waiting b_nets_made c_trays_e2_kind c_trays_e2_size c_nets_count c_nets_kind)) (ws' := (wdX10_lay cy b b_box b_nets b_meter b_tape b_plan b_found b_mesh b_trays b_moved b_kept b_nets_kind b_nets_first b_nets_second b_nets_parts b_nets_likes b_nets_letters b_nets_waiting b_nets_made b_trays_e0 b_trays_e1 b_trays_e2 b_trays_e0_places b_trays_e1_places b_trays_e2_places c_nets_count c_trays_e0_kind c_trays_e0_size c_trays_e1_kind c_trays_e1_size c_trays_e2_kind c_trays_e2_size c_nets_kind c_trays_e0_places c_trays_e1_places c_trays_e2_places)) (va_runV (As := [.ref b_nets, .int p3]) (rest := []) ⟨hx, hb, hml, hown, hts⟩ (mX9_fits l D cy H.size b_trays_e2 b_trays_e2_places b_nets b_nets_kind b_nets_first b_nets_second b_nets_parts b_nets_likes b_nets_letters b_nets_waiting b_nets_made c_trays_e2_kind c_trays_e2_size c_nets_count c_nets_kind p3 (r63) hq63) (cwV 2 hts gX10_lay_X9_fits rfl rfl rfl ⟨rfl, cdX9_fits⟩ ⟨Nat.le_of_ble_eq_true rfl, Nat.le_of_ble_eq_true rfl⟩) (zPV hK hP hD [5, 1, 6] rfl rfl (q0 := 5) (ci := 9) rfl rfl rfl) rfl rfl hl.1 rfl (lv_room (Nat.le_of_ble_eq_true rfl)) dX10_lay_63 ⟨Nat.zero_le _, Nat.zero_le _⟩) hP hD hS hA [5, 1, 6] [0, 2, 3, 4, 7, 8, 9] [0, 8, 1, 2, 3, 7, 9, 4, 5, 6] rfl rfl rfl rfl (fun H locs hn63 hP hD hS => ?_)
                refine lv_if_ne (tgt := 72) hx hb dX10_lay_66 (by decide) (fun hc66 => ?_) (fun hc66 => ?_)
                · replace h := zi_f hc66 h
                  refine lv_aload hx hb dX10_lay_72 (lv_at hl 0 rfl) ?_
                  refine va_get (D := D) (ci := 9) (v := .ref b_trays_e2_places) (C := RX9) (T := TX9) (N := 3) hx hb hts uX10_lay_X9 hown hK.1 hP 5 rfl rfl 2 (by decide) (hts (.fieldLink RX10 283 "WishedResistor$Tray" "places" "[I") (List.mem_of_getElem? (i := 3) rfl)) (fun _ h9 => h9) rfl dX10_lay_74 ?_
                  refine lv_iload_n hx hb dX10_lay_77 rfl (lv_at hl 3 rfl) ?_
                  refine lv_iload_n hx hb dX10_lay_78 rfl (lv_at hl 4 rfl) ?_
                  obtain ⟨hi79, h⟩ := zg_s h
                  refine va_iast hx hb hK.1 hP hD hS 9 0 rfl rfl hi79 dX10_lay_79 (fun H locs hP hD hS => ?_)
                  have hP : va_P D vwCl (wdX10_lay cy b b_box b_nets b_meter b_tape b_plan b_found b_mesh b_trays b_moved b_kept b_nets_kind b_nets_first b_nets_second b_nets_parts b_nets_likes b_nets_letters b_nets_waiting b_nets_made b_trays_e0 b_trays_e1 b_trays_e2 b_trays_e0_places b_trays_e1_places b_trays_e2_places c_nets_count c_trays_e0_kind c_trays_e0_size c_trays_e1_kind c_trays_e1_size c_trays_e2_kind c_trays_e2_size c_nets_kind c_trays_e0_places c_trays_e1_places (upd c_trays_e2_places (p2).toNatClampNeg p3)) H := hP
                  have hD : va_D A (wdX10_lay cy b b_box b_nets b_meter b_tape b_plan b_found b_mesh b_trays b_moved b_kept b_nets_kind b_nets_first b_nets_second b_nets_parts b_nets_likes b_nets_letters b_nets_waiting b_nets_made b_trays_e0 b_trays_e1 b_trays_e2 b_trays_e0_places b_trays_e1_places b_trays_e2_places c_nets_count c_trays_e0_kind c_trays_e0_size c_trays_e1_kind c_trays_e1_size c_trays_e2_kind c_trays_e2_size c_nets_kind c_trays_e0_places c_trays_e1_places (upd c_trays_e2_places (p2).toNatClampNeg p3)) := hD
                  refine lv_iconst (v := (1 : Int32)) hx hb dX10_lay_80 (by decide) ?_
                  exact hret (o := ((1 : Int32), c_trays_e0_places, c_trays_e1_places, (upd c_trays_e2_places (p2).toNatClampNeg p3))) h hP hD hS dX10_lay_81
                · replace h := zi_t hc66 h
                  refine lv_bipush (v := (-12 : Int32)) hx hb dX10_lay_69 (by decide) ?_
                  exact hret (o := ((-12 : Int32), c_trays_e0_places, c_trays_e1_places, c_trays_e2_places)) h hP hD hS dX10_lay_71
              · replace h := zi_t hc50 h
                refine lv_bipush (v := (-13 : Int32)) hx hb dX10_lay_53 (by decide) ?_
                exact hret (o := ((-13 : Int32), c_trays_e0_places, c_trays_e1_places, c_trays_e2_places)) h hP hD hS dX10_lay_55
            · replace h := zi_f hc38 h
              refine lv_bipush (v := (-11 : Int32)) hx hb dX10_lay_41 (by decide) ?_
              exact hret (o := ((-11 : Int32), c_trays_e0_places, c_trays_e1_places, c_trays_e2_places)) h hP hD hS dX10_lay_43
          · replace h := zi_f hc30_2 h
            exact z_none h
    refine lv_icmp_eq (tgt := 25) hx hb dX10_lay_9 (by decide) (fun hc9 => ?_) (fun hc9 => ?_)
    · replace h := zi_t hc9 h
      exact hJ25 _ _ _ hP hD hS (lv_sub hl [0, 1, 2, 3] rfl) h
    · replace h := zi_f hc9 h
      refine lv_aload_n hx hb dX10_lay_12 rfl (lv_at hl 0 rfl) ?_
      refine va_get (D := D) (ci := 10) (v := .ref b_nets) (C := RX10) (T := TX10) (N := 10) hx hb hts uX10_lay_X10 hown hK.1 hP 0 rfl rfl 1 (by decide) (hts (.fieldLink RX10 21 "WishedResistor" "nets" "LWishedResistor$Nets;") (List.mem_of_getElem? (i := 1) rfl)) (fun _ h9 => h9) rfl dX10_lay_13 ?_
      refine lv_iload_n hx hb dX10_lay_16 rfl (lv_at hl 3 rfl) ?_
      obtain ⟨r17, hq17, h⟩ := zb1_s h
      refine zCz (r0 := r17) (w1 := (wdX5_has cy b_nets b_nets_kind b_nets_first b_nets_second b_nets_parts b_nets_likes b_nets_letters b_nets_waiting b_nets_made c_nets_count)) (ws' := (wdX10_lay cy b b_box b_nets b_meter b_tape b_plan b_found b_mesh b_trays b_moved b_kept b_nets_kind b_nets_first b_nets_second b_nets_parts b_nets_likes b_nets_letters b_nets_waiting b_nets_made b_trays_e0 b_trays_e1 b_trays_e2 b_trays_e0_places b_trays_e1_places b_trays_e2_places c_nets_count c_trays_e0_kind c_trays_e0_size c_trays_e1_kind c_trays_e1_size c_trays_e2_kind c_trays_e2_size c_nets_kind c_trays_e0_places c_trays_e1_places c_trays_e2_places)) (va_runV (As := [.int p3]) (rest := []) ⟨hx, hb, hml, hown, hts⟩ (mX5_has l D cy H.size b_nets b_nets_kind b_nets_first b_nets_second b_nets_parts b_nets_likes b_nets_letters b_nets_waiting b_nets_made c_nets_count p3 (r17) hq17) (cwV 1 hts gX10_lay_X5_has rfl rfl rfl ⟨rfl, cdX5_has⟩ ⟨Nat.le_of_ble_eq_true rfl, Nat.le_of_ble_eq_true rfl⟩) (zPV hK hP hD [1] rfl rfl (q0 := 1) (ci := 5) rfl rfl rfl) rfl rfl hl.1 rfl (lv_room (Nat.le_of_ble_eq_true rfl)) dX10_lay_17 ⟨Nat.zero_le _, Nat.zero_le _⟩) hP hD hS hA [1] [0, 2, 3, 4, 5, 6, 7, 8, 9] [0, 9, 1, 2, 3, 4, 5, 6, 7, 8] rfl rfl rfl rfl (fun H locs hn17 hP hD hS => ?_)
      refine lv_if_ne (tgt := 25) hx hb dX10_lay_20 (by decide) (fun hc20 => ?_) (fun hc20 => ?_)
      · replace h := zi_f hc20 h
        exact hJ25 _ _ _ hP hD hS (lv_sub hl [0, 1, 2, 3] rfl) h
      · replace h := zi_t hc20 h
        refine lv_iconst (v := (-1 : Int32)) hx hb dX10_lay_23 (by decide) ?_
        exact hret (o := ((-1 : Int32), c_trays_e0_places, c_trays_e1_places, c_trays_e2_places)) h hP hD hS dX10_lay_24

theorem uX10_at_X10 : ∀ w ∈ u_ws RX10 TX10 10, w ∈ wsX10_at := fun w h => (List.mem_cons_of_mem _ (List.mem_append_left _ (List.mem_append_right _ h)))
theorem uX10_at_X9 : ∀ w ∈ u_ws RX9 TX9 3, w ∈ wsX10_at := fun w h => (List.mem_cons_of_mem _ (List.mem_append_right _ h))
abbrev wdX10_at (cy : Nat → ClassId) (b b_box b_nets b_meter b_tape b_plan b_found b_mesh b_trays b_moved b_kept b_trays_e0 b_trays_e1 b_trays_e2 b_trays_e0_places b_trays_e1_places b_trays_e2_places : Nat) (c_trays_e0_kind c_trays_e0_size c_trays_e1_kind c_trays_e1_size c_trays_e2_kind c_trays_e2_size : Int32) (c_trays_e0_places c_trays_e1_places c_trays_e2_places : Nat → Int32) : va_W := [(b, .inr (10, [.ref b_box, .ref b_nets, .ref b_meter, .ref b_tape, .ref b_plan, .ref b_found, .ref b_mesh, .ref b_trays, .ref b_moved, .ref b_kept])), (b_trays, .inl (cy 4, 3, .inr (.inr (.inr (.inr (va_up (va_up (va_up (fun _ => none) 0 (some b_trays_e0)) 1 (some b_trays_e1)) 2 (some b_trays_e2))))))), (b_trays_e0, .inr (9, [.int c_trays_e0_kind, .int c_trays_e0_size, .ref b_trays_e0_places])), (b_trays_e1, .inr (9, [.int c_trays_e1_kind, .int c_trays_e1_size, .ref b_trays_e1_places])), (b_trays_e2, .inr (9, [.int c_trays_e2_kind, .int c_trays_e2_size, .ref b_trays_e2_places])), (b_trays_e0_places, .inl (cy 0, 20, .inl c_trays_e0_places)), (b_trays_e1_places, .inl (cy 0, 20, .inl c_trays_e1_places)), (b_trays_e2_places, .inl (cy 0, 20, .inl c_trays_e2_places))]
abbrev rmX10_at : Room := { frames := 1, cells := 0, slots := 0, locals := 21 }
theorem cdX10_at : (yX10_at).cls ≠ "java/lang/invoke/MethodHandle" ∧ (yX10_at).cls ≠ "java/lang/invoke/VarHandle" ∧ (parseMethodDescriptor (yX10_at).desc).map (fun d => d.parameters.length) = some 2 := by decide +kernel
def fX10_at (p1 p2 c_trays_e0_kind c_trays_e0_size c_trays_e1_kind c_trays_e1_size c_trays_e2_kind c_trays_e2_size : Int32) (c_trays_e0_places c_trays_e1_places c_trays_e2_places : Nat → Int32) : Option (Int32) :=
  zb1 (fX10_isTray p1) (fun r1 => if r1 = 0 then (some ((-1 : Int32))) else (if p1 = (0 : Int32) then (zb1 (fX9_isMissing c_trays_e0_kind) (fun r17 => if r17 = 0 then (zb1 (fX9_hasPlace p2 c_trays_e0_size) (fun r28 => if r28 = 0 then (some ((-13 : Int32))) else (zg (zin p2 20) (if (c_trays_e0_places (p2).toNatClampNeg) = (-1 : Int32) then (some ((-2 : Int32))) else (zg (zin p2 20) (some ((c_trays_e0_places (p2).toNatClampNeg)))))))) else (some ((-11 : Int32))))) else (if p1 = (1 : Int32) then (zb1 (fX9_isMissing c_trays_e1_kind) (fun r17 => if r17 = 0 then (zb1 (fX9_hasPlace p2 c_trays_e1_size) (fun r28 => if r28 = 0 then (some ((-13 : Int32))) else (zg (zin p2 20) (if (c_trays_e1_places (p2).toNatClampNeg) = (-1 : Int32) then (some ((-2 : Int32))) else (zg (zin p2 20) (some ((c_trays_e1_places (p2).toNatClampNeg)))))))) else (some ((-11 : Int32))))) else (if p1 = (2 : Int32) then (zb1 (fX9_isMissing c_trays_e2_kind) (fun r17 => if r17 = 0 then (zb1 (fX9_hasPlace p2 c_trays_e2_size) (fun r28 => if r28 = 0 then (some ((-13 : Int32))) else (zg (zin p2 20) (if (c_trays_e2_places (p2).toNatClampNeg) = (-1 : Int32) then (some ((-2 : Int32))) else (zg (zin p2 20) (some ((c_trays_e2_places (p2).toNatClampNeg)))))))) else (some ((-11 : Int32))))) else (none)))))
set_option maxHeartbeats 4000000 in
set_option maxRecDepth 100000 in
theorem mX10_at (l : Launch) (D : va_G) (cy : Nat → ClassId) (sz : Nat) (b b_box b_nets b_meter b_tape b_plan b_found b_mesh b_trays b_moved b_kept b_trays_e0 b_trays_e1 b_trays_e2 b_trays_e0_places b_trays_e1_places b_trays_e2_places : Nat) (c_trays_e0_kind c_trays_e0_size c_trays_e1_kind c_trays_e1_size c_trays_e2_kind c_trays_e2_size : Int32) (c_trays_e0_places c_trays_e1_places c_trays_e2_places : Nat → Int32) (p1 p2 : Int32) (res : (Int32)) (h : fX10_at p1 p2 c_trays_e0_kind c_trays_e0_size c_trays_e1_kind c_trays_e1_size c_trays_e2_kind c_trays_e2_size c_trays_e0_places c_trays_e1_places c_trays_e2_places = some res) : zMi l yX10_at wsX10_at rmX10_at [.ref b, .int p1, .int p2] D cy (wdX10_at cy b b_box b_nets b_meter b_tape b_plan b_found b_mesh b_trays b_moved b_kept b_trays_e0 b_trays_e1 b_trays_e2 b_trays_e0_places b_trays_e1_places b_trays_e2_places c_trays_e0_kind c_trays_e0_size c_trays_e1_kind c_trays_e1_size c_trays_e2_kind c_trays_e2_size c_trays_e0_places c_trays_e1_places c_trays_e2_places) sz ((fun (o : (Int32)) => o) res) ((fun (o : (Int32)) => (wdX10_at cy b b_box b_nets b_meter b_tape b_plan b_found b_mesh b_trays b_moved b_kept b_trays_e0 b_trays_e1 b_trays_e2 b_trays_e0_places b_trays_e1_places b_trays_e2_places c_trays_e0_kind c_trays_e0_size c_trays_e1_kind c_trays_e1_size c_trays_e2_kind c_trays_e2_size c_trays_e0_places c_trays_e1_places c_trays_e2_places)) res) := by
  refine zOfi (res := res) (rf := (fun (o : (Int32)) => o)) (Wf := (fun (o : (Int32)) => (wdX10_at cy b b_box b_nets b_meter b_tape b_plan b_found b_mesh b_trays b_moved b_kept b_trays_e0 b_trays_e1 b_trays_e2 b_trays_e0_places b_trays_e1_places b_trays_e2_places c_trays_e0_kind c_trays_e0_size c_trays_e1_kind c_trays_e1_size c_trays_e2_kind c_trays_e2_size c_trays_e0_places c_trays_e1_places c_trays_e2_places))) (by decide +kernel) rfl (Nat.le_of_ble_eq_true rfl) ?_
  intro p e s m args below meth c A ls Q hx hb hml hts hown hP hK hD hA hS hl hret
  have hown : s.vm.findClass RX10 = some m.cls := hown
  have hl : lv_has ls 4 [(0, .ref b), (1, .int p1), (2, .int p2)] := hl
  refine lv_iload_n hx hb dX10_at_0 rfl (lv_at hl 1 rfl) ?_
  obtain ⟨r1, hq1, h⟩ := zb1_s h
  refine zCz0 (r0 := r1) (va_runS (As := [.int p1]) (rest := []) ⟨hx, hb, hml, hown, hts⟩ (mX10_isTray l D cy s.heap.size p1 (r1) hq1) (va_cwS 1 hts gX10_at_X10_isTray rfl rfl rfl cdX10_isTray ⟨Nat.le_of_ble_eq_true rfl, Nat.le_of_ble_eq_true rfl⟩) (zPS hK hP hD [] rfl rfl) rfl rfl hl.1 rfl (lv_room (Nat.le_of_ble_eq_true rfl)) dX10_at_1 ⟨Nat.zero_le _, Nat.zero_le _⟩) hP hD hS hA (fun H locs hn1 hP hD hS => ?_)
  refine lv_if_ne (tgt := 9) hx hb dX10_at_4 (by decide) (fun hc4 => ?_) (fun hc4 => ?_)
  · replace h := zi_f hc4 h
    refine lv_aload_n hx hb dX10_at_9 rfl (lv_at hl 0 rfl) ?_
    refine va_get (D := D) (ci := 10) (v := .ref b_trays) (C := RX10) (T := TX10) (N := 10) hx hb hts uX10_at_X10 hown hK.1 hP 0 rfl rfl 7 (by decide) (hts (.fieldLink RX10 66 "WishedResistor" "trays" "[LWishedResistor$Tray;") (List.mem_of_getElem? (i := 1) rfl)) (fun _ h9 => h9) rfl dX10_at_10 ?_
    refine lv_iload_n hx hb dX10_at_13 rfl (lv_at hl 1 rfl) ?_
    by_cases hc14_0 : p1 = (0 : Int32)
    · replace h := zi_t hc14_0 h
      refine zaldc (v := b_trays_e0) hx hb hK.1 hP 1 4 rfl rfl (by rw [hc14_0]; exact (show zin (0 : Int32) 3 from by decide)) (by rw [hc14_0]; rfl) dX10_at_14 ?_
      refine lv_astore_n (lv' := [(3, .ref b_trays_e0), (0, .ref b), (1, .int p1), (2, .int p2)]) hx hb dX10_at_15 rfl hl (Nat.le_of_ble_eq_true rfl) rfl (fun ls hl => ?_)
      refine lv_aload_n hx hb dX10_at_16 rfl (lv_at hl 0 rfl) ?_
      obtain ⟨r17, hq17, h⟩ := zb1_s h
      refine zCz (r0 := r17) (w1 := (wdX9_isMissing cy b_trays_e0 b_trays_e0_places c_trays_e0_kind c_trays_e0_size)) (ws' := (wdX10_at cy b b_box b_nets b_meter b_tape b_plan b_found b_mesh b_trays b_moved b_kept b_trays_e0 b_trays_e1 b_trays_e2 b_trays_e0_places b_trays_e1_places b_trays_e2_places c_trays_e0_kind c_trays_e0_size c_trays_e1_kind c_trays_e1_size c_trays_e2_kind c_trays_e2_size c_trays_e0_places c_trays_e1_places c_trays_e2_places)) (va_runV (As := []) (rest := []) ⟨hx, hb, hml, hown, hts⟩ (mX9_isMissing l D cy H.size b_trays_e0 b_trays_e0_places c_trays_e0_kind c_trays_e0_size (r17) hq17) (cwV 0 hts gX10_at_X9_isMissing rfl rfl rfl ⟨rfl, cdX9_isMissing⟩ ⟨Nat.le_of_ble_eq_true rfl, Nat.le_of_ble_eq_true rfl⟩) (zPV hK hP hD [2] rfl rfl (q0 := 2) (ci := 9) rfl rfl rfl) rfl rfl hl.1 rfl (lv_room (Nat.le_of_ble_eq_true rfl)) dX10_at_17 ⟨Nat.zero_le _, Nat.zero_le _⟩) hP hD hS hA [2] [0, 1, 3, 4, 5, 6, 7] [0, 1, 7, 2, 3, 4, 5, 6] rfl rfl rfl rfl (fun H locs hn17 hP hD hS => ?_)
      refine lv_if_eq (tgt := 26) hx hb dX10_at_20 (by decide) (fun hc20 => ?_) (fun hc20 => ?_)
      · replace h := zi_t hc20 h
        refine lv_aload_n hx hb dX10_at_26 rfl (lv_at hl 0 rfl) ?_
        refine lv_iload_n hx hb dX10_at_27 rfl (lv_at hl 3 rfl) ?_
        obtain ⟨r28, hq28, h⟩ := zb1_s h
        refine zCz (r0 := r28) (w1 := (wdX9_hasPlace cy b_trays_e0 b_trays_e0_places c_trays_e0_kind c_trays_e0_size)) (ws' := (wdX10_at cy b b_box b_nets b_meter b_tape b_plan b_found b_mesh b_trays b_moved b_kept b_trays_e0 b_trays_e1 b_trays_e2 b_trays_e0_places b_trays_e1_places b_trays_e2_places c_trays_e0_kind c_trays_e0_size c_trays_e1_kind c_trays_e1_size c_trays_e2_kind c_trays_e2_size c_trays_e0_places c_trays_e1_places c_trays_e2_places)) (va_runV (As := [.int p2]) (rest := []) ⟨hx, hb, hml, hown, hts⟩ (mX9_hasPlace l D cy H.size b_trays_e0 b_trays_e0_places c_trays_e0_kind c_trays_e0_size p2 (r28) hq28) (cwV 1 hts gX10_at_X9_hasPlace rfl rfl rfl ⟨rfl, cdX9_hasPlace⟩ ⟨Nat.le_of_ble_eq_true rfl, Nat.le_of_ble_eq_true rfl⟩) (zPV hK hP hD [2] rfl rfl (q0 := 2) (ci := 9) rfl rfl rfl) rfl rfl hl.1 rfl (lv_room (Nat.le_of_ble_eq_true rfl)) dX10_at_28 ⟨Nat.zero_le _, Nat.zero_le _⟩) hP hD hS hA [2] [0, 1, 3, 4, 5, 6, 7] [0, 1, 7, 2, 3, 4, 5, 6] rfl rfl rfl rfl (fun H locs hn28 hP hD hS => ?_)
        refine lv_if_ne (tgt := 37) hx hb dX10_at_31 (by decide) (fun hc31 => ?_) (fun hc31 => ?_)
        · replace h := zi_f hc31 h
          refine lv_aload_n hx hb dX10_at_37 rfl (lv_at hl 0 rfl) ?_
          refine va_get (D := D) (ci := 9) (v := .ref b_trays_e0_places) (C := RX9) (T := TX9) (N := 3) hx hb hts uX10_at_X9 hown hK.1 hP 2 rfl rfl 2 (by decide) (hts (.fieldLink RX10 283 "WishedResistor$Tray" "places" "[I") (List.mem_of_getElem? (i := 2) rfl)) (fun _ h9 => h9) rfl dX10_at_38 ?_
          refine lv_iload_n hx hb dX10_at_41 rfl (lv_at hl 3 rfl) ?_
          obtain ⟨hi42, h⟩ := zg_s h
          refine va_iald hx hb hK.1 hP 5 0 rfl rfl hi42 dX10_at_42 ?_
          refine lv_iconst (v := (-1 : Int32)) hx hb dX10_at_43 (by decide) ?_
          refine lv_icmp_ne (tgt := 52) hx hb dX10_at_44 (by decide) (fun hc44 => ?_) (fun hc44 => ?_)
          · replace h := zi_f hc44 h
            refine lv_aload_n hx hb dX10_at_52 rfl (lv_at hl 0 rfl) ?_
            refine va_get (D := D) (ci := 9) (v := .ref b_trays_e0_places) (C := RX9) (T := TX9) (N := 3) hx hb hts uX10_at_X9 hown hK.1 hP 2 rfl rfl 2 (by decide) (hts (.fieldLink RX10 283 "WishedResistor$Tray" "places" "[I") (List.mem_of_getElem? (i := 2) rfl)) (fun _ h9 => h9) rfl dX10_at_53 ?_
            refine lv_iload_n hx hb dX10_at_56 rfl (lv_at hl 3 rfl) ?_
            obtain ⟨hi57, h⟩ := zg_s h
            refine va_iald hx hb hK.1 hP 5 0 rfl rfl hi57 dX10_at_57 ?_
            exact hret (o := ((c_trays_e0_places (p2).toNatClampNeg))) h hP hD hS dX10_at_58
          · replace h := zi_t hc44 h
            refine lv_bipush (v := (-2 : Int32)) hx hb dX10_at_47 (by decide) ?_
            refine lv_goto (tgt := 58) hx hb dX10_at_49 (by decide) ?_
            exact hret (o := ((-2 : Int32))) h hP hD hS dX10_at_58
        · replace h := zi_t hc31 h
          refine lv_bipush (v := (-13 : Int32)) hx hb dX10_at_34 (by decide) ?_
          exact hret (o := ((-13 : Int32))) h hP hD hS dX10_at_36
      · replace h := zi_f hc20 h
        refine lv_bipush (v := (-11 : Int32)) hx hb dX10_at_23 (by decide) ?_
        exact hret (o := ((-11 : Int32))) h hP hD hS dX10_at_25
    · replace h := zi_f hc14_0 h
      by_cases hc14_1 : p1 = (1 : Int32)
      · replace h := zi_t hc14_1 h
        refine zaldc (v := b_trays_e1) hx hb hK.1 hP 1 4 rfl rfl (by rw [hc14_1]; exact (show zin (1 : Int32) 3 from by decide)) (by rw [hc14_1]; rfl) dX10_at_14 ?_
        refine lv_astore_n (lv' := [(3, .ref b_trays_e1), (0, .ref b), (1, .int p1), (2, .int p2)]) hx hb dX10_at_15 rfl hl (Nat.le_of_ble_eq_true rfl) rfl (fun ls hl => ?_)
        refine lv_aload_n hx hb dX10_at_16 rfl (lv_at hl 0 rfl) ?_
        obtain ⟨r17, hq17, h⟩ := zb1_s h
        refine zCz (r0 := r17) (w1 := (wdX9_isMissing cy b_trays_e1 b_trays_e1_places c_trays_e1_kind c_trays_e1_size)) (ws' := (wdX10_at cy b b_box b_nets b_meter b_tape b_plan b_found b_mesh b_trays b_moved b_kept b_trays_e0 b_trays_e1 b_trays_e2 b_trays_e0_places b_trays_e1_places b_trays_e2_places c_trays_e0_kind c_trays_e0_size c_trays_e1_kind c_trays_e1_size c_trays_e2_kind c_trays_e2_size c_trays_e0_places c_trays_e1_places c_trays_e2_places)) (va_runV (As := []) (rest := []) ⟨hx, hb, hml, hown, hts⟩ (mX9_isMissing l D cy H.size b_trays_e1 b_trays_e1_places c_trays_e1_kind c_trays_e1_size (r17) hq17) (cwV 0 hts gX10_at_X9_isMissing rfl rfl rfl ⟨rfl, cdX9_isMissing⟩ ⟨Nat.le_of_ble_eq_true rfl, Nat.le_of_ble_eq_true rfl⟩) (zPV hK hP hD [3] rfl rfl (q0 := 3) (ci := 9) rfl rfl rfl) rfl rfl hl.1 rfl (lv_room (Nat.le_of_ble_eq_true rfl)) dX10_at_17 ⟨Nat.zero_le _, Nat.zero_le _⟩) hP hD hS hA [3] [0, 1, 2, 4, 5, 6, 7] [0, 1, 2, 7, 3, 4, 5, 6] rfl rfl rfl rfl (fun H locs hn17 hP hD hS => ?_)
        refine lv_if_eq (tgt := 26) hx hb dX10_at_20 (by decide) (fun hc20 => ?_) (fun hc20 => ?_)
        · replace h := zi_t hc20 h
          refine lv_aload_n hx hb dX10_at_26 rfl (lv_at hl 0 rfl) ?_
          refine lv_iload_n hx hb dX10_at_27 rfl (lv_at hl 3 rfl) ?_
          obtain ⟨r28, hq28, h⟩ := zb1_s h
          refine zCz (r0 := r28) (w1 := (wdX9_hasPlace cy b_trays_e1 b_trays_e1_places c_trays_e1_kind c_trays_e1_size)) (ws' := (wdX10_at cy b b_box b_nets b_meter b_tape b_plan b_found b_mesh b_trays b_moved b_kept b_trays_e0 b_trays_e1 b_trays_e2 b_trays_e0_places b_trays_e1_places b_trays_e2_places c_trays_e0_kind c_trays_e0_size c_trays_e1_kind c_trays_e1_size c_trays_e2_kind c_trays_e2_size c_trays_e0_places c_trays_e1_places c_trays_e2_places)) (va_runV (As := [.int p2]) (rest := []) ⟨hx, hb, hml, hown, hts⟩ (mX9_hasPlace l D cy H.size b_trays_e1 b_trays_e1_places c_trays_e1_kind c_trays_e1_size p2 (r28) hq28) (cwV 1 hts gX10_at_X9_hasPlace rfl rfl rfl ⟨rfl, cdX9_hasPlace⟩ ⟨Nat.le_of_ble_eq_true rfl, Nat.le_of_ble_eq_true rfl⟩) (zPV hK hP hD [3] rfl rfl (q0 := 3) (ci := 9) rfl rfl rfl) rfl rfl hl.1 rfl (lv_room (Nat.le_of_ble_eq_true rfl)) dX10_at_28 ⟨Nat.zero_le _, Nat.zero_le _⟩) hP hD hS hA [3] [0, 1, 2, 4, 5, 6, 7] [0, 1, 2, 7, 3, 4, 5, 6] rfl rfl rfl rfl (fun H locs hn28 hP hD hS => ?_)
          refine lv_if_ne (tgt := 37) hx hb dX10_at_31 (by decide) (fun hc31 => ?_) (fun hc31 => ?_)
          · replace h := zi_f hc31 h
            refine lv_aload_n hx hb dX10_at_37 rfl (lv_at hl 0 rfl) ?_
            refine va_get (D := D) (ci := 9) (v := .ref b_trays_e1_places) (C := RX9) (T := TX9) (N := 3) hx hb hts uX10_at_X9 hown hK.1 hP 3 rfl rfl 2 (by decide) (hts (.fieldLink RX10 283 "WishedResistor$Tray" "places" "[I") (List.mem_of_getElem? (i := 2) rfl)) (fun _ h9 => h9) rfl dX10_at_38 ?_
            refine lv_iload_n hx hb dX10_at_41 rfl (lv_at hl 3 rfl) ?_
            obtain ⟨hi42, h⟩ := zg_s h
            refine va_iald hx hb hK.1 hP 6 0 rfl rfl hi42 dX10_at_42 ?_
            refine lv_iconst (v := (-1 : Int32)) hx hb dX10_at_43 (by decide) ?_
            refine lv_icmp_ne (tgt := 52) hx hb dX10_at_44 (by decide) (fun hc44 => ?_) (fun hc44 => ?_)
            · replace h := zi_f hc44 h
              refine lv_aload_n hx hb dX10_at_52 rfl (lv_at hl 0 rfl) ?_
              refine va_get (D := D) (ci := 9) (v := .ref b_trays_e1_places) (C := RX9) (T := TX9) (N := 3) hx hb hts uX10_at_X9 hown hK.1 hP 3 rfl rfl 2 (by decide) (hts (.fieldLink RX10 283 "WishedResistor$Tray" "places" "[I") (List.mem_of_getElem? (i := 2) rfl)) (fun _ h9 => h9) rfl dX10_at_53 ?_
              refine lv_iload_n hx hb dX10_at_56 rfl (lv_at hl 3 rfl) ?_
              obtain ⟨hi57, h⟩ := zg_s h
              refine va_iald hx hb hK.1 hP 6 0 rfl rfl hi57 dX10_at_57 ?_
              exact hret (o := ((c_trays_e1_places (p2).toNatClampNeg))) h hP hD hS dX10_at_58
            · replace h := zi_t hc44 h
              refine lv_bipush (v := (-2 : Int32)) hx hb dX10_at_47 (by decide) ?_
              refine lv_goto (tgt := 58) hx hb dX10_at_49 (by decide) ?_
              exact hret (o := ((-2 : Int32))) h hP hD hS dX10_at_58
          · replace h := zi_t hc31 h
            refine lv_bipush (v := (-13 : Int32)) hx hb dX10_at_34 (by decide) ?_
            exact hret (o := ((-13 : Int32))) h hP hD hS dX10_at_36
        · replace h := zi_f hc20 h
          refine lv_bipush (v := (-11 : Int32)) hx hb dX10_at_23 (by decide) ?_
          exact hret (o := ((-11 : Int32))) h hP hD hS dX10_at_25
      · replace h := zi_f hc14_1 h
        by_cases hc14_2 : p1 = (2 : Int32)
        · replace h := zi_t hc14_2 h
          refine zaldc (v := b_trays_e2) hx hb hK.1 hP 1 4 rfl rfl (by rw [hc14_2]; exact (show zin (2 : Int32) 3 from by decide)) (by rw [hc14_2]; rfl) dX10_at_14 ?_
          refine lv_astore_n (lv' := [(3, .ref b_trays_e2), (0, .ref b), (1, .int p1), (2, .int p2)]) hx hb dX10_at_15 rfl hl (Nat.le_of_ble_eq_true rfl) rfl (fun ls hl => ?_)
          refine lv_aload_n hx hb dX10_at_16 rfl (lv_at hl 0 rfl) ?_
          obtain ⟨r17, hq17, h⟩ := zb1_s h
          refine zCz (r0 := r17) (w1 := (wdX9_isMissing cy b_trays_e2 b_trays_e2_places c_trays_e2_kind c_trays_e2_size)) (ws' := (wdX10_at cy b b_box b_nets b_meter b_tape b_plan b_found b_mesh b_trays b_moved b_kept b_trays_e0 b_trays_e1 b_trays_e2 b_trays_e0_places b_trays_e1_places b_trays_e2_places c_trays_e0_kind c_trays_e0_size c_trays_e1_kind c_trays_e1_size c_trays_e2_kind c_trays_e2_size c_trays_e0_places c_trays_e1_places c_trays_e2_places)) (va_runV (As := []) (rest := []) ⟨hx, hb, hml, hown, hts⟩ (mX9_isMissing l D cy H.size b_trays_e2 b_trays_e2_places c_trays_e2_kind c_trays_e2_size (r17) hq17) (cwV 0 hts gX10_at_X9_isMissing rfl rfl rfl ⟨rfl, cdX9_isMissing⟩ ⟨Nat.le_of_ble_eq_true rfl, Nat.le_of_ble_eq_true rfl⟩) (zPV hK hP hD [4] rfl rfl (q0 := 4) (ci := 9) rfl rfl rfl) rfl rfl hl.1 rfl (lv_room (Nat.le_of_ble_eq_true rfl)) dX10_at_17 ⟨Nat.zero_le _, Nat.zero_le _⟩) hP hD hS hA [4] [0, 1, 2, 3, 5, 6, 7] [0, 1, 2, 3, 7, 4, 5, 6] rfl rfl rfl rfl (fun H locs hn17 hP hD hS => ?_)
          refine lv_if_eq (tgt := 26) hx hb dX10_at_20 (by decide) (fun hc20 => ?_) (fun hc20 => ?_)
          · replace h := zi_t hc20 h
            refine lv_aload_n hx hb dX10_at_26 rfl (lv_at hl 0 rfl) ?_
            refine lv_iload_n hx hb dX10_at_27 rfl (lv_at hl 3 rfl) ?_
            obtain ⟨r28, hq28, h⟩ := zb1_s h
            refine zCz (r0 := r28) (w1 := (wdX9_hasPlace cy b_trays_e2 b_trays_e2_places c_trays_e2_kind c_trays_e2_size)) (ws' := (wdX10_at cy b b_box b_nets b_meter b_tape b_plan b_found b_mesh b_trays b_moved b_kept b_trays_e0 b_trays_e1 b_trays_e2 b_trays_e0_places b_trays_e1_places b_trays_e2_places c_trays_e0_kind c_trays_e0_size c_trays_e1_kind c_trays_e1_size c_trays_e2_kind c_trays_e2_size c_trays_e0_places c_trays_e1_places c_trays_e2_places)) (va_runV (As := [.int p2]) (rest := []) ⟨hx, hb, hml, hown, hts⟩ (mX9_hasPlace l D cy H.size b_trays_e2 b_trays_e2_places c_trays_e2_kind c_trays_e2_size p2 (r28) hq28) (cwV 1 hts gX10_at_X9_hasPlace rfl rfl rfl ⟨rfl, cdX9_hasPlace⟩ ⟨Nat.le_of_ble_eq_true rfl, Nat.le_of_ble_eq_true rfl⟩) (zPV hK hP hD [4] rfl rfl (q0 := 4) (ci := 9) rfl rfl rfl) rfl rfl hl.1 rfl (lv_room (Nat.le_of_ble_eq_true rfl)) dX10_at_28 ⟨Nat.zero_le _, Nat.zero_le _⟩) hP hD hS hA [4] [0, 1, 2, 3, 5, 6, 7] [0, 1, 2, 3, 7, 4, 5, 6] rfl rfl rfl rfl (fun H locs hn28 hP hD hS => ?_)
            refine lv_if_ne (tgt := 37) hx hb dX10_at_31 (by decide) (fun hc31 => ?_) (fun hc31 => ?_)
            · replace h := zi_f hc31 h
              refine lv_aload_n hx hb dX10_at_37 rfl (lv_at hl 0 rfl) ?_
              refine va_get (D := D) (ci := 9) (v := .ref b_trays_e2_places) (C := RX9) (T := TX9) (N := 3) hx hb hts uX10_at_X9 hown hK.1 hP 4 rfl rfl 2 (by decide) (hts (.fieldLink RX10 283 "WishedResistor$Tray" "places" "[I") (List.mem_of_getElem? (i := 2) rfl)) (fun _ h9 => h9) rfl dX10_at_38 ?_
              refine lv_iload_n hx hb dX10_at_41 rfl (lv_at hl 3 rfl) ?_
              obtain ⟨hi42, h⟩ := zg_s h
              refine va_iald hx hb hK.1 hP 7 0 rfl rfl hi42 dX10_at_42 ?_
              refine lv_iconst (v := (-1 : Int32)) hx hb dX10_at_43 (by decide) ?_
              refine lv_icmp_ne (tgt := 52) hx hb dX10_at_44 (by decide) (fun hc44 => ?_) (fun hc44 => ?_)
              · replace h := zi_f hc44 h
                refine lv_aload_n hx hb dX10_at_52 rfl (lv_at hl 0 rfl) ?_
                refine va_get (D := D) (ci := 9) (v := .ref b_trays_e2_places) (C := RX9) (T := TX9) (N := 3) hx hb hts uX10_at_X9 hown hK.1 hP 4 rfl rfl 2 (by decide) (hts (.fieldLink RX10 283 "WishedResistor$Tray" "places" "[I") (List.mem_of_getElem? (i := 2) rfl)) (fun _ h9 => h9) rfl dX10_at_53 ?_
                refine lv_iload_n hx hb dX10_at_56 rfl (lv_at hl 3 rfl) ?_
                obtain ⟨hi57, h⟩ := zg_s h
                refine va_iald hx hb hK.1 hP 7 0 rfl rfl hi57 dX10_at_57 ?_
                exact hret (o := ((c_trays_e2_places (p2).toNatClampNeg))) h hP hD hS dX10_at_58
              · replace h := zi_t hc44 h
                refine lv_bipush (v := (-2 : Int32)) hx hb dX10_at_47 (by decide) ?_
                refine lv_goto (tgt := 58) hx hb dX10_at_49 (by decide) ?_
                exact hret (o := ((-2 : Int32))) h hP hD hS dX10_at_58
            · replace h := zi_t hc31 h
              refine lv_bipush (v := (-13 : Int32)) hx hb dX10_at_34 (by decide) ?_
              exact hret (o := ((-13 : Int32))) h hP hD hS dX10_at_36
          · replace h := zi_f hc20 h
            refine lv_bipush (v := (-11 : Int32)) hx hb dX10_at_23 (by decide) ?_
            exact hret (o := ((-11 : Int32))) h hP hD hS dX10_at_25
        · replace h := zi_f hc14_2 h
          exact z_none h
  · replace h := zi_t hc4 h
    refine lv_iconst (v := (-1 : Int32)) hx hb dX10_at_7 (by decide) ?_
    exact hret (o := ((-1 : Int32))) h hP hD hS dX10_at_8
