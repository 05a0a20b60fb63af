theorem uX3_measure_X3 : ∀ w ∈ u_ws RX3 TX3 8, w ∈ wsX3_measure := fun w h => (List.mem_cons_of_mem _ (List.mem_append_left _ (List.mem_append_right _ h)))
abbrev wdX3_measure (cy : Nat → ClassId) (b b_one b_other b_ohms b_trees b_worth b_best : Nat) (c_points c_edges : Int32) (c_worth_above c_worth_below : Int64) (c_ohms c_one c_other c_trees : Nat → Int32) : va_W := [(b, .inr (3, [.int c_points, .int c_edges, .ref b_one, .ref b_other, .ref b_ohms, .ref b_trees, .ref b_worth, .ref b_best])), (b_worth, .inr (1, [.long c_worth_above, .long c_worth_below])), (b_ohms, .inl (cy 0, 8, .inl c_ohms)), (b_one, .inl (cy 0, 8, .inl c_one)), (b_other, .inl (cy 0, 8, .inl c_other)), (b_trees, .inl (cy 0, 6, .inl c_trees))]
abbrev rmX3_measure : Room := { frames := 3, cells := 0, slots := 0, locals := 89 }
theorem cdX3_measure : (yX3_measure).cls ≠ "java/lang/invoke/MethodHandle" ∧ (yX3_measure).cls ≠ "java/lang/invoke/VarHandle" ∧ (parseMethodDescriptor (yX3_measure).desc).map (fun d => d.parameters.length) = some 3 := by decide +kernel
def fX3_measure (p1 p2 p3 c_points c_edges : Int32) (c_worth_above c_worth_below : Int64) (c_ohms c_one c_other c_trees : Nat → Int32) : Option (Int64 × Int64 × (Nat → Int32)) :=
  if p1 = p2 then (zb2 (fX1_become (0 : Int64) (1 : Int64) c_worth_above c_worth_below) (fun c_worth_above_r11 c_worth_below_r11 => some (c_worth_above_r11, c_worth_below_r11, c_trees))) else (zb1 (fX3_isWay p1 p2 p3 c_points c_edges c_ohms c_one c_other) (fun r21 => if r21 = 0 then (zb2 (fX1_become (1 : Int64) (0 : Int64) c_worth_above c_worth_below) (fun c_worth_above_r33 c_worth_below_r33 => some (c_worth_above_r33, c_worth_below_r33, c_trees))) else (zb1 (fX3_closedEdges p3 c_edges c_ohms) (fun r44 => zb3 (fX3_measureWay p1 p2 r44 c_points c_edges c_one c_other c_trees c_ohms c_worth_above c_worth_below) (fun c_trees_r47 c_worth_above_r47 c_worth_below_r47 => some (c_worth_above_r47, c_worth_below_r47, c_trees_r47))))))
set_option maxHeartbeats 4000000 in
set_option maxRecDepth 100000 in
theorem mX3_measure (l : Launch) (D : va_G) (cy : Nat → ClassId) (sz : Nat) (b b_one b_other b_ohms b_trees b_worth b_best : Nat) (c_points c_edges : Int32) (c_worth_above c_worth_below : Int64) (c_ohms c_one c_other c_trees : Nat → Int32) (p1 p2 p3 : Int32) (res : (Int64 × Int64 × (Nat → Int32))) (h : fX3_measure p1 p2 p3 c_points c_edges c_worth_above c_worth_below c_ohms c_one c_other c_trees = some res) : zMv l yX3_measure wsX3_measure rmX3_measure [.ref b, .int p1, .int p2, .int p3] D cy (wdX3_measure cy b b_one b_other b_ohms b_trees b_worth b_best c_points c_edges c_worth_above c_worth_below c_ohms c_one c_other c_trees) sz  ((fun (o : (Int64 × Int64 × (Nat → Int32))) => (wdX3_measure cy b b_one b_other b_ohms b_trees b_worth b_best c_points c_edges (o.1) (o.2.1) c_ohms c_one c_other (o.2.2))) res) := by
  refine zOfv (res := res) (Wf := (fun (o : (Int64 × Int64 × (Nat → Int32))) => (wdX3_measure cy b b_one b_other b_ohms b_trees b_worth b_best c_points c_edges (o.1) (o.2.1) c_ohms c_one c_other (o.2.2)))) (by decide +kernel) rfl (Nat.le_of_ble_eq_true rfl) ?_
  intro p e s m args below meth c A ls Q hx hb hml hts hown hP hK hD hA hS hl hret
  have hown : s.vm.findClass RX3 = some m.cls := hown
  have hl : lv_has ls 4 [(0, .ref b), (1, .int p1), (2, .int p2), (3, .int p3)] := hl
  refine lv_iload_n hx hb dX3_measure_0 rfl (lv_at hl 1 rfl) ?_
  refine lv_iload_n hx hb dX3_measure_1 rfl (lv_at hl 2 rfl) ?_
  refine lv_icmp_ne (tgt := 17) hx hb dX3_measure_2 (by decide) (fun hc2 => ?_) (fun hc2 => ?_)
  · replace h := zi_f hc2 h
    refine lv_aload_n hx hb dX3_measure_17 rfl (lv_at hl 0 rfl) ?_
    refine lv_iload_n hx hb dX3_measure_18 rfl (lv_at hl 1 rfl) ?_
    refine lv_iload_n hx hb dX3_measure_19 rfl (lv_at hl 2 rfl) ?_
    refine lv_iload_n hx hb dX3_measure_20 rfl (lv_at hl 3 rfl) ?_
    obtain ⟨r21, hq21, h⟩ := zb1_s h
    refine zCz (r0 := r21) (w1 := (wdX3_isWay cy b b_one b_other b_ohms b_trees b_worth b_best c_points c_edges c_ohms c_one c_other)) (ws' := (wdX3_measure cy b b_one b_other b_ohms b_trees b_worth b_best c_points c_edges c_worth_above c_worth_below c_ohms c_one c_other c_trees)) (va_runV (As := [.int p1, .int p2, .int p3]) (rest := []) ⟨hx, hb, hml, hown, hts⟩ (mX3_isWay l D cy s.heap.size b b_one b_other b_ohms b_trees b_worth b_best c_points c_edges c_ohms c_one c_other p1 p2 p3 (r21) hq21) (cwV 3 hts gX3_measure_X3_isWay rfl rfl rfl ⟨rfl, cdX3_isWay⟩ ⟨Nat.le_of_ble_eq_true rfl, Nat.le_of_ble_eq_true rfl⟩) (zPV hK hP hD [0, 2, 3, 4] rfl rfl (q0 := 0) (ci := 3) rfl rfl rfl) rfl rfl hl.1 rfl (lv_room (Nat.le_of_ble_eq_true rfl)) dX3_measure_21 ⟨Nat.zero_le _, Nat.zero_le _⟩) hP hD hS hA [0, 2, 3, 4] [1, 5] [2, 0, 3, 4, 5, 1] rfl rfl rfl rfl (fun H locs hn21 hP hD hS => ?_)
    refine lv_if_ne (tgt := 39) hx hb dX3_measure_24 (by decide) (fun hc24 => ?_) (fun hc24 => ?_)
    · replace h := zi_f hc24 h
      refine lv_aload_n hx hb dX3_measure_39 rfl (lv_at hl 0 rfl) ?_
      refine lv_iload_n hx hb dX3_measure_40 rfl (lv_at hl 1 rfl) ?_
      refine lv_iload_n hx hb dX3_measure_41 rfl (lv_at hl 2 rfl) ?_
      refine lv_aload_n hx hb dX3_measure_42 rfl (lv_at hl 0 rfl) ?_
      refine lv_iload_n hx hb dX3_measure_43 rfl (lv_at hl 3 rfl) ?_
      obtain ⟨r44, hq44, h⟩ := zb1_s h
      refine zCi (r0 := r44) (w1 := (wdX3_closedEdges cy b b_one b_other b_ohms b_trees b_worth b_best c_points c_edges c_ohms)) (ws' := (wdX3_measure cy b b_one b_other b_ohms b_trees b_worth b_best c_points c_edges c_worth_above c_worth_below c_ohms c_one c_other c_trees)) (va_runV (As := [.int p3]) (rest := [.int p2, .int p1, .ref b]) ⟨hx, hb, hml, hown, hts⟩ (mX3_closedEdges l D cy H.size b b_one b_other b_ohms b_trees b_worth b_best c_points c_edges c_ohms p3 (r44) hq44) (cwV 1 hts gX3_measure_X3_closedEdges rfl rfl rfl ⟨rfl, cdX3_closedEdges⟩ ⟨Nat.le_of_ble_eq_true rfl, Nat.le_of_ble_eq_true rfl⟩) (zPV hK hP hD [0, 2] rfl rfl (q0 := 0) (ci := 3) rfl rfl rfl) rfl rfl hl.1 rfl (lv_room (Nat.le_of_ble_eq_true rfl)) dX3_measure_44 ⟨Nat.zero_le _, Nat.zero_le _⟩) hP hD hS hA [0, 2] [1, 3, 4, 5] [4, 0, 5, 1, 2, 3] rfl rfl rfl rfl (fun H locs hP hD hS => ?_)
      obtain ⟨c_trees_r47, c_worth_above_r47, c_worth_below_r47, hq47, h⟩ := zb3_s h
      refine zCv (w1 := (wdX3_measureWay cy b b_one b_other b_ohms b_trees b_worth b_best c_points c_edges c_one c_other c_trees_r47 c_ohms c_worth_above_r47 c_worth_below_r47)) (ws' := (wdX3_measure cy b b_one b_other b_ohms b_trees b_worth b_best c_points c_edges c_worth_above_r47 c_worth_below_r47 c_ohms c_one c_other c_trees_r47)) (va_runV (As := [.int p1, .int p2, .int r44]) (rest := []) ⟨hx, hb, hml, hown, hts⟩ (mX3_measureWay l D cy H.size b b_one b_other b_ohms b_trees b_worth b_best c_points c_edges c_one c_other c_trees c_ohms c_worth_above c_worth_below p1 p2 r44 (c_trees_r47, c_worth_above_r47, c_worth_below_r47) hq47) (cwV 3 hts gX3_measure_X3_measureWay rfl rfl rfl ⟨rfl, cdX3_measureWay⟩ ⟨Nat.le_of_ble_eq_true rfl, Nat.le_of_ble_eq_true rfl⟩) (zPV hK hP hD [0, 3, 4, 5, 2, 1] rfl rfl (q0 := 0) (ci := 3) rfl rfl rfl) rfl rfl hl.1 rfl (lv_room (Nat.le_of_ble_eq_true rfl)) dX3_measure_47 ⟨Nat.zero_le _, Nat.zero_le _⟩) hP hD hS hA [0, 3, 4, 5, 2, 1] [] [0, 5, 4, 1, 2, 3] rfl rfl rfl rfl (fun H locs hP hD hS => ?_)
      exact hret h hP hD hS dX3_measure_50
    · replace h := zi_t hc24 h
      refine lv_aload_n hx hb dX3_measure_27 rfl (lv_at hl 0 rfl) ?_
      refine va_get (D := D) (ci := 3) (v := .ref b_worth) (C := RX3) (T := TX3) (N := 8) hx hb hts uX3_measure_X3 hown hK.1 hP 0 rfl rfl 6 (by decide) (hts (.fieldLink RX3 31 "WishedResistor$Mesh" "worth" "LWishedResistor$Fraction;") (List.mem_of_getElem? (i := 1) rfl)) (fun _ h9 => h9) rfl dX3_measure_28 ?_
      refine lv_lconst (v := (1 : Int64)) hx hb dX3_measure_31 (by decide) ?_
      refine lv_lconst (v := (0 : Int64)) hx hb dX3_measure_32 (by decide) ?_
      obtain ⟨c_worth_above_r33, c_worth_below_r33, hq33, h⟩ := zb2_s h
      refine zCv (w1 := (wdX1_become cy b_worth c_worth_above_r33 c_worth_below_r33)) (ws' := (wdX3_measure cy b b_one b_other b_ohms b_trees b_worth b_best c_points c_edges c_worth_above_r33 c_worth_below_r33 c_ohms c_one c_other c_trees)) (va_runV (As := [.long (1 : Int64), .long (0 : Int64)]) (rest := []) ⟨hx, hb, hml, hown, hts⟩ (mX1_become l D cy H.size b_worth c_worth_above c_worth_below (1 : Int64) (0 : Int64) (c_worth_above_r33, c_worth_below_r33) hq33) (cwV 2 hts gX3_measure_X1_become rfl rfl rfl ⟨rfl, cdX1_become⟩ ⟨Nat.le_of_ble_eq_true rfl, Nat.le_of_ble_eq_true rfl⟩) (zPV hK hP hD [1] rfl rfl (q0 := 1) (ci := 1) rfl rfl rfl) rfl rfl hl.1 rfl (lv_room (Nat.le_of_ble_eq_true rfl)) dX3_measure_33 ⟨Nat.zero_le _, Nat.zero_le _⟩) hP hD hS hA [1] [0, 2, 3, 4, 5] [0, 5, 1, 2, 3, 4] rfl rfl rfl rfl (fun H locs hP hD hS => ?_)
      refine lv_goto (tgt := 50) hx hb dX3_measure_36 (by decide) ?_
      exact hret h hP hD hS dX3_measure_50
  · replace h := zi_t hc2 h
    refine lv_aload_n hx hb dX3_measure_5 rfl (lv_at hl 0 rfl) ?_
    refine va_get (D := D) (ci := 3) (v := .ref b_worth) (C := RX3) (T := TX3) (N := 8) hx hb hts uX3_measure_X3 hown hK.1 hP 0 rfl rfl 6 (by decide) (hts (.fieldLink RX3 31 "WishedResistor$Mesh" "worth" "LWishedResistor$Fraction;") (List.mem_of_getElem? (i := 1) rfl)) (fun _ h9 => h9) rfl dX3_measure_6 ?_
    refine lv_lconst (v := (0 : Int64)) hx hb dX3_measure_9 (by decide) ?_
    refine lv_lconst (v := (1 : Int64)) hx hb dX3_measure_10 (by decide) ?_
    obtain ⟨c_worth_above_r11, c_worth_below_r11, hq11, h⟩ := zb2_s h
    refine zCv (w1 := (wdX1_become cy b_worth c_worth_above_r11 c_worth_below_r11)) (ws' := (wdX3_measure cy b b_one b_other b_ohms b_trees b_worth b_best c_points c_edges c_worth_above_r11 c_worth_below_r11 c_ohms c_one c_other c_trees)) (va_runV (As := [.long (0 : Int64), .long (1 : Int64)]) (rest := []) ⟨hx, hb, hml, hown, hts⟩ (mX1_become l D cy s.heap.size b_worth c_worth_above c_worth_below (0 : Int64) (1 : Int64) (c_worth_above_r11, c_worth_below_r11) hq11) (cwV 2 hts gX3_measure_X1_become rfl rfl rfl ⟨rfl, cdX1_become⟩ ⟨Nat.le_of_ble_eq_true rfl, Nat.le_of_ble_eq_true rfl⟩) (zPV hK hP hD [1] rfl rfl (q0 := 1) (ci := 1) rfl rfl rfl) rfl rfl hl.1 rfl (lv_room (Nat.le_of_ble_eq_true rfl)) dX3_measure_11 ⟨Nat.zero_le _, Nat.zero_le _⟩) hP hD hS hA [1] [0, 2, 3, 4, 5] [0, 5, 1, 2, 3, 4] rfl rfl rfl rfl (fun H locs hP hD hS => ?_)
    refine lv_goto (tgt := 50) hx hb dX3_measure_14 (by decide) ?_
    exact hret h hP hD hS dX3_measure_50

theorem uX3_dearestEdge_X3 : ∀ w ∈ u_ws RX3 TX3 8, w ∈ wsX3_dearestEdge := fun w h => (List.mem_cons_of_mem _ (List.mem_append_left _ (List.mem_append_right _ h)))
abbrev wdX3_dearestEdge (cy : Nat → ClassId) (b b_one b_other b_ohms b_trees b_worth b_best : Nat) (c_points c_edges : Int32) (c_worth_above c_worth_below : Int64) (c_ohms c_one c_other c_trees : Nat → Int32) (c_best_above c_best_below : Int64) : va_W := [(b, .inr (3, [.int c_points, .int c_edges, .ref b_one, .ref b_other, .ref b_ohms, .ref b_trees, .ref b_worth, .ref b_best])), (b_worth, .inr (1, [.long c_worth_above, .long c_worth_below])), (b_ohms, .inl (cy 0, 8, .inl c_ohms)), (b_one, .inl (cy 0, 8, .inl c_one)), (b_other, .inl (cy 0, 8, .inl c_other)), (b_trees, .inl (cy 0, 6, .inl c_trees)), (b_best, .inr (1, [.long c_best_above, .long c_best_below]))]
abbrev rmX3_dearestEdge : Room := { frames := 4, cells := 0, slots := 0, locals := 112 }
theorem cdX3_dearestEdge : (yX3_dearestEdge).cls ≠ "java/lang/invoke/MethodHandle" ∧ (yX3_dearestEdge).cls ≠ "java/lang/invoke/VarHandle" ∧ (parseMethodDescriptor (yX3_dearestEdge).desc).map (fun d => d.parameters.length) = some 2 := by decide +kernel
def fX3_dearestEdge_J41 (v4_5 : Int32) (c_best_above_5 c_best_below_5 : Int64) (rec5 : Int32 → Int32 → Int64 → Int64 → (Nat → Int32) → Int64 → Int64 → Option (Int32 × Int64 × Int64 × (Nat → Int32) × Int64 × Int64)) (c_worth_above_r19 c_worth_below_r19 : Int64) (c_trees_r19 : Nat → Int32)  : Option (Int32 × Int64 × Int64 × (Nat → Int32) × Int64 × Int64) :=
  zb2 (fX1_copy c_worth_above_r19 c_worth_below_r19 c_best_above_5 c_best_below_5) (fun c_best_above_r52 c_best_below_r52 => rec5 v4_5 (v4_5 + (1 : Int32)) c_worth_above_r19 c_worth_below_r19 c_trees_r19 c_best_above_r52 c_best_below_r52)
def fX3_dearestEdge_L5 (c_points c_edges : Int32) (c_ohms c_one c_other : Nat → Int32) (p1 p2 : Int32) : Nat → Int32 → Int32 → Int64 → Int64 → (Nat → Int32) → Int64 → Int64 → Option (Int32 × Int64 × Int64 × (Nat → Int32) × Int64 × Int64) :=
  zl7 (fun rec5 v3_5 v4_5 c_worth_above_5 c_worth_below_5 c_trees_5 c_best_above_5 c_best_below_5 => if c_edges ≤ v4_5 then (some (v3_5, c_worth_above_5, c_worth_below_5, c_trees_5, c_best_above_5, c_best_below_5)) else (zb3 (fX3_measure p1 p2 v4_5 c_points c_edges c_worth_above_5 c_worth_below_5 c_ohms c_one c_other c_trees_5) (fun c_worth_above_r19 c_worth_below_r19 c_trees_r19 => if v4_5 = 0 then (fX3_dearestEdge_J41 v4_5 c_best_above_5 c_best_below_5 rec5 c_worth_above_r19 c_worth_below_r19 c_trees_r19) else (zb1 (fX1_against c_worth_above_r19 c_worth_below_r19 c_best_above_5 c_best_below_5) (fun r35 => if r35 ≤ 0 then (rec5 v3_5 (v4_5 + (1 : Int32)) c_worth_above_r19 c_worth_below_r19 c_trees_r19 c_best_above_5 c_best_below_5) else (fX3_dearestEdge_J41 v4_5 c_best_above_5 c_best_below_5 rec5 c_worth_above_r19 c_worth_below_r19 c_trees_r19))))))
def fX3_dearestEdge (p1 p2 c_points c_edges : Int32) (c_worth_above c_worth_below : Int64) (c_ohms c_one c_other c_trees : Nat → Int32) (c_best_above c_best_below : Int64) : Option (Int32 × Int64 × Int64 × (Nat → Int32) × Int64 × Int64) :=
  fX3_dearestEdge_L5 c_points c_edges c_ohms c_one c_other p1 p2 5000 (0 : Int32) (0 : Int32) c_worth_above c_worth_below c_trees c_best_above c_best_below
set_option maxHeartbeats 4000000 in
set_option maxRecDepth 100000 in
theorem mX3_dearestEdge (l : Launch) (D : va_G) (cy : Nat → ClassId) (sz : Nat) (b b_one b_other b_ohms b_trees b_worth b_best : Nat) (c_points c_edges : Int32) (c_worth_above c_worth_below : Int64) (c_ohms c_one c_other c_trees : Nat → Int32) (c_best_above c_best_below : Int64) (p1 p2 : Int32) (res : (Int32 × Int64 × Int64 × (Nat → Int32) × Int64 × Int64)) (h : fX3_dearestEdge p1 p2 c_points c_edges c_worth_above c_worth_below c_ohms c_one c_other c_trees c_best_above c_best_below = some res) : zMi l yX3_dearestEdge wsX3_dearestEdge rmX3_dearestEdge [.ref b, .int p1, .int p2] D cy (wdX3_dearestEdge cy b b_one b_other b_ohms b_trees b_worth b_best c_points c_edges c_worth_above c_worth_below c_ohms c_one c_other c_trees c_best_above c_best_below) sz ((fun (o : (Int32 × Int64 × Int64 × (Nat → Int32) × Int64 × Int64)) => o.1) res) ((fun (o : (Int32 × Int64 × Int64 × (Nat → Int32) × Int64 × Int64)) => (wdX3_dearestEdge cy b b_one b_other b_ohms b_trees b_worth b_best c_points c_edges (o.2.1) (o.2.2.1) c_ohms c_one c_other (o.2.2.2.1) (o.2.2.2.2.1) (o.2.2.2.2.2))) res) := by
  refine zOfi (res := res) (rf := (fun (o : (Int32 × Int64 × Int64 × (Nat → Int32) × Int64 × Int64)) => o.1)) (Wf := (fun (o : (Int32 × Int64 × Int64 × (Nat → Int32) × Int64 × Int64)) => (wdX3_dearestEdge cy b b_one b_other b_ohms b_trees b_worth b_best c_points c_edges (o.2.1) (o.2.2.1) c_ohms c_one c_other (o.2.2.2.1) (o.2.2.2.2.1) (o.2.2.2.2.2)))) (by decide +kernel) rfl (Nat.le_of_ble_eq_true rfl) ?_
  intro p e s m args below meth c A ls Q hx hb hml hts hown hP hK hD hA hS hl hret
  have hown : s.vm.findClass RX3 = some m.cls := hown
  have hl : lv_has ls 5 [(0, .ref b), (1, .int p1), (2, .int p2)] := hl
  refine lv_iconst (v := (0 : Int32)) hx hb dX3_dearestEdge_0 (by decide) ?_
  refine lv_istore_n (lv' := [(3, .int (0 : Int32)), (0, .ref b), (1, .int p1), (2, .int p2)]) hx hb dX3_dearestEdge_1 rfl hl (Nat.le_of_ble_eq_true rfl) rfl (fun ls hl => ?_)
  refine lv_iconst (v := (0 : Int32)) hx hb dX3_dearestEdge_2 (by decide) ?_
  refine lv_istore (lv' := [(4, .int (0 : Int32)), (3, .int (0 : Int32)), (0, .ref b), (1, .int p1), (2, .int p2)]) hx hb dX3_dearestEdge_3 hl (Nat.le_of_ble_eq_true rfl) rfl (fun ls hl => ?_)
  have hL5 : ∀ n5 : Nat, ∀ (v3_5 v4_5 : Int32) (c_worth_above_5 c_worth_below_5 : Int64) (c_trees_5 : Nat → Int32) (c_best_above_5 c_best_below_5 : Int64) (H : Heap) (locs : List Loc) (ls : Array Slot), va_P D vwCl (wdX3_dearestEdge cy b b_one b_other b_ohms b_trees b_worth b_best c_points c_edges c_worth_above_5 c_worth_below_5 c_ohms c_one c_other c_trees_5 c_best_above_5 c_best_below_5) H → va_D A (wdX3_dearestEdge cy b b_one b_other b_ohms b_trees b_worth b_best c_points c_edges c_worth_above_5 c_worth_below_5 c_ohms c_one c_other c_trees_5 c_best_above_5 c_best_below_5) → va_S A s.heap H locs → lv_has ls 5 [(0, .ref b), (1, .int p1), (2, .int p2), (3, .int v3_5), (4, .int v4_5)] → fX3_dearestEdge_L5 c_points c_edges c_ohms c_one c_other p1 p2 n5 v3_5 v4_5 c_worth_above_5 c_worth_below_5 c_trees_5 c_best_above_5 c_best_below_5 = some res → W p l e rmX3_dearestEdge s m args below meth c H locs 0 0 Q (F0 m 5 ls []) := by
    intro n5
    induction n5 with
    | zero =>
      intro v3_5 v4_5 c_worth_above_5 c_worth_below_5 c_trees_5 c_best_above_5 c_best_below_5 H locs ls hP hD hS hl h
      exact zl7_0 h
    | succ n5 ih5 =>
      intro v3_5 v4_5 c_worth_above_5 c_worth_below_5 c_trees_5 c_best_above_5 c_best_below_5 H locs ls hP hD hS hl h
      replace h := zl7_s h
      refine lv_iload hx hb dX3_dearestEdge_5 (lv_at hl 4 rfl) ?_
      refine lv_aload_n hx hb dX3_dearestEdge_7 rfl (lv_at hl 0 rfl) ?_
      refine va_get (D := D) (ci := 3) (v := .int c_edges) (C := RX3) (T := TX3) (N := 8) hx hb hts uX3_dearestEdge_X3 hown hK.1 hP 0 rfl rfl 1 (by decide) (hts (.fieldLink RX3 38 "WishedResistor$Mesh" "edges" "I") (List.mem_of_getElem? (i := 1) rfl)) (fun _ h9 => h9) rfl dX3_dearestEdge_8 ?_
      refine lv_icmp_ge (tgt := 61) hx hb dX3_dearestEdge_11 (by decide) (fun hc11 => ?_) (fun hc11 => ?_)
      · replace h := zi_t hc11 h
        refine lv_iload_n hx hb dX3_dearestEdge_61 rfl (lv_at hl 3 rfl) ?_
        exact hret h hP hD hS dX3_dearestEdge_62
      · replace h := zi_f hc11 h
        refine lv_aload_n hx hb dX3_dearestEdge_14 rfl (lv_at hl 0 rfl) ?_
        refine lv_iload_n hx hb dX3_dearestEdge_15 rfl (lv_at hl 1 rfl) ?_
        refine lv_iload_n hx hb dX3_dearestEdge_16 rfl (lv_at hl 2 rfl) ?_
        refine lv_iload hx hb dX3_dearestEdge_17 (lv_at hl 4 rfl) ?_
        obtain ⟨c_worth_above_r19, c_worth_below_r19, c_trees_r19, hq19, h⟩ := zb3_s h
        refine zCv (w1 := (wdX3_measure cy b b_one b_other b_ohms b_trees b_worth b_best c_points c_edges c_worth_above_r19 c_worth_below_r19 c_ohms c_one c_other c_trees_r19)) (ws' := (wdX3_dearestEdge cy b b_one b_other b_ohms b_trees b_worth b_best c_points c_edges c_worth_above_r19 c_worth_below_r19 c_ohms c_one c_other c_trees_r19 c_best_above_5 c_best_below_5)) (va_runV (As := [.int p1, .int p2, .int v4_5]) (rest := []) ⟨hx, hb, hml, hown, hts⟩ (mX3_measure l D cy H.size b b_one b_other b_ohms b_trees b_worth b_best c_points c_edges c_worth_above_5 c_worth_below_5 c_ohms c_one c_other c_trees_5 p1 p2 v4_5 (c_worth_above_r19, c_worth_below_r19, c_trees_r19) hq19) (cwV 3 hts gX3_dearestEdge_X3_measure rfl rfl rfl ⟨rfl, cdX3_measure⟩ ⟨Nat.le_of_ble_eq_true rfl, Nat.le_of_ble_eq_true rfl⟩) (zPV hK hP hD [0, 1, 2, 3, 4, 5] rfl rfl (q0 := 0) (ci := 3) rfl rfl rfl) rfl rfl hl.1 rfl (lv_room (Nat.le_of_ble_eq_true rfl)) dX3_dearestEdge_19 ⟨Nat.zero_le _, Nat.zero_le _⟩) hP hD hS hA [0, 1, 2, 3, 4, 5] [6] [1, 2, 3, 4, 5, 6, 0] rfl rfl rfl rfl (fun H locs hP hD hS => ?_)
        refine lv_iload hx hb dX3_dearestEdge_22 (lv_at hl 4 rfl) ?_
        have hJ41 : ∀  (H : Heap) (locs : List Loc) (ls : Array Slot), va_P D vwCl (wdX3_dearestEdge cy b b_one b_other b_ohms b_trees b_worth b_best c_points c_edges c_worth_above_r19 c_worth_below_r19 c_ohms c_one c_other c_trees_r19 c_best_above_5 c_best_below_5) H → va_D A (wdX3_dearestEdge cy b b_one b_other b_ohms b_trees b_worth b_best c_points c_edges c_worth_above_r19 c_worth_below_r19 c_ohms c_one c_other c_trees_r19 c_best_above_5 c_best_below_5) → va_S A s.heap H locs → lv_has ls 5 [(0, .ref b), (1, .int p1), (2, .int p2), (4, .int v4_5)] → fX3_dearestEdge_J41 v4_5 c_best_above_5 c_best_below_5 (fX3_dearestEdge_L5 c_points c_edges c_ohms c_one c_other p1 p2 n5) c_worth_above_r19 c_worth_below_r19 c_trees_r19 = some res → W p l e rmX3_dearestEdge s m args below meth c H locs 0 0 Q (F0 m 41 ls []) := by
          intro  H locs ls hP hD hS hl h
          refine lv_iload hx hb dX3_dearestEdge_41 (lv_at hl 3 rfl) ?_
          refine lv_istore_n (lv' := [(3, .int v4_5), (0, .ref b), (1, .int p1), (2, .int p2), (4, .int v4_5)]) hx hb dX3_dearestEdge_43 rfl hl (Nat.le_of_ble_eq_true rfl) rfl (fun ls hl => ?_)
          refine lv_aload_n hx hb dX3_dearestEdge_44 rfl (lv_at hl 1 rfl) ?_
          refine va_get (D := D) (ci := 3) (v := .ref b_best) (C := RX3) (T := TX3) (N := 8) hx hb hts uX3_dearestEdge_X3 hown hK.1 hP 0 rfl rfl 7 (by decide) (hts (.fieldLink RX3 35 "WishedResistor$Mesh" "best" "LWishedResistor$Fraction;") (List.mem_of_getElem? (i := 3) rfl)) (fun _ h9 => h9) rfl dX3_dearestEdge_45 ?_
          refine lv_aload_n hx hb dX3_dearestEdge_48 rfl (lv_at hl 1 rfl) ?_
          refine va_get (D := D) (ci := 3) (v := .ref b_worth) (C := RX3) (T := TX3) (N := 8) hx hb hts uX3_dearestEdge_X3 hown hK.1 hP 0 rfl rfl 6 (by decide) (hts (.fieldLink RX3 31 "WishedResistor$Mesh" "worth" "LWishedResistor$Fraction;") (List.mem_of_getElem? (i := 2) rfl)) (fun _ h9 => h9) rfl dX3_dearestEdge_49 ?_
          obtain ⟨c_best_above_r52, c_best_below_r52, hq52, h⟩ := zb2_s h
          refine zCv (w1 := (wdX1_copy cy b_worth b_best c_worth_above_r19 c_worth_below_r19 c_best_above_r52 c_best_below_r52)) (ws' := (wdX3_dearestEdge cy b b_one b_other b_ohms b_trees b_worth b_best c_points c_edges c_worth_above_r19 c_worth_below_r19 c_ohms c_one c_other c_trees_r19 c_best_above_r52 c_best_below_r52)) (va_runV (As := [.ref b_worth]) (rest := []) ⟨hx, hb, hml, hown, hts⟩ (mX1_copy l D cy H.size b_worth b_best c_worth_above_r19 c_worth_below_r19 c_best_above_5 c_best_below_5 (c_best_above_r52, c_best_below_r52) hq52) (cwV 1 hts gX3_dearestEdge_X1_copy rfl rfl rfl ⟨rfl, cdX1_copy⟩ ⟨Nat.le_of_ble_eq_true rfl, Nat.le_of_ble_eq_true rfl⟩) (zPV hK hP hD [1, 6] rfl rfl (q0 := 6) (ci := 1) rfl rfl rfl) rfl rfl hl.1 rfl (lv_room (Nat.le_of_ble_eq_true rfl)) dX3_dearestEdge_52 ⟨Nat.zero_le _, Nat.zero_le _⟩) hP hD hS hA [1, 6] [0, 2, 3, 4, 5] [0, 5, 1, 2, 3, 4, 6] rfl rfl rfl rfl (fun H locs hP hD hS => ?_)
          refine lv_iinc (v := (v4_5 + (1 : Int32))) (lv' := [(4, .int (v4_5 + (1 : Int32))), (3, .int v4_5), (0, .ref b), (1, .int p1), (2, .int p2)]) hx hb dX3_dearestEdge_55 hl (k := 4) rfl (by rfl) (Nat.le_of_ble_eq_true rfl) rfl (fun ls hl => ?_)
          refine lv_goto (tgt := 5) hx hb dX3_dearestEdge_58 (by decide) ?_
          exact ih5 v4_5 (v4_5 + (1 : Int32)) c_worth_above_r19 c_worth_below_r19 c_trees_r19 c_best_above_r52 c_best_below_r52 _ _ _ hP hD hS (lv_sub hl [2, 3, 4, 1, 0] rfl) h
        refine lv_if_eq (tgt := 41) hx hb dX3_dearestEdge_24 (by decide) (fun hc24 => ?_) (fun hc24 => ?_)
        · replace h := zi_t hc24 h
          exact hJ41 _ _ _ hP hD hS (lv_sub hl [0, 1, 2, 4] rfl) h
        · replace h := zi_f hc24 h
          refine lv_aload_n hx hb dX3_dearestEdge_27 rfl (lv_at hl 0 rfl) ?_
          refine va_get (D := D) (ci := 3) (v := .ref b_worth) (C := RX3) (T := TX3) (N := 8) hx hb hts uX3_dearestEdge_X3 hown hK.1 hP 0 rfl rfl 6 (by decide) (hts (.fieldLink RX3 31 "WishedResistor$Mesh" "worth" "LWishedResistor$Fraction;") (List.mem_of_getElem? (i := 2) rfl)) (fun _ h9 => h9) rfl dX3_dearestEdge_28 ?_
          refine lv_aload_n hx hb dX3_dearestEdge_31 rfl (lv_at hl 0 rfl) ?_
          refine va_get (D := D) (ci := 3) (v := .ref b_best) (C := RX3) (T := TX3) (N := 8) hx hb hts uX3_dearestEdge_X3 hown hK.1 hP 0 rfl rfl 7 (by decide) (hts (.fieldLink RX3 35 "WishedResistor$Mesh" "best" "LWishedResistor$Fraction;") (List.mem_of_getElem? (i := 3) rfl)) (fun _ h9 => h9) rfl dX3_dearestEdge_32 ?_
          obtain ⟨r35, hq35, h⟩ := zb1_s h
          refine zCi (r0 := r35) (w1 := (wdX1_against cy b_worth b_best c_worth_above_r19 c_worth_below_r19 c_best_above_5 c_best_below_5)) (ws' := (wdX3_dearestEdge cy b b_one b_other b_ohms b_trees b_worth b_best c_points c_edges c_worth_above_r19 c_worth_below_r19 c_ohms c_one c_other c_trees_r19 c_best_above_5 c_best_below_5)) (va_runV (As := [.ref b_best]) (rest := []) ⟨hx, hb, hml, hown, hts⟩ (mX1_against l D cy H.size b_worth b_best c_worth_above_r19 c_worth_below_r19 c_best_above_5 c_best_below_5 (r35) hq35) (cwV 1 hts gX3_dearestEdge_X1_against rfl rfl rfl ⟨rfl, cdX1_against⟩ ⟨Nat.le_of_ble_eq_true rfl, Nat.le_of_ble_eq_true rfl⟩) (zPV hK hP hD [1, 6] rfl rfl (q0 := 1) (ci := 1) rfl rfl rfl) rfl rfl hl.1 rfl (lv_room (Nat.le_of_ble_eq_true rfl)) dX3_dearestEdge_35 ⟨Nat.zero_le _, Nat.zero_le _⟩) hP hD hS hA [1, 6] [0, 2, 3, 4, 5] [0, 5, 1, 2, 3, 4, 6] rfl rfl rfl rfl (fun H locs hP hD hS => ?_)
          refine lv_if_le (tgt := 55) hx hb dX3_dearestEdge_38 (by decide) (fun hc38 => ?_) (fun hc38 => ?_)
          · replace h := zi_t hc38 h
            refine lv_iinc (v := (v4_5 + (1 : Int32))) (lv' := [(4, .int (v4_5 + (1 : Int32))), (0, .ref b), (1, .int p1), (2, .int p2), (3, .int v3_5)]) hx hb dX3_dearestEdge_55 hl (k := 4) rfl (by rfl) (Nat.le_of_ble_eq_true rfl) rfl (fun ls hl => ?_)
            refine lv_goto (tgt := 5) hx hb dX3_dearestEdge_58 (by decide) ?_
            exact ih5 v3_5 (v4_5 + (1 : Int32)) c_worth_above_r19 c_worth_below_r19 c_trees_r19 c_best_above_5 c_best_below_5 _ _ _ hP hD hS (lv_sub hl [1, 2, 3, 4, 0] rfl) h
          · replace h := zi_f hc38 h
            exact hJ41 _ _ _ hP hD hS (lv_sub hl [0, 1, 2, 4] rfl) h
  exact hL5 5000 (0 : Int32) (0 : Int32) c_worth_above c_worth_below c_trees c_best_above c_best_below _ _ _ hP hD hS (lv_sub hl [2, 3, 4, 1, 0] rfl) h

theorem uX3_bridgesOf_X3 : ∀ w ∈ u_ws RX3 TX3 8, w ∈ wsX3_bridgesOf := fun w h => (List.mem_cons_of_mem _ (List.mem_append_right _ h))
abbrev wdX3_bridgesOf (cy : Nat → ClassId) (b b_one b_other b_ohms b_trees b_worth b_best : Nat) (c_points c_edges : Int32) (c_ohms c_one c_other : Nat → Int32) : va_W := [(b, .inr (3, [.int c_points, .int c_edges, .ref b_one, .ref b_other, .ref b_ohms, .ref b_trees, .ref b_worth, .ref b_best])), (b_ohms, .inl (cy 0, 8, .inl c_ohms)), (b_one, .inl (cy 0, 8, .inl c_one)), (b_other, .inl (cy 0, 8, .inl c_other))]
abbrev rmX3_bridgesOf : Room := { frames := 2, cells := 0, slots := 0, locals := 49 }
theorem cdX3_bridgesOf : (yX3_bridgesOf).cls ≠ "java/lang/invoke/MethodHandle" ∧ (yX3_bridgesOf).cls ≠ "java/lang/invoke/VarHandle" ∧ (parseMethodDescriptor (yX3_bridgesOf).desc).map (fun d => d.parameters.length) = some 2 := by decide +kernel
def fX3_bridgesOf_L5 (c_points c_edges : Int32) (c_ohms c_one c_other : Nat → Int32) (p1 p2 : Int32) : Nat → Int32 → Int32 → Option (Int32) :=
  zl2 (fun rec5 v3_5 v4_5 => if c_edges ≤ v4_5 then (some (v3_5)) else (zb1 (fX3_isWay p1 p2 v4_5 c_points c_edges c_ohms c_one c_other) (fun r19 => if r19 = 0 then (rec5 (v3_5 ||| ((1 : Int32) <<< (v4_5 &&& 31))) (v4_5 + (1 : Int32))) else (rec5 v3_5 (v4_5 + (1 : Int32))))))
def fX3_bridgesOf (p1 p2 c_points c_edges : Int32) (c_ohms c_one c_other : Nat → Int32) : Option (Int32) :=
  fX3_bridgesOf_L5 c_points c_edges c_ohms c_one c_other p1 p2 5000 (0 : Int32) (0 : Int32)
set_option maxHeartbeats 4000000 in
set_option maxRecDepth 100000 in
theorem mX3_bridgesOf (l : Launch) (D : va_G) (cy : Nat → ClassId) (sz : Nat) (b b_one b_other b_ohms b_trees b_worth b_best : Nat) (c_points c_edges : Int32) (c_ohms c_one c_other : Nat → Int32) (p1 p2 : Int32) (res : (Int32)) (h : fX3_bridgesOf p1 p2 c_points c_edges c_ohms c_one c_other = some res) : zMi l yX3_bridgesOf wsX3_bridgesOf rmX3_bridgesOf [.ref b, .int p1, .int p2] D cy (wdX3_bridgesOf cy b b_one b_other b_ohms b_trees b_worth b_best c_points c_edges c_ohms c_one c_other) sz ((fun (o : (Int32)) => o) res) ((fun (o : (Int32)) => (wdX3_bridgesOf cy b b_one b_other b_ohms b_trees b_worth b_best c_points c_edges c_ohms c_one c_other)) res) := by
  refine zOfi (res := res) (rf := (fun (o : (Int32)) => o)) (Wf := (fun (o : (Int32)) => (wdX3_bridgesOf cy b b_one b_other b_ohms b_trees b_worth b_best c_points c_edges c_ohms c_one c_other))) (by decide +kernel) rfl (Nat.le_of_ble_eq_true rfl) ?_
  intro p e s m args below meth c A ls Q hx hb hml hts hown hP hK hD hA hS hl hret
  have hown : s.vm.findClass RX3 = some m.cls := hown
  have hl : lv_has ls 5 [(0, .ref b), (1, .int p1), (2, .int p2)] := hl
  refine lv_iconst (v := (0 : Int32)) hx hb dX3_bridgesOf_0 (by decide) ?_
  refine lv_istore_n (lv' := [(3, .int (0 : Int32)), (0, .ref b), (1, .int p1), (2, .int p2)]) hx hb dX3_bridgesOf_1 rfl hl (Nat.le_of_ble_eq_true rfl) rfl (fun ls hl => ?_)
  refine lv_iconst (v := (0 : Int32)) hx hb dX3_bridgesOf_2 (by decide) ?_
  refine lv_istore (lv' := [(4, .int (0 : Int32)), (3, .int (0 : Int32)), (0, .ref b), (1, .int p1), (2, .int p2)]) hx hb dX3_bridgesOf_3 hl (Nat.le_of_ble_eq_true rfl) rfl (fun ls hl => ?_)
  have hL5 : ∀ n5 : Nat, ∀ (v3_5 v4_5 : Int32) (H : Heap) (locs : List Loc) (ls : Array Slot), va_P D vwCl (wdX3_bridgesOf cy b b_one b_other b_ohms b_trees b_worth b_best c_points c_edges c_ohms c_one c_other) H → va_D A (wdX3_bridgesOf cy b b_one b_other b_ohms b_trees b_worth b_best c_points c_edges c_ohms c_one c_other) → va_S A s.heap H locs → lv_has ls 5 [(0, .ref b), (1, .int p1), (2, .int p2), (3, .int v3_5), (4, .int v4_5)] → fX3_bridgesOf_L5 c_points c_edges c_ohms c_one c_other p1 p2 n5 v3_5 v4_5 = some res → W p l e rmX3_bridgesOf s m args below meth c H locs 0 0 Q (F0 m 5 ls []) := by
    intro n5
    induction n5 with
    | zero =>
      intro v3_5 v4_5 H locs ls hP hD hS hl h
      exact zl2_0 h
    | succ n5 ih5 =>
      intro v3_5 v4_5 H locs ls hP hD hS hl h
      replace h := zl2_s h
      refine lv_iload hx hb dX3_bridgesOf_5 (lv_at hl 4 rfl) ?_
      refine lv_aload_n hx hb dX3_bridgesOf_7 rfl (lv_at hl 0 rfl) ?_
      refine va_get (D := D) (ci := 3) (v := .int c_edges) (C := RX3) (T := TX3) (N := 8) hx hb hts uX3_bridgesOf_X3 hown hK.1 hP 0 rfl rfl 1 (by decide) (hts (.fieldLink RX3 38 "WishedResistor$Mesh" "edges" "I") (List.mem_of_getElem? (i := 1) rfl)) (fun _ h9 => h9) rfl dX3_bridgesOf_8 ?_
      refine lv_icmp_ge (tgt := 38) hx hb dX3_bridgesOf_11 (by decide) (fun hc11 => ?_) (fun hc11 => ?_)
      · replace h := zi_t hc11 h
        refine lv_iload_n hx hb dX3_bridgesOf_38 rfl (lv_at hl 3 rfl) ?_
        exact hret h hP hD hS dX3_bridgesOf_39
      · replace h := zi_f hc11 h
        refine lv_aload_n hx hb dX3_bridgesOf_14 rfl (lv_at hl 0 rfl) ?_
        refine lv_iload_n hx hb dX3_bridgesOf_15 rfl (lv_at hl 1 rfl) ?_
        refine lv_iload_n hx hb dX3_bridgesOf_16 rfl (lv_at hl 2 rfl) ?_
        refine lv_iload hx hb dX3_bridgesOf_17 (lv_at hl 4 rfl) ?_
        obtain ⟨r19, hq19, h⟩ := zb1_s h
        refine zCz (r0 := r19) (w1 := (wdX3_isWay cy b b_one b_other b_ohms b_trees b_worth b_best c_points c_edges c_ohms c_one c_other)) (ws' := (wdX3_bridgesOf cy b b_one b_other b_ohms b_trees b_worth b_best c_points c_edges c_ohms c_one c_other)) (va_runV (As := [.int p1, .int p2, .int v4_5]) (rest := []) ⟨hx, hb, hml, hown, hts⟩ (mX3_isWay l D cy H.size b b_one b_other b_ohms b_trees b_worth b_best c_points c_edges c_ohms c_one c_other p1 p2 v4_5 (r19) hq19) (cwV 3 hts gX3_bridgesOf_X3_isWay rfl rfl rfl ⟨rfl, cdX3_isWay⟩ ⟨Nat.le_of_ble_eq_true rfl, Nat.le_of_ble_eq_true rfl⟩) (zPV hK hP hD [0, 1, 2, 3] rfl rfl (q0 := 0) (ci := 3) rfl rfl rfl) rfl rfl hl.1 rfl (lv_room (Nat.le_of_ble_eq_true rfl)) dX3_bridgesOf_19 ⟨Nat.zero_le _, Nat.zero_le _⟩) hP hD hS hA [0, 1, 2, 3] [] [0, 1, 2, 3] rfl rfl rfl rfl (fun H locs hn19 hP hD hS => ?_)
        refine lv_if_ne (tgt := 32) hx hb dX3_bridgesOf_22 (by decide) (fun hc22 => ?_) (fun hc22 => ?_)
        · replace h := zi_f hc22 h
          refine lv_iinc (v := (v4_5 + (1 : Int32))) (lv' := [(4, .int (v4_5 + (1 : Int32))), (0, .ref b), (1, .int p1), (2, .int p2), (3, .int v3_5)]) hx hb dX3_bridgesOf_32 hl (k := 4) rfl (by rfl) (Nat.le_of_ble_eq_true rfl) rfl (fun ls hl => ?_)
          refine lv_goto (tgt := 5) hx hb dX3_bridgesOf_35 (by decide) ?_
          exact ih5 v3_5 (v4_5 + (1 : Int32)) _ _ _ hP hD hS (lv_sub hl [1, 2, 3, 4, 0] rfl) h
        · replace h := zi_t hc22 h
          refine lv_iload_n hx hb dX3_bridgesOf_25 rfl (lv_at hl 3 rfl) ?_
          refine lv_iconst (v := (1 : Int32)) hx hb dX3_bridgesOf_26 (by decide) ?_
          refine lv_iload hx hb dX3_bridgesOf_27 (lv_at hl 4 rfl) ?_
          refine lv_ishl hx hb dX3_bridgesOf_29 ?_
          refine lv_ior hx hb dX3_bridgesOf_30 ?_
          refine lv_istore_n (lv' := [(3, .int (v3_5 ||| ((1 : Int32) <<< (v4_5 &&& 31)))), (0, .ref b), (1, .int p1), (2, .int p2), (4, .int v4_5)]) hx hb dX3_bridgesOf_31 rfl hl (Nat.le_of_ble_eq_true rfl) rfl (fun ls hl => ?_)
          refine lv_iinc (v := (v4_5 + (1 : Int32))) (lv' := [(4, .int (v4_5 + (1 : Int32))), (3, .int (v3_5 ||| ((1 : Int32) <<< (v4_5 &&& 31)))), (0, .ref b), (1, .int p1), (2, .int p2)]) hx hb dX3_bridgesOf_32 hl (k := 4) rfl (by rfl) (Nat.le_of_ble_eq_true rfl) rfl (fun ls hl => ?_)
          refine lv_goto (tgt := 5) hx hb dX3_bridgesOf_35 (by decide) ?_
          exact ih5 (v3_5 ||| ((1 : Int32) <<< (v4_5 &&& 31))) (v4_5 + (1 : Int32)) _ _ _ hP hD hS (lv_sub hl [2, 3, 4, 1, 0] rfl) h
  exact hL5 5000 (0 : Int32) (0 : Int32) _ _ _ hP hD hS (lv_sub hl [2, 3, 4, 1, 0] rfl) h
