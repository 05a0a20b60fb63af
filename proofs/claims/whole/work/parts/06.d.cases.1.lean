set_option maxHeartbeats 4000000 in
set_option maxRecDepth 100000 in
theorem law_ends {p : Program} {l : Launch} {e : Env} {s : State} {m : MethodId} {below : List Frame} {meth : Method} {c : Code} {D : va_G} {cy : Nat → ClassId} {b L : Nat} {sc : Nat → Int32} {A : Nat → Prop} {Z : State → Prop} {bx bm : Nat} {u v : Nat → Nat} (hx : p.tables.exec = Jvm.exec) (hb : c.code = cL_law) (hml : c.maxLocals = 4) (hown : s.vm.findClass RL = some m.cls) (hts : ∀ w ∈ lw_tbl, w.before #[Value.ref b] s = true) (hX : va_X b L sc s s.heap) (hbl : b < s.heap.size) (hbA : ¬ A b) (hA : ∀ q : Nat, s.heap.size ≤ q → A q) (hK : zK D cy s) {R : Nat → XS → MS → Prop} {k : Nat} (hq : zQ_ends R k) {x3 : Int32} (hs : ∀ j : Nat, j < 7 → vp_in (x3 + nI j) L) (kk : ∀ (xs : XS) (ms : MS), R (k + 1) xs ms → ∀ (H : Heap) (locs : List Loc) (ls : Array Slot), va_P D vwCl (wXS cy bx u xs ++ wMS cy bm v ms) H → va_D A (wXS cy bx u xs ++ wMS cy bm v ms) → va_S A s.heap H locs → lv_has ls 4 [(0, .ref b), (1, .ref bx), (2, .ref bm), (3, .int x3)] → W p l e room_1 s m #[Value.ref b] below meth c H locs 119 29611 Z (F0 m 1498 ls [])) (xs : XS) (ms : MS) (hR : R k xs ms) (H : Heap) (locs : List Loc) (ls : Array Slot) (hP : va_P D vwCl (wXS cy bx u xs ++ wMS cy bm v ms) H) (hD : va_D A (wXS cy bx u xs ++ wMS cy bm v ms)) (hS : va_S A s.heap H locs) (hl : lv_has ls 4 [(0, .ref b), (1, .ref bx), (2, .ref bm), (3, .int x3)]) : W p l e room_1 s m #[Value.ref b] below meth c H locs 119 29611 Z (F0 m 405 ls []) := by
  have hs1 : vp_in (x3 + (1 : Int32)) L := hs 1 (by decide)
  have hs2 : vp_in (x3 + (2 : Int32)) L := hs 2 (by decide)
  have hs3 : vp_in (x3 + (3 : Int32)) L := hs 3 (by decide)
  have hs4 : vp_in (x3 + (4 : Int32)) L := hs 4 (by decide)
  have hs5 : vp_in (x3 + (5 : Int32)) L := hs 5 (by decide)
  have hs6 : vp_in (x3 + (6 : Int32)) L := hs 6 (by decide)
  obtain ⟨r, xs2, ms2, hx2, hm2, hR2⟩ := hq xs ms hR (sc (x3 + (1 : Int32)).toNatClampNeg) (sc (x3 + (2 : Int32)).toNatClampNeg)
  obtain ⟨rx, y0, y1, y2, y3, y4, hqx, hx2⟩ := zb6_s hx2
  cases hx2
  obtain ⟨rm, w0, hqm, hm2⟩ := zb2_s hm2
  cases hm2
  refine lv_aload_n hx hb dL_law_405 rfl (lv_at hl 1 rfl) ?_
  refine lv_aload_n hx hb dL_law_406 rfl (lv_at hl 0 rfl) ?_
  refine lv_iload_n hx hb dL_law_407 rfl (lv_at hl 3 rfl) ?_
  refine lv_iconst (v := (1 : Int32)) hx hb dL_law_408 (by decide) ?_
  refine lv_iadd hx hb dL_law_409 ?_
  refine va_sld hx hb hX hbl hbA hS hs1 dL_law_410 ?_
  refine lv_aload_n hx hb dL_law_411 rfl (lv_at hl 0 rfl) ?_
  refine lv_iload_n hx hb dL_law_412 rfl (lv_at hl 3 rfl) ?_
  refine lv_iconst (v := (2 : Int32)) hx hb dL_law_413 (by decide) ?_
  refine lv_iadd hx hb dL_law_414 ?_
  refine va_sld hx hb hX hbl hbA hS hs2 dL_law_415 ?_
  refine zClS (r0 := r) (w1 := (wdX10_ends cy bx (u 0) (u 3) (u 12) (u 34) (u 37) (u 41) (u 52) (u 59) (u 66) (u 67) (u 4) (u 5) (u 6) (u 7) (u 8) (u 9) (u 10) (u 11) (u 13) (u 17) (u 18) (u 19) (u 20) (u 21) (u 14) (u 15) (u 16) (u 1) (u 2) (x_nets_count xs) (x_meter_seed xs) (x_nets_parts xs) y0 y1 (x_nets_kind xs) y2 (x_nets_first xs) y3 (x_nets_second xs) (x_box_ohms xs) (x_box_spread xs) y4)) (ws' := (wXS cy bx u (xs.1, xs.2.1, (xs.2.2.1.1, y0, y2, y3, y1, y4, xs.2.2.1.2.2.2.2.2.2), xs.2.2.2) ++ wMS cy bm v ms)) (va_runV (As := [.int (sc (x3 + (1 : Int32)).toNatClampNeg), .int (sc (x3 + (2 : Int32)).toNatClampNeg)]) (rest := []) ⟨hx, hb, hml, hown, hts⟩ (mX10_ends l D cy H.size bx (u 0) (u 3) (u 12) (u 34) (u 37) (u 41) (u 52) (u 59) (u 66) (u 67) (u 4) (u 5) (u 6) (u 7) (u 8) (u 9) (u 10) (u 11) (u 13) (u 17) (u 18) (u 19) (u 20) (u 21) (u 14) (u 15) (u 16) (u 1) (u 2) (x_nets_count xs) (x_meter_seed xs) (x_nets_parts xs) (x_meter_plan_length xs) (x_meter_plan_waiting xs) (x_nets_kind xs) (x_meter_plan_kind xs) (x_nets_first xs) (x_meter_plan_sort xs) (x_nets_second xs) (x_box_ohms xs) (x_box_spread xs) (x_meter_doubles xs) (sc (x3 + (1 : Int32)).toNatClampNeg) (sc (x3 + (2 : Int32)).toNatClampNeg) (r, y0, y1, y2, y3, y4) hqx) (cwV 2 hts gl_X10_ends rfl rfl rfl ⟨rfl, cdX10_ends⟩ ⟨Nat.le_of_ble_eq_true rfl, Nat.le_of_ble_eq_true rfl⟩) (zPV hK hP hD [0, 4, 13, 8, 14, 17, 5, 15, 6, 16, 7, 1, 2, 3, 19] rfl rfl (q0 := 0) (ci := 10) rfl rfl rfl) rfl rfl hl.1 rfl (lv_room (Nat.le_of_ble_eq_true rfl)) dL_law_416 ⟨Nat.le_of_ble_eq_true rfl, Nat.le_of_ble_eq_true rfl⟩) hP hD hS hA [0, 4, 13, 8, 14, 17, 5, 15, 6, 16, 7, 1, 2, 3, 19] rfl [1, 12, 13, 14, 2, 7, 9, 11, 4, 0, 0, 0, 0, 3, 5, 8, 10, 6, 0, 15, 0, 0, 0, 0, 0, 0, 0, 0, 0, 0, 0, 0, 0, 0, 0, 0, 0, 0, 0, 0, 0, 0, 0, 0, 0, 0, 0, 0, 0, 0, 0, 0, 0, 0, 0, 0, 0, 0, 0, 0, 0, 0, 0, 0, 0, 0, 0, 0, 0, 0, 0, 0, 0, 0, 0, 0, 0, 0, 0, 0, 0, 0, 0, 0, 0, 0, 0, 0, 0, 0, 0, 0, 0, 0, 0, 0, 0, 0, 0, 0, 0, 0, 0, 0, 0, 0, 0, 0, 0, 0, 0, 0, 0, 0, 0, 0, 0, 0, 0] rfl rfl rfl (fun H locs hP hD hS => ?_)
  refine lv_aload_n hx hb dL_law_419 rfl (lv_at hl 2 rfl) ?_
  refine lv_aload_n hx hb dL_law_420 rfl (lv_at hl 0 rfl) ?_
  refine lv_iload_n hx hb dL_law_421 rfl (lv_at hl 3 rfl) ?_
  refine lv_iconst (v := (1 : Int32)) hx hb dL_law_422 (by decide) ?_
  refine lv_iadd hx hb dL_law_423 ?_
  refine va_sld hx hb hX hbl hbA hS hs1 dL_law_424 ?_
  refine lv_aload_n hx hb dL_law_425 rfl (lv_at hl 0 rfl) ?_
  refine lv_iload_n hx hb dL_law_426 rfl (lv_at hl 3 rfl) ?_
  refine lv_iconst (v := (2 : Int32)) hx hb dL_law_427 (by decide) ?_
  refine lv_iadd hx hb dL_law_428 ?_
  refine va_sld hx hb hX hbl hbA hS hs2 dL_law_429 ?_
  refine zClS (r0 := r) (w1 := (wdX11_ends cy bm (v 0) (v 1) (v 2) (v 3) (v 4) (v 5) (v 6) (v 7) (v 8) (v 9) (v 10) (v 11) (v 12) (v 13) (v 14) (v 15) (v 16) (v 17) (v 18) (v 19) (v 20) (v 21) (v 22) (m_hasImage ms) (m_above ms) (m_below ms) (m_orderMany ms) (m_waitMany ms) (m_seed ms) (m_size ms) (m_openMany ms) (m_paperMany ms) (m_reachMany ms) (m_now ms) w0)) (ws' := (wXS cy bx u (xs.1, xs.2.1, (xs.2.2.1.1, y0, y2, y3, y1, y4, xs.2.2.1.2.2.2.2.2.2), xs.2.2.2) ++ wMS cy bm v (ms.1, ms.2.1, (ms.2.2.1.1, ms.2.2.1.2.1, w0, ms.2.2.1.2.2.2), ms.2.2.2))) (va_runV (As := [.int (sc (x3 + (1 : Int32)).toNatClampNeg), .int (sc (x3 + (2 : Int32)).toNatClampNeg)]) (rest := [.long r]) ⟨hx, hb, hml, hown, hts⟩ (mX11_ends l D cy H.size bm (v 0) (v 1) (v 2) (v 3) (v 4) (v 5) (v 6) (v 7) (v 8) (v 9) (v 10) (v 11) (v 12) (v 13) (v 14) (v 15) (v 16) (v 17) (v 18) (v 19) (v 20) (v 21) (v 22) (m_hasImage ms) (m_above ms) (m_below ms) (m_orderMany ms) (m_waitMany ms) (m_seed ms) (m_size ms) (m_openMany ms) (m_paperMany ms) (m_reachMany ms) (m_now ms) (m_real ms) (sc (x3 + (1 : Int32)).toNatClampNeg) (sc (x3 + (2 : Int32)).toNatClampNeg) (r, w0) hqm) (cwV 2 hts gl_X11_ends rfl rfl rfl ⟨rfl, cdX11_ends⟩ ⟨Nat.le_of_ble_eq_true rfl, Nat.le_of_ble_eq_true rfl⟩) (zPV hK hP hD [95, 96, 100] rfl rfl (q0 := 95) (ci := 11) rfl rfl rfl) rfl rfl hl.1 rfl (lv_room (Nat.le_of_ble_eq_true rfl)) dL_law_430 ⟨Nat.le_of_ble_eq_true rfl, Nat.le_of_ble_eq_true rfl⟩) hP hD hS hA [95, 96, 100] rfl [0, 0, 0, 0, 0, 0, 0, 0, 0, 0, 0, 0, 0, 0, 0, 0, 0, 0, 0, 0, 0, 0, 0, 0, 0, 0, 0, 0, 0, 0, 0, 0, 0, 0, 0, 0, 0, 0, 0, 0, 0, 0, 0, 0, 0, 0, 0, 0, 0, 0, 0, 0, 0, 0, 0, 0, 0, 0, 0, 0, 0, 0, 0, 0, 0, 0, 0, 0, 0, 0, 0, 0, 0, 0, 0, 0, 0, 0, 0, 0, 0, 0, 0, 0, 0, 0, 0, 0, 0, 0, 0, 0, 0, 0, 0, 1, 2, 0, 0, 0, 3, 0, 0, 0, 0, 0, 0, 0, 0, 0, 0, 0, 0, 0, 0, 0, 0, 0, 0] rfl rfl rfl (fun H locs hP hD hS => ?_)
  refine W.lcmp hx hb dL_law_433 ?_
  refine lv_if_eq (tgt := 1498) hx hb dL_law_434 (by decide) (fun _ => ?_) (fun hc => absurd ((zc_eq _ _).mpr rfl) hc)
  exact kk _ _ hR2 H locs ls hP hD hS hl
set_option maxHeartbeats 4000000 in
set_option maxRecDepth 100000 in
theorem law_shortly {p : Program} {l : Launch} {e : Env} {s : State} {m : MethodId} {below : List Frame} {meth : Method} {c : Code} {D : va_G} {cy : Nat → ClassId} {b L : Nat} {sc : Nat → Int32} {A : Nat → Prop} {Z : State → Prop} {bx bm : Nat} {u v : Nat → Nat} (hx : p.tables.exec = Jvm.exec) (hb : c.code = cL_law) (hml : c.maxLocals = 4) (hown : s.vm.findClass RL = some m.cls) (hts : ∀ w ∈ lw_tbl, w.before #[Value.ref b] s = true) (hX : va_X b L sc s s.heap) (hbl : b < s.heap.size) (hbA : ¬ A b) (hA : ∀ q : Nat, s.heap.size ≤ q → A q) (hK : zK D cy s) {R : Nat → XS → MS → Prop} {k : Nat} (hq : zQ_shortly R k) {x3 : Int32} (hs : ∀ j : Nat, j < 7 → vp_in (x3 + nI j) L) (kk : ∀ (xs : XS) (ms : MS), R (k + 1) xs ms → ∀ (H : Heap) (locs : List Loc) (ls : Array Slot), va_P D vwCl (wXS cy bx u xs ++ wMS cy bm v ms) H → va_D A (wXS cy bx u xs ++ wMS cy bm v ms) → va_S A s.heap H locs → lv_has ls 4 [(0, .ref b), (1, .ref bx), (2, .ref bm), (3, .int x3)] → W p l e room_1 s m #[Value.ref b] below meth c H locs 119 29611 Z (F0 m 1498 ls [])) (xs : XS) (ms : MS) (hR : R k xs ms) (H : Heap) (locs : List Loc) (ls : Array Slot) (hP : va_P D vwCl (wXS cy bx u xs ++ wMS cy bm v ms) H) (hD : va_D A (wXS cy bx u xs ++ wMS cy bm v ms)) (hS : va_S A s.heap H locs) (hl : lv_has ls 4 [(0, .ref b), (1, .ref bx), (2, .ref bm), (3, .int x3)]) : W p l e room_1 s m #[Value.ref b] below meth c H locs 119 29611 Z (F0 m 439 ls []) := by
  have hs1 : vp_in (x3 + (1 : Int32)) L := hs 1 (by decide)
  have hs2 : vp_in (x3 + (2 : Int32)) L := hs 2 (by decide)
  have hs3 : vp_in (x3 + (3 : Int32)) L := hs 3 (by decide)
  have hs4 : vp_in (x3 + (4 : Int32)) L := hs 4 (by decide)
  have hs5 : vp_in (x3 + (5 : Int32)) L := hs 5 (by decide)
  have hs6 : vp_in (x3 + (6 : Int32)) L := hs 6 (by decide)
  obtain ⟨r, xs2, ms2, hx2, hm2, hR2⟩ := hq xs ms hR (sc (x3 + (1 : Int32)).toNatClampNeg)
  obtain ⟨rx, y0, y1, y2, y3, y4, y5, hqx, hx2⟩ := zb7_s hx2
  cases hx2
  obtain ⟨rm, w0, hqm, hm2⟩ := zb2_s hm2
  cases hm2
  refine lv_aload_n hx hb dL_law_439 rfl (lv_at hl 1 rfl) ?_
  refine lv_aload_n hx hb dL_law_440 rfl (lv_at hl 0 rfl) ?_
  refine lv_iload_n hx hb dL_law_441 rfl (lv_at hl 3 rfl) ?_
  refine lv_iconst (v := (1 : Int32)) hx hb dL_law_442 (by decide) ?_
  refine lv_iadd hx hb dL_law_443 ?_
  refine va_sld hx hb hX hbl hbA hS hs1 dL_law_444 ?_
  refine zClS (r0 := r) (w1 := (wdX10_shortly cy bx (u 0) (u 3) (u 12) (u 34) (u 37) (u 41) (u 52) (u 59) (u 66) (u 67) (u 4) (u 5) (u 6) (u 7) (u 8) (u 9) (u 10) (u 11) (u 13) (u 17) (u 18) (u 19) (u 20) (u 21) (u 14) (u 15) (u 16) (u 1) (u 2) (x_nets_count xs) y0 (x_nets_parts xs) y1 y2 (x_nets_kind xs) y3 (x_nets_first xs) y4 (x_nets_second xs) (x_box_ohms xs) (x_box_spread xs) y5)) (ws' := (wXS cy bx u (xs.1, xs.2.1, (y0, y1, y3, y4, y2, xs.2.2.1.2.2.2.2.2.1, y5, xs.2.2.1.2.2.2.2.2.2.2), xs.2.2.2) ++ wMS cy bm v ms)) (va_runV (As := [.int (sc (x3 + (1 : Int32)).toNatClampNeg)]) (rest := []) ⟨hx, hb, hml, hown, hts⟩ (mX10_shortly l D cy H.size bx (u 0) (u 3) (u 12) (u 34) (u 37) (u 41) (u 52) (u 59) (u 66) (u 67) (u 4) (u 5) (u 6) (u 7) (u 8) (u 9) (u 10) (u 11) (u 13) (u 17) (u 18) (u 19) (u 20) (u 21) (u 14) (u 15) (u 16) (u 1) (u 2) (x_nets_count xs) (x_meter_seed xs) (x_nets_parts xs) (x_meter_plan_length xs) (x_meter_plan_waiting xs) (x_nets_kind xs) (x_meter_plan_kind xs) (x_nets_first xs) (x_meter_plan_sort xs) (x_nets_second xs) (x_box_ohms xs) (x_box_spread xs) (x_meter_floats xs) (sc (x3 + (1 : Int32)).toNatClampNeg) (r, y0, y1, y2, y3, y4, y5) hqx) (cwV 1 hts gl_X10_shortly rfl rfl rfl ⟨rfl, cdX10_shortly⟩ ⟨Nat.le_of_ble_eq_true rfl, Nat.le_of_ble_eq_true rfl⟩) (zPV hK hP hD [0, 4, 13, 8, 14, 17, 5, 15, 6, 16, 7, 1, 2, 3, 20] rfl rfl (q0 := 0) (ci := 10) rfl rfl rfl) rfl rfl hl.1 rfl (lv_room (Nat.le_of_ble_eq_true rfl)) dL_law_445 ⟨Nat.le_of_ble_eq_true rfl, Nat.le_of_ble_eq_true rfl⟩) hP hD hS hA [0, 4, 13, 8, 14, 17, 5, 15, 6, 16, 7, 1, 2, 3, 20] rfl [1, 12, 13, 14, 2, 7, 9, 11, 4, 0, 0, 0, 0, 3, 5, 8, 10, 6, 0, 0, 15, 0, 0, 0, 0, 0, 0, 0, 0, 0, 0, 0, 0, 0, 0, 0, 0, 0, 0, 0, 0, 0, 0, 0, 0, 0, 0, 0, 0, 0, 0, 0, 0, 0, 0, 0, 0, 0, 0, 0, 0, 0, 0, 0, 0, 0, 0, 0, 0, 0, 0, 0, 0, 0, 0, 0, 0, 0, 0, 0, 0, 0, 0, 0, 0, 0, 0, 0, 0, 0, 0, 0, 0, 0, 0, 0, 0, 0, 0, 0, 0, 0, 0, 0, 0, 0, 0, 0, 0, 0, 0, 0, 0, 0, 0, 0, 0, 0, 0] rfl rfl rfl (fun H locs hP hD hS => ?_)
  refine lv_aload_n hx hb dL_law_448 rfl (lv_at hl 2 rfl) ?_
  refine lv_aload_n hx hb dL_law_449 rfl (lv_at hl 0 rfl) ?_
  refine lv_iload_n hx hb dL_law_450 rfl (lv_at hl 3 rfl) ?_
  refine lv_iconst (v := (1 : Int32)) hx hb dL_law_451 (by decide) ?_
  refine lv_iadd hx hb dL_law_452 ?_
  refine va_sld hx hb hX hbl hbA hS hs1 dL_law_453 ?_
  refine zClS (r0 := r) (w1 := (wdX11_shortly cy bm (v 0) (v 1) (v 2) (v 3) (v 4) (v 5) (v 6) (v 7) (v 8) (v 9) (v 10) (v 11) (v 12) (v 13) (v 14) (v 15) (v 16) (v 17) (v 18) (v 19) (v 20) (v 21) (v 22) (m_hasImage ms) (m_above ms) (m_below ms) (m_orderMany ms) (m_waitMany ms) (m_seed ms) (m_size ms) (m_openMany ms) (m_paperMany ms) (m_reachMany ms) (m_now ms) w0)) (ws' := (wXS cy bx u (xs.1, xs.2.1, (y0, y1, y3, y4, y2, xs.2.2.1.2.2.2.2.2.1, y5, xs.2.2.1.2.2.2.2.2.2.2), xs.2.2.2) ++ wMS cy bm v (ms.1, ms.2.1, (ms.2.2.1.1, ms.2.2.1.2.1, ms.2.2.1.2.2.1, w0, ms.2.2.1.2.2.2.2), ms.2.2.2))) (va_runV (As := [.int (sc (x3 + (1 : Int32)).toNatClampNeg)]) (rest := [.long r]) ⟨hx, hb, hml, hown, hts⟩ (mX11_shortly l D cy H.size bm (v 0) (v 1) (v 2) (v 3) (v 4) (v 5) (v 6) (v 7) (v 8) (v 9) (v 10) (v 11) (v 12) (v 13) (v 14) (v 15) (v 16) (v 17) (v 18) (v 19) (v 20) (v 21) (v 22) (m_hasImage ms) (m_above ms) (m_below ms) (m_orderMany ms) (m_waitMany ms) (m_seed ms) (m_size ms) (m_openMany ms) (m_paperMany ms) (m_reachMany ms) (m_now ms) (m_brief ms) (sc (x3 + (1 : Int32)).toNatClampNeg) (r, w0) hqm) (cwV 1 hts gl_X11_shortly rfl rfl rfl ⟨rfl, cdX11_shortly⟩ ⟨Nat.le_of_ble_eq_true rfl, Nat.le_of_ble_eq_true rfl⟩) (zPV hK hP hD [95, 96, 101] rfl rfl (q0 := 95) (ci := 11) rfl rfl rfl) rfl rfl hl.1 rfl (lv_room (Nat.le_of_ble_eq_true rfl)) dL_law_454 ⟨Nat.le_of_ble_eq_true rfl, Nat.le_of_ble_eq_true rfl⟩) hP hD hS hA [95, 96, 101] rfl [0, 0, 0, 0, 0, 0, 0, 0, 0, 0, 0, 0, 0, 0, 0, 0, 0, 0, 0, 0, 0, 0, 0, 0, 0, 0, 0, 0, 0, 0, 0, 0, 0, 0, 0, 0, 0, 0, 0, 0, 0, 0, 0, 0, 0, 0, 0, 0, 0, 0, 0, 0, 0, 0, 0, 0, 0, 0, 0, 0, 0, 0, 0, 0, 0, 0, 0, 0, 0, 0, 0, 0, 0, 0, 0, 0, 0, 0, 0, 0, 0, 0, 0, 0, 0, 0, 0, 0, 0, 0, 0, 0, 0, 0, 0, 1, 2, 0, 0, 0, 0, 3, 0, 0, 0, 0, 0, 0, 0, 0, 0, 0, 0, 0, 0, 0, 0, 0, 0] rfl rfl rfl (fun H locs hP hD hS => ?_)
  refine W.lcmp hx hb dL_law_457 ?_
  refine lv_if_eq (tgt := 1498) hx hb dL_law_458 (by decide) (fun _ => ?_) (fun hc => absurd ((zc_eq _ _).mpr rfl) hc)
  exact kk _ _ hR2 H locs ls hP hD hS hl
set_option maxHeartbeats 4000000 in
set_option maxRecDepth 100000 in
theorem law_drawn {p : Program} {l : Launch} {e : Env} {s : State} {m : MethodId} {below : List Frame} {meth : Method} {c : Code} {D : va_G} {cy : Nat → ClassId} {b L : Nat} {sc : Nat → Int32} {A : Nat → Prop} {Z : State → Prop} {bx bm : Nat} {u v : Nat → Nat} (hx : p.tables.exec = Jvm.exec) (hb : c.code = cL_law) (hml : c.maxLocals = 4) (hown : s.vm.findClass RL = some m.cls) (hts : ∀ w ∈ lw_tbl, w.before #[Value.ref b] s = true) (hX : va_X b L sc s s.heap) (hbl : b < s.heap.size) (hbA : ¬ A b) (hA : ∀ q : Nat, s.heap.size ≤ q → A q) (hK : zK D cy s) {R : Nat → XS → MS → Prop} {k : Nat} (hq : zQ_drawn R k) {x3 : Int32} (hs : ∀ j : Nat, j < 7 → vp_in (x3 + nI j) L) (kk : ∀ (xs : XS) (ms : MS), R (k + 1) xs ms → ∀ (H : Heap) (locs : List Loc) (ls : Array Slot), va_P D vwCl (wXS cy bx u xs ++ wMS cy bm v ms) H → va_D A (wXS cy bx u xs ++ wMS cy bm v ms) → va_S A s.heap H locs → lv_has ls 4 [(0, .ref b), (1, .ref bx), (2, .ref bm), (3, .int x3)] → W p l e room_1 s m #[Value.ref b] below meth c H locs 119 29611 Z (F0 m 1498 ls [])) (xs : XS) (ms : MS) (hR : R k xs ms) (H : Heap) (locs : List Loc) (ls : Array Slot) (hP : va_P D vwCl (wXS cy bx u xs ++ wMS cy bm v ms) H) (hD : va_D A (wXS cy bx u xs ++ wMS cy bm v ms)) (hS : va_S A s.heap H locs) (hl : lv_has ls 4 [(0, .ref b), (1, .ref bx), (2, .ref bm), (3, .int x3)]) : W p l e room_1 s m #[Value.ref b] below meth c H locs 119 29611 Z (F0 m 463 ls []) := by
  have hs1 : vp_in (x3 + (1 : Int32)) L := hs 1 (by decide)
  have hs2 : vp_in (x3 + (2 : Int32)) L := hs 2 (by decide)
  have hs3 : vp_in (x3 + (3 : Int32)) L := hs 3 (by decide)
  have hs4 : vp_in (x3 + (4 : Int32)) L := hs 4 (by decide)
  have hs5 : vp_in (x3 + (5 : Int32)) L := hs 5 (by decide)
  have hs6 : vp_in (x3 + (6 : Int32)) L := hs 6 (by decide)
  obtain ⟨r, xs2, ms2, hx2, hm2, hR2⟩ := hq xs ms hR (sc (x3 + (1 : Int32)).toNatClampNeg) (sc (x3 + (2 : Int32)).toNatClampNeg)
  obtain ⟨rx, y0, y1, y2, y3, y4, y5, hqx, hx2⟩ := zb7_s hx2
  cases hx2
  obtain ⟨rm, w0, w1, w2, w3, w4, w5, hqm, hm2⟩ := zb7_s hm2
  cases hm2
  refine lv_aload_n hx hb dL_law_463 rfl (lv_at hl 1 rfl) ?_
  refine lv_aload_n hx hb dL_law_464 rfl (lv_at hl 0 rfl) ?_
  refine lv_iload_n hx hb dL_law_465 rfl (lv_at hl 3 rfl) ?_
  refine lv_iconst (v := (1 : Int32)) hx hb dL_law_466 (by decide) ?_
  refine lv_iadd hx hb dL_law_467 ?_
  refine va_sld hx hb hX hbl hbA hS hs1 dL_law_468 ?_
  refine lv_aload_n hx hb dL_law_469 rfl (lv_at hl 0 rfl) ?_
  refine lv_iload_n hx hb dL_law_470 rfl (lv_at hl 3 rfl) ?_
  refine lv_iconst (v := (2 : Int32)) hx hb dL_law_471 (by decide) ?_
  refine lv_iadd hx hb dL_law_472 ?_
  refine va_sld hx hb hX hbl hbA hS hs2 dL_law_473 ?_
  refine zClS (r0 := r) (w1 := (wdX10_drawn cy bx (u 0) (u 3) (u 12) (u 34) (u 37) (u 41) (u 52) (u 59) (u 66) (u 67) (u 4) (u 5) (u 6) (u 7) (u 8) (u 9) (u 10) (u 11) (u 13) (u 17) (u 18) (u 19) (u 20) (u 21) (u 14) (u 15) (u 16) (u 1) (u 2) (x_nets_count xs) y0 (x_nets_parts xs) y1 y2 (x_nets_kind xs) y3 (x_nets_first xs) y4 (x_nets_second xs) (x_box_ohms xs) (x_box_spread xs) y5)) (ws' := (wXS cy bx u (xs.1, xs.2.1, (y0, y1, y3, y4, y2, xs.2.2.1.2.2.2.2.2.1, y5, xs.2.2.1.2.2.2.2.2.2.2), xs.2.2.2) ++ wMS cy bm v ms)) (va_runV (As := [.int (sc (x3 + (1 : Int32)).toNatClampNeg), .int (sc (x3 + (2 : Int32)).toNatClampNeg)]) (rest := []) ⟨hx, hb, hml, hown, hts⟩ (mX10_drawn l D cy H.size bx (u 0) (u 3) (u 12) (u 34) (u 37) (u 41) (u 52) (u 59) (u 66) (u 67) (u 4) (u 5) (u 6) (u 7) (u 8) (u 9) (u 10) (u 11) (u 13) (u 17) (u 18) (u 19) (u 20) (u 21) (u 14) (u 15) (u 16) (u 1) (u 2) (x_nets_count xs) (x_meter_seed xs) (x_nets_parts xs) (x_meter_plan_length xs) (x_meter_plan_waiting xs) (x_nets_kind xs) (x_meter_plan_kind xs) (x_nets_first xs) (x_meter_plan_sort xs) (x_nets_second xs) (x_box_ohms xs) (x_box_spread xs) (x_meter_floats xs) (sc (x3 + (1 : Int32)).toNatClampNeg) (sc (x3 + (2 : Int32)).toNatClampNeg) (r, y0, y1, y2, y3, y4, y5) hqx) (cwV 2 hts gl_X10_drawn rfl rfl rfl ⟨rfl, cdX10_drawn⟩ ⟨Nat.le_of_ble_eq_true rfl, Nat.le_of_ble_eq_true rfl⟩) (zPV hK hP hD [0, 4, 13, 8, 14, 17, 5, 15, 6, 16, 7, 1, 2, 3, 20] rfl rfl (q0 := 0) (ci := 10) rfl rfl rfl) rfl rfl hl.1 rfl (lv_room (Nat.le_of_ble_eq_true rfl)) dL_law_474 ⟨Nat.le_of_ble_eq_true rfl, Nat.le_of_ble_eq_true rfl⟩) hP hD hS hA [0, 4, 13, 8, 14, 17, 5, 15, 6, 16, 7, 1, 2, 3, 20] rfl [1, 12, 13, 14, 2, 7, 9, 11, 4, 0, 0, 0, 0, 3, 5, 8, 10, 6, 0, 0, 15, 0, 0, 0, 0, 0, 0, 0, 0, 0, 0, 0, 0, 0, 0, 0, 0, 0, 0, 0, 0, 0, 0, 0, 0, 0, 0, 0, 0, 0, 0, 0, 0, 0, 0, 0, 0, 0, 0, 0, 0, 0, 0, 0, 0, 0, 0, 0, 0, 0, 0, 0, 0, 0, 0, 0, 0, 0, 0, 0, 0, 0, 0, 0, 0, 0, 0, 0, 0, 0, 0, 0, 0, 0, 0, 0, 0, 0, 0, 0, 0, 0, 0, 0, 0, 0, 0, 0, 0, 0, 0, 0, 0, 0, 0, 0, 0, 0, 0] rfl rfl rfl (fun H locs hP hD hS => ?_)
  refine lv_aload_n hx hb dL_law_477 rfl (lv_at hl 2 rfl) ?_
  refine lv_aload_n hx hb dL_law_478 rfl (lv_at hl 0 rfl) ?_
  refine lv_iload_n hx hb dL_law_479 rfl (lv_at hl 3 rfl) ?_
  refine lv_iconst (v := (1 : Int32)) hx hb dL_law_480 (by decide) ?_
  refine lv_iadd hx hb dL_law_481 ?_
  refine va_sld hx hb hX hbl hbA hS hs1 dL_law_482 ?_
  refine lv_aload_n hx hb dL_law_483 rfl (lv_at hl 0 rfl) ?_
  refine lv_iload_n hx hb dL_law_484 rfl (lv_at hl 3 rfl) ?_
  refine lv_iconst (v := (2 : Int32)) hx hb dL_law_485 (by decide) ?_
  refine lv_iadd hx hb dL_law_486 ?_
  refine va_sld hx hb hX hbl hbA hS hs2 dL_law_487 ?_
  refine zClS (r0 := r) (w1 := (wdX11_drawn cy bm (v 0) (v 1) (v 2) (v 3) (v 4) (v 5) (v 6) (v 7) (v 8) (v 9) (v 10) (v 11) (v 12) (v 13) (v 14) (v 15) (v 16) (v 17) (v 18) (v 19) (v 20) (v 21) (v 22) (m_hasImage ms) (m_above ms) (m_below ms) w0 w1 w2 (m_size ms) (m_openMany ms) (m_paperMany ms) (m_reachMany ms) (m_now ms) w3 w4 w5)) (ws' := (wXS cy bx u (xs.1, xs.2.1, (y0, y1, y3, y4, y2, xs.2.2.1.2.2.2.2.2.1, y5, xs.2.2.1.2.2.2.2.2.2.2), xs.2.2.2) ++ wMS cy bm v ((ms.1.1, ms.1.2.1, ms.1.2.2.1, w0, w1, w2), ms.2.1, (ms.2.2.1.1, ms.2.2.1.2.1, ms.2.2.1.2.2.1, ms.2.2.1.2.2.2.1, w4, w3), (w5, ms.2.2.2.1.2), ms.2.2.2.2))) (va_runV (As := [.int (sc (x3 + (1 : Int32)).toNatClampNeg), .int (sc (x3 + (2 : Int32)).toNatClampNeg)]) (rest := [.long r]) ⟨hx, hb, hml, hown, hts⟩ (mX11_drawn l D cy H.size bm (v 0) (v 1) (v 2) (v 3) (v 4) (v 5) (v 6) (v 7) (v 8) (v 9) (v 10) (v 11) (v 12) (v 13) (v 14) (v 15) (v 16) (v 17) (v 18) (v 19) (v 20) (v 21) (v 22) (m_hasImage ms) (m_above ms) (m_below ms) (m_orderMany ms) (m_waitMany ms) (m_seed ms) (m_size ms) (m_openMany ms) (m_paperMany ms) (m_reachMany ms) (m_now ms) (m_waits ms) (m_order ms) (m_floats ms) (sc (x3 + (1 : Int32)).toNatClampNeg) (sc (x3 + (2 : Int32)).toNatClampNeg) (r, w0, w1, w2, w3, w4, w5) hqm) (cwV 2 hts gl_X11_drawn rfl rfl rfl ⟨rfl, cdX11_drawn⟩ ⟨Nat.le_of_ble_eq_true rfl, Nat.le_of_ble_eq_true rfl⟩) (zPV hK hP hD [95, 96, 103, 102, 104] rfl rfl (q0 := 95) (ci := 11) rfl rfl rfl) rfl rfl hl.1 rfl (lv_room (Nat.le_of_ble_eq_true rfl)) dL_law_488 ⟨Nat.le_of_ble_eq_true rfl, Nat.le_of_ble_eq_true rfl⟩) hP hD hS hA [95, 96, 103, 102, 104] rfl [0, 0, 0, 0, 0, 0, 0, 0, 0, 0, 0, 0, 0, 0, 0, 0, 0, 0, 0, 0, 0, 0, 0, 0, 0, 0, 0, 0, 0, 0, 0, 0, 0, 0, 0, 0, 0, 0, 0, 0, 0, 0, 0, 0, 0, 0, 0, 0, 0, 0, 0, 0, 0, 0, 0, 0, 0, 0, 0, 0, 0, 0, 0, 0, 0, 0, 0, 0, 0, 0, 0, 0, 0, 0, 0, 0, 0, 0, 0, 0, 0, 0, 0, 0, 0, 0, 0, 0, 0, 0, 0, 0, 0, 0, 0, 1, 2, 0, 0, 0, 0, 0, 4, 3, 5, 0, 0, 0, 0, 0, 0, 0, 0, 0, 0, 0, 0, 0, 0] rfl rfl rfl (fun H locs hP hD hS => ?_)
  refine W.lcmp hx hb dL_law_491 ?_
  refine lv_if_eq (tgt := 1498) hx hb dL_law_492 (by decide) (fun _ => ?_) (fun hc => absurd ((zc_eq _ _).mpr rfl) hc)
  exact kk _ _ hR2 H locs ls hP hD hS hl
set_option maxHeartbeats 4000000 in
set_option maxRecDepth 100000 in
theorem law_within {p : Program} {l : Launch} {e : Env} {s : State} {m : MethodId} {below : List Frame} {meth : Method} {c : Code} {D : va_G} {cy : Nat → ClassId} {b L : Nat} {sc : Nat → Int32} {A : Nat → Prop} {Z : State → Prop} {bx bm : Nat} {u v : Nat → Nat} (hx : p.tables.exec = Jvm.exec) (hb : c.code = cL_law) (hml : c.maxLocals = 4) (hown : s.vm.findClass RL = some m.cls) (hts : ∀ w ∈ lw_tbl, w.before #[Value.ref b] s = true) (hX : va_X b L sc s s.heap) (hbl : b < s.heap.size) (hbA : ¬ A b) (hA : ∀ q : Nat, s.heap.size ≤ q → A q) (hK : zK D cy s) {R : Nat → XS → MS → Prop} {k : Nat} (hq : zQ_within R k) {x3 : Int32} (hs : ∀ j : Nat, j < 7 → vp_in (x3 + nI j) L) (kk : ∀ (xs : XS) (ms : MS), R (k + 1) xs ms → ∀ (H : Heap) (locs : List Loc) (ls : Array Slot), va_P D vwCl (wXS cy bx u xs ++ wMS cy bm v ms) H → va_D A (wXS cy bx u xs ++ wMS cy bm v ms) → va_S A s.heap H locs → lv_has ls 4 [(0, .ref b), (1, .ref bx), (2, .ref bm), (3, .int x3)] → W p l e room_1 s m #[Value.ref b] below meth c H locs 119 29611 Z (F0 m 1498 ls [])) (xs : XS) (ms : MS) (hR : R k xs ms) (H : Heap) (locs : List Loc) (ls : Array Slot) (hP : va_P D vwCl (wXS cy bx u xs ++ wMS cy bm v ms) H) (hD : va_D A (wXS cy bx u xs ++ wMS cy bm v ms)) (hS : va_S A s.heap H locs) (hl : lv_has ls 4 [(0, .ref b), (1, .ref bx), (2, .ref bm), (3, .int x3)]) : W p l e room_1 s m #[Value.ref b] below meth c H locs 119 29611 Z (F0 m 497 ls []) := by
  have hs1 : vp_in (x3 + (1 : Int32)) L := hs 1 (by decide)
  have hs2 : vp_in (x3 + (2 : Int32)) L := hs 2 (by decide)
  have hs3 : vp_in (x3 + (3 : Int32)) L := hs 3 (by decide)
  have hs4 : vp_in (x3 + (4 : Int32)) L := hs 4 (by decide)
  have hs5 : vp_in (x3 + (5 : Int32)) L := hs 5 (by decide)
  have hs6 : vp_in (x3 + (6 : Int32)) L := hs 6 (by decide)
  obtain ⟨r, xs2, ms2, hx2, hm2, hR2⟩ := hq xs ms hR (sc (x3 + (1 : Int32)).toNatClampNeg) (sc (x3 + (2 : Int32)).toNatClampNeg) (sc (x3 + (3 : Int32)).toNatClampNeg) (sc (x3 + (4 : Int32)).toNatClampNeg) (sc (x3 + (5 : Int32)).toNatClampNeg) (sc (x3 + (6 : Int32)).toNatClampNeg)
  obtain ⟨rx, y0, y1, y2, y3, y4, y5, hqx, hx2⟩ := zb7_s hx2
  cases hx2
  obtain ⟨rm, w0, w1, w2, w3, w4, w5, hqm, hm2⟩ := zb7_s hm2
  cases hm2
  refine lv_aload_n hx hb dL_law_497 rfl (lv_at hl 1 rfl) ?_
  refine lv_aload_n hx hb dL_law_498 rfl (lv_at hl 0 rfl) ?_
  refine lv_iload_n hx hb dL_law_499 rfl (lv_at hl 3 rfl) ?_
  refine lv_iconst (v := (1 : Int32)) hx hb dL_law_500 (by decide) ?_
  refine lv_iadd hx hb dL_law_501 ?_
  refine va_sld hx hb hX hbl hbA hS hs1 dL_law_502 ?_
  refine lv_aload_n hx hb dL_law_503 rfl (lv_at hl 0 rfl) ?_
  refine lv_iload_n hx hb dL_law_504 rfl (lv_at hl 3 rfl) ?_
  refine lv_iconst (v := (2 : Int32)) hx hb dL_law_505 (by decide) ?_
  refine lv_iadd hx hb dL_law_506 ?_
  refine va_sld hx hb hX hbl hbA hS hs2 dL_law_507 ?_
  refine lv_aload_n hx hb dL_law_508 rfl (lv_at hl 0 rfl) ?_
  refine lv_iload_n hx hb dL_law_509 rfl (lv_at hl 3 rfl) ?_
  refine lv_iconst (v := (3 : Int32)) hx hb dL_law_510 (by decide) ?_
  refine lv_iadd hx hb dL_law_511 ?_
  refine va_sld hx hb hX hbl hbA hS hs3 dL_law_512 ?_
  refine lv_aload_n hx hb dL_law_513 rfl (lv_at hl 0 rfl) ?_
  refine lv_iload_n hx hb dL_law_514 rfl (lv_at hl 3 rfl) ?_
  refine lv_iconst (v := (4 : Int32)) hx hb dL_law_515 (by decide) ?_
  refine lv_iadd hx hb dL_law_516 ?_
  refine va_sld hx hb hX hbl hbA hS hs4 dL_law_517 ?_
  refine lv_aload_n hx hb dL_law_518 rfl (lv_at hl 0 rfl) ?_
  refine lv_iload_n hx hb dL_law_519 rfl (lv_at hl 3 rfl) ?_
  refine lv_iconst (v := (5 : Int32)) hx hb dL_law_520 (by decide) ?_
  refine lv_iadd hx hb dL_law_521 ?_
  refine va_sld hx hb hX hbl hbA hS hs5 dL_law_522 ?_
  refine lv_aload_n hx hb dL_law_523 rfl (lv_at hl 0 rfl) ?_
  refine lv_iload_n hx hb dL_law_524 rfl (lv_at hl 3 rfl) ?_
  refine lv_bipush (v := (6 : Int32)) hx hb dL_law_525 (by decide) ?_
  refine lv_iadd hx hb dL_law_527 ?_
  refine va_sld hx hb hX hbl hbA hS hs6 dL_law_528 ?_
  refine zCiS (r0 := r) (w1 := (wdX10_within cy bx (u 0) (u 3) (u 12) (u 34) (u 37) (u 41) (u 52) (u 59) (u 66) (u 67) (u 4) (u 5) (u 6) (u 7) (u 8) (u 9) (u 10) (u 11) (u 13) (u 17) (u 18) (u 19) (u 20) (u 21) (u 14) (u 15) (u 16) (u 1) (u 2) (x_nets_count xs) y0 (x_nets_parts xs) y1 y2 (x_nets_kind xs) y3 (x_nets_first xs) y4 (x_nets_second xs) (x_box_ohms xs) (x_box_spread xs) y5)) (ws' := (wXS cy bx u (xs.1, xs.2.1, (y0, y1, y3, y4, y2, xs.2.2.1.2.2.2.2.2.1, y5, xs.2.2.1.2.2.2.2.2.2.2), xs.2.2.2) ++ wMS cy bm v ms)) (va_runV (As := [.int (sc (x3 + (1 : Int32)).toNatClampNeg), .int (sc (x3 + (2 : Int32)).toNatClampNeg), .int (sc (x3 + (3 : Int32)).toNatClampNeg), .int (sc (x3 + (4 : Int32)).toNatClampNeg), .int (sc (x3 + (5 : Int32)).toNatClampNeg), .int (sc (x3 + (6 : Int32)).toNatClampNeg)]) (rest := []) ⟨hx, hb, hml, hown, hts⟩ (mX10_within l D cy H.size bx (u 0) (u 3) (u 12) (u 34) (u 37) (u 41) (u 52) (u 59) (u 66) (u 67) (u 4) (u 5) (u 6) (u 7) (u 8) (u 9) (u 10) (u 11) (u 13) (u 17) (u 18) (u 19) (u 20) (u 21) (u 14) (u 15) (u 16) (u 1) (u 2) (x_nets_count xs) (x_meter_seed xs) (x_nets_parts xs) (x_meter_plan_length xs) (x_meter_plan_waiting xs) (x_nets_kind xs) (x_meter_plan_kind xs) (x_nets_first xs) (x_meter_plan_sort xs) (x_nets_second xs) (x_box_ohms xs) (x_box_spread xs) (x_meter_floats xs) (sc (x3 + (1 : Int32)).toNatClampNeg) (sc (x3 + (2 : Int32)).toNatClampNeg) (sc (x3 + (3 : Int32)).toNatClampNeg) (sc (x3 + (4 : Int32)).toNatClampNeg) (sc (x3 + (5 : Int32)).toNatClampNeg) (sc (x3 + (6 : Int32)).toNatClampNeg) (r, y0, y1, y2, y3, y4, y5) hqx) (cwV 6 hts gl_X10_within rfl rfl rfl ⟨rfl, cdX10_within⟩ ⟨Nat.le_of_ble_eq_true rfl, Nat.le_of_ble_eq_true rfl⟩) (zPV hK hP hD [0, 4, 13, 8, 14, 17, 5, 15, 6, 16, 7, 1, 2, 3, 20] rfl rfl (q0 := 0) (ci := 10) rfl rfl rfl) rfl rfl hl.1 rfl (lv_room (Nat.le_of_ble_eq_true rfl)) dL_law_529 ⟨Nat.le_of_ble_eq_true rfl, Nat.le_of_ble_eq_true rfl⟩) hP hD hS hA [0, 4, 13, 8, 14, 17, 5, 15, 6, 16, 7, 1, 2, 3, 20] rfl [1, 12, 13, 14, 2, 7, 9, 11, 4, 0, 0, 0, 0, 3, 5, 8, 10, 6, 0, 0, 15, 0, 0, 0, 0, 0, 0, 0, 0, 0, 0, 0, 0, 0, 0, 0, 0, 0, 0, 0, 0, 0, 0, 0, 0, 0, 0, 0, 0, 0, 0, 0, 0, 0, 0, 0, 0, 0, 0, 0, 0, 0, 0, 0, 0, 0, 0, 0, 0, 0, 0, 0, 0, 0, 0, 0, 0, 0, 0, 0, 0, 0, 0, 0, 0, 0, 0, 0, 0, 0, 0, 0, 0, 0, 0, 0, 0, 0, 0, 0, 0, 0, 0, 0, 0, 0, 0, 0, 0, 0, 0, 0, 0, 0, 0, 0, 0, 0, 0] rfl rfl rfl (fun H locs hP hD hS => ?_)
  refine lv_aload_n hx hb dL_law_532 rfl (lv_at hl 2 rfl) ?_
  refine lv_aload_n hx hb dL_law_533 rfl (lv_at hl 0 rfl) ?_
  refine lv_iload_n hx hb dL_law_534 rfl (lv_at hl 3 rfl) ?_
  refine lv_iconst (v := (1 : Int32)) hx hb dL_law_535 (by decide) ?_
  refine lv_iadd hx hb dL_law_536 ?_
  refine va_sld hx hb hX hbl hbA hS hs1 dL_law_537 ?_
  refine lv_aload_n hx hb dL_law_538 rfl (lv_at hl 0 rfl) ?_
  refine lv_iload_n hx hb dL_law_539 rfl (lv_at hl 3 rfl) ?_
  refine lv_iconst (v := (2 : Int32)) hx hb dL_law_540 (by decide) ?_
  refine lv_iadd hx hb dL_law_541 ?_
  refine va_sld hx hb hX hbl hbA hS hs2 dL_law_542 ?_
  refine lv_aload_n hx hb dL_law_543 rfl (lv_at hl 0 rfl) ?_
  refine lv_iload_n hx hb dL_law_544 rfl (lv_at hl 3 rfl) ?_
  refine lv_iconst (v := (3 : Int32)) hx hb dL_law_545 (by decide) ?_
  refine lv_iadd hx hb dL_law_546 ?_
  refine va_sld hx hb hX hbl hbA hS hs3 dL_law_547 ?_
  refine lv_aload_n hx hb dL_law_548 rfl (lv_at hl 0 rfl) ?_
  refine lv_iload_n hx hb dL_law_549 rfl (lv_at hl 3 rfl) ?_
  refine lv_iconst (v := (4 : Int32)) hx hb dL_law_550 (by decide) ?_
  refine lv_iadd hx hb dL_law_551 ?_
  refine va_sld hx hb hX hbl hbA hS hs4 dL_law_552 ?_
  refine lv_aload_n hx hb dL_law_553 rfl (lv_at hl 0 rfl) ?_
  refine lv_iload_n hx hb dL_law_554 rfl (lv_at hl 3 rfl) ?_
  refine lv_iconst (v := (5 : Int32)) hx hb dL_law_555 (by decide) ?_
  refine lv_iadd hx hb dL_law_556 ?_
  refine va_sld hx hb hX hbl hbA hS hs5 dL_law_557 ?_
  refine lv_aload_n hx hb dL_law_558 rfl (lv_at hl 0 rfl) ?_
  refine lv_iload_n hx hb dL_law_559 rfl (lv_at hl 3 rfl) ?_
  refine lv_bipush (v := (6 : Int32)) hx hb dL_law_560 (by decide) ?_
  refine lv_iadd hx hb dL_law_562 ?_
  refine va_sld hx hb hX hbl hbA hS hs6 dL_law_563 ?_
  refine zCiS (r0 := r) (w1 := (wdX11_within cy bm (v 0) (v 1) (v 2) (v 3) (v 4) (v 5) (v 6) (v 7) (v 8) (v 9) (v 10) (v 11) (v 12) (v 13) (v 14) (v 15) (v 16) (v 17) (v 18) (v 19) (v 20) (v 21) (v 22) (m_hasImage ms) (m_above ms) (m_below ms) w0 w1 w2 (m_size ms) (m_openMany ms) (m_paperMany ms) (m_reachMany ms) (m_now ms) w3 w4 w5)) (ws' := (wXS cy bx u (xs.1, xs.2.1, (y0, y1, y3, y4, y2, xs.2.2.1.2.2.2.2.2.1, y5, xs.2.2.1.2.2.2.2.2.2.2), xs.2.2.2) ++ wMS cy bm v ((ms.1.1, ms.1.2.1, ms.1.2.2.1, w0, w1, w2), ms.2.1, (ms.2.2.1.1, ms.2.2.1.2.1, ms.2.2.1.2.2.1, ms.2.2.1.2.2.2.1, w4, w3), (w5, ms.2.2.2.1.2), ms.2.2.2.2))) (va_runV (As := [.int (sc (x3 + (1 : Int32)).toNatClampNeg), .int (sc (x3 + (2 : Int32)).toNatClampNeg), .int (sc (x3 + (3 : Int32)).toNatClampNeg), .int (sc (x3 + (4 : Int32)).toNatClampNeg), .int (sc (x3 + (5 : Int32)).toNatClampNeg), .int (sc (x3 + (6 : Int32)).toNatClampNeg)]) (rest := [.int r]) ⟨hx, hb, hml, hown, hts⟩ (mX11_within l D cy H.size bm (v 0) (v 1) (v 2) (v 3) (v 4) (v 5) (v 6) (v 7) (v 8) (v 9) (v 10) (v 11) (v 12) (v 13) (v 14) (v 15) (v 16) (v 17) (v 18) (v 19) (v 20) (v 21) (v 22) (m_hasImage ms) (m_above ms) (m_below ms) (m_orderMany ms) (m_waitMany ms) (m_seed ms) (m_size ms) (m_openMany ms) (m_paperMany ms) (m_reachMany ms) (m_now ms) (m_waits ms) (m_order ms) (m_floats ms) (sc (x3 + (1 : Int32)).toNatClampNeg) (sc (x3 + (2 : Int32)).toNatClampNeg) (sc (x3 + (3 : Int32)).toNatClampNeg) (sc (x3 + (4 : Int32)).toNatClampNeg) (sc (x3 + (5 : Int32)).toNatClampNeg) (sc (x3 + (6 : Int32)).toNatClampNeg) (r, w0, w1, w2, w3, w4, w5) hqm) (cwV 6 hts gl_X11_within rfl rfl rfl ⟨rfl, cdX11_within⟩ ⟨Nat.le_of_ble_eq_true rfl, Nat.le_of_ble_eq_true rfl⟩) (zPV hK hP hD [95, 96, 103, 102, 104] rfl rfl (q0 := 95) (ci := 11) rfl rfl rfl) rfl rfl hl.1 rfl (lv_room (Nat.le_of_ble_eq_true rfl)) dL_law_564 ⟨Nat.le_of_ble_eq_true rfl, Nat.le_of_ble_eq_true rfl⟩) hP hD hS hA [95, 96, 103, 102, 104] rfl [0, 0, 0, 0, 0, 0, 0, 0, 0, 0, 0, 0, 0, 0, 0, 0, 0, 0, 0, 0, 0, 0, 0, 0, 0, 0, 0, 0, 0, 0, 0, 0, 0, 0, 0, 0, 0, 0, 0, 0, 0, 0, 0, 0, 0, 0, 0, 0, 0, 0, 0, 0, 0, 0, 0, 0, 0, 0, 0, 0, 0, 0, 0, 0, 0, 0, 0, 0, 0, 0, 0, 0, 0, 0, 0, 0, 0, 0, 0, 0, 0, 0, 0, 0, 0, 0, 0, 0, 0, 0, 0, 0, 0, 0, 0, 1, 2, 0, 0, 0, 0, 0, 4, 3, 5, 0, 0, 0, 0, 0, 0, 0, 0, 0, 0, 0, 0, 0, 0] rfl rfl rfl (fun H locs hP hD hS => ?_)
  refine lv_icmp_eq (tgt := 1498) hx hb dL_law_567 (by decide) (fun _ => ?_) (fun hc => absurd rfl hc)
  exact kk _ _ hR2 H locs ls hP hD hS hl
set_option maxHeartbeats 4000000 in
set_option maxRecDepth 100000 in
theorem law_alike {p : Program} {l : Launch} {e : Env} {s : State} {m : MethodId} {below : List Frame} {meth : Method} {c : Code} {D : va_G} {cy : Nat → ClassId} {b L : Nat} {sc : Nat → Int32} {A : Nat → Prop} {Z : State → Prop} {bx bm : Nat} {u v : Nat → Nat} (hx : p.tables.exec = Jvm.exec) (hb : c.code = cL_law) (hml : c.maxLocals = 4) (hown : s.vm.findClass RL = some m.cls) (hts : ∀ w ∈ lw_tbl, w.before #[Value.ref b] s = true) (hX : va_X b L sc s s.heap) (hbl : b < s.heap.size) (hbA : ¬ A b) (hA : ∀ q : Nat, s.heap.size ≤ q → A q) (hK : zK D cy s) {R : Nat → XS → MS → Prop} {k : Nat} (hq : zQ_alike R k) {x3 : Int32} (hs : ∀ j : Nat, j < 7 → vp_in (x3 + nI j) L) (kk : ∀ (xs : XS) (ms : MS), R (k + 1) xs ms → ∀ (H : Heap) (locs : List Loc) (ls : Array Slot), va_P D vwCl (wXS cy bx u xs ++ wMS cy bm v ms) H → va_D A (wXS cy bx u xs ++ wMS cy bm v ms) → va_S A s.heap H locs → lv_has ls 4 [(0, .ref b), (1, .ref bx), (2, .ref bm), (3, .int x3)] → W p l e room_1 s m #[Value.ref b] below meth c H locs 119 29611 Z (F0 m 1498 ls [])) (xs : XS) (ms : MS) (hR : R k xs ms) (H : Heap) (locs : List Loc) (ls : Array Slot) (hP : va_P D vwCl (wXS cy bx u xs ++ wMS cy bm v ms) H) (hD : va_D A (wXS cy bx u xs ++ wMS cy bm v ms)) (hS : va_S A s.heap H locs) (hl : lv_has ls 4 [(0, .ref b), (1, .ref bx), (2, .ref bm), (3, .int x3)]) : W p l e room_1 s m #[Value.ref b] below meth c H locs 119 29611 Z (F0 m 572 ls []) := by
  have hs1 : vp_in (x3 + (1 : Int32)) L := hs 1 (by decide)
  have hs2 : vp_in (x3 + (2 : Int32)) L := hs 2 (by decide)
  have hs3 : vp_in (x3 + (3 : Int32)) L := hs 3 (by decide)
  have hs4 : vp_in (x3 + (4 : Int32)) L := hs 4 (by decide)
  have hs5 : vp_in (x3 + (5 : Int32)) L := hs 5 (by decide)
  have hs6 : vp_in (x3 + (6 : Int32)) L := hs 6 (by decide)
  obtain ⟨r, xs2, ms2, hx2, hm2, hR2⟩ := hq xs ms hR (sc (x3 + (1 : Int32)).toNatClampNeg) (sc (x3 + (2 : Int32)).toNatClampNeg)
  obtain ⟨rx, y0, y1, y2, y3, y4, y5, y6, y7, hqx, hx2⟩ := zb9_s hx2
  cases hx2
  obtain ⟨rm, w0, w1, w2, w3, hqm, hm2⟩ := zb5_s hm2
  cases hm2
  refine lv_aload_n hx hb dL_law_572 rfl (lv_at hl 1 rfl) ?_
  refine lv_aload_n hx hb dL_law_573 rfl (lv_at hl 0 rfl) ?_
  refine lv_iload_n hx hb dL_law_574 rfl (lv_at hl 3 rfl) ?_
  refine lv_iconst (v := (1 : Int32)) hx hb dL_law_575 (by decide) ?_
  refine lv_iadd hx hb dL_law_576 ?_
  refine va_sld hx hb hX hbl hbA hS hs1 dL_law_577 ?_
  refine lv_aload_n hx hb dL_law_578 rfl (lv_at hl 0 rfl) ?_
  refine lv_iload_n hx hb dL_law_579 rfl (lv_at hl 3 rfl) ?_
  refine lv_iconst (v := (2 : Int32)) hx hb dL_law_580 (by decide) ?_
  refine lv_iadd hx hb dL_law_581 ?_
  refine va_sld hx hb hX hbl hbA hS hs2 dL_law_582 ?_
  refine zCiS (r0 := r) (w1 := (wdX10_alike cy bx (u 0) (u 3) (u 12) (u 34) (u 37) (u 41) (u 52) (u 59) (u 66) (u 67) (u 4) (u 5) (u 6) (u 7) (u 8) (u 9) (u 10) (u 11) (u 13) (u 17) (u 18) (u 19) (u 20) (u 21) (u 14) (u 15) (u 16) (fun k => u (22 + k)) (u 1) (u 2) (x_nets_count xs) (x_meter_seed xs) (x_nets_parts xs) y0 y1 (x_nets_kind xs) y2 (x_nets_first xs) y3 (x_nets_second xs) (x_box_ohms xs) y4 y5 y6 y7)) (ws' := (wXS cy bx u (xs.1, xs.2.1, (xs.2.2.1.1, y0, y2, y3, y1, xs.2.2.1.2.2.2.2.2.1, xs.2.2.1.2.2.2.2.2.2.1, y4, y5, xs.2.2.1.2.2.2.2.2.2.2.2.2.1, xs.2.2.1.2.2.2.2.2.2.2.2.2.2.1, y6, y7), xs.2.2.2) ++ wMS cy bm v ms)) (va_runV (As := [.int (sc (x3 + (1 : Int32)).toNatClampNeg), .int (sc (x3 + (2 : Int32)).toNatClampNeg)]) (rest := []) ⟨hx, hb, hml, hown, hts⟩ (mX10_alike l D cy H.size bx (u 0) (u 3) (u 12) (u 34) (u 37) (u 41) (u 52) (u 59) (u 66) (u 67) (u 4) (u 5) (u 6) (u 7) (u 8) (u 9) (u 10) (u 11) (u 13) (u 17) (u 18) (u 19) (u 20) (u 21) (u 14) (u 15) (u 16) (fun k => u (22 + k)) (u 1) (u 2) (x_nets_count xs) (x_meter_seed xs) (x_nets_parts xs) (x_meter_plan_length xs) (x_meter_plan_waiting xs) (x_nets_kind xs) (x_meter_plan_kind xs) (x_nets_first xs) (x_meter_plan_sort xs) (x_nets_second xs) (x_box_ohms xs) (x_meter_worth_above xs) (x_meter_worth_below xs) (x_meter_fractions_s_above xs) (x_meter_fractions_s_below xs) (sc (x3 + (1 : Int32)).toNatClampNeg) (sc (x3 + (2 : Int32)).toNatClampNeg) (r, y0, y1, y2, y3, y4, y5, y6, y7) hqx) (cwV 2 hts gl_X10_alike rfl rfl rfl ⟨rfl, cdX10_alike⟩ ⟨Nat.le_of_ble_eq_true rfl, Nat.le_of_ble_eq_true rfl⟩) (zPV hK hP hD [0, 4, 13, 8, 14, 17, 5, 15, 6, 16, 7, 18, 1, 2, 21, 23, 24, 25, 26, 27, 28, 29, 30, 31, 32, 33, 34] rfl rfl (q0 := 0) (ci := 10) rfl rfl rfl) rfl rfl hl.1 rfl (lv_room (Nat.le_of_ble_eq_true rfl)) dL_law_583 ⟨Nat.le_of_ble_eq_true rfl, Nat.le_of_ble_eq_true rfl⟩) hP hD hS hA [0, 4, 13, 8, 14, 17, 5, 15, 6, 16, 7, 18, 1, 2, 21, 23, 24, 25, 26, 27, 28, 29, 30, 31, 32, 33, 34] rfl [1, 13, 14, 0, 2, 7, 9, 11, 4, 0, 0, 0, 0, 3, 5, 8, 10, 6, 12, 0, 0, 15, 0, 16, 17, 18, 19, 20, 21, 22, 23, 24, 25, 26, 27, 0, 0, 0, 0, 0, 0, 0, 0, 0, 0, 0, 0, 0, 0, 0, 0, 0, 0, 0, 0, 0, 0, 0, 0, 0, 0, 0, 0, 0, 0, 0, 0, 0, 0, 0, 0, 0, 0, 0, 0, 0, 0, 0, 0, 0, 0, 0, 0, 0, 0, 0, 0, 0, 0, 0, 0, 0, 0, 0, 0, 0, 0, 0, 0, 0, 0, 0, 0, 0, 0, 0, 0, 0, 0, 0, 0, 0, 0, 0, 0, 0, 0, 0, 0] rfl rfl rfl (fun H locs hP hD hS => ?_)
  refine lv_aload_n hx hb dL_law_586 rfl (lv_at hl 2 rfl) ?_
  refine lv_aload_n hx hb dL_law_587 rfl (lv_at hl 0 rfl) ?_
  refine lv_iload_n hx hb dL_law_588 rfl (lv_at hl 3 rfl) ?_
  refine lv_iconst (v := (1 : Int32)) hx hb dL_law_589 (by decide) ?_
  refine lv_iadd hx hb dL_law_590 ?_
  refine va_sld hx hb hX hbl hbA hS hs1 dL_law_591 ?_
  refine lv_aload_n hx hb dL_law_592 rfl (lv_at hl 0 rfl) ?_
  refine lv_iload_n hx hb dL_law_593 rfl (lv_at hl 3 rfl) ?_
  refine lv_iconst (v := (2 : Int32)) hx hb dL_law_594 (by decide) ?_
  refine lv_iadd hx hb dL_law_595 ?_
  refine va_sld hx hb hX hbl hbA hS hs2 dL_law_596 ?_
  refine zCiS (r0 := r) (w1 := (wdX11_alike cy bm (v 0) (v 1) (v 2) (v 3) (v 4) (v 5) (v 6) (v 7) (v 8) (v 9) (v 10) (v 11) (v 12) (v 13) (v 14) (v 15) (v 16) (v 17) (v 18) (v 19) (v 20) (v 21) (v 22) (m_hasImage ms) w0 w1 (m_orderMany ms) (m_waitMany ms) (m_seed ms) (m_size ms) (m_openMany ms) (m_paperMany ms) (m_reachMany ms) (m_now ms) w2 w3)) (ws' := (wXS cy bx u (xs.1, xs.2.1, (xs.2.2.1.1, y0, y2, y3, y1, xs.2.2.1.2.2.2.2.2.1, xs.2.2.1.2.2.2.2.2.2.1, y4, y5, xs.2.2.1.2.2.2.2.2.2.2.2.2.1, xs.2.2.1.2.2.2.2.2.2.2.2.2.2.1, y6, y7), xs.2.2.2) ++ wMS cy bm v ((ms.1.1, w0, w1, ms.1.2.2.2), ms.2.1, (w2, w3, ms.2.2.1.2.2), ms.2.2.2))) (va_runV (As := [.int (sc (x3 + (1 : Int32)).toNatClampNeg), .int (sc (x3 + (2 : Int32)).toNatClampNeg)]) (rest := [.int r]) ⟨hx, hb, hml, hown, hts⟩ (mX11_alike l D cy H.size bm (v 0) (v 1) (v 2) (v 3) (v 4) (v 5) (v 6) (v 7) (v 8) (v 9) (v 10) (v 11) (v 12) (v 13) (v 14) (v 15) (v 16) (v 17) (v 18) (v 19) (v 20) (v 21) (v 22) (m_hasImage ms) (m_above ms) (m_below ms) (m_orderMany ms) (m_waitMany ms) (m_seed ms) (m_size ms) (m_openMany ms) (m_paperMany ms) (m_reachMany ms) (m_now ms) (m_valueUp ms) (m_valueDown ms) (sc (x3 + (1 : Int32)).toNatClampNeg) (sc (x3 + (2 : Int32)).toNatClampNeg) (r, w0, w1, w2, w3) hqm) (cwV 2 hts gl_X11_alike rfl rfl rfl ⟨rfl, cdX11_alike⟩ ⟨Nat.le_of_ble_eq_true rfl, Nat.le_of_ble_eq_true rfl⟩) (zPV hK hP hD [95, 96, 98, 99] rfl rfl (q0 := 95) (ci := 11) rfl rfl rfl) rfl rfl hl.1 rfl (lv_room (Nat.le_of_ble_eq_true rfl)) dL_law_597 ⟨Nat.le_of_ble_eq_true rfl, Nat.le_of_ble_eq_true rfl⟩) hP hD hS hA [95, 96, 98, 99] rfl [0, 0, 0, 0, 0, 0, 0, 0, 0, 0, 0, 0, 0, 0, 0, 0, 0, 0, 0, 0, 0, 0, 0, 0, 0, 0, 0, 0, 0, 0, 0, 0, 0, 0, 0, 0, 0, 0, 0, 0, 0, 0, 0, 0, 0, 0, 0, 0, 0, 0, 0, 0, 0, 0, 0, 0, 0, 0, 0, 0, 0, 0, 0, 0, 0, 0, 0, 0, 0, 0, 0, 0, 0, 0, 0, 0, 0, 0, 0, 0, 0, 0, 0, 0, 0, 0, 0, 0, 0, 0, 0, 0, 0, 0, 0, 1, 2, 0, 3, 4, 0, 0, 0, 0, 0, 0, 0, 0, 0, 0, 0, 0, 0, 0, 0, 0, 0, 0, 0] rfl rfl rfl (fun H locs hP hD hS => ?_)
  refine lv_icmp_eq (tgt := 1498) hx hb dL_law_600 (by decide) (fun _ => ?_) (fun hc => absurd rfl hc)
  exact kk _ _ hR2 H locs ls hP hD hS hl
set_option maxHeartbeats 4000000 in
set_option maxRecDepth 100000 in
theorem law_turned {p : Program} {l : Launch} {e : Env} {s : State} {m : MethodId} {below : List Frame} {meth : Method} {c : Code} {D : va_G} {cy : Nat → ClassId} {b L : Nat} {sc : Nat → Int32} {A : Nat → Prop} {Z : State → Prop} {bx bm : Nat} {u v : Nat → Nat} (hx : p.tables.exec = Jvm.exec) (hb : c.code = cL_law) (hml : c.maxLocals = 4) (hown : s.vm.findClass RL = some m.cls) (hts : ∀ w ∈ lw_tbl, w.before #[Value.ref b] s = true) (hX : va_X b L sc s s.heap) (hbl : b < s.heap.size) (hbA : ¬ A b) (hA : ∀ q : Nat, s.heap.size ≤ q → A q) (hK : zK D cy s) {R : Nat → XS → MS → Prop} {k : Nat} (hq : zQ_turned R k) {x3 : Int32} (hs : ∀ j : Nat, j < 7 → vp_in (x3 + nI j) L) (kk : ∀ (xs : XS) (ms : MS), R (k + 1) xs ms → ∀ (H : Heap) (locs : List Loc) (ls : Array Slot), va_P D vwCl (wXS cy bx u xs ++ wMS cy bm v ms) H → va_D A (wXS cy bx u xs ++ wMS cy bm v ms) → va_S A s.heap H locs → lv_has ls 4 [(0, .ref b), (1, .ref bx), (2, .ref bm), (3, .int x3)] → W p l e room_1 s m #[Value.ref b] below meth c H locs 119 29611 Z (F0 m 1498 ls [])) (xs : XS) (ms : MS) (hR : R k xs ms) (H : Heap) (locs : List Loc) (ls : Array Slot) (hP : va_P D vwCl (wXS cy bx u xs ++ wMS cy bm v ms) H) (hD : va_D A (wXS cy bx u xs ++ wMS cy bm v ms)) (hS : va_S A s.heap H locs) (hl : lv_has ls 4 [(0, .ref b), (1, .ref bx), (2, .ref bm), (3, .int x3)]) : W p l e room_1 s m #[Value.ref b] below meth c H locs 119 29611 Z (F0 m 605 ls []) := by
  have hs1 : vp_in (x3 + (1 : Int32)) L := hs 1 (by decide)
  have hs2 : vp_in (x3 + (2 : Int32)) L := hs 2 (by decide)
  have hs3 : vp_in (x3 + (3 : Int32)) L := hs 3 (by decide)
  have hs4 : vp_in (x3 + (4 : Int32)) L := hs 4 (by decide)
  have hs5 : vp_in (x3 + (5 : Int32)) L := hs 5 (by decide)
  have hs6 : vp_in (x3 + (6 : Int32)) L := hs 6 (by decide)
  obtain ⟨r, xs2, ms2, hx2, hm2, hR2⟩ := hq xs ms hR (sc (x3 + (1 : Int32)).toNatClampNeg) (sc (x3 + (2 : Int32)).toNatClampNeg)
  obtain ⟨rx, y0, hqx, hx2⟩ := zb2_s hx2
  cases hx2
  obtain ⟨rm, w0, hqm, hm2⟩ := zb2_s hm2
  cases hm2
  refine lv_aload_n hx hb dL_law_605 rfl (lv_at hl 1 rfl) ?_
  refine lv_aload_n hx hb dL_law_606 rfl (lv_at hl 0 rfl) ?_
  refine lv_iload_n hx hb dL_law_607 rfl (lv_at hl 3 rfl) ?_
  refine lv_iconst (v := (1 : Int32)) hx hb dL_law_608 (by decide) ?_
  refine lv_iadd hx hb dL_law_609 ?_
  refine va_sld hx hb hX hbl hbA hS hs1 dL_law_610 ?_
  refine lv_aload_n hx hb dL_law_611 rfl (lv_at hl 0 rfl) ?_
  refine lv_iload_n hx hb dL_law_612 rfl (lv_at hl 3 rfl) ?_
  refine lv_iconst (v := (2 : Int32)) hx hb dL_law_613 (by decide) ?_
  refine lv_iadd hx hb dL_law_614 ?_
  refine va_sld hx hb hX hbl hbA hS hs2 dL_law_615 ?_
  refine zCiS (r0 := r) (w1 := (wdX10_turned cy bx (u 0) (u 3) (u 12) (u 34) (u 37) (u 41) (u 52) (u 59) (u 66) (u 67) (u 4) (u 5) (u 6) (u 7) (u 8) (u 9) (u 10) (u 11) (x_nets_count xs) (x_nets_kind xs) (x_nets_first xs) y0 (x_nets_second xs))) (ws' := (wXS cy bx u (xs.1, (xs.2.1.1, xs.2.1.2.1, xs.2.1.2.2.1, xs.2.1.2.2.2.1, xs.2.1.2.2.2.2.1, y0, xs.2.1.2.2.2.2.2.2), xs.2.2) ++ wMS cy bm v ms)) (va_runV (As := [.int (sc (x3 + (1 : Int32)).toNatClampNeg), .int (sc (x3 + (2 : Int32)).toNatClampNeg)]) (rest := []) ⟨hx, hb, hml, hown, hts⟩ (mX10_turned l D cy H.size bx (u 0) (u 3) (u 12) (u 34) (u 37) (u 41) (u 52) (u 59) (u 66) (u 67) (u 4) (u 5) (u 6) (u 7) (u 8) (u 9) (u 10) (u 11) (x_nets_count xs) (x_nets_kind xs) (x_nets_first xs) (x_nets_likes xs) (x_nets_second xs) (sc (x3 + (1 : Int32)).toNatClampNeg) (sc (x3 + (2 : Int32)).toNatClampNeg) (r, y0) hqx) (cwV 2 hts gl_X10_turned rfl rfl rfl ⟨rfl, cdX10_turned⟩ ⟨Nat.le_of_ble_eq_true rfl, Nat.le_of_ble_eq_true rfl⟩) (zPV hK hP hD [0, 4, 5, 6, 9, 7] rfl rfl (q0 := 0) (ci := 10) rfl rfl rfl) rfl rfl hl.1 rfl (lv_room (Nat.le_of_ble_eq_true rfl)) dL_law_616 ⟨Nat.le_of_ble_eq_true rfl, Nat.le_of_ble_eq_true rfl⟩) hP hD hS hA [0, 4, 5, 6, 9, 7] rfl [1, 0, 0, 0, 2, 3, 4, 6, 0, 5, 0, 0, 0, 0, 0, 0, 0, 0, 0, 0, 0, 0, 0, 0, 0, 0, 0, 0, 0, 0, 0, 0, 0, 0, 0, 0, 0, 0, 0, 0, 0, 0, 0, 0, 0, 0, 0, 0, 0, 0, 0, 0, 0, 0, 0, 0, 0, 0, 0, 0, 0, 0, 0, 0, 0, 0, 0, 0, 0, 0, 0, 0, 0, 0, 0, 0, 0, 0, 0, 0, 0, 0, 0, 0, 0, 0, 0, 0, 0, 0, 0, 0, 0, 0, 0, 0, 0, 0, 0, 0, 0, 0, 0, 0, 0, 0, 0, 0, 0, 0, 0, 0, 0, 0, 0, 0, 0, 0, 0] rfl rfl rfl (fun H locs hP hD hS => ?_)
  refine lv_aload_n hx hb dL_law_619 rfl (lv_at hl 2 rfl) ?_
  refine lv_aload_n hx hb dL_law_620 rfl (lv_at hl 0 rfl) ?_
  refine lv_iload_n hx hb dL_law_621 rfl (lv_at hl 3 rfl) ?_
  refine lv_iconst (v := (1 : Int32)) hx hb dL_law_622 (by decide) ?_
  refine lv_iadd hx hb dL_law_623 ?_
  refine va_sld hx hb hX hbl hbA hS hs1 dL_law_624 ?_
  refine lv_aload_n hx hb dL_law_625 rfl (lv_at hl 0 rfl) ?_
  refine lv_iload_n hx hb dL_law_626 rfl (lv_at hl 3 rfl) ?_
  refine lv_iconst (v := (2 : Int32)) hx hb dL_law_627 (by decide) ?_
  refine lv_iadd hx hb dL_law_628 ?_
  refine va_sld hx hb hX hbl hbA hS hs2 dL_law_629 ?_
  refine zCiS (r0 := r) (w1 := (wdX11_turned cy bm (v 0) (v 1) (v 2) (v 3) (v 4) (v 5) (v 6) (v 7) (v 8) (v 9) (v 10) (v 11) (v 12) (v 13) (v 14) (v 15) (v 16) (v 17) (v 18) (v 19) (v 20) (v 21) (v 22) (m_hasImage ms) (m_above ms) (m_below ms) (m_orderMany ms) (m_waitMany ms) (m_seed ms) (m_size ms) (m_openMany ms) (m_paperMany ms) (m_reachMany ms) (m_now ms) w0)) (ws' := (wXS cy bx u (xs.1, (xs.2.1.1, xs.2.1.2.1, xs.2.1.2.2.1, xs.2.1.2.2.2.1, xs.2.1.2.2.2.2.1, y0, xs.2.1.2.2.2.2.2.2), xs.2.2) ++ wMS cy bm v (ms.1, ms.2.1, ms.2.2.1, (ms.2.2.2.1.1, w0, ms.2.2.2.1.2.2), ms.2.2.2.2))) (va_runV (As := [.int (sc (x3 + (1 : Int32)).toNatClampNeg), .int (sc (x3 + (2 : Int32)).toNatClampNeg)]) (rest := [.int r]) ⟨hx, hb, hml, hown, hts⟩ (mX11_turned l D cy H.size bm (v 0) (v 1) (v 2) (v 3) (v 4) (v 5) (v 6) (v 7) (v 8) (v 9) (v 10) (v 11) (v 12) (v 13) (v 14) (v 15) (v 16) (v 17) (v 18) (v 19) (v 20) (v 21) (v 22) (m_hasImage ms) (m_above ms) (m_below ms) (m_orderMany ms) (m_waitMany ms) (m_seed ms) (m_size ms) (m_openMany ms) (m_paperMany ms) (m_reachMany ms) (m_now ms) (m_same ms) (sc (x3 + (1 : Int32)).toNatClampNeg) (sc (x3 + (2 : Int32)).toNatClampNeg) (r, w0) hqm) (cwV 2 hts gl_X11_turned rfl rfl rfl ⟨rfl, cdX11_turned⟩ ⟨Nat.le_of_ble_eq_true rfl, Nat.le_of_ble_eq_true rfl⟩) (zPV hK hP hD [95, 96, 105] rfl rfl (q0 := 95) (ci := 11) rfl rfl rfl) rfl rfl hl.1 rfl (lv_room (Nat.le_of_ble_eq_true rfl)) dL_law_630 ⟨Nat.le_of_ble_eq_true rfl, Nat.le_of_ble_eq_true rfl⟩) hP hD hS hA [95, 96, 105] rfl [0, 0, 0, 0, 0, 0, 0, 0, 0, 0, 0, 0, 0, 0, 0, 0, 0, 0, 0, 0, 0, 0, 0, 0, 0, 0, 0, 0, 0, 0, 0, 0, 0, 0, 0, 0, 0, 0, 0, 0, 0, 0, 0, 0, 0, 0, 0, 0, 0, 0, 0, 0, 0, 0, 0, 0, 0, 0, 0, 0, 0, 0, 0, 0, 0, 0, 0, 0, 0, 0, 0, 0, 0, 0, 0, 0, 0, 0, 0, 0, 0, 0, 0, 0, 0, 0, 0, 0, 0, 0, 0, 0, 0, 0, 0, 1, 2, 0, 0, 0, 0, 0, 0, 0, 0, 3, 0, 0, 0, 0, 0, 0, 0, 0, 0, 0, 0, 0, 0] rfl rfl rfl (fun H locs hP hD hS => ?_)
  refine lv_icmp_eq (tgt := 1498) hx hb dL_law_633 (by decide) (fun _ => ?_) (fun hc => absurd rfl hc)
  exact kk _ _ hR2 H locs ls hP hD hS hl
