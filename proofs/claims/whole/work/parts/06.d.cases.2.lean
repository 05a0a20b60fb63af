set_option maxHeartbeats 4000000 in
set_option maxRecDepth 100000 in
theorem law_fails {p : Program} {l : Launch} {e : Env} {s : State} {m : MethodId} {below : List Frame} {meth : Method} {c : Code} {D : va_G} {cy : Nat → ClassId} {b L : Nat} {sc : Nat → Int32} {A : Nat → Prop} {Z : State → Prop} {bx bm : Nat} {u v : Nat → Nat} (hx : p.tables.exec = Jvm.exec) (hb : c.code = cL_law) (hml : c.maxLocals = 4) (hown : s.vm.findClass RL = some m.cls) (hts : ∀ w ∈ lw_tbl, w.before #[Value.ref b] s = true) (hX : va_X b L sc s s.heap) (hbl : b < s.heap.size) (hbA : ¬ A b) (hA : ∀ q : Nat, s.heap.size ≤ q → A q) (hK : zK D cy s) {R : Nat → XS → MS → Prop} {k : Nat} (hq : zQ_fails R k) {x3 : Int32} (hs : ∀ j : Nat, j < 7 → vp_in (x3 + nI j) L) (kk : ∀ (xs : XS) (ms : MS), R (k + 1) xs ms → ∀ (H : Heap) (locs : List Loc) (ls : Array Slot), va_P D vwCl (wXS cy bx u xs ++ wMS cy bm v ms) H → va_D A (wXS cy bx u xs ++ wMS cy bm v ms) → va_S A s.heap H locs → lv_has ls 4 [(0, .ref b), (1, .ref bx), (2, .ref bm), (3, .int x3)] → W p l e room_1 s m #[Value.ref b] below meth c H locs 119 29611 Z (F0 m 1498 ls [])) (xs : XS) (ms : MS) (hR : R k xs ms) (H : Heap) (locs : List Loc) (ls : Array Slot) (hP : va_P D vwCl (wXS cy bx u xs ++ wMS cy bm v ms) H) (hD : va_D A (wXS cy bx u xs ++ wMS cy bm v ms)) (hS : va_S A s.heap H locs) (hl : lv_has ls 4 [(0, .ref b), (1, .ref bx), (2, .ref bm), (3, .int x3)]) : W p l e room_1 s m #[Value.ref b] below meth c H locs 119 29611 Z (F0 m 638 ls []) := by
  have hs1 : vp_in (x3 + (1 : Int32)) L := hs 1 (by decide)
  have hs2 : vp_in (x3 + (2 : Int32)) L := hs 2 (by decide)
  have hs3 : vp_in (x3 + (3 : Int32)) L := hs 3 (by decide)
  have hs4 : vp_in (x3 + (4 : Int32)) L := hs 4 (by decide)
  have hs5 : vp_in (x3 + (5 : Int32)) L := hs 5 (by decide)
  have hs6 : vp_in (x3 + (6 : Int32)) L := hs 6 (by decide)
  obtain ⟨r, xs2, ms2, hx2, hm2, hR2⟩ := hq xs ms hR (sc (x3 + (1 : Int32)).toNatClampNeg) (sc (x3 + (2 : Int32)).toNatClampNeg) (sc (x3 + (3 : Int32)).toNatClampNeg) (sc (x3 + (4 : Int32)).toNatClampNeg)
  obtain ⟨rx, y0, y1, y2, y3, y4, y5, y6, y7, hqx, hx2⟩ := zb9_s hx2
  cases hx2
  obtain ⟨rm, w0, w1, w2, w3, w4, w5, w6, w7, hqm, hm2⟩ := zb9_s hm2
  cases hm2
  refine lv_aload_n hx hb dL_law_638 rfl (lv_at hl 1 rfl) ?_
  refine lv_aload_n hx hb dL_law_639 rfl (lv_at hl 0 rfl) ?_
  refine lv_iload_n hx hb dL_law_640 rfl (lv_at hl 3 rfl) ?_
  refine lv_iconst (v := (1 : Int32)) hx hb dL_law_641 (by decide) ?_
  refine lv_iadd hx hb dL_law_642 ?_
  refine va_sld hx hb hX hbl hbA hS hs1 dL_law_643 ?_
  refine lv_aload_n hx hb dL_law_644 rfl (lv_at hl 0 rfl) ?_
  refine lv_iload_n hx hb dL_law_645 rfl (lv_at hl 3 rfl) ?_
  refine lv_iconst (v := (2 : Int32)) hx hb dL_law_646 (by decide) ?_
  refine lv_iadd hx hb dL_law_647 ?_
  refine va_sld hx hb hX hbl hbA hS hs2 dL_law_648 ?_
  refine lv_aload_n hx hb dL_law_649 rfl (lv_at hl 0 rfl) ?_
  refine lv_iload_n hx hb dL_law_650 rfl (lv_at hl 3 rfl) ?_
  refine lv_iconst (v := (3 : Int32)) hx hb dL_law_651 (by decide) ?_
  refine lv_iadd hx hb dL_law_652 ?_
  refine va_sld hx hb hX hbl hbA hS hs3 dL_law_653 ?_
  refine lv_aload_n hx hb dL_law_654 rfl (lv_at hl 0 rfl) ?_
  refine lv_iload_n hx hb dL_law_655 rfl (lv_at hl 3 rfl) ?_
  refine lv_iconst (v := (4 : Int32)) hx hb dL_law_656 (by decide) ?_
  refine lv_iadd hx hb dL_law_657 ?_
  refine va_sld hx hb hX hbl hbA hS hs4 dL_law_658 ?_
  refine zClS (r0 := r) (w1 := (wdX10_fails cy bx (u 0) (u 3) (u 12) (u 34) (u 37) (u 41) (u 52) (u 59) (u 66) (u 67) (u 4) (u 5) (u 6) (u 7) (u 8) (u 9) (u 10) (u 11) (u 13) (u 17) (u 18) (u 19) (u 20) (u 21) (u 14) (u 15) (u 16) (fun k => u (22 + k)) (u 1) (u 2) (x_nets_count xs) (x_nets_parts xs) (x_meter_seed xs) y0 y1 (x_nets_kind xs) y2 (x_nets_first xs) y3 (x_nets_second xs) (x_box_ohms xs) y4 y5 y6 y7)) (ws' := (wXS cy bx u (xs.1, xs.2.1, (xs.2.2.1.1, y0, y2, y3, y1, xs.2.2.1.2.2.2.2.2.1, xs.2.2.1.2.2.2.2.2.2.1, y4, y5, xs.2.2.1.2.2.2.2.2.2.2.2.2.1, xs.2.2.1.2.2.2.2.2.2.2.2.2.2.1, y6, y7), xs.2.2.2) ++ wMS cy bm v ms)) (va_runV (As := [.int (sc (x3 + (1 : Int32)).toNatClampNeg), .int (sc (x3 + (2 : Int32)).toNatClampNeg), .int (sc (x3 + (3 : Int32)).toNatClampNeg), .int (sc (x3 + (4 : Int32)).toNatClampNeg)]) (rest := []) ⟨hx, hb, hml, hown, hts⟩ (mX10_fails l D cy H.size bx (u 0) (u 3) (u 12) (u 34) (u 37) (u 41) (u 52) (u 59) (u 66) (u 67) (u 4) (u 5) (u 6) (u 7) (u 8) (u 9) (u 10) (u 11) (u 13) (u 17) (u 18) (u 19) (u 20) (u 21) (u 14) (u 15) (u 16) (fun k => u (22 + k)) (u 1) (u 2) (x_nets_count xs) (x_nets_parts xs) (x_meter_seed xs) (x_meter_plan_length xs) (x_meter_plan_waiting xs) (x_nets_kind xs) (x_meter_plan_kind xs) (x_nets_first xs) (x_meter_plan_sort xs) (x_nets_second xs) (x_box_ohms xs) (x_meter_worth_above xs) (x_meter_worth_below xs) (x_meter_fractions_s_above xs) (x_meter_fractions_s_below xs) (sc (x3 + (1 : Int32)).toNatClampNeg) (sc (x3 + (2 : Int32)).toNatClampNeg) (sc (x3 + (3 : Int32)).toNatClampNeg) (sc (x3 + (4 : Int32)).toNatClampNeg) (r, y0, y1, y2, y3, y4, y5, y6, y7) hqx) (cwV 4 hts gl_X10_fails rfl rfl rfl ⟨rfl, cdX10_fails⟩ ⟨Nat.le_of_ble_eq_true rfl, Nat.le_of_ble_eq_true rfl⟩) (zPV hK hP hD [0, 4, 8, 13, 14, 17, 5, 15, 6, 16, 7, 18, 1, 2, 21, 23, 24, 25, 26, 27, 28, 29, 30, 31, 32, 33, 34] rfl rfl (q0 := 0) (ci := 10) rfl rfl rfl) rfl rfl hl.1 rfl (lv_room (Nat.le_of_ble_eq_true rfl)) dL_law_659 ⟨Nat.le_of_ble_eq_true rfl, Nat.le_of_ble_eq_true rfl⟩) hP hD hS hA [0, 4, 8, 13, 14, 17, 5, 15, 6, 16, 7, 18, 1, 2, 21, 23, 24, 25, 26, 27, 28, 29, 30, 31, 32, 33, 34] rfl rfl rfl (fun H locs hP hD hS => ?_)
  refine lv_aload_n hx hb dL_law_662 rfl (lv_at hl 2 rfl) ?_
  refine lv_aload_n hx hb dL_law_663 rfl (lv_at hl 0 rfl) ?_
  refine lv_iload_n hx hb dL_law_664 rfl (lv_at hl 3 rfl) ?_
  refine lv_iconst (v := (1 : Int32)) hx hb dL_law_665 (by decide) ?_
  refine lv_iadd hx hb dL_law_666 ?_
  refine va_sld hx hb hX hbl hbA hS hs1 dL_law_667 ?_
  refine lv_aload_n hx hb dL_law_668 rfl (lv_at hl 0 rfl) ?_
  refine lv_iload_n hx hb dL_law_669 rfl (lv_at hl 3 rfl) ?_
  refine lv_iconst (v := (2 : Int32)) hx hb dL_law_670 (by decide) ?_
  refine lv_iadd hx hb dL_law_671 ?_
  refine va_sld hx hb hX hbl hbA hS hs2 dL_law_672 ?_
  refine lv_aload_n hx hb dL_law_673 rfl (lv_at hl 0 rfl) ?_
  refine lv_iload_n hx hb dL_law_674 rfl (lv_at hl 3 rfl) ?_
  refine lv_iconst (v := (3 : Int32)) hx hb dL_law_675 (by decide) ?_
  refine lv_iadd hx hb dL_law_676 ?_
  refine va_sld hx hb hX hbl hbA hS hs3 dL_law_677 ?_
  refine lv_aload_n hx hb dL_law_678 rfl (lv_at hl 0 rfl) ?_
  refine lv_iload_n hx hb dL_law_679 rfl (lv_at hl 3 rfl) ?_
  refine lv_iconst (v := (4 : Int32)) hx hb dL_law_680 (by decide) ?_
  refine lv_iadd hx hb dL_law_681 ?_
  refine va_sld hx hb hX hbl hbA hS hs4 dL_law_682 ?_
  refine zClS (r0 := r) (w1 := (wdX11_fails cy bm (v 0) (v 1) (v 2) (v 3) (v 4) (v 5) (v 6) (v 7) (v 8) (v 9) (v 10) (v 11) (v 12) (v 13) (v 14) (v 15) (v 16) (v 17) (v 18) (v 19) (v 20) (v 21) (v 22) (m_hasImage ms) w0 w1 w2 w3 (m_seed ms) (m_size ms) (m_openMany ms) (m_paperMany ms) (m_reachMany ms) (m_now ms) w4 w5 w6 w7)) (ws' := (wXS cy bx u (xs.1, xs.2.1, (xs.2.2.1.1, y0, y2, y3, y1, xs.2.2.1.2.2.2.2.2.1, xs.2.2.1.2.2.2.2.2.2.1, y4, y5, xs.2.2.1.2.2.2.2.2.2.2.2.2.1, xs.2.2.1.2.2.2.2.2.2.2.2.2.2.1, y6, y7), xs.2.2.2) ++ wMS cy bm v ((ms.1.1, w0, w1, w2, w3, ms.1.2.2.2.2.2), ms.2.1, (ms.2.2.1.1, ms.2.2.1.2.1, ms.2.2.1.2.2.1, ms.2.2.1.2.2.2.1, w5, w4), (ms.2.2.2.1.1, ms.2.2.2.1.2.1, w6, w7, ms.2.2.2.1.2.2.2.2), ms.2.2.2.2))) (va_runV (As := [.int (sc (x3 + (1 : Int32)).toNatClampNeg), .int (sc (x3 + (2 : Int32)).toNatClampNeg), .int (sc (x3 + (3 : Int32)).toNatClampNeg), .int (sc (x3 + (4 : Int32)).toNatClampNeg)]) (rest := [.long r]) ⟨hx, hb, hml, hown, hts⟩ (mX11_fails l D cy H.size bm (v 0) (v 1) (v 2) (v 3) (v 4) (v 5) (v 6) (v 7) (v 8) (v 9) (v 10) (v 11) (v 12) (v 13) (v 14) (v 15) (v 16) (v 17) (v 18) (v 19) (v 20) (v 21) (v 22) (m_hasImage ms) (m_above ms) (m_below ms) (m_orderMany ms) (m_waitMany ms) (m_seed ms) (m_size ms) (m_openMany ms) (m_paperMany ms) (m_reachMany ms) (m_now ms) (m_waits ms) (m_order ms) (m_upOf ms) (m_downOf ms) (sc (x3 + (1 : Int32)).toNatClampNeg) (sc (x3 + (2 : Int32)).toNatClampNeg) (sc (x3 + (3 : Int32)).toNatClampNeg) (sc (x3 + (4 : Int32)).toNatClampNeg) (r, w0, w1, w2, w3, w4, w5, w6, w7) hqm) (cwV 4 hts gl_X11_fails rfl rfl rfl ⟨rfl, cdX11_fails⟩ ⟨Nat.le_of_ble_eq_true rfl, Nat.le_of_ble_eq_true rfl⟩) (zPV hK hP hD [95, 96, 103, 102, 106, 107] rfl rfl (q0 := 95) (ci := 11) rfl rfl rfl) rfl rfl hl.1 rfl (lv_room (Nat.le_of_ble_eq_true rfl)) dL_law_683 ⟨Nat.le_of_ble_eq_true rfl, Nat.le_of_ble_eq_true rfl⟩) hP hD hS hA [95, 96, 103, 102, 106, 107] rfl rfl rfl (fun H locs hP hD hS => ?_)
  refine W.lcmp hx hb dL_law_686 ?_
  refine lv_if_eq (tgt := 1498) hx hb dL_law_687 (by decide) (fun _ => ?_) (fun hc => absurd ((zc_eq _ _).mpr rfl) hc)
  exact kk _ _ hR2 H locs ls hP hD hS hl
set_option maxHeartbeats 4000000 in
set_option maxRecDepth 100000 in
theorem law_worst {p : Program} {l : Launch} {e : Env} {s : State} {m : MethodId} {below : List Frame} {meth : Method} {c : Code} {D : va_G} {cy : Nat → ClassId} {b L : Nat} {sc : Nat → Int32} {A : Nat → Prop} {Z : State → Prop} {bx bm : Nat} {u v : Nat → Nat} (hx : p.tables.exec = Jvm.exec) (hb : c.code = cL_law) (hml : c.maxLocals = 4) (hown : s.vm.findClass RL = some m.cls) (hts : ∀ w ∈ lw_tbl, w.before #[Value.ref b] s = true) (hX : va_X b L sc s s.heap) (hbl : b < s.heap.size) (hbA : ¬ A b) (hA : ∀ q : Nat, s.heap.size ≤ q → A q) (hK : zK D cy s) {R : Nat → XS → MS → Prop} {k : Nat} (hq : zQ_worst R k) {x3 : Int32} (hs : ∀ j : Nat, j < 7 → vp_in (x3 + nI j) L) (kk : ∀ (xs : XS) (ms : MS), R (k + 1) xs ms → ∀ (H : Heap) (locs : List Loc) (ls : Array Slot), va_P D vwCl (wXS cy bx u xs ++ wMS cy bm v ms) H → va_D A (wXS cy bx u xs ++ wMS cy bm v ms) → va_S A s.heap H locs → lv_has ls 4 [(0, .ref b), (1, .ref bx), (2, .ref bm), (3, .int x3)] → W p l e room_1 s m #[Value.ref b] below meth c H locs 119 29611 Z (F0 m 1498 ls [])) (xs : XS) (ms : MS) (hR : R k xs ms) (H : Heap) (locs : List Loc) (ls : Array Slot) (hP : va_P D vwCl (wXS cy bx u xs ++ wMS cy bm v ms) H) (hD : va_D A (wXS cy bx u xs ++ wMS cy bm v ms)) (hS : va_S A s.heap H locs) (hl : lv_has ls 4 [(0, .ref b), (1, .ref bx), (2, .ref bm), (3, .int x3)]) : W p l e room_1 s m #[Value.ref b] below meth c H locs 119 29611 Z (F0 m 692 ls []) := by
  have hs1 : vp_in (x3 + (1 : Int32)) L := hs 1 (by decide)
  have hs2 : vp_in (x3 + (2 : Int32)) L := hs 2 (by decide)
  have hs3 : vp_in (x3 + (3 : Int32)) L := hs 3 (by decide)
  have hs4 : vp_in (x3 + (4 : Int32)) L := hs 4 (by decide)
  have hs5 : vp_in (x3 + (5 : Int32)) L := hs 5 (by decide)
  have hs6 : vp_in (x3 + (6 : Int32)) L := hs 6 (by decide)
  obtain ⟨r, xs2, ms2, hx2, hm2, hR2⟩ := hq xs ms hR (sc (x3 + (1 : Int32)).toNatClampNeg) (sc (x3 + (2 : Int32)).toNatClampNeg)
  obtain ⟨rx, y0, y1, y2, y3, y4, y5, y6, y7, y8, y9, hqx, hx2⟩ := zb11_s hx2
  cases hx2
  obtain ⟨rm, w0, w1, w2, w3, w4, w5, w6, w7, hqm, hm2⟩ := zb9_s hm2
  cases hm2
  refine lv_aload_n hx hb dL_law_692 rfl (lv_at hl 1 rfl) ?_
  refine lv_aload_n hx hb dL_law_693 rfl (lv_at hl 0 rfl) ?_
  refine lv_iload_n hx hb dL_law_694 rfl (lv_at hl 3 rfl) ?_
  refine lv_iconst (v := (1 : Int32)) hx hb dL_law_695 (by decide) ?_
  refine lv_iadd hx hb dL_law_696 ?_
  refine va_sld hx hb hX hbl hbA hS hs1 dL_law_697 ?_
  refine lv_aload_n hx hb dL_law_698 rfl (lv_at hl 0 rfl) ?_
  refine lv_iload_n hx hb dL_law_699 rfl (lv_at hl 3 rfl) ?_
  refine lv_iconst (v := (2 : Int32)) hx hb dL_law_700 (by decide) ?_
  refine lv_iadd hx hb dL_law_701 ?_
  refine va_sld hx hb hX hbl hbA hS hs2 dL_law_702 ?_
  refine zCiS (r0 := r) (w1 := (wdX10_worst cy bx (u 0) (u 3) (u 12) (u 34) (u 37) (u 41) (u 52) (u 59) (u 66) (u 67) (u 4) (u 5) (u 6) (u 7) (u 8) (u 9) (u 10) (u 11) (u 13) (u 17) (u 18) (u 19) (u 20) (u 21) (u 14) (u 15) (u 16) (fun k => u (22 + k)) (u 1) (u 2) (x_nets_count xs) (x_meter_seed xs) (x_nets_parts xs) y0 y1 (x_nets_kind xs) y2 (x_nets_first xs) y3 (x_nets_second xs) (x_box_ohms xs) y4 y5 y6 y7 y8 y9)) (ws' := (wXS cy bx u (xs.1, xs.2.1, (xs.2.2.1.1, y0, y2, y3, y1, xs.2.2.1.2.2.2.2.2.1, xs.2.2.1.2.2.2.2.2.2.1, y4, y5, y6, y7, y8, y9), xs.2.2.2) ++ wMS cy bm v ms)) (va_runV (As := [.int (sc (x3 + (1 : Int32)).toNatClampNeg), .int (sc (x3 + (2 : Int32)).toNatClampNeg)]) (rest := []) ⟨hx, hb, hml, hown, hts⟩ (mX10_worst l D cy H.size bx (u 0) (u 3) (u 12) (u 34) (u 37) (u 41) (u 52) (u 59) (u 66) (u 67) (u 4) (u 5) (u 6) (u 7) (u 8) (u 9) (u 10) (u 11) (u 13) (u 17) (u 18) (u 19) (u 20) (u 21) (u 14) (u 15) (u 16) (fun k => u (22 + k)) (u 1) (u 2) (x_nets_count xs) (x_meter_seed xs) (x_nets_parts xs) (x_meter_plan_length xs) (x_meter_plan_waiting xs) (x_nets_kind xs) (x_meter_plan_kind xs) (x_nets_first xs) (x_meter_plan_sort xs) (x_nets_second xs) (x_box_ohms xs) (x_meter_worth_above xs) (x_meter_worth_below xs) (x_meter_worst_above xs) (x_meter_worst_below xs) (x_meter_fractions_s_above xs) (x_meter_fractions_s_below xs) (sc (x3 + (1 : Int32)).toNatClampNeg) (sc (x3 + (2 : Int32)).toNatClampNeg) (r, y0, y1, y2, y3, y4, y5, y6, y7, y8, y9) hqx) (cwV 2 hts gl_X10_worst rfl rfl rfl ⟨rfl, cdX10_worst⟩ ⟨Nat.le_of_ble_eq_true rfl, Nat.le_of_ble_eq_true rfl⟩) (zPV hK hP hD [0, 4, 13, 8, 14, 17, 5, 15, 6, 16, 7, 18, 1, 2, 21, 22, 23, 24, 25, 26, 27, 28, 29, 30, 31, 32, 33, 34] rfl rfl (q0 := 0) (ci := 10) rfl rfl rfl) rfl rfl hl.1 rfl (lv_room (Nat.le_of_ble_eq_true rfl)) dL_law_703 ⟨Nat.le_of_ble_eq_true rfl, Nat.le_of_ble_eq_true rfl⟩) hP hD hS hA [0, 4, 13, 8, 14, 17, 5, 15, 6, 16, 7, 18, 1, 2, 21, 22, 23, 24, 25, 26, 27, 28, 29, 30, 31, 32, 33, 34] rfl rfl rfl (fun H locs hP hD hS => ?_)
  refine lv_aload_n hx hb dL_law_706 rfl (lv_at hl 2 rfl) ?_
  refine lv_aload_n hx hb dL_law_707 rfl (lv_at hl 0 rfl) ?_
  refine lv_iload_n hx hb dL_law_708 rfl (lv_at hl 3 rfl) ?_
  refine lv_iconst (v := (1 : Int32)) hx hb dL_law_709 (by decide) ?_
  refine lv_iadd hx hb dL_law_710 ?_
  refine va_sld hx hb hX hbl hbA hS hs1 dL_law_711 ?_
  refine lv_aload_n hx hb dL_law_712 rfl (lv_at hl 0 rfl) ?_
  refine lv_iload_n hx hb dL_law_713 rfl (lv_at hl 3 rfl) ?_
  refine lv_iconst (v := (2 : Int32)) hx hb dL_law_714 (by decide) ?_
  refine lv_iadd hx hb dL_law_715 ?_
  refine va_sld hx hb hX hbl hbA hS hs2 dL_law_716 ?_
  refine zCiS (r0 := r) (w1 := (wdX11_worst cy bm (v 0) (v 1) (v 2) (v 3) (v 4) (v 5) (v 6) (v 7) (v 8) (v 9) (v 10) (v 11) (v 12) (v 13) (v 14) (v 15) (v 16) (v 17) (v 18) (v 19) (v 20) (v 21) (v 22) (m_hasImage ms) w0 w1 w2 w3 (m_seed ms) (m_size ms) (m_openMany ms) (m_paperMany ms) (m_reachMany ms) (m_now ms) w4 w5 w6 w7)) (ws' := (wXS cy bx u (xs.1, xs.2.1, (xs.2.2.1.1, y0, y2, y3, y1, xs.2.2.1.2.2.2.2.2.1, xs.2.2.1.2.2.2.2.2.2.1, y4, y5, y6, y7, y8, y9), xs.2.2.2) ++ wMS cy bm v ((ms.1.1, w0, w1, w2, w3, ms.1.2.2.2.2.2), ms.2.1, (ms.2.2.1.1, ms.2.2.1.2.1, ms.2.2.1.2.2.1, ms.2.2.1.2.2.2.1, w5, w4), (ms.2.2.2.1.1, ms.2.2.2.1.2.1, w6, w7, ms.2.2.2.1.2.2.2.2), ms.2.2.2.2))) (va_runV (As := [.int (sc (x3 + (1 : Int32)).toNatClampNeg), .int (sc (x3 + (2 : Int32)).toNatClampNeg)]) (rest := [.int r]) ⟨hx, hb, hml, hown, hts⟩ (mX11_worst l D cy H.size bm (v 0) (v 1) (v 2) (v 3) (v 4) (v 5) (v 6) (v 7) (v 8) (v 9) (v 10) (v 11) (v 12) (v 13) (v 14) (v 15) (v 16) (v 17) (v 18) (v 19) (v 20) (v 21) (v 22) (m_hasImage ms) (m_above ms) (m_below ms) (m_orderMany ms) (m_waitMany ms) (m_seed ms) (m_size ms) (m_openMany ms) (m_paperMany ms) (m_reachMany ms) (m_now ms) (m_waits ms) (m_order ms) (m_upOf ms) (m_downOf ms) (sc (x3 + (1 : Int32)).toNatClampNeg) (sc (x3 + (2 : Int32)).toNatClampNeg) (r, w0, w1, w2, w3, w4, w5, w6, w7) hqm) (cwV 2 hts gl_X11_worst rfl rfl rfl ⟨rfl, cdX11_worst⟩ ⟨Nat.le_of_ble_eq_true rfl, Nat.le_of_ble_eq_true rfl⟩) (zPV hK hP hD [95, 96, 103, 102, 106, 107] rfl rfl (q0 := 95) (ci := 11) rfl rfl rfl) rfl rfl hl.1 rfl (lv_room (Nat.le_of_ble_eq_true rfl)) dL_law_717 ⟨Nat.le_of_ble_eq_true rfl, Nat.le_of_ble_eq_true rfl⟩) hP hD hS hA [95, 96, 103, 102, 106, 107] rfl rfl rfl (fun H locs hP hD hS => ?_)
  refine lv_icmp_eq (tgt := 1498) hx hb dL_law_720 (by decide) (fun _ => ?_) (fun hc => absurd rfl hc)
  exact kk _ _ hR2 H locs ls hP hD hS hl
set_option maxHeartbeats 4000000 in
set_option maxRecDepth 100000 in
theorem law_feed {p : Program} {l : Launch} {e : Env} {s : State} {m : MethodId} {below : List Frame} {meth : Method} {c : Code} {D : va_G} {cy : Nat → ClassId} {b L : Nat} {sc : Nat → Int32} {A : Nat → Prop} {Z : State → Prop} {bx bm : Nat} {u v : Nat → Nat} (hx : p.tables.exec = Jvm.exec) (hb : c.code = cL_law) (hml : c.maxLocals = 4) (hown : s.vm.findClass RL = some m.cls) (hts : ∀ w ∈ lw_tbl, w.before #[Value.ref b] s = true) (hX : va_X b L sc s s.heap) (hbl : b < s.heap.size) (hbA : ¬ A b) (hA : ∀ q : Nat, s.heap.size ≤ q → A q) (hK : zK D cy s) {R : Nat → XS → MS → Prop} {k : Nat} (hq : zQ_feed R k) {x3 : Int32} (hs : ∀ j : Nat, j < 7 → vp_in (x3 + nI j) L) (kk : ∀ (xs : XS) (ms : MS), R (k + 1) xs ms → ∀ (H : Heap) (locs : List Loc) (ls : Array Slot), va_P D vwCl (wXS cy bx u xs ++ wMS cy bm v ms) H → va_D A (wXS cy bx u xs ++ wMS cy bm v ms) → va_S A s.heap H locs → lv_has ls 4 [(0, .ref b), (1, .ref bx), (2, .ref bm), (3, .int x3)] → W p l e room_1 s m #[Value.ref b] below meth c H locs 119 29611 Z (F0 m 1498 ls [])) (xs : XS) (ms : MS) (hR : R k xs ms) (H : Heap) (locs : List Loc) (ls : Array Slot) (hP : va_P D vwCl (wXS cy bx u xs ++ wMS cy bm v ms) H) (hD : va_D A (wXS cy bx u xs ++ wMS cy bm v ms)) (hS : va_S A s.heap H locs) (hl : lv_has ls 4 [(0, .ref b), (1, .ref bx), (2, .ref bm), (3, .int x3)]) : W p l e room_1 s m #[Value.ref b] below meth c H locs 119 29611 Z (F0 m 725 ls []) := by
  have hs1 : vp_in (x3 + (1 : Int32)) L := hs 1 (by decide)
  have hs2 : vp_in (x3 + (2 : Int32)) L := hs 2 (by decide)
  have hs3 : vp_in (x3 + (3 : Int32)) L := hs 3 (by decide)
  have hs4 : vp_in (x3 + (4 : Int32)) L := hs 4 (by decide)
  have hs5 : vp_in (x3 + (5 : Int32)) L := hs 5 (by decide)
  have hs6 : vp_in (x3 + (6 : Int32)) L := hs 6 (by decide)
  obtain ⟨r, xs2, ms2, hx2, hm2, hR2⟩ := hq xs ms hR (sc (x3 + (1 : Int32)).toNatClampNeg)
  obtain ⟨rx, y0, y1, hqx, hx2⟩ := zb3_s hx2
  cases hx2
  obtain ⟨rm, w0, w1, hqm, hm2⟩ := zb3_s hm2
  cases hm2
  refine lv_aload_n hx hb dL_law_725 rfl (lv_at hl 1 rfl) ?_
  refine lv_aload_n hx hb dL_law_726 rfl (lv_at hl 0 rfl) ?_
  refine lv_iload_n hx hb dL_law_727 rfl (lv_at hl 3 rfl) ?_
  refine lv_iconst (v := (1 : Int32)) hx hb dL_law_728 (by decide) ?_
  refine lv_iadd hx hb dL_law_729 ?_
  refine va_sld hx hb hX hbl hbA hS hs1 dL_law_730 ?_
  refine zCiS (r0 := r) (w1 := (wdX10_feed cy bx (u 0) (u 3) (u 12) (u 34) (u 37) (u 41) (u 52) (u 59) (u 66) (u 67) (u 35) (u 36) y0 y1)) (ws' := (wXS cy bx u (xs.1, xs.2.1, xs.2.2.1, (y0, y1, xs.2.2.2.1.2.2), xs.2.2.2.2) ++ wMS cy bm v ms)) (va_runV (As := [.int (sc (x3 + (1 : Int32)).toNatClampNeg)]) (rest := []) ⟨hx, hb, hml, hown, hts⟩ (mX10_feed l D cy H.size bx (u 0) (u 3) (u 12) (u 34) (u 37) (u 41) (u 52) (u 59) (u 66) (u 67) (u 35) (u 36) (x_tape_length xs) (x_tape_letters xs) (sc (x3 + (1 : Int32)).toNatClampNeg) (r, y0, y1) hqx) (cwV 1 hts gl_X10_feed rfl rfl rfl ⟨rfl, cdX10_feed⟩ ⟨Nat.le_of_ble_eq_true rfl, Nat.le_of_ble_eq_true rfl⟩) (zPV hK hP hD [0, 35, 36] rfl rfl (q0 := 0) (ci := 10) rfl rfl rfl) rfl rfl hl.1 rfl (lv_room (Nat.le_of_ble_eq_true rfl)) dL_law_731 ⟨Nat.le_of_ble_eq_true rfl, Nat.le_of_ble_eq_true rfl⟩) hP hD hS hA [0, 35, 36] rfl rfl rfl (fun H locs hP hD hS => ?_)
  refine lv_aload_n hx hb dL_law_734 rfl (lv_at hl 2 rfl) ?_
  refine lv_aload_n hx hb dL_law_735 rfl (lv_at hl 0 rfl) ?_
  refine lv_iload_n hx hb dL_law_736 rfl (lv_at hl 3 rfl) ?_
  refine lv_iconst (v := (1 : Int32)) hx hb dL_law_737 (by decide) ?_
  refine lv_iadd hx hb dL_law_738 ?_
  refine va_sld hx hb hX hbl hbA hS hs1 dL_law_739 ?_
  refine zCiS (r0 := r) (w1 := (wdX11_feed cy bm (v 0) (v 1) (v 2) (v 3) (v 4) (v 5) (v 6) (v 7) (v 8) (v 9) (v 10) (v 11) (v 12) (v 13) (v 14) (v 15) (v 16) (v 17) (v 18) (v 19) (v 20) (v 21) (v 22) (m_hasImage ms) (m_above ms) (m_below ms) (m_orderMany ms) (m_waitMany ms) (m_seed ms) w0 (m_openMany ms) (m_paperMany ms) (m_reachMany ms) w1)) (ws' := (wXS cy bx u (xs.1, xs.2.1, xs.2.2.1, (y0, y1, xs.2.2.2.1.2.2), xs.2.2.2.2) ++ wMS cy bm v (ms.1, (w0, ms.2.1.2), ms.2.2.1, (ms.2.2.2.1.1, ms.2.2.2.1.2.1, ms.2.2.2.1.2.2.1, ms.2.2.2.1.2.2.2.1, w1, ms.2.2.2.1.2.2.2.2.2), ms.2.2.2.2))) (va_runV (As := [.int (sc (x3 + (1 : Int32)).toNatClampNeg)]) (rest := [.int r]) ⟨hx, hb, hml, hown, hts⟩ (mX11_feed l D cy H.size bm (v 0) (v 1) (v 2) (v 3) (v 4) (v 5) (v 6) (v 7) (v 8) (v 9) (v 10) (v 11) (v 12) (v 13) (v 14) (v 15) (v 16) (v 17) (v 18) (v 19) (v 20) (v 21) (v 22) (m_hasImage ms) (m_above ms) (m_below ms) (m_orderMany ms) (m_waitMany ms) (m_seed ms) (m_size ms) (m_openMany ms) (m_paperMany ms) (m_reachMany ms) (m_tape ms) (sc (x3 + (1 : Int32)).toNatClampNeg) (r, w0, w1) hqm) (cwV 1 hts gl_X11_feed rfl rfl rfl ⟨rfl, cdX11_feed⟩ ⟨Nat.le_of_ble_eq_true rfl, Nat.le_of_ble_eq_true rfl⟩) (zPV hK hP hD [95, 108] rfl rfl (q0 := 95) (ci := 11) rfl rfl rfl) rfl rfl hl.1 rfl (lv_room (Nat.le_of_ble_eq_true rfl)) dL_law_740 ⟨Nat.le_of_ble_eq_true rfl, Nat.le_of_ble_eq_true rfl⟩) hP hD hS hA [95, 108] rfl rfl rfl (fun H locs hP hD hS => ?_)
  refine lv_icmp_eq (tgt := 1498) hx hb dL_law_743 (by decide) (fun _ => ?_) (fun hc => absurd rfl hc)
  exact kk _ _ hR2 H locs ls hP hD hS hl
set_option maxHeartbeats 4000000 in
set_option maxRecDepth 100000 in
theorem law_read {p : Program} {l : Launch} {e : Env} {s : State} {m : MethodId} {below : List Frame} {meth : Method} {c : Code} {D : va_G} {cy : Nat → ClassId} {b L : Nat} {sc : Nat → Int32} {A : Nat → Prop} {Z : State → Prop} {bx bm : Nat} {u v : Nat → Nat} (hx : p.tables.exec = Jvm.exec) (hb : c.code = cL_law) (hml : c.maxLocals = 4) (hown : s.vm.findClass RL = some m.cls) (hts : ∀ w ∈ lw_tbl, w.before #[Value.ref b] s = true) (hX : va_X b L sc s s.heap) (hbl : b < s.heap.size) (hbA : ¬ A b) (hA : ∀ q : Nat, s.heap.size ≤ q → A q) (hK : zK D cy s) {R : Nat → XS → MS → Prop} {k : Nat} (hq : zQ_read R k) {x3 : Int32} (hs : ∀ j : Nat, j < 7 → vp_in (x3 + nI j) L) (kk : ∀ (xs : XS) (ms : MS), R (k + 1) xs ms → ∀ (H : Heap) (locs : List Loc) (ls : Array Slot), va_P D vwCl (wXS cy bx u xs ++ wMS cy bm v ms) H → va_D A (wXS cy bx u xs ++ wMS cy bm v ms) → va_S A s.heap H locs → lv_has ls 4 [(0, .ref b), (1, .ref bx), (2, .ref bm), (3, .int x3)] → W p l e room_1 s m #[Value.ref b] below meth c H locs 119 29611 Z (F0 m 1498 ls [])) (xs : XS) (ms : MS) (hR : R k xs ms) (H : Heap) (locs : List Loc) (ls : Array Slot) (hP : va_P D vwCl (wXS cy bx u xs ++ wMS cy bm v ms) H) (hD : va_D A (wXS cy bx u xs ++ wMS cy bm v ms)) (hS : va_S A s.heap H locs) (hl : lv_has ls 4 [(0, .ref b), (1, .ref bx), (2, .ref bm), (3, .int x3)]) : W p l e room_1 s m #[Value.ref b] below meth c H locs 119 29611 Z (F0 m 748 ls []) := by
  have hs1 : vp_in (x3 + (1 : Int32)) L := hs 1 (by decide)
  have hs2 : vp_in (x3 + (2 : Int32)) L := hs 2 (by decide)
  have hs3 : vp_in (x3 + (3 : Int32)) L := hs 3 (by decide)
  have hs4 : vp_in (x3 + (4 : Int32)) L := hs 4 (by decide)
  have hs5 : vp_in (x3 + (5 : Int32)) L := hs 5 (by decide)
  have hs6 : vp_in (x3 + (6 : Int32)) L := hs 6 (by decide)
  obtain ⟨r, xs2, ms2, hx2, hm2, hR2⟩ := hq xs ms hR 
  obtain ⟨rx, y0, y1, y2, y3, y4, y5, y6, y7, y8, y9, y10, hqx, hx2⟩ := zb12_s hx2
  cases hx2
  obtain ⟨rm, w0, w1, w2, w3, w4, hqm, hm2⟩ := zb6_s hm2
  cases hm2
  refine lv_aload_n hx hb dL_law_748 rfl (lv_at hl 1 rfl) ?_
  refine zCiS (r0 := r) (w1 := (wdX10_read cy bx (u 0) (u 3) (u 12) (u 34) (u 37) (u 41) (u 52) (u 59) (u 66) (u 67) (u 38) (u 39) (u 40) (u 35) (u 36) (u 1) (u 2) (u 4) (u 5) (u 6) (u 7) (u 8) (u 9) (u 10) (u 11) y0 y1 (x_tape_letters xs) y2 (x_box_ohms xs) y3 y4 y5 y6 y7 y8 y9 y10)) (ws' := (wXS cy bx u (xs.1, (y5, y6, y7, y8, y9, xs.2.1.2.2.2.2.2.1, xs.2.1.2.2.2.2.2.2.1, xs.2.1.2.2.2.2.2.2.2.1, y10), xs.2.2.1, (y1, xs.2.2.2.1.2.1, y2), (y0, y3, y4, xs.2.2.2.2.1.2.2.2), xs.2.2.2.2.2) ++ wMS cy bm v ms)) (va_runV (As := []) (rest := []) ⟨hx, hb, hml, hown, hts⟩ (mX10_read l D cy H.size bx (u 0) (u 3) (u 12) (u 34) (u 37) (u 41) (u 52) (u 59) (u 66) (u 67) (u 38) (u 39) (u 40) (u 35) (u 36) (u 1) (u 2) (u 4) (u 5) (u 6) (u 7) (u 8) (u 9) (u 10) (u 11) (x_plan_length xs) (x_tape_length xs) (x_tape_letters xs) (x_tape_joins xs) (x_box_ohms xs) (x_plan_kind xs) (x_plan_sort xs) (x_nets_count xs) (x_nets_kind xs) (x_nets_first xs) (x_nets_second xs) (x_nets_parts xs) (x_nets_made xs)  (r, y0, y1, y2, y3, y4, y5, y6, y7, y8, y9, y10) hqx) (cwV 0 hts gl_X10_read rfl rfl rfl ⟨rfl, cdX10_read⟩ ⟨Nat.le_of_ble_eq_true rfl, Nat.le_of_ble_eq_true rfl⟩) (zPV hK hP hD [0, 38, 35, 36, 37, 1, 2, 39, 40, 4, 5, 6, 7, 8, 12] rfl rfl (q0 := 0) (ci := 10) rfl rfl rfl) rfl rfl hl.1 rfl (lv_room (Nat.le_of_ble_eq_true rfl)) dL_law_749 ⟨Nat.le_of_ble_eq_true rfl, Nat.le_of_ble_eq_true rfl⟩) hP hD hS hA [0, 38, 35, 36, 37, 1, 2, 39, 40, 4, 5, 6, 7, 8, 12] rfl rfl rfl (fun H locs hP hD hS => ?_)
  refine lv_aload_n hx hb dL_law_752 rfl (lv_at hl 2 rfl) ?_
  refine zCiS (r0 := r) (w1 := (wdX11_read cy bm (v 0) (v 1) (v 2) (v 3) (v 4) (v 5) (v 6) (v 7) (v 8) (v 9) (v 10) (v 11) (v 12) (v 13) (v 14) (v 15) (v 16) (v 17) (v 18) (v 19) (v 20) (v 21) (v 22) (m_hasImage ms) (m_above ms) (m_below ms) (m_orderMany ms) (m_waitMany ms) (m_seed ms) w0 w1 (m_paperMany ms) (m_reachMany ms) (m_tape ms) w2 w3 w4)) (ws' := (wXS cy bx u (xs.1, (y5, y6, y7, y8, y9, xs.2.1.2.2.2.2.2.1, xs.2.1.2.2.2.2.2.2.1, xs.2.1.2.2.2.2.2.2.2.1, y10), xs.2.2.1, (y1, xs.2.2.2.1.2.1, y2), (y0, y3, y4, xs.2.2.2.2.1.2.2.2), xs.2.2.2.2.2) ++ wMS cy bm v (ms.1, (w0, w1, ms.2.1.2.2.1, ms.2.1.2.2.2.1, w2, ms.2.1.2.2.2.2.2), ms.2.2.1, (ms.2.2.2.1.1, ms.2.2.2.1.2.1, ms.2.2.2.1.2.2.1, ms.2.2.2.1.2.2.2.1, ms.2.2.2.1.2.2.2.2.1, w3), (w4, ms.2.2.2.2.1.2), ms.2.2.2.2.2))) (va_runV (As := []) (rest := [.int r]) ⟨hx, hb, hml, hown, hts⟩ (mX11_read l D cy H.size bm (v 0) (v 1) (v 2) (v 3) (v 4) (v 5) (v 6) (v 7) (v 8) (v 9) (v 10) (v 11) (v 12) (v 13) (v 14) (v 15) (v 16) (v 17) (v 18) (v 19) (v 20) (v 21) (v 22) (m_hasImage ms) (m_above ms) (m_below ms) (m_orderMany ms) (m_waitMany ms) (m_seed ms) (m_size ms) (m_openMany ms) (m_paperMany ms) (m_reachMany ms) (m_tape ms) (m_now ms) (m_open ms) (m_made ms)  (r, w0, w1, w2, w3, w4) hqm) (cwV 0 hts gl_X11_read rfl rfl rfl ⟨rfl, cdX11_read⟩ ⟨Nat.le_of_ble_eq_true rfl, Nat.le_of_ble_eq_true rfl⟩) (zPV hK hP hD [95, 108, 96, 109, 110] rfl rfl (q0 := 95) (ci := 11) rfl rfl rfl) rfl rfl hl.1 rfl (lv_room (Nat.le_of_ble_eq_true rfl)) dL_law_753 ⟨Nat.le_of_ble_eq_true rfl, Nat.le_of_ble_eq_true rfl⟩) hP hD hS hA [95, 108, 96, 109, 110] rfl rfl rfl (fun H locs hP hD hS => ?_)
  refine lv_icmp_eq (tgt := 1498) hx hb dL_law_756 (by decide) (fun _ => ?_) (fun hc => absurd rfl hc)
  exact kk _ _ hR2 H locs ls hP hD hS hl
set_option maxHeartbeats 4000000 in
set_option maxRecDepth 100000 in
theorem law_print {p : Program} {l : Launch} {e : Env} {s : State} {m : MethodId} {below : List Frame} {meth : Method} {c : Code} {D : va_G} {cy : Nat → ClassId} {b L : Nat} {sc : Nat → Int32} {A : Nat → Prop} {Z : State → Prop} {bx bm : Nat} {u v : Nat → Nat} (hx : p.tables.exec = Jvm.exec) (hb : c.code = cL_law) (hml : c.maxLocals = 4) (hown : s.vm.findClass RL = some m.cls) (hts : ∀ w ∈ lw_tbl, w.before #[Value.ref b] s = true) (hX : va_X b L sc s s.heap) (hbl : b < s.heap.size) (hbA : ¬ A b) (hA : ∀ q : Nat, s.heap.size ≤ q → A q) (hK : zK D cy s) {R : Nat → XS → MS → Prop} {k : Nat} (hq : zQ_print R k) {x3 : Int32} (hs : ∀ j : Nat, j < 7 → vp_in (x3 + nI j) L) (kk : ∀ (xs : XS) (ms : MS), R (k + 1) xs ms → ∀ (H : Heap) (locs : List Loc) (ls : Array Slot), va_P D vwCl (wXS cy bx u xs ++ wMS cy bm v ms) H → va_D A (wXS cy bx u xs ++ wMS cy bm v ms) → va_S A s.heap H locs → lv_has ls 4 [(0, .ref b), (1, .ref bx), (2, .ref bm), (3, .int x3)] → W p l e room_1 s m #[Value.ref b] below meth c H locs 119 29611 Z (F0 m 1498 ls [])) (xs : XS) (ms : MS) (hR : R k xs ms) (H : Heap) (locs : List Loc) (ls : Array Slot) (hP : va_P D vwCl (wXS cy bx u xs ++ wMS cy bm v ms) H) (hD : va_D A (wXS cy bx u xs ++ wMS cy bm v ms)) (hS : va_S A s.heap H locs) (hl : lv_has ls 4 [(0, .ref b), (1, .ref bx), (2, .ref bm), (3, .int x3)]) : W p l e room_1 s m #[Value.ref b] below meth c H locs 119 29611 Z (F0 m 761 ls []) := by
  have hs1 : vp_in (x3 + (1 : Int32)) L := hs 1 (by decide)
  have hs2 : vp_in (x3 + (2 : Int32)) L := hs 2 (by decide)
  have hs3 : vp_in (x3 + (3 : Int32)) L := hs 3 (by decide)
  have hs4 : vp_in (x3 + (4 : Int32)) L := hs 4 (by decide)
  have hs5 : vp_in (x3 + (5 : Int32)) L := hs 5 (by decide)
  have hs6 : vp_in (x3 + (6 : Int32)) L := hs 6 (by decide)
  obtain ⟨r, xs2, ms2, hx2, hm2, hR2⟩ := hq xs ms hR (sc (x3 + (1 : Int32)).toNatClampNeg) (sc (x3 + (2 : Int32)).toNatClampNeg)
  obtain ⟨rx, y0, y1, hqx, hx2⟩ := zb3_s hx2
  cases hx2
  obtain ⟨rm, w0, w1, w2, w3, hqm, hm2⟩ := zb5_s hm2
  cases hm2
  refine lv_aload_n hx hb dL_law_761 rfl (lv_at hl 1 rfl) ?_
  refine lv_aload_n hx hb dL_law_762 rfl (lv_at hl 0 rfl) ?_
  refine lv_iload_n hx hb dL_law_763 rfl (lv_at hl 3 rfl) ?_
  refine lv_iconst (v := (1 : Int32)) hx hb dL_law_764 (by decide) ?_
  refine lv_iadd hx hb dL_law_765 ?_
  refine va_sld hx hb hX hbl hbA hS hs1 dL_law_766 ?_
  refine lv_aload_n hx hb dL_law_767 rfl (lv_at hl 0 rfl) ?_
  refine lv_iload_n hx hb dL_law_768 rfl (lv_at hl 3 rfl) ?_
  refine lv_iconst (v := (2 : Int32)) hx hb dL_law_769 (by decide) ?_
  refine lv_iadd hx hb dL_law_770 ?_
  refine va_sld hx hb hX hbl hbA hS hs2 dL_law_771 ?_
  refine zCiS (r0 := r) (w1 := (wdX10_print cy bx (u 0) (u 3) (u 12) (u 34) (u 37) (u 41) (u 52) (u 59) (u 66) (u 67) (u 4) (u 5) (u 6) (u 7) (u 8) (u 9) (u 10) (u 11) (x_nets_count xs) y0 y1 (x_nets_kind xs) (x_nets_second xs) (x_nets_first xs))) (ws' := (wXS cy bx u (xs.1, (xs.2.1.1, xs.2.1.2.1, xs.2.1.2.2.1, xs.2.1.2.2.2.1, xs.2.1.2.2.2.2.1, xs.2.1.2.2.2.2.2.1, y1, y0, xs.2.1.2.2.2.2.2.2.2.2), xs.2.2) ++ wMS cy bm v ms)) (va_runV (As := [.int (sc (x3 + (1 : Int32)).toNatClampNeg), .int (sc (x3 + (2 : Int32)).toNatClampNeg)]) (rest := []) ⟨hx, hb, hml, hown, hts⟩ (mX10_print l D cy H.size bx (u 0) (u 3) (u 12) (u 34) (u 37) (u 41) (u 52) (u 59) (u 66) (u 67) (u 4) (u 5) (u 6) (u 7) (u 8) (u 9) (u 10) (u 11) (x_nets_count xs) (x_nets_waiting xs) (x_nets_letters xs) (x_nets_kind xs) (x_nets_second xs) (x_nets_first xs) (sc (x3 + (1 : Int32)).toNatClampNeg) (sc (x3 + (2 : Int32)).toNatClampNeg) (r, y0, y1) hqx) (cwV 2 hts gl_X10_print rfl rfl rfl ⟨rfl, cdX10_print⟩ ⟨Nat.le_of_ble_eq_true rfl, Nat.le_of_ble_eq_true rfl⟩) (zPV hK hP hD [0, 4, 11, 10, 5, 7, 6] rfl rfl (q0 := 0) (ci := 10) rfl rfl rfl) rfl rfl hl.1 rfl (lv_room (Nat.le_of_ble_eq_true rfl)) dL_law_772 ⟨Nat.le_of_ble_eq_true rfl, Nat.le_of_ble_eq_true rfl⟩) hP hD hS hA [0, 4, 11, 10, 5, 7, 6] rfl rfl rfl (fun H locs hP hD hS => ?_)
  refine lv_aload_n hx hb dL_law_775 rfl (lv_at hl 2 rfl) ?_
  refine lv_aload_n hx hb dL_law_776 rfl (lv_at hl 0 rfl) ?_
  refine lv_iload_n hx hb dL_law_777 rfl (lv_at hl 3 rfl) ?_
  refine lv_iconst (v := (1 : Int32)) hx hb dL_law_778 (by decide) ?_
  refine lv_iadd hx hb dL_law_779 ?_
  refine va_sld hx hb hX hbl hbA hS hs1 dL_law_780 ?_
  refine lv_aload_n hx hb dL_law_781 rfl (lv_at hl 0 rfl) ?_
  refine lv_iload_n hx hb dL_law_782 rfl (lv_at hl 3 rfl) ?_
  refine lv_iconst (v := (2 : Int32)) hx hb dL_law_783 (by decide) ?_
  refine lv_iadd hx hb dL_law_784 ?_
  refine va_sld hx hb hX hbl hbA hS hs2 dL_law_785 ?_
  refine zCiS (r0 := r) (w1 := (wdX11_print cy bm (v 0) (v 1) (v 2) (v 3) (v 4) (v 5) (v 6) (v 7) (v 8) (v 9) (v 10) (v 11) (v 12) (v 13) (v 14) (v 15) (v 16) (v 17) (v 18) (v 19) (v 20) (v 21) (v 22) (m_hasImage ms) (m_above ms) (m_below ms) (m_orderMany ms) w0 (m_seed ms) (m_size ms) (m_openMany ms) w1 (m_reachMany ms) (m_now ms) w2 w3)) (ws' := (wXS cy bx u (xs.1, (xs.2.1.1, xs.2.1.2.1, xs.2.1.2.2.1, xs.2.1.2.2.2.1, xs.2.1.2.2.2.2.1, xs.2.1.2.2.2.2.2.1, y1, y0, xs.2.1.2.2.2.2.2.2.2.2), xs.2.2) ++ wMS cy bm v ((ms.1.1, ms.1.2.1, ms.1.2.2.1, ms.1.2.2.2.1, w0, ms.1.2.2.2.2.2), (ms.2.1.1, ms.2.1.2.1, w1, ms.2.1.2.2.2), (ms.2.2.1.1, ms.2.2.1.2.1, ms.2.2.1.2.2.1, ms.2.2.1.2.2.2.1, ms.2.2.1.2.2.2.2.1, w2), ms.2.2.2.1, (ms.2.2.2.2.1.1, w3, ms.2.2.2.2.1.2.2), ms.2.2.2.2.2))) (va_runV (As := [.int (sc (x3 + (1 : Int32)).toNatClampNeg), .int (sc (x3 + (2 : Int32)).toNatClampNeg)]) (rest := [.int r]) ⟨hx, hb, hml, hown, hts⟩ (mX11_print l D cy H.size bm (v 0) (v 1) (v 2) (v 3) (v 4) (v 5) (v 6) (v 7) (v 8) (v 9) (v 10) (v 11) (v 12) (v 13) (v 14) (v 15) (v 16) (v 17) (v 18) (v 19) (v 20) (v 21) (v 22) (m_hasImage ms) (m_above ms) (m_below ms) (m_orderMany ms) (m_waitMany ms) (m_seed ms) (m_size ms) (m_openMany ms) (m_paperMany ms) (m_reachMany ms) (m_now ms) (m_waits ms) (m_paper ms) (sc (x3 + (1 : Int32)).toNatClampNeg) (sc (x3 + (2 : Int32)).toNatClampNeg) (r, w0, w1, w2, w3) hqm) (cwV 2 hts gl_X11_print rfl rfl rfl ⟨rfl, cdX11_print⟩ ⟨Nat.le_of_ble_eq_true rfl, Nat.le_of_ble_eq_true rfl⟩) (zPV hK hP hD [95, 96, 103, 111] rfl rfl (q0 := 95) (ci := 11) rfl rfl rfl) rfl rfl hl.1 rfl (lv_room (Nat.le_of_ble_eq_true rfl)) dL_law_786 ⟨Nat.le_of_ble_eq_true rfl, Nat.le_of_ble_eq_true rfl⟩) hP hD hS hA [95, 96, 103, 111] rfl rfl rfl (fun H locs hP hD hS => ?_)
  refine lv_icmp_eq (tgt := 1498) hx hb dL_law_789 (by decide) (fun _ => ?_) (fun hc => absurd rfl hc)
  exact kk _ _ hR2 H locs ls hP hD hS hl
set_option maxHeartbeats 4000000 in
set_option maxRecDepth 100000 in
theorem law_reached {p : Program} {l : Launch} {e : Env} {s : State} {m : MethodId} {below : List Frame} {meth : Method} {c : Code} {D : va_G} {cy : Nat → ClassId} {b L : Nat} {sc : Nat → Int32} {A : Nat → Prop} {Z : State → Prop} {bx bm : Nat} {u v : Nat → Nat} (hx : p.tables.exec = Jvm.exec) (hb : c.code = cL_law) (hml : c.maxLocals = 4) (hown : s.vm.findClass RL = some m.cls) (hts : ∀ w ∈ lw_tbl, w.before #[Value.ref b] s = true) (hX : va_X b L sc s s.heap) (hbl : b < s.heap.size) (hbA : ¬ A b) (hA : ∀ q : Nat, s.heap.size ≤ q → A q) (hK : zK D cy s) {R : Nat → XS → MS → Prop} {k : Nat} (hq : zQ_reached R k) {x3 : Int32} (hs : ∀ j : Nat, j < 7 → vp_in (x3 + nI j) L) (kk : ∀ (xs : XS) (ms : MS), R (k + 1) xs ms → ∀ (H : Heap) (locs : List Loc) (ls : Array Slot), va_P D vwCl (wXS cy bx u xs ++ wMS cy bm v ms) H → va_D A (wXS cy bx u xs ++ wMS cy bm v ms) → va_S A s.heap H locs → lv_has ls 4 [(0, .ref b), (1, .ref bx), (2, .ref bm), (3, .int x3)] → W p l e room_1 s m #[Value.ref b] below meth c H locs 119 29611 Z (F0 m 1498 ls [])) (xs : XS) (ms : MS) (hR : R k xs ms) (H : Heap) (locs : List Loc) (ls : Array Slot) (hP : va_P D vwCl (wXS cy bx u xs ++ wMS cy bm v ms) H) (hD : va_D A (wXS cy bx u xs ++ wMS cy bm v ms)) (hS : va_S A s.heap H locs) (hl : lv_has ls 4 [(0, .ref b), (1, .ref bx), (2, .ref bm), (3, .int x3)]) : W p l e room_1 s m #[Value.ref b] below meth c H locs 119 29611 Z (F0 m 794 ls []) := by
  have hs1 : vp_in (x3 + (1 : Int32)) L := hs 1 (by decide)
  have hs2 : vp_in (x3 + (2 : Int32)) L := hs 2 (by decide)
  have hs3 : vp_in (x3 + (3 : Int32)) L := hs 3 (by decide)
  have hs4 : vp_in (x3 + (4 : Int32)) L := hs 4 (by decide)
  have hs5 : vp_in (x3 + (5 : Int32)) L := hs 5 (by decide)
  have hs6 : vp_in (x3 + (6 : Int32)) L := hs 6 (by decide)
  obtain ⟨r, xs2, ms2, hx2, hm2, hR2⟩ := hq xs ms hR (sc (x3 + (1 : Int32)).toNatClampNeg)
  obtain ⟨rx, y0, y1, y2, y3, y4, y5, y6, y7, y8, y9, y10, hqx, hx2⟩ := zb12_s hx2
  cases hx2
  obtain ⟨rm, w0, w1, w2, w3, w4, w5, w6, w7, w8, hqm, hm2⟩ := zb10_s hm2
  cases hm2
  refine lv_aload_n hx hb dL_law_794 rfl (lv_at hl 1 rfl) ?_
  refine lv_aload_n hx hb dL_law_795 rfl (lv_at hl 0 rfl) ?_
  refine lv_iload_n hx hb dL_law_796 rfl (lv_at hl 3 rfl) ?_
  refine lv_iconst (v := (1 : Int32)) hx hb dL_law_797 (by decide) ?_
  refine lv_iadd hx hb dL_law_798 ?_
  refine va_sld hx hb hX hbl hbA hS hs1 dL_law_799 ?_
  refine zCiS (r0 := r) (w1 := (wdX10_reached cy bx (u 0) (u 3) (u 12) (u 34) (u 37) (u 41) (u 52) (u 59) (u 66) (u 67) (u 42) (u 43) (u 44) (u 45) (u 46) (u 47) (u 48) (u 49) (u 50) (u 51) (u 1) (u 2) y0 y1 y2 y3 (x_box_ohms xs) y4 y5 y6 y7 y8 y9 y10)) (ws' := (wXS cy bx u (xs.1, xs.2.1, xs.2.2.1, xs.2.2.2.1, xs.2.2.2.2.1, (y0, y1, y2, y6, y7, y8, y9, y10, xs.2.2.2.2.2.1.2.2.2.2.2.2.2.2.1, xs.2.2.2.2.2.1.2.2.2.2.2.2.2.2.2.1, y4, y5, y3), xs.2.2.2.2.2.2) ++ wMS cy bm v ms)) (va_runV (As := [.int (sc (x3 + (1 : Int32)).toNatClampNeg)]) (rest := []) ⟨hx, hb, hml, hown, hts⟩ (mX10_reached l D cy H.size bx (u 0) (u 3) (u 12) (u 34) (u 37) (u 41) (u 52) (u 59) (u 66) (u 67) (u 42) (u 43) (u 44) (u 45) (u 46) (u 47) (u 48) (u 49) (u 50) (u 51) (u 1) (u 2) (x_found_size xs) (x_found_levels xs) (x_found_levelsInOrder xs) (x_found_builtFor xs) (x_box_ohms xs) (x_found_table xs) (x_found_start xs) (x_found_above xs) (x_found_below xs) (x_found_kind xs) (x_found_first xs) (x_found_second xs) (sc (x3 + (1 : Int32)).toNatClampNeg) (r, y0, y1, y2, y3, y4, y5, y6, y7, y8, y9, y10) hqx) (cwV 1 hts gl_X10_reached rfl rfl rfl ⟨rfl, cdX10_reached⟩ ⟨Nat.le_of_ble_eq_true rfl, Nat.le_of_ble_eq_true rfl⟩) (zPV hK hP hD [0, 42, 52, 1, 2, 50, 51, 43, 44, 45, 46, 47] rfl rfl (q0 := 0) (ci := 10) rfl rfl rfl) rfl rfl hl.1 rfl (lv_room (Nat.le_of_ble_eq_true rfl)) dL_law_800 ⟨Nat.le_of_ble_eq_true rfl, Nat.le_of_ble_eq_true rfl⟩) hP hD hS hA [0, 42, 52, 1, 2, 50, 51, 43, 44, 45, 46, 47] rfl rfl rfl (fun H locs hP hD hS => ?_)
  refine lv_aload_n hx hb dL_law_803 rfl (lv_at hl 2 rfl) ?_
  refine lv_aload_n hx hb dL_law_804 rfl (lv_at hl 0 rfl) ?_
  refine lv_iload_n hx hb dL_law_805 rfl (lv_at hl 3 rfl) ?_
  refine lv_iconst (v := (1 : Int32)) hx hb dL_law_806 (by decide) ?_
  refine lv_iadd hx hb dL_law_807 ?_
  refine va_sld hx hb hX hbl hbA hS hs1 dL_law_808 ?_
  refine zCiS (r0 := r) (w1 := (wdX11_reached cy bm (v 0) (v 1) (v 2) (v 3) (v 4) (v 5) (v 6) (v 7) (v 8) (v 9) (v 10) (v 11) (v 12) (v 13) (v 14) (v 15) (v 16) (v 17) (v 18) (v 19) (v 20) (v 21) (v 22) (m_hasImage ms) w0 w1 (m_orderMany ms) (m_waitMany ms) (m_seed ms) (m_size ms) (m_openMany ms) (m_paperMany ms) w2 w3 (m_now ms) w4 w5 w6 w7 w8)) (ws' := (wXS cy bx u (xs.1, xs.2.1, xs.2.2.1, xs.2.2.2.1, xs.2.2.2.2.1, (y0, y1, y2, y6, y7, y8, y9, y10, xs.2.2.2.2.2.1.2.2.2.2.2.2.2.2.1, xs.2.2.2.2.2.1.2.2.2.2.2.2.2.2.2.1, y4, y5, y3), xs.2.2.2.2.2.2) ++ wMS cy bm v ((ms.1.1, w0, w1, ms.1.2.2.2), (ms.2.1.1, ms.2.1.2.1, ms.2.1.2.2.1, w2, ms.2.1.2.2.2.2), ms.2.2.1, ms.2.2.2.1, (ms.2.2.2.2.1.1, ms.2.2.2.2.1.2.1, w4, w5, w6, w7), (w8, w3, ms.2.2.2.2.2.2.2)))) (va_runV (As := [.int (sc (x3 + (1 : Int32)).toNatClampNeg)]) (rest := [.int r]) ⟨hx, hb, hml, hown, hts⟩ (mX11_reached l D cy H.size bm (v 0) (v 1) (v 2) (v 3) (v 4) (v 5) (v 6) (v 7) (v 8) (v 9) (v 10) (v 11) (v 12) (v 13) (v 14) (v 15) (v 16) (v 17) (v 18) (v 19) (v 20) (v 21) (v 22) (m_hasImage ms) (m_above ms) (m_below ms) (m_orderMany ms) (m_waitMany ms) (m_seed ms) (m_size ms) (m_openMany ms) (m_paperMany ms) (m_reachMany ms) (m_begins ms) (m_now ms) (m_reachUp ms) (m_reachDown ms) (m_reachHow ms) (m_reachFirst ms) (m_reachSecond ms) (sc (x3 + (1 : Int32)).toNatClampNeg) (r, w0, w1, w2, w3, w4, w5, w6, w7, w8) hqm) (cwV 1 hts gl_X11_reached rfl rfl rfl ⟨rfl, cdX11_reached⟩ ⟨Nat.le_of_ble_eq_true rfl, Nat.le_of_ble_eq_true rfl⟩) (zPV hK hP hD [95, 117, 96, 112, 113, 114, 115, 116] rfl rfl (q0 := 95) (ci := 11) rfl rfl rfl) rfl rfl hl.1 rfl (lv_room (Nat.le_of_ble_eq_true rfl)) dL_law_809 ⟨Nat.le_of_ble_eq_true rfl, Nat.le_of_ble_eq_true rfl⟩) hP hD hS hA [95, 117, 96, 112, 113, 114, 115, 116] rfl rfl rfl (fun H locs hP hD hS => ?_)
  refine lv_icmp_eq (tgt := 1498) hx hb dL_law_812 (by decide) (fun _ => ?_) (fun hc => absurd rfl hc)
  exact kk _ _ hR2 H locs ls hP hD hS hl
