set_option maxHeartbeats 4000000 in
set_option maxRecDepth 100000 in
theorem law_tell {p : Program} {l : Launch} {e : Env} {s : State} {m : MethodId} {below : List Frame} {meth : Method} {c : Code} {D : va_G} {cy : Nat → ClassId} {b L : Nat} {sc : Nat → Int32} {A : Nat → Prop} {Z : State → Prop} {bx bm : Nat} {u v : Nat → Nat} (hx : p.tables.exec = Jvm.exec) (hb : c.code = cL_law) (hml : c.maxLocals = 4) (hown : s.vm.findClass RL = some m.cls) (hts : ∀ w ∈ lw_tbl, w.before #[Value.ref b] s = true) (hX : va_X b L sc s s.heap) (hbl : b < s.heap.size) (hbA : ¬ A b) (hA : ∀ q : Nat, s.heap.size ≤ q → A q) (hK : zK D cy s) {R : Nat → XS → MS → Prop} {k : Nat} (hq : zQ_tell R k) {x3 : Int32} (hs : ∀ j : Nat, j < 7 → vp_in (x3 + nI j) L) (kk : ∀ (xs : XS) (ms : MS), R (k + 1) xs ms → ∀ (H : Heap) (locs : List Loc) (ls : Array Slot), va_P D vwCl (wXS cy bx u xs ++ wMS cy bm v ms) H → va_D A (wXS cy bx u xs ++ wMS cy bm v ms) → va_S A s.heap H locs → lv_has ls 4 [(0, .ref b), (1, .ref bx), (2, .ref bm), (3, .int x3)] → W p l e room_1 s m #[Value.ref b] below meth c H locs 119 29611 Z (F0 m 1498 ls [])) (xs : XS) (ms : MS) (hR : R k xs ms) (H : Heap) (locs : List Loc) (ls : Array Slot) (hP : va_P D vwCl (wXS cy bx u xs ++ wMS cy bm v ms) H) (hD : va_D A (wXS cy bx u xs ++ wMS cy bm v ms)) (hS : va_S A s.heap H locs) (hl : lv_has ls 4 [(0, .ref b), (1, .ref bx), (2, .ref bm), (3, .int x3)]) : W p l e room_1 s m #[Value.ref b] below meth c H locs 119 29611 Z (F0 m 1047 ls []) := by
  have hs1 : vp_in (x3 + (1 : Int32)) L := hs 1 (by decide)
  have hs2 : vp_in (x3 + (2 : Int32)) L := hs 2 (by decide)
  have hs3 : vp_in (x3 + (3 : Int32)) L := hs 3 (by decide)
  have hs4 : vp_in (x3 + (4 : Int32)) L := hs 4 (by decide)
  have hs5 : vp_in (x3 + (5 : Int32)) L := hs 5 (by decide)
  have hs6 : vp_in (x3 + (6 : Int32)) L := hs 6 (by decide)
  obtain ⟨r, xs2, ms2, hx2, hm2, hR2⟩ := hq xs ms hR (sc (x3 + (1 : Int32)).toNatClampNeg) (sc (x3 + (2 : Int32)).toNatClampNeg)
  obtain ⟨rx, y0, hqx, hx2⟩ := zb2_s hx2
  cases hx2
  obtain ⟨rm, w0, hqm, hm2⟩ := zb2_s hm2
  cases hm2
  refine lv_aload_n hx hb dL_law_1047 rfl (lv_at hl 1 rfl) ?_
  refine lv_aload_n hx hb dL_law_1048 rfl (lv_at hl 0 rfl) ?_
  refine lv_iload_n hx hb dL_law_1049 rfl (lv_at hl 3 rfl) ?_
  refine lv_iconst (v := (1 : Int32)) hx hb dL_law_1050 (by decide) ?_
  refine lv_iadd hx hb dL_law_1051 ?_
  refine va_sld hx hb hX hbl hbA hS hs1 dL_law_1052 ?_
  refine lv_aload_n hx hb dL_law_1053 rfl (lv_at hl 0 rfl) ?_
  refine lv_iload_n hx hb dL_law_1054 rfl (lv_at hl 3 rfl) ?_
  refine lv_iconst (v := (2 : Int32)) hx hb dL_law_1055 (by decide) ?_
  refine lv_iadd hx hb dL_law_1056 ?_
  refine va_sld hx hb hX hbl hbA hS hs2 dL_law_1057 ?_
  refine zCiS (r0 := r) (w1 := (wdX10_tell cy bx (u 0) (u 3) (u 12) (u 34) (u 37) (u 41) (u 52) (u 59) (u 66) (u 67) (u 53) (u 54) (u 55) (u 56) (u 57) (u 58) (x_mesh_points xs) (x_mesh_edges xs) y0)) (ws' := (wXS cy bx u (xs.1, xs.2.1, xs.2.2.1, xs.2.2.2.1, xs.2.2.2.2.1, xs.2.2.2.2.2.1, (xs.2.2.2.2.2.2.1.1, xs.2.2.2.2.2.2.1.2.1, xs.2.2.2.2.2.2.1.2.2.1, xs.2.2.2.2.2.2.1.2.2.2.1, y0, xs.2.2.2.2.2.2.1.2.2.2.2.2), xs.2.2.2.2.2.2.2) ++ wMS cy bm v ms)) (va_runV (As := [.int (sc (x3 + (1 : Int32)).toNatClampNeg), .int (sc (x3 + (2 : Int32)).toNatClampNeg)]) (rest := []) ⟨hx, hb, hml, hown, hts⟩ (mX10_tell l D cy H.size bx (u 0) (u 3) (u 12) (u 34) (u 37) (u 41) (u 52) (u 59) (u 66) (u 67) (u 53) (u 54) (u 55) (u 56) (u 57) (u 58) (x_mesh_points xs) (x_mesh_edges xs) (x_mesh_ohms xs) (sc (x3 + (1 : Int32)).toNatClampNeg) (sc (x3 + (2 : Int32)).toNatClampNeg) (r, y0) hqx) (cwV 2 hts gl_X10_tell rfl rfl rfl ⟨rfl, cdX10_tell⟩ ⟨Nat.le_of_ble_eq_true rfl, Nat.le_of_ble_eq_true rfl⟩) (zPV hK hP hD [0, 53, 56] rfl rfl (q0 := 0) (ci := 10) rfl rfl rfl) rfl rfl hl.1 rfl (lv_room (Nat.le_of_ble_eq_true rfl)) dL_law_1058 ⟨Nat.le_of_ble_eq_true rfl, Nat.le_of_ble_eq_true rfl⟩) hP hD hS hA [0, 53, 56] rfl [1, 0, 0, 0, 0, 0, 0, 0, 0, 0, 0, 0, 0, 0, 0, 0, 0, 0, 0, 0, 0, 0, 0, 0, 0, 0, 0, 0, 0, 0, 0, 0, 0, 0, 0, 0, 0, 0, 0, 0, 0, 0, 0, 0, 0, 0, 0, 0, 0, 0, 0, 0, 0, 2, 0, 0, 3, 0, 0, 0, 0, 0, 0, 0, 0, 0, 0, 0, 0, 0, 0, 0, 0, 0, 0, 0, 0, 0, 0, 0, 0, 0, 0, 0, 0, 0, 0, 0, 0, 0, 0, 0, 0, 0, 0, 0, 0, 0, 0, 0, 0, 0, 0, 0, 0, 0, 0, 0, 0, 0, 0, 0, 0, 0, 0, 0, 0, 0, 0] rfl rfl rfl (fun H locs hP hD hS => ?_)
  refine lv_aload_n hx hb dL_law_1061 rfl (lv_at hl 2 rfl) ?_
  refine lv_aload_n hx hb dL_law_1062 rfl (lv_at hl 0 rfl) ?_
  refine lv_iload_n hx hb dL_law_1063 rfl (lv_at hl 3 rfl) ?_
  refine lv_iconst (v := (1 : Int32)) hx hb dL_law_1064 (by decide) ?_
  refine lv_iadd hx hb dL_law_1065 ?_
  refine va_sld hx hb hX hbl hbA hS hs1 dL_law_1066 ?_
  refine lv_aload_n hx hb dL_law_1067 rfl (lv_at hl 0 rfl) ?_
  refine lv_iload_n hx hb dL_law_1068 rfl (lv_at hl 3 rfl) ?_
  refine lv_iconst (v := (2 : Int32)) hx hb dL_law_1069 (by decide) ?_
  refine lv_iadd hx hb dL_law_1070 ?_
  refine va_sld hx hb hX hbl hbA hS hs2 dL_law_1071 ?_
  refine zCiS (r0 := r) (w1 := (wdX11_tell cy bm (v 0) (v 1) (v 2) (v 3) (v 4) (v 5) (v 6) (v 7) (v 8) (v 9) (v 10) (v 11) (v 12) (v 13) (v 14) (v 15) (v 16) (v 17) (v 18) (v 19) (v 20) (v 21) (v 22) (m_hasImage ms) (m_above ms) (m_below ms) (m_orderMany ms) (m_waitMany ms) (m_seed ms) (m_size ms) (m_openMany ms) (m_paperMany ms) (m_reachMany ms) w0)) (ws' := (wXS cy bx u (xs.1, xs.2.1, xs.2.2.1, xs.2.2.2.1, xs.2.2.2.2.1, xs.2.2.2.2.2.1, (xs.2.2.2.2.2.2.1.1, xs.2.2.2.2.2.2.1.2.1, xs.2.2.2.2.2.2.1.2.2.1, xs.2.2.2.2.2.2.1.2.2.2.1, y0, xs.2.2.2.2.2.2.1.2.2.2.2.2), xs.2.2.2.2.2.2.2) ++ wMS cy bm v (ms.1, (ms.2.1.1, ms.2.1.2.1, ms.2.1.2.2.1, ms.2.1.2.2.2.1, w0, ms.2.1.2.2.2.2.2), ms.2.2))) (va_runV (As := [.int (sc (x3 + (1 : Int32)).toNatClampNeg), .int (sc (x3 + (2 : Int32)).toNatClampNeg)]) (rest := [.int r]) ⟨hx, hb, hml, hown, hts⟩ (mX11_tell l D cy H.size bm (v 0) (v 1) (v 2) (v 3) (v 4) (v 5) (v 6) (v 7) (v 8) (v 9) (v 10) (v 11) (v 12) (v 13) (v 14) (v 15) (v 16) (v 17) (v 18) (v 19) (v 20) (v 21) (v 22) (m_hasImage ms) (m_above ms) (m_below ms) (m_orderMany ms) (m_waitMany ms) (m_seed ms) (m_size ms) (m_openMany ms) (m_paperMany ms) (m_reachMany ms) (m_now ms) (sc (x3 + (1 : Int32)).toNatClampNeg) (sc (x3 + (2 : Int32)).toNatClampNeg) (r, w0) hqm) (cwV 2 hts gl_X11_tell rfl rfl rfl ⟨rfl, cdX11_tell⟩ ⟨Nat.le_of_ble_eq_true rfl, Nat.le_of_ble_eq_true rfl⟩) (zPV hK hP hD [95, 96] rfl rfl (q0 := 95) (ci := 11) rfl rfl rfl) rfl rfl hl.1 rfl (lv_room (Nat.le_of_ble_eq_true rfl)) dL_law_1072 ⟨Nat.le_of_ble_eq_true rfl, Nat.le_of_ble_eq_true rfl⟩) hP hD hS hA [95, 96] rfl [0, 0, 0, 0, 0, 0, 0, 0, 0, 0, 0, 0, 0, 0, 0, 0, 0, 0, 0, 0, 0, 0, 0, 0, 0, 0, 0, 0, 0, 0, 0, 0, 0, 0, 0, 0, 0, 0, 0, 0, 0, 0, 0, 0, 0, 0, 0, 0, 0, 0, 0, 0, 0, 0, 0, 0, 0, 0, 0, 0, 0, 0, 0, 0, 0, 0, 0, 0, 0, 0, 0, 0, 0, 0, 0, 0, 0, 0, 0, 0, 0, 0, 0, 0, 0, 0, 0, 0, 0, 0, 0, 0, 0, 0, 0, 1, 2, 0, 0, 0, 0, 0, 0, 0, 0, 0, 0, 0, 0, 0, 0, 0, 0, 0, 0, 0, 0, 0, 0] rfl rfl rfl (fun H locs hP hD hS => ?_)
  refine lv_icmp_eq (tgt := 1498) hx hb dL_law_1075 (by decide) (fun _ => ?_) (fun hc => absurd rfl hc)
  exact kk _ _ hR2 H locs ls hP hD hS hl
set_option maxHeartbeats 4000000 in
set_option maxRecDepth 100000 in
theorem law_between {p : Program} {l : Launch} {e : Env} {s : State} {m : MethodId} {below : List Frame} {meth : Method} {c : Code} {D : va_G} {cy : Nat → ClassId} {b L : Nat} {sc : Nat → Int32} {A : Nat → Prop} {Z : State → Prop} {bx bm : Nat} {u v : Nat → Nat} (hx : p.tables.exec = Jvm.exec) (hb : c.code = cL_law) (hml : c.maxLocals = 4) (hown : s.vm.findClass RL = some m.cls) (hts : ∀ w ∈ lw_tbl, w.before #[Value.ref b] s = true) (hX : va_X b L sc s s.heap) (hbl : b < s.heap.size) (hbA : ¬ A b) (hA : ∀ q : Nat, s.heap.size ≤ q → A q) (hK : zK D cy s) {R : Nat → XS → MS → Prop} {k : Nat} (hq : zQ_between R k) {x3 : Int32} (hs : ∀ j : Nat, j < 7 → vp_in (x3 + nI j) L) (kk : ∀ (xs : XS) (ms : MS), R (k + 1) xs ms → ∀ (H : Heap) (locs : List Loc) (ls : Array Slot), va_P D vwCl (wXS cy bx u xs ++ wMS cy bm v ms) H → va_D A (wXS cy bx u xs ++ wMS cy bm v ms) → va_S A s.heap H locs → lv_has ls 4 [(0, .ref b), (1, .ref bx), (2, .ref bm), (3, .int x3)] → W p l e room_1 s m #[Value.ref b] below meth c H locs 119 29611 Z (F0 m 1498 ls [])) (xs : XS) (ms : MS) (hR : R k xs ms) (H : Heap) (locs : List Loc) (ls : Array Slot) (hP : va_P D vwCl (wXS cy bx u xs ++ wMS cy bm v ms) H) (hD : va_D A (wXS cy bx u xs ++ wMS cy bm v ms)) (hS : va_S A s.heap H locs) (hl : lv_has ls 4 [(0, .ref b), (1, .ref bx), (2, .ref bm), (3, .int x3)]) : W p l e room_1 s m #[Value.ref b] below meth c H locs 119 29611 Z (F0 m 1080 ls []) := by
  have hs1 : vp_in (x3 + (1 : Int32)) L := hs 1 (by decide)
  have hs2 : vp_in (x3 + (2 : Int32)) L := hs 2 (by decide)
  have hs3 : vp_in (x3 + (3 : Int32)) L := hs 3 (by decide)
  have hs4 : vp_in (x3 + (4 : Int32)) L := hs 4 (by decide)
  have hs5 : vp_in (x3 + (5 : Int32)) L := hs 5 (by decide)
  have hs6 : vp_in (x3 + (6 : Int32)) L := hs 6 (by decide)
  obtain ⟨r, xs2, ms2, hx2, hm2, hR2⟩ := hq xs ms hR (sc (x3 + (1 : Int32)).toNatClampNeg) (sc (x3 + (2 : Int32)).toNatClampNeg) (sc (x3 + (3 : Int32)).toNatClampNeg)
  obtain ⟨rx, y0, y1, y2, hqx, hx2⟩ := zb4_s hx2
  cases hx2
  obtain ⟨rm, w0, w1, hqm, hm2⟩ := zb3_s hm2
  cases hm2
  refine lv_aload_n hx hb dL_law_1080 rfl (lv_at hl 1 rfl) ?_
  refine lv_aload_n hx hb dL_law_1081 rfl (lv_at hl 0 rfl) ?_
  refine lv_iload_n hx hb dL_law_1082 rfl (lv_at hl 3 rfl) ?_
  refine lv_iconst (v := (1 : Int32)) hx hb dL_law_1083 (by decide) ?_
  refine lv_iadd hx hb dL_law_1084 ?_
  refine va_sld hx hb hX hbl hbA hS hs1 dL_law_1085 ?_
  refine lv_aload_n hx hb dL_law_1086 rfl (lv_at hl 0 rfl) ?_
  refine lv_iload_n hx hb dL_law_1087 rfl (lv_at hl 3 rfl) ?_
  refine lv_iconst (v := (2 : Int32)) hx hb dL_law_1088 (by decide) ?_
  refine lv_iadd hx hb dL_law_1089 ?_
  refine va_sld hx hb hX hbl hbA hS hs2 dL_law_1090 ?_
  refine lv_aload_n hx hb dL_law_1091 rfl (lv_at hl 0 rfl) ?_
  refine lv_iload_n hx hb dL_law_1092 rfl (lv_at hl 3 rfl) ?_
  refine lv_iconst (v := (3 : Int32)) hx hb dL_law_1093 (by decide) ?_
  refine lv_iadd hx hb dL_law_1094 ?_
  refine va_sld hx hb hX hbl hbA hS hs3 dL_law_1095 ?_
  refine zClS (r0 := r) (w1 := (wdX10_between cy bx (u 0) (u 3) (u 12) (u 34) (u 37) (u 41) (u 52) (u 59) (u 66) (u 67) (u 53) (u 54) (u 55) (u 56) (u 57) (u 58) (x_mesh_points xs) (x_mesh_edges xs) y0 y1 (x_mesh_ohms xs) (x_mesh_one xs) (x_mesh_other xs) y2)) (ws' := (wXS cy bx u (xs.1, xs.2.1, xs.2.2.1, xs.2.2.2.1, xs.2.2.2.2.1, xs.2.2.2.2.2.1, (xs.2.2.2.2.2.2.1.1, xs.2.2.2.2.2.2.1.2.1, xs.2.2.2.2.2.2.1.2.2.1, xs.2.2.2.2.2.2.1.2.2.2.1, xs.2.2.2.2.2.2.1.2.2.2.2.1, y2, y0, y1, xs.2.2.2.2.2.2.1.2.2.2.2.2.2.2.2), xs.2.2.2.2.2.2.2) ++ wMS cy bm v ms)) (va_runV (As := [.int (sc (x3 + (1 : Int32)).toNatClampNeg), .int (sc (x3 + (2 : Int32)).toNatClampNeg), .int (sc (x3 + (3 : Int32)).toNatClampNeg)]) (rest := []) ⟨hx, hb, hml, hown, hts⟩ (mX10_between l D cy H.size bx (u 0) (u 3) (u 12) (u 34) (u 37) (u 41) (u 52) (u 59) (u 66) (u 67) (u 53) (u 54) (u 55) (u 56) (u 57) (u 58) (x_mesh_points xs) (x_mesh_edges xs) (x_mesh_worth_above xs) (x_mesh_worth_below xs) (x_mesh_ohms xs) (x_mesh_one xs) (x_mesh_other xs) (x_mesh_trees xs) (sc (x3 + (1 : Int32)).toNatClampNeg) (sc (x3 + (2 : Int32)).toNatClampNeg) (sc (x3 + (3 : Int32)).toNatClampNeg) (r, y0, y1, y2) hqx) (cwV 3 hts gl_X10_between rfl rfl rfl ⟨rfl, cdX10_between⟩ ⟨Nat.le_of_ble_eq_true rfl, Nat.le_of_ble_eq_true rfl⟩) (zPV hK hP hD [0, 53, 58, 56, 54, 55, 57] rfl rfl (q0 := 0) (ci := 10) rfl rfl rfl) rfl rfl hl.1 rfl (lv_room (Nat.le_of_ble_eq_true rfl)) dL_law_1096 ⟨Nat.le_of_ble_eq_true rfl, Nat.le_of_ble_eq_true rfl⟩) hP hD hS hA [0, 53, 58, 56, 54, 55, 57] rfl [1, 0, 0, 0, 0, 0, 0, 0, 0, 0, 0, 0, 0, 0, 0, 0, 0, 0, 0, 0, 0, 0, 0, 0, 0, 0, 0, 0, 0, 0, 0, 0, 0, 0, 0, 0, 0, 0, 0, 0, 0, 0, 0, 0, 0, 0, 0, 0, 0, 0, 0, 0, 0, 2, 5, 6, 4, 7, 3, 0, 0, 0, 0, 0, 0, 0, 0, 0, 0, 0, 0, 0, 0, 0, 0, 0, 0, 0, 0, 0, 0, 0, 0, 0, 0, 0, 0, 0, 0, 0, 0, 0, 0, 0, 0, 0, 0, 0, 0, 0, 0, 0, 0, 0, 0, 0, 0, 0, 0, 0, 0, 0, 0, 0, 0, 0, 0, 0, 0] rfl rfl rfl (fun H locs hP hD hS => ?_)
  refine lv_aload_n hx hb dL_law_1099 rfl (lv_at hl 2 rfl) ?_
  refine lv_aload_n hx hb dL_law_1100 rfl (lv_at hl 0 rfl) ?_
  refine lv_iload_n hx hb dL_law_1101 rfl (lv_at hl 3 rfl) ?_
  refine lv_iconst (v := (1 : Int32)) hx hb dL_law_1102 (by decide) ?_
  refine lv_iadd hx hb dL_law_1103 ?_
  refine va_sld hx hb hX hbl hbA hS hs1 dL_law_1104 ?_
  refine lv_aload_n hx hb dL_law_1105 rfl (lv_at hl 0 rfl) ?_
  refine lv_iload_n hx hb dL_law_1106 rfl (lv_at hl 3 rfl) ?_
  refine lv_iconst (v := (2 : Int32)) hx hb dL_law_1107 (by decide) ?_
  refine lv_iadd hx hb dL_law_1108 ?_
  refine va_sld hx hb hX hbl hbA hS hs2 dL_law_1109 ?_
  refine lv_aload_n hx hb dL_law_1110 rfl (lv_at hl 0 rfl) ?_
  refine lv_iload_n hx hb dL_law_1111 rfl (lv_at hl 3 rfl) ?_
  refine lv_iconst (v := (3 : Int32)) hx hb dL_law_1112 (by decide) ?_
  refine lv_iadd hx hb dL_law_1113 ?_
  refine va_sld hx hb hX hbl hbA hS hs3 dL_law_1114 ?_
  refine zClS (r0 := r) (w1 := (wdX11_between cy bm (v 0) (v 1) (v 2) (v 3) (v 4) (v 5) (v 6) (v 7) (v 8) (v 9) (v 10) (v 11) (v 12) (v 13) (v 14) (v 15) (v 16) (v 17) (v 18) (v 19) (v 20) (v 21) (v 22) (m_hasImage ms) w0 w1 (m_orderMany ms) (m_waitMany ms) (m_seed ms) (m_size ms) (m_openMany ms) (m_paperMany ms) (m_reachMany ms) (m_now ms))) (ws' := (wXS cy bx u (xs.1, xs.2.1, xs.2.2.1, xs.2.2.2.1, xs.2.2.2.2.1, xs.2.2.2.2.2.1, (xs.2.2.2.2.2.2.1.1, xs.2.2.2.2.2.2.1.2.1, xs.2.2.2.2.2.2.1.2.2.1, xs.2.2.2.2.2.2.1.2.2.2.1, xs.2.2.2.2.2.2.1.2.2.2.2.1, y2, y0, y1, xs.2.2.2.2.2.2.1.2.2.2.2.2.2.2.2), xs.2.2.2.2.2.2.2) ++ wMS cy bm v ((ms.1.1, w0, w1, ms.1.2.2.2), ms.2))) (va_runV (As := [.int (sc (x3 + (1 : Int32)).toNatClampNeg), .int (sc (x3 + (2 : Int32)).toNatClampNeg), .int (sc (x3 + (3 : Int32)).toNatClampNeg)]) (rest := [.long r]) ⟨hx, hb, hml, hown, hts⟩ (mX11_between l D cy H.size bm (v 0) (v 1) (v 2) (v 3) (v 4) (v 5) (v 6) (v 7) (v 8) (v 9) (v 10) (v 11) (v 12) (v 13) (v 14) (v 15) (v 16) (v 17) (v 18) (v 19) (v 20) (v 21) (v 22) (m_hasImage ms) (m_above ms) (m_below ms) (m_orderMany ms) (m_waitMany ms) (m_seed ms) (m_size ms) (m_openMany ms) (m_paperMany ms) (m_reachMany ms) (m_now ms) (sc (x3 + (1 : Int32)).toNatClampNeg) (sc (x3 + (2 : Int32)).toNatClampNeg) (sc (x3 + (3 : Int32)).toNatClampNeg) (r, w0, w1) hqm) (cwV 3 hts gl_X11_between rfl rfl rfl ⟨rfl, cdX11_between⟩ ⟨Nat.le_of_ble_eq_true rfl, Nat.le_of_ble_eq_true rfl⟩) (zPV hK hP hD [95, 96] rfl rfl (q0 := 95) (ci := 11) rfl rfl rfl) rfl rfl hl.1 rfl (lv_room (Nat.le_of_ble_eq_true rfl)) dL_law_1115 ⟨Nat.le_of_ble_eq_true rfl, Nat.le_of_ble_eq_true rfl⟩) hP hD hS hA [95, 96] rfl [0, 0, 0, 0, 0, 0, 0, 0, 0, 0, 0, 0, 0, 0, 0, 0, 0, 0, 0, 0, 0, 0, 0, 0, 0, 0, 0, 0, 0, 0, 0, 0, 0, 0, 0, 0, 0, 0, 0, 0, 0, 0, 0, 0, 0, 0, 0, 0, 0, 0, 0, 0, 0, 0, 0, 0, 0, 0, 0, 0, 0, 0, 0, 0, 0, 0, 0, 0, 0, 0, 0, 0, 0, 0, 0, 0, 0, 0, 0, 0, 0, 0, 0, 0, 0, 0, 0, 0, 0, 0, 0, 0, 0, 0, 0, 1, 2, 0, 0, 0, 0, 0, 0, 0, 0, 0, 0, 0, 0, 0, 0, 0, 0, 0, 0, 0, 0, 0, 0] rfl rfl rfl (fun H locs hP hD hS => ?_)
  refine W.lcmp hx hb dL_law_1118 ?_
  refine lv_if_eq (tgt := 1498) hx hb dL_law_1119 (by decide) (fun _ => ?_) (fun hc => absurd ((zc_eq _ _).mpr rfl) hc)
  exact kk _ _ hR2 H locs ls hP hD hS hl
set_option maxHeartbeats 4000000 in
set_option maxRecDepth 100000 in
theorem law_without {p : Program} {l : Launch} {e : Env} {s : State} {m : MethodId} {below : List Frame} {meth : Method} {c : Code} {D : va_G} {cy : Nat → ClassId} {b L : Nat} {sc : Nat → Int32} {A : Nat → Prop} {Z : State → Prop} {bx bm : Nat} {u v : Nat → Nat} (hx : p.tables.exec = Jvm.exec) (hb : c.code = cL_law) (hml : c.maxLocals = 4) (hown : s.vm.findClass RL = some m.cls) (hts : ∀ w ∈ lw_tbl, w.before #[Value.ref b] s = true) (hX : va_X b L sc s s.heap) (hbl : b < s.heap.size) (hbA : ¬ A b) (hA : ∀ q : Nat, s.heap.size ≤ q → A q) (hK : zK D cy s) {R : Nat → XS → MS → Prop} {k : Nat} (hq : zQ_without R k) {x3 : Int32} (hs : ∀ j : Nat, j < 7 → vp_in (x3 + nI j) L) (kk : ∀ (xs : XS) (ms : MS), R (k + 1) xs ms → ∀ (H : Heap) (locs : List Loc) (ls : Array Slot), va_P D vwCl (wXS cy bx u xs ++ wMS cy bm v ms) H → va_D A (wXS cy bx u xs ++ wMS cy bm v ms) → va_S A s.heap H locs → lv_has ls 4 [(0, .ref b), (1, .ref bx), (2, .ref bm), (3, .int x3)] → W p l e room_1 s m #[Value.ref b] below meth c H locs 119 29611 Z (F0 m 1498 ls [])) (xs : XS) (ms : MS) (hR : R k xs ms) (H : Heap) (locs : List Loc) (ls : Array Slot) (hP : va_P D vwCl (wXS cy bx u xs ++ wMS cy bm v ms) H) (hD : va_D A (wXS cy bx u xs ++ wMS cy bm v ms)) (hS : va_S A s.heap H locs) (hl : lv_has ls 4 [(0, .ref b), (1, .ref bx), (2, .ref bm), (3, .int x3)]) : W p l e room_1 s m #[Value.ref b] below meth c H locs 119 29611 Z (F0 m 1124 ls []) := by
  have hs1 : vp_in (x3 + (1 : Int32)) L := hs 1 (by decide)
  have hs2 : vp_in (x3 + (2 : Int32)) L := hs 2 (by decide)
  have hs3 : vp_in (x3 + (3 : Int32)) L := hs 3 (by decide)
  have hs4 : vp_in (x3 + (4 : Int32)) L := hs 4 (by decide)
  have hs5 : vp_in (x3 + (5 : Int32)) L := hs 5 (by decide)
  have hs6 : vp_in (x3 + (6 : Int32)) L := hs 6 (by decide)
  obtain ⟨r, xs2, ms2, hx2, hm2, hR2⟩ := hq xs ms hR (sc (x3 + (1 : Int32)).toNatClampNeg) (sc (x3 + (2 : Int32)).toNatClampNeg) (sc (x3 + (3 : Int32)).toNatClampNeg) (sc (x3 + (4 : Int32)).toNatClampNeg)
  obtain ⟨rx, y0, y1, y2, hqx, hx2⟩ := zb4_s hx2
  cases hx2
  obtain ⟨rm, w0, w1, hqm, hm2⟩ := zb3_s hm2
  cases hm2
  refine lv_aload_n hx hb dL_law_1124 rfl (lv_at hl 1 rfl) ?_
  refine lv_aload_n hx hb dL_law_1125 rfl (lv_at hl 0 rfl) ?_
  refine lv_iload_n hx hb dL_law_1126 rfl (lv_at hl 3 rfl) ?_
  refine lv_iconst (v := (1 : Int32)) hx hb dL_law_1127 (by decide) ?_
  refine lv_iadd hx hb dL_law_1128 ?_
  refine va_sld hx hb hX hbl hbA hS hs1 dL_law_1129 ?_
  refine lv_aload_n hx hb dL_law_1130 rfl (lv_at hl 0 rfl) ?_
  refine lv_iload_n hx hb dL_law_1131 rfl (lv_at hl 3 rfl) ?_
  refine lv_iconst (v := (2 : Int32)) hx hb dL_law_1132 (by decide) ?_
  refine lv_iadd hx hb dL_law_1133 ?_
  refine va_sld hx hb hX hbl hbA hS hs2 dL_law_1134 ?_
  refine lv_aload_n hx hb dL_law_1135 rfl (lv_at hl 0 rfl) ?_
  refine lv_iload_n hx hb dL_law_1136 rfl (lv_at hl 3 rfl) ?_
  refine lv_iconst (v := (3 : Int32)) hx hb dL_law_1137 (by decide) ?_
  refine lv_iadd hx hb dL_law_1138 ?_
  refine va_sld hx hb hX hbl hbA hS hs3 dL_law_1139 ?_
  refine lv_aload_n hx hb dL_law_1140 rfl (lv_at hl 0 rfl) ?_
  refine lv_iload_n hx hb dL_law_1141 rfl (lv_at hl 3 rfl) ?_
  refine lv_iconst (v := (4 : Int32)) hx hb dL_law_1142 (by decide) ?_
  refine lv_iadd hx hb dL_law_1143 ?_
  refine va_sld hx hb hX hbl hbA hS hs4 dL_law_1144 ?_
  refine zClS (r0 := r) (w1 := (wdX10_without cy bx (u 0) (u 3) (u 12) (u 34) (u 37) (u 41) (u 52) (u 59) (u 66) (u 67) (u 53) (u 54) (u 55) (u 56) (u 57) (u 58) (x_mesh_points xs) (x_mesh_edges xs) y0 y1 (x_mesh_ohms xs) (x_mesh_one xs) (x_mesh_other xs) y2)) (ws' := (wXS cy bx u (xs.1, xs.2.1, xs.2.2.1, xs.2.2.2.1, xs.2.2.2.2.1, xs.2.2.2.2.2.1, (xs.2.2.2.2.2.2.1.1, xs.2.2.2.2.2.2.1.2.1, xs.2.2.2.2.2.2.1.2.2.1, xs.2.2.2.2.2.2.1.2.2.2.1, xs.2.2.2.2.2.2.1.2.2.2.2.1, y2, y0, y1, xs.2.2.2.2.2.2.1.2.2.2.2.2.2.2.2), xs.2.2.2.2.2.2.2) ++ wMS cy bm v ms)) (va_runV (As := [.int (sc (x3 + (1 : Int32)).toNatClampNeg), .int (sc (x3 + (2 : Int32)).toNatClampNeg), .int (sc (x3 + (3 : Int32)).toNatClampNeg), .int (sc (x3 + (4 : Int32)).toNatClampNeg)]) (rest := []) ⟨hx, hb, hml, hown, hts⟩ (mX10_without l D cy H.size bx (u 0) (u 3) (u 12) (u 34) (u 37) (u 41) (u 52) (u 59) (u 66) (u 67) (u 53) (u 54) (u 55) (u 56) (u 57) (u 58) (x_mesh_points xs) (x_mesh_edges xs) (x_mesh_worth_above xs) (x_mesh_worth_below xs) (x_mesh_ohms xs) (x_mesh_one xs) (x_mesh_other xs) (x_mesh_trees xs) (sc (x3 + (1 : Int32)).toNatClampNeg) (sc (x3 + (2 : Int32)).toNatClampNeg) (sc (x3 + (3 : Int32)).toNatClampNeg) (sc (x3 + (4 : Int32)).toNatClampNeg) (r, y0, y1, y2) hqx) (cwV 4 hts gl_X10_without rfl rfl rfl ⟨rfl, cdX10_without⟩ ⟨Nat.le_of_ble_eq_true rfl, Nat.le_of_ble_eq_true rfl⟩) (zPV hK hP hD [0, 53, 58, 56, 54, 55, 57] rfl rfl (q0 := 0) (ci := 10) rfl rfl rfl) rfl rfl hl.1 rfl (lv_room (Nat.le_of_ble_eq_true rfl)) dL_law_1145 ⟨Nat.le_of_ble_eq_true rfl, Nat.le_of_ble_eq_true rfl⟩) hP hD hS hA [0, 53, 58, 56, 54, 55, 57] rfl [1, 0, 0, 0, 0, 0, 0, 0, 0, 0, 0, 0, 0, 0, 0, 0, 0, 0, 0, 0, 0, 0, 0, 0, 0, 0, 0, 0, 0, 0, 0, 0, 0, 0, 0, 0, 0, 0, 0, 0, 0, 0, 0, 0, 0, 0, 0, 0, 0, 0, 0, 0, 0, 2, 5, 6, 4, 7, 3, 0, 0, 0, 0, 0, 0, 0, 0, 0, 0, 0, 0, 0, 0, 0, 0, 0, 0, 0, 0, 0, 0, 0, 0, 0, 0, 0, 0, 0, 0, 0, 0, 0, 0, 0, 0, 0, 0, 0, 0, 0, 0, 0, 0, 0, 0, 0, 0, 0, 0, 0, 0, 0, 0, 0, 0, 0, 0, 0, 0] rfl rfl rfl (fun H locs hP hD hS => ?_)
  refine lv_aload_n hx hb dL_law_1148 rfl (lv_at hl 2 rfl) ?_
  refine lv_aload_n hx hb dL_law_1149 rfl (lv_at hl 0 rfl) ?_
  refine lv_iload_n hx hb dL_law_1150 rfl (lv_at hl 3 rfl) ?_
  refine lv_iconst (v := (1 : Int32)) hx hb dL_law_1151 (by decide) ?_
  refine lv_iadd hx hb dL_law_1152 ?_
  refine va_sld hx hb hX hbl hbA hS hs1 dL_law_1153 ?_
  refine lv_aload_n hx hb dL_law_1154 rfl (lv_at hl 0 rfl) ?_
  refine lv_iload_n hx hb dL_law_1155 rfl (lv_at hl 3 rfl) ?_
  refine lv_iconst (v := (2 : Int32)) hx hb dL_law_1156 (by decide) ?_
  refine lv_iadd hx hb dL_law_1157 ?_
  refine va_sld hx hb hX hbl hbA hS hs2 dL_law_1158 ?_
  refine lv_aload_n hx hb dL_law_1159 rfl (lv_at hl 0 rfl) ?_
  refine lv_iload_n hx hb dL_law_1160 rfl (lv_at hl 3 rfl) ?_
  refine lv_iconst (v := (3 : Int32)) hx hb dL_law_1161 (by decide) ?_
  refine lv_iadd hx hb dL_law_1162 ?_
  refine va_sld hx hb hX hbl hbA hS hs3 dL_law_1163 ?_
  refine lv_aload_n hx hb dL_law_1164 rfl (lv_at hl 0 rfl) ?_
  refine lv_iload_n hx hb dL_law_1165 rfl (lv_at hl 3 rfl) ?_
  refine lv_iconst (v := (4 : Int32)) hx hb dL_law_1166 (by decide) ?_
  refine lv_iadd hx hb dL_law_1167 ?_
  refine va_sld hx hb hX hbl hbA hS hs4 dL_law_1168 ?_
  refine zClS (r0 := r) (w1 := (wdX11_without cy bm (v 0) (v 1) (v 2) (v 3) (v 4) (v 5) (v 6) (v 7) (v 8) (v 9) (v 10) (v 11) (v 12) (v 13) (v 14) (v 15) (v 16) (v 17) (v 18) (v 19) (v 20) (v 21) (v 22) (m_hasImage ms) w0 w1 (m_orderMany ms) (m_waitMany ms) (m_seed ms) (m_size ms) (m_openMany ms) (m_paperMany ms) (m_reachMany ms) (m_now ms))) (ws' := (wXS cy bx u (xs.1, xs.2.1, xs.2.2.1, xs.2.2.2.1, xs.2.2.2.2.1, xs.2.2.2.2.2.1, (xs.2.2.2.2.2.2.1.1, xs.2.2.2.2.2.2.1.2.1, xs.2.2.2.2.2.2.1.2.2.1, xs.2.2.2.2.2.2.1.2.2.2.1, xs.2.2.2.2.2.2.1.2.2.2.2.1, y2, y0, y1, xs.2.2.2.2.2.2.1.2.2.2.2.2.2.2.2), xs.2.2.2.2.2.2.2) ++ wMS cy bm v ((ms.1.1, w0, w1, ms.1.2.2.2), ms.2))) (va_runV (As := [.int (sc (x3 + (1 : Int32)).toNatClampNeg), .int (sc (x3 + (2 : Int32)).toNatClampNeg), .int (sc (x3 + (3 : Int32)).toNatClampNeg), .int (sc (x3 + (4 : Int32)).toNatClampNeg)]) (rest := [.long r]) ⟨hx, hb, hml, hown, hts⟩ (mX11_without l D cy H.size bm (v 0) (v 1) (v 2) (v 3) (v 4) (v 5) (v 6) (v 7) (v 8) (v 9) (v 10) (v 11) (v 12) (v 13) (v 14) (v 15) (v 16) (v 17) (v 18) (v 19) (v 20) (v 21) (v 22) (m_hasImage ms) (m_above ms) (m_below ms) (m_orderMany ms) (m_waitMany ms) (m_seed ms) (m_size ms) (m_openMany ms) (m_paperMany ms) (m_reachMany ms) (m_now ms) (sc (x3 + (1 : Int32)).toNatClampNeg) (sc (x3 + (2 : Int32)).toNatClampNeg) (sc (x3 + (3 : Int32)).toNatClampNeg) (sc (x3 + (4 : Int32)).toNatClampNeg) (r, w0, w1) hqm) (cwV 4 hts gl_X11_without rfl rfl rfl ⟨rfl, cdX11_without⟩ ⟨Nat.le_of_ble_eq_true rfl, Nat.le_of_ble_eq_true rfl⟩) (zPV hK hP hD [95, 96] rfl rfl (q0 := 95) (ci := 11) rfl rfl rfl) rfl rfl hl.1 rfl (lv_room (Nat.le_of_ble_eq_true rfl)) dL_law_1169 ⟨Nat.le_of_ble_eq_true rfl, Nat.le_of_ble_eq_true rfl⟩) hP hD hS hA [95, 96] rfl [0, 0, 0, 0, 0, 0, 0, 0, 0, 0, 0, 0, 0, 0, 0, 0, 0, 0, 0, 0, 0, 0, 0, 0, 0, 0, 0, 0, 0, 0, 0, 0, 0, 0, 0, 0, 0, 0, 0, 0, 0, 0, 0, 0, 0, 0, 0, 0, 0, 0, 0, 0, 0, 0, 0, 0, 0, 0, 0, 0, 0, 0, 0, 0, 0, 0, 0, 0, 0, 0, 0, 0, 0, 0, 0, 0, 0, 0, 0, 0, 0, 0, 0, 0, 0, 0, 0, 0, 0, 0, 0, 0, 0, 0, 0, 1, 2, 0, 0, 0, 0, 0, 0, 0, 0, 0, 0, 0, 0, 0, 0, 0, 0, 0, 0, 0, 0, 0, 0] rfl rfl rfl (fun H locs hP hD hS => ?_)
  refine W.lcmp hx hb dL_law_1172 ?_
  refine lv_if_eq (tgt := 1498) hx hb dL_law_1173 (by decide) (fun _ => ?_) (fun hc => absurd ((zc_eq _ _).mpr rfl) hc)
  exact kk _ _ hR2 H locs ls hP hD hS hl
set_option maxHeartbeats 4000000 in
set_option maxRecDepth 100000 in
theorem law_dearest {p : Program} {l : Launch} {e : Env} {s : State} {m : MethodId} {below : List Frame} {meth : Method} {c : Code} {D : va_G} {cy : Nat → ClassId} {b L : Nat} {sc : Nat → Int32} {A : Nat → Prop} {Z : State → Prop} {bx bm : Nat} {u v : Nat → Nat} (hx : p.tables.exec = Jvm.exec) (hb : c.code = cL_law) (hml : c.maxLocals = 4) (hown : s.vm.findClass RL = some m.cls) (hts : ∀ w ∈ lw_tbl, w.before #[Value.ref b] s = true) (hX : va_X b L sc s s.heap) (hbl : b < s.heap.size) (hbA : ¬ A b) (hA : ∀ q : Nat, s.heap.size ≤ q → A q) (hK : zK D cy s) {R : Nat → XS → MS → Prop} {k : Nat} (hq : zQ_dearest R k) {x3 : Int32} (hs : ∀ j : Nat, j < 7 → vp_in (x3 + nI j) L) (kk : ∀ (xs : XS) (ms : MS), R (k + 1) xs ms → ∀ (H : Heap) (locs : List Loc) (ls : Array Slot), va_P D vwCl (wXS cy bx u xs ++ wMS cy bm v ms) H → va_D A (wXS cy bx u xs ++ wMS cy bm v ms) → va_S A s.heap H locs → lv_has ls 4 [(0, .ref b), (1, .ref bx), (2, .ref bm), (3, .int x3)] → W p l e room_1 s m #[Value.ref b] below meth c H locs 119 29611 Z (F0 m 1498 ls [])) (xs : XS) (ms : MS) (hR : R k xs ms) (H : Heap) (locs : List Loc) (ls : Array Slot) (hP : va_P D vwCl (wXS cy bx u xs ++ wMS cy bm v ms) H) (hD : va_D A (wXS cy bx u xs ++ wMS cy bm v ms)) (hS : va_S A s.heap H locs) (hl : lv_has ls 4 [(0, .ref b), (1, .ref bx), (2, .ref bm), (3, .int x3)]) : W p l e room_1 s m #[Value.ref b] below meth c H locs 119 29611 Z (F0 m 1178 ls []) := by
  have hs1 : vp_in (x3 + (1 : Int32)) L := hs 1 (by decide)
  have hs2 : vp_in (x3 + (2 : Int32)) L := hs 2 (by decide)
  have hs3 : vp_in (x3 + (3 : Int32)) L := hs 3 (by decide)
  have hs4 : vp_in (x3 + (4 : Int32)) L := hs 4 (by decide)
  have hs5 : vp_in (x3 + (5 : Int32)) L := hs 5 (by decide)
  have hs6 : vp_in (x3 + (6 : Int32)) L := hs 6 (by decide)
  obtain ⟨r, xs2, ms2, hx2, hm2, hR2⟩ := hq xs ms hR (sc (x3 + (1 : Int32)).toNatClampNeg) (sc (x3 + (2 : Int32)).toNatClampNeg)
  obtain ⟨rx, y0, y1, y2, y3, y4, hqx, hx2⟩ := zb6_s hx2
  cases hx2
  obtain ⟨rm, w0, w1, hqm, hm2⟩ := zb3_s hm2
  cases hm2
  refine lv_aload_n hx hb dL_law_1178 rfl (lv_at hl 1 rfl) ?_
  refine lv_aload_n hx hb dL_law_1179 rfl (lv_at hl 0 rfl) ?_
  refine lv_iload_n hx hb dL_law_1180 rfl (lv_at hl 3 rfl) ?_
  refine lv_iconst (v := (1 : Int32)) hx hb dL_law_1181 (by decide) ?_
  refine lv_iadd hx hb dL_law_1182 ?_
  refine va_sld hx hb hX hbl hbA hS hs1 dL_law_1183 ?_
  refine lv_aload_n hx hb dL_law_1184 rfl (lv_at hl 0 rfl) ?_
  refine lv_iload_n hx hb dL_law_1185 rfl (lv_at hl 3 rfl) ?_
  refine lv_iconst (v := (2 : Int32)) hx hb dL_law_1186 (by decide) ?_
  refine lv_iadd hx hb dL_law_1187 ?_
  refine va_sld hx hb hX hbl hbA hS hs2 dL_law_1188 ?_
  refine zCiS (r0 := r) (w1 := (wdX10_dearest cy bx (u 0) (u 3) (u 12) (u 34) (u 37) (u 41) (u 52) (u 59) (u 66) (u 67) (u 53) (u 54) (u 55) (u 56) (u 57) (u 58) (x_mesh_points xs) (x_mesh_edges xs) y0 y1 (x_mesh_ohms xs) (x_mesh_one xs) (x_mesh_other xs) y2 y3 y4)) (ws' := (wXS cy bx u (xs.1, xs.2.1, xs.2.2.1, xs.2.2.2.1, xs.2.2.2.2.1, xs.2.2.2.2.2.1, (xs.2.2.2.2.2.2.1.1, xs.2.2.2.2.2.2.1.2.1, xs.2.2.2.2.2.2.1.2.2.1, xs.2.2.2.2.2.2.1.2.2.2.1, xs.2.2.2.2.2.2.1.2.2.2.2.1, y2, y0, y1, y3, y4), xs.2.2.2.2.2.2.2) ++ wMS cy bm v ms)) (va_runV (As := [.int (sc (x3 + (1 : Int32)).toNatClampNeg), .int (sc (x3 + (2 : Int32)).toNatClampNeg)]) (rest := []) ⟨hx, hb, hml, hown, hts⟩ (mX10_dearest l D cy H.size bx (u 0) (u 3) (u 12) (u 34) (u 37) (u 41) (u 52) (u 59) (u 66) (u 67) (u 53) (u 54) (u 55) (u 56) (u 57) (u 58) (x_mesh_points xs) (x_mesh_edges xs) (x_mesh_worth_above xs) (x_mesh_worth_below xs) (x_mesh_ohms xs) (x_mesh_one xs) (x_mesh_other xs) (x_mesh_trees xs) (x_mesh_best_above xs) (x_mesh_best_below xs) (sc (x3 + (1 : Int32)).toNatClampNeg) (sc (x3 + (2 : Int32)).toNatClampNeg) (r, y0, y1, y2, y3, y4) hqx) (cwV 2 hts gl_X10_dearest rfl rfl rfl ⟨rfl, cdX10_dearest⟩ ⟨Nat.le_of_ble_eq_true rfl, Nat.le_of_ble_eq_true rfl⟩) (zPV hK hP hD [0, 53, 58, 56, 54, 55, 57, 59] rfl rfl (q0 := 0) (ci := 10) rfl rfl rfl) rfl rfl hl.1 rfl (lv_room (Nat.le_of_ble_eq_true rfl)) dL_law_1189 ⟨Nat.le_of_ble_eq_true rfl, Nat.le_of_ble_eq_true rfl⟩) hP hD hS hA [0, 53, 58, 56, 54, 55, 57, 59] rfl [1, 0, 0, 0, 0, 0, 0, 0, 0, 0, 0, 0, 0, 0, 0, 0, 0, 0, 0, 0, 0, 0, 0, 0, 0, 0, 0, 0, 0, 0, 0, 0, 0, 0, 0, 0, 0, 0, 0, 0, 0, 0, 0, 0, 0, 0, 0, 0, 0, 0, 0, 0, 0, 2, 5, 6, 4, 7, 3, 8, 0, 0, 0, 0, 0, 0, 0, 0, 0, 0, 0, 0, 0, 0, 0, 0, 0, 0, 0, 0, 0, 0, 0, 0, 0, 0, 0, 0, 0, 0, 0, 0, 0, 0, 0, 0, 0, 0, 0, 0, 0, 0, 0, 0, 0, 0, 0, 0, 0, 0, 0, 0, 0, 0, 0, 0, 0, 0, 0] rfl rfl rfl (fun H locs hP hD hS => ?_)
  refine lv_aload_n hx hb dL_law_1192 rfl (lv_at hl 2 rfl) ?_
  refine lv_aload_n hx hb dL_law_1193 rfl (lv_at hl 0 rfl) ?_
  refine lv_iload_n hx hb dL_law_1194 rfl (lv_at hl 3 rfl) ?_
  refine lv_iconst (v := (1 : Int32)) hx hb dL_law_1195 (by decide) ?_
  refine lv_iadd hx hb dL_law_1196 ?_
  refine va_sld hx hb hX hbl hbA hS hs1 dL_law_1197 ?_
  refine lv_aload_n hx hb dL_law_1198 rfl (lv_at hl 0 rfl) ?_
  refine lv_iload_n hx hb dL_law_1199 rfl (lv_at hl 3 rfl) ?_
  refine lv_iconst (v := (2 : Int32)) hx hb dL_law_1200 (by decide) ?_
  refine lv_iadd hx hb dL_law_1201 ?_
  refine va_sld hx hb hX hbl hbA hS hs2 dL_law_1202 ?_
  refine zCiS (r0 := r) (w1 := (wdX11_dearest cy bm (v 0) (v 1) (v 2) (v 3) (v 4) (v 5) (v 6) (v 7) (v 8) (v 9) (v 10) (v 11) (v 12) (v 13) (v 14) (v 15) (v 16) (v 17) (v 18) (v 19) (v 20) (v 21) (v 22) (m_hasImage ms) w0 w1 (m_orderMany ms) (m_waitMany ms) (m_seed ms) (m_size ms) (m_openMany ms) (m_paperMany ms) (m_reachMany ms) (m_now ms))) (ws' := (wXS cy bx u (xs.1, xs.2.1, xs.2.2.1, xs.2.2.2.1, xs.2.2.2.2.1, xs.2.2.2.2.2.1, (xs.2.2.2.2.2.2.1.1, xs.2.2.2.2.2.2.1.2.1, xs.2.2.2.2.2.2.1.2.2.1, xs.2.2.2.2.2.2.1.2.2.2.1, xs.2.2.2.2.2.2.1.2.2.2.2.1, y2, y0, y1, y3, y4), xs.2.2.2.2.2.2.2) ++ wMS cy bm v ((ms.1.1, w0, w1, ms.1.2.2.2), ms.2))) (va_runV (As := [.int (sc (x3 + (1 : Int32)).toNatClampNeg), .int (sc (x3 + (2 : Int32)).toNatClampNeg)]) (rest := [.int r]) ⟨hx, hb, hml, hown, hts⟩ (mX11_dearest l D cy H.size bm (v 0) (v 1) (v 2) (v 3) (v 4) (v 5) (v 6) (v 7) (v 8) (v 9) (v 10) (v 11) (v 12) (v 13) (v 14) (v 15) (v 16) (v 17) (v 18) (v 19) (v 20) (v 21) (v 22) (m_hasImage ms) (m_above ms) (m_below ms) (m_orderMany ms) (m_waitMany ms) (m_seed ms) (m_size ms) (m_openMany ms) (m_paperMany ms) (m_reachMany ms) (m_now ms) (sc (x3 + (1 : Int32)).toNatClampNeg) (sc (x3 + (2 : Int32)).toNatClampNeg) (r, w0, w1) hqm) (cwV 2 hts gl_X11_dearest rfl rfl rfl ⟨rfl, cdX11_dearest⟩ ⟨Nat.le_of_ble_eq_true rfl, Nat.le_of_ble_eq_true rfl⟩) (zPV hK hP hD [95, 96] rfl rfl (q0 := 95) (ci := 11) rfl rfl rfl) rfl rfl hl.1 rfl (lv_room (Nat.le_of_ble_eq_true rfl)) dL_law_1203 ⟨Nat.le_of_ble_eq_true rfl, Nat.le_of_ble_eq_true rfl⟩) hP hD hS hA [95, 96] rfl [0, 0, 0, 0, 0, 0, 0, 0, 0, 0, 0, 0, 0, 0, 0, 0, 0, 0, 0, 0, 0, 0, 0, 0, 0, 0, 0, 0, 0, 0, 0, 0, 0, 0, 0, 0, 0, 0, 0, 0, 0, 0, 0, 0, 0, 0, 0, 0, 0, 0, 0, 0, 0, 0, 0, 0, 0, 0, 0, 0, 0, 0, 0, 0, 0, 0, 0, 0, 0, 0, 0, 0, 0, 0, 0, 0, 0, 0, 0, 0, 0, 0, 0, 0, 0, 0, 0, 0, 0, 0, 0, 0, 0, 0, 0, 1, 2, 0, 0, 0, 0, 0, 0, 0, 0, 0, 0, 0, 0, 0, 0, 0, 0, 0, 0, 0, 0, 0, 0] rfl rfl rfl (fun H locs hP hD hS => ?_)
  refine lv_icmp_eq (tgt := 1498) hx hb dL_law_1206 (by decide) (fun _ => ?_) (fun hc => absurd rfl hc)
  exact kk _ _ hR2 H locs ls hP hD hS hl
set_option maxHeartbeats 4000000 in
set_option maxRecDepth 100000 in
theorem law_bridges {p : Program} {l : Launch} {e : Env} {s : State} {m : MethodId} {below : List Frame} {meth : Method} {c : Code} {D : va_G} {cy : Nat → ClassId} {b L : Nat} {sc : Nat → Int32} {A : Nat → Prop} {Z : State → Prop} {bx bm : Nat} {u v : Nat → Nat} (hx : p.tables.exec = Jvm.exec) (hb : c.code = cL_law) (hml : c.maxLocals = 4) (hown : s.vm.findClass RL = some m.cls) (hts : ∀ w ∈ lw_tbl, w.before #[Value.ref b] s = true) (hX : va_X b L sc s s.heap) (hbl : b < s.heap.size) (hbA : ¬ A b) (hA : ∀ q : Nat, s.heap.size ≤ q → A q) (hK : zK D cy s) {R : Nat → XS → MS → Prop} {k : Nat} (hq : zQ_bridges R k) {x3 : Int32} (hs : ∀ j : Nat, j < 7 → vp_in (x3 + nI j) L) (kk : ∀ (xs : XS) (ms : MS), R (k + 1) xs ms → ∀ (H : Heap) (locs : List Loc) (ls : Array Slot), va_P D vwCl (wXS cy bx u xs ++ wMS cy bm v ms) H → va_D A (wXS cy bx u xs ++ wMS cy bm v ms) → va_S A s.heap H locs → lv_has ls 4 [(0, .ref b), (1, .ref bx), (2, .ref bm), (3, .int x3)] → W p l e room_1 s m #[Value.ref b] below meth c H locs 119 29611 Z (F0 m 1498 ls [])) (xs : XS) (ms : MS) (hR : R k xs ms) (H : Heap) (locs : List Loc) (ls : Array Slot) (hP : va_P D vwCl (wXS cy bx u xs ++ wMS cy bm v ms) H) (hD : va_D A (wXS cy bx u xs ++ wMS cy bm v ms)) (hS : va_S A s.heap H locs) (hl : lv_has ls 4 [(0, .ref b), (1, .ref bx), (2, .ref bm), (3, .int x3)]) : W p l e room_1 s m #[Value.ref b] below meth c H locs 119 29611 Z (F0 m 1211 ls []) := by
  have hs1 : vp_in (x3 + (1 : Int32)) L := hs 1 (by decide)
  have hs2 : vp_in (x3 + (2 : Int32)) L := hs 2 (by decide)
  have hs3 : vp_in (x3 + (3 : Int32)) L := hs 3 (by decide)
  have hs4 : vp_in (x3 + (4 : Int32)) L := hs 4 (by decide)
  have hs5 : vp_in (x3 + (5 : Int32)) L := hs 5 (by decide)
  have hs6 : vp_in (x3 + (6 : Int32)) L := hs 6 (by decide)
  obtain ⟨r, xs2, ms2, hx2, hm2, hR2⟩ := hq xs ms hR (sc (x3 + (1 : Int32)).toNatClampNeg) (sc (x3 + (2 : Int32)).toNatClampNeg)
  obtain ⟨rx, hqx, hx2⟩ := zb1_s hx2
  cases hx2
  obtain ⟨rm, hqm, hm2⟩ := zb1_s hm2
  cases hm2
  refine lv_aload_n hx hb dL_law_1211 rfl (lv_at hl 1 rfl) ?_
  refine lv_aload_n hx hb dL_law_1212 rfl (lv_at hl 0 rfl) ?_
  refine lv_iload_n hx hb dL_law_1213 rfl (lv_at hl 3 rfl) ?_
  refine lv_iconst (v := (1 : Int32)) hx hb dL_law_1214 (by decide) ?_
  refine lv_iadd hx hb dL_law_1215 ?_
  refine va_sld hx hb hX hbl hbA hS hs1 dL_law_1216 ?_
  refine lv_aload_n hx hb dL_law_1217 rfl (lv_at hl 0 rfl) ?_
  refine lv_iload_n hx hb dL_law_1218 rfl (lv_at hl 3 rfl) ?_
  refine lv_iconst (v := (2 : Int32)) hx hb dL_law_1219 (by decide) ?_
  refine lv_iadd hx hb dL_law_1220 ?_
  refine va_sld hx hb hX hbl hbA hS hs2 dL_law_1221 ?_
  refine zCiS (r0 := r) (w1 := (wdX10_bridges cy bx (u 0) (u 3) (u 12) (u 34) (u 37) (u 41) (u 52) (u 59) (u 66) (u 67) (u 53) (u 54) (u 55) (u 56) (u 57) (u 58) (x_mesh_points xs) (x_mesh_edges xs) (x_mesh_ohms xs) (x_mesh_one xs) (x_mesh_other xs))) (ws' := (wXS cy bx u (xs) ++ wMS cy bm v ms)) (va_runV (As := [.int (sc (x3 + (1 : Int32)).toNatClampNeg), .int (sc (x3 + (2 : Int32)).toNatClampNeg)]) (rest := []) ⟨hx, hb, hml, hown, hts⟩ (mX10_bridges l D cy H.size bx (u 0) (u 3) (u 12) (u 34) (u 37) (u 41) (u 52) (u 59) (u 66) (u 67) (u 53) (u 54) (u 55) (u 56) (u 57) (u 58) (x_mesh_points xs) (x_mesh_edges xs) (x_mesh_ohms xs) (x_mesh_one xs) (x_mesh_other xs) (sc (x3 + (1 : Int32)).toNatClampNeg) (sc (x3 + (2 : Int32)).toNatClampNeg) r hqx) (cwV 2 hts gl_X10_bridges rfl rfl rfl ⟨rfl, cdX10_bridges⟩ ⟨Nat.le_of_ble_eq_true rfl, Nat.le_of_ble_eq_true rfl⟩) (zPV hK hP hD [0, 53, 56, 54, 55] rfl rfl (q0 := 0) (ci := 10) rfl rfl rfl) rfl rfl hl.1 rfl (lv_room (Nat.le_of_ble_eq_true rfl)) dL_law_1222 ⟨Nat.le_of_ble_eq_true rfl, Nat.le_of_ble_eq_true rfl⟩) hP hD hS hA [0, 53, 56, 54, 55] rfl [1, 0, 0, 0, 0, 0, 0, 0, 0, 0, 0, 0, 0, 0, 0, 0, 0, 0, 0, 0, 0, 0, 0, 0, 0, 0, 0, 0, 0, 0, 0, 0, 0, 0, 0, 0, 0, 0, 0, 0, 0, 0, 0, 0, 0, 0, 0, 0, 0, 0, 0, 0, 0, 2, 4, 5, 3, 0, 0, 0, 0, 0, 0, 0, 0, 0, 0, 0, 0, 0, 0, 0, 0, 0, 0, 0, 0, 0, 0, 0, 0, 0, 0, 0, 0, 0, 0, 0, 0, 0, 0, 0, 0, 0, 0, 0, 0, 0, 0, 0, 0, 0, 0, 0, 0, 0, 0, 0, 0, 0, 0, 0, 0, 0, 0, 0, 0, 0, 0] rfl rfl rfl (fun H locs hP hD hS => ?_)
  refine lv_aload_n hx hb dL_law_1225 rfl (lv_at hl 2 rfl) ?_
  refine lv_aload_n hx hb dL_law_1226 rfl (lv_at hl 0 rfl) ?_
  refine lv_iload_n hx hb dL_law_1227 rfl (lv_at hl 3 rfl) ?_
  refine lv_iconst (v := (1 : Int32)) hx hb dL_law_1228 (by decide) ?_
  refine lv_iadd hx hb dL_law_1229 ?_
  refine va_sld hx hb hX hbl hbA hS hs1 dL_law_1230 ?_
  refine lv_aload_n hx hb dL_law_1231 rfl (lv_at hl 0 rfl) ?_
  refine lv_iload_n hx hb dL_law_1232 rfl (lv_at hl 3 rfl) ?_
  refine lv_iconst (v := (2 : Int32)) hx hb dL_law_1233 (by decide) ?_
  refine lv_iadd hx hb dL_law_1234 ?_
  refine va_sld hx hb hX hbl hbA hS hs2 dL_law_1235 ?_
  refine zCiS (r0 := r) (w1 := (wdX11_bridges cy bm (v 0) (v 1) (v 2) (v 3) (v 4) (v 5) (v 6) (v 7) (v 8) (v 9) (v 10) (v 11) (v 12) (v 13) (v 14) (v 15) (v 16) (v 17) (v 18) (v 19) (v 20) (v 21) (v 22) (m_hasImage ms) (m_above ms) (m_below ms) (m_orderMany ms) (m_waitMany ms) (m_seed ms) (m_size ms) (m_openMany ms) (m_paperMany ms) (m_reachMany ms) (m_now ms))) (ws' := (wXS cy bx u (xs) ++ wMS cy bm v (ms))) (va_runV (As := [.int (sc (x3 + (1 : Int32)).toNatClampNeg), .int (sc (x3 + (2 : Int32)).toNatClampNeg)]) (rest := [.int r]) ⟨hx, hb, hml, hown, hts⟩ (mX11_bridges l D cy H.size bm (v 0) (v 1) (v 2) (v 3) (v 4) (v 5) (v 6) (v 7) (v 8) (v 9) (v 10) (v 11) (v 12) (v 13) (v 14) (v 15) (v 16) (v 17) (v 18) (v 19) (v 20) (v 21) (v 22) (m_hasImage ms) (m_above ms) (m_below ms) (m_orderMany ms) (m_waitMany ms) (m_seed ms) (m_size ms) (m_openMany ms) (m_paperMany ms) (m_reachMany ms) (m_now ms) (sc (x3 + (1 : Int32)).toNatClampNeg) (sc (x3 + (2 : Int32)).toNatClampNeg) r hqm) (cwV 2 hts gl_X11_bridges rfl rfl rfl ⟨rfl, cdX11_bridges⟩ ⟨Nat.le_of_ble_eq_true rfl, Nat.le_of_ble_eq_true rfl⟩) (zPV hK hP hD [95, 96] rfl rfl (q0 := 95) (ci := 11) rfl rfl rfl) rfl rfl hl.1 rfl (lv_room (Nat.le_of_ble_eq_true rfl)) dL_law_1236 ⟨Nat.le_of_ble_eq_true rfl, Nat.le_of_ble_eq_true rfl⟩) hP hD hS hA [95, 96] rfl [0, 0, 0, 0, 0, 0, 0, 0, 0, 0, 0, 0, 0, 0, 0, 0, 0, 0, 0, 0, 0, 0, 0, 0, 0, 0, 0, 0, 0, 0, 0, 0, 0, 0, 0, 0, 0, 0, 0, 0, 0, 0, 0, 0, 0, 0, 0, 0, 0, 0, 0, 0, 0, 0, 0, 0, 0, 0, 0, 0, 0, 0, 0, 0, 0, 0, 0, 0, 0, 0, 0, 0, 0, 0, 0, 0, 0, 0, 0, 0, 0, 0, 0, 0, 0, 0, 0, 0, 0, 0, 0, 0, 0, 0, 0, 1, 2, 0, 0, 0, 0, 0, 0, 0, 0, 0, 0, 0, 0, 0, 0, 0, 0, 0, 0, 0, 0, 0, 0] rfl rfl rfl (fun H locs hP hD hS => ?_)
  refine lv_icmp_eq (tgt := 1498) hx hb dL_law_1239 (by decide) (fun _ => ?_) (fun hc => absurd rfl hc)
  exact kk _ _ hR2 H locs ls hP hD hS hl
set_option maxHeartbeats 4000000 in
set_option maxRecDepth 100000 in
theorem law_ways {p : Program} {l : Launch} {e : Env} {s : State} {m : MethodId} {below : List Frame} {meth : Method} {c : Code} {D : va_G} {cy : Nat → ClassId} {b L : Nat} {sc : Nat → Int32} {A : Nat → Prop} {Z : State → Prop} {bx bm : Nat} {u v : Nat → Nat} (hx : p.tables.exec = Jvm.exec) (hb : c.code = cL_law) (hml : c.maxLocals = 4) (hown : s.vm.findClass RL = some m.cls) (hts : ∀ w ∈ lw_tbl, w.before #[Value.ref b] s = true) (hX : va_X b L sc s s.heap) (hbl : b < s.heap.size) (hbA : ¬ A b) (hA : ∀ q : Nat, s.heap.size ≤ q → A q) (hK : zK D cy s) {R : Nat → XS → MS → Prop} {k : Nat} (hq : zQ_ways R k) {x3 : Int32} (hs : ∀ j : Nat, j < 7 → vp_in (x3 + nI j) L) (kk : ∀ (xs : XS) (ms : MS), R (k + 1) xs ms → ∀ (H : Heap) (locs : List Loc) (ls : Array Slot), va_P D vwCl (wXS cy bx u xs ++ wMS cy bm v ms) H → va_D A (wXS cy bx u xs ++ wMS cy bm v ms) → va_S A s.heap H locs → lv_has ls 4 [(0, .ref b), (1, .ref bx), (2, .ref bm), (3, .int x3)] → W p l e room_1 s m #[Value.ref b] below meth c H locs 119 29611 Z (F0 m 1498 ls [])) (xs : XS) (ms : MS) (hR : R k xs ms) (H : Heap) (locs : List Loc) (ls : Array Slot) (hP : va_P D vwCl (wXS cy bx u xs ++ wMS cy bm v ms) H) (hD : va_D A (wXS cy bx u xs ++ wMS cy bm v ms)) (hS : va_S A s.heap H locs) (hl : lv_has ls 4 [(0, .ref b), (1, .ref bx), (2, .ref bm), (3, .int x3)]) : W p l e room_1 s m #[Value.ref b] below meth c H locs 119 29611 Z (F0 m 1244 ls []) := by
  have hs1 : vp_in (x3 + (1 : Int32)) L := hs 1 (by decide)
  have hs2 : vp_in (x3 + (2 : Int32)) L := hs 2 (by decide)
  have hs3 : vp_in (x3 + (3 : Int32)) L := hs 3 (by decide)
  have hs4 : vp_in (x3 + (4 : Int32)) L := hs 4 (by decide)
  have hs5 : vp_in (x3 + (5 : Int32)) L := hs 5 (by decide)
  have hs6 : vp_in (x3 + (6 : Int32)) L := hs 6 (by decide)
  obtain ⟨r, xs2, ms2, hx2, hm2, hR2⟩ := hq xs ms hR (sc (x3 + (1 : Int32)).toNatClampNeg)
  obtain ⟨rx, hqx, hx2⟩ := zb1_s hx2
  cases hx2
  obtain ⟨rm, hqm, hm2⟩ := zb1_s hm2
  cases hm2
  refine lv_aload_n hx hb dL_law_1244 rfl (lv_at hl 1 rfl) ?_
  refine lv_aload_n hx hb dL_law_1245 rfl (lv_at hl 0 rfl) ?_
  refine lv_iload_n hx hb dL_law_1246 rfl (lv_at hl 3 rfl) ?_
  refine lv_iconst (v := (1 : Int32)) hx hb dL_law_1247 (by decide) ?_
  refine lv_iadd hx hb dL_law_1248 ?_
  refine va_sld hx hb hX hbl hbA hS hs1 dL_law_1249 ?_
  refine zCiS (r0 := r) (w1 := (wdX10_ways cy bx (u 0) (u 3) (u 12) (u 34) (u 37) (u 41) (u 52) (u 59) (u 66) (u 67) (u 53) (u 54) (u 55) (u 56) (u 57) (u 58) (x_mesh_points xs) (x_mesh_edges xs) (x_mesh_ohms xs) (x_mesh_one xs) (x_mesh_other xs))) (ws' := (wXS cy bx u (xs) ++ wMS cy bm v ms)) (va_runV (As := [.int (sc (x3 + (1 : Int32)).toNatClampNeg)]) (rest := []) ⟨hx, hb, hml, hown, hts⟩ (mX10_ways l D cy H.size bx (u 0) (u 3) (u 12) (u 34) (u 37) (u 41) (u 52) (u 59) (u 66) (u 67) (u 53) (u 54) (u 55) (u 56) (u 57) (u 58) (x_mesh_points xs) (x_mesh_edges xs) (x_mesh_ohms xs) (x_mesh_one xs) (x_mesh_other xs) (sc (x3 + (1 : Int32)).toNatClampNeg) r hqx) (cwV 1 hts gl_X10_ways rfl rfl rfl ⟨rfl, cdX10_ways⟩ ⟨Nat.le_of_ble_eq_true rfl, Nat.le_of_ble_eq_true rfl⟩) (zPV hK hP hD [0, 53, 56, 54, 55] rfl rfl (q0 := 0) (ci := 10) rfl rfl rfl) rfl rfl hl.1 rfl (lv_room (Nat.le_of_ble_eq_true rfl)) dL_law_1250 ⟨Nat.le_of_ble_eq_true rfl, Nat.le_of_ble_eq_true rfl⟩) hP hD hS hA [0, 53, 56, 54, 55] rfl [1, 0, 0, 0, 0, 0, 0, 0, 0, 0, 0, 0, 0, 0, 0, 0, 0, 0, 0, 0, 0, 0, 0, 0, 0, 0, 0, 0, 0, 0, 0, 0, 0, 0, 0, 0, 0, 0, 0, 0, 0, 0, 0, 0, 0, 0, 0, 0, 0, 0, 0, 0, 0, 2, 4, 5, 3, 0, 0, 0, 0, 0, 0, 0, 0, 0, 0, 0, 0, 0, 0, 0, 0, 0, 0, 0, 0, 0, 0, 0, 0, 0, 0, 0, 0, 0, 0, 0, 0, 0, 0, 0, 0, 0, 0, 0, 0, 0, 0, 0, 0, 0, 0, 0, 0, 0, 0, 0, 0, 0, 0, 0, 0, 0, 0, 0, 0, 0, 0] rfl rfl rfl (fun H locs hP hD hS => ?_)
  refine lv_aload_n hx hb dL_law_1253 rfl (lv_at hl 2 rfl) ?_
  refine lv_aload_n hx hb dL_law_1254 rfl (lv_at hl 0 rfl) ?_
  refine lv_iload_n hx hb dL_law_1255 rfl (lv_at hl 3 rfl) ?_
  refine lv_iconst (v := (1 : Int32)) hx hb dL_law_1256 (by decide) ?_
  refine lv_iadd hx hb dL_law_1257 ?_
  refine va_sld hx hb hX hbl hbA hS hs1 dL_law_1258 ?_
  refine zCiS (r0 := r) (w1 := (wdX11_ways cy bm (v 0) (v 1) (v 2) (v 3) (v 4) (v 5) (v 6) (v 7) (v 8) (v 9) (v 10) (v 11) (v 12) (v 13) (v 14) (v 15) (v 16) (v 17) (v 18) (v 19) (v 20) (v 21) (v 22) (m_hasImage ms) (m_above ms) (m_below ms) (m_orderMany ms) (m_waitMany ms) (m_seed ms) (m_size ms) (m_openMany ms) (m_paperMany ms) (m_reachMany ms) (m_now ms))) (ws' := (wXS cy bx u (xs) ++ wMS cy bm v (ms))) (va_runV (As := [.int (sc (x3 + (1 : Int32)).toNatClampNeg)]) (rest := [.int r]) ⟨hx, hb, hml, hown, hts⟩ (mX11_ways l D cy H.size bm (v 0) (v 1) (v 2) (v 3) (v 4) (v 5) (v 6) (v 7) (v 8) (v 9) (v 10) (v 11) (v 12) (v 13) (v 14) (v 15) (v 16) (v 17) (v 18) (v 19) (v 20) (v 21) (v 22) (m_hasImage ms) (m_above ms) (m_below ms) (m_orderMany ms) (m_waitMany ms) (m_seed ms) (m_size ms) (m_openMany ms) (m_paperMany ms) (m_reachMany ms) (m_now ms) (sc (x3 + (1 : Int32)).toNatClampNeg) r hqm) (cwV 1 hts gl_X11_ways rfl rfl rfl ⟨rfl, cdX11_ways⟩ ⟨Nat.le_of_ble_eq_true rfl, Nat.le_of_ble_eq_true rfl⟩) (zPV hK hP hD [95, 96] rfl rfl (q0 := 95) (ci := 11) rfl rfl rfl) rfl rfl hl.1 rfl (lv_room (Nat.le_of_ble_eq_true rfl)) dL_law_1259 ⟨Nat.le_of_ble_eq_true rfl, Nat.le_of_ble_eq_true rfl⟩) hP hD hS hA [95, 96] rfl [0, 0, 0, 0, 0, 0, 0, 0, 0, 0, 0, 0, 0, 0, 0, 0, 0, 0, 0, 0, 0, 0, 0, 0, 0, 0, 0, 0, 0, 0, 0, 0, 0, 0, 0, 0, 0, 0, 0, 0, 0, 0, 0, 0, 0, 0, 0, 0, 0, 0, 0, 0, 0, 0, 0, 0, 0, 0, 0, 0, 0, 0, 0, 0, 0, 0, 0, 0, 0, 0, 0, 0, 0, 0, 0, 0, 0, 0, 0, 0, 0, 0, 0, 0, 0, 0, 0, 0, 0, 0, 0, 0, 0, 0, 0, 1, 2, 0, 0, 0, 0, 0, 0, 0, 0, 0, 0, 0, 0, 0, 0, 0, 0, 0, 0, 0, 0, 0, 0] rfl rfl rfl (fun H locs hP hD hS => ?_)
  refine lv_icmp_eq (tgt := 1498) hx hb dL_law_1262 (by decide) (fun _ => ?_) (fun hc => absurd rfl hc)
  exact kk _ _ hR2 H locs ls hP hD hS hl
