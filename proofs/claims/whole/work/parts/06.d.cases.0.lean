set_option maxHeartbeats 4000000 in
set_option maxRecDepth 100000 in
theorem law_sort {p : Program} {l : Launch} {e : Env} {s : State} {m : MethodId} {below : List Frame} {meth : Method} {c : Code} {D : va_G} {cy : Nat → ClassId} {b L : Nat} {sc : Nat → Int32} {A : Nat → Prop} {Z : State → Prop} {bx bm : Nat} {u v : Nat → Nat} (hx : p.tables.exec = Jvm.exec) (hb : c.code = cL_law) (hml : c.maxLocals = 4) (hown : s.vm.findClass RL = some m.cls) (hts : ∀ w ∈ lw_tbl, w.before #[Value.ref b] s = true) (hX : va_X b L sc s s.heap) (hbl : b < s.heap.size) (hbA : ¬ A b) (hA : ∀ q : Nat, s.heap.size ≤ q → A q) (hK : zK D cy s) {R : Nat → XS → MS → Prop} {k : Nat} (hq : zQ_sort R k) {x3 : Int32} (hs : ∀ j : Nat, j < 7 → vp_in (x3 + nI j) L) (kk : ∀ (xs : XS) (ms : MS), R (k + 1) xs ms → ∀ (H : Heap) (locs : List Loc) (ls : Array Slot), va_P D vwCl (wXS cy bx u xs ++ wMS cy bm v ms) H → va_D A (wXS cy bx u xs ++ wMS cy bm v ms) → va_S A s.heap H locs → lv_has ls 4 [(0, .ref b), (1, .ref bx), (2, .ref bm), (3, .int x3)] → W p l e room_1 s m #[Value.ref b] below meth c H locs 119 29611 Z (F0 m 1498 ls [])) (xs : XS) (ms : MS) (hR : R k xs ms) (H : Heap) (locs : List Loc) (ls : Array Slot) (hP : va_P D vwCl (wXS cy bx u xs ++ wMS cy bm v ms) H) (hD : va_D A (wXS cy bx u xs ++ wMS cy bm v ms)) (hS : va_S A s.heap H locs) (hl : lv_has ls 4 [(0, .ref b), (1, .ref bx), (2, .ref bm), (3, .int x3)]) : W p l e room_1 s m #[Value.ref b] below meth c H locs 119 29611 Z (F0 m 196 ls []) := by
  have hs1 : vp_in (x3 + (1 : Int32)) L := hs 1 (by decide)
  have hs2 : vp_in (x3 + (2 : Int32)) L := hs 2 (by decide)
  have hs3 : vp_in (x3 + (3 : Int32)) L := hs 3 (by decide)
  have hs4 : vp_in (x3 + (4 : Int32)) L := hs 4 (by decide)
  have hs5 : vp_in (x3 + (5 : Int32)) L := hs 5 (by decide)
  have hs6 : vp_in (x3 + (6 : Int32)) L := hs 6 (by decide)
  obtain ⟨r, xs2, ms2, hx2, hm2, hR2⟩ := hq xs ms hR (sc (x3 + (1 : Int32)).toNatClampNeg) (sc (x3 + (2 : Int32)).toNatClampNeg) (sc (x3 + (3 : Int32)).toNatClampNeg)
  obtain ⟨rx, y0, y1, hqx, hx2⟩ := zb3_s hx2
  cases hx2
  obtain ⟨rm, w0, hqm, hm2⟩ := zb2_s hm2
  cases hm2
  refine lv_aload_n hx hb dL_law_196 rfl (lv_at hl 1 rfl) ?_
  refine lv_aload_n hx hb dL_law_197 rfl (lv_at hl 0 rfl) ?_
  refine lv_iload_n hx hb dL_law_198 rfl (lv_at hl 3 rfl) ?_
  refine lv_iconst (v := (1 : Int32)) hx hb dL_law_199 (by decide) ?_
  refine lv_iadd hx hb dL_law_200 ?_
  refine va_sld hx hb hX hbl hbA hS hs1 dL_law_201 ?_
  refine lv_aload_n hx hb dL_law_202 rfl (lv_at hl 0 rfl) ?_
  refine lv_iload_n hx hb dL_law_203 rfl (lv_at hl 3 rfl) ?_
  refine lv_iconst (v := (2 : Int32)) hx hb dL_law_204 (by decide) ?_
  refine lv_iadd hx hb dL_law_205 ?_
  refine va_sld hx hb hX hbl hbA hS hs2 dL_law_206 ?_
  refine lv_aload_n hx hb dL_law_207 rfl (lv_at hl 0 rfl) ?_
  refine lv_iload_n hx hb dL_law_208 rfl (lv_at hl 3 rfl) ?_
  refine lv_iconst (v := (3 : Int32)) hx hb dL_law_209 (by decide) ?_
  refine lv_iadd hx hb dL_law_210 ?_
  refine va_sld hx hb hX hbl hbA hS hs3 dL_law_211 ?_
  refine zCiS (r0 := r) (w1 := (wdX10_sort cy bx (u 0) (u 3) (u 12) (u 34) (u 37) (u 41) (u 52) (u 59) (u 66) (u 67) (u 4) (u 5) (u 6) (u 7) (u 8) (u 9) (u 10) (u 11) (u 1) (u 2) (x_nets_count xs) (x_nets_kind xs) (x_nets_first xs) (x_nets_second xs) y0 y1)) (ws' := (wXS cy bx u ((y0, y1), xs.2) ++ wMS cy bm v ms)) (va_runV (As := [.int (sc (x3 + (1 : Int32)).toNatClampNeg), .int (sc (x3 + (2 : Int32)).toNatClampNeg), .int (sc (x3 + (3 : Int32)).toNatClampNeg)]) (rest := []) ⟨hx, hb, hml, hown, hts⟩ (mX10_sort l D cy H.size bx (u 0) (u 3) (u 12) (u 34) (u 37) (u 41) (u 52) (u 59) (u 66) (u 67) (u 4) (u 5) (u 6) (u 7) (u 8) (u 9) (u 10) (u 11) (u 1) (u 2) (x_nets_count xs) (x_nets_kind xs) (x_nets_first xs) (x_nets_second xs) (x_box_ohms xs) (x_box_spread xs) (sc (x3 + (1 : Int32)).toNatClampNeg) (sc (x3 + (2 : Int32)).toNatClampNeg) (sc (x3 + (3 : Int32)).toNatClampNeg) (r, y0, y1) hqx) (cwV 3 hts gl_X10_sort rfl rfl rfl ⟨rfl, cdX10_sort⟩ ⟨Nat.le_of_ble_eq_true rfl, Nat.le_of_ble_eq_true rfl⟩) (zPV hK hP hD [0, 4, 5, 6, 7, 1, 2, 3] rfl rfl (q0 := 0) (ci := 10) rfl rfl rfl) rfl rfl hl.1 rfl (lv_room (Nat.le_of_ble_eq_true rfl)) dL_law_212 ⟨Nat.le_of_ble_eq_true rfl, Nat.le_of_ble_eq_true rfl⟩) hP hD hS hA [0, 4, 5, 6, 7, 1, 2, 3] rfl [1, 6, 7, 8, 2, 3, 4, 5, 0, 0, 0, 0, 0, 0, 0, 0, 0, 0, 0, 0, 0, 0, 0, 0, 0, 0, 0, 0, 0, 0, 0, 0, 0, 0, 0, 0, 0, 0, 0, 0, 0, 0, 0, 0, 0, 0, 0, 0, 0, 0, 0, 0, 0, 0, 0, 0, 0, 0, 0, 0, 0, 0, 0, 0, 0, 0, 0, 0, 0, 0, 0, 0, 0, 0, 0, 0, 0, 0, 0, 0, 0, 0, 0, 0, 0, 0, 0, 0, 0, 0, 0, 0, 0, 0, 0, 0, 0, 0, 0, 0, 0, 0, 0, 0, 0, 0, 0, 0, 0, 0, 0, 0, 0, 0, 0, 0, 0, 0, 0] rfl rfl rfl (fun H locs hP hD hS => ?_)
  refine lv_aload_n hx hb dL_law_215 rfl (lv_at hl 2 rfl) ?_
  refine lv_aload_n hx hb dL_law_216 rfl (lv_at hl 0 rfl) ?_
  refine lv_iload_n hx hb dL_law_217 rfl (lv_at hl 3 rfl) ?_
  refine lv_iconst (v := (1 : Int32)) hx hb dL_law_218 (by decide) ?_
  refine lv_iadd hx hb dL_law_219 ?_
  refine va_sld hx hb hX hbl hbA hS hs1 dL_law_220 ?_
  refine lv_aload_n hx hb dL_law_221 rfl (lv_at hl 0 rfl) ?_
  refine lv_iload_n hx hb dL_law_222 rfl (lv_at hl 3 rfl) ?_
  refine lv_iconst (v := (2 : Int32)) hx hb dL_law_223 (by decide) ?_
  refine lv_iadd hx hb dL_law_224 ?_
  refine va_sld hx hb hX hbl hbA hS hs2 dL_law_225 ?_
  refine lv_aload_n hx hb dL_law_226 rfl (lv_at hl 0 rfl) ?_
  refine lv_iload_n hx hb dL_law_227 rfl (lv_at hl 3 rfl) ?_
  refine lv_iconst (v := (3 : Int32)) hx hb dL_law_228 (by decide) ?_
  refine lv_iadd hx hb dL_law_229 ?_
  refine va_sld hx hb hX hbl hbA hS hs3 dL_law_230 ?_
  refine zCiS (r0 := r) (w1 := (wdX11_sort cy bm (v 0) (v 1) (v 2) (v 3) (v 4) (v 5) (v 6) (v 7) (v 8) (v 9) (v 10) (v 11) (v 12) (v 13) (v 14) (v 15) (v 16) (v 17) (v 18) (v 19) (v 20) (v 21) (v 22) (m_hasImage ms) (m_above ms) (m_below ms) (m_orderMany ms) (m_waitMany ms) (m_seed ms) (m_size ms) (m_openMany ms) (m_paperMany ms) (m_reachMany ms) w0)) (ws' := (wXS cy bx u ((y0, y1), xs.2) ++ wMS cy bm v (ms.1, (ms.2.1.1, ms.2.1.2.1, ms.2.1.2.2.1, ms.2.1.2.2.2.1, w0, ms.2.1.2.2.2.2.2), ms.2.2))) (va_runV (As := [.int (sc (x3 + (1 : Int32)).toNatClampNeg), .int (sc (x3 + (2 : Int32)).toNatClampNeg), .int (sc (x3 + (3 : Int32)).toNatClampNeg)]) (rest := [.int r]) ⟨hx, hb, hml, hown, hts⟩ (mX11_sort l D cy H.size bm (v 0) (v 1) (v 2) (v 3) (v 4) (v 5) (v 6) (v 7) (v 8) (v 9) (v 10) (v 11) (v 12) (v 13) (v 14) (v 15) (v 16) (v 17) (v 18) (v 19) (v 20) (v 21) (v 22) (m_hasImage ms) (m_above ms) (m_below ms) (m_orderMany ms) (m_waitMany ms) (m_seed ms) (m_size ms) (m_openMany ms) (m_paperMany ms) (m_reachMany ms) (m_now ms) (sc (x3 + (1 : Int32)).toNatClampNeg) (sc (x3 + (2 : Int32)).toNatClampNeg) (sc (x3 + (3 : Int32)).toNatClampNeg) (r, w0) hqm) (cwV 3 hts gl_X11_sort rfl rfl rfl ⟨rfl, cdX11_sort⟩ ⟨Nat.le_of_ble_eq_true rfl, Nat.le_of_ble_eq_true rfl⟩) (zPV hK hP hD [95, 96] rfl rfl (q0 := 95) (ci := 11) rfl rfl rfl) rfl rfl hl.1 rfl (lv_room (Nat.le_of_ble_eq_true rfl)) dL_law_231 ⟨Nat.le_of_ble_eq_true rfl, Nat.le_of_ble_eq_true rfl⟩) hP hD hS hA [95, 96] rfl [0, 0, 0, 0, 0, 0, 0, 0, 0, 0, 0, 0, 0, 0, 0, 0, 0, 0, 0, 0, 0, 0, 0, 0, 0, 0, 0, 0, 0, 0, 0, 0, 0, 0, 0, 0, 0, 0, 0, 0, 0, 0, 0, 0, 0, 0, 0, 0, 0, 0, 0, 0, 0, 0, 0, 0, 0, 0, 0, 0, 0, 0, 0, 0, 0, 0, 0, 0, 0, 0, 0, 0, 0, 0, 0, 0, 0, 0, 0, 0, 0, 0, 0, 0, 0, 0, 0, 0, 0, 0, 0, 0, 0, 0, 0, 1, 2, 0, 0, 0, 0, 0, 0, 0, 0, 0, 0, 0, 0, 0, 0, 0, 0, 0, 0, 0, 0, 0, 0] rfl rfl rfl (fun H locs hP hD hS => ?_)
  refine lv_icmp_eq (tgt := 1498) hx hb dL_law_234 (by decide) (fun _ => ?_) (fun hc => absurd rfl hc)
  exact kk _ _ hR2 H locs ls hP hD hS hl
set_option maxHeartbeats 4000000 in
set_option maxRecDepth 100000 in
theorem law_ofSort {p : Program} {l : Launch} {e : Env} {s : State} {m : MethodId} {below : List Frame} {meth : Method} {c : Code} {D : va_G} {cy : Nat → ClassId} {b L : Nat} {sc : Nat → Int32} {A : Nat → Prop} {Z : State → Prop} {bx bm : Nat} {u v : Nat → Nat} (hx : p.tables.exec = Jvm.exec) (hb : c.code = cL_law) (hml : c.maxLocals = 4) (hown : s.vm.findClass RL = some m.cls) (hts : ∀ w ∈ lw_tbl, w.before #[Value.ref b] s = true) (hX : va_X b L sc s s.heap) (hbl : b < s.heap.size) (hbA : ¬ A b) (hA : ∀ q : Nat, s.heap.size ≤ q → A q) (hK : zK D cy s) {R : Nat → XS → MS → Prop} {k : Nat} (hq : zQ_ofSort R k) {x3 : Int32} (hs : ∀ j : Nat, j < 7 → vp_in (x3 + nI j) L) (kk : ∀ (xs : XS) (ms : MS), R (k + 1) xs ms → ∀ (H : Heap) (locs : List Loc) (ls : Array Slot), va_P D vwCl (wXS cy bx u xs ++ wMS cy bm v ms) H → va_D A (wXS cy bx u xs ++ wMS cy bm v ms) → va_S A s.heap H locs → lv_has ls 4 [(0, .ref b), (1, .ref bx), (2, .ref bm), (3, .int x3)] → W p l e room_1 s m #[Value.ref b] below meth c H locs 119 29611 Z (F0 m 1498 ls [])) (xs : XS) (ms : MS) (hR : R k xs ms) (H : Heap) (locs : List Loc) (ls : Array Slot) (hP : va_P D vwCl (wXS cy bx u xs ++ wMS cy bm v ms) H) (hD : va_D A (wXS cy bx u xs ++ wMS cy bm v ms)) (hS : va_S A s.heap H locs) (hl : lv_has ls 4 [(0, .ref b), (1, .ref bx), (2, .ref bm), (3, .int x3)]) : W p l e room_1 s m #[Value.ref b] below meth c H locs 119 29611 Z (F0 m 239 ls []) := by
  have hs1 : vp_in (x3 + (1 : Int32)) L := hs 1 (by decide)
  have hs2 : vp_in (x3 + (2 : Int32)) L := hs 2 (by decide)
  have hs3 : vp_in (x3 + (3 : Int32)) L := hs 3 (by decide)
  have hs4 : vp_in (x3 + (4 : Int32)) L := hs 4 (by decide)
  have hs5 : vp_in (x3 + (5 : Int32)) L := hs 5 (by decide)
  have hs6 : vp_in (x3 + (6 : Int32)) L := hs 6 (by decide)
  obtain ⟨r, xs2, ms2, hx2, hm2, hR2⟩ := hq xs ms hR (sc (x3 + (1 : Int32)).toNatClampNeg) (sc (x3 + (2 : Int32)).toNatClampNeg)
  obtain ⟨rx, hqx, hx2⟩ := zb1_s hx2
  cases hx2
  obtain ⟨rm, hqm, hm2⟩ := zb1_s hm2
  cases hm2
  refine lv_aload_n hx hb dL_law_239 rfl (lv_at hl 1 rfl) ?_
  refine lv_aload_n hx hb dL_law_240 rfl (lv_at hl 0 rfl) ?_
  refine lv_iload_n hx hb dL_law_241 rfl (lv_at hl 3 rfl) ?_
  refine lv_iconst (v := (1 : Int32)) hx hb dL_law_242 (by decide) ?_
  refine lv_iadd hx hb dL_law_243 ?_
  refine va_sld hx hb hX hbl hbA hS hs1 dL_law_244 ?_
  refine lv_aload_n hx hb dL_law_245 rfl (lv_at hl 0 rfl) ?_
  refine lv_iload_n hx hb dL_law_246 rfl (lv_at hl 3 rfl) ?_
  refine lv_iconst (v := (2 : Int32)) hx hb dL_law_247 (by decide) ?_
  refine lv_iadd hx hb dL_law_248 ?_
  refine va_sld hx hb hX hbl hbA hS hs2 dL_law_249 ?_
  refine zCiS (r0 := r) (w1 := (wdX10_ofSort cy bx (u 0) (u 3) (u 12) (u 34) (u 37) (u 41) (u 52) (u 59) (u 66) (u 67) (u 4) (u 5) (u 6) (u 7) (u 8) (u 9) (u 10) (u 11) (u 1) (u 2) (x_nets_count xs) (x_nets_kind xs) (x_nets_first xs) (x_nets_second xs) (x_box_spread xs) (x_box_ohms xs))) (ws' := (wXS cy bx u (xs) ++ wMS cy bm v ms)) (va_runV (As := [.int (sc (x3 + (1 : Int32)).toNatClampNeg), .int (sc (x3 + (2 : Int32)).toNatClampNeg)]) (rest := []) ⟨hx, hb, hml, hown, hts⟩ (mX10_ofSort l D cy H.size bx (u 0) (u 3) (u 12) (u 34) (u 37) (u 41) (u 52) (u 59) (u 66) (u 67) (u 4) (u 5) (u 6) (u 7) (u 8) (u 9) (u 10) (u 11) (u 1) (u 2) (x_nets_count xs) (x_nets_kind xs) (x_nets_first xs) (x_nets_second xs) (x_box_spread xs) (x_box_ohms xs) (sc (x3 + (1 : Int32)).toNatClampNeg) (sc (x3 + (2 : Int32)).toNatClampNeg) r hqx) (cwV 2 hts gl_X10_ofSort rfl rfl rfl ⟨rfl, cdX10_ofSort⟩ ⟨Nat.le_of_ble_eq_true rfl, Nat.le_of_ble_eq_true rfl⟩) (zPV hK hP hD [0, 4, 5, 6, 7, 1, 3, 2] rfl rfl (q0 := 0) (ci := 10) rfl rfl rfl) rfl rfl hl.1 rfl (lv_room (Nat.le_of_ble_eq_true rfl)) dL_law_250 ⟨Nat.le_of_ble_eq_true rfl, Nat.le_of_ble_eq_true rfl⟩) hP hD hS hA [0, 4, 5, 6, 7, 1, 3, 2] rfl [1, 6, 8, 7, 2, 3, 4, 5, 0, 0, 0, 0, 0, 0, 0, 0, 0, 0, 0, 0, 0, 0, 0, 0, 0, 0, 0, 0, 0, 0, 0, 0, 0, 0, 0, 0, 0, 0, 0, 0, 0, 0, 0, 0, 0, 0, 0, 0, 0, 0, 0, 0, 0, 0, 0, 0, 0, 0, 0, 0, 0, 0, 0, 0, 0, 0, 0, 0, 0, 0, 0, 0, 0, 0, 0, 0, 0, 0, 0, 0, 0, 0, 0, 0, 0, 0, 0, 0, 0, 0, 0, 0, 0, 0, 0, 0, 0, 0, 0, 0, 0, 0, 0, 0, 0, 0, 0, 0, 0, 0, 0, 0, 0, 0, 0, 0, 0, 0, 0] rfl rfl rfl (fun H locs hP hD hS => ?_)
  refine lv_aload_n hx hb dL_law_253 rfl (lv_at hl 2 rfl) ?_
  refine lv_aload_n hx hb dL_law_254 rfl (lv_at hl 0 rfl) ?_
  refine lv_iload_n hx hb dL_law_255 rfl (lv_at hl 3 rfl) ?_
  refine lv_iconst (v := (1 : Int32)) hx hb dL_law_256 (by decide) ?_
  refine lv_iadd hx hb dL_law_257 ?_
  refine va_sld hx hb hX hbl hbA hS hs1 dL_law_258 ?_
  refine lv_aload_n hx hb dL_law_259 rfl (lv_at hl 0 rfl) ?_
  refine lv_iload_n hx hb dL_law_260 rfl (lv_at hl 3 rfl) ?_
  refine lv_iconst (v := (2 : Int32)) hx hb dL_law_261 (by decide) ?_
  refine lv_iadd hx hb dL_law_262 ?_
  refine va_sld hx hb hX hbl hbA hS hs2 dL_law_263 ?_
  refine zCiS (r0 := r) (w1 := (wdX11_ofSort cy bm (v 0) (v 1) (v 2) (v 3) (v 4) (v 5) (v 6) (v 7) (v 8) (v 9) (v 10) (v 11) (v 12) (v 13) (v 14) (v 15) (v 16) (v 17) (v 18) (v 19) (v 20) (v 21) (v 22) (m_hasImage ms) (m_above ms) (m_below ms) (m_orderMany ms) (m_waitMany ms) (m_seed ms) (m_size ms) (m_openMany ms) (m_paperMany ms) (m_reachMany ms) (m_now ms))) (ws' := (wXS cy bx u (xs) ++ wMS cy bm v (ms))) (va_runV (As := [.int (sc (x3 + (1 : Int32)).toNatClampNeg), .int (sc (x3 + (2 : Int32)).toNatClampNeg)]) (rest := [.int r]) ⟨hx, hb, hml, hown, hts⟩ (mX11_ofSort l D cy H.size bm (v 0) (v 1) (v 2) (v 3) (v 4) (v 5) (v 6) (v 7) (v 8) (v 9) (v 10) (v 11) (v 12) (v 13) (v 14) (v 15) (v 16) (v 17) (v 18) (v 19) (v 20) (v 21) (v 22) (m_hasImage ms) (m_above ms) (m_below ms) (m_orderMany ms) (m_waitMany ms) (m_seed ms) (m_size ms) (m_openMany ms) (m_paperMany ms) (m_reachMany ms) (m_now ms) (sc (x3 + (1 : Int32)).toNatClampNeg) (sc (x3 + (2 : Int32)).toNatClampNeg) r hqm) (cwV 2 hts gl_X11_ofSort rfl rfl rfl ⟨rfl, cdX11_ofSort⟩ ⟨Nat.le_of_ble_eq_true rfl, Nat.le_of_ble_eq_true rfl⟩) (zPV hK hP hD [95, 96] rfl rfl (q0 := 95) (ci := 11) rfl rfl rfl) rfl rfl hl.1 rfl (lv_room (Nat.le_of_ble_eq_true rfl)) dL_law_264 ⟨Nat.le_of_ble_eq_true rfl, Nat.le_of_ble_eq_true rfl⟩) hP hD hS hA [95, 96] rfl [0, 0, 0, 0, 0, 0, 0, 0, 0, 0, 0, 0, 0, 0, 0, 0, 0, 0, 0, 0, 0, 0, 0, 0, 0, 0, 0, 0, 0, 0, 0, 0, 0, 0, 0, 0, 0, 0, 0, 0, 0, 0, 0, 0, 0, 0, 0, 0, 0, 0, 0, 0, 0, 0, 0, 0, 0, 0, 0, 0, 0, 0, 0, 0, 0, 0, 0, 0, 0, 0, 0, 0, 0, 0, 0, 0, 0, 0, 0, 0, 0, 0, 0, 0, 0, 0, 0, 0, 0, 0, 0, 0, 0, 0, 0, 1, 2, 0, 0, 0, 0, 0, 0, 0, 0, 0, 0, 0, 0, 0, 0, 0, 0, 0, 0, 0, 0, 0, 0] rfl rfl rfl (fun H locs hP hD hS => ?_)
  refine lv_icmp_eq (tgt := 1498) hx hb dL_law_267 (by decide) (fun _ => ?_) (fun hc => absurd rfl hc)
  exact kk _ _ hR2 H locs ls hP hD hS hl
set_option maxHeartbeats 4000000 in
set_option maxRecDepth 100000 in
theorem law_part {p : Program} {l : Launch} {e : Env} {s : State} {m : MethodId} {below : List Frame} {meth : Method} {c : Code} {D : va_G} {cy : Nat → ClassId} {b L : Nat} {sc : Nat → Int32} {A : Nat → Prop} {Z : State → Prop} {bx bm : Nat} {u v : Nat → Nat} (hx : p.tables.exec = Jvm.exec) (hb : c.code = cL_law) (hml : c.maxLocals = 4) (hown : s.vm.findClass RL = some m.cls) (hts : ∀ w ∈ lw_tbl, w.before #[Value.ref b] s = true) (hX : va_X b L sc s s.heap) (hbl : b < s.heap.size) (hbA : ¬ A b) (hA : ∀ q : Nat, s.heap.size ≤ q → A q) (hK : zK D cy s) {R : Nat → XS → MS → Prop} {k : Nat} (hq : zQ_part R k) {x3 : Int32} (hs : ∀ j : Nat, j < 7 → vp_in (x3 + nI j) L) (kk : ∀ (xs : XS) (ms : MS), R (k + 1) xs ms → ∀ (H : Heap) (locs : List Loc) (ls : Array Slot), va_P D vwCl (wXS cy bx u xs ++ wMS cy bm v ms) H → va_D A (wXS cy bx u xs ++ wMS cy bm v ms) → va_S A s.heap H locs → lv_has ls 4 [(0, .ref b), (1, .ref bx), (2, .ref bm), (3, .int x3)] → W p l e room_1 s m #[Value.ref b] below meth c H locs 119 29611 Z (F0 m 1498 ls [])) (xs : XS) (ms : MS) (hR : R k xs ms) (H : Heap) (locs : List Loc) (ls : Array Slot) (hP : va_P D vwCl (wXS cy bx u xs ++ wMS cy bm v ms) H) (hD : va_D A (wXS cy bx u xs ++ wMS cy bm v ms)) (hS : va_S A s.heap H locs) (hl : lv_has ls 4 [(0, .ref b), (1, .ref bx), (2, .ref bm), (3, .int x3)]) : W p l e room_1 s m #[Value.ref b] below meth c H locs 119 29611 Z (F0 m 272 ls []) := by
  have hs1 : vp_in (x3 + (1 : Int32)) L := hs 1 (by decide)
  have hs2 : vp_in (x3 + (2 : Int32)) L := hs 2 (by decide)
  have hs3 : vp_in (x3 + (3 : Int32)) L := hs 3 (by decide)
  have hs4 : vp_in (x3 + (4 : Int32)) L := hs 4 (by decide)
  have hs5 : vp_in (x3 + (5 : Int32)) L := hs 5 (by decide)
  have hs6 : vp_in (x3 + (6 : Int32)) L := hs 6 (by decide)
  obtain ⟨r, xs2, ms2, hx2, hm2, hR2⟩ := hq xs ms hR (sc (x3 + (1 : Int32)).toNatClampNeg)
  obtain ⟨rx, y0, y1, y2, y3, y4, hqx, hx2⟩ := zb6_s hx2
  cases hx2
  obtain ⟨rm, w0, hqm, hm2⟩ := zb2_s hm2
  cases hm2
  refine lv_aload_n hx hb dL_law_272 rfl (lv_at hl 1 rfl) ?_
  refine lv_aload_n hx hb dL_law_273 rfl (lv_at hl 0 rfl) ?_
  refine lv_iload_n hx hb dL_law_274 rfl (lv_at hl 3 rfl) ?_
  refine lv_iconst (v := (1 : Int32)) hx hb dL_law_275 (by decide) ?_
  refine lv_iadd hx hb dL_law_276 ?_
  refine va_sld hx hb hX hbl hbA hS hs1 dL_law_277 ?_
  refine zCiS (r0 := r) (w1 := (wdX10_part cy bx (u 0) (u 3) (u 12) (u 34) (u 37) (u 41) (u 52) (u 59) (u 66) (u 67) (u 1) (u 2) (u 4) (u 5) (u 6) (u 7) (u 8) (u 9) (u 10) (u 11) (x_box_ohms xs) y0 y1 y2 y3 y4)) (ws' := (wXS cy bx u (xs.1, (y0, y1, y2, y3, y4, xs.2.1.2.2.2.2.2), xs.2.2) ++ wMS cy bm v ms)) (va_runV (As := [.int (sc (x3 + (1 : Int32)).toNatClampNeg)]) (rest := []) ⟨hx, hb, hml, hown, hts⟩ (mX10_part l D cy H.size bx (u 0) (u 3) (u 12) (u 34) (u 37) (u 41) (u 52) (u 59) (u 66) (u 67) (u 1) (u 2) (u 4) (u 5) (u 6) (u 7) (u 8) (u 9) (u 10) (u 11) (x_box_ohms xs) (x_nets_count xs) (x_nets_kind xs) (x_nets_first xs) (x_nets_second xs) (x_nets_parts xs) (sc (x3 + (1 : Int32)).toNatClampNeg) (r, y0, y1, y2, y3, y4) hqx) (cwV 1 hts gl_X10_part rfl rfl rfl ⟨rfl, cdX10_part⟩ ⟨Nat.le_of_ble_eq_true rfl, Nat.le_of_ble_eq_true rfl⟩) (zPV hK hP hD [0, 1, 2, 4, 5, 6, 7, 8] rfl rfl (q0 := 0) (ci := 10) rfl rfl rfl) rfl rfl hl.1 rfl (lv_room (Nat.le_of_ble_eq_true rfl)) dL_law_278 ⟨Nat.le_of_ble_eq_true rfl, Nat.le_of_ble_eq_true rfl⟩) hP hD hS hA [0, 1, 2, 4, 5, 6, 7, 8] rfl [1, 2, 3, 0, 4, 5, 6, 7, 8, 0, 0, 0, 0, 0, 0, 0, 0, 0, 0, 0, 0, 0, 0, 0, 0, 0, 0, 0, 0, 0, 0, 0, 0, 0, 0, 0, 0, 0, 0, 0, 0, 0, 0, 0, 0, 0, 0, 0, 0, 0, 0, 0, 0, 0, 0, 0, 0, 0, 0, 0, 0, 0, 0, 0, 0, 0, 0, 0, 0, 0, 0, 0, 0, 0, 0, 0, 0, 0, 0, 0, 0, 0, 0, 0, 0, 0, 0, 0, 0, 0, 0, 0, 0, 0, 0, 0, 0, 0, 0, 0, 0, 0, 0, 0, 0, 0, 0, 0, 0, 0, 0, 0, 0, 0, 0, 0, 0, 0, 0] rfl rfl rfl (fun H locs hP hD hS => ?_)
  refine lv_aload_n hx hb dL_law_281 rfl (lv_at hl 2 rfl) ?_
  refine lv_aload_n hx hb dL_law_282 rfl (lv_at hl 0 rfl) ?_
  refine lv_iload_n hx hb dL_law_283 rfl (lv_at hl 3 rfl) ?_
  refine lv_iconst (v := (1 : Int32)) hx hb dL_law_284 (by decide) ?_
  refine lv_iadd hx hb dL_law_285 ?_
  refine va_sld hx hb hX hbl hbA hS hs1 dL_law_286 ?_
  refine zCiS (r0 := r) (w1 := (wdX11_part cy bm (v 0) (v 1) (v 2) (v 3) (v 4) (v 5) (v 6) (v 7) (v 8) (v 9) (v 10) (v 11) (v 12) (v 13) (v 14) (v 15) (v 16) (v 17) (v 18) (v 19) (v 20) (v 21) (v 22) (m_hasImage ms) (m_above ms) (m_below ms) (m_orderMany ms) (m_waitMany ms) (m_seed ms) (m_size ms) (m_openMany ms) (m_paperMany ms) (m_reachMany ms) w0)) (ws' := (wXS cy bx u (xs.1, (y0, y1, y2, y3, y4, xs.2.1.2.2.2.2.2), xs.2.2) ++ wMS cy bm v (ms.1, (ms.2.1.1, ms.2.1.2.1, ms.2.1.2.2.1, ms.2.1.2.2.2.1, w0, ms.2.1.2.2.2.2.2), ms.2.2))) (va_runV (As := [.int (sc (x3 + (1 : Int32)).toNatClampNeg)]) (rest := [.int r]) ⟨hx, hb, hml, hown, hts⟩ (mX11_part l D cy H.size bm (v 0) (v 1) (v 2) (v 3) (v 4) (v 5) (v 6) (v 7) (v 8) (v 9) (v 10) (v 11) (v 12) (v 13) (v 14) (v 15) (v 16) (v 17) (v 18) (v 19) (v 20) (v 21) (v 22) (m_hasImage ms) (m_above ms) (m_below ms) (m_orderMany ms) (m_waitMany ms) (m_seed ms) (m_size ms) (m_openMany ms) (m_paperMany ms) (m_reachMany ms) (m_now ms) (sc (x3 + (1 : Int32)).toNatClampNeg) (r, w0) hqm) (cwV 1 hts gl_X11_part rfl rfl rfl ⟨rfl, cdX11_part⟩ ⟨Nat.le_of_ble_eq_true rfl, Nat.le_of_ble_eq_true rfl⟩) (zPV hK hP hD [95, 96] rfl rfl (q0 := 95) (ci := 11) rfl rfl rfl) rfl rfl hl.1 rfl (lv_room (Nat.le_of_ble_eq_true rfl)) dL_law_287 ⟨Nat.le_of_ble_eq_true rfl, Nat.le_of_ble_eq_true rfl⟩) hP hD hS hA [95, 96] rfl [0, 0, 0, 0, 0, 0, 0, 0, 0, 0, 0, 0, 0, 0, 0, 0, 0, 0, 0, 0, 0, 0, 0, 0, 0, 0, 0, 0, 0, 0, 0, 0, 0, 0, 0, 0, 0, 0, 0, 0, 0, 0, 0, 0, 0, 0, 0, 0, 0, 0, 0, 0, 0, 0, 0, 0, 0, 0, 0, 0, 0, 0, 0, 0, 0, 0, 0, 0, 0, 0, 0, 0, 0, 0, 0, 0, 0, 0, 0, 0, 0, 0, 0, 0, 0, 0, 0, 0, 0, 0, 0, 0, 0, 0, 0, 1, 2, 0, 0, 0, 0, 0, 0, 0, 0, 0, 0, 0, 0, 0, 0, 0, 0, 0, 0, 0, 0, 0, 0] rfl rfl rfl (fun H locs hP hD hS => ?_)
  refine lv_icmp_eq (tgt := 1498) hx hb dL_law_290 (by decide) (fun _ => ?_) (fun hc => absurd rfl hc)
  exact kk _ _ hR2 H locs ls hP hD hS hl
set_option maxHeartbeats 4000000 in
set_option maxRecDepth 100000 in
theorem law_join {p : Program} {l : Launch} {e : Env} {s : State} {m : MethodId} {below : List Frame} {meth : Method} {c : Code} {D : va_G} {cy : Nat → ClassId} {b L : Nat} {sc : Nat → Int32} {A : Nat → Prop} {Z : State → Prop} {bx bm : Nat} {u v : Nat → Nat} (hx : p.tables.exec = Jvm.exec) (hb : c.code = cL_law) (hml : c.maxLocals = 4) (hown : s.vm.findClass RL = some m.cls) (hts : ∀ w ∈ lw_tbl, w.before #[Value.ref b] s = true) (hX : va_X b L sc s s.heap) (hbl : b < s.heap.size) (hbA : ¬ A b) (hA : ∀ q : Nat, s.heap.size ≤ q → A q) (hK : zK D cy s) {R : Nat → XS → MS → Prop} {k : Nat} (hq : zQ_join R k) {x3 : Int32} (hs : ∀ j : Nat, j < 7 → vp_in (x3 + nI j) L) (kk : ∀ (xs : XS) (ms : MS), R (k + 1) xs ms → ∀ (H : Heap) (locs : List Loc) (ls : Array Slot), va_P D vwCl (wXS cy bx u xs ++ wMS cy bm v ms) H → va_D A (wXS cy bx u xs ++ wMS cy bm v ms) → va_S A s.heap H locs → lv_has ls 4 [(0, .ref b), (1, .ref bx), (2, .ref bm), (3, .int x3)] → W p l e room_1 s m #[Value.ref b] below meth c H locs 119 29611 Z (F0 m 1498 ls [])) (xs : XS) (ms : MS) (hR : R k xs ms) (H : Heap) (locs : List Loc) (ls : Array Slot) (hP : va_P D vwCl (wXS cy bx u xs ++ wMS cy bm v ms) H) (hD : va_D A (wXS cy bx u xs ++ wMS cy bm v ms)) (hS : va_S A s.heap H locs) (hl : lv_has ls 4 [(0, .ref b), (1, .ref bx), (2, .ref bm), (3, .int x3)]) : W p l e room_1 s m #[Value.ref b] below meth c H locs 119 29611 Z (F0 m 295 ls []) := by
  have hs1 : vp_in (x3 + (1 : Int32)) L := hs 1 (by decide)
  have hs2 : vp_in (x3 + (2 : Int32)) L := hs 2 (by decide)
  have hs3 : vp_in (x3 + (3 : Int32)) L := hs 3 (by decide)
  have hs4 : vp_in (x3 + (4 : Int32)) L := hs 4 (by decide)
  have hs5 : vp_in (x3 + (5 : Int32)) L := hs 5 (by decide)
  have hs6 : vp_in (x3 + (6 : Int32)) L := hs 6 (by decide)
  obtain ⟨r, xs2, ms2, hx2, hm2, hR2⟩ := hq xs ms hR (sc (x3 + (1 : Int32)).toNatClampNeg) (sc (x3 + (2 : Int32)).toNatClampNeg) (sc (x3 + (3 : Int32)).toNatClampNeg)
  obtain ⟨rx, y0, y1, y2, y3, y4, hqx, hx2⟩ := zb6_s hx2
  cases hx2
  obtain ⟨rm, w0, hqm, hm2⟩ := zb2_s hm2
  cases hm2
  refine lv_aload_n hx hb dL_law_295 rfl (lv_at hl 1 rfl) ?_
  refine lv_aload_n hx hb dL_law_296 rfl (lv_at hl 0 rfl) ?_
  refine lv_iload_n hx hb dL_law_297 rfl (lv_at hl 3 rfl) ?_
  refine lv_iconst (v := (1 : Int32)) hx hb dL_law_298 (by decide) ?_
  refine lv_iadd hx hb dL_law_299 ?_
  refine va_sld hx hb hX hbl hbA hS hs1 dL_law_300 ?_
  refine lv_aload_n hx hb dL_law_301 rfl (lv_at hl 0 rfl) ?_
  refine lv_iload_n hx hb dL_law_302 rfl (lv_at hl 3 rfl) ?_
  refine lv_iconst (v := (2 : Int32)) hx hb dL_law_303 (by decide) ?_
  refine lv_iadd hx hb dL_law_304 ?_
  refine va_sld hx hb hX hbl hbA hS hs2 dL_law_305 ?_
  refine lv_aload_n hx hb dL_law_306 rfl (lv_at hl 0 rfl) ?_
  refine lv_iload_n hx hb dL_law_307 rfl (lv_at hl 3 rfl) ?_
  refine lv_iconst (v := (3 : Int32)) hx hb dL_law_308 (by decide) ?_
  refine lv_iadd hx hb dL_law_309 ?_
  refine va_sld hx hb hX hbl hbA hS hs3 dL_law_310 ?_
  refine zCiS (r0 := r) (w1 := (wdX10_join cy bx (u 0) (u 3) (u 12) (u 34) (u 37) (u 41) (u 52) (u 59) (u 66) (u 67) (u 4) (u 5) (u 6) (u 7) (u 8) (u 9) (u 10) (u 11) y0 y1 y2 y3 y4)) (ws' := (wXS cy bx u (xs.1, (y0, y2, y3, y4, y1, xs.2.1.2.2.2.2.2), xs.2.2) ++ wMS cy bm v ms)) (va_runV (As := [.int (sc (x3 + (1 : Int32)).toNatClampNeg), .int (sc (x3 + (2 : Int32)).toNatClampNeg), .int (sc (x3 + (3 : Int32)).toNatClampNeg)]) (rest := []) ⟨hx, hb, hml, hown, hts⟩ (mX10_join l D cy H.size bx (u 0) (u 3) (u 12) (u 34) (u 37) (u 41) (u 52) (u 59) (u 66) (u 67) (u 4) (u 5) (u 6) (u 7) (u 8) (u 9) (u 10) (u 11) (x_nets_count xs) (x_nets_parts xs) (x_nets_kind xs) (x_nets_first xs) (x_nets_second xs) (sc (x3 + (1 : Int32)).toNatClampNeg) (sc (x3 + (2 : Int32)).toNatClampNeg) (sc (x3 + (3 : Int32)).toNatClampNeg) (r, y0, y1, y2, y3, y4) hqx) (cwV 3 hts gl_X10_join rfl rfl rfl ⟨rfl, cdX10_join⟩ ⟨Nat.le_of_ble_eq_true rfl, Nat.le_of_ble_eq_true rfl⟩) (zPV hK hP hD [0, 4, 8, 5, 6, 7] rfl rfl (q0 := 0) (ci := 10) rfl rfl rfl) rfl rfl hl.1 rfl (lv_room (Nat.le_of_ble_eq_true rfl)) dL_law_311 ⟨Nat.le_of_ble_eq_true rfl, Nat.le_of_ble_eq_true rfl⟩) hP hD hS hA [0, 4, 8, 5, 6, 7] rfl [1, 0, 0, 0, 2, 4, 5, 6, 3, 0, 0, 0, 0, 0, 0, 0, 0, 0, 0, 0, 0, 0, 0, 0, 0, 0, 0, 0, 0, 0, 0, 0, 0, 0, 0, 0, 0, 0, 0, 0, 0, 0, 0, 0, 0, 0, 0, 0, 0, 0, 0, 0, 0, 0, 0, 0, 0, 0, 0, 0, 0, 0, 0, 0, 0, 0, 0, 0, 0, 0, 0, 0, 0, 0, 0, 0, 0, 0, 0, 0, 0, 0, 0, 0, 0, 0, 0, 0, 0, 0, 0, 0, 0, 0, 0, 0, 0, 0, 0, 0, 0, 0, 0, 0, 0, 0, 0, 0, 0, 0, 0, 0, 0, 0, 0, 0, 0, 0, 0] rfl rfl rfl (fun H locs hP hD hS => ?_)
  refine lv_aload_n hx hb dL_law_314 rfl (lv_at hl 2 rfl) ?_
  refine lv_aload_n hx hb dL_law_315 rfl (lv_at hl 0 rfl) ?_
  refine lv_iload_n hx hb dL_law_316 rfl (lv_at hl 3 rfl) ?_
  refine lv_iconst (v := (1 : Int32)) hx hb dL_law_317 (by decide) ?_
  refine lv_iadd hx hb dL_law_318 ?_
  refine va_sld hx hb hX hbl hbA hS hs1 dL_law_319 ?_
  refine lv_aload_n hx hb dL_law_320 rfl (lv_at hl 0 rfl) ?_
  refine lv_iload_n hx hb dL_law_321 rfl (lv_at hl 3 rfl) ?_
  refine lv_iconst (v := (2 : Int32)) hx hb dL_law_322 (by decide) ?_
  refine lv_iadd hx hb dL_law_323 ?_
  refine va_sld hx hb hX hbl hbA hS hs2 dL_law_324 ?_
  refine lv_aload_n hx hb dL_law_325 rfl (lv_at hl 0 rfl) ?_
  refine lv_iload_n hx hb dL_law_326 rfl (lv_at hl 3 rfl) ?_
  refine lv_iconst (v := (3 : Int32)) hx hb dL_law_327 (by decide) ?_
  refine lv_iadd hx hb dL_law_328 ?_
  refine va_sld hx hb hX hbl hbA hS hs3 dL_law_329 ?_
  refine zCiS (r0 := r) (w1 := (wdX11_join cy bm (v 0) (v 1) (v 2) (v 3) (v 4) (v 5) (v 6) (v 7) (v 8) (v 9) (v 10) (v 11) (v 12) (v 13) (v 14) (v 15) (v 16) (v 17) (v 18) (v 19) (v 20) (v 21) (v 22) (m_hasImage ms) (m_above ms) (m_below ms) (m_orderMany ms) (m_waitMany ms) (m_seed ms) (m_size ms) (m_openMany ms) (m_paperMany ms) (m_reachMany ms) w0)) (ws' := (wXS cy bx u (xs.1, (y0, y2, y3, y4, y1, xs.2.1.2.2.2.2.2), xs.2.2) ++ wMS cy bm v (ms.1, (ms.2.1.1, ms.2.1.2.1, ms.2.1.2.2.1, ms.2.1.2.2.2.1, w0, ms.2.1.2.2.2.2.2), ms.2.2))) (va_runV (As := [.int (sc (x3 + (1 : Int32)).toNatClampNeg), .int (sc (x3 + (2 : Int32)).toNatClampNeg), .int (sc (x3 + (3 : Int32)).toNatClampNeg)]) (rest := [.int r]) ⟨hx, hb, hml, hown, hts⟩ (mX11_join l D cy H.size bm (v 0) (v 1) (v 2) (v 3) (v 4) (v 5) (v 6) (v 7) (v 8) (v 9) (v 10) (v 11) (v 12) (v 13) (v 14) (v 15) (v 16) (v 17) (v 18) (v 19) (v 20) (v 21) (v 22) (m_hasImage ms) (m_above ms) (m_below ms) (m_orderMany ms) (m_waitMany ms) (m_seed ms) (m_size ms) (m_openMany ms) (m_paperMany ms) (m_reachMany ms) (m_now ms) (sc (x3 + (1 : Int32)).toNatClampNeg) (sc (x3 + (2 : Int32)).toNatClampNeg) (sc (x3 + (3 : Int32)).toNatClampNeg) (r, w0) hqm) (cwV 3 hts gl_X11_join rfl rfl rfl ⟨rfl, cdX11_join⟩ ⟨Nat.le_of_ble_eq_true rfl, Nat.le_of_ble_eq_true rfl⟩) (zPV hK hP hD [95, 96] rfl rfl (q0 := 95) (ci := 11) rfl rfl rfl) rfl rfl hl.1 rfl (lv_room (Nat.le_of_ble_eq_true rfl)) dL_law_330 ⟨Nat.le_of_ble_eq_true rfl, Nat.le_of_ble_eq_true rfl⟩) hP hD hS hA [95, 96] rfl [0, 0, 0, 0, 0, 0, 0, 0, 0, 0, 0, 0, 0, 0, 0, 0, 0, 0, 0, 0, 0, 0, 0, 0, 0, 0, 0, 0, 0, 0, 0, 0, 0, 0, 0, 0, 0, 0, 0, 0, 0, 0, 0, 0, 0, 0, 0, 0, 0, 0, 0, 0, 0, 0, 0, 0, 0, 0, 0, 0, 0, 0, 0, 0, 0, 0, 0, 0, 0, 0, 0, 0, 0, 0, 0, 0, 0, 0, 0, 0, 0, 0, 0, 0, 0, 0, 0, 0, 0, 0, 0, 0, 0, 0, 0, 1, 2, 0, 0, 0, 0, 0, 0, 0, 0, 0, 0, 0, 0, 0, 0, 0, 0, 0, 0, 0, 0, 0, 0] rfl rfl rfl (fun H locs hP hD hS => ?_)
  refine lv_icmp_eq (tgt := 1498) hx hb dL_law_333 (by decide) (fun _ => ?_) (fun hc => absurd rfl hc)
  exact kk _ _ hR2 H locs ls hP hD hS hl
set_option maxHeartbeats 4000000 in
set_option maxRecDepth 100000 in
theorem law_net {p : Program} {l : Launch} {e : Env} {s : State} {m : MethodId} {below : List Frame} {meth : Method} {c : Code} {D : va_G} {cy : Nat → ClassId} {b L : Nat} {sc : Nat → Int32} {A : Nat → Prop} {Z : State → Prop} {bx bm : Nat} {u v : Nat → Nat} (hx : p.tables.exec = Jvm.exec) (hb : c.code = cL_law) (hml : c.maxLocals = 4) (hown : s.vm.findClass RL = some m.cls) (hts : ∀ w ∈ lw_tbl, w.before #[Value.ref b] s = true) (hX : va_X b L sc s s.heap) (hbl : b < s.heap.size) (hbA : ¬ A b) (hA : ∀ q : Nat, s.heap.size ≤ q → A q) (hK : zK D cy s) {R : Nat → XS → MS → Prop} {k : Nat} (hq : zQ_net R k) {x3 : Int32} (hs : ∀ j : Nat, j < 7 → vp_in (x3 + nI j) L) (kk : ∀ (xs : XS) (ms : MS), R (k + 1) xs ms → ∀ (H : Heap) (locs : List Loc) (ls : Array Slot), va_P D vwCl (wXS cy bx u xs ++ wMS cy bm v ms) H → va_D A (wXS cy bx u xs ++ wMS cy bm v ms) → va_S A s.heap H locs → lv_has ls 4 [(0, .ref b), (1, .ref bx), (2, .ref bm), (3, .int x3)] → W p l e room_1 s m #[Value.ref b] below meth c H locs 119 29611 Z (F0 m 1498 ls [])) (xs : XS) (ms : MS) (hR : R k xs ms) (H : Heap) (locs : List Loc) (ls : Array Slot) (hP : va_P D vwCl (wXS cy bx u xs ++ wMS cy bm v ms) H) (hD : va_D A (wXS cy bx u xs ++ wMS cy bm v ms)) (hS : va_S A s.heap H locs) (hl : lv_has ls 4 [(0, .ref b), (1, .ref bx), (2, .ref bm), (3, .int x3)]) : W p l e room_1 s m #[Value.ref b] below meth c H locs 119 29611 Z (F0 m 338 ls []) := by
  have hs1 : vp_in (x3 + (1 : Int32)) L := hs 1 (by decide)
  have hs2 : vp_in (x3 + (2 : Int32)) L := hs 2 (by decide)
  have hs3 : vp_in (x3 + (3 : Int32)) L := hs 3 (by decide)
  have hs4 : vp_in (x3 + (4 : Int32)) L := hs 4 (by decide)
  have hs5 : vp_in (x3 + (5 : Int32)) L := hs 5 (by decide)
  have hs6 : vp_in (x3 + (6 : Int32)) L := hs 6 (by decide)
  obtain ⟨r, xs2, ms2, hx2, hm2, hR2⟩ := hq xs ms hR (sc (x3 + (1 : Int32)).toNatClampNeg) (sc (x3 + (2 : Int32)).toNatClampNeg)
  obtain ⟨rx, hqx, hx2⟩ := zb1_s hx2
  cases hx2
  obtain ⟨rm, hqm, hm2⟩ := zb1_s hm2
  cases hm2
  refine lv_aload_n hx hb dL_law_338 rfl (lv_at hl 1 rfl) ?_
  refine lv_aload_n hx hb dL_law_339 rfl (lv_at hl 0 rfl) ?_
  refine lv_iload_n hx hb dL_law_340 rfl (lv_at hl 3 rfl) ?_
  refine lv_iconst (v := (1 : Int32)) hx hb dL_law_341 (by decide) ?_
  refine lv_iadd hx hb dL_law_342 ?_
  refine va_sld hx hb hX hbl hbA hS hs1 dL_law_343 ?_
  refine lv_aload_n hx hb dL_law_344 rfl (lv_at hl 0 rfl) ?_
  refine lv_iload_n hx hb dL_law_345 rfl (lv_at hl 3 rfl) ?_
  refine lv_iconst (v := (2 : Int32)) hx hb dL_law_346 (by decide) ?_
  refine lv_iadd hx hb dL_law_347 ?_
  refine va_sld hx hb hX hbl hbA hS hs2 dL_law_348 ?_
  refine zCiS (r0 := r) (w1 := (wdX10_net cy bx (u 0) (u 3) (u 12) (u 34) (u 37) (u 41) (u 52) (u 59) (u 66) (u 67) (u 4) (u 5) (u 6) (u 7) (u 8) (u 9) (u 10) (u 11) (x_nets_count xs) (x_nets_kind xs) (x_nets_first xs) (x_nets_second xs) (x_nets_parts xs))) (ws' := (wXS cy bx u (xs) ++ wMS cy bm v ms)) (va_runV (As := [.int (sc (x3 + (1 : Int32)).toNatClampNeg), .int (sc (x3 + (2 : Int32)).toNatClampNeg)]) (rest := []) ⟨hx, hb, hml, hown, hts⟩ (mX10_net l D cy H.size bx (u 0) (u 3) (u 12) (u 34) (u 37) (u 41) (u 52) (u 59) (u 66) (u 67) (u 4) (u 5) (u 6) (u 7) (u 8) (u 9) (u 10) (u 11) (x_nets_count xs) (x_nets_kind xs) (x_nets_first xs) (x_nets_second xs) (x_nets_parts xs) (sc (x3 + (1 : Int32)).toNatClampNeg) (sc (x3 + (2 : Int32)).toNatClampNeg) r hqx) (cwV 2 hts gl_X10_net rfl rfl rfl ⟨rfl, cdX10_net⟩ ⟨Nat.le_of_ble_eq_true rfl, Nat.le_of_ble_eq_true rfl⟩) (zPV hK hP hD [0, 4, 5, 6, 7, 8] rfl rfl (q0 := 0) (ci := 10) rfl rfl rfl) rfl rfl hl.1 rfl (lv_room (Nat.le_of_ble_eq_true rfl)) dL_law_349 ⟨Nat.le_of_ble_eq_true rfl, Nat.le_of_ble_eq_true rfl⟩) hP hD hS hA [0, 4, 5, 6, 7, 8] rfl [1, 0, 0, 0, 2, 3, 4, 5, 6, 0, 0, 0, 0, 0, 0, 0, 0, 0, 0, 0, 0, 0, 0, 0, 0, 0, 0, 0, 0, 0, 0, 0, 0, 0, 0, 0, 0, 0, 0, 0, 0, 0, 0, 0, 0, 0, 0, 0, 0, 0, 0, 0, 0, 0, 0, 0, 0, 0, 0, 0, 0, 0, 0, 0, 0, 0, 0, 0, 0, 0, 0, 0, 0, 0, 0, 0, 0, 0, 0, 0, 0, 0, 0, 0, 0, 0, 0, 0, 0, 0, 0, 0, 0, 0, 0, 0, 0, 0, 0, 0, 0, 0, 0, 0, 0, 0, 0, 0, 0, 0, 0, 0, 0, 0, 0, 0, 0, 0, 0] rfl rfl rfl (fun H locs hP hD hS => ?_)
  refine lv_aload_n hx hb dL_law_352 rfl (lv_at hl 2 rfl) ?_
  refine lv_aload_n hx hb dL_law_353 rfl (lv_at hl 0 rfl) ?_
  refine lv_iload_n hx hb dL_law_354 rfl (lv_at hl 3 rfl) ?_
  refine lv_iconst (v := (1 : Int32)) hx hb dL_law_355 (by decide) ?_
  refine lv_iadd hx hb dL_law_356 ?_
  refine va_sld hx hb hX hbl hbA hS hs1 dL_law_357 ?_
  refine lv_aload_n hx hb dL_law_358 rfl (lv_at hl 0 rfl) ?_
  refine lv_iload_n hx hb dL_law_359 rfl (lv_at hl 3 rfl) ?_
  refine lv_iconst (v := (2 : Int32)) hx hb dL_law_360 (by decide) ?_
  refine lv_iadd hx hb dL_law_361 ?_
  refine va_sld hx hb hX hbl hbA hS hs2 dL_law_362 ?_
  refine zCiS (r0 := r) (w1 := (wdX11_net cy bm (v 0) (v 1) (v 2) (v 3) (v 4) (v 5) (v 6) (v 7) (v 8) (v 9) (v 10) (v 11) (v 12) (v 13) (v 14) (v 15) (v 16) (v 17) (v 18) (v 19) (v 20) (v 21) (v 22) (m_hasImage ms) (m_above ms) (m_below ms) (m_orderMany ms) (m_waitMany ms) (m_seed ms) (m_size ms) (m_openMany ms) (m_paperMany ms) (m_reachMany ms) (m_now ms))) (ws' := (wXS cy bx u (xs) ++ wMS cy bm v (ms))) (va_runV (As := [.int (sc (x3 + (1 : Int32)).toNatClampNeg), .int (sc (x3 + (2 : Int32)).toNatClampNeg)]) (rest := [.int r]) ⟨hx, hb, hml, hown, hts⟩ (mX11_net l D cy H.size bm (v 0) (v 1) (v 2) (v 3) (v 4) (v 5) (v 6) (v 7) (v 8) (v 9) (v 10) (v 11) (v 12) (v 13) (v 14) (v 15) (v 16) (v 17) (v 18) (v 19) (v 20) (v 21) (v 22) (m_hasImage ms) (m_above ms) (m_below ms) (m_orderMany ms) (m_waitMany ms) (m_seed ms) (m_size ms) (m_openMany ms) (m_paperMany ms) (m_reachMany ms) (m_now ms) (sc (x3 + (1 : Int32)).toNatClampNeg) (sc (x3 + (2 : Int32)).toNatClampNeg) r hqm) (cwV 2 hts gl_X11_net rfl rfl rfl ⟨rfl, cdX11_net⟩ ⟨Nat.le_of_ble_eq_true rfl, Nat.le_of_ble_eq_true rfl⟩) (zPV hK hP hD [95, 96] rfl rfl (q0 := 95) (ci := 11) rfl rfl rfl) rfl rfl hl.1 rfl (lv_room (Nat.le_of_ble_eq_true rfl)) dL_law_363 ⟨Nat.le_of_ble_eq_true rfl, Nat.le_of_ble_eq_true rfl⟩) hP hD hS hA [95, 96] rfl [0, 0, 0, 0, 0, 0, 0, 0, 0, 0, 0, 0, 0, 0, 0, 0, 0, 0, 0, 0, 0, 0, 0, 0, 0, 0, 0, 0, 0, 0, 0, 0, 0, 0, 0, 0, 0, 0, 0, 0, 0, 0, 0, 0, 0, 0, 0, 0, 0, 0, 0, 0, 0, 0, 0, 0, 0, 0, 0, 0, 0, 0, 0, 0, 0, 0, 0, 0, 0, 0, 0, 0, 0, 0, 0, 0, 0, 0, 0, 0, 0, 0, 0, 0, 0, 0, 0, 0, 0, 0, 0, 0, 0, 0, 0, 1, 2, 0, 0, 0, 0, 0, 0, 0, 0, 0, 0, 0, 0, 0, 0, 0, 0, 0, 0, 0, 0, 0, 0] rfl rfl rfl (fun H locs hP hD hS => ?_)
  refine lv_icmp_eq (tgt := 1498) hx hb dL_law_366 (by decide) (fun _ => ?_) (fun hc => absurd rfl hc)
  exact kk _ _ hR2 H locs ls hP hD hS hl
set_option maxHeartbeats 4000000 in
set_option maxRecDepth 100000 in
theorem law_value {p : Program} {l : Launch} {e : Env} {s : State} {m : MethodId} {below : List Frame} {meth : Method} {c : Code} {D : va_G} {cy : Nat → ClassId} {b L : Nat} {sc : Nat → Int32} {A : Nat → Prop} {Z : State → Prop} {bx bm : Nat} {u v : Nat → Nat} (hx : p.tables.exec = Jvm.exec) (hb : c.code = cL_law) (hml : c.maxLocals = 4) (hown : s.vm.findClass RL = some m.cls) (hts : ∀ w ∈ lw_tbl, w.before #[Value.ref b] s = true) (hX : va_X b L sc s s.heap) (hbl : b < s.heap.size) (hbA : ¬ A b) (hA : ∀ q : Nat, s.heap.size ≤ q → A q) (hK : zK D cy s) {R : Nat → XS → MS → Prop} {k : Nat} (hq : zQ_value R k) {x3 : Int32} (hs : ∀ j : Nat, j < 7 → vp_in (x3 + nI j) L) (kk : ∀ (xs : XS) (ms : MS), R (k + 1) xs ms → ∀ (H : Heap) (locs : List Loc) (ls : Array Slot), va_P D vwCl (wXS cy bx u xs ++ wMS cy bm v ms) H → va_D A (wXS cy bx u xs ++ wMS cy bm v ms) → va_S A s.heap H locs → lv_has ls 4 [(0, .ref b), (1, .ref bx), (2, .ref bm), (3, .int x3)] → W p l e room_1 s m #[Value.ref b] below meth c H locs 119 29611 Z (F0 m 1498 ls [])) (xs : XS) (ms : MS) (hR : R k xs ms) (H : Heap) (locs : List Loc) (ls : Array Slot) (hP : va_P D vwCl (wXS cy bx u xs ++ wMS cy bm v ms) H) (hD : va_D A (wXS cy bx u xs ++ wMS cy bm v ms)) (hS : va_S A s.heap H locs) (hl : lv_has ls 4 [(0, .ref b), (1, .ref bx), (2, .ref bm), (3, .int x3)]) : W p l e room_1 s m #[Value.ref b] below meth c H locs 119 29611 Z (F0 m 371 ls []) := by
  have hs1 : vp_in (x3 + (1 : Int32)) L := hs 1 (by decide)
  have hs2 : vp_in (x3 + (2 : Int32)) L := hs 2 (by decide)
  have hs3 : vp_in (x3 + (3 : Int32)) L := hs 3 (by decide)
  have hs4 : vp_in (x3 + (4 : Int32)) L := hs 4 (by decide)
  have hs5 : vp_in (x3 + (5 : Int32)) L := hs 5 (by decide)
  have hs6 : vp_in (x3 + (6 : Int32)) L := hs 6 (by decide)
  obtain ⟨r, xs2, ms2, hx2, hm2, hR2⟩ := hq xs ms hR (sc (x3 + (1 : Int32)).toNatClampNeg) (sc (x3 + (2 : Int32)).toNatClampNeg)
  obtain ⟨rx, y0, y1, y2, y3, y4, y5, y6, y7, hqx, hx2⟩ := zb9_s hx2
  cases hx2
  obtain ⟨rm, w0, w1, w2, w3, hqm, hm2⟩ := zb5_s hm2
  cases hm2
  refine lv_aload_n hx hb dL_law_371 rfl (lv_at hl 1 rfl) ?_
  refine lv_aload_n hx hb dL_law_372 rfl (lv_at hl 0 rfl) ?_
  refine lv_iload_n hx hb dL_law_373 rfl (lv_at hl 3 rfl) ?_
  refine lv_iconst (v := (1 : Int32)) hx hb dL_law_374 (by decide) ?_
  refine lv_iadd hx hb dL_law_375 ?_
  refine va_sld hx hb hX hbl hbA hS hs1 dL_law_376 ?_
  refine lv_aload_n hx hb dL_law_377 rfl (lv_at hl 0 rfl) ?_
  refine lv_iload_n hx hb dL_law_378 rfl (lv_at hl 3 rfl) ?_
  refine lv_iconst (v := (2 : Int32)) hx hb dL_law_379 (by decide) ?_
  refine lv_iadd hx hb dL_law_380 ?_
  refine va_sld hx hb hX hbl hbA hS hs2 dL_law_381 ?_
  refine zClS (r0 := r) (w1 := (wdX10_value cy bx (u 0) (u 3) (u 12) (u 34) (u 37) (u 41) (u 52) (u 59) (u 66) (u 67) (u 4) (u 5) (u 6) (u 7) (u 8) (u 9) (u 10) (u 11) (u 13) (u 17) (u 18) (u 19) (u 20) (u 21) (u 14) (u 15) (u 16) (fun k => u (22 + k)) (u 1) (u 2) (x_nets_count xs) (x_meter_seed xs) (x_nets_parts xs) y0 y1 (x_nets_kind xs) y2 (x_nets_first xs) y3 (x_nets_second xs) (x_box_ohms xs) y4 y5 y6 y7)) (ws' := (wXS cy bx u (xs.1, xs.2.1, (xs.2.2.1.1, y0, y2, y3, y1, xs.2.2.1.2.2.2.2.2.1, xs.2.2.1.2.2.2.2.2.2.1, y4, y5, xs.2.2.1.2.2.2.2.2.2.2.2.2.1, xs.2.2.1.2.2.2.2.2.2.2.2.2.2.1, y6, y7), xs.2.2.2) ++ wMS cy bm v ms)) (va_runV (As := [.int (sc (x3 + (1 : Int32)).toNatClampNeg), .int (sc (x3 + (2 : Int32)).toNatClampNeg)]) (rest := []) ⟨hx, hb, hml, hown, hts⟩ (mX10_value l D cy H.size bx (u 0) (u 3) (u 12) (u 34) (u 37) (u 41) (u 52) (u 59) (u 66) (u 67) (u 4) (u 5) (u 6) (u 7) (u 8) (u 9) (u 10) (u 11) (u 13) (u 17) (u 18) (u 19) (u 20) (u 21) (u 14) (u 15) (u 16) (fun k => u (22 + k)) (u 1) (u 2) (x_nets_count xs) (x_meter_seed xs) (x_nets_parts xs) (x_meter_plan_length xs) (x_meter_plan_waiting xs) (x_nets_kind xs) (x_meter_plan_kind xs) (x_nets_first xs) (x_meter_plan_sort xs) (x_nets_second xs) (x_box_ohms xs) (x_meter_worth_above xs) (x_meter_worth_below xs) (x_meter_fractions_s_above xs) (x_meter_fractions_s_below xs) (sc (x3 + (1 : Int32)).toNatClampNeg) (sc (x3 + (2 : Int32)).toNatClampNeg) (r, y0, y1, y2, y3, y4, y5, y6, y7) hqx) (cwV 2 hts gl_X10_value rfl rfl rfl ⟨rfl, cdX10_value⟩ ⟨Nat.le_of_ble_eq_true rfl, Nat.le_of_ble_eq_true rfl⟩) (zPV hK hP hD [0, 4, 13, 8, 14, 17, 5, 15, 6, 16, 7, 18, 1, 2, 21, 23, 24, 25, 26, 27, 28, 29, 30, 31, 32, 33, 34] rfl rfl (q0 := 0) (ci := 10) rfl rfl rfl) rfl rfl hl.1 rfl (lv_room (Nat.le_of_ble_eq_true rfl)) dL_law_382 ⟨Nat.le_of_ble_eq_true rfl, Nat.le_of_ble_eq_true rfl⟩) hP hD hS hA [0, 4, 13, 8, 14, 17, 5, 15, 6, 16, 7, 18, 1, 2, 21, 23, 24, 25, 26, 27, 28, 29, 30, 31, 32, 33, 34] rfl [1, 13, 14, 0, 2, 7, 9, 11, 4, 0, 0, 0, 0, 3, 5, 8, 10, 6, 12, 0, 0, 15, 0, 16, 17, 18, 19, 20, 21, 22, 23, 24, 25, 26, 27, 0, 0, 0, 0, 0, 0, 0, 0, 0, 0, 0, 0, 0, 0, 0, 0, 0, 0, 0, 0, 0, 0, 0, 0, 0, 0, 0, 0, 0, 0, 0, 0, 0, 0, 0, 0, 0, 0, 0, 0, 0, 0, 0, 0, 0, 0, 0, 0, 0, 0, 0, 0, 0, 0, 0, 0, 0, 0, 0, 0, 0, 0, 0, 0, 0, 0, 0, 0, 0, 0, 0, 0, 0, 0, 0, 0, 0, 0, 0, 0, 0, 0, 0, 0] rfl rfl rfl (fun H locs hP hD hS => ?_)
  refine lv_aload_n hx hb dL_law_385 rfl (lv_at hl 2 rfl) ?_
  refine lv_aload_n hx hb dL_law_386 rfl (lv_at hl 0 rfl) ?_
  refine lv_iload_n hx hb dL_law_387 rfl (lv_at hl 3 rfl) ?_
  refine lv_iconst (v := (1 : Int32)) hx hb dL_law_388 (by decide) ?_
  refine lv_iadd hx hb dL_law_389 ?_
  refine va_sld hx hb hX hbl hbA hS hs1 dL_law_390 ?_
  refine lv_aload_n hx hb dL_law_391 rfl (lv_at hl 0 rfl) ?_
  refine lv_iload_n hx hb dL_law_392 rfl (lv_at hl 3 rfl) ?_
  refine lv_iconst (v := (2 : Int32)) hx hb dL_law_393 (by decide) ?_
  refine lv_iadd hx hb dL_law_394 ?_
  refine va_sld hx hb hX hbl hbA hS hs2 dL_law_395 ?_
  refine zClS (r0 := r) (w1 := (wdX11_value cy bm (v 0) (v 1) (v 2) (v 3) (v 4) (v 5) (v 6) (v 7) (v 8) (v 9) (v 10) (v 11) (v 12) (v 13) (v 14) (v 15) (v 16) (v 17) (v 18) (v 19) (v 20) (v 21) (v 22) (m_hasImage ms) w0 w1 (m_orderMany ms) (m_waitMany ms) (m_seed ms) (m_size ms) (m_openMany ms) (m_paperMany ms) (m_reachMany ms) (m_now ms) w2 w3)) (ws' := (wXS cy bx u (xs.1, xs.2.1, (xs.2.2.1.1, y0, y2, y3, y1, xs.2.2.1.2.2.2.2.2.1, xs.2.2.1.2.2.2.2.2.2.1, y4, y5, xs.2.2.1.2.2.2.2.2.2.2.2.2.1, xs.2.2.1.2.2.2.2.2.2.2.2.2.2.1, y6, y7), xs.2.2.2) ++ wMS cy bm v ((ms.1.1, w0, w1, ms.1.2.2.2), ms.2.1, (w2, w3, ms.2.2.1.2.2), ms.2.2.2))) (va_runV (As := [.int (sc (x3 + (1 : Int32)).toNatClampNeg), .int (sc (x3 + (2 : Int32)).toNatClampNeg)]) (rest := [.long r]) ⟨hx, hb, hml, hown, hts⟩ (mX11_value l D cy H.size bm (v 0) (v 1) (v 2) (v 3) (v 4) (v 5) (v 6) (v 7) (v 8) (v 9) (v 10) (v 11) (v 12) (v 13) (v 14) (v 15) (v 16) (v 17) (v 18) (v 19) (v 20) (v 21) (v 22) (m_hasImage ms) (m_above ms) (m_below ms) (m_orderMany ms) (m_waitMany ms) (m_seed ms) (m_size ms) (m_openMany ms) (m_paperMany ms) (m_reachMany ms) (m_now ms) (m_valueUp ms) (m_valueDown ms) (sc (x3 + (1 : Int32)).toNatClampNeg) (sc (x3 + (2 : Int32)).toNatClampNeg) (r, w0, w1, w2, w3) hqm) (cwV 2 hts gl_X11_value rfl rfl rfl ⟨rfl, cdX11_value⟩ ⟨Nat.le_of_ble_eq_true rfl, Nat.le_of_ble_eq_true rfl⟩) (zPV hK hP hD [95, 96, 98, 99] rfl rfl (q0 := 95) (ci := 11) rfl rfl rfl) rfl rfl hl.1 rfl (lv_room (Nat.le_of_ble_eq_true rfl)) dL_law_396 ⟨Nat.le_of_ble_eq_true rfl, Nat.le_of_ble_eq_true rfl⟩) hP hD hS hA [95, 96, 98, 99] rfl [0, 0, 0, 0, 0, 0, 0, 0, 0, 0, 0, 0, 0, 0, 0, 0, 0, 0, 0, 0, 0, 0, 0, 0, 0, 0, 0, 0, 0, 0, 0, 0, 0, 0, 0, 0, 0, 0, 0, 0, 0, 0, 0, 0, 0, 0, 0, 0, 0, 0, 0, 0, 0, 0, 0, 0, 0, 0, 0, 0, 0, 0, 0, 0, 0, 0, 0, 0, 0, 0, 0, 0, 0, 0, 0, 0, 0, 0, 0, 0, 0, 0, 0, 0, 0, 0, 0, 0, 0, 0, 0, 0, 0, 0, 0, 1, 2, 0, 3, 4, 0, 0, 0, 0, 0, 0, 0, 0, 0, 0, 0, 0, 0, 0, 0, 0, 0, 0, 0] rfl rfl rfl (fun H locs hP hD hS => ?_)
  refine W.lcmp hx hb dL_law_399 ?_
  refine lv_if_eq (tgt := 1498) hx hb dL_law_400 (by decide) (fun _ => ?_) (fun hc => absurd ((zc_eq _ _).mpr rfl) hc)
  exact kk _ _ hR2 H locs ls hP hD hS hl
