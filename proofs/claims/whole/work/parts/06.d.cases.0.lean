set_option maxHeartbeats 4000000 in
set_option maxRecDepth 100000 in
theorem law_sort {p : Program} {l : Launch} {e : Env} {s : State} {m : MethodId} {below : List Frame} {meth : Method} {c : Code} {D : va_G} {cy : Nat → ClassId} {b L : Nat} {sc : Nat → Int32} {A : Nat → Prop} {Z : State → Prop} {bx bm : Nat} {u v : Nat → Nat} (hx : p.tables.exec = Jvm.exec) (hb : c.code = cL_law) (hml : c.maxLocals = 4) (hown : s.vm.findClass RL = some m.cls) (hts : ∀ w ∈ lw_tbl, w.before #[Value.ref b] s = true) (hX : va_X b L sc s s.heap) (hbl : b < s.heap.size) (hbA : ¬ A b) (hA : ∀ q : Nat, s.heap.size ≤ q → A q) (hK : zK D cy s) {R : Nat → XS → MS → Prop} {k : Nat} (hq : zQ_sort R k) {x3 : Int32} (hs : ∀ j : Nat, j < 7 → vp_in (x3 + nI j) L) (kk : ∀ (xs : XS) (ms : MS), R (k + 1) xs ms → ∀ (H : Heap) (locs : List Loc) (ls : Array Slot), va_P D vwCl (wXS cy bx u xs ++ wMS cy bm v ms) H → va_D A (wXS cy bx u xs ++ wMS cy bm v ms) → va_S A s.heap H locs → lv_has ls 4 [(0, .ref b), (1, .ref bx), (2, .ref bm), (3, .int x3)] → W p l e room_1 s m #[Value.ref b] below meth c H locs 119 29611 Z (F0 m 1498 ls [])) (xs : XS) (ms : MS) (hR : R k xs ms) (H : Heap) (locs : List Loc) (ls : Array Slot) (hP : va_P D vwCl (wXS cy bx u xs ++ wMS cy bm v ms) H) (hD : va_D A (wXS cy bx u xs ++ wMS cy bm v ms)) (hS : va_S A s.heap H locs) (hl : lv_has ls 4 [(0, .ref b), (1, .ref bx), (2, .ref bm), (3, .int x3)]) : W p l e room_1 s m #[Value.ref b] below meth c H locs 119 29611 Z (F0 m 196 ls []) := by
  have hs1 : vp_in (x3 + (1 : Int32)) L := hs 1 (by decide)
  have hs2 : vp_in (x3 + (2 : Int32)) L := hs 2 (by decide)
  have hs3 : vp_in (x3 + (3 : Int32)) L := hs 3 (by decide)
  have hs4 : vp_in (x3 + (4 : Int32)) L := hs 4 (by decide)
  have hs5 : vp_in (x3 + (5 : Int32)) L := hs 5 (by decide)
  have hs6 : vp_in (x3 + (6 : Int32)) L := hs 6 (by decide)
  obtain ⟨r, xs2, ms2, hx2, hm2, hR2⟩ := hq xs ms hR (sc (x3 + (1 : Int32)).toNatClampNeg) (sc (x3 + (2 : Int32)).toNatClampNeg) (sc (x3 + (3 : Int32)).toNatClampNeg)
  obtain ⟨rx, y0, y1, hqx, hx2⟩ := zb3_s hx2
  cases hx2
  obtain ⟨rm, w0, hqm, hm2⟩ := zb2_s hm2
  cases hm2
  refine lv_aload_n hx hb dL_law_196 rfl (lv_at hl 1 rfl) ?_
  refine lv_aload_n hx hb dL_law_197 rfl (lv_at hl 0 rfl) ?_
  refine lv_iload_n hx hb dL_law_198 rfl (lv_at hl 3 rfl) ?_
  refine lv_iconst (v := (1 : Int32)) hx hb dL_law_199 (by decide) ?_
  refine lv_iadd hx hb dL_law_200 ?_
  refine va_sld hx hb hX hbl hbA hS hs1 dL_law_201 ?_
  refine lv_aload_n hx hb dL_law_202 rfl (lv_at hl 0 rfl) ?_
  refine lv_iload_n hx hb dL_law_203 rfl (lv_at hl 3 rfl) ?_
  refine lv_iconst (v := (2 : Int32)) hx hb dL_law_204 (by decide) ?_
  refine lv_iadd hx hb dL_law_205 ?_
  refine va_sld hx hb hX hbl hbA hS hs2 dL_law_206 ?_
  refine lv_aload_n hx hb dL_law_207 rfl (lv_at hl 0 rfl) ?_
  refine lv_iload_n hx hb dL_law_208 rfl (lv_at hl 3 rfl) ?_
  refine lv_iconst (v := (3 : Int32)) hx hb dL_law_209 (by decide) ?_
  refine lv_iadd hx hb dL_law_210 ?_
  refine va_sld hx hb hX hbl hbA hS hs3 dL_law_211 ?_
  refine zCiS (r0 := r) (w1 := (wdX10_sort cy bx (u 0) (u 3) (u 12) (u 34) (u 37) (u 41) (u 52) (u 59) (u 66) (u 67) (u 4) (u 5) (u 6) (u 7) (u 8) (u 9) (u 10) (u 11) (u 1) (u 2) (x_nets_count xs) (x_nets_kind xs) (x_nets_first xs) (x_nets_second xs) y0 y1)) (ws' := (wXS cy bx u ((y0, y1), xs.2) ++ wMS cy bm v ms)) (va_runV (As := [.int (sc (x3 + (1 : Int32)).toNatClampNeg), .int (sc (x3 + (2 : Int32)).toNatClampNeg), .int (sc (x3 + (3 : Int32)).toNatClampNeg)]) (rest := []) ⟨hx, hb, hml, hown, hts⟩ (mX10_sort l D cy H.size bx (u 0) (u 3) (u 12) (u 34) (u 37) (u 41) (u 52) (u 59) (u 66) (u 67) (u 4) (u 5) (u 6) (u 7) (u 8) (u 9) (u 10) (u 11) (u 1) (u 2) (x_nets_count xs) (x_nets_kind xs) (x_nets_first xs) (x_nets_second xs) (x_box_ohms xs) (x_box_spread xs) (sc (x3 + (1 : Int32)).toNatClampNeg) (sc (x3 + (2 : Int32)).toNatClampNeg) (sc (x3 + (3 : Int32)).toNatClampNeg) (r, y0, y1) hqx) (cwV 3 hts gl_X10_sort rfl rfl rfl ⟨rfl, cdX10_sort⟩ ⟨Nat.le_of_ble_eq_true rfl, Nat.le_of_ble_eq_true rfl⟩) (zPV hK hP hD [0, 4, 5, 6, 7, 1, 2, 3] rfl rfl (q0 := 0) (ci := 10) rfl rfl rfl) rfl rfl hl.1 rfl (lv_room (Nat.le_of_ble_eq_true rfl)) dL_law_212 ⟨Nat.le_of_ble_eq_true rfl, Nat.le_of_ble_eq_true rfl⟩) hP hD hS hA [0, 4, 5, 6, 7, 1, 2, 3] rfl rfl rfl (fun H locs hP hD hS => ?_)
  refine lv_aload_n hx hb dL_law_215 rfl (lv_at hl 2 rfl) ?_
  refine lv_aload_n hx hb dL_law_216 rfl (lv_at hl 0 rfl) ?_
  refine lv_iload_n hx hb dL_law_217 rfl (lv_at hl 3 rfl) ?_
  refine lv_iconst (v := (1 : Int32)) hx hb dL_law_218 (by decide) ?_
  refine lv_iadd hx hb dL_law_219 ?_
  refine va_sld hx hb hX hbl hbA hS hs1 dL_law_220 ?_
  refine lv_aload_n hx hb dL_law_221 rfl (lv_at hl 0 rfl) ?_
  refine lv_iload_n hx hb dL_law_222 rfl (lv_at hl 3 rfl) ?_
  refine lv_iconst (v := (2 : Int32)) hx hb dL_law_223 (by decide) ?_
  refine lv_iadd hx hb dL_law_224 ?_
  refine va_sld hx hb hX hbl hbA hS hs2 dL_law_225 ?_
  refine lv_aload_n hx hb dL_law_226 rfl (lv_at hl 0 rfl) ?_
  refine lv_iload_n hx hb dL_law_227 rfl (lv_at hl 3 rfl) ?_
  refine lv_iconst (v := (3 : Int32)) hx hb dL_law_228 (by decide) ?_
  refine lv_iadd hx hb dL_law_229 ?_
  refine va_sld hx hb hX hbl hbA hS hs3 dL_law_230 ?_
  refine zCiS (r0 := r) (w1 := (wdX11_sort cy bm (v 0) (v 1) (v 2) (v 3) (v 4) (v 5) (v 6) (v 7) (v 8) (v 9) (v 10) (v 11) (v 12) (v 13) (v 14) (v 15) (v 16) (v 17) (v 18) (v 19) (v 20) (v 21) (v 22) (m_hasImage ms) (m_above ms) (m_below ms) (m_orderMany ms) (m_waitMany ms) (m_seed ms) (m_size ms) (m_openMany ms) (m_paperMany ms) (m_reachMany ms) w0)) (ws' := (wXS cy bx u ((y0, y1), xs.2) ++ wMS cy bm v (ms.1, (ms.2.1.1, ms.2.1.2.1, ms.2.1.2.2.1, ms.2.1.2.2.2.1, w0, ms.2.1.2.2.2.2.2), ms.2.2))) (va_runV (As := [.int (sc (x3 + (1 : Int32)).toNatClampNeg), .int (sc (x3 + (2 : Int32)).toNatClampNeg), .int (sc (x3 + (3 : Int32)).toNatClampNeg)]) (rest := [.int r]) ⟨hx, hb, hml, hown, hts⟩ (mX11_sort l D cy H.size bm (v 0) (v 1) (v 2) (v 3) (v 4) (v 5) (v 6) (v 7) (v 8) (v 9) (v 10) (v 11) (v 12) (v 13) (v 14) (v 15) (v 16) (v 17) (v 18) (v 19) (v 20) (v 21) (v 22) (m_hasImage ms) (m_above ms) (m_below ms) (m_orderMany ms) (m_waitMany ms) (m_seed ms) (m_size ms) (m_openMany ms) (m_paperMany ms) (m_reachMany ms) (m_now ms) (sc (x3 + (1 : Int32)).toNatClampNeg) (sc (x3 + (2 : Int32)).toNatClampNeg) (sc (x3 + (3 : Int32)).toNatClampNeg) (r, w0) hqm) (cwV 3 hts gl_X11_sort rfl rfl rfl ⟨rfl, cdX11_sort⟩ ⟨Nat.le_of_ble_eq_true rfl, Nat.le_of_ble_eq_true rfl⟩) (zPV hK hP hD [95, 96] rfl rfl (q0 := 95) (ci := 11) rfl rfl rfl) rfl rfl hl.1 rfl (lv_room (Nat.le_of_ble_eq_true rfl)) dL_law_231 ⟨Nat.le_of_ble_eq_true rfl, Nat.le_of_ble_eq_true rfl⟩) hP hD hS hA [95, 96] rfl rfl rfl (fun H locs hP hD hS => ?_)
  refine lv_icmp_eq (tgt := 1498) hx hb dL_law_234 (by decide) (fun _ => ?_) (fun hc => absurd rfl hc)
  exact kk _ _ hR2 H locs ls hP hD hS hl
