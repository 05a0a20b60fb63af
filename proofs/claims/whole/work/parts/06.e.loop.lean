theorem zlen {L i : Nat} (hL : L ≤ 3584) (hi : i ≤ L) : ((7 : Nat) + i ≤ L ∧ ¬ (Int32.ofNat L - 7 : Int32) < nI i) ∨ ((Int32.ofNat L - 7 : Int32) < nI i) := by
  have e : (Int32.ofNat L - 7 : Int32).toInt = (L : Int) - 7 := by
    have h1 : (Int32.ofNat L - 7 : Int32).toInt = ((Int32.ofNat L).toInt - (7 : Int32).toInt).bmod (2 ^ 32) := Int32.toInt_sub _ _
    have h2 : (Int32.ofNat L).toInt = (L : Int) := nI_toInt (by omega)
    have h3 : (7 : Int32).toInt = 7 := by decide
    rw [h1, h2, h3, Int.bmod_def]
    split <;> omega
  have e2 : (nI i).toInt = (i : Int) := nI_toInt (by omega)
  by_cases h : (Int32.ofNat L - 7 : Int32) < nI i
  · exact Or.inr h
  · refine Or.inl ⟨?_, h⟩
    have h4 : ¬ (Int32.ofNat L - 7 : Int32).toInt < (nI i).toInt := fun q => h (Int32.lt_iff_toInt_lt.mpr q)
    rw [e, e2] at h4
    omega
theorem zand63 (y : Int32) : ∃ j : Nat, j < 64 ∧ y &&& 63 = nI j := pk_andE y 6 (by decide)
set_option maxHeartbeats 4000000 in
set_option maxRecDepth 100000 in
theorem law_loop {p : Program} {l : Launch} {e : Env} {s : State} {m : MethodId} {below : List Frame} {meth : Method} {c : Code} {D : va_G} {cy : Nat → ClassId} {b L : Nat} {sc : Nat → Int32} {A : Nat → Prop} {Z : State → Prop} {bx bm : Nat} {u v : Nat → Nat} (hx : p.tables.exec = Jvm.exec) (hb : c.code = cL_law) (hml : c.maxLocals = 4) (hown : s.vm.findClass RL = some m.cls) (hts : ∀ w ∈ lw_tbl, w.before #[Value.ref b] s = true) (hX : va_X b L sc s s.heap) (hbl : b < s.heap.size) (hbA : ¬ A b) (hA : ∀ q : Nat, s.heap.size ≤ q → A q) (hK : zK D cy s) (hL : L ≤ 3584) {R : Nat → XS → MS → Prop} (hq : ∀ k, 7 * k + 7 ≤ L → zQ R k) (kx : ∀ (H : Heap) (locs : List Loc) (ls : Array Slot), va_S A s.heap H locs → lv_has ls 4 [(0, .ref b)] → W p l e room_1 s m #[Value.ref b] below meth c H locs 119 29611 Z (F0 m 1504 ls [])) : ∀ (n k : Nat) (x3 : Int32), L ≤ 7 * k + n → 7 * k ≤ L → x3 = nI (7 * k) → ∀ (xs : XS) (ms : MS), R k xs ms → ∀ (H : Heap) (locs : List Loc) (ls : Array Slot), va_P D vwCl (wXS cy bx u xs ++ wMS cy bm v ms) H → va_D A (wXS cy bx u xs ++ wMS cy bm v ms) → va_S A s.heap H locs → lv_has ls 4 [(0, .ref b), (1, .ref bx), (2, .ref bm), (3, .int x3)] → W p l e room_1 s m #[Value.ref b] below meth c H locs 119 29611 Z (F0 m 18 ls []) := by
  intro n
  induction n with
  | zero =>
    intro k x3 h1 h2 ex xs ms hR H locs ls hP hD hS hl
    have hc0 : (Int32.ofNat L - 7 : Int32) < x3 := by rw [ex]; rcases zlen hL h2 with h | h; exact absurd h.1 (by omega); exact h
    refine lv_iload_n hx hb dL_law_18 rfl (lv_at hl 3 rfl) ?_
    refine lv_aload_n hx hb dL_law_19 rfl (lv_at hl 0 rfl) ?_
    refine va_slen hx hb hX hbl hbA hS dL_law_20 ?_
    refine lv_bipush (v := (7 : Int32)) hx hb dL_law_21 (by decide) ?_
    refine lv_isub hx hb dL_law_23 ?_
    refine lv_icmp_gt (tgt := 1504) hx hb dL_law_24 (by decide) (fun _ => ?_) (fun hc => absurd hc0 hc)
    exact kx H locs ls hS (lv_sub hl [0] rfl)
  | succ n ih =>
    intro k x3 h1 h2 ex xs ms hR H locs ls hP hD hS hl
    refine lv_iload_n hx hb dL_law_18 rfl (lv_at hl 3 rfl) ?_
    refine lv_aload_n hx hb dL_law_19 rfl (lv_at hl 0 rfl) ?_
    refine va_slen hx hb hX hbl hbA hS dL_law_20 ?_
    refine lv_bipush (v := (7 : Int32)) hx hb dL_law_21 (by decide) ?_
    refine lv_isub hx hb dL_law_23 ?_
    refine lv_icmp_gt (tgt := 1504) hx hb dL_law_24 (by decide) (fun _ => ?_) (fun hc => ?_)
    · exact kx H locs ls hS (lv_sub hl [0] rfl)
    · have h7 : 7 * k + 7 ≤ L := by
        rcases zlen hL h2 with h | h
        · omega
        · exact absurd (by rw [ex]; exact h) hc
      have hs : ∀ j : Nat, j < 7 → vp_in (x3 + nI j) L := fun j hj => by rw [ex, nI_add]; exact vp_in_nI (by omega) (by omega)
      have hs0 : vp_in x3 L := by rw [ex]; exact vp_in_nI (by omega) (by omega)
      have hqk := hq k h7
      have kk : ∀ (xs : XS) (ms : MS), R (k + 1) xs ms → ∀ (H : Heap) (locs : List Loc) (ls : Array Slot), va_P D vwCl (wXS cy bx u xs ++ wMS cy bm v ms) H → va_D A (wXS cy bx u xs ++ wMS cy bm v ms) → va_S A s.heap H locs → lv_has ls 4 [(0, .ref b), (1, .ref bx), (2, .ref bm), (3, .int x3)] → W p l e room_1 s m #[Value.ref b] below meth c H locs 119 29611 Z (F0 m 1498 ls []) := by
        intro xs ms hR H locs ls hP hD hS hl
        refine lv_iinc (v := nI (7 * (k + 1))) (lv' := [(3, .int (nI (7 * (k + 1)))), (0, .ref b), (1, .ref bx), (2, .ref bm)]) hx hb dL_law_1498 hl (k := 3) rfl (by rw [ex]; show nI (7 * k) + nI 7 = _; rw [nI_add]; rfl) (Nat.le_of_ble_eq_true rfl) rfl (fun ls hl => ?_)
        refine lv_goto (tgt := 18) hx hb dL_law_1501 (by decide) ?_
        exact ih (k + 1) _ (by omega) (by omega) rfl xs ms hR H locs ls hP hD hS (lv_sub hl [1, 2, 3, 0] rfl)
      refine lv_aload_n hx hb dL_law_27 rfl (lv_at hl 0 rfl) ?_
      refine lv_iload_n hx hb dL_law_28 rfl (lv_at hl 3 rfl) ?_
      refine va_sld hx hb hX hbl hbA hS hs0 dL_law_29 ?_
      refine lv_bipush (v := (63 : Int32)) hx hb dL_law_30 (by decide) ?_
      refine lv_iand hx hb dL_law_32 ?_
      obtain ⟨j, hj, ej⟩ := zand63 (sc x3.toNatClampNeg)
      rw [ej]
      by_cases hjd : 36 < j
      · have e0 : (nI j).toInt = (j : Int) := nI_toInt (by omega)
        refine lv_tableOut (tgt := 1498) hx hb dL_law_33 (by rw [e0]; omega) (by decide) ?_
        exact kk xs ms (hqk.1 xs ms hR) H locs ls hP hD hS hl
      · rcases (show j = 0 ∨ j = 1 ∨ j = 2 ∨ j = 3 ∨ j = 4 ∨ j = 5 ∨ j = 6 ∨ j = 7 ∨ j = 8 ∨ j = 9 ∨ j = 10 ∨ j = 11 ∨ j = 12 ∨ j = 13 ∨ j = 14 ∨ j = 15 ∨ j = 16 ∨ j = 17 ∨ j = 18 ∨ j = 19 ∨ j = 20 ∨ j = 21 ∨ j = 22 ∨ j = 23 ∨ j = 24 ∨ j = 25 ∨ j = 26 ∨ j = 27 ∨ j = 28 ∨ j = 29 ∨ j = 30 ∨ j = 31 ∨ j = 32 ∨ j = 33 ∨ j = 34 ∨ j = 35 ∨ j = 36 by omega) with rfl | rfl | rfl | rfl | rfl | rfl | rfl | rfl | rfl | rfl | rfl | rfl | rfl | rfl | rfl | rfl | rfl | rfl | rfl | rfl | rfl | rfl | rfl | rfl | rfl | rfl | rfl | rfl | rfl | rfl | rfl | rfl | rfl | rfl | rfl | rfl | rfl
        · refine lv_tableIn (tgt := 196) (off := 163) hx hb dL_law_33 (by decide) (by decide) rfl (by decide) ?_
          exact law_sort hx hb hml hown hts hX hbl hbA hA hK (hqk.2.1) hs kk xs ms hR H locs ls hP hD hS hl
        · refine lv_tableIn (tgt := 239) (off := 206) hx hb dL_law_33 (by decide) (by decide) rfl (by decide) ?_
          exact law_ofSort hx hb hml hown hts hX hbl hbA hA hK (hqk.2.2.1) hs kk xs ms hR H locs ls hP hD hS hl
        · refine lv_tableIn (tgt := 272) (off := 239) hx hb dL_law_33 (by decide) (by decide) rfl (by decide) ?_
          exact law_part hx hb hml hown hts hX hbl hbA hA hK (hqk.2.2.2.1) hs kk xs ms hR H locs ls hP hD hS hl
        · refine lv_tableIn (tgt := 295) (off := 262) hx hb dL_law_33 (by decide) (by decide) rfl (by decide) ?_
          exact law_join hx hb hml hown hts hX hbl hbA hA hK (hqk.2.2.2.2.1) hs kk xs ms hR H locs ls hP hD hS hl
        · refine lv_tableIn (tgt := 338) (off := 305) hx hb dL_law_33 (by decide) (by decide) rfl (by decide) ?_
          exact law_net hx hb hml hown hts hX hbl hbA hA hK (hqk.2.2.2.2.2.1) hs kk xs ms hR H locs ls hP hD hS hl
        · refine lv_tableIn (tgt := 371) (off := 338) hx hb dL_law_33 (by decide) (by decide) rfl (by decide) ?_
          exact law_value hx hb hml hown hts hX hbl hbA hA hK (hqk.2.2.2.2.2.2.1) hs kk xs ms hR H locs ls hP hD hS hl
        · refine lv_tableIn (tgt := 405) (off := 372) hx hb dL_law_33 (by decide) (by decide) rfl (by decide) ?_
          exact law_ends hx hb hml hown hts hX hbl hbA hA hK (hqk.2.2.2.2.2.2.2.1) hs kk xs ms hR H locs ls hP hD hS hl
        · refine lv_tableIn (tgt := 439) (off := 406) hx hb dL_law_33 (by decide) (by decide) rfl (by decide) ?_
          exact law_shortly hx hb hml hown hts hX hbl hbA hA hK (hqk.2.2.2.2.2.2.2.2.1) hs kk xs ms hR H locs ls hP hD hS hl
        · refine lv_tableIn (tgt := 463) (off := 430) hx hb dL_law_33 (by decide) (by decide) rfl (by decide) ?_
          exact law_drawn hx hb hml hown hts hX hbl hbA hA hK (hqk.2.2.2.2.2.2.2.2.2.1) hs kk xs ms hR H locs ls hP hD hS hl
        · refine lv_tableIn (tgt := 497) (off := 464) hx hb dL_law_33 (by decide) (by decide) rfl (by decide) ?_
          exact law_within hx hb hml hown hts hX hbl hbA hA hK (hqk.2.2.2.2.2.2.2.2.2.2.1) hs kk xs ms hR H locs ls hP hD hS hl
        · refine lv_tableIn (tgt := 572) (off := 539) hx hb dL_law_33 (by decide) (by decide) rfl (by decide) ?_
          exact law_alike hx hb hml hown hts hX hbl hbA hA hK (hqk.2.2.2.2.2.2.2.2.2.2.2.1) hs kk xs ms hR H locs ls hP hD hS hl
        · refine lv_tableIn (tgt := 605) (off := 572) hx hb dL_law_33 (by decide) (by decide) rfl (by decide) ?_
          exact law_turned hx hb hml hown hts hX hbl hbA hA hK (hqk.2.2.2.2.2.2.2.2.2.2.2.2.1) hs kk xs ms hR H locs ls hP hD hS hl
        · refine lv_tableIn (tgt := 638) (off := 605) hx hb dL_law_33 (by decide) (by decide) rfl (by decide) ?_
          exact law_fails hx hb hml hown hts hX hbl hbA hA hK (hqk.2.2.2.2.2.2.2.2.2.2.2.2.2.1) hs kk xs ms hR H locs ls hP hD hS hl
        · refine lv_tableIn (tgt := 692) (off := 659) hx hb dL_law_33 (by decide) (by decide) rfl (by decide) ?_
          exact law_worst hx hb hml hown hts hX hbl hbA hA hK (hqk.2.2.2.2.2.2.2.2.2.2.2.2.2.2.1) hs kk xs ms hR H locs ls hP hD hS hl
        · refine lv_tableIn (tgt := 725) (off := 692) hx hb dL_law_33 (by decide) (by decide) rfl (by decide) ?_
          exact law_feed hx hb hml hown hts hX hbl hbA hA hK (hqk.2.2.2.2.2.2.2.2.2.2.2.2.2.2.2.1) hs kk xs ms hR H locs ls hP hD hS hl
        · refine lv_tableIn (tgt := 748) (off := 715) hx hb dL_law_33 (by decide) (by decide) rfl (by decide) ?_
          exact law_read hx hb hml hown hts hX hbl hbA hA hK (hqk.2.2.2.2.2.2.2.2.2.2.2.2.2.2.2.2.1) hs kk xs ms hR H locs ls hP hD hS hl
        · refine lv_tableIn (tgt := 761) (off := 728) hx hb dL_law_33 (by decide) (by decide) rfl (by decide) ?_
          exact law_print hx hb hml hown hts hX hbl hbA hA hK (hqk.2.2.2.2.2.2.2.2.2.2.2.2.2.2.2.2.2.1) hs kk xs ms hR H locs ls hP hD hS hl
        · refine lv_tableIn (tgt := 794) (off := 761) hx hb dL_law_33 (by decide) (by decide) rfl (by decide) ?_
          exact law_reached hx hb hml hown hts hX hbl hbA hA hK (hqk.2.2.2.2.2.2.2.2.2.2.2.2.2.2.2.2.2.2.1) hs kk xs ms hR H locs ls hP hD hS hl
        · refine lv_tableIn (tgt := 817) (off := 784) hx hb dL_law_33 (by decide) (by decide) rfl (by decide) ?_
          exact law_reach hx hb hml hown hts hX hbl hbA hA hK (hqk.2.2.2.2.2.2.2.2.2.2.2.2.2.2.2.2.2.2.2.1) hs kk xs ms hR H locs ls hP hD hS hl
        · refine lv_tableIn (tgt := 861) (off := 828) hx hb dL_law_33 (by decide) (by decide) rfl (by decide) ?_
          exact law_fewest hx hb hml hown hts hX hbl hbA hA hK (hqk.2.2.2.2.2.2.2.2.2.2.2.2.2.2.2.2.2.2.2.2.1) hs kk xs ms hR H locs ls hP hD hS hl
        · refine lv_tableIn (tgt := 894) (off := 861) hx hb dL_law_33 (by decide) (by decide) rfl (by decide) ?_
          exact law_nearest hx hb hml hown hts hX hbl hbA hA hK (hqk.2.2.2.2.2.2.2.2.2.2.2.2.2.2.2.2.2.2.2.2.2.1) hs kk xs ms hR H locs ls hP hD hS hl
        · refine lv_tableIn (tgt := 948) (off := 915) hx hb dL_law_33 (by decide) (by decide) rfl (by decide) ?_
          exact law_make hx hb hml hown hts hX hbl hbA hA hK (hqk.2.2.2.2.2.2.2.2.2.2.2.2.2.2.2.2.2.2.2.2.2.2.1) hs kk xs ms hR H locs ls hP hD hS hl
        · refine lv_tableIn (tgt := 981) (off := 948) hx hb dL_law_33 (by decide) (by decide) rfl (by decide) ?_
          exact law_points hx hb hml hown hts hX hbl hbA hA hK (hqk.2.2.2.2.2.2.2.2.2.2.2.2.2.2.2.2.2.2.2.2.2.2.2.1) hs kk xs ms hR H locs ls hP hD hS hl
        · refine lv_tableIn (tgt := 1004) (off := 971) hx hb dL_law_33 (by decide) (by decide) rfl (by decide) ?_
          exact law_edge hx hb hml hown hts hX hbl hbA hA hK (hqk.2.2.2.2.2.2.2.2.2.2.2.2.2.2.2.2.2.2.2.2.2.2.2.2.1) hs kk xs ms hR H locs ls hP hD hS hl
        · refine lv_tableIn (tgt := 1047) (off := 1014) hx hb dL_law_33 (by decide) (by decide) rfl (by decide) ?_
          exact law_tell hx hb hml hown hts hX hbl hbA hA hK (hqk.2.2.2.2.2.2.2.2.2.2.2.2.2.2.2.2.2.2.2.2.2.2.2.2.2.1) hs kk xs ms hR H locs ls hP hD hS hl
        · refine lv_tableIn (tgt := 1080) (off := 1047) hx hb dL_law_33 (by decide) (by decide) rfl (by decide) ?_
          exact law_between hx hb hml hown hts hX hbl hbA hA hK (hqk.2.2.2.2.2.2.2.2.2.2.2.2.2.2.2.2.2.2.2.2.2.2.2.2.2.2.1) hs kk xs ms hR H locs ls hP hD hS hl
        · refine lv_tableIn (tgt := 1124) (off := 1091) hx hb dL_law_33 (by decide) (by decide) rfl (by decide) ?_
          exact law_without hx hb hml hown hts hX hbl hbA hA hK (hqk.2.2.2.2.2.2.2.2.2.2.2.2.2.2.2.2.2.2.2.2.2.2.2.2.2.2.2.1) hs kk xs ms hR H locs ls hP hD hS hl
        · refine lv_tableIn (tgt := 1178) (off := 1145) hx hb dL_law_33 (by decide) (by decide) rfl (by decide) ?_
          exact law_dearest hx hb hml hown hts hX hbl hbA hA hK (hqk.2.2.2.2.2.2.2.2.2.2.2.2.2.2.2.2.2.2.2.2.2.2.2.2.2.2.2.2.1) hs kk xs ms hR H locs ls hP hD hS hl
        · refine lv_tableIn (tgt := 1211) (off := 1178) hx hb dL_law_33 (by decide) (by decide) rfl (by decide) ?_
          exact law_bridges hx hb hml hown hts hX hbl hbA hA hK (hqk.2.2.2.2.2.2.2.2.2.2.2.2.2.2.2.2.2.2.2.2.2.2.2.2.2.2.2.2.2.1) hs kk xs ms hR H locs ls hP hD hS hl
        · refine lv_tableIn (tgt := 1244) (off := 1211) hx hb dL_law_33 (by decide) (by decide) rfl (by decide) ?_
          exact law_ways hx hb hml hown hts hX hbl hbA hA hK (hqk.2.2.2.2.2.2.2.2.2.2.2.2.2.2.2.2.2.2.2.2.2.2.2.2.2.2.2.2.2.2.1) hs kk xs ms hR H locs ls hP hD hS hl
        · refine lv_tableIn (tgt := 1267) (off := 1234) hx hb dL_law_33 (by decide) (by decide) rfl (by decide) ?_
          exact law_tray hx hb hml hown hts hX hbl hbA hA hK (hqk.2.2.2.2.2.2.2.2.2.2.2.2.2.2.2.2.2.2.2.2.2.2.2.2.2.2.2.2.2.2.2.1) hs kk xs ms hR H locs ls hP hD hS hl
        · refine lv_tableIn (tgt := 1310) (off := 1277) hx hb dL_law_33 (by decide) (by decide) rfl (by decide) ?_
          exact law_lay hx hb hml hown hts hX hbl hbA hA hK (hqk.2.2.2.2.2.2.2.2.2.2.2.2.2.2.2.2.2.2.2.2.2.2.2.2.2.2.2.2.2.2.2.2.1) hs kk xs ms hR H locs ls hP hD hS hl
        · refine lv_tableIn (tgt := 1353) (off := 1320) hx hb dL_law_33 (by decide) (by decide) rfl (by decide) ?_
          exact law_at hx hb hml hown hts hX hbl hbA hA hK (hqk.2.2.2.2.2.2.2.2.2.2.2.2.2.2.2.2.2.2.2.2.2.2.2.2.2.2.2.2.2.2.2.2.2.1) hs kk xs ms hR H locs ls hP hD hS hl
        · refine lv_tableIn (tgt := 1386) (off := 1353) hx hb dL_law_33 (by decide) (by decide) rfl (by decide) ?_
          exact law_shift hx hb hml hown hts hX hbl hbA hA hK (hqk.2.2.2.2.2.2.2.2.2.2.2.2.2.2.2.2.2.2.2.2.2.2.2.2.2.2.2.2.2.2.2.2.2.2.1) hs kk xs ms hR H locs ls hP hD hS hl
        · refine lv_tableIn (tgt := 1449) (off := 1416) hx hb dL_law_33 (by decide) (by decide) rfl (by decide) ?_
          exact law_image hx hb hml hown hts hX hbl hbA hA hK (hqk.2.2.2.2.2.2.2.2.2.2.2.2.2.2.2.2.2.2.2.2.2.2.2.2.2.2.2.2.2.2.2.2.2.2.2.1) hs kk xs ms hR H locs ls hP hD hS hl
        · refine lv_tableIn (tgt := 1462) (off := 1429) hx hb dL_law_33 (by decide) (by decide) rfl (by decide) ?_
          exact law_back hx hb hml hown hts hX hbl hbA hA hK (hqk.2.2.2.2.2.2.2.2.2.2.2.2.2.2.2.2.2.2.2.2.2.2.2.2.2.2.2.2.2.2.2.2.2.2.2.2.1) hs kk xs ms hR H locs ls hP hD hS hl
        · refine lv_tableIn (tgt := 1475) (off := 1442) hx hb dL_law_33 (by decide) (by decide) rfl (by decide) ?_
          exact law_count hx hb hml hown hts hX hbl hbA hA hK (hqk.2.2.2.2.2.2.2.2.2.2.2.2.2.2.2.2.2.2.2.2.2.2.2.2.2.2.2.2.2.2.2.2.2.2.2.2.2) hs kk xs ms hR H locs ls hP hD hS hl
