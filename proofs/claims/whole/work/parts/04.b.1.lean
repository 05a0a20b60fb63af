theorem uX9_fits_X5 : ∀ w ∈ u_ws RX5 TX5 9, w ∈ wsX9_fits := fun w h => (List.mem_cons_of_mem _ (List.mem_append_right _ h))
theorem uX9_fits_X9 : ∀ w ∈ u_ws RX9 TX9 3, w ∈ wsX9_fits := fun w h => (List.mem_cons_of_mem _ (List.mem_append_left _ (List.mem_append_right _ h)))
abbrev wdX9_fits (cy : Nat → ClassId) (b b_places bp1 bp1_kind bp1_first bp1_second bp1_parts bp1_likes bp1_letters bp1_waiting bp1_made : Nat) (c_kind c_size cp1_count : Int32) (cp1_kind : Nat → Int32) : va_W := [(b, .inr (9, [.int c_kind, .int c_size, .ref b_places])), (bp1, .inr (5, [.ref bp1_kind, .ref bp1_first, .ref bp1_second, .ref bp1_parts, .int cp1_count, .ref bp1_likes, .ref bp1_letters, .ref bp1_waiting, .ref bp1_made])), (bp1_kind, .inl (cy 0, 40, .inl cp1_kind))]
abbrev rmX9_fits : Room := { frames := 1, cells := 0, slots := 0, locals := 21 }
theorem cdX9_fits : (yX9_fits).cls ≠ "java/lang/invoke/MethodHandle" ∧ (yX9_fits).cls ≠ "java/lang/invoke/VarHandle" ∧ (parseMethodDescriptor (yX9_fits).desc).map (fun d => d.parameters.length) = some 2 := by decide +kernel
def fX9_fits_J44 (s0_30 : Int32) (s1_44 : Int32) : Option (Int32) :=
  if s0_30 = s1_44 then (some ((1 : Int32))) else (some ((0 : Int32)))
def fX9_fits_J30 (cp1_kind : Nat → Int32) (p2 : Int32) (s0_30 : Int32) : Option (Int32) :=
  zg (zin p2 40) (if (cp1_kind (p2).toNatClampNeg) = 0 then (fX9_fits_J44 s0_30 (1 : Int32)) else (fX9_fits_J44 s0_30 (0 : Int32)))
def fX9_fits (p2 c_kind cp1_count : Int32) (cp1_kind : Nat → Int32) : Option (Int32) :=
  if c_kind = 0 then (some ((1 : Int32))) else (zb1 (fX5_has p2 cp1_count) (fun r9 => if r9 = 0 then (some ((1 : Int32))) else (if c_kind = (1 : Int32) then (fX9_fits_J30 cp1_kind p2 (1 : Int32)) else (fX9_fits_J30 cp1_kind p2 (0 : Int32)))))
set_option maxHeartbeats 4000000 in
set_option maxRecDepth 100000 in
theorem mX9_fits (l : Launch) (D : va_G) (cy : Nat → ClassId) (sz : Nat) (b b_places bp1 bp1_kind bp1_first bp1_second bp1_parts bp1_likes bp1_letters bp1_waiting bp1_made : Nat) (c_kind c_size cp1_count : Int32) (cp1_kind : Nat → Int32) (p2 : Int32) (res : (Int32)) (h : fX9_fits p2 c_kind cp1_count cp1_kind = some res) : zMz l yX9_fits wsX9_fits rmX9_fits [.ref b, .ref bp1, .int p2] D cy (wdX9_fits cy b b_places bp1 bp1_kind bp1_first bp1_second bp1_parts bp1_likes bp1_letters bp1_waiting bp1_made c_kind c_size cp1_count cp1_kind) sz ((fun (o : (Int32)) => o) res) ((fun (o : (Int32)) => (wdX9_fits cy b b_places bp1 bp1_kind bp1_first bp1_second bp1_parts bp1_likes bp1_letters bp1_waiting bp1_made c_kind c_size cp1_count cp1_kind)) res) := by
  refine zOfz (res := res) (rf := (fun (o : (Int32)) => o)) (Wf := (fun (o : (Int32)) => (wdX9_fits cy b b_places bp1 bp1_kind bp1_first bp1_second bp1_parts bp1_likes bp1_letters bp1_waiting bp1_made c_kind c_size cp1_count cp1_kind))) (by decide +kernel) rfl (Nat.le_of_ble_eq_true rfl) ?_
  intro p e s m args below meth c A ls Q hx hb hml hts hown hP hK hD hA hS hl hret
  have hown : s.vm.findClass RX9 = some m.cls := hown
  have hl : lv_has ls 3 [(0, .ref b), (1, .ref bp1), (2, .int p2)] := hl
  refine lv_aload_n hx hb dX9_fits_0 rfl (lv_at hl 0 rfl) ?_
  refine va_get (D := D) (ci := 9) (v := .int c_kind) (C := RX9) (T := TX9) (N := 3) hx hb hts uX9_fits_X9 hown hK.1 hP 0 rfl rfl 0 (by decide) (hts (.fieldLink RX9 9 "WishedResistor$Tray" "kind" "I") (List.mem_of_getElem? (i := 1) rfl)) (fun _ h9 => h9) rfl dX9_fits_1 ?_
  refine lv_if_eq (tgt := 15) hx hb dX9_fits_4 (by decide) (fun hc4 => ?_) (fun hc4 => ?_)
  · replace h := zi_t hc4 h
    refine lv_iconst (v := (1 : Int32)) hx hb dX9_fits_15 (by decide) ?_
    exact hret (o := ((1 : Int32))) h (show narrow .boolean (.int (1 : Int32)) = .int (1 : Int32) from by decide) hP hD hS dX9_fits_16
  · replace h := zi_f hc4 h
    refine lv_aload_n hx hb dX9_fits_7 rfl (lv_at hl 1 rfl) ?_
    refine lv_iload_n hx hb dX9_fits_8 rfl (lv_at hl 2 rfl) ?_
    obtain ⟨r9, hq9, h⟩ := zb1_s h
    refine zCz (r0 := r9) (w1 := (wdX5_has cy bp1 bp1_kind bp1_first bp1_second bp1_parts bp1_likes bp1_letters bp1_waiting bp1_made cp1_count)) (ws' := (wdX9_fits cy b b_places bp1 bp1_kind bp1_first bp1_second bp1_parts bp1_likes bp1_letters bp1_waiting bp1_made c_kind c_size cp1_count cp1_kind)) (va_runV (As := [.int p2]) (rest := []) ⟨hx, hb, hml, hown, hts⟩ (mX5_has l D cy s.heap.size bp1 bp1_kind bp1_first bp1_second bp1_parts bp1_likes bp1_letters bp1_waiting bp1_made cp1_count p2 (r9) hq9) (cwV 1 hts gX9_fits_X5_has rfl rfl rfl ⟨rfl, cdX5_has⟩ ⟨Nat.le_of_ble_eq_true rfl, Nat.le_of_ble_eq_true rfl⟩) (zPV hK hP hD [1] rfl rfl (q0 := 1) (ci := 5) rfl rfl rfl) rfl rfl hl.1 rfl (lv_room (Nat.le_of_ble_eq_true rfl)) dX9_fits_9 ⟨Nat.zero_le _, Nat.zero_le _⟩) hP hD hS hA [1] [0, 2] [0, 2, 1] rfl rfl rfl rfl (fun H locs hn9 hP hD hS => ?_)
    refine lv_if_ne (tgt := 17) hx hb dX9_fits_12 (by decide) (fun hc12 => ?_) (fun hc12 => ?_)
    · replace h := zi_f hc12 h
      refine lv_aload_n hx hb dX9_fits_17 rfl (lv_at hl 0 rfl) ?_
      refine va_get (D := D) (ci := 9) (v := .int c_kind) (C := RX9) (T := TX9) (N := 3) hx hb hts uX9_fits_X9 hown hK.1 hP 0 rfl rfl 0 (by decide) (hts (.fieldLink RX9 9 "WishedResistor$Tray" "kind" "I") (List.mem_of_getElem? (i := 1) rfl)) (fun _ h9 => h9) rfl dX9_fits_18 ?_
      refine lv_iconst (v := (1 : Int32)) hx hb dX9_fits_21 (by decide) ?_
      have hJ30 : ∀ (s0_30 : Int32) (H : Heap) (locs : List Loc) (ls : Array Slot), va_P D vwCl (wdX9_fits cy b b_places bp1 bp1_kind bp1_first bp1_second bp1_parts bp1_likes bp1_letters bp1_waiting bp1_made c_kind c_size cp1_count cp1_kind) H → va_D A (wdX9_fits cy b b_places bp1 bp1_kind bp1_first bp1_second bp1_parts bp1_likes bp1_letters bp1_waiting bp1_made c_kind c_size cp1_count cp1_kind) → va_S A s.heap H locs → lv_has ls 3 [(1, .ref bp1), (2, .int p2)] → fX9_fits_J30 cp1_kind p2 s0_30 = some res → W p l e rmX9_fits s m args below meth c H locs 0 0 Q (F0 m 30 ls [.int s0_30]) := by
        intro s0_30 H locs ls hP hD hS hl h
        refine lv_aload_n hx hb dX9_fits_30 rfl (lv_at hl 0 rfl) ?_
        refine va_get (D := D) (ci := 5) (v := .ref bp1_kind) (C := RX5) (T := TX5) (N := 9) hx hb hts uX9_fits_X5 hown hK.1 hP 1 rfl rfl 0 (by decide) (hts (.fieldLink RX9 34 "WishedResistor$Nets" "kind" "[I") (List.mem_of_getElem? (i := 2) rfl)) (fun _ h9 => h9) rfl dX9_fits_31 ?_
        refine lv_iload_n hx hb dX9_fits_34 rfl (lv_at hl 1 rfl) ?_
        obtain ⟨hi35, h⟩ := zg_s h
        refine va_iald hx hb hK.1 hP 2 0 rfl rfl hi35 dX9_fits_35 ?_
        have hJ44 : ∀ (s1_44 : Int32) (H : Heap) (locs : List Loc) (ls : Array Slot), va_P D vwCl (wdX9_fits cy b b_places bp1 bp1_kind bp1_first bp1_second bp1_parts bp1_likes bp1_letters bp1_waiting bp1_made c_kind c_size cp1_count cp1_kind) H → va_D A (wdX9_fits cy b b_places bp1 bp1_kind bp1_first bp1_second bp1_parts bp1_likes bp1_letters bp1_waiting bp1_made c_kind c_size cp1_count cp1_kind) → va_S A s.heap H locs → lv_has ls 3 [] → fX9_fits_J44 s0_30 s1_44 = some res → W p l e rmX9_fits s m args below meth c H locs 0 0 Q (F0 m 44 ls [.int s1_44, .int s0_30]) := by
          intro s1_44 H locs ls hP hD hS hl h
          refine lv_icmp_ne (tgt := 51) hx hb dX9_fits_44 (by decide) (fun hc44 => ?_) (fun hc44 => ?_)
          · replace h := zi_f hc44 h
            refine lv_iconst (v := (0 : Int32)) hx hb dX9_fits_51 (by decide) ?_
            exact hret (o := ((0 : Int32))) h (show narrow .boolean (.int (0 : Int32)) = .int (0 : Int32) from by decide) hP hD hS dX9_fits_52
          · replace h := zi_t hc44 h
            refine lv_iconst (v := (1 : Int32)) hx hb dX9_fits_47 (by decide) ?_
            refine lv_goto (tgt := 52) hx hb dX9_fits_48 (by decide) ?_
            exact hret (o := ((1 : Int32))) h (show narrow .boolean (.int (1 : Int32)) = .int (1 : Int32) from by decide) hP hD hS dX9_fits_52
        refine lv_if_ne (tgt := 43) hx hb dX9_fits_36 (by decide) (fun hc36 => ?_) (fun hc36 => ?_)
        · replace h := zi_f hc36 h
          refine lv_iconst (v := (0 : Int32)) hx hb dX9_fits_43 (by decide) ?_
          exact hJ44 (0 : Int32) _ _ _ hP hD hS (lv_sub hl [] rfl) h
        · replace h := zi_t hc36 h
          refine lv_iconst (v := (1 : Int32)) hx hb dX9_fits_39 (by decide) ?_
          refine lv_goto (tgt := 44) hx hb dX9_fits_40 (by decide) ?_
          exact hJ44 (1 : Int32) _ _ _ hP hD hS (lv_sub hl [] rfl) h
      refine lv_icmp_ne (tgt := 29) hx hb dX9_fits_22 (by decide) (fun hc22 => ?_) (fun hc22 => ?_)
      · replace h := zi_f hc22 h
        refine lv_iconst (v := (0 : Int32)) hx hb dX9_fits_29 (by decide) ?_
        exact hJ30 (0 : Int32) _ _ _ hP hD hS (lv_sub hl [1, 2] rfl) h
      · replace h := zi_t hc22 h
        refine lv_iconst (v := (1 : Int32)) hx hb dX9_fits_25 (by decide) ?_
        refine lv_goto (tgt := 30) hx hb dX9_fits_26 (by decide) ?_
        exact hJ30 (1 : Int32) _ _ _ hP hD hS (lv_sub hl [1, 2] rfl) h
    · replace h := zi_t hc12 h
      refine lv_iconst (v := (1 : Int32)) hx hb dX9_fits_15 (by decide) ?_
      exact hret (o := ((1 : Int32))) h (show narrow .boolean (.int (1 : Int32)) = .int (1 : Int32) from by decide) hP hD hS dX9_fits_16
