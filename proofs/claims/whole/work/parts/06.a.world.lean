abbrev XS : Type := ((Nat → Int32) × (Nat → Int32)) × (Int32 × (Nat → Int32) × (Nat → Int32) × (Nat → Int32) × (Nat → Int32) × (Nat → Int32) × (Nat → Int32) × (Nat → Int32) × (Nat → Int32)) × (Int32 × Int32 × (Nat → Int32) × (Nat → Int32) × (Nat → Int32) × (Nat → UInt64) × (Nat → UInt32) × Int64 × Int64 × Int64 × Int64 × (Nat → Int64) × (Nat → Int64)) × (Int32 × (Nat → Int32) × (Nat → Int32)) × (Int32 × (Nat → Int32) × (Nat → Int32) × (Nat → Int32)) × (Int32 × Int32 × Int32 × (Nat → Int32) × (Nat → Int32) × (Nat → Int32) × (Nat → Int32) × (Nat → Int32) × (Nat → Int32) × (Nat → Int32) × (Nat → Int32) × (Nat → Int32) × (Nat → Int32)) × (Int32 × Int32 × (Nat → Int32) × (Nat → Int32) × (Nat → Int32) × (Nat → Int32) × Int64 × Int64 × Int64 × Int64) × (Int32 × Int32 × (Nat → Int32) × Int32 × Int32 × (Nat → Int32) × Int32 × Int32 × (Nat → Int32)) × ((Nat → Int32)) × (Int32 × (Nat → Int32) × (Nat → Int32) × Int32 × (Nat → Int32) × (Nat → Int32) × (Nat → Int32) × (Nat → Int32) × (Nat → Int32) × (Nat → Int32) × (Nat → Int32) × (Nat → Int32) × Int32 × Int32 × (Nat → Int32) × (Nat → Int32) × (Nat → Int32) × (Nat → Int32) × Int64 × Int64 × Int64 × Int64 × Int32 × Int32 × (Nat → Int32) × Int32 × Int32 × (Nat → Int32) × Int32 × Int32 × (Nat → Int32))
abbrev x_box_ohms (s : XS) : Nat → Int32 := s.1.1
abbrev x_box_spread (s : XS) : Nat → Int32 := s.1.2
abbrev x_nets_count (s : XS) : Int32 := s.2.1.1
abbrev x_nets_kind (s : XS) : Nat → Int32 := s.2.1.2.1
abbrev x_nets_first (s : XS) : Nat → Int32 := s.2.1.2.2.1
abbrev x_nets_second (s : XS) : Nat → Int32 := s.2.1.2.2.2.1
abbrev x_nets_parts (s : XS) : Nat → Int32 := s.2.1.2.2.2.2.1
abbrev x_nets_likes (s : XS) : Nat → Int32 := s.2.1.2.2.2.2.2.1
abbrev x_nets_letters (s : XS) : Nat → Int32 := s.2.1.2.2.2.2.2.2.1
abbrev x_nets_waiting (s : XS) : Nat → Int32 := s.2.1.2.2.2.2.2.2.2.1
abbrev x_nets_made (s : XS) : Nat → Int32 := s.2.1.2.2.2.2.2.2.2.2
abbrev x_meter_seed (s : XS) : Int32 := s.2.2.1.1
abbrev x_meter_plan_length (s : XS) : Int32 := s.2.2.1.2.1
abbrev x_meter_plan_kind (s : XS) : Nat → Int32 := s.2.2.1.2.2.1
abbrev x_meter_plan_sort (s : XS) : Nat → Int32 := s.2.2.1.2.2.2.1
abbrev x_meter_plan_waiting (s : XS) : Nat → Int32 := s.2.2.1.2.2.2.2.1
abbrev x_meter_doubles (s : XS) : Nat → UInt64 := s.2.2.1.2.2.2.2.2.1
abbrev x_meter_floats (s : XS) : Nat → UInt32 := s.2.2.1.2.2.2.2.2.2.1
abbrev x_meter_worth_above (s : XS) : Int64 := s.2.2.1.2.2.2.2.2.2.2.1
abbrev x_meter_worth_below (s : XS) : Int64 := s.2.2.1.2.2.2.2.2.2.2.2.1
abbrev x_meter_worst_above (s : XS) : Int64 := s.2.2.1.2.2.2.2.2.2.2.2.2.1
abbrev x_meter_worst_below (s : XS) : Int64 := s.2.2.1.2.2.2.2.2.2.2.2.2.2.1
abbrev x_meter_fractions_s_above (s : XS) : Nat → Int64 := s.2.2.1.2.2.2.2.2.2.2.2.2.2.2.1
abbrev x_meter_fractions_s_below (s : XS) : Nat → Int64 := s.2.2.1.2.2.2.2.2.2.2.2.2.2.2.2
abbrev x_tape_length (s : XS) : Int32 := s.2.2.2.1.1
abbrev x_tape_letters (s : XS) : Nat → Int32 := s.2.2.2.1.2.1
abbrev x_tape_joins (s : XS) : Nat → Int32 := s.2.2.2.1.2.2
abbrev x_plan_length (s : XS) : Int32 := s.2.2.2.2.1.1
abbrev x_plan_kind (s : XS) : Nat → Int32 := s.2.2.2.2.1.2.1
abbrev x_plan_sort (s : XS) : Nat → Int32 := s.2.2.2.2.1.2.2.1
abbrev x_plan_waiting (s : XS) : Nat → Int32 := s.2.2.2.2.1.2.2.2
abbrev x_found_size (s : XS) : Int32 := s.2.2.2.2.2.1.1
abbrev x_found_levels (s : XS) : Int32 := s.2.2.2.2.2.1.2.1
abbrev x_found_levelsInOrder (s : XS) : Int32 := s.2.2.2.2.2.1.2.2.1
abbrev x_found_above (s : XS) : Nat → Int32 := s.2.2.2.2.2.1.2.2.2.1
abbrev x_found_below (s : XS) : Nat → Int32 := s.2.2.2.2.2.1.2.2.2.2.1
abbrev x_found_kind (s : XS) : Nat → Int32 := s.2.2.2.2.2.1.2.2.2.2.2.1
abbrev x_found_first (s : XS) : Nat → Int32 := s.2.2.2.2.2.1.2.2.2.2.2.2.1
abbrev x_found_second (s : XS) : Nat → Int32 := s.2.2.2.2.2.1.2.2.2.2.2.2.2.1
abbrev x_found_order (s : XS) : Nat → Int32 := s.2.2.2.2.2.1.2.2.2.2.2.2.2.2.1
abbrev x_found_merged (s : XS) : Nat → Int32 := s.2.2.2.2.2.1.2.2.2.2.2.2.2.2.2.1
abbrev x_found_table (s : XS) : Nat → Int32 := s.2.2.2.2.2.1.2.2.2.2.2.2.2.2.2.2.1
abbrev x_found_start (s : XS) : Nat → Int32 := s.2.2.2.2.2.1.2.2.2.2.2.2.2.2.2.2.2.1
abbrev x_found_builtFor (s : XS) : Nat → Int32 := s.2.2.2.2.2.1.2.2.2.2.2.2.2.2.2.2.2.2
abbrev x_mesh_points (s : XS) : Int32 := s.2.2.2.2.2.2.1.1
abbrev x_mesh_edges (s : XS) : Int32 := s.2.2.2.2.2.2.1.2.1
abbrev x_mesh_one (s : XS) : Nat → Int32 := s.2.2.2.2.2.2.1.2.2.1
abbrev x_mesh_other (s : XS) : Nat → Int32 := s.2.2.2.2.2.2.1.2.2.2.1
abbrev x_mesh_ohms (s : XS) : Nat → Int32 := s.2.2.2.2.2.2.1.2.2.2.2.1
abbrev x_mesh_trees (s : XS) : Nat → Int32 := s.2.2.2.2.2.2.1.2.2.2.2.2.1
abbrev x_mesh_worth_above (s : XS) : Int64 := s.2.2.2.2.2.2.1.2.2.2.2.2.2.1
abbrev x_mesh_worth_below (s : XS) : Int64 := s.2.2.2.2.2.2.1.2.2.2.2.2.2.2.1
abbrev x_mesh_best_above (s : XS) : Int64 := s.2.2.2.2.2.2.1.2.2.2.2.2.2.2.2.1
abbrev x_mesh_best_below (s : XS) : Int64 := s.2.2.2.2.2.2.1.2.2.2.2.2.2.2.2.2
abbrev x_trays_e0_kind (s : XS) : Int32 := s.2.2.2.2.2.2.2.1.1
abbrev x_trays_e0_size (s : XS) : Int32 := s.2.2.2.2.2.2.2.1.2.1
abbrev x_trays_e0_places (s : XS) : Nat → Int32 := s.2.2.2.2.2.2.2.1.2.2.1
abbrev x_trays_e1_kind (s : XS) : Int32 := s.2.2.2.2.2.2.2.1.2.2.2.1
abbrev x_trays_e1_size (s : XS) : Int32 := s.2.2.2.2.2.2.2.1.2.2.2.2.1
abbrev x_trays_e1_places (s : XS) : Nat → Int32 := s.2.2.2.2.2.2.2.1.2.2.2.2.2.1
abbrev x_trays_e2_kind (s : XS) : Int32 := s.2.2.2.2.2.2.2.1.2.2.2.2.2.2.1
abbrev x_trays_e2_size (s : XS) : Int32 := s.2.2.2.2.2.2.2.1.2.2.2.2.2.2.2.1
abbrev x_trays_e2_places (s : XS) : Nat → Int32 := s.2.2.2.2.2.2.2.1.2.2.2.2.2.2.2.2
abbrev x_moved (s : XS) : Nat → Int32 := s.2.2.2.2.2.2.2.2.1
abbrev x_kept_isTaken (s : XS) : Int32 := s.2.2.2.2.2.2.2.2.2.1
abbrev x_kept_box_ohms (s : XS) : Nat → Int32 := s.2.2.2.2.2.2.2.2.2.2.1
abbrev x_kept_box_spread (s : XS) : Nat → Int32 := s.2.2.2.2.2.2.2.2.2.2.2.1
abbrev x_kept_nets_count (s : XS) : Int32 := s.2.2.2.2.2.2.2.2.2.2.2.2.1
abbrev x_kept_nets_kind (s : XS) : Nat → Int32 := s.2.2.2.2.2.2.2.2.2.2.2.2.2.1
abbrev x_kept_nets_first (s : XS) : Nat → Int32 := s.2.2.2.2.2.2.2.2.2.2.2.2.2.2.1
abbrev x_kept_nets_second (s : XS) : Nat → Int32 := s.2.2.2.2.2.2.2.2.2.2.2.2.2.2.2.1
abbrev x_kept_nets_parts (s : XS) : Nat → Int32 := s.2.2.2.2.2.2.2.2.2.2.2.2.2.2.2.2.1
abbrev x_kept_nets_likes (s : XS) : Nat → Int32 := s.2.2.2.2.2.2.2.2.2.2.2.2.2.2.2.2.2.1
abbrev x_kept_nets_letters (s : XS) : Nat → Int32 := s.2.2.2.2.2.2.2.2.2.2.2.2.2.2.2.2.2.2.1
abbrev x_kept_nets_waiting (s : XS) : Nat → Int32 := s.2.2.2.2.2.2.2.2.2.2.2.2.2.2.2.2.2.2.2.1
abbrev x_kept_nets_made (s : XS) : Nat → Int32 := s.2.2.2.2.2.2.2.2.2.2.2.2.2.2.2.2.2.2.2.2.1
abbrev x_kept_mesh_points (s : XS) : Int32 := s.2.2.2.2.2.2.2.2.2.2.2.2.2.2.2.2.2.2.2.2.2.1
abbrev x_kept_mesh_edges (s : XS) : Int32 := s.2.2.2.2.2.2.2.2.2.2.2.2.2.2.2.2.2.2.2.2.2.2.1
abbrev x_kept_mesh_one (s : XS) : Nat → Int32 := s.2.2.2.2.2.2.2.2.2.2.2.2.2.2.2.2.2.2.2.2.2.2.2.1
abbrev x_kept_mesh_other (s : XS) : Nat → Int32 := s.2.2.2.2.2.2.2.2.2.2.2.2.2.2.2.2.2.2.2.2.2.2.2.2.1
abbrev x_kept_mesh_ohms (s : XS) : Nat → Int32 := s.2.2.2.2.2.2.2.2.2.2.2.2.2.2.2.2.2.2.2.2.2.2.2.2.2.1
abbrev x_kept_mesh_trees (s : XS) : Nat → Int32 := s.2.2.2.2.2.2.2.2.2.2.2.2.2.2.2.2.2.2.2.2.2.2.2.2.2.2.1
abbrev x_kept_mesh_worth_above (s : XS) : Int64 := s.2.2.2.2.2.2.2.2.2.2.2.2.2.2.2.2.2.2.2.2.2.2.2.2.2.2.2.1
abbrev x_kept_mesh_worth_below (s : XS) : Int64 := s.2.2.2.2.2.2.2.2.2.2.2.2.2.2.2.2.2.2.2.2.2.2.2.2.2.2.2.2.1
abbrev x_kept_mesh_best_above (s : XS) : Int64 := s.2.2.2.2.2.2.2.2.2.2.2.2.2.2.2.2.2.2.2.2.2.2.2.2.2.2.2.2.2.1
abbrev x_kept_mesh_best_below (s : XS) : Int64 := s.2.2.2.2.2.2.2.2.2.2.2.2.2.2.2.2.2.2.2.2.2.2.2.2.2.2.2.2.2.2.1
abbrev x_kept_trays_e0_kind (s : XS) : Int32 := s.2.2.2.2.2.2.2.2.2.2.2.2.2.2.2.2.2.2.2.2.2.2.2.2.2.2.2.2.2.2.2.1
abbrev x_kept_trays_e0_size (s : XS) : Int32 := s.2.2.2.2.2.2.2.2.2.2.2.2.2.2.2.2.2.2.2.2.2.2.2.2.2.2.2.2.2.2.2.2.1
abbrev x_kept_trays_e0_places (s : XS) : Nat → Int32 := s.2.2.2.2.2.2.2.2.2.2.2.2.2.2.2.2.2.2.2.2.2.2.2.2.2.2.2.2.2.2.2.2.2.1
abbrev x_kept_trays_e1_kind (s : XS) : Int32 := s.2.2.2.2.2.2.2.2.2.2.2.2.2.2.2.2.2.2.2.2.2.2.2.2.2.2.2.2.2.2.2.2.2.2.1
abbrev x_kept_trays_e1_size (s : XS) : Int32 := s.2.2.2.2.2.2.2.2.2.2.2.2.2.2.2.2.2.2.2.2.2.2.2.2.2.2.2.2.2.2.2.2.2.2.2.1
abbrev x_kept_trays_e1_places (s : XS) : Nat → Int32 := s.2.2.2.2.2.2.2.2.2.2.2.2.2.2.2.2.2.2.2.2.2.2.2.2.2.2.2.2.2.2.2.2.2.2.2.2.1
abbrev x_kept_trays_e2_kind (s : XS) : Int32 := s.2.2.2.2.2.2.2.2.2.2.2.2.2.2.2.2.2.2.2.2.2.2.2.2.2.2.2.2.2.2.2.2.2.2.2.2.2.1
abbrev x_kept_trays_e2_size (s : XS) : Int32 := s.2.2.2.2.2.2.2.2.2.2.2.2.2.2.2.2.2.2.2.2.2.2.2.2.2.2.2.2.2.2.2.2.2.2.2.2.2.2.1
abbrev x_kept_trays_e2_places (s : XS) : Nat → Int32 := s.2.2.2.2.2.2.2.2.2.2.2.2.2.2.2.2.2.2.2.2.2.2.2.2.2.2.2.2.2.2.2.2.2.2.2.2.2.2.2
def x0 : XS := (((fun _ => 0), (fun _ => 0)), (0, (fun _ => 0), (fun _ => 0), (fun _ => 0), (fun _ => 0), (fun _ => 0), (fun _ => 0), (fun _ => 0), (fun _ => 0)), (0, 0, (fun _ => 0), (fun _ => 0), (fun _ => 0), (fun _ => 0), (fun _ => 0), 0, (1 : Int64), 0, (1 : Int64), (fun _ => 0), (fun _ => (1 : Int64))), (0, (fun _ => 0), (fun _ => 0)), (0, (fun _ => 0), (fun _ => 0), (fun _ => 0)), (0, 0, 0, (fun _ => 0), (fun _ => 0), (fun _ => 0), (fun _ => 0), (fun _ => 0), (fun _ => 0), (fun _ => 0), (fun _ => 0), (fun _ => 0), (fun _ => 0)), ((4 : Int32), 0, (fun _ => 0), (fun _ => 0), (fun _ => 0), (fun _ => 0), 0, (1 : Int64), 0, (1 : Int64)), ((-1 : Int32), 0, (fun _ => 0), (-1 : Int32), 0, (fun _ => 0), (-1 : Int32), 0, (fun _ => 0)), (fun _ => 0), (0, (fun _ => 0), (fun _ => 0), 0, (fun _ => 0), (fun _ => 0), (fun _ => 0), (fun _ => 0), (fun _ => 0), (fun _ => 0), (fun _ => 0), (fun _ => 0), (4 : Int32), 0, (fun _ => 0), (fun _ => 0), (fun _ => 0), (fun _ => 0), 0, (1 : Int64), 0, (1 : Int64), (-1 : Int32), 0, (fun _ => 0), (-1 : Int32), 0, (fun _ => 0), (-1 : Int32), 0, (fun _ => 0)))
abbrev wXS (cy : Nat → ClassId) (b : Nat) (u : Nat → Nat) (s : XS) : va_W := ((b, .inr (10, [.ref (u 0), .ref (u 3), .ref (u 12), .ref (u 34), .ref (u 37), .ref (u 41), .ref (u 52), .ref (u 59), .ref (u 66), .ref (u 67)])) :: ((u 0), .inr (0, [.ref (u 1), .ref (u 2)])) :: ((u 1), .inl (cy 0, 4, .inl (x_box_ohms s))) :: ((u 2), .inl (cy 0, 4, .inl (x_box_spread s))) :: ((u 3), .inr (5, [.ref (u 4), .ref (u 5), .ref (u 6), .ref (u 7), .int (x_nets_count s), .ref (u 8), .ref (u 9), .ref (u 10), .ref (u 11)])) :: ((u 4), .inl (cy 0, 40, .inl (x_nets_kind s))) :: ((u 5), .inl (cy 0, 40, .inl (x_nets_first s))) :: ((u 6), .inl (cy 0, 40, .inl (x_nets_second s))) :: ((u 7), .inl (cy 0, 40, .inl (x_nets_parts s))) :: ((u 8), .inl (cy 0, 40, .inl (x_nets_likes s))) :: ((u 9), .inl (cy 0, 45, .inl (x_nets_letters s))) :: ((u 10), .inl (cy 0, 60, .inl (x_nets_waiting s))) :: ((u 11), .inl (cy 0, 12, .inl (x_nets_made s))) :: ((u 12), .inr (4, [.ref (u 0), .ref (u 3), .ref (u 13), .ref (u 17), .ref (u 18), .ref (u 19), .ref (u 20), .ref (u 21), .int (x_meter_seed s)])) :: ((u 13), .inr (6, [.ref (u 14), .ref (u 15), .int (x_meter_plan_length s), .ref (u 16)])) :: ((u 14), .inl (cy 0, 23, .inl (x_meter_plan_kind s))) :: ((u 15), .inl (cy 0, 23, .inl (x_meter_plan_sort s))) :: ((u 16), .inl (cy 0, 24, .inl (x_meter_plan_waiting s))) :: (u 17, .inl (cy 5, 12, .inr (.inr (.inr (.inr (fun k => some (u (22 + k)))))))) :: ((u 18), .inl (cy 3, 12, .inr (.inr (.inr (.inl (x_meter_doubles s)))))) :: ((u 19), .inl (cy 2, 12, .inr (.inr (.inl (x_meter_floats s))))) :: ((u 20), .inr (1, [.long (x_meter_worth_above s), .long (x_meter_worth_below s)])) :: ((u 21), .inr (1, [.long (x_meter_worst_above s), .long (x_meter_worst_below s)])) :: ((u 22), .inr (1, [.long (x_meter_fractions_s_above s 0), .long (x_meter_fractions_s_below s 0)])) :: ((u 23), .inr (1, [.long (x_meter_fractions_s_above s 1), .long (x_meter_fractions_s_below s 1)])) :: ((u 24), .inr (1, [.long (x_meter_fractions_s_above s 2), .long (x_meter_fractions_s_below s 2)])) :: ((u 25), .inr (1, [.long (x_meter_fractions_s_above s 3), .long (x_meter_fractions_s_below s 3)])) :: ((u 26), .inr (1, [.long (x_meter_fractions_s_above s 4), .long (x_meter_fractions_s_below s 4)])) :: ((u 27), .inr (1, [.long (x_meter_fractions_s_above s 5), .long (x_meter_fractions_s_below s 5)])) :: ((u 28), .inr (1, [.long (x_meter_fractions_s_above s 6), .long (x_meter_fractions_s_below s 6)])) :: ((u 29), .inr (1, [.long (x_meter_fractions_s_above s 7), .long (x_meter_fractions_s_below s 7)])) :: ((u 30), .inr (1, [.long (x_meter_fractions_s_above s 8), .long (x_meter_fractions_s_below s 8)])) :: ((u 31), .inr (1, [.long (x_meter_fractions_s_above s 9), .long (x_meter_fractions_s_below s 9)])) :: ((u 32), .inr (1, [.long (x_meter_fractions_s_above s 10), .long (x_meter_fractions_s_below s 10)])) :: ((u 33), .inr (1, [.long (x_meter_fractions_s_above s 11), .long (x_meter_fractions_s_below s 11)])) :: ((u 34), .inr (8, [.ref (u 35), .int (x_tape_length s), .ref (u 36)])) :: ((u 35), .inl (cy 0, 60, .inl (x_tape_letters s))) :: ((u 36), .inl (cy 0, 11, .inl (x_tape_joins s))) :: ((u 37), .inr (6, [.ref (u 38), .ref (u 39), .int (x_plan_length s), .ref (u 40)])) :: ((u 38), .inl (cy 0, 23, .inl (x_plan_kind s))) :: ((u 39), .inl (cy 0, 23, .inl (x_plan_sort s))) :: ((u 40), .inl (cy 0, 24, .inl (x_plan_waiting s))) :: ((u 41), .inr (7, [.ref (u 0), .ref (u 42), .ref (u 43), .ref (u 44), .ref (u 45), .ref (u 46), .ref (u 47), .ref (u 48), .ref (u 49), .ref (u 50), .ref (u 51), .int (x_found_size s), .int (x_found_levels s), .int (x_found_levelsInOrder s)])) :: ((u 42), .inl (cy 0, 1884, .inl (x_found_above s))) :: ((u 43), .inl (cy 0, 1884, .inl (x_found_below s))) :: ((u 44), .inl (cy 0, 1884, .inl (x_found_kind s))) :: ((u 45), .inl (cy 0, 1884, .inl (x_found_first s))) :: ((u 46), .inl (cy 0, 1884, .inl (x_found_second s))) :: ((u 47), .inl (cy 0, 1884, .inl (x_found_order s))) :: ((u 48), .inl (cy 0, 1884, .inl (x_found_merged s))) :: ((u 49), .inl (cy 0, 4096, .inl (x_found_table s))) :: ((u 50), .inl (cy 0, 6, .inl (x_found_start s))) :: ((u 51), .inl (cy 0, 4, .inl (x_found_builtFor s))) :: ((u 52), .inr (3, [.int (x_mesh_points s), .int (x_mesh_edges s), .ref (u 53), .ref (u 54), .ref (u 55), .ref (u 56), .ref (u 57), .ref (u 58)])) :: ((u 53), .inl (cy 0, 8, .inl (x_mesh_one s))) :: ((u 54), .inl (cy 0, 8, .inl (x_mesh_other s))) :: ((u 55), .inl (cy 0, 8, .inl (x_mesh_ohms s))) :: ((u 56), .inl (cy 0, 6, .inl (x_mesh_trees s))) :: ((u 57), .inr (1, [.long (x_mesh_worth_above s), .long (x_mesh_worth_below s)])) :: ((u 58), .inr (1, [.long (x_mesh_best_above s), .long (x_mesh_best_below s)])) :: (u 59, .inl (cy 4, 3, .inr (.inr (.inr (.inr (va_up (va_up (va_up (fun _ => none) 0 (some (u 60))) 1 (some (u 62))) 2 (some (u 64)))))))) :: ((u 60), .inr (9, [.int (x_trays_e0_kind s), .int (x_trays_e0_size s), .ref (u 61)])) :: ((u 61), .inl (cy 0, 20, .inl (x_trays_e0_places s))) :: ((u 62), .inr (9, [.int (x_trays_e1_kind s), .int (x_trays_e1_size s), .ref (u 63)])) :: ((u 63), .inl (cy 0, 20, .inl (x_trays_e1_places s))) :: ((u 64), .inr (9, [.int (x_trays_e2_kind s), .int (x_trays_e2_size s), .ref (u 65)])) :: ((u 65), .inl (cy 0, 20, .inl (x_trays_e2_places s))) :: ((u 66), .inl (cy 0, 20, .inl (x_moved s))) :: ((u 67), .inr (2, [.ref (u 68), .ref (u 71), .ref (u 80), .ref (u 87), .int (x_kept_isTaken s)])) :: ((u 68), .inr (0, [.ref (u 69), .ref (u 70)])) :: ((u 69), .inl (cy 0, 4, .inl (x_kept_box_ohms s))) :: ((u 70), .inl (cy 0, 4, .inl (x_kept_box_spread s))) :: ((u 71), .inr (5, [.ref (u 72), .ref (u 73), .ref (u 74), .ref (u 75), .int (x_kept_nets_count s), .ref (u 76), .ref (u 77), .ref (u 78), .ref (u 79)])) :: ((u 72), .inl (cy 0, 40, .inl (x_kept_nets_kind s))) :: ((u 73), .inl (cy 0, 40, .inl (x_kept_nets_first s))) :: ((u 74), .inl (cy 0, 40, .inl (x_kept_nets_second s))) :: ((u 75), .inl (cy 0, 40, .inl (x_kept_nets_parts s))) :: ((u 76), .inl (cy 0, 40, .inl (x_kept_nets_likes s))) :: ((u 77), .inl (cy 0, 45, .inl (x_kept_nets_letters s))) :: ((u 78), .inl (cy 0, 60, .inl (x_kept_nets_waiting s))) :: ((u 79), .inl (cy 0, 12, .inl (x_kept_nets_made s))) :: ((u 80), .inr (3, [.int (x_kept_mesh_points s), .int (x_kept_mesh_edges s), .ref (u 81), .ref (u 82), .ref (u 83), .ref (u 84), .ref (u 85), .ref (u 86)])) :: ((u 81), .inl (cy 0, 8, .inl (x_kept_mesh_one s))) :: ((u 82), .inl (cy 0, 8, .inl (x_kept_mesh_other s))) :: ((u 83), .inl (cy 0, 8, .inl (x_kept_mesh_ohms s))) :: ((u 84), .inl (cy 0, 6, .inl (x_kept_mesh_trees s))) :: ((u 85), .inr (1, [.long (x_kept_mesh_worth_above s), .long (x_kept_mesh_worth_below s)])) :: ((u 86), .inr (1, [.long (x_kept_mesh_best_above s), .long (x_kept_mesh_best_below s)])) :: (u 87, .inl (cy 4, 3, .inr (.inr (.inr (.inr (va_up (va_up (va_up (fun _ => none) 0 (some (u 88))) 1 (some (u 90))) 2 (some (u 92)))))))) :: ((u 88), .inr (9, [.int (x_kept_trays_e0_kind s), .int (x_kept_trays_e0_size s), .ref (u 89)])) :: ((u 89), .inl (cy 0, 20, .inl (x_kept_trays_e0_places s))) :: ((u 90), .inr (9, [.int (x_kept_trays_e1_kind s), .int (x_kept_trays_e1_size s), .ref (u 91)])) :: ((u 91), .inl (cy 0, 20, .inl (x_kept_trays_e1_places s))) :: ((u 92), .inr (9, [.int (x_kept_trays_e2_kind s), .int (x_kept_trays_e2_size s), .ref (u 93)])) :: ((u 93), .inl (cy 0, 20, .inl (x_kept_trays_e2_places s))) :: [])
abbrev MS : Type := (Int32 × Int64 × Int64 × Int32 × Int32 × Int32) × (Int32 × Int32 × Int32 × Int32 × (Nat → Int32) × (Nat → Int32)) × ((Nat → Int64) × (Nat → Int64) × (Nat → UInt64) × (Nat → UInt32) × (Nat → Int32) × (Nat → Int32)) × ((Nat → UInt32) × (Nat → Int32) × (Nat → Int64) × (Nat → Int64) × (Nat → Int32) × (Nat → Int32)) × ((Nat → Int32) × (Nat → Int32) × (Nat → Int64) × (Nat → Int64) × (Nat → Int32) × (Nat → Int32)) × ((Nat → Int32) × (Nat → Int32) × (Nat → Int32))
abbrev m_hasImage (s : MS) : Int32 := s.1.1
abbrev m_above (s : MS) : Int64 := s.1.2.1
abbrev m_below (s : MS) : Int64 := s.1.2.2.1
abbrev m_orderMany (s : MS) : Int32 := s.1.2.2.2.1
abbrev m_waitMany (s : MS) : Int32 := s.1.2.2.2.2.1
abbrev m_seed (s : MS) : Int32 := s.1.2.2.2.2.2
abbrev m_size (s : MS) : Int32 := s.2.1.1
abbrev m_openMany (s : MS) : Int32 := s.2.1.2.1
abbrev m_paperMany (s : MS) : Int32 := s.2.1.2.2.1
abbrev m_reachMany (s : MS) : Int32 := s.2.1.2.2.2.1
abbrev m_now (s : MS) : Nat → Int32 := s.2.1.2.2.2.2.1
abbrev m_imaged (s : MS) : Nat → Int32 := s.2.1.2.2.2.2.2
abbrev m_valueUp (s : MS) : Nat → Int64 := s.2.2.1.1
abbrev m_valueDown (s : MS) : Nat → Int64 := s.2.2.1.2.1
abbrev m_real (s : MS) : Nat → UInt64 := s.2.2.1.2.2.1
abbrev m_brief (s : MS) : Nat → UInt32 := s.2.2.1.2.2.2.1
abbrev m_order (s : MS) : Nat → Int32 := s.2.2.1.2.2.2.2.1
abbrev m_waits (s : MS) : Nat → Int32 := s.2.2.1.2.2.2.2.2
abbrev m_floats (s : MS) : Nat → UInt32 := s.2.2.2.1.1
abbrev m_same (s : MS) : Nat → Int32 := s.2.2.2.1.2.1
abbrev m_upOf (s : MS) : Nat → Int64 := s.2.2.2.1.2.2.1
abbrev m_downOf (s : MS) : Nat → Int64 := s.2.2.2.1.2.2.2.1
abbrev m_tape (s : MS) : Nat → Int32 := s.2.2.2.1.2.2.2.2.1
abbrev m_open (s : MS) : Nat → Int32 := s.2.2.2.1.2.2.2.2.2
abbrev m_made (s : MS) : Nat → Int32 := s.2.2.2.2.1.1
abbrev m_paper (s : MS) : Nat → Int32 := s.2.2.2.2.1.2.1
abbrev m_reachUp (s : MS) : Nat → Int64 := s.2.2.2.2.1.2.2.1
abbrev m_reachDown (s : MS) : Nat → Int64 := s.2.2.2.2.1.2.2.2.1
abbrev m_reachHow (s : MS) : Nat → Int32 := s.2.2.2.2.1.2.2.2.2.1
abbrev m_reachFirst (s : MS) : Nat → Int32 := s.2.2.2.2.1.2.2.2.2.2
abbrev m_reachSecond (s : MS) : Nat → Int32 := s.2.2.2.2.2.1
abbrev m_begins (s : MS) : Nat → Int32 := s.2.2.2.2.2.2.1
abbrev m_carried (s : MS) : Nat → Int32 := s.2.2.2.2.2.2.2
def m0 : MS := ((0, 0, 0, 0, 0, 0), (0, 0, 0, 0, (upd (upd (upd (upd (fun _ => 0) ((169 : Int32)).toNatClampNeg (4 : Int32)) (((195 : Int32) + ((2 : Int32) * (0 : Int32)))).toNatClampNeg (-1 : Int32)) (((195 : Int32) + ((2 : Int32) * (1 : Int32)))).toNatClampNeg (-1 : Int32)) (((195 : Int32) + ((2 : Int32) * (2 : Int32)))).toNatClampNeg (-1 : Int32)), (fun _ => 0)), ((fun _ => 0), (fun _ => 0), (fun _ => 0), (fun _ => 0), (fun _ => 0), (fun _ => 0)), ((fun _ => 0), (fun _ => 0), (fun _ => 0), (fun _ => 0), (fun _ => 0), (fun _ => 0)), ((fun _ => 0), (fun _ => 0), (fun _ => 0), (fun _ => 0), (fun _ => 0), (fun _ => 0)), ((fun _ => 0), (fun _ => 0), (fun _ => 0)))
abbrev wMS (cy : Nat → ClassId) (b : Nat) (u : Nat → Nat) (s : MS) : va_W := ((b, .inr (11, [.ref (u 0), .ref (u 1), .int (m_hasImage s), .long (m_above s), .long (m_below s), .ref (u 2), .ref (u 3), .ref (u 4), .ref (u 5), .ref (u 6), .int (m_orderMany s), .ref (u 7), .int (m_waitMany s), .ref (u 8), .int (m_seed s), .ref (u 9), .ref (u 10), .ref (u 11), .ref (u 12), .int (m_size s), .ref (u 13), .int (m_openMany s), .ref (u 14), .ref (u 15), .int (m_paperMany s), .ref (u 16), .ref (u 17), .ref (u 18), .ref (u 19), .ref (u 20), .ref (u 21), .int (m_reachMany s), .ref (u 22)])) :: ((u 0), .inl (cy 0, 261, .inl (m_now s))) :: ((u 1), .inl (cy 0, 261, .inl (m_imaged s))) :: ((u 2), .inl (cy 1, 40, .inr (.inl (m_valueUp s)))) :: ((u 3), .inl (cy 1, 40, .inr (.inl (m_valueDown s)))) :: ((u 4), .inl (cy 3, 40, .inr (.inr (.inr (.inl (m_real s)))))) :: ((u 5), .inl (cy 2, 40, .inr (.inr (.inl (m_brief s))))) :: ((u 6), .inl (cy 0, 24, .inl (m_order s))) :: ((u 7), .inl (cy 0, 40, .inl (m_waits s))) :: ((u 8), .inl (cy 2, 24, .inr (.inr (.inl (m_floats s))))) :: ((u 9), .inl (cy 0, 40, .inl (m_same s))) :: ((u 10), .inl (cy 1, 24, .inr (.inl (m_upOf s)))) :: ((u 11), .inl (cy 1, 24, .inr (.inl (m_downOf s)))) :: ((u 12), .inl (cy 0, 60, .inl (m_tape s))) :: ((u 13), .inl (cy 0, 12, .inl (m_open s))) :: ((u 14), .inl (cy 0, 24, .inl (m_made s))) :: ((u 15), .inl (cy 0, 60, .inl (m_paper s))) :: ((u 16), .inl (cy 1, 2000, .inr (.inl (m_reachUp s)))) :: ((u 17), .inl (cy 1, 2000, .inr (.inl (m_reachDown s)))) :: ((u 18), .inl (cy 0, 2000, .inl (m_reachHow s))) :: ((u 19), .inl (cy 0, 2000, .inl (m_reachFirst s))) :: ((u 20), .inl (cy 0, 2000, .inl (m_reachSecond s))) :: ((u 21), .inl (cy 0, 6, .inl (m_begins s))) :: ((u 22), .inl (cy 0, 20, .inl (m_carried s))) :: [])
def stX10_sort (p1 p2 p3 : Int32) (s : XS) : Option (Int32 × XS) :=
  zb3 (fX10_sort p1 p2 p3 (x_nets_count s) (x_nets_kind s) (x_nets_first s) (x_nets_second s) (x_box_ohms s) (x_box_spread s)) (fun r v0 v1 => some (r, ((v0, v1), s.2)))
def stX11_sort (p1 p2 p3 : Int32) (s : MS) : Option (Int32 × MS) :=
  zb2 (fX11_sort p1 p2 p3 (m_now s)) (fun r v0 => some (r, (s.1, (s.2.1.1, s.2.1.2.1, s.2.1.2.2.1, s.2.1.2.2.2.1, v0, s.2.1.2.2.2.2.2), s.2.2)))
def stX10_ofSort (p1 p2 : Int32) (s : XS) : Option (Int32 × XS) :=
  zb1 (fX10_ofSort p1 p2 (x_nets_count s) (x_nets_kind s) (x_nets_first s) (x_nets_second s) (x_box_spread s) (x_box_ohms s)) (fun r => some (r, s))
def stX11_ofSort (p1 p2 : Int32) (s : MS) : Option (Int32 × MS) :=
  zb1 (fX11_ofSort p1 p2 (m_now s)) (fun r => some (r, s))
def stX10_part (p1 : Int32) (s : XS) : Option (Int32 × XS) :=
  zb6 (fX10_part p1 (x_box_ohms s) (x_nets_count s) (x_nets_kind s) (x_nets_first s) (x_nets_second s) (x_nets_parts s)) (fun r v0 v1 v2 v3 v4 => some (r, (s.1, (v0, v1, v2, v3, v4, s.2.1.2.2.2.2.2), s.2.2)))
def stX11_part (p1 : Int32) (s : MS) : Option (Int32 × MS) :=
  zb2 (fX11_part p1 (m_now s)) (fun r v0 => some (r, (s.1, (s.2.1.1, s.2.1.2.1, s.2.1.2.2.1, s.2.1.2.2.2.1, v0, s.2.1.2.2.2.2.2), s.2.2)))
def stX10_join (p1 p2 p3 : Int32) (s : XS) : Option (Int32 × XS) :=
  zb6 (fX10_join p1 p2 p3 (x_nets_count s) (x_nets_parts s) (x_nets_kind s) (x_nets_first s) (x_nets_second s)) (fun r v0 v1 v2 v3 v4 => some (r, (s.1, (v0, v2, v3, v4, v1, s.2.1.2.2.2.2.2), s.2.2)))
def stX11_join (p1 p2 p3 : Int32) (s : MS) : Option (Int32 × MS) :=
  zb2 (fX11_join p1 p2 p3 (m_now s)) (fun r v0 => some (r, (s.1, (s.2.1.1, s.2.1.2.1, s.2.1.2.2.1, s.2.1.2.2.2.1, v0, s.2.1.2.2.2.2.2), s.2.2)))
def stX10_net (p1 p2 : Int32) (s : XS) : Option (Int32 × XS) :=
  zb1 (fX10_net p1 p2 (x_nets_count s) (x_nets_kind s) (x_nets_first s) (x_nets_second s) (x_nets_parts s)) (fun r => some (r, s))
def stX11_net (p1 p2 : Int32) (s : MS) : Option (Int32 × MS) :=
  zb1 (fX11_net p1 p2 (m_now s)) (fun r => some (r, s))
def stX10_value (p1 p2 : Int32) (s : XS) : Option (Int64 × XS) :=
  zb9 (fX10_value p1 p2 (x_nets_count s) (x_nets_parts s) (x_meter_plan_length s) (x_meter_plan_waiting s) (x_nets_kind s) (x_meter_plan_kind s) (x_nets_first s) (x_meter_plan_sort s) (x_nets_second s) (x_box_ohms s) (x_meter_worth_above s) (x_meter_worth_below s) (x_meter_fractions_s_above s) (x_meter_fractions_s_below s)) (fun r v0 v1 v2 v3 v4 v5 v6 v7 => some (r, (s.1, s.2.1, (s.2.2.1.1, v0, v2, v3, v1, s.2.2.1.2.2.2.2.2.1, s.2.2.1.2.2.2.2.2.2.1, v4, v5, s.2.2.1.2.2.2.2.2.2.2.2.2.1, s.2.2.1.2.2.2.2.2.2.2.2.2.2.1, v6, v7), s.2.2.2)))
def stX11_value (p1 p2 : Int32) (s : MS) : Option (Int64 × MS) :=
  zb5 (fX11_value p1 p2 (m_above s) (m_below s) (m_now s) (m_valueUp s) (m_valueDown s)) (fun r v0 v1 v2 v3 => some (r, ((s.1.1, v0, v1, s.1.2.2.2), s.2.1, (v2, v3, s.2.2.1.2.2), s.2.2.2)))
def stX10_ends (p1 p2 : Int32) (s : XS) : Option (Int64 × XS) :=
  zb6 (fX10_ends p1 p2 (x_nets_count s) (x_nets_parts s) (x_meter_plan_length s) (x_meter_plan_waiting s) (x_nets_kind s) (x_meter_plan_kind s) (x_nets_first s) (x_meter_plan_sort s) (x_nets_second s) (x_box_ohms s) (x_box_spread s) (x_meter_doubles s)) (fun r v0 v1 v2 v3 v4 => some (r, (s.1, s.2.1, (s.2.2.1.1, v0, v2, v3, v1, v4, s.2.2.1.2.2.2.2.2.2), s.2.2.2)))
def stX11_ends (p1 p2 : Int32) (s : MS) : Option (Int64 × MS) :=
  zb2 (fX11_ends p1 p2 (m_now s) (m_real s)) (fun r v0 => some (r, (s.1, s.2.1, (s.2.2.1.1, s.2.2.1.2.1, v0, s.2.2.1.2.2.2), s.2.2.2)))
def stX10_shortly (p1 : Int32) (s : XS) : Option (Int64 × XS) :=
  zb7 (fX10_shortly p1 (x_nets_count s) (x_meter_seed s) (x_nets_parts s) (x_meter_plan_length s) (x_meter_plan_waiting s) (x_nets_kind s) (x_meter_plan_kind s) (x_nets_first s) (x_meter_plan_sort s) (x_nets_second s) (x_box_ohms s) (x_box_spread s) (x_meter_floats s)) (fun r v0 v1 v2 v3 v4 v5 => some (r, (s.1, s.2.1, (v0, v1, v3, v4, v2, s.2.2.1.2.2.2.2.2.1, v5, s.2.2.1.2.2.2.2.2.2.2), s.2.2.2)))
def stX11_shortly (p1 : Int32) (s : MS) : Option (Int64 × MS) :=
  zb2 (fX11_shortly p1 (m_now s) (m_brief s)) (fun r v0 => some (r, (s.1, s.2.1, (s.2.2.1.1, s.2.2.1.2.1, s.2.2.1.2.2.1, v0, s.2.2.1.2.2.2.2), s.2.2.2)))
def stX10_drawn (p1 p2 : Int32) (s : XS) : Option (Int64 × XS) :=
  zb7 (fX10_drawn p1 p2 (x_nets_count s) (x_meter_seed s) (x_nets_parts s) (x_meter_plan_length s) (x_meter_plan_waiting s) (x_nets_kind s) (x_meter_plan_kind s) (x_nets_first s) (x_meter_plan_sort s) (x_nets_second s) (x_box_ohms s) (x_box_spread s) (x_meter_floats s)) (fun r v0 v1 v2 v3 v4 v5 => some (r, (s.1, s.2.1, (v0, v1, v3, v4, v2, s.2.2.1.2.2.2.2.2.1, v5, s.2.2.1.2.2.2.2.2.2.2), s.2.2.2)))
def stX11_drawn (p1 p2 : Int32) (s : MS) : Option (Int64 × MS) :=
  zb7 (fX11_drawn p1 p2 (m_orderMany s) (m_waitMany s) (m_seed s) (m_now s) (m_waits s) (m_order s) (m_floats s)) (fun r v0 v1 v2 v3 v4 v5 => some (r, ((s.1.1, s.1.2.1, s.1.2.2.1, v0, v1, v2), s.2.1, (s.2.2.1.1, s.2.2.1.2.1, s.2.2.1.2.2.1, s.2.2.1.2.2.2.1, v4, v3), (v5, s.2.2.2.1.2), s.2.2.2.2)))
def stX10_within (p1 p2 p3 p4 p5 p6 : Int32) (s : XS) : Option (Int32 × XS) :=
  zb7 (fX10_within p1 p2 p3 p4 p5 p6 (x_nets_count s) (x_meter_seed s) (x_nets_parts s) (x_meter_plan_length s) (x_meter_plan_waiting s) (x_nets_kind s) (x_meter_plan_kind s) (x_nets_first s) (x_meter_plan_sort s) (x_nets_second s) (x_box_ohms s) (x_box_spread s) (x_meter_floats s)) (fun r v0 v1 v2 v3 v4 v5 => some (r, (s.1, s.2.1, (v0, v1, v3, v4, v2, s.2.2.1.2.2.2.2.2.1, v5, s.2.2.1.2.2.2.2.2.2.2), s.2.2.2)))
def stX11_within (p1 p2 p3 p4 p5 p6 : Int32) (s : MS) : Option (Int32 × MS) :=
  zb7 (fX11_within p1 p2 p3 p4 p5 p6 (m_orderMany s) (m_waitMany s) (m_seed s) (m_now s) (m_waits s) (m_order s) (m_floats s)) (fun r v0 v1 v2 v3 v4 v5 => some (r, ((s.1.1, s.1.2.1, s.1.2.2.1, v0, v1, v2), s.2.1, (s.2.2.1.1, s.2.2.1.2.1, s.2.2.1.2.2.1, s.2.2.1.2.2.2.1, v4, v3), (v5, s.2.2.2.1.2), s.2.2.2.2)))
def stX10_alike (p1 p2 : Int32) (s : XS) : Option (Int32 × XS) :=
  zb9 (fX10_alike p1 p2 (x_nets_count s) (x_nets_parts s) (x_meter_plan_length s) (x_meter_plan_waiting s) (x_nets_kind s) (x_meter_plan_kind s) (x_nets_first s) (x_meter_plan_sort s) (x_nets_second s) (x_box_ohms s) (x_meter_worth_above s) (x_meter_worth_below s) (x_meter_fractions_s_above s) (x_meter_fractions_s_below s)) (fun r v0 v1 v2 v3 v4 v5 v6 v7 => some (r, (s.1, s.2.1, (s.2.2.1.1, v0, v2, v3, v1, s.2.2.1.2.2.2.2.2.1, s.2.2.1.2.2.2.2.2.2.1, v4, v5, s.2.2.1.2.2.2.2.2.2.2.2.2.1, s.2.2.1.2.2.2.2.2.2.2.2.2.2.1, v6, v7), s.2.2.2)))
def stX11_alike (p1 p2 : Int32) (s : MS) : Option (Int32 × MS) :=
  zb5 (fX11_alike p1 p2 (m_above s) (m_below s) (m_now s) (m_valueUp s) (m_valueDown s)) (fun r v0 v1 v2 v3 => some (r, ((s.1.1, v0, v1, s.1.2.2.2), s.2.1, (v2, v3, s.2.2.1.2.2), s.2.2.2)))
def stX10_turned (p1 p2 : Int32) (s : XS) : Option (Int32 × XS) :=
  zb2 (fX10_turned p1 p2 (x_nets_count s) (x_nets_kind s) (x_nets_first s) (x_nets_likes s) (x_nets_second s)) (fun r v0 => some (r, (s.1, (s.2.1.1, s.2.1.2.1, s.2.1.2.2.1, s.2.1.2.2.2.1, s.2.1.2.2.2.2.1, v0, s.2.1.2.2.2.2.2.2), s.2.2)))
def stX11_turned (p1 p2 : Int32) (s : MS) : Option (Int32 × MS) :=
  zb2 (fX11_turned p1 p2 (m_now s) (m_same s)) (fun r v0 => some (r, (s.1, s.2.1, s.2.2.1, (s.2.2.2.1.1, v0, s.2.2.2.1.2.2), s.2.2.2.2)))
def stX10_fails (p1 p2 p3 p4 : Int32) (s : XS) : Option (Int64 × XS) :=
  zb9 (fX10_fails p1 p2 p3 p4 (x_nets_count s) (x_nets_parts s) (x_meter_plan_length s) (x_meter_plan_waiting s) (x_nets_kind s) (x_meter_plan_kind s) (x_nets_first s) (x_meter_plan_sort s) (x_nets_second s) (x_box_ohms s) (x_meter_worth_above s) (x_meter_worth_below s) (x_meter_fractions_s_above s) (x_meter_fractions_s_below s)) (fun r v0 v1 v2 v3 v4 v5 v6 v7 => some (r, (s.1, s.2.1, (s.2.2.1.1, v0, v2, v3, v1, s.2.2.1.2.2.2.2.2.1, s.2.2.1.2.2.2.2.2.2.1, v4, v5, s.2.2.1.2.2.2.2.2.2.2.2.2.1, s.2.2.1.2.2.2.2.2.2.2.2.2.2.1, v6, v7), s.2.2.2)))
def stX11_fails (p1 p2 p3 p4 : Int32) (s : MS) : Option (Int64 × MS) :=
  zb9 (fX11_fails p1 p2 p3 p4 (m_above s) (m_below s) (m_orderMany s) (m_waitMany s) (m_now s) (m_waits s) (m_order s) (m_upOf s) (m_downOf s)) (fun r v0 v1 v2 v3 v4 v5 v6 v7 => some (r, ((s.1.1, v0, v1, v2, v3, s.1.2.2.2.2.2), s.2.1, (s.2.2.1.1, s.2.2.1.2.1, s.2.2.1.2.2.1, s.2.2.1.2.2.2.1, v5, v4), (s.2.2.2.1.1, s.2.2.2.1.2.1, v6, v7, s.2.2.2.1.2.2.2.2), s.2.2.2.2)))
def stX10_worst (p1 p2 : Int32) (s : XS) : Option (Int32 × XS) :=
  zb11 (fX10_worst p1 p2 (x_nets_count s) (x_nets_parts s) (x_meter_plan_length s) (x_meter_plan_waiting s) (x_nets_kind s) (x_meter_plan_kind s) (x_nets_first s) (x_meter_plan_sort s) (x_nets_second s) (x_box_ohms s) (x_meter_worth_above s) (x_meter_worth_below s) (x_meter_worst_above s) (x_meter_worst_below s) (x_meter_fractions_s_above s) (x_meter_fractions_s_below s)) (fun r v0 v1 v2 v3 v4 v5 v6 v7 v8 v9 => some (r, (s.1, s.2.1, (s.2.2.1.1, v0, v2, v3, v1, s.2.2.1.2.2.2.2.2.1, s.2.2.1.2.2.2.2.2.2.1, v4, v5, v6, v7, v8, v9), s.2.2.2)))
def stX11_worst (p1 p2 : Int32) (s : MS) : Option (Int32 × MS) :=
  zb9 (fX11_worst p1 p2 (m_above s) (m_below s) (m_orderMany s) (m_waitMany s) (m_now s) (m_waits s) (m_order s) (m_upOf s) (m_downOf s)) (fun r v0 v1 v2 v3 v4 v5 v6 v7 => some (r, ((s.1.1, v0, v1, v2, v3, s.1.2.2.2.2.2), s.2.1, (s.2.2.1.1, s.2.2.1.2.1, s.2.2.1.2.2.1, s.2.2.1.2.2.2.1, v5, v4), (s.2.2.2.1.1, s.2.2.2.1.2.1, v6, v7, s.2.2.2.1.2.2.2.2), s.2.2.2.2)))
def stX10_feed (p1 : Int32) (s : XS) : Option (Int32 × XS) :=
  zb3 (fX10_feed p1 (x_tape_length s) (x_tape_letters s)) (fun r v0 v1 => some (r, (s.1, s.2.1, s.2.2.1, (v0, v1, s.2.2.2.1.2.2), s.2.2.2.2)))
def stX11_feed (p1 : Int32) (s : MS) : Option (Int32 × MS) :=
  zb3 (fX11_feed p1 (m_size s) (m_tape s)) (fun r v0 v1 => some (r, (s.1, (v0, s.2.1.2), s.2.2.1, (s.2.2.2.1.1, s.2.2.2.1.2.1, s.2.2.2.1.2.2.1, s.2.2.2.1.2.2.2.1, v1, s.2.2.2.1.2.2.2.2.2), s.2.2.2.2)))
def stX10_read  (s : XS) : Option (Int32 × XS) :=
  zb12 (fX10_read (x_plan_length s) (x_tape_length s) (x_tape_letters s) (x_tape_joins s) (x_box_ohms s) (x_plan_kind s) (x_plan_sort s) (x_nets_count s) (x_nets_kind s) (x_nets_first s) (x_nets_second s) (x_nets_parts s) (x_nets_made s)) (fun r v0 v1 v2 v3 v4 v5 v6 v7 v8 v9 v10 => some (r, (s.1, (v5, v6, v7, v8, v9, s.2.1.2.2.2.2.2.1, s.2.1.2.2.2.2.2.2.1, s.2.1.2.2.2.2.2.2.2.1, v10), s.2.2.1, (v1, s.2.2.2.1.2.1, v2), (v0, v3, v4, s.2.2.2.2.1.2.2.2), s.2.2.2.2.2)))
def stX11_read  (s : MS) : Option (Int32 × MS) :=
  zb6 (fX11_read (m_size s) (m_openMany s) (m_tape s) (m_now s) (m_open s) (m_made s)) (fun r v0 v1 v2 v3 v4 => some (r, (s.1, (v0, v1, s.2.1.2.2.1, s.2.1.2.2.2.1, v2, s.2.1.2.2.2.2.2), s.2.2.1, (s.2.2.2.1.1, s.2.2.2.1.2.1, s.2.2.2.1.2.2.1, s.2.2.2.1.2.2.2.1, s.2.2.2.1.2.2.2.2.1, v3), (v4, s.2.2.2.2.1.2), s.2.2.2.2.2)))
def stX10_print (p1 p2 : Int32) (s : XS) : Option (Int32 × XS) :=
  zb3 (fX10_print p1 p2 (x_nets_count s) (x_nets_waiting s) (x_nets_letters s) (x_nets_kind s) (x_nets_second s) (x_nets_first s)) (fun r v0 v1 => some (r, (s.1, (s.2.1.1, s.2.1.2.1, s.2.1.2.2.1, s.2.1.2.2.2.1, s.2.1.2.2.2.2.1, s.2.1.2.2.2.2.2.1, v1, v0, s.2.1.2.2.2.2.2.2.2.2), s.2.2)))
def stX11_print (p1 p2 : Int32) (s : MS) : Option (Int32 × MS) :=
  zb5 (fX11_print p1 p2 (m_waitMany s) (m_paperMany s) (m_now s) (m_waits s) (m_paper s)) (fun r v0 v1 v2 v3 => some (r, ((s.1.1, s.1.2.1, s.1.2.2.1, s.1.2.2.2.1, v0, s.1.2.2.2.2.2), (s.2.1.1, s.2.1.2.1, v1, s.2.1.2.2.2), (s.2.2.1.1, s.2.2.1.2.1, s.2.2.1.2.2.1, s.2.2.1.2.2.2.1, s.2.2.1.2.2.2.2.1, v2), s.2.2.2.1, (s.2.2.2.2.1.1, v3, s.2.2.2.2.1.2.2), s.2.2.2.2.2)))
def stX10_reached (p1 : Int32) (s : XS) : Option (Int32 × XS) :=
  zb12 (fX10_reached p1 (x_found_size s) (x_found_levels s) (x_found_levelsInOrder s) (x_found_builtFor s) (x_box_ohms s) (x_found_table s) (x_found_start s) (x_found_above s) (x_found_below s) (x_found_kind s) (x_found_first s) (x_found_second s)) (fun r v0 v1 v2 v3 v4 v5 v6 v7 v8 v9 v10 => some (r, (s.1, s.2.1, s.2.2.1, s.2.2.2.1, s.2.2.2.2.1, (v0, v1, v2, v6, v7, v8, v9, v10, s.2.2.2.2.2.1.2.2.2.2.2.2.2.2.1, s.2.2.2.2.2.1.2.2.2.2.2.2.2.2.2.1, v4, v5, v3), s.2.2.2.2.2.2)))
def stX11_reached (p1 : Int32) (s : MS) : Option (Int32 × MS) :=
  zb10 (fX11_reached p1 (m_above s) (m_below s) (m_reachMany s) (m_begins s) (m_now s) (m_reachUp s) (m_reachDown s) (m_reachHow s) (m_reachFirst s) (m_reachSecond s)) (fun r v0 v1 v2 v3 v4 v5 v6 v7 v8 => some (r, ((s.1.1, v0, v1, s.1.2.2.2), (s.2.1.1, s.2.1.2.1, s.2.1.2.2.1, v2, s.2.1.2.2.2.2), s.2.2.1, s.2.2.2.1, (s.2.2.2.2.1.1, s.2.2.2.2.1.2.1, v4, v5, v6, v7), (v8, v3, s.2.2.2.2.2.2.2))))
def stX10_reach (p1 p2 p3 : Int32) (s : XS) : Option (Int64 × XS) :=
  zb14 (fX10_reach p1 p2 p3 (x_found_size s) (x_found_levels s) (x_found_levelsInOrder s) (x_found_builtFor s) (x_box_ohms s) (x_found_table s) (x_found_start s) (x_found_above s) (x_found_below s) (x_found_kind s) (x_found_first s) (x_found_second s) (x_found_order s) (x_found_merged s)) (fun r v0 v1 v2 v3 v4 v5 v6 v7 v8 v9 v10 v11 v12 => some (r, (s.1, s.2.1, s.2.2.1, s.2.2.2.1, s.2.2.2.2.1, (v0, v1, v2, v6, v7, v8, v9, v10, v11, v12, v4, v5, v3), s.2.2.2.2.2.2)))
def stX11_reach (p1 p2 p3 : Int32) (s : MS) : Option (Int64 × MS) :=
  zb10 (fX11_reach p1 p2 p3 (m_above s) (m_below s) (m_reachMany s) (m_begins s) (m_now s) (m_reachUp s) (m_reachDown s) (m_reachHow s) (m_reachFirst s) (m_reachSecond s)) (fun r v0 v1 v2 v3 v4 v5 v6 v7 v8 => some (r, ((s.1.1, v0, v1, s.1.2.2.2), (s.2.1.1, s.2.1.2.1, s.2.1.2.2.1, v2, s.2.1.2.2.2.2), s.2.2.1, s.2.2.2.1, (s.2.2.2.2.1.1, s.2.2.2.2.1.2.1, v4, v5, v6, v7), (v8, v3, s.2.2.2.2.2.2.2))))
def stX10_fewest (p1 p2 : Int32) (s : XS) : Option (Int32 × XS) :=
  zb12 (fX10_fewest p1 p2 (x_found_size s) (x_found_levels s) (x_found_levelsInOrder s) (x_found_builtFor s) (x_box_ohms s) (x_found_table s) (x_found_start s) (x_found_above s) (x_found_below s) (x_found_kind s) (x_found_first s) (x_found_second s)) (fun r v0 v1 v2 v3 v4 v5 v6 v7 v8 v9 v10 => some (r, (s.1, s.2.1, s.2.2.1, s.2.2.2.1, s.2.2.2.2.1, (v0, v1, v2, v6, v7, v8, v9, v10, s.2.2.2.2.2.1.2.2.2.2.2.2.2.2.1, s.2.2.2.2.2.1.2.2.2.2.2.2.2.2.2.1, v4, v5, v3), s.2.2.2.2.2.2)))
def stX11_fewest (p1 p2 : Int32) (s : MS) : Option (Int32 × MS) :=
  zb10 (fX11_fewest p1 p2 (m_above s) (m_below s) (m_reachMany s) (m_begins s) (m_now s) (m_reachUp s) (m_reachDown s) (m_reachHow s) (m_reachFirst s) (m_reachSecond s)) (fun r v0 v1 v2 v3 v4 v5 v6 v7 v8 => some (r, ((s.1.1, v0, v1, s.1.2.2.2), (s.2.1.1, s.2.1.2.1, s.2.1.2.2.1, v2, s.2.1.2.2.2.2), s.2.2.1, s.2.2.2.1, (s.2.2.2.2.1.1, s.2.2.2.2.1.2.1, v4, v5, v6, v7), (v8, v3, s.2.2.2.2.2.2.2))))
def stX10_nearest (p1 p2 p3 p4 : Int32) (s : XS) : Option (Int64 × XS) :=
  zb12 (fX10_nearest p1 p2 p3 p4 (x_found_size s) (x_found_levels s) (x_found_levelsInOrder s) (x_found_builtFor s) (x_box_ohms s) (x_found_table s) (x_found_start s) (x_found_above s) (x_found_below s) (x_found_kind s) (x_found_first s) (x_found_second s)) (fun r v0 v1 v2 v3 v4 v5 v6 v7 v8 v9 v10 => some (r, (s.1, s.2.1, s.2.2.1, s.2.2.2.1, s.2.2.2.2.1, (v0, v1, v2, v6, v7, v8, v9, v10, s.2.2.2.2.2.1.2.2.2.2.2.2.2.2.1, s.2.2.2.2.2.1.2.2.2.2.2.2.2.2.2.1, v4, v5, v3), s.2.2.2.2.2.2)))
def stX11_nearest (p1 p2 p3 p4 : Int32) (s : MS) : Option (Int64 × MS) :=
  zb10 (fX11_nearest p1 p2 p3 p4 (m_above s) (m_below s) (m_reachMany s) (m_begins s) (m_now s) (m_reachUp s) (m_reachDown s) (m_reachHow s) (m_reachFirst s) (m_reachSecond s)) (fun r v0 v1 v2 v3 v4 v5 v6 v7 v8 => some (r, ((s.1.1, v0, v1, s.1.2.2.2), (s.2.1.1, s.2.1.2.1, s.2.1.2.2.1, v2, s.2.1.2.2.2.2), s.2.2.1, s.2.2.2.1, (s.2.2.2.2.1.1, s.2.2.2.2.1.2.1, v4, v5, v6, v7), (v8, v3, s.2.2.2.2.2.2.2))))
def stX10_make (p1 p2 : Int32) (s : XS) : Option (Int32 × XS) :=
  zb22 (fX10_make p1 p2 (x_found_size s) (x_found_levels s) (x_found_levelsInOrder s) (x_found_builtFor s) (x_box_ohms s) (x_found_table s) (x_found_start s) (x_found_above s) (x_found_below s) (x_found_kind s) (x_found_first s) (x_found_second s) (x_plan_length s) (x_plan_waiting s) (x_plan_kind s) (x_plan_sort s) (x_nets_count s) (x_nets_kind s) (x_nets_first s) (x_nets_second s) (x_nets_parts s) (x_nets_made s)) (fun r v0 v1 v2 v3 v4 v5 v6 v7 v8 v9 v10 v11 v12 v13 v14 v15 v16 v17 v18 v19 v20 => some (r, (s.1, (v15, v16, v17, v18, v19, s.2.1.2.2.2.2.2.1, s.2.1.2.2.2.2.2.2.1, s.2.1.2.2.2.2.2.2.2.1, v20), s.2.2.1, s.2.2.2.1, (v11, v13, v14, v12), (v0, v1, v2, v6, v7, v8, v9, v10, s.2.2.2.2.2.1.2.2.2.2.2.2.2.2.1, s.2.2.2.2.2.1.2.2.2.2.2.2.2.2.2.1, v4, v5, v3), s.2.2.2.2.2.2)))
def stX11_make (p1 p2 : Int32) (s : MS) : Option (Int32 × MS) :=
  zb14 (fX11_make p1 p2 (m_above s) (m_below s) (m_waitMany s) (m_reachMany s) (m_begins s) (m_now s) (m_reachUp s) (m_reachDown s) (m_reachHow s) (m_reachFirst s) (m_reachSecond s) (m_waits s) (m_made s)) (fun r v0 v1 v2 v3 v4 v5 v6 v7 v8 v9 v10 v11 v12 => some (r, ((s.1.1, v0, v1, s.1.2.2.2.1, v2, s.1.2.2.2.2.2), (s.2.1.1, s.2.1.2.1, s.2.1.2.2.1, v3, v5, s.2.1.2.2.2.2.2), (s.2.2.1.1, s.2.2.1.2.1, s.2.2.1.2.2.1, s.2.2.1.2.2.2.1, s.2.2.1.2.2.2.2.1, v11), s.2.2.2.1, (v12, s.2.2.2.2.1.2.1, v6, v7, v8, v9), (v10, v4, s.2.2.2.2.2.2.2))))
def stX10_points (p1 : Int32) (s : XS) : Option (Int32 × XS) :=
  zb3 (fX10_points p1 (x_mesh_points s) (x_mesh_edges s)) (fun r v0 v1 => some (r, (s.1, s.2.1, s.2.2.1, s.2.2.2.1, s.2.2.2.2.1, s.2.2.2.2.2.1, (v0, v1, s.2.2.2.2.2.2.1.2.2), s.2.2.2.2.2.2.2)))
def stX11_points (p1 : Int32) (s : MS) : Option (Int32 × MS) :=
  zb2 (fX11_points p1 (m_now s)) (fun r v0 => some (r, (s.1, (s.2.1.1, s.2.1.2.1, s.2.1.2.2.1, s.2.1.2.2.2.1, v0, s.2.1.2.2.2.2.2), s.2.2)))
def stX10_edge (p1 p2 p3 : Int32) (s : XS) : Option (Int32 × XS) :=
  zb5 (fX10_edge p1 p2 p3 (x_mesh_points s) (x_mesh_edges s) (x_mesh_one s) (x_mesh_other s) (x_mesh_ohms s)) (fun r v0 v1 v2 v3 => some (r, (s.1, s.2.1, s.2.2.1, s.2.2.2.1, s.2.2.2.2.1, s.2.2.2.2.2.1, (s.2.2.2.2.2.2.1.1, v0, v1, v2, v3, s.2.2.2.2.2.2.1.2.2.2.2.2), s.2.2.2.2.2.2.2)))
def stX11_edge (p1 p2 p3 : Int32) (s : MS) : Option (Int32 × MS) :=
  zb2 (fX11_edge p1 p2 p3 (m_now s)) (fun r v0 => some (r, (s.1, (s.2.1.1, s.2.1.2.1, s.2.1.2.2.1, s.2.1.2.2.2.1, v0, s.2.1.2.2.2.2.2), s.2.2)))
def stX10_tell (p1 p2 : Int32) (s : XS) : Option (Int32 × XS) :=
  zb2 (fX10_tell p1 p2 (x_mesh_edges s) (x_mesh_ohms s)) (fun r v0 => some (r, (s.1, s.2.1, s.2.2.1, s.2.2.2.1, s.2.2.2.2.1, s.2.2.2.2.2.1, (s.2.2.2.2.2.2.1.1, s.2.2.2.2.2.2.1.2.1, s.2.2.2.2.2.2.1.2.2.1, s.2.2.2.2.2.2.1.2.2.2.1, v0, s.2.2.2.2.2.2.1.2.2.2.2.2), s.2.2.2.2.2.2.2)))
def stX11_tell (p1 p2 : Int32) (s : MS) : Option (Int32 × MS) :=
  zb2 (fX11_tell p1 p2 (m_now s)) (fun r v0 => some (r, (s.1, (s.2.1.1, s.2.1.2.1, s.2.1.2.2.1, s.2.1.2.2.2.1, v0, s.2.1.2.2.2.2.2), s.2.2)))
def stX10_between (p1 p2 p3 : Int32) (s : XS) : Option (Int64 × XS) :=
  zb4 (fX10_between p1 p2 p3 (x_mesh_points s) (x_mesh_edges s) (x_mesh_worth_above s) (x_mesh_worth_below s) (x_mesh_ohms s) (x_mesh_one s) (x_mesh_other s) (x_mesh_trees s)) (fun r v0 v1 v2 => some (r, (s.1, s.2.1, s.2.2.1, s.2.2.2.1, s.2.2.2.2.1, s.2.2.2.2.2.1, (s.2.2.2.2.2.2.1.1, s.2.2.2.2.2.2.1.2.1, s.2.2.2.2.2.2.1.2.2.1, s.2.2.2.2.2.2.1.2.2.2.1, s.2.2.2.2.2.2.1.2.2.2.2.1, v2, v0, v1, s.2.2.2.2.2.2.1.2.2.2.2.2.2.2.2), s.2.2.2.2.2.2.2)))
def stX11_between (p1 p2 p3 : Int32) (s : MS) : Option (Int64 × MS) :=
  zb3 (fX11_between p1 p2 p3 (m_above s) (m_below s) (m_now s)) (fun r v0 v1 => some (r, ((s.1.1, v0, v1, s.1.2.2.2), s.2)))
def stX10_without (p1 p2 p3 p4 : Int32) (s : XS) : Option (Int64 × XS) :=
  zb4 (fX10_without p1 p2 p3 p4 (x_mesh_points s) (x_mesh_edges s) (x_mesh_worth_above s) (x_mesh_worth_below s) (x_mesh_ohms s) (x_mesh_one s) (x_mesh_other s) (x_mesh_trees s)) (fun r v0 v1 v2 => some (r, (s.1, s.2.1, s.2.2.1, s.2.2.2.1, s.2.2.2.2.1, s.2.2.2.2.2.1, (s.2.2.2.2.2.2.1.1, s.2.2.2.2.2.2.1.2.1, s.2.2.2.2.2.2.1.2.2.1, s.2.2.2.2.2.2.1.2.2.2.1, s.2.2.2.2.2.2.1.2.2.2.2.1, v2, v0, v1, s.2.2.2.2.2.2.1.2.2.2.2.2.2.2.2), s.2.2.2.2.2.2.2)))
def stX11_without (p1 p2 p3 p4 : Int32) (s : MS) : Option (Int64 × MS) :=
  zb3 (fX11_without p1 p2 p3 p4 (m_above s) (m_below s) (m_now s)) (fun r v0 v1 => some (r, ((s.1.1, v0, v1, s.1.2.2.2), s.2)))
def stX10_dearest (p1 p2 : Int32) (s : XS) : Option (Int32 × XS) :=
  zb6 (fX10_dearest p1 p2 (x_mesh_points s) (x_mesh_edges s) (x_mesh_worth_above s) (x_mesh_worth_below s) (x_mesh_ohms s) (x_mesh_one s) (x_mesh_other s) (x_mesh_trees s) (x_mesh_best_above s) (x_mesh_best_below s)) (fun r v0 v1 v2 v3 v4 => some (r, (s.1, s.2.1, s.2.2.1, s.2.2.2.1, s.2.2.2.2.1, s.2.2.2.2.2.1, (s.2.2.2.2.2.2.1.1, s.2.2.2.2.2.2.1.2.1, s.2.2.2.2.2.2.1.2.2.1, s.2.2.2.2.2.2.1.2.2.2.1, s.2.2.2.2.2.2.1.2.2.2.2.1, v2, v0, v1, v3, v4), s.2.2.2.2.2.2.2)))
def stX11_dearest (p1 p2 : Int32) (s : MS) : Option (Int32 × MS) :=
  zb3 (fX11_dearest p1 p2 (m_above s) (m_below s) (m_now s)) (fun r v0 v1 => some (r, ((s.1.1, v0, v1, s.1.2.2.2), s.2)))
def stX10_bridges (p1 p2 : Int32) (s : XS) : Option (Int32 × XS) :=
  zb1 (fX10_bridges p1 p2 (x_mesh_points s) (x_mesh_edges s) (x_mesh_ohms s) (x_mesh_one s) (x_mesh_other s)) (fun r => some (r, s))
def stX11_bridges (p1 p2 : Int32) (s : MS) : Option (Int32 × MS) :=
  zb1 (fX11_bridges p1 p2 (m_now s)) (fun r => some (r, s))
def stX10_ways (p1 : Int32) (s : XS) : Option (Int32 × XS) :=
  zb1 (fX10_ways p1 (x_mesh_points s) (x_mesh_edges s) (x_mesh_ohms s) (x_mesh_one s) (x_mesh_other s)) (fun r => some (r, s))
def stX11_ways (p1 : Int32) (s : MS) : Option (Int32 × MS) :=
  zb1 (fX11_ways p1 (m_now s)) (fun r => some (r, s))
def stX10_tray (p1 p2 p3 : Int32) (s : XS) : Option (Int32 × XS) :=
  zb10 (fX10_tray p1 p2 p3 (x_trays_e0_kind s) (x_trays_e0_size s) (x_trays_e1_kind s) (x_trays_e1_size s) (x_trays_e2_kind s) (x_trays_e2_size s) (x_trays_e0_places s) (x_trays_e1_places s) (x_trays_e2_places s)) (fun r v0 v1 v2 v3 v4 v5 v6 v7 v8 => some (r, (s.1, s.2.1, s.2.2.1, s.2.2.2.1, s.2.2.2.2.1, s.2.2.2.2.2.1, s.2.2.2.2.2.2.1, (v0, v1, v6, v2, v3, v7, v4, v5, v8), s.2.2.2.2.2.2.2.2)))
def stX11_tray (p1 p2 p3 : Int32) (s : MS) : Option (Int32 × MS) :=
  zb2 (fX11_tray p1 p2 p3 (m_now s)) (fun r v0 => some (r, (s.1, (s.2.1.1, s.2.1.2.1, s.2.1.2.2.1, s.2.1.2.2.2.1, v0, s.2.1.2.2.2.2.2), s.2.2)))
def stX10_lay (p1 p2 p3 : Int32) (s : XS) : Option (Int32 × XS) :=
  zb4 (fX10_lay p1 p2 p3 (x_nets_count s) (x_trays_e0_kind s) (x_trays_e0_size s) (x_trays_e1_kind s) (x_trays_e1_size s) (x_trays_e2_kind s) (x_trays_e2_size s) (x_nets_kind s) (x_trays_e0_places s) (x_trays_e1_places s) (x_trays_e2_places s)) (fun r v0 v1 v2 => some (r, (s.1, s.2.1, s.2.2.1, s.2.2.2.1, s.2.2.2.2.1, s.2.2.2.2.2.1, s.2.2.2.2.2.2.1, (s.2.2.2.2.2.2.2.1.1, s.2.2.2.2.2.2.2.1.2.1, v0, s.2.2.2.2.2.2.2.1.2.2.2.1, s.2.2.2.2.2.2.2.1.2.2.2.2.1, v1, s.2.2.2.2.2.2.2.1.2.2.2.2.2.2.1, s.2.2.2.2.2.2.2.1.2.2.2.2.2.2.2.1, v2), s.2.2.2.2.2.2.2.2)))
def stX11_lay (p1 p2 p3 : Int32) (s : MS) : Option (Int32 × MS) :=
  zb2 (fX11_lay p1 p2 p3 (m_now s)) (fun r v0 => some (r, (s.1, (s.2.1.1, s.2.1.2.1, s.2.1.2.2.1, s.2.1.2.2.2.1, v0, s.2.1.2.2.2.2.2), s.2.2)))
def stX10_at (p1 p2 : Int32) (s : XS) : Option (Int32 × XS) :=
  zb1 (fX10_at p1 p2 (x_trays_e0_kind s) (x_trays_e0_size s) (x_trays_e1_kind s) (x_trays_e1_size s) (x_trays_e2_kind s) (x_trays_e2_size s) (x_trays_e0_places s) (x_trays_e1_places s) (x_trays_e2_places s)) (fun r => some (r, s))
def stX11_at (p1 p2 : Int32) (s : MS) : Option (Int32 × MS) :=
  zb1 (fX11_at p1 p2 (m_now s)) (fun r => some (r, s))
def stX10_shift (p1 p2 p3 p4 p5 : Int32) (s : XS) : Option (Int32 × XS) :=
  zb5 (fX10_shift p1 p2 p3 p4 p5 (x_trays_e0_kind s) (x_trays_e0_size s) (x_trays_e1_kind s) (x_trays_e1_size s) (x_trays_e2_kind s) (x_trays_e2_size s) (x_moved s) (x_trays_e0_places s) (x_trays_e1_places s) (x_trays_e2_places s) (x_nets_count s) (x_nets_kind s)) (fun r v0 v1 v2 v3 => some (r, (s.1, s.2.1, s.2.2.1, s.2.2.2.1, s.2.2.2.2.1, s.2.2.2.2.2.1, s.2.2.2.2.2.2.1, (s.2.2.2.2.2.2.2.1.1, s.2.2.2.2.2.2.2.1.2.1, v1, s.2.2.2.2.2.2.2.1.2.2.2.1, s.2.2.2.2.2.2.2.1.2.2.2.2.1, v2, s.2.2.2.2.2.2.2.1.2.2.2.2.2.2.1, s.2.2.2.2.2.2.2.1.2.2.2.2.2.2.2.1, v3), v0, s.2.2.2.2.2.2.2.2.2)))
def stX11_shift (p1 p2 p3 p4 p5 : Int32) (s : MS) : Option (Int32 × MS) :=
  zb3 (fX11_shift p1 p2 p3 p4 p5 (m_now s) (m_carried s)) (fun r v0 v1 => some (r, (s.1, (s.2.1.1, s.2.1.2.1, s.2.1.2.2.1, s.2.1.2.2.2.1, v0, s.2.1.2.2.2.2.2), s.2.2.1, s.2.2.2.1, s.2.2.2.2.1, (s.2.2.2.2.2.1, s.2.2.2.2.2.2.1, v1))))
def stX10_image  (s : XS) : Option (Int32 × XS) :=
  zb23 (fX10_image (x_kept_isTaken s) (x_kept_box_ohms s) (x_box_ohms s) (x_kept_box_spread s) (x_box_spread s) (x_nets_count s) (x_kept_nets_count s) (x_kept_nets_kind s) (x_nets_kind s) (x_kept_nets_first s) (x_nets_first s) (x_kept_nets_second s) (x_nets_second s) (x_kept_nets_parts s) (x_nets_parts s) (x_mesh_points s) (x_mesh_edges s) (x_kept_mesh_points s) (x_kept_mesh_edges s) (x_kept_mesh_one s) (x_mesh_one s) (x_kept_mesh_other s) (x_mesh_other s) (x_kept_mesh_ohms s) (x_mesh_ohms s) (x_trays_e0_kind s) (x_trays_e0_size s) (x_trays_e1_kind s) (x_trays_e1_size s) (x_trays_e2_kind s) (x_trays_e2_size s) (x_kept_trays_e0_kind s) (x_kept_trays_e0_size s) (x_kept_trays_e1_kind s) (x_kept_trays_e1_size s) (x_kept_trays_e2_kind s) (x_kept_trays_e2_size s) (x_kept_trays_e0_places s) (x_kept_trays_e1_places s) (x_kept_trays_e2_places s) (x_trays_e0_places s) (x_trays_e1_places s) (x_trays_e2_places s)) (fun r v0 v1 v2 v3 v4 v5 v6 v7 v8 v9 v10 v11 v12 v13 v14 v15 v16 v17 v18 v19 v20 v21 => some (r, (s.1, s.2.1, s.2.2.1, s.2.2.2.1, s.2.2.2.2.1, s.2.2.2.2.2.1, s.2.2.2.2.2.2.1, s.2.2.2.2.2.2.2.1, s.2.2.2.2.2.2.2.2.1, (v0, v1, v2, v3, v4, v5, v6, v7, s.2.2.2.2.2.2.2.2.2.2.2.2.2.2.2.2.2.1, s.2.2.2.2.2.2.2.2.2.2.2.2.2.2.2.2.2.2.1, s.2.2.2.2.2.2.2.2.2.2.2.2.2.2.2.2.2.2.2.1, s.2.2.2.2.2.2.2.2.2.2.2.2.2.2.2.2.2.2.2.2.1, v8, v9, v10, v11, v12, s.2.2.2.2.2.2.2.2.2.2.2.2.2.2.2.2.2.2.2.2.2.2.2.2.2.2.1, s.2.2.2.2.2.2.2.2.2.2.2.2.2.2.2.2.2.2.2.2.2.2.2.2.2.2.2.1, s.2.2.2.2.2.2.2.2.2.2.2.2.2.2.2.2.2.2.2.2.2.2.2.2.2.2.2.2.1, s.2.2.2.2.2.2.2.2.2.2.2.2.2.2.2.2.2.2.2.2.2.2.2.2.2.2.2.2.2.1, s.2.2.2.2.2.2.2.2.2.2.2.2.2.2.2.2.2.2.2.2.2.2.2.2.2.2.2.2.2.2.1, v13, v14, v19, v15, v16, v20, v17, v18, v21))))
def stX11_image  (s : MS) : Option (Int32 × MS) :=
  zb3 (fX11_image (m_hasImage s) (m_now s) (m_imaged s)) (fun r v0 v1 => some (r, ((v0, s.1.2), (s.2.1.1, s.2.1.2.1, s.2.1.2.2.1, s.2.1.2.2.2.1, s.2.1.2.2.2.2.1, v1), s.2.2)))
def stX10_back  (s : XS) : Option (Int32 × XS) :=
  zb22 (fX10_back (x_kept_isTaken s) (x_box_ohms s) (x_kept_box_ohms s) (x_box_spread s) (x_kept_box_spread s) (x_kept_nets_count s) (x_nets_count s) (x_nets_kind s) (x_kept_nets_kind s) (x_nets_first s) (x_kept_nets_first s) (x_nets_second s) (x_kept_nets_second s) (x_nets_parts s) (x_kept_nets_parts s) (x_kept_mesh_points s) (x_kept_mesh_edges s) (x_mesh_points s) (x_mesh_edges s) (x_mesh_one s) (x_kept_mesh_one s) (x_mesh_other s) (x_kept_mesh_other s) (x_mesh_ohms s) (x_kept_mesh_ohms s) (x_kept_trays_e0_kind s) (x_kept_trays_e0_size s) (x_kept_trays_e1_kind s) (x_kept_trays_e1_size s) (x_kept_trays_e2_kind s) (x_kept_trays_e2_size s) (x_trays_e0_kind s) (x_trays_e0_size s) (x_trays_e1_kind s) (x_trays_e1_size s) (x_trays_e2_kind s) (x_trays_e2_size s) (x_trays_e0_places s) (x_trays_e1_places s) (x_trays_e2_places s) (x_kept_trays_e0_places s) (x_kept_trays_e1_places s) (x_kept_trays_e2_places s)) (fun r v0 v1 v2 v3 v4 v5 v6 v7 v8 v9 v10 v11 v12 v13 v14 v15 v16 v17 v18 v19 v20 => some (r, ((v0, v1), (v2, v3, v4, v5, v6, s.2.1.2.2.2.2.2), s.2.2.1, s.2.2.2.1, s.2.2.2.2.1, s.2.2.2.2.2.1, (v7, v8, v9, v10, v11, s.2.2.2.2.2.2.1.2.2.2.2.2), (v12, v13, v18, v14, v15, v19, v16, v17, v20), s.2.2.2.2.2.2.2.2)))
def stX11_back  (s : MS) : Option (Int32 × MS) :=
  zb2 (fX11_back (m_hasImage s) (m_imaged s) (m_now s)) (fun r v0 => some (r, (s.1, (s.2.1.1, s.2.1.2.1, s.2.1.2.2.1, s.2.1.2.2.2.1, v0, s.2.1.2.2.2.2.2), s.2.2)))
def stX10_count (p1 : Int32) (s : XS) : Option (Int32 × XS) :=
  zb12 (fX10_count p1 (x_found_size s) (x_found_levels s) (x_found_levelsInOrder s) (x_found_builtFor s) (x_box_ohms s) (x_found_table s) (x_found_start s) (x_found_above s) (x_found_below s) (x_found_kind s) (x_found_first s) (x_found_second s) (x_tape_length s) (x_mesh_points s) (x_mesh_edges s) (x_nets_count s)) (fun r v0 v1 v2 v3 v4 v5 v6 v7 v8 v9 v10 => some (r, (s.1, s.2.1, s.2.2.1, s.2.2.2.1, s.2.2.2.2.1, (v0, v1, v2, v6, v7, v8, v9, v10, s.2.2.2.2.2.1.2.2.2.2.2.2.2.2.1, s.2.2.2.2.2.1.2.2.2.2.2.2.2.2.2.1, v4, v5, v3), s.2.2.2.2.2.2)))
def stX11_count (p1 : Int32) (s : MS) : Option (Int32 × MS) :=
  zb10 (fX11_count p1 (m_above s) (m_below s) (m_size s) (m_reachMany s) (m_begins s) (m_now s) (m_reachUp s) (m_reachDown s) (m_reachHow s) (m_reachFirst s) (m_reachSecond s)) (fun r v0 v1 v2 v3 v4 v5 v6 v7 v8 => some (r, ((s.1.1, v0, v1, s.1.2.2.2), (s.2.1.1, s.2.1.2.1, s.2.1.2.2.1, v2, s.2.1.2.2.2.2), s.2.2.1, s.2.2.2.1, (s.2.2.2.2.1.1, s.2.2.2.2.1.2.1, v4, v5, v6, v7), (v8, v3, s.2.2.2.2.2.2.2))))
/-! what the law asks: from states that R holds of, each call of both answers alike, and R holds again -/
def zQ_sort (R : Nat → XS → MS → Prop) (k : Nat) : Prop := ∀ xs ms, R k xs ms → ∀ p1 p2 p3 : Int32, ∃ (r : Int32) (xs' : XS) (ms' : MS), stX10_sort p1 p2 p3 xs = some (r, xs') ∧ stX11_sort p1 p2 p3 ms = some (r, ms') ∧ R (k + 1) xs' ms'
def zQ_ofSort (R : Nat → XS → MS → Prop) (k : Nat) : Prop := ∀ xs ms, R k xs ms → ∀ p1 p2 : Int32, ∃ (r : Int32) (xs' : XS) (ms' : MS), stX10_ofSort p1 p2 xs = some (r, xs') ∧ stX11_ofSort p1 p2 ms = some (r, ms') ∧ R (k + 1) xs' ms'
def zQ_part (R : Nat → XS → MS → Prop) (k : Nat) : Prop := ∀ xs ms, R k xs ms → ∀ p1 : Int32, ∃ (r : Int32) (xs' : XS) (ms' : MS), stX10_part p1 xs = some (r, xs') ∧ stX11_part p1 ms = some (r, ms') ∧ R (k + 1) xs' ms'
def zQ_join (R : Nat → XS → MS → Prop) (k : Nat) : Prop := ∀ xs ms, R k xs ms → ∀ p1 p2 p3 : Int32, ∃ (r : Int32) (xs' : XS) (ms' : MS), stX10_join p1 p2 p3 xs = some (r, xs') ∧ stX11_join p1 p2 p3 ms = some (r, ms') ∧ R (k + 1) xs' ms'
def zQ_net (R : Nat → XS → MS → Prop) (k : Nat) : Prop := ∀ xs ms, R k xs ms → ∀ p1 p2 : Int32, ∃ (r : Int32) (xs' : XS) (ms' : MS), stX10_net p1 p2 xs = some (r, xs') ∧ stX11_net p1 p2 ms = some (r, ms') ∧ R (k + 1) xs' ms'
def zQ_value (R : Nat → XS → MS → Prop) (k : Nat) : Prop := ∀ xs ms, R k xs ms → ∀ p1 p2 : Int32, ∃ (r : Int64) (xs' : XS) (ms' : MS), stX10_value p1 p2 xs = some (r, xs') ∧ stX11_value p1 p2 ms = some (r, ms') ∧ R (k + 1) xs' ms'
def zQ_ends (R : Nat → XS → MS → Prop) (k : Nat) : Prop := ∀ xs ms, R k xs ms → ∀ p1 p2 : Int32, ∃ (r : Int64) (xs' : XS) (ms' : MS), stX10_ends p1 p2 xs = some (r, xs') ∧ stX11_ends p1 p2 ms = some (r, ms') ∧ R (k + 1) xs' ms'
def zQ_shortly (R : Nat → XS → MS → Prop) (k : Nat) : Prop := ∀ xs ms, R k xs ms → ∀ p1 : Int32, ∃ (r : Int64) (xs' : XS) (ms' : MS), stX10_shortly p1 xs = some (r, xs') ∧ stX11_shortly p1 ms = some (r, ms') ∧ R (k + 1) xs' ms'
def zQ_drawn (R : Nat → XS → MS → Prop) (k : Nat) : Prop := ∀ xs ms, R k xs ms → ∀ p1 p2 : Int32, ∃ (r : Int64) (xs' : XS) (ms' : MS), stX10_drawn p1 p2 xs = some (r, xs') ∧ stX11_drawn p1 p2 ms = some (r, ms') ∧ R (k + 1) xs' ms'
def zQ_within (R : Nat → XS → MS → Prop) (k : Nat) : Prop := ∀ xs ms, R k xs ms → ∀ p1 p2 p3 p4 p5 p6 : Int32, ∃ (r : Int32) (xs' : XS) (ms' : MS), stX10_within p1 p2 p3 p4 p5 p6 xs = some (r, xs') ∧ stX11_within p1 p2 p3 p4 p5 p6 ms = some (r, ms') ∧ R (k + 1) xs' ms'
def zQ_alike (R : Nat → XS → MS → Prop) (k : Nat) : Prop := ∀ xs ms, R k xs ms → ∀ p1 p2 : Int32, ∃ (r : Int32) (xs' : XS) (ms' : MS), stX10_alike p1 p2 xs = some (r, xs') ∧ stX11_alike p1 p2 ms = some (r, ms') ∧ R (k + 1) xs' ms'
def zQ_turned (R : Nat → XS → MS → Prop) (k : Nat) : Prop := ∀ xs ms, R k xs ms → ∀ p1 p2 : Int32, ∃ (r : Int32) (xs' : XS) (ms' : MS), stX10_turned p1 p2 xs = some (r, xs') ∧ stX11_turned p1 p2 ms = some (r, ms') ∧ R (k + 1) xs' ms'
def zQ_fails (R : Nat → XS → MS → Prop) (k : Nat) : Prop := ∀ xs ms, R k xs ms → ∀ p1 p2 p3 p4 : Int32, ∃ (r : Int64) (xs' : XS) (ms' : MS), stX10_fails p1 p2 p3 p4 xs = some (r, xs') ∧ stX11_fails p1 p2 p3 p4 ms = some (r, ms') ∧ R (k + 1) xs' ms'
def zQ_worst (R : Nat → XS → MS → Prop) (k : Nat) : Prop := ∀ xs ms, R k xs ms → ∀ p1 p2 : Int32, ∃ (r : Int32) (xs' : XS) (ms' : MS), stX10_worst p1 p2 xs = some (r, xs') ∧ stX11_worst p1 p2 ms = some (r, ms') ∧ R (k + 1) xs' ms'
def zQ_feed (R : Nat → XS → MS → Prop) (k : Nat) : Prop := ∀ xs ms, R k xs ms → ∀ p1 : Int32, ∃ (r : Int32) (xs' : XS) (ms' : MS), stX10_feed p1 xs = some (r, xs') ∧ stX11_feed p1 ms = some (r, ms') ∧ R (k + 1) xs' ms'
def zQ_read (R : Nat → XS → MS → Prop) (k : Nat) : Prop := ∀ xs ms, R k xs ms → ∃ (r : Int32) (xs' : XS) (ms' : MS), stX10_read  xs = some (r, xs') ∧ stX11_read  ms = some (r, ms') ∧ R (k + 1) xs' ms'
def zQ_print (R : Nat → XS → MS → Prop) (k : Nat) : Prop := ∀ xs ms, R k xs ms → ∀ p1 p2 : Int32, ∃ (r : Int32) (xs' : XS) (ms' : MS), stX10_print p1 p2 xs = some (r, xs') ∧ stX11_print p1 p2 ms = some (r, ms') ∧ R (k + 1) xs' ms'
def zQ_reached (R : Nat → XS → MS → Prop) (k : Nat) : Prop := ∀ xs ms, R k xs ms → ∀ p1 : Int32, ∃ (r : Int32) (xs' : XS) (ms' : MS), stX10_reached p1 xs = some (r, xs') ∧ stX11_reached p1 ms = some (r, ms') ∧ R (k + 1) xs' ms'
def zQ_reach (R : Nat → XS → MS → Prop) (k : Nat) : Prop := ∀ xs ms, R k xs ms → ∀ p1 p2 p3 : Int32, ∃ (r : Int64) (xs' : XS) (ms' : MS), stX10_reach p1 p2 p3 xs = some (r, xs') ∧ stX11_reach p1 p2 p3 ms = some (r, ms') ∧ R (k + 1) xs' ms'
def zQ_fewest (R : Nat → XS → MS → Prop) (k : Nat) : Prop := ∀ xs ms, R k xs ms → ∀ p1 p2 : Int32, ∃ (r : Int32) (xs' : XS) (ms' : MS), stX10_fewest p1 p2 xs = some (r, xs') ∧ stX11_fewest p1 p2 ms = some (r, ms') ∧ R (k + 1) xs' ms'
def zQ_nearest (R : Nat → XS → MS → Prop) (k : Nat) : Prop := ∀ xs ms, R k xs ms → ∀ p1 p2 p3 p4 : Int32, ∃ (r : Int64) (xs' : XS) (ms' : MS), stX10_nearest p1 p2 p3 p4 xs = some (r, xs') ∧ stX11_nearest p1 p2 p3 p4 ms = some (r, ms') ∧ R (k + 1) xs' ms'
def zQ_make (R : Nat → XS → MS → Prop) (k : Nat) : Prop := ∀ xs ms, R k xs ms → ∀ p1 p2 : Int32, ∃ (r : Int32) (xs' : XS) (ms' : MS), stX10_make p1 p2 xs = some (r, xs') ∧ stX11_make p1 p2 ms = some (r, ms') ∧ R (k + 1) xs' ms'
def zQ_points (R : Nat → XS → MS → Prop) (k : Nat) : Prop := ∀ xs ms, R k xs ms → ∀ p1 : Int32, ∃ (r : Int32) (xs' : XS) (ms' : MS), stX10_points p1 xs = some (r, xs') ∧ stX11_points p1 ms = some (r, ms') ∧ R (k + 1) xs' ms'
def zQ_edge (R : Nat → XS → MS → Prop) (k : Nat) : Prop := ∀ xs ms, R k xs ms → ∀ p1 p2 p3 : Int32, ∃ (r : Int32) (xs' : XS) (ms' : MS), stX10_edge p1 p2 p3 xs = some (r, xs') ∧ stX11_edge p1 p2 p3 ms = some (r, ms') ∧ R (k + 1) xs' ms'
def zQ_tell (R : Nat → XS → MS → Prop) (k : Nat) : Prop := ∀ xs ms, R k xs ms → ∀ p1 p2 : Int32, ∃ (r : Int32) (xs' : XS) (ms' : MS), stX10_tell p1 p2 xs = some (r, xs') ∧ stX11_tell p1 p2 ms = some (r, ms') ∧ R (k + 1) xs' ms'
def zQ_between (R : Nat → XS → MS → Prop) (k : Nat) : Prop := ∀ xs ms, R k xs ms → ∀ p1 p2 p3 : Int32, ∃ (r : Int64) (xs' : XS) (ms' : MS), stX10_between p1 p2 p3 xs = some (r, xs') ∧ stX11_between p1 p2 p3 ms = some (r, ms') ∧ R (k + 1) xs' ms'
def zQ_without (R : Nat → XS → MS → Prop) (k : Nat) : Prop := ∀ xs ms, R k xs ms → ∀ p1 p2 p3 p4 : Int32, ∃ (r : Int64) (xs' : XS) (ms' : MS), stX10_without p1 p2 p3 p4 xs = some (r, xs') ∧ stX11_without p1 p2 p3 p4 ms = some (r, ms') ∧ R (k + 1) xs' ms'
def zQ_dearest (R : Nat → XS → MS → Prop) (k : Nat) : Prop := ∀ xs ms, R k xs ms → ∀ p1 p2 : Int32, ∃ (r : Int32) (xs' : XS) (ms' : MS), stX10_dearest p1 p2 xs = some (r, xs') ∧ stX11_dearest p1 p2 ms = some (r, ms') ∧ R (k + 1) xs' ms'
def zQ_bridges (R : Nat → XS → MS → Prop) (k : Nat) : Prop := ∀ xs ms, R k xs ms → ∀ p1 p2 : Int32, ∃ (r : Int32) (xs' : XS) (ms' : MS), stX10_bridges p1 p2 xs = some (r, xs') ∧ stX11_bridges p1 p2 ms = some (r, ms') ∧ R (k + 1) xs' ms'
def zQ_ways (R : Nat → XS → MS → Prop) (k : Nat) : Prop := ∀ xs ms, R k xs ms → ∀ p1 : Int32, ∃ (r : Int32) (xs' : XS) (ms' : MS), stX10_ways p1 xs = some (r, xs') ∧ stX11_ways p1 ms = some (r, ms') ∧ R (k + 1) xs' ms'
def zQ_tray (R : Nat → XS → MS → Prop) (k : Nat) : Prop := ∀ xs ms, R k xs ms → ∀ p1 p2 p3 : Int32, ∃ (r : Int32) (xs' : XS) (ms' : MS), stX10_tray p1 p2 p3 xs = some (r, xs') ∧ stX11_tray p1 p2 p3 ms = some (r, ms') ∧ R (k + 1) xs' ms'
def zQ_lay (R : Nat → XS → MS → Prop) (k : Nat) : Prop := ∀ xs ms, R k xs ms → ∀ p1 p2 p3 : Int32, ∃ (r : Int32) (xs' : XS) (ms' : MS), stX10_lay p1 p2 p3 xs = some (r, xs') ∧ stX11_lay p1 p2 p3 ms = some (r, ms') ∧ R (k + 1) xs' ms'
def zQ_at (R : Nat → XS → MS → Prop) (k : Nat) : Prop := ∀ xs ms, R k xs ms → ∀ p1 p2 : Int32, ∃ (r : Int32) (xs' : XS) (ms' : MS), stX10_at p1 p2 xs = some (r, xs') ∧ stX11_at p1 p2 ms = some (r, ms') ∧ R (k + 1) xs' ms'
def zQ_shift (R : Nat → XS → MS → Prop) (k : Nat) : Prop := ∀ xs ms, R k xs ms → ∀ p1 p2 p3 p4 p5 : Int32, ∃ (r : Int32) (xs' : XS) (ms' : MS), stX10_shift p1 p2 p3 p4 p5 xs = some (r, xs') ∧ stX11_shift p1 p2 p3 p4 p5 ms = some (r, ms') ∧ R (k + 1) xs' ms'
def zQ_image (R : Nat → XS → MS → Prop) (k : Nat) : Prop := ∀ xs ms, R k xs ms → ∃ (r : Int32) (xs' : XS) (ms' : MS), stX10_image  xs = some (r, xs') ∧ stX11_image  ms = some (r, ms') ∧ R (k + 1) xs' ms'
def zQ_back (R : Nat → XS → MS → Prop) (k : Nat) : Prop := ∀ xs ms, R k xs ms → ∃ (r : Int32) (xs' : XS) (ms' : MS), stX10_back  xs = some (r, xs') ∧ stX11_back  ms = some (r, ms') ∧ R (k + 1) xs' ms'
def zQ_count (R : Nat → XS → MS → Prop) (k : Nat) : Prop := ∀ xs ms, R k xs ms → ∀ p1 : Int32, ∃ (r : Int32) (xs' : XS) (ms' : MS), stX10_count p1 xs = some (r, xs') ∧ stX11_count p1 ms = some (r, ms') ∧ R (k + 1) xs' ms'
def zQ (R : Nat → XS → MS → Prop) (k : Nat) : Prop := (∀ xs ms, R k xs ms → R (k + 1) xs ms) ∧ zQ_sort R k ∧ zQ_ofSort R k ∧ zQ_part R k ∧ zQ_join R k ∧ zQ_net R k ∧ zQ_value R k ∧ zQ_ends R k ∧ zQ_shortly R k ∧ zQ_drawn R k ∧ zQ_within R k ∧ zQ_alike R k ∧ zQ_turned R k ∧ zQ_fails R k ∧ zQ_worst R k ∧ zQ_feed R k ∧ zQ_read R k ∧ zQ_print R k ∧ zQ_reached R k ∧ zQ_reach R k ∧ zQ_fewest R k ∧ zQ_nearest R k ∧ zQ_make R k ∧ zQ_points R k ∧ zQ_edge R k ∧ zQ_tell R k ∧ zQ_between R k ∧ zQ_without R k ∧ zQ_dearest R k ∧ zQ_bridges R k ∧ zQ_ways R k ∧ zQ_tray R k ∧ zQ_lay R k ∧ zQ_at R k ∧ zQ_shift R k ∧ zQ_image R k ∧ zQ_back R k ∧ zQ_count R k
