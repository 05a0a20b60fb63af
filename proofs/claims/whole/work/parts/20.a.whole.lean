/-! the start; all calls; the whole -/
def z0a (j : Nat) : Nat := if j = 169 then 4 else 0
theorem z0a_n {j : Nat} (h : j ≠ 169) : z0a j = 0 := if_neg h
theorem z0a_p : z0a 169 = 4 := if_pos rfl
theorem z0_V : zV z0a := by
  refine ⟨fun s hs => ?_, ?_, fun i hi => ?_, ⟨?_, ?_, ?_, fun e he => ?_⟩, fun t ht => ⟨?_, ?_, ?_, fun i hi => ?_⟩⟩
  · rw [z0a_n (by omega), z0a_n (by omega)]
    omega
  · rw [z0a_n (by omega)]
    omega
  · rw [z0a_n (by omega)] at hi
    omega
  · rw [z0a_p]
    omega
  · rw [z0a_p]
    omega
  · rw [z0a_n (by omega)]
    omega
  · rw [z0a_n (by omega)] at he
    omega
  · rw [z0a_n (by omega)]
    omega
  · rw [z0a_n (by omega)]
    omega
  · rw [z0a_n (by omega), z0a_n (by omega)]
  · rw [z0a_n (by omega)]
    omega
theorem z0_X : zX z0a xs0 := by
  have z8 : z0a 8 = 0 := z0a_n (by omega)
  have z170 : z0a 170 = 0 := z0a_n (by omega)
  have tr : ∀ t, t < 3 → zXt z0a t (-1 : Int32) (0 : Int32) (fun _ => (0 : Int32)) := by
    intro t ht
    refine ⟨?_, fun h => ?_⟩
    · rw [z0a_n (by omega), zn01, zl_1]
    · rw [z0a_n (by omega)] at h
      omega
  refine ⟨⟨fun s hs => ?_, fun s hs => ?_⟩, ⟨?_, fun i hi => ?_, fun i hi => ?_, fun i hi => ?_, fun i hi => ?_⟩, ⟨?_, ?_, fun e he => ?_, fun e he => ?_, fun e he => ?_⟩, tr 0 (by omega), tr 1 (by omega), tr 2 (by omega)⟩
  · rw [z0a_n (by omega)]
    rfl
  · rw [z0a_n (by omega)]
    rfl
  · rw [z8]
    rfl
  · omega
  · omega
  · omega
  · omega
  · rw [z0a_p]
    rfl
  · rw [z170]
    rfl
  · omega
  · omega
  · omega
theorem z0_now : m_now ms0 = upd (upd (upd (upd (fun _ => 0) 169 (4 : Int32)) 195 (-1 : Int32)) 197 (-1 : Int32)) 199 (-1 : Int32) := by
  show upd (upd (upd (upd (fun _ => 0) ((169 : Int32)).toNatClampNeg (4 : Int32)) (((195 : Int32) + ((2 : Int32) * (0 : Int32)))).toNatClampNeg (-1 : Int32)) (((195 : Int32) + ((2 : Int32) * (1 : Int32)))).toNatClampNeg (-1 : Int32)) (((195 : Int32) + ((2 : Int32) * (2 : Int32)))).toNatClampNeg (-1 : Int32) = _
  rw [show ((169 : Int32)).toNatClampNeg = 169 from by decide, show (((195 : Int32) + ((2 : Int32) * (0 : Int32)))).toNatClampNeg = 195 from by decide, show (((195 : Int32) + ((2 : Int32) * (1 : Int32)))).toNatClampNeg = 197 from by decide, show (((195 : Int32) + ((2 : Int32) * (2 : Int32)))).toNatClampNeg = 199 from by decide]
theorem z0_M : zMn z0a (m_now ms0) := by
  rw [z0_now]
  refine ⟨fun j hj => ?_, fun t ht hz => ?_, fun j h1 h2 => ?_⟩
  · rw [zupd_ne (by omega), zupd_ne (by omega), zupd_ne (by omega)]
    by_cases e : j = 169
    · rw [zupd_eq e, e, z0a_p]
      rfl
    · rw [zupd_ne e, z0a_n e]
      rfl
  · rw [z0a_n (by omega)] at hz ⊢
    rw [zn01]
    have c : t = 0 ∨ t = 2 ∨ t = 4 := by omega
    rcases c with rfl | rfl | rfl
    · rw [zupd_ne (by omega), zupd_ne (by omega), zupd_eq rfl, zl_1]
    · rw [zupd_ne (by omega), zupd_eq rfl, zl_1]
    · rw [zupd_eq rfl, zl_1]
  · rw [zupd_ne (by omega), zupd_ne (by omega), zupd_ne (by omega), zupd_ne (by omega), z0a_n (by omega)]
    rfl
theorem z0_F : zwFd (x_found xs0) := by
  refine ⟨fun _ => 0, 0, fun s hs => Nat.zero_le _, by omega, fun s hs => rfl, ⟨rfl, ⟨rfl, ⟨fun _ => 0, fun i hi => rfl, ⟨fun i hi => Nat.zero_le _, zwcn_0 4096, fun i e he => by cases he⟩⟩, fun i e he => by cases he⟩, fun k h1 h2 => ?_⟩, ⟨0, by omega, rfl, fun n hn hb => absurd hb (zbt_0 n)⟩⟩
  have : k = 1 := by omega
  subst this
  rw [zwL_b1]
  rfl
theorem zR_0 : zR zwFd 0 xs0 ms0 := ⟨z0a, z0_V, z0_X, z0_M, Or.inl ⟨rfl, rfl⟩, ⟨0, fun _ => 0, by omega, rfl, rfl, fun i hi => by omega, fun i hi => by omega, fun i hi => by omega⟩, z0_F⟩
theorem zq_all (k : Nat) : zQ (zR zwFd) k := ⟨fun _ _ h => h, q_sort, q_ofSort, q_part, q_join, q_net, q_value, q_ends, q_shortly, q_drawn, q_within, q_alike, q_turned, q_fails, q_worst, q_feed, q_read, q_print, q_reached, q_reach, q_fewest, q_nearest, q_make, q_points, q_edge, q_tell, q_between, q_without, q_dearest, q_bridges, q_ways, q_tray, q_lay, q_at, q_shift, q_image, q_back, q_count⟩
theorem whole_start {p : Program} {e : Env} {s : State} {m : MethodId} {below : List Frame} {meth : Method} {c : Code} (l : Launch) (hflags : l.flags = flags0) {b L : Nat} {xs : Nat → Int32} (hL : L ≤ 3584) (C0 : lw_At p s m meth c b L xs) : W p l e room_1 s m #[Value.ref b] below meth c s.heap [] 0 0 (lw_Z below #[Value.ref b] s) (entryFrame m ([Value.ref b] : List Value).toArray 4) :=
  zstart (R := zR zwFd) l hL C0 (fun k _ => zq_all k) zR_0
