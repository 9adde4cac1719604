/-! the start -/
theorem zInv_0 : zInv z0 z0 := by
  refine ⟨((fun _ => (0, 0, 0, none)), (fun _ => 0), 0), fun _ => 0, fun _ => 0, fun _ => true, ⟨⟨⟨?_, fun k hk => ?_⟩, fun k hk => ?_⟩, ⟨fun k j hk => ?_, fun k hk => ?_⟩, ⟨?_, fun k hk => ?_⟩, fun k hk => ?_, ⟨?_, fun k hk => ?_⟩⟩, ⟨0, by omega, rfl, rfl, fun p hp => by omega⟩, ⟨rfl, rfl⟩, ⟨rfl, rfl⟩, ⟨0, by omega, rfl, rfl, fun p hp => by omega⟩⟩
  · show (0 : Nat) ≤ 8; omega
  · exact absurd hk (Nat.not_lt_zero k)
  · exact absurd hk (Nat.not_lt_zero k)
  · exact absurd hk (Nat.not_lt_zero k)
  · exact absurd hk (Nat.not_lt_zero k)
  · show (0 : Int32).toInt = ((0 : Nat) : Int); decide
  · exact absurd hk (Nat.not_lt_zero k)
  · exact absurd hk (Nat.not_lt_zero k)
  · show (0 : Int32).toInt = ((0 : Nat) : Int); decide
  · exact absurd hk (Nat.not_lt_zero k)
theorem whole_start {p : Program} {e : Env} {s : State} {m : MethodId} {below : List Frame} {meth : Method} {c : Code} (l : Launch) {b L : Nat} {xs : Nat → Int32} (hL : L ≤ 3584) (C0 : lw_At p s m meth c b L xs) : W p l e room_1 s m #[Value.ref b] below meth c s.heap [] 0 0 (lw_Z below #[Value.ref b] s) (entryFrame m ([Value.ref b] : List Value).toArray 4) :=
  whole_of zInv hs0 hs1 hs2 hs3 hs4 hs5 hs6 hs7 hs8 hs9 hs10 hs11 hs12 hs13 hs14 hs15 zInv_0 l hL C0
