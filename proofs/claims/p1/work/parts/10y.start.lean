/-! ===== every script: a short one's run, or a box's ===== -/
theorem sx_start (hall : ∀ xs : Nat → Int32, ∃ bx, sd_in bx xs ∧ sd_f bx = true) (hsh : ∀ L : Nat, L < 6 → sd_good (sd_run [] L) = true) {p : Program} {e : Env} {s : State} {m : MethodId} {below : List Frame} {meth : Method} {c : Code} (l : Launch) (hflags : l.flags = flags0) {b L : Nat} {xs : Nat → Int32} (hL : L ≤ 6) (C0 : lw_At p s m meth c b L xs) : W p l e room_1 s m #[Value.ref b] below meth c s.heap [] 0 0 (lw_Z below #[Value.ref b] s) (entryFrame m ([Value.ref b] : List Value).toArray 7) := by
  rcases Nat.lt_or_ge L 6 with h6 | h6
  · exact sx_short l (sx_hlt hflags) hL C0 (hsh L h6)
  · have e6 : L = 6 := by omega
    subst e6
    obtain ⟨bx, hin, hf⟩ := hall xs
    exact sx_six l (sx_hlt hflags) C0 hin hf
