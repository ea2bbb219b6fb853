/-! ===== boxes: a tree of cuts, its leaves run, all scripts in them ===== -/
noncomputable def sd_f (bx : sd_B) : Bool := sd_good (sd_run6 bx)
noncomputable def sd_lo (bx : sd_B) (i c : Nat) : sd_B := bx.set i ((sd_g bx i).1, (Nat.sub c 1, (sd_g bx i).2.2))
noncomputable def sd_hi (bx : sd_B) (i c : Nat) : sd_B := bx.set i (c, ((sd_g bx i).2.1, (sd_g bx i).2.2))
noncomputable def sd_rs (bx : sd_B) (i q : Nat) : sd_B := bx.set i ((sd_g bx i).1, ((sd_g bx i).2.1, q))
noncomputable def sd_bd (o : Option (List Nat)) (f : List Nat → Option (List Nat)) : Option (List Nat) := match o with
  | some r => f r
  | none => none
/-- a tree in a row: 0 a leaf, 1 i c two parts by the script's int i (moved), 2 i four parts by its rest -/
noncomputable def sd_stp (f : sd_B → Bool) (ih : List Nat → sd_B → Option (List Nat)) (t : List Nat) (bx : sd_B) : Option (List Nat) := match t with
  | 0 :: r => cond (f bx) (some r) none
  | 1 :: i :: c :: r => sd_bd (ih r (sd_lo bx i c)) (fun r => ih r (sd_hi bx i c))
  | 2 :: i :: r => cond (Nat.ble 1 i && Nat.ble i 5) (sd_bd (ih r (sd_rs bx i 0)) (fun r => sd_bd (ih r (sd_rs bx i 1)) (fun r => sd_bd (ih r (sd_rs bx i 2)) (fun r => ih r (sd_rs bx i 3))))) none
  | _ => none
noncomputable def sd_chk (f : sd_B → Bool) (n : Nat) : List Nat → sd_B → Option (List Nat) :=
  Nat.rec (motive := fun _ => List Nat → sd_B → Option (List Nat)) (fun _ _ => none) (fun _ ih => sd_stp f ih) n
theorem sd_bd_ok {o : Option (List Nat)} {f : List Nat → Option (List Nat)} {z : List Nat} (h : sd_bd o f = some z) : ∃ r, o = some r ∧ f r = some z := by
  cases o with
  | none => cases h
  | some r => exact ⟨r, rfl, h⟩
theorem sd_g_set (bx : sd_B) (i j : Nat) (v : Nat × (Nat × Nat)) : sd_g (bx.set i v) j = sd_g bx j ∨ (j = i ∧ sd_g (bx.set i v) j = v) := by
  by_cases h : i = j
  · subst h
    by_cases hl : i < bx.length
    · right
      refine ⟨rfl, ?_⟩
      unfold sd_g
      rw [List.getElem?_set_self hl]
    · left
      unfold sd_g
      rw [List.getElem?_eq_none (l := bx.set i v) (by rw [List.length_set]; omega), List.getElem?_eq_none (l := bx) (by omega)]
  · left
    unfold sd_g
    rw [List.getElem?_set_ne h]
theorem sd_in_set {bx : sd_B} {xs : Nat → Int32} (h : sd_in bx xs) {i : Nat} {v : Nat × (Nat × Nat)} (h1 : v.1 ≤ sd_bias (sd_x xs i) ∧ sd_bias (sd_x xs i) ≤ v.2.1) (h2 : i ≠ 0 → i ≠ 6 → v.2.2 < 4 → xs i &&& 3 = nI v.2.2) (h3 : i = 0 → v.2.2 < 32 → xs 0 &&& 31 = nI v.2.2) : sd_in (bx.set i v) xs := by
  refine ⟨fun j => ?_, fun j hj0 hj6 hj => ?_, fun hj => ?_⟩
  · rcases sd_g_set bx i j v with e | ⟨e1, e⟩
    · rw [e]; exact h.1 j
    · rw [e]; subst e1; exact h1
  · rcases sd_g_set bx i j v with e | ⟨e1, e⟩
    · rw [e] at hj ⊢; exact h.2.1 j hj0 hj6 hj
    · rw [e] at hj ⊢; subst e1; exact h2 hj0 hj6 hj
  · rcases sd_g_set bx i 0 v with e | ⟨e1, e⟩
    · rw [e] at hj ⊢; exact h.2.2 hj
    · rw [e] at hj ⊢; exact h3 e1.symm hj
theorem sd_r4 (x : Int32) : ∃ q, q < 4 ∧ x &&& 3 = nI q := by
  have hx := sd_of_bias x
  generalize (sd_bias x + 2147483648) % 4294967296 = m at hx
  refine ⟨m % 4, Nat.mod_lt _ (by decide), ?_⟩
  have e1 : (3 : Int32) = nI 3 := rfl
  rw [hx, e1, ← nI_landN]
  exact congrArg nI (Nat.and_two_pow_sub_one_eq_mod m 2)
theorem sd_r32 (x : Int32) : ∃ q, q < 32 ∧ x &&& 31 = nI q := by
  have hx := sd_of_bias x
  generalize (sd_bias x + 2147483648) % 4294967296 = m at hx
  refine ⟨m % 32, Nat.mod_lt _ (by decide), ?_⟩
  rw [hx, nI_sh]
theorem sd_stp_ok {xs : Nat → Int32} {f : sd_B → Bool} {ih0 : List Nat → sd_B → Option (List Nat)} (ih : ∀ (t : List Nat) (bx : sd_B) (z : List Nat), ih0 t bx = some z → sd_in bx xs → ∃ bx', sd_in bx' xs ∧ f bx' = true) (t : List Nat) (bx : sd_B) (z : List Nat) (h : sd_stp f ih0 t bx = some z) (hin : sd_in bx xs) : ∃ bx', sd_in bx' xs ∧ f bx' = true := by
  match t, h with
  | [], h => cases h
  | 0 :: r, h =>
    have h' : cond (f bx) (some r) none = some z := h
    exact ⟨bx, hin, (sx_cond h').1⟩
  | [1], h => cases h
  | [1, i], h => cases h
  | 1 :: i :: c :: r, h =>
    have h' : sd_bd (ih0 r (sd_lo bx i c)) (fun r => ih0 r (sd_hi bx i c)) = some z := h
    obtain ⟨r1, a1, a2⟩ := sd_bd_ok h'
    have hb := hin.1 i
    by_cases hc : sd_bias (sd_x xs i) < c
    · refine ih _ _ _ a1 (sd_in_set hin ⟨hb.1, ?_⟩ (hin.2.1 i) (fun e => by subst e; exact hin.2.2))
      show _ ≤ c - 1
      omega
    · exact ih _ _ _ a2 (sd_in_set hin ⟨Nat.not_lt.mp hc, hb.2⟩ (hin.2.1 i) (fun e => by subst e; exact hin.2.2))
  | [2], h => cases h
  | 2 :: i :: r, h =>
    have h' : cond (Nat.ble 1 i && Nat.ble i 5) (sd_bd (ih0 r (sd_rs bx i 0)) (fun r => sd_bd (ih0 r (sd_rs bx i 1)) (fun r => sd_bd (ih0 r (sd_rs bx i 2)) (fun r => ih0 r (sd_rs bx i 3))))) none = some z := h
    obtain ⟨h1, h2⟩ := sx_cond h'
    obtain ⟨h3, h4⟩ := sx_a2 h1
    have h3' := Nat.le_of_ble_eq_true h3
    have h4' := Nat.le_of_ble_eq_true h4
    obtain ⟨r1, a1, a2⟩ := sd_bd_ok h2
    obtain ⟨r2, a2, a3⟩ := sd_bd_ok a2
    obtain ⟨r3, a3, a4⟩ := sd_bd_ok a3
    have hb := hin.1 i
    obtain ⟨q, hq, hx⟩ := sd_r4 (xs i)
    have hgo : ∀ q, xs i &&& 3 = nI q → sd_in (sd_rs bx i q) xs := fun q hx => sd_in_set hin ⟨hb.1, hb.2⟩ (fun _ _ _ => hx) (fun e => by omega)
    match q, hq, hx with
    | 0, _, hx => exact ih _ _ _ a1 (hgo 0 hx)
    | 1, _, hx => exact ih _ _ _ a2 (hgo 1 hx)
    | 2, _, hx => exact ih _ _ _ a3 (hgo 2 hx)
    | 3, _, hx => exact ih _ _ _ a4 (hgo 3 hx)
    | q + 4, hq, _ => omega
  | (k + 3) :: r, h => cases h
theorem sd_chk_ok {xs : Nat → Int32} {f : sd_B → Bool} (n : Nat) : ∀ (t : List Nat) (bx : sd_B) (z : List Nat), sd_chk f n t bx = some z → sd_in bx xs → ∃ bx', sd_in bx' xs ∧ f bx' = true := by
  induction n with
  | zero => intro t bx z h; cases h
  | succ n ih => intro t bx z h hin; exact sd_stp_ok ih t bx z h hin
theorem sd_in_nil (xs : Nat → Int32) : sd_in [] xs := by
  refine ⟨fun i => ⟨Nat.zero_le _, ?_⟩, fun i _ _ h => ?_, fun h => ?_⟩
  · have := sd_bias_lt (sd_x xs i)
    show _ ≤ 4294967295
    omega
  · exact absurd h (by decide : ¬ (32 : Nat) < 4)
  · exact absurd h (by decide : ¬ (32 : Nat) < 32)
theorem sd_in_b0 {xs : Nat → Int32} {r : Nat} (h : xs 0 &&& 31 = nI r) : sd_in (sd_b0 r) xs := by
  have hb : ∀ x : Int32, 0 ≤ sd_bias x ∧ sd_bias x ≤ 4294967295 := fun x => ⟨Nat.zero_le _, by have := sd_bias_lt x; omega⟩
  refine ⟨fun i => ?_, fun i h0 h6 hi => ?_, fun _ => h⟩
  · match i with
    | 0 => exact hb _
    | 1 => exact hb _
    | 2 => exact hb _
    | 3 => exact hb _
    | 4 => exact hb _
    | 5 => exact hb _
    | 6 => exact hb _
    | i + 7 => exact hb _
  · match i, h0, hi with
    | 0, h0, _ => exact absurd rfl h0
    | 1, _, hi => exact absurd hi (by decide : ¬ (4 : Nat) < 4)
    | 2, _, hi => exact absurd hi (by decide : ¬ (4 : Nat) < 4)
    | 3, _, hi => exact absurd hi (by decide : ¬ (4 : Nat) < 4)
    | 4, _, hi => exact absurd hi (by decide : ¬ (4 : Nat) < 4)
    | 5, _, hi => exact absurd hi (by decide : ¬ (4 : Nat) < 4)
    | 6, _, hi => exact absurd hi (by decide : ¬ (4 : Nat) < 4)
    | i + 7, _, hi => exact absurd hi (by decide : ¬ (32 : Nat) < 4)
