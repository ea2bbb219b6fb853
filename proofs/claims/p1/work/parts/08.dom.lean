/-! ===== a domain of ints: constants, and a script's ints times a number plus a number, in a box ===== -/
/-- for the script's int i: least, most (both moved by 2^31), the rest by 4 (4: unknown); for i = 0 the rest by 32 (32: unknown) -/
abbrev sd_B : Type := List (Nat × (Nat × Nat))
noncomputable def sd_g (bx : sd_B) (i : Nat) : Nat × (Nat × Nat) := match bx[i]? with
  | some q => q
  | none => (0, (4294967295, 32))
noncomputable def sd_bias (x : Int32) : Nat := (x.toInt + 2147483648).toNat
/-- the script's ints; at 6 the third one's half -/
noncomputable def sd_x (xs : Nat → Int32) (i : Nat) : Int32 := cond (Nat.beq i 6) (xs 3 >>> (1 &&& 31)) (xs i)
noncomputable def sd_in (bx : sd_B) (xs : Nat → Int32) : Prop :=
  (∀ i : Nat, (sd_g bx i).1 ≤ sd_bias (sd_x xs i) ∧ sd_bias (sd_x xs i) ≤ (sd_g bx i).2.1) ∧ (∀ i : Nat, i ≠ 0 → i ≠ 6 → (sd_g bx i).2.2 < 4 → xs i &&& 3 = nI (sd_g bx i).2.2) ∧ ((sd_g bx 0).2.2 < 32 → xs 0 &&& 31 = nI (sd_g bx 0).2.2)
/-- what a code is -/
noncomputable def sd_c (xs : Nat → Int32) (n : Nat) : Int32 := cond (Nat.ble 4294967296 n) (sd_x xs (Nat.mod (Nat.sub n 4294967296) 8) * nI (Nat.mod (Nat.div (Nat.sub n 4294967296) 8) 1024) + nI (Nat.div (Nat.sub n 4294967296) 8192)) (nI n)
noncomputable def sd_sym (i k a : Nat) : Nat := Nat.add 4294967296 (Nat.add i (Nat.mul 8 (Nat.add k (Nat.mul 1024 a))))
noncomputable def sd_k (n : Nat) : Nat := Nat.mod n 4294967296
/-- an int of the script -/
noncomputable def sd_sc (bx : sd_B) (i : Nat) : Nat := cond (Nat.beq (sd_g bx i).1 (sd_g bx i).2.1) (Nat.mod (Nat.add (sd_g bx i).1 2147483648) 4294967296) (sd_sym (Nat.mod i 8) 1 0)
noncomputable def sd_val (n : Nat) : Option Nat := cond (Nat.ble 4294967296 n) none (some n)
/-- a range, moved by 2^31 -/
noncomputable def sd_rng (bx : sd_B) (n : Nat) : Option (Nat × Nat) :=
  cond (Nat.ble 4294967296 n)
    (cond (Nat.beq (Nat.div (Nat.sub n 4294967296) 8) 1) (some ((sd_g bx (Nat.mod (Nat.sub n 4294967296) 8)).1, (sd_g bx (Nat.mod (Nat.sub n 4294967296) 8)).2.1))
      (cond (Nat.ble 2147483648 (sd_g bx (Nat.mod (Nat.sub n 4294967296) 8)).1 && Nat.ble (Nat.add (Nat.mul (Nat.sub (sd_g bx (Nat.mod (Nat.sub n 4294967296) 8)).2.1 2147483648) (Nat.mod (Nat.div (Nat.sub n 4294967296) 8) 1024)) (Nat.div (Nat.sub n 4294967296) 8192)) 2147483647)
        (some (Nat.add (Nat.add (Nat.mul (Nat.sub (sd_g bx (Nat.mod (Nat.sub n 4294967296) 8)).1 2147483648) (Nat.mod (Nat.div (Nat.sub n 4294967296) 8) 1024)) (Nat.div (Nat.sub n 4294967296) 8192)) 2147483648, Nat.add (Nat.add (Nat.mul (Nat.sub (sd_g bx (Nat.mod (Nat.sub n 4294967296) 8)).2.1 2147483648) (Nat.mod (Nat.div (Nat.sub n 4294967296) 8) 1024)) (Nat.div (Nat.sub n 4294967296) 8192)) 2147483648)) none))
    (some (Nat.mod (Nat.add n 2147483648) 4294967296, Nat.mod (Nat.add n 2147483648) 4294967296))
/-- less, as far as the ranges tell -/
noncomputable def sd_lt (p q : Nat × Nat) : Option Bool := cond (Nat.ble (Nat.add p.2 1) q.1) (some true) (cond (Nat.ble q.2 p.1) (some false) none)
noncomputable def sd_eq (p q : Nat × Nat) : Option Bool := cond (Nat.ble (Nat.add p.2 1) q.1 || Nat.ble (Nat.add q.2 1) p.1) (some false) (cond (Nat.beq p.1 p.2 && (Nat.beq q.1 q.2 && Nat.beq p.1 q.1)) (some true) none)
noncomputable def sd_neg (o : Option Bool) : Option Bool := match o with
  | some true => some false
  | some false => some true
  | none => none
noncomputable def sd_cmp (k : Nat) (p q : Nat × Nat) : Option Bool := match k with
  | 0 => sd_eq p q
  | 1 => sd_neg (sd_eq p q)
  | 2 => sd_lt p q
  | 3 => sd_neg (sd_lt p q)
  | 4 => sd_lt q p
  | _ => sd_neg (sd_lt q p)
noncomputable def sd_tst (bx : sd_B) (k m n : Nat) : Option Bool := match sd_rng bx m with
  | some p => match sd_rng bx n with
    | some q => sd_cmp k p q
    | none => none
  | none => none
/-- two constants -/
noncomputable def sd_cc (k m n : Nat) : Option Nat := match k with
  | 0 => some (Nat.mod (Nat.add m n) 4294967296)
  | 1 => some (Nat.mod (Nat.sub (Nat.add m 4294967296) n) 4294967296)
  | 2 => some (Nat.mod (Nat.mul m n) 4294967296)
  | 3 => some (Nat.land m n)
  | 4 => some (Nat.lor m n)
  | 5 => some (Nat.xor m n)
  | 6 => some (Nat.mod (Nat.shiftLeft m (Nat.mod n 32)) 4294967296)
  | 7 => cond (Nat.ble 2147483648 m) none (some (Nat.shiftRight m (Nat.mod n 32)))
  | 8 => cond (Nat.ble 2147483648 m || !(Nat.beq n 2)) none (some (Nat.mod m n))
  | _ => none
/-- one of the script's times a number plus a number, and a constant -/
noncomputable def sd_sk (bx : sd_B) (k m n : Nat) : Option Nat := match k with
  | 0 => some (Nat.add m (Nat.mul 8192 n))
  | 2 => cond (Nat.ble (Nat.mul (Nat.mod (Nat.div (Nat.sub m 4294967296) 8) 1024) n) 1023) (some (sd_sym (Nat.mod (Nat.sub m 4294967296) 8) (Nat.mul (Nat.mod (Nat.div (Nat.sub m 4294967296) 8) 1024) n) (Nat.mul (Nat.div (Nat.sub m 4294967296) 8192) n))) none
  | 3 => cond (Nat.beq (Nat.div (Nat.sub m 4294967296) 8) 1) (cond (Nat.beq (Nat.mod (Nat.sub m 4294967296) 8) 0) (cond (Nat.beq n 31 && Nat.ble (sd_g bx 0).2.2 31) (some (sd_g bx 0).2.2) none)
      (cond (Nat.beq (Nat.mod (Nat.sub m 4294967296) 8) 6) (cond (Nat.beq n 1 && (Nat.ble 2147483648 (sd_g bx 3).1 && Nat.ble (sd_g bx 3).2.2 3)) (some (Nat.div (sd_g bx 3).2.2 2)) none)
        (cond (Nat.beq n 1 && Nat.ble (sd_g bx (Nat.mod (Nat.sub m 4294967296) 8)).2.2 3) (some (Nat.mod (sd_g bx (Nat.mod (Nat.sub m 4294967296) 8)).2.2 2)) none))) none
  | 7 => cond (Nat.beq (Nat.div (Nat.sub m 4294967296) 8) 1 && (Nat.beq (Nat.mod (Nat.sub m 4294967296) 8) 3 && Nat.beq n 1)) (some (sd_sym 6 1 0)) none
  | 8 => cond (Nat.beq (Nat.div (Nat.sub m 4294967296) 8) 1 && (Nat.beq n 2 && (Nat.ble 1 (Nat.mod (Nat.sub m 4294967296) 8) && (Nat.ble (Nat.mod (Nat.sub m 4294967296) 8) 5 && (Nat.ble 2147483648 (sd_g bx (Nat.mod (Nat.sub m 4294967296) 8)).1 && Nat.ble (sd_g bx (Nat.mod (Nat.sub m 4294967296) 8)).2.2 3))))) (some (Nat.mod (sd_g bx (Nat.mod (Nat.sub m 4294967296) 8)).2.2 2)) none
  | _ => none
noncomputable def sd_bin (bx : sd_B) (k m n : Nat) : Option Nat :=
  cond (Nat.ble 4294967296 m) (cond (Nat.ble 4294967296 n) none (sd_sk bx k m n))
    (cond (Nat.ble 4294967296 n) (cond (Nat.beq k 0 || Nat.beq k 2) (sd_sk bx k n m) none) (sd_cc k m n))
noncomputable def sd_o (bx : sd_B) (L : Nat) : sx_O Nat := (sd_k, (sd_bin bx, (sd_tst bx, (sd_val, (L, sd_sc bx)))))
/-! ===== the domain keeps the machine's ints ===== -/
theorem nI_mod (n : Nat) : nI (Nat.mod n 4294967296) = nI n := by
  apply Int32.toBitVec_inj.mp
  apply BitVec.eq_of_toNat_eq
  show (BitVec.ofNat 32 (n % 4294967296)).toNat = (BitVec.ofNat 32 n).toNat
  simp
theorem nI_addN (m n : Nat) : nI (m + n) = nI m + nI n := Int32.ofNat_add m n
theorem nI_mulN (m n : Nat) : nI (m * n) = nI m * nI n := Int32.ofNat_mul m n
theorem nI_toBV (n : Nat) : (nI n).toBitVec = BitVec.ofNat 32 n := rfl
theorem nI_landN (m n : Nat) : nI (Nat.land m n) = nI m &&& nI n := by
  apply Int32.toBitVec_inj.mp
  rw [Int32.toBitVec_and, nI_toBV, nI_toBV, nI_toBV]
  exact BitVec.ofNat_and
theorem nI_lorN (m n : Nat) : nI (Nat.lor m n) = nI m ||| nI n := by
  apply Int32.toBitVec_inj.mp
  rw [Int32.toBitVec_or, nI_toBV, nI_toBV, nI_toBV]
  exact BitVec.ofNat_or
theorem nI_xorN (m n : Nat) : nI (Nat.xor m n) = nI m ^^^ nI n := by
  apply Int32.toBitVec_inj.mp
  rw [Int32.toBitVec_xor, nI_toBV, nI_toBV, nI_toBV]
  exact BitVec.ofNat_xor
theorem nI_subN {m n : Nat} (hn : n < 4294967296) : nI (Nat.sub (Nat.add m 4294967296) n) = nI m - nI n := by
  have h : nI (Nat.sub (Nat.add m 4294967296) n) + nI n = nI m := by
    rw [← nI_addN]
    have h1 : Nat.sub (Nat.add m 4294967296) n + n = m + 4294967296 := by
      show m + 4294967296 - n + n = _
      omega
    rw [h1, ← nI_mod (m + 4294967296), ← nI_mod m]
    show nI ((m + 4294967296) % 4294967296) = nI (m % 4294967296)
    rw [Nat.add_mod_right]
  rw [← h]
  simp
theorem nI_sh (n : Nat) : nI n &&& 31 = nI (n % 32) := by
  have h : (31 : Int32) = nI 31 := rfl
  rw [h, ← nI_landN]
  have h1 : Nat.land n 31 = n % 32 := Nat.and_two_pow_sub_one_eq_mod n 5
  rw [h1]
theorem nI_shlN {m n : Nat} : nI (Nat.shiftLeft m (Nat.mod n 32)) = nI m <<< (nI n &&& 31) := by
  rw [nI_sh]
  have hr : n % 32 < 32 := Nat.mod_lt _ (by decide)
  show nI (m <<< (n % 32)) = _
  generalize n % 32 = r at hr ⊢
  apply Int32.toBitVec_inj.mp
  rw [Int32.toBitVec_shiftLeft, nI_toBV, nI_toBV, nI_toBV]
  have h2 : (BitVec.ofNat 32 r).smod 32 = BitVec.ofNat 32 r := by
    revert hr
    revert r
    decide
  rw [h2]
  apply BitVec.eq_of_toNat_eq
  simp [BitVec.toNat_shiftLeft, Nat.mod_eq_of_lt (show r < 4294967296 by omega), Nat.shiftLeft_eq, Nat.mul_mod]
theorem nI_shrN {m n : Nat} (hm : m < 2147483648) : nI (Nat.shiftRight m (Nat.mod n 32)) = nI m >>> (nI n &&& 31) := by
  rw [nI_sh]
  have hr : n % 32 < 32 := Nat.mod_lt _ (by decide)
  show nI (m >>> (n % 32)) = _
  generalize n % 32 = r at hr ⊢
  apply Int32.toBitVec_inj.mp
  rw [Int32.toBitVec_shiftRight, nI_toBV, nI_toBV, nI_toBV]
  have h2 : (BitVec.ofNat 32 r).smod 32 = BitVec.ofNat 32 r := by
    revert hr
    revert r
    decide
  rw [h2]
  have hmsb : (BitVec.ofNat 32 m).msb = false := by
    rw [BitVec.msb_eq_false_iff_two_mul_lt]
    simp
    omega
  apply BitVec.eq_of_toNat_eq
  have h4 : m >>> r ≤ m := Nat.shiftRight_le m r
  rw [show (BitVec.ofNat 32 m).sshiftRight' (BitVec.ofNat 32 r) = (BitVec.ofNat 32 m).sshiftRight r from by
    unfold BitVec.sshiftRight'
    rw [BitVec.toNat_ofNat, Nat.mod_eq_of_lt (by omega)]]
  rw [BitVec.sshiftRight_eq_of_msb_false hmsb]
  have h5 : m >>> r < 2 ^ 32 := by omega
  have h6 : m < 2 ^ 32 := by omega
  rw [BitVec.toNat_ofNat, BitVec.toNat_ushiftRight, BitVec.toNat_ofNat, Nat.mod_eq_of_lt h5, Nat.mod_eq_of_lt h6]
theorem nI_remN {m : Nat} (hm : m < 2147483648) : nI m - nI m / 2 * 2 = nI (m % 2) := by
  have h0 : (nI m).toInt = (m : Int) := nI_toInt (by omega)
  have h2 : (2 : Int32).toInt = 2 := rfl
  have hd : nI m / 2 = nI (m / 2) := by
    apply Int32.toInt_inj.mp
    rw [Int32.toInt_div, h0, h2, nI_toInt (show m / 2 < 2 ^ 31 by omega)]
    have h3 : ((m : Int)).tdiv 2 = ((m / 2 : Nat) : Int) := by
      rw [Int.tdiv_eq_ediv_of_nonneg (by omega)]
      omega
    rw [h3]
    rw [Int.bmod_eq_of_le] <;> omega
  rw [hd]
  have h5 : nI m = nI (m % 2) + nI (m / 2) * 2 := by
    have h6 : (2 : Int32) = nI 2 := rfl
    rw [h6, ← nI_mulN, ← nI_addN]
    congr 1
    omega
  rw [h5]
  have h7 : (m % 2 + m / 2 * 2) = m := by omega
  simp
theorem sd_c_k {xs : Nat → Int32} {n : Nat} (h : n < 4294967296) : sd_c xs n = nI n := by
  unfold sd_c
  cases hb : Nat.ble 4294967296 n with
  | false => rfl
  | true => exact absurd (Nat.le_of_ble_eq_true hb) (by omega)
theorem sd_nb {a n : Nat} (h : Nat.ble a n = false) : n < a := by
  rcases Nat.lt_or_ge n a with q | q
  · exact q
  · rw [Nat.ble_eq_true_of_le q] at h; cases h
theorem sd_c_sym {xs : Nat → Int32} {n : Nat} (h : Nat.ble 4294967296 n = true) : sd_c xs n = sd_x xs ((n - 4294967296) % 8) * nI ((n - 4294967296) / 8 % 1024) + nI ((n - 4294967296) / 8192) := by
  unfold sd_c
  rw [h]; rfl
theorem sd_c_of {xs : Nat → Int32} {i k a : Nat} (hi : i < 8) (hk : k < 1024) : sd_c xs (sd_sym i k a) = sd_x xs i * nI k + nI a := by
  have e : sd_sym i k a = 4294967296 + (i + 8 * (k + 1024 * a)) := rfl
  have hb : Nat.ble 4294967296 (sd_sym i k a) = true := Nat.ble_eq_true_of_le (by rw [e]; omega)
  rw [sd_c_sym hb, e]
  rw [show (4294967296 + (i + 8 * (k + 1024 * a)) - 4294967296) % 8 = i by omega, show (4294967296 + (i + 8 * (k + 1024 * a)) - 4294967296) / 8 % 1024 = k by omega, show (4294967296 + (i + 8 * (k + 1024 * a)) - 4294967296) / 8192 = a by omega]
theorem sd_mod (n : Nat) : Nat.mod n 4294967296 < 4294967296 := Nat.mod_lt _ (by decide)
theorem sd_bound (x : Int32) : -2147483648 ≤ x.toInt ∧ x.toInt < 2147483648 := ⟨Int32.le_toInt x, Int32.toInt_lt x⟩
theorem sd_bias_eq (x : Int32) : (sd_bias x : Int) = x.toInt + 2147483648 := by
  unfold sd_bias
  have := sd_bound x
  omega
theorem sd_bias_lt (x : Int32) : sd_bias x < 4294967296 := by
  have h := sd_bias_eq x
  have := sd_bound x
  omega
theorem sd_bias_inj {x y : Int32} (h : sd_bias x = sd_bias y) : x = y := by
  apply Int32.toInt_inj.mp
  have h1 := sd_bias_eq x
  have h2 := sd_bias_eq y
  omega
theorem sd_lt_iff (x y : Int32) : x < y ↔ sd_bias x < sd_bias y := by
  rw [Int32.lt_iff_toInt_lt]
  have h1 := sd_bias_eq x
  have h2 := sd_bias_eq y
  omega
theorem sd_le_iff (x y : Int32) : x ≤ y ↔ sd_bias x ≤ sd_bias y := by
  rw [Int32.le_iff_toInt_le]
  have h1 := sd_bias_eq x
  have h2 := sd_bias_eq y
  omega
theorem sd_toInt {n : Nat} (h : n < 4294967296) : (nI n).toInt = if n < 2147483648 then (n : Int) else (n : Int) - 4294967296 := by
  have h1 : (nI n).toInt = (BitVec.ofNat 32 n).toInt := rfl
  have h2 : n % 2 ^ 32 = n := Nat.mod_eq_of_lt (by omega)
  rw [h1, BitVec.toInt_eq_toNat_cond, BitVec.toNat_ofNat, h2]
  split <;> split <;> omega
theorem sd_bias_n {n : Nat} (h : n < 4294967296) : sd_bias (nI n) = (n + 2147483648) % 4294967296 := by
  have h1 := sd_bias_eq (nI n)
  rw [sd_toInt h] at h1
  split at h1 <;> omega
theorem sd_mod' (n : Nat) : n % 4294967296 < 4294967296 := Nat.mod_lt _ (by decide)
theorem sd_of_bias (x : Int32) : x = nI ((sd_bias x + 2147483648) % 4294967296) := by
  apply sd_bias_inj
  rw [sd_bias_n (sd_mod' _)]
  have := sd_bias_lt x
  omega
theorem sd_e_add (a b : Nat) : Nat.add a b = a + b := rfl
theorem sd_e_sub (a b : Nat) : Nat.sub a b = a - b := rfl
theorem sd_e_mul (a b : Nat) : Nat.mul a b = a * b := rfl
theorem sd_e_div (a b : Nat) : Nat.div a b = a / b := rfl
theorem sd_e_mod (a b : Nat) : Nat.mod a b = a % b := rfl
/-- a range holds its code -/
theorem sd_rng_ok {bx : sd_B} {xs : Nat → Int32} (hin : sd_in bx xs) {n : Nat} {p : Nat × Nat} (h : sd_rng bx n = some p) : p.1 ≤ sd_bias (sd_c xs n) ∧ sd_bias (sd_c xs n) ≤ p.2 := by
  unfold sd_rng at h
  simp only [sd_e_add, sd_e_sub, sd_e_mul, sd_e_div, sd_e_mod] at h
  cases hb : Nat.ble 4294967296 n with
  | false =>
    rw [hb, cond_false] at h
    have hn := sd_nb hb
    have h' := Option.some.inj h
    rw [sd_c_k hn, sd_bias_n hn, ← h']
    exact ⟨Nat.le_refl _, Nat.le_refl _⟩
  | true =>
    rw [hb, cond_true] at h
    rw [sd_c_sym hb]
    have hbx := hin.1 ((n - 4294967296) % 8)
    generalize hx : sd_x xs ((n - 4294967296) % 8) = x at hbx ⊢
    generalize hlo : (sd_g bx ((n - 4294967296) % 8)).1 = lo at hbx h
    generalize hhi : (sd_g bx ((n - 4294967296) % 8)).2.1 = hi at hbx h
    cases h1 : Nat.beq ((n - 4294967296) / 8) 1 with
    | true =>
      rw [h1, cond_true] at h
      have h1' : (n - 4294967296) / 8 = 1 := Nat.eq_of_beq_eq_true h1
      have h' := Option.some.inj h
      rw [h1', show (n - 4294967296) / 8192 = 0 by omega, ← h']
      have e : x * nI (1 % 1024) + nI 0 = x := by
        rw [show nI (1 % 1024) = 1 from rfl, show nI 0 = 0 from rfl, Int32.mul_one, Int32.add_zero]
      rw [e]
      exact hbx
    | false =>
      rw [h1, cond_false] at h
      obtain ⟨h2, h3⟩ := sx_cond h
      obtain ⟨h4, h5⟩ := sx_a2 h2
      have h4' := Nat.le_of_ble_eq_true h4
      have h5' := Nat.le_of_ble_eq_true h5
      have h' := Option.some.inj h3
      clear h h2 h3 h4 h5 h1 hin hlo hhi hx
      generalize (n - 4294967296) / 8 % 1024 = k at h5' h' ⊢
      generalize (n - 4294967296) / 8192 = a at h5' h' ⊢
      have hxe := sd_of_bias x
      have hbl := sd_bias_lt x
      obtain ⟨m, hm⟩ : ∃ m, sd_bias x = m + 2147483648 := ⟨sd_bias x - 2147483648, by omega⟩
      have hxm : x = nI m := by
        rw [hm] at hxe
        exact hxe.trans (congrArg nI (by omega))
      have hmul : m * k ≤ (hi - 2147483648) * k := Nat.mul_le_mul_right k (by omega)
      have hmul2 : (lo - 2147483648) * k ≤ m * k := Nat.mul_le_mul_right k (by omega)
      have hc : sd_bias (x * nI k + nI a) = m * k + a + 2147483648 := by
        rw [hxm, ← nI_mulN, ← nI_addN, sd_bias_n (by omega)]
        omega
      rw [hc, ← h']
      constructor
      · show (lo - 2147483648) * k + a + 2147483648 ≤ _
        omega
      · show _ ≤ (hi - 2147483648) * k + a + 2147483648
        omega
theorem sd_lt_ok {p q : Nat × Nat} {x y : Int32} (hx : p.1 ≤ sd_bias x ∧ sd_bias x ≤ p.2) (hy : q.1 ≤ sd_bias y ∧ sd_bias y ≤ q.2) {v : Bool} (h : sd_lt p q = some v) : v = true ↔ x < y := by
  unfold sd_lt at h
  rw [sd_lt_iff]
  cases h1 : Nat.ble (Nat.add p.2 1) q.1 with
  | true =>
    rw [h1] at h
    cases h
    have h2 : p.2 + 1 ≤ q.1 := Nat.le_of_ble_eq_true h1
    exact ⟨fun _ => by omega, fun _ => rfl⟩
  | false =>
    rw [h1] at h
    obtain ⟨h3, h4⟩ := sx_cond h
    cases h4
    have h2 : q.2 ≤ p.1 := Nat.le_of_ble_eq_true h3
    exact ⟨fun z => (by cases z), fun z => (by omega)⟩
theorem sd_eq_ok {p q : Nat × Nat} {x y : Int32} (hx : p.1 ≤ sd_bias x ∧ sd_bias x ≤ p.2) (hy : q.1 ≤ sd_bias y ∧ sd_bias y ≤ q.2) {v : Bool} (h : sd_eq p q = some v) : v = true ↔ x = y := by
  unfold sd_eq at h
  cases h1 : (Nat.ble (Nat.add p.2 1) q.1 || Nat.ble (Nat.add q.2 1) p.1) with
  | true =>
    rw [h1] at h
    cases h
    simp only [Bool.or_eq_true] at h1
    refine ⟨fun z => (by cases z), fun z => ?_⟩
    subst z
    rcases h1 with h1 | h1
    · have h2 : p.2 + 1 ≤ q.1 := Nat.le_of_ble_eq_true h1
      omega
    · have h2 : q.2 + 1 ≤ p.1 := Nat.le_of_ble_eq_true h1
      omega
  | false =>
    rw [h1] at h
    obtain ⟨h3, h4⟩ := sx_cond h
    cases h4
    obtain ⟨a1, a2⟩ := sx_a2 h3
    obtain ⟨a2, a3⟩ := sx_a2 a2
    have b1 := Nat.eq_of_beq_eq_true a1
    have b2 := Nat.eq_of_beq_eq_true a2
    have b3 := Nat.eq_of_beq_eq_true a3
    exact ⟨fun _ => sd_bias_inj (by omega), fun _ => rfl⟩
theorem sd_neg_ok {o : Option Bool} {P : Prop} (hP : ∀ v, o = some v → (v = true ↔ P)) {v : Bool} (h : sd_neg o = some v) : v = true ↔ ¬ P := by
  unfold sd_neg at h
  split at h
  · cases h
    have := (hP true rfl).mp rfl
    exact ⟨fun z => (by cases z), fun z => absurd this z⟩
  · cases h
    exact ⟨fun _ z => absurd ((hP false rfl).mpr z) (by decide), fun _ => rfl⟩
  · cases h
theorem sd_cmp_ok {p q : Nat × Nat} {x y : Int32} (hx : p.1 ≤ sd_bias x ∧ sd_bias x ≤ p.2) (hy : q.1 ≤ sd_bias y ∧ sd_bias y ≤ q.2) {k : Nat} {v : Bool} (h : sd_cmp k p q = some v) : v = true ↔ sx_ct k x y := by
  have nle : ∀ a b : Int32, ¬ a < b ↔ b ≤ a := fun a b => by rw [sd_lt_iff, sd_le_iff]; omega
  match k, h with
  | 0, h => exact sd_eq_ok hx hy h
  | 1, h => exact sd_neg_ok (fun v hv => sd_eq_ok hx hy hv) h
  | 2, h => exact sd_lt_ok hx hy h
  | 3, h => exact (sd_neg_ok (fun v hv => sd_lt_ok hx hy hv) h).trans (nle x y)
  | 4, h => exact sd_lt_ok hy hx h
  | k + 5, h => exact (sd_neg_ok (fun v hv => sd_lt_ok hy hx hv) h).trans (nle y x)
theorem sd_cc_ok {k m n v : Nat} (hm : m < 4294967296) (hn : n < 4294967296) (h : sd_cc k m n = some v) : v < 4294967296 ∧ sx_cb k (nI m) (nI n) (nI v) := by
  match k, h with
  | 0, h =>
    cases h
    exact ⟨sd_mod _, by show nI _ = nI m + nI n; rw [nI_mod]; exact nI_addN m n⟩
  | 1, h =>
    cases h
    exact ⟨sd_mod _, by show nI _ = nI m - nI n; rw [nI_mod]; exact nI_subN hn⟩
  | 2, h =>
    cases h
    exact ⟨sd_mod _, by show nI _ = nI m * nI n; rw [nI_mod]; exact nI_mulN m n⟩
  | 3, h =>
    cases h
    exact ⟨Nat.lt_of_le_of_lt (Nat.and_le_left) hm, nI_landN m n⟩
  | 4, h =>
    cases h
    exact ⟨Nat.or_lt_two_pow (n := 32) hm hn, nI_lorN m n⟩
  | 5, h =>
    cases h
    exact ⟨Nat.xor_lt_two_pow (n := 32) hm hn, nI_xorN m n⟩
  | 6, h =>
    cases h
    exact ⟨sd_mod _, by show nI _ = nI m <<< (nI n &&& 31); rw [nI_mod]; exact nI_shlN⟩
  | 7, h =>
    obtain ⟨h1, h2⟩ := sx_condn h
    cases h2
    have h3 := sd_nb h1
    refine ⟨?_, nI_shrN h3⟩
    have h4 : m >>> (n % 32) ≤ m := Nat.shiftRight_le m _
    exact Nat.lt_of_le_of_lt h4 hm
  | 8, h =>
    obtain ⟨h1, h2⟩ := sx_condn h
    cases h2
    cases a1 : Nat.ble 2147483648 m with
    | true => rw [a1] at h1; cases h1
    | false =>
      cases a2 : Nat.beq n 2 with
      | false => rw [a1, a2] at h1; cases h1
      | true =>
        have h3 := sd_nb a1
        have h4 := Nat.eq_of_beq_eq_true a2
        subst h4
        refine ⟨?_, by decide, ?_⟩
        · show m % 2 < _
          omega
        · exact (nI_remN h3).symm
  | k + 9, h => cases h
theorem sd_div1 {m : Nat} (h1 : (m - 4294967296) / 8 = 1) (hb : 4294967296 ≤ m) {xs : Nat → Int32} : sd_c xs m = sd_x xs ((m - 4294967296) % 8) := by
  rw [sd_c_sym (Nat.ble_eq_true_of_le hb), h1, show (m - 4294967296) / 8192 = 0 by omega, show nI (1 % 1024) = 1 from rfl, show nI 0 = 0 from rfl]
  simp
theorem sd_sk_ok {bx : sd_B} {xs : Nat → Int32} (hin : sd_in bx xs) {k m n v : Nat} (hm : 4294967296 ≤ m) (hn : n < 4294967296) (h : sd_sk bx k m n = some v) : sx_cb k (sd_c xs m) (nI n) (sd_c xs v) ∧ (k = 0 ∨ True) := by
  match k, h with
  | 0, h =>
    cases h
    refine ⟨?_, Or.inl rfl⟩
    show sd_c xs (m + 8192 * n) = sd_c xs m + nI n
    rw [sd_c_sym (Nat.ble_eq_true_of_le hm), sd_c_sym (n := m + 8192 * n) (Nat.ble_eq_true_of_le (by omega))]
    rw [show (m + 8192 * n - 4294967296) % 8 = (m - 4294967296) % 8 by omega, show (m + 8192 * n - 4294967296) / 8 % 1024 = (m - 4294967296) / 8 % 1024 by omega, show (m + 8192 * n - 4294967296) / 8192 = (m - 4294967296) / 8192 + n by omega, nI_addN]
    exact (Int32.add_assoc _ _ _).symm
  | 1, h => cases h
  | 2, h =>
    obtain ⟨h1, h2⟩ := sx_cond h
    cases h2
    refine ⟨?_, Or.inr trivial⟩
    have h3 : (m - 4294967296) / 8 % 1024 * n ≤ 1023 := Nat.le_of_ble_eq_true h1
    show sd_c xs (sd_sym ((m - 4294967296) % 8) ((m - 4294967296) / 8 % 1024 * n) ((m - 4294967296) / 8192 * n)) = sd_c xs m * nI n
    rw [sd_c_of (Nat.mod_lt _ (by decide)) (by omega), sd_c_sym (Nat.ble_eq_true_of_le hm), nI_mulN, nI_mulN, Int32.add_mul, Int32.mul_assoc]
  | 3, h =>
    obtain ⟨h1, h2⟩ := sx_cond h
    have h1' : (m - 4294967296) / 8 = 1 := Nat.eq_of_beq_eq_true h1
    rw [sd_div1 h1' hm]
    cases hz : Nat.beq (Nat.mod (Nat.sub m 4294967296) 8) 0 with
    | true =>
      rw [hz, cond_true] at h2
      have hz' : (m - 4294967296) % 8 = 0 := Nat.eq_of_beq_eq_true hz
      obtain ⟨h3, h4⟩ := sx_cond h2
      obtain ⟨h3, h3b⟩ := sx_a2 h3
      have h3' := Nat.eq_of_beq_eq_true h3
      subst h3'
      have h3c : (sd_g bx 0).2.2 ≤ 31 := Nat.le_of_ble_eq_true h3b
      have h4' : v = (sd_g bx 0).2.2 := (Option.some.inj h4).symm
      subst h4'
      have hv : (sd_g bx 0).2.2 < 4294967296 := by omega
      refine ⟨?_, Or.inr trivial⟩
      rw [sd_c_k hv, hz']
      exact (hin.2.2 (by omega)).symm
    | false =>
      rw [hz, cond_false] at h2
      have hne : (m - 4294967296) % 8 ≠ 0 := fun z => by rw [show Nat.mod (Nat.sub m 4294967296) 8 = 0 from z] at hz; cases hz
      cases hz6 : Nat.beq (Nat.mod (Nat.sub m 4294967296) 8) 6 with
      | true =>
        rw [hz6, cond_true] at h2
        have hz' : (m - 4294967296) % 8 = 6 := Nat.eq_of_beq_eq_true hz6
        obtain ⟨h3, h4⟩ := sx_cond h2
        obtain ⟨h5, h6⟩ := sx_a2 h3
        obtain ⟨h6, h7⟩ := sx_a2 h6
        have h5' := Nat.eq_of_beq_eq_true h5
        subst h5'
        have h6' : 2147483648 ≤ (sd_g bx 3).1 := Nat.le_of_ble_eq_true h6
        have h7' : (sd_g bx 3).2.2 ≤ 3 := Nat.le_of_ble_eq_true h7
        have h8 := hin.2.1 3 (by decide) (by decide) (by omega)
        have hbx := (hin.1 3).1
        have e3 : sd_x xs 3 = xs 3 := rfl
        rw [e3] at hbx
        have h4' : v = (sd_g bx 3).2.2 / 2 := (Option.some.inj h4).symm
        subst h4'
        have hv : (sd_g bx 3).2.2 / 2 < 4294967296 := by omega
        refine ⟨?_, Or.inr trivial⟩
        rw [sd_c_k hv, hz']
        show nI ((sd_g bx 3).2.2 / 2) = (xs 3 >>> (nI 1 &&& 31)) &&& nI 1
        have hq' : (sd_bias (xs 3) + 2147483648) % 4294967296 < 2147483648 := by
          have := sd_bias_lt (xs 3)
          omega
        have hxq : xs 3 = nI ((sd_bias (xs 3) + 2147483648) % 4294967296) := sd_of_bias (xs 3)
        generalize (sd_bias (xs 3) + 2147483648) % 4294967296 = q' at hq' hxq
        rw [hxq] at h8 ⊢
        rw [← nI_shrN hq', ← nI_landN]
        have e1 : (3 : Int32) = nI 3 := rfl
        rw [e1, ← nI_landN] at h8
        have h9 : Nat.land q' 3 = q' % 4 := Nat.and_two_pow_sub_one_eq_mod q' 2
        have h10 : Nat.land (Nat.shiftRight q' (Nat.mod 1 32)) 1 = q' / 2 % 2 := by
          have h11 : Nat.shiftRight q' (Nat.mod 1 32) = q' / 2 := Nat.shiftRight_eq_div_pow q' 1
          rw [h11]
          exact Nat.and_two_pow_sub_one_eq_mod _ 1
        rw [h9] at h8
        rw [h10]
        have h12 : q' % 4 = (sd_g bx 3).2.2 := by
          have h13 := congrArg Int32.toInt h8
          rw [nI_toInt (by omega), nI_toInt (by omega)] at h13
          omega
        rw [← h12]
        exact congrArg nI (by omega)
      | false =>
        rw [hz6, cond_false] at h2
        have hne6 : (m - 4294967296) % 8 ≠ 6 := fun z => by rw [show Nat.mod (Nat.sub m 4294967296) 8 = 6 from z] at hz6; cases hz6
        obtain ⟨h3, h4⟩ := sx_cond h2
        obtain ⟨h5, h6⟩ := sx_a2 h3
        have h5' := Nat.eq_of_beq_eq_true h5
        subst h5'
        have h6' : (sd_g bx ((m - 4294967296) % 8)).2.2 ≤ 3 := Nat.le_of_ble_eq_true h6
        have h7 := hin.2.1 _ hne hne6 (by omega)
        have ex : sd_x xs ((m - 4294967296) % 8) = xs ((m - 4294967296) % 8) := by
          unfold sd_x
          rw [show Nat.beq ((m - 4294967296) % 8) 6 = false from hz6]; rfl
        rw [ex]
        have h4' : v = (sd_g bx ((m - 4294967296) % 8)).2.2 % 2 := (Option.some.inj h4).symm
        subst h4'
        have hv : (sd_g bx ((m - 4294967296) % 8)).2.2 % 2 < 4294967296 := by omega
        refine ⟨?_, Or.inr trivial⟩
        rw [sd_c_k hv]
        show nI ((sd_g bx ((m - 4294967296) % 8)).2.2 % 2) = xs ((m - 4294967296) % 8) &&& nI 1
        have e2 : xs ((m - 4294967296) % 8) &&& nI 1 = (xs ((m - 4294967296) % 8) &&& 3) &&& nI 1 := by
          rw [Int32.and_assoc]; rfl
        rw [e2, h7, ← nI_landN]
        exact congrArg nI (Nat.and_two_pow_sub_one_eq_mod _ 1).symm
  | 4, h => cases h
  | 5, h => cases h
  | 6, h => cases h
  | 7, h =>
    obtain ⟨h1, h2⟩ := sx_cond h
    obtain ⟨a1, h1⟩ := sx_a2 h1
    obtain ⟨a2, a3⟩ := sx_a2 h1
    have h1' : (m - 4294967296) / 8 = 1 := Nat.eq_of_beq_eq_true a1
    have h2' : (m - 4294967296) % 8 = 3 := Nat.eq_of_beq_eq_true a2
    have h3' := Nat.eq_of_beq_eq_true a3
    subst h3'
    have hv : v = sd_sym 6 1 0 := (Option.some.inj h2).symm
    subst hv
    refine ⟨?_, Or.inr trivial⟩
    rw [sd_div1 h1' hm, h2']
    show sd_c xs (sd_sym 6 1 0) = sd_x xs 3 >>> (nI 1 &&& 31)
    rw [sd_c_of (by decide) (by decide), show nI 1 = 1 from rfl, show nI 0 = 0 from rfl, Int32.mul_one, Int32.add_zero]
    rfl
  | 8, h =>
    obtain ⟨h1, h2⟩ := sx_cond h
    obtain ⟨a1, h1⟩ := sx_a2 h1
    obtain ⟨a2, h1⟩ := sx_a2 h1
    obtain ⟨a3, h1⟩ := sx_a2 h1
    obtain ⟨a6, h1⟩ := sx_a2 h1
    obtain ⟨a4, a5⟩ := sx_a2 h1
    have h1' : (m - 4294967296) / 8 = 1 := Nat.eq_of_beq_eq_true a1
    have h2' := Nat.eq_of_beq_eq_true a2
    subst h2'
    have h3' : 1 ≤ (m - 4294967296) % 8 := Nat.le_of_ble_eq_true a3
    have h6' : (m - 4294967296) % 8 ≤ 5 := Nat.le_of_ble_eq_true a6
    have h4' : 2147483648 ≤ (sd_g bx ((m - 4294967296) % 8)).1 := Nat.le_of_ble_eq_true a4
    have h5' : (sd_g bx ((m - 4294967296) % 8)).2.2 ≤ 3 := Nat.le_of_ble_eq_true a5
    have hbx := hin.1 ((m - 4294967296) % 8)
    have h7 := hin.2.1 ((m - 4294967296) % 8) (by omega) (by omega) (by omega)
    have h8 : v = (sd_g bx ((m - 4294967296) % 8)).2.2 % 2 := (Option.some.inj h2).symm
    rw [sd_div1 h1' hm]
    have ex : sd_x xs ((m - 4294967296) % 8) = xs ((m - 4294967296) % 8) := by
      unfold sd_x
      cases hb6 : Nat.beq ((m - 4294967296) % 8) 6 with
      | true => have := Nat.eq_of_beq_eq_true hb6; omega
      | false => rfl
    rw [ex] at hbx ⊢
    generalize hx : xs ((m - 4294967296) % 8) = x at hbx h7 ⊢
    generalize (sd_g bx ((m - 4294967296) % 8)).2.2 = r at h5' h7 h8
    subst h8
    have hv : r % 2 < 4294967296 := by omega
    refine ⟨⟨by decide, ?_⟩, Or.inr trivial⟩
    rw [sd_c_k hv]
    have hxe := sd_of_bias x
    have hbl := sd_bias_lt x
    have hq : ∃ q', q' < 2147483648 ∧ x = nI q' := by
      refine ⟨(sd_bias x + 2147483648) % 4294967296, ?_, hxe⟩
      omega
    obtain ⟨q', hq', hxq⟩ := hq
    rw [hxq] at h7 ⊢
    show nI (r % 2) = nI q' - nI q' / 2 * 2
    rw [nI_remN hq']
    have e1 : (3 : Int32) = nI 3 := rfl
    rw [e1, ← nI_landN] at h7
    have h9 : Nat.land q' 3 = q' % 4 := Nat.and_two_pow_sub_one_eq_mod q' 2
    rw [h9] at h7
    have h12 : q' % 4 = r := by
      have h13 := congrArg Int32.toInt h7
      rw [nI_toInt (by omega), nI_toInt (by omega)] at h13
      omega
    exact congrArg nI (by omega)
  | k + 9, h => cases h
theorem sd_bin_ok {bx : sd_B} {xs : Nat → Int32} (hin : sd_in bx xs) {k m n v : Nat} (h : sd_bin bx k m n = some v) : sx_cb k (sd_c xs m) (sd_c xs n) (sd_c xs v) := by
  unfold sd_bin at h
  cases hm : Nat.ble 4294967296 m with
  | true =>
    rw [hm] at h
    obtain ⟨hn, h⟩ := sx_condn h
    have hn' := sd_nb hn
    rw [sd_c_k hn']
    exact (sd_sk_ok hin (Nat.le_of_ble_eq_true hm) hn' h).1
  | false =>
    rw [hm] at h
    have hm' := sd_nb hm
    rw [sd_c_k hm']
    cases hn : Nat.ble 4294967296 n with
    | true =>
      rw [hn] at h
      obtain ⟨hk, h⟩ := sx_cond h
      have h1 := (sd_sk_ok hin (Nat.le_of_ble_eq_true hn) hm' h).1
      simp only [Bool.or_eq_true] at hk
      rcases hk with hk | hk
      · have hk' := Nat.eq_of_beq_eq_true hk
        subst hk'
        have h2 : sd_c xs v = sd_c xs n + nI m := h1
        exact h2.trans (Int32.add_comm _ _)
      · have hk' := Nat.eq_of_beq_eq_true hk
        subst hk'
        have h2 : sd_c xs v = sd_c xs n * nI m := h1
        exact h2.trans (Int32.mul_comm _ _)
    | false =>
      rw [hn] at h
      have hn' := sd_nb hn
      rw [sd_c_k hn']
      have h1 := sd_cc_ok hm' hn' h
      rw [sd_c_k h1.1]
      exact h1.2
theorem sd_sc_ok {bx : sd_B} {xs : Nat → Int32} (hin : sd_in bx xs) {i : Nat} (hi : i < 6) : sd_c xs (sd_sc bx i) = xs i := by
  have ex : sd_x xs i = xs i := by
    unfold sd_x
    cases hb6 : Nat.beq i 6 with
    | true => have := Nat.eq_of_beq_eq_true hb6; omega
    | false => rfl
  unfold sd_sc
  cases hb : Nat.beq (sd_g bx i).1 (sd_g bx i).2.1 with
  | true =>
    have h1 := Nat.eq_of_beq_eq_true hb
    have h2 := hin.1 i
    rw [ex] at h2
    rw [cond_true, sd_c_k (sd_mod _), sd_e_mod, sd_e_add]
    have h3 : sd_bias (xs i) = (sd_g bx i).1 := by omega
    rw [← h3]
    exact (sd_of_bias (xs i)).symm
  | false =>
    rw [cond_false, sd_e_mod, sd_c_of (by omega) (by decide), show nI 1 = 1 from rfl, show nI 0 = 0 from rfl, show i % 8 = i by omega, ex]
    simp
theorem sd_law {bx : sd_B} {xs : Nat → Int32} (hin : sd_in bx xs) {L : Nat} (hL : L ≤ 6) : sx_Law (sd_o bx L) (sd_c xs) L xs := by
  refine ⟨fun n => ?_, fun k i j v h => sd_bin_ok hin h, fun k i j v h => ?_, fun i n h => ?_, rfl, by omega, fun j hj => sd_sc_ok hin (by omega)⟩
  · show sd_c xs (Nat.mod n 4294967296) = nI n
    rw [sd_c_k (sd_mod n), nI_mod]
  · have h' : sd_tst bx k i j = some v := h
    unfold sd_tst at h'
    split at h'
    · next p hp =>
      split at h'
      · next q hq => exact sd_cmp_ok (sd_rng_ok hin hp) (sd_rng_ok hin hq) h'
      · cases h'
    · cases h'
  · have h' : sd_val i = some n := h
    unfold sd_val at h'
    obtain ⟨h1, h2⟩ := sx_condn h'
    cases h2
    exact sd_c_k (sd_nb h1)
