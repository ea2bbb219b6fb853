/-! ===== a domain of whole numbers: each stands for its rest among the machine's ints ===== -/
noncomputable def wr (x : Int) : Int := Int.bmod x 4294967296
noncomputable def ii_k (n : Nat) : Int := cond (Nat.ble n 2147483647) (Int.ofNat n) (Int.subNatNat n 4294967296)
noncomputable def ii_and (x y : Int) : Int := (Int32.ofInt x &&& Int32.ofInt y).toInt
noncomputable def ii_or (x y : Int) : Int := (Int32.ofInt x ||| Int32.ofInt y).toInt
noncomputable def ii_xor (x y : Int) : Int := (Int32.ofInt x ^^^ Int32.ofInt y).toInt
noncomputable def ii_shl (x y : Int) : Int := (Int32.ofInt x <<< (Int32.ofInt y &&& 31)).toInt
noncomputable def ii_shr (x y : Int) : Int := (Int32.ofInt x >>> (Int32.ofInt y &&& 31)).toInt
noncomputable def ii_rem (x y : Int) : Int := (Int32.ofInt x - Int32.ofInt x / Int32.ofInt y * Int32.ofInt y).toInt
noncomputable def ii_bin (k : Nat) (i j : Int) : Option Int := match k with
  | 0 => some (wr (i + j))
  | 1 => some (wr (i - j))
  | 2 => some (wr (i * j))
  | 3 => some (ii_and i j)
  | 4 => some (ii_or i j)
  | 5 => some (ii_xor i j)
  | 6 => some (ii_shl i j)
  | 7 => some (ii_shr i j)
  | 8 => cond (decide (wr j = 0)) none (some (ii_rem i j))
  | _ => none
noncomputable def ii_tst (k : Nat) (i j : Int) : Bool := match k with
  | 0 => decide (wr i = wr j)
  | 1 => !(decide (wr i = wr j))
  | 2 => decide (wr i < wr j)
  | 3 => decide (wr j ≤ wr i)
  | 4 => decide (wr j < wr i)
  | _ => decide (wr i ≤ wr j)
noncomputable def ii_val (i : Int) : Option Nat := match wr i with
  | .ofNat n => some n
  | .negSucc _ => none
noncomputable def ii_o (L : Nat) (xs : Nat → Int32) : sx_O Int := (ii_k, (ii_bin, ((fun k i j => some (ii_tst k i j)), (ii_val, (L, fun j => (xs j).toInt)))))
theorem wr_of (x : Int) : (Int32.ofInt x).toInt = wr x := Int32.toInt_ofInt
theorem wr_eq {x : Int} (h1 : -2147483648 ≤ x) (h2 : x < 2147483648) : wr x = x := Int.bmod_eq_of_le (by omega) (by omega)
theorem wr_le (x : Int) : -2147483648 ≤ wr x := by
  rw [← wr_of]; exact Int32.le_toInt _
theorem wr_lt (x : Int) : wr x < 2147483648 := by
  rw [← wr_of]; exact Int32.toInt_lt _
theorem wr_back (x : Int) : Int32.ofInt (wr x) = Int32.ofInt x := by
  rw [← wr_of]
  exact Int32.ofInt_toInt _
abbrev inR (x : Int) : Prop := -2147483648 ≤ x ∧ x < 2147483648
theorem wr_R {x : Int} (h : inR x) : wr x = x := wr_eq h.1 h.2
theorem inR_wr (x : Int) : inR (wr x) := ⟨wr_le x, wr_lt x⟩
theorem inR_of (x : Int32) : inR x.toInt := ⟨Int32.le_toInt x, Int32.toInt_lt x⟩
theorem inR_and (x y : Int) : inR (ii_and x y) := inR_of _
theorem inR_or (x y : Int) : inR (ii_or x y) := inR_of _
theorem inR_xor (x y : Int) : inR (ii_xor x y) := inR_of _
theorem inR_shl (x y : Int) : inR (ii_shl x y) := inR_of _
theorem inR_shr (x y : Int) : inR (ii_shr x y) := inR_of _
theorem inR_rem (x y : Int) : inR (ii_rem x y) := inR_of _
theorem wr_wr (x : Int) : wr (wr x) = wr x := wr_eq (wr_le x) (wr_lt x)
theorem ii_k_ok (n : Nat) : Int32.ofInt (ii_k n) = nI n := by
  unfold ii_k
  cases h : Nat.ble n 2147483647 with
  | true => rfl
  | false =>
    show Int32.ofInt (Int.subNatNat n 4294967296) = nI n
    rw [Int.subNatNat_eq_coe, Int32.ofInt_sub]
    have h1 : Int32.ofInt ((4294967296 : Nat) : Int) = 0 := by decide +kernel
    rw [h1]
    have h2 : Int32.ofInt (n : Int) = nI n := rfl
    rw [h2]
    simp
theorem ii_bin_ok (k : Nat) (i j v : Int) (h : ii_bin k i j = some v) : sx_cb k (Int32.ofInt i) (Int32.ofInt j) (Int32.ofInt v) := by
  unfold ii_bin at h
  split at h
  · cases h; rw [wr_back]; exact Int32.ofInt_add i j
  · cases h; rw [wr_back]; exact Int32.ofInt_sub i j
  · cases h; rw [wr_back]; exact Int32.ofInt_mul i j
  · cases h; exact Int32.ofInt_toInt _
  · cases h; exact Int32.ofInt_toInt _
  · cases h; exact Int32.ofInt_toInt _
  · cases h; exact Int32.ofInt_toInt _
  · cases h; exact Int32.ofInt_toInt _
  · obtain ⟨h1, h2⟩ := sx_condn h
    cases h2
    refine ⟨fun e => ?_, Int32.ofInt_toInt _⟩
    have h3 : wr j = 0 := by rw [← wr_of, e]; rfl
    exact absurd h3 (of_decide_eq_false h1)
  · cases h
theorem ii_tst_ok (k : Nat) (i j : Int) (v : Bool) (h : some (ii_tst k i j) = some v) : v = true ↔ sx_ct k (Int32.ofInt i) (Int32.ofInt j) := by
  cases h
  have e : (Int32.ofInt i = Int32.ofInt j) ↔ wr i = wr j := by
    rw [← wr_of, ← wr_of]; exact Int32.toInt_inj.symm
  have l : ∀ a b : Int, (Int32.ofInt a < Int32.ofInt b) ↔ wr a < wr b := fun a b => by
    rw [← wr_of, ← wr_of]; exact Int32.lt_iff_toInt_lt
  have g : ∀ a b : Int, (Int32.ofInt a ≤ Int32.ofInt b) ↔ wr a ≤ wr b := fun a b => by
    rw [← wr_of, ← wr_of]; exact Int32.le_iff_toInt_le
  unfold ii_tst sx_ct
  split
  · exact decide_eq_true_iff.trans e.symm
  · rw [Bool.not_eq_true', decide_eq_false_iff_not]
    exact not_congr e.symm
  · exact decide_eq_true_iff.trans (l _ _).symm
  · exact decide_eq_true_iff.trans (g _ _).symm
  · exact decide_eq_true_iff.trans (l _ _).symm
  · rename_i k0 h0 h1 h2 h3 h4
    split
    · exact absurd rfl h0
    · exact absurd rfl h1
    · exact absurd rfl h2
    · exact absurd rfl h3
    · exact absurd rfl h4
    · exact decide_eq_true_iff.trans (g _ _).symm
theorem ii_val_ok (i : Int) (n : Nat) (h : ii_val i = some n) : Int32.ofInt i = nI n := by
  unfold ii_val at h
  split at h
  · next m hm =>
    cases h
    have h1 : Int32.ofInt (Int32.ofInt i).toInt = Int32.ofInt i := Int32.ofInt_toInt _
    rw [← h1, wr_of, hm]
    rfl
  · cases h
theorem ii_law {L : Nat} (hL : L < 2 ^ 31) (xs : Nat → Int32) : sx_Law (ii_o L xs) Int32.ofInt L xs :=
  ⟨ii_k_ok, ii_bin_ok, fun k i j v h => ii_tst_ok k i j v h, ii_val_ok, rfl, hL, fun _ _ => Int32.ofInt_toInt _⟩
theorem ii_val_of {i : Int} {n : Nat} (h : wr i = (n : Int)) : ii_val i = some n := by
  unfold ii_val
  rw [h]
