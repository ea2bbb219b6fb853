/-! ===== a row for each instruction ===== -/
section RU
variable {X : scr} {w m i q a b c n : Nat} {ls r : List (sx_V Int)} {st : List (sx_V Int)} {M : mem} {Q : Nat → sx_V Int → mem → Prop} {x y : Int} {k : Nat}
theorem sx_hd_out {o : sx_O Int} {call : sx_K Int} {go : sx_G Int} {full : List Nat} : True := trivial
theorem at_iload (hd : cdx m i = (2, (a, b))) (he : ldl ls a = some (vi x)) (K : At X w m (i + 1) ls (vi x :: st) M Q) : At X w m i ls st M Q := fun lx h hl hM =>
  ou_next hd (by decide) (fun call go c => by
    show sh_iload go a _ lx st h = _
    unfold sh_iload
    rw [hl a _ he rfl]) rfl rfl (K lx h hl hM)
theorem at_aload (hd : cdx m i = (0, (a, b))) (he : ldl ls a = some (vr k)) (K : At X w m (i + 1) ls (vr k :: st) M Q) : At X w m i ls st M Q := fun lx h hl hM =>
  ou_next hd (by decide) (fun call go c => by
    show sh_aload go a _ lx st h = _
    unfold sh_aload
    rw [hl a _ he rfl]) rfl rfl (K lx h hl hM)
theorem at_aload0 (hd : cdx m i = (0, (a, b))) (he : ldl ls a = some none) (K : At X w m (i + 1) ls (none :: st) M Q) : At X w m i ls st M Q := fun lx h hl hM =>
  ou_next hd (by decide) (fun call go c => by
    show sh_aload go a _ lx st h = _
    unfold sh_aload
    rw [hl a _ he rfl]) rfl rfl (K lx h hl hM)
theorem at_aloads (hd : cdx m i = (0, (a, b))) (he : ldl ls a = some vs) (K : At X w m (i + 1) ls (vs :: st) M Q) : At X w m i ls st M Q := fun lx h hl hM =>
  ou_next hd (by decide) (fun call go c => by
    show sh_aload go a _ lx st h = _
    unfold sh_aload
    rw [hl a _ he rfl]) rfl rfl (K lx h hl hM)
theorem at_const (hd : cdx m i = (3, (a, b))) (hc : ii_k a = x) (K : At X w m (i + 1) ls (vi x :: st) M Q) : At X w m i ls st M Q := fun lx h hl hM =>
  ou_next hd (by decide) (fun call go c => by subst hc; rfl) rfl rfl (K lx h hl hM)
theorem at_istore (hd : cdx m i = (9, (a, b))) (K : At X w m (i + 1) (stl ls a (vi x)) st M Q) : At X w m i ls (vi x :: st) M Q := fun lx h hl hM =>
  ou_next hd (by decide) (fun call go c => rfl) rfl rfl (K (sx_st lx a (vi x)) h (lsR_st hl _ _) hM)
theorem at_astore (hd : cdx m i = (22, (a, b))) (K : At X w m (i + 1) (stl ls a (vr k)) st M Q) : At X w m i ls (vr k :: st) M Q := fun lx h hl hM =>
  ou_next hd (by decide) (fun call go c => rfl) rfl rfl (K (sx_st lx a (vr k)) h (lsR_st hl _ _) hM)
theorem at_astore0 (hd : cdx m i = (22, (a, b))) (K : At X w m (i + 1) (stl ls a none) st M Q) : At X w m i ls (none :: st) M Q := fun lx h hl hM =>
  ou_next hd (by decide) (fun call go c => rfl) rfl rfl (K (sx_st lx a none) h (lsR_st hl _ _) hM)
theorem at_iincW (hd : cdx m i = (14, (a, b))) (he : ldl ls a = some (vi x)) (hc : ii_k b = y) (K : At X w m (i + 1) (stl ls a (vi (wr (x + y)))) st M Q) : At X w m i ls st M Q := fun lx h hl hM =>
  ou_next hd (by decide) (fun call go c => by
    show sh_iinc (oI X) go a b _ lx st h = _
    unfold sh_iinc
    rw [hl a _ he rfl]
    subst hc
    rfl) rfl rfl (K (sx_st lx a (vi (wr (x + y)))) h (lsR_st hl _ _) hM)
theorem at_iincR (hd : cdx m i = (14, (a, b))) (he : ldl ls a = some (vi x)) (hc : ii_k b = y) (hr : inR (x + y)) (K : inR (x + y) → At X w m (i + 1) (stl ls a (vi (x + y))) st M Q) : At X w m i ls st M Q := at_iincW hd he hc (by rw [wr_R hr]; exact K hr)
theorem at_dup {v : sx_V Int} (hd : cdx m i = (16, (a, b))) (h2 : sx_is2 v = false) (K : At X w m (i + 1) ls (v :: v :: st) M Q) : At X w m i ls (v :: st) M Q := fun lx h hl hM =>
  ou_next hd (by decide) (fun call go c => by
    show sh_dup go _ lx (v :: st) h = _
    unfold sh_dup
    show cond (sx_is2 v) none (go _ lx (v :: v :: st) h) = _
    rw [h2]
    rfl) rfl rfl (K lx h hl hM)
theorem at_dup2 {v u : sx_V Int} (hd : cdx m i = (28, (a, b))) (h2 : sx_is2 v = false) (h3 : sx_is2 u = false) (K : At X w m (i + 1) ls (v :: u :: v :: u :: st) M Q) : At X w m i ls (v :: u :: st) M Q := fun lx h hl hM =>
  ou_next hd (by decide) (fun call go c => by
    show sh_dup2 go _ lx (v :: u :: st) h = _
    unfold sh_dup2
    show cond (sx_is2 v || sx_is2 u) none (go _ lx (v :: u :: v :: u :: st) h) = _
    rw [h2, h3]
    rfl) rfl rfl (K lx h hl hM)
theorem at_pop {v : sx_V Int} (hd : cdx m i = (32, (a, b))) (h2 : sx_is2 v = false) (K : At X w m (i + 1) ls st M Q) : At X w m i ls (v :: st) M Q := fun lx h hl hM =>
  ou_next hd (by decide) (fun call go c => by
    show sh_pop go _ lx (v :: st) h = _
    unfold sh_pop
    show cond (sx_is2 v) none (go _ lx st h) = _
    rw [h2]
    rfl) rfl rfl (K lx h hl hM)
theorem at_null (hd : cdx m i = (27, (a, b))) (K : At X w m (i + 1) ls (none :: st) M Q) : At X w m i ls st M Q := fun lx h hl hM =>
  ou_next hd (by decide) (fun call go c => rfl) rfl rfl (K lx h hl hM)
theorem at_i2l (hd : cdx m i = (21, (a, b))) (K : At X w m (i + 1) ls (vl x :: st) M Q) : At X w m i ls (vi x :: st) M Q := fun lx h hl hM =>
  ou_next hd (by decide) (fun call go c => rfl) rfl rfl (K lx h hl hM)
theorem at_goto (hd : cdx m i = (5, (a, b))) (K : At X w m b ls st M Q) : At X w m i ls st M Q := fun lx h hl hM =>
  ou_next hd (by decide) (fun call go c => rfl) rfl rfl (K lx h hl hM)
theorem at_bin (hd : cdx m i = (8, (a, b))) {z : Int} (hz : ii_bin a x y = some z) (K : At X w m (i + 1) ls (vi z :: st) M Q) : At X w m i ls (vi y :: vi x :: st) M Q := fun lx h hl hM =>
  ou_next hd (by decide) (fun call go c => by
    show sh_bin (oI X) go a _ lx (vi y :: vi x :: st) h = _
    unfold sh_bin
    simp only [show (oI X).2.1 a x y = some z from hz]) rfl rfl (K lx h hl hM)
theorem at_addW (hd : cdx m i = (8, (0, b))) (K : At X w m (i + 1) ls (vi (wr (x + y)) :: st) M Q) : At X w m i ls (vi y :: vi x :: st) M Q := at_bin hd rfl K
theorem at_addR (hd : cdx m i = (8, (0, b))) (hr : inR (x + y)) (K : inR (x + y) → At X w m (i + 1) ls (vi (x + y) :: st) M Q) : At X w m i ls (vi y :: vi x :: st) M Q := at_bin (z := x + y) hd (by show some (wr (x + y)) = _; rw [wr_R hr]) (K hr)
theorem at_subW (hd : cdx m i = (8, (1, b))) (K : At X w m (i + 1) ls (vi (wr (x - y)) :: st) M Q) : At X w m i ls (vi y :: vi x :: st) M Q := at_bin hd rfl K
theorem at_subR (hd : cdx m i = (8, (1, b))) (hr : inR (x - y)) (K : inR (x - y) → At X w m (i + 1) ls (vi (x - y) :: st) M Q) : At X w m i ls (vi y :: vi x :: st) M Q := at_bin (z := x - y) hd (by show some (wr (x - y)) = _; rw [wr_R hr]) (K hr)
theorem at_mulW (hd : cdx m i = (8, (2, b))) (K : At X w m (i + 1) ls (vi (wr (x * y)) :: st) M Q) : At X w m i ls (vi y :: vi x :: st) M Q := at_bin hd rfl K
theorem at_mulR (hd : cdx m i = (8, (2, b))) (hr : inR (x * y)) (K : inR (x * y) → At X w m (i + 1) ls (vi (x * y) :: st) M Q) : At X w m i ls (vi y :: vi x :: st) M Q := at_bin (z := x * y) hd (by show some (wr (x * y)) = _; rw [wr_R hr]) (K hr)
theorem at_and (hd : cdx m i = (8, (3, b))) (K : At X w m (i + 1) ls (vi (ii_and x y) :: st) M Q) : At X w m i ls (vi y :: vi x :: st) M Q := at_bin hd rfl K
theorem at_or (hd : cdx m i = (8, (4, b))) (K : At X w m (i + 1) ls (vi (ii_or x y) :: st) M Q) : At X w m i ls (vi y :: vi x :: st) M Q := at_bin hd rfl K
theorem at_xor (hd : cdx m i = (8, (5, b))) (K : At X w m (i + 1) ls (vi (ii_xor x y) :: st) M Q) : At X w m i ls (vi y :: vi x :: st) M Q := at_bin hd rfl K
theorem at_shl (hd : cdx m i = (8, (6, b))) (K : At X w m (i + 1) ls (vi (ii_shl x y) :: st) M Q) : At X w m i ls (vi y :: vi x :: st) M Q := at_bin hd rfl K
theorem at_shr (hd : cdx m i = (8, (7, b))) (K : At X w m (i + 1) ls (vi (ii_shr x y) :: st) M Q) : At X w m i ls (vi y :: vi x :: st) M Q := at_bin hd rfl K
theorem at_rem (hd : cdx m i = (8, (8, b))) (hy : ¬ wr y = 0) (K : At X w m (i + 1) ls (vi (ii_rem x y) :: st) M Q) : At X w m i ls (vi y :: vi x :: st) M Q := at_bin hd (show cond (decide (wr y = 0)) none (some (ii_rem x y)) = some (ii_rem x y) by rw [decide_eq_false hy]; rfl) K
theorem at_icmp (hd : cdx m i = (11, (a, b))) (K1 : ii_tst a x y = true → At X w m b ls st M Q) (K2 : ii_tst a x y = false → At X w m (i + 1) ls st M Q) : At X w m i ls (vi y :: vi x :: st) M Q := fun lx h hl hM => by
  cases ht : ii_tst a x y with
  | true => exact ou_next hd (by decide) (fun call go c => by
      show sh_icmp (oI X) go _ a b _ lx (vi y :: vi x :: st) h = _
      unfold sh_icmp
      show (match some (ii_tst a x y) with
        | some true => go _ lx st h
        | some false => go _ lx st h
        | none => none) = _
      rw [ht]) rfl rfl (K1 ht lx h hl hM)
  | false => exact ou_next hd (by decide) (fun call go c => by
      show sh_icmp (oI X) go _ a b _ lx (vi y :: vi x :: st) h = _
      unfold sh_icmp
      show (match some (ii_tst a x y) with
        | some true => go _ lx st h
        | some false => go _ lx st h
        | none => none) = _
      rw [ht]) rfl rfl (K2 ht lx h hl hM)
theorem at_if (hd : cdx m i = (10, (a, b))) (K1 : ii_tst a x 0 = true → At X w m b ls st M Q) (K2 : ii_tst a x 0 = false → At X w m (i + 1) ls st M Q) : At X w m i ls (vi x :: st) M Q := fun lx h hl hM => by
  cases ht : ii_tst a x 0 with
  | true => exact ou_next hd (by decide) (fun call go c => by
      show sh_if (oI X) go _ a b _ lx (vi x :: st) h = _
      unfold sh_if
      show (match some (ii_tst a x 0) with
        | some true => go _ lx st h
        | some false => go _ lx st h
        | none => none) = _
      rw [ht]) rfl rfl (K1 ht lx h hl hM)
  | false => exact ou_next hd (by decide) (fun call go c => by
      show sh_if (oI X) go _ a b _ lx (vi x :: st) h = _
      unfold sh_if
      show (match some (ii_tst a x 0) with
        | some true => go _ lx st h
        | some false => go _ lx st h
        | none => none) = _
      rw [ht]) rfl rfl (K2 ht lx h hl hM)

theorem at_ceqR (hd : cdx m i = (11, (0, b))) (hx : inR x) (hy : inR y) (K1 : x = y → At X w m b ls st M Q) (K2 : ¬ x = y → At X w m (i + 1) ls st M Q) : At X w m i ls (vi y :: vi x :: st) M Q := by
  refine at_icmp hd (fun h => K1 ?_) (fun h => K2 ?_)
  · have h1 : wr x = wr y := of_decide_eq_true h
    rw [wr_R hx, wr_R hy] at h1
    exact h1
  · have h1 : ¬ wr x = wr y := of_decide_eq_false h
    rw [wr_R hx, wr_R hy] at h1
    exact h1
theorem at_zeqR (hd : cdx m i = (10, (0, b))) (hx : inR x) (K1 : x = 0 → At X w m b ls st M Q) (K2 : ¬ x = 0 → At X w m (i + 1) ls st M Q) : At X w m i ls (vi x :: st) M Q := by
  refine at_if hd (fun h => K1 ?_) (fun h => K2 ?_)
  · have h1 : wr x = wr 0 := of_decide_eq_true h
    rw [wr_R hx, wr_R (show inR 0 by decide)] at h1
    exact h1
  · have h1 : ¬ wr x = wr 0 := of_decide_eq_false h
    rw [wr_R hx, wr_R (show inR 0 by decide)] at h1
    exact h1
theorem at_ceqW (hd : cdx m i = (11, (0, b))) (K1 : (wr x) = (wr y) → At X w m b ls st M Q) (K2 : ¬ (wr x) = (wr y) → At X w m (i + 1) ls st M Q) : At X w m i ls (vi y :: vi x :: st) M Q := by
  refine at_icmp hd (fun h => K1 ?_) (fun h => K2 ?_)
  · have h1 : wr x = wr y := of_decide_eq_true h
    exact h1
  · have h1 : ¬ wr x = wr y := of_decide_eq_false h
    exact h1
theorem at_zeqW (hd : cdx m i = (10, (0, b))) (K1 : (wr x) = 0 → At X w m b ls st M Q) (K2 : ¬ (wr x) = 0 → At X w m (i + 1) ls st M Q) : At X w m i ls (vi x :: st) M Q := by
  refine at_if hd (fun h => K1 ?_) (fun h => K2 ?_)
  · have h1 : wr x = wr 0 := of_decide_eq_true h
    rw [wr_R (show inR 0 by decide)] at h1
    exact h1
  · have h1 : ¬ wr x = wr 0 := of_decide_eq_false h
    rw [wr_R (show inR 0 by decide)] at h1
    exact h1
theorem at_cneR (hd : cdx m i = (11, (1, b))) (hx : inR x) (hy : inR y) (K1 : ¬ x = y → At X w m b ls st M Q) (K2 : x = y → At X w m (i + 1) ls st M Q) : At X w m i ls (vi y :: vi x :: st) M Q := by
  refine at_icmp hd (fun h => K1 ?_) (fun h => K2 ?_)
  · have h2 : (!(decide (wr x = wr y))) = true := h
    have h1 : ¬ wr x = wr y := fun e => by rw [decide_eq_true e] at h2; cases h2
    rw [wr_R hx, wr_R hy] at h1
    exact h1
  · have h2 : (!(decide (wr x = wr y))) = false := h
    have h1 : wr x = wr y := by
      cases hz : decide (wr x = wr y) with
      | true => exact of_decide_eq_true hz
      | false => rw [hz] at h2; cases h2
    rw [wr_R hx, wr_R hy] at h1
    exact h1
theorem at_zneR (hd : cdx m i = (10, (1, b))) (hx : inR x) (K1 : ¬ x = 0 → At X w m b ls st M Q) (K2 : x = 0 → At X w m (i + 1) ls st M Q) : At X w m i ls (vi x :: st) M Q := by
  refine at_if hd (fun h => K1 ?_) (fun h => K2 ?_)
  · have h2 : (!(decide (wr x = wr 0))) = true := h
    have h1 : ¬ wr x = wr 0 := fun e => by rw [decide_eq_true e] at h2; cases h2
    rw [wr_R hx, wr_R (show inR 0 by decide)] at h1
    exact h1
  · have h2 : (!(decide (wr x = wr 0))) = false := h
    have h1 : wr x = wr 0 := by
      cases hz : decide (wr x = wr 0) with
      | true => exact of_decide_eq_true hz
      | false => rw [hz] at h2; cases h2
    rw [wr_R hx, wr_R (show inR 0 by decide)] at h1
    exact h1
theorem at_cneW (hd : cdx m i = (11, (1, b))) (K1 : ¬ (wr x) = (wr y) → At X w m b ls st M Q) (K2 : (wr x) = (wr y) → At X w m (i + 1) ls st M Q) : At X w m i ls (vi y :: vi x :: st) M Q := by
  refine at_icmp hd (fun h => K1 ?_) (fun h => K2 ?_)
  · have h2 : (!(decide (wr x = wr y))) = true := h
    have h1 : ¬ wr x = wr y := fun e => by rw [decide_eq_true e] at h2; cases h2
    exact h1
  · have h2 : (!(decide (wr x = wr y))) = false := h
    have h1 : wr x = wr y := by
      cases hz : decide (wr x = wr y) with
      | true => exact of_decide_eq_true hz
      | false => rw [hz] at h2; cases h2
    exact h1
theorem at_zneW (hd : cdx m i = (10, (1, b))) (K1 : ¬ (wr x) = 0 → At X w m b ls st M Q) (K2 : (wr x) = 0 → At X w m (i + 1) ls st M Q) : At X w m i ls (vi x :: st) M Q := by
  refine at_if hd (fun h => K1 ?_) (fun h => K2 ?_)
  · have h2 : (!(decide (wr x = wr 0))) = true := h
    have h1 : ¬ wr x = wr 0 := fun e => by rw [decide_eq_true e] at h2; cases h2
    rw [wr_R (show inR 0 by decide)] at h1
    exact h1
  · have h2 : (!(decide (wr x = wr 0))) = false := h
    have h1 : wr x = wr 0 := by
      cases hz : decide (wr x = wr 0) with
      | true => exact of_decide_eq_true hz
      | false => rw [hz] at h2; cases h2
    rw [wr_R (show inR 0 by decide)] at h1
    exact h1
theorem at_cltR (hd : cdx m i = (11, (2, b))) (hx : inR x) (hy : inR y) (K1 : x < y → At X w m b ls st M Q) (K2 : x ≥ y → At X w m (i + 1) ls st M Q) : At X w m i ls (vi y :: vi x :: st) M Q := by
  refine at_icmp hd (fun h => K1 ?_) (fun h => K2 ?_)
  · have h1 : wr x < wr y := of_decide_eq_true h
    rw [wr_R hx, wr_R hy] at h1
    exact h1
  · have h1 : wr y ≤ wr x := Int.not_lt.mp (of_decide_eq_false h)
    rw [wr_R hx, wr_R hy] at h1
    exact h1
theorem at_zltR (hd : cdx m i = (10, (2, b))) (hx : inR x) (K1 : x < 0 → At X w m b ls st M Q) (K2 : x ≥ 0 → At X w m (i + 1) ls st M Q) : At X w m i ls (vi x :: st) M Q := by
  refine at_if hd (fun h => K1 ?_) (fun h => K2 ?_)
  · have h1 : wr x < wr 0 := of_decide_eq_true h
    rw [wr_R hx, wr_R (show inR 0 by decide)] at h1
    exact h1
  · have h1 : wr 0 ≤ wr x := Int.not_lt.mp (of_decide_eq_false h)
    rw [wr_R hx, wr_R (show inR 0 by decide)] at h1
    exact h1
theorem at_cltW (hd : cdx m i = (11, (2, b))) (K1 : (wr x) < (wr y) → At X w m b ls st M Q) (K2 : (wr x) ≥ (wr y) → At X w m (i + 1) ls st M Q) : At X w m i ls (vi y :: vi x :: st) M Q := by
  refine at_icmp hd (fun h => K1 ?_) (fun h => K2 ?_)
  · have h1 : wr x < wr y := of_decide_eq_true h
    exact h1
  · have h1 : wr y ≤ wr x := Int.not_lt.mp (of_decide_eq_false h)
    exact h1
theorem at_zltW (hd : cdx m i = (10, (2, b))) (K1 : (wr x) < 0 → At X w m b ls st M Q) (K2 : (wr x) ≥ 0 → At X w m (i + 1) ls st M Q) : At X w m i ls (vi x :: st) M Q := by
  refine at_if hd (fun h => K1 ?_) (fun h => K2 ?_)
  · have h1 : wr x < wr 0 := of_decide_eq_true h
    rw [wr_R (show inR 0 by decide)] at h1
    exact h1
  · have h1 : wr 0 ≤ wr x := Int.not_lt.mp (of_decide_eq_false h)
    rw [wr_R (show inR 0 by decide)] at h1
    exact h1
theorem at_cgeR (hd : cdx m i = (11, (3, b))) (hx : inR x) (hy : inR y) (K1 : x ≥ y → At X w m b ls st M Q) (K2 : x < y → At X w m (i + 1) ls st M Q) : At X w m i ls (vi y :: vi x :: st) M Q := by
  refine at_icmp hd (fun h => K1 ?_) (fun h => K2 ?_)
  · have h1 : wr y ≤ wr x := of_decide_eq_true h
    rw [wr_R hx, wr_R hy] at h1
    exact h1
  · have h1 : wr x < wr y := Int.not_le.mp (of_decide_eq_false h)
    rw [wr_R hx, wr_R hy] at h1
    exact h1
theorem at_zgeR (hd : cdx m i = (10, (3, b))) (hx : inR x) (K1 : x ≥ 0 → At X w m b ls st M Q) (K2 : x < 0 → At X w m (i + 1) ls st M Q) : At X w m i ls (vi x :: st) M Q := by
  refine at_if hd (fun h => K1 ?_) (fun h => K2 ?_)
  · have h1 : wr 0 ≤ wr x := of_decide_eq_true h
    rw [wr_R hx, wr_R (show inR 0 by decide)] at h1
    exact h1
  · have h1 : wr x < wr 0 := Int.not_le.mp (of_decide_eq_false h)
    rw [wr_R hx, wr_R (show inR 0 by decide)] at h1
    exact h1
theorem at_cgeW (hd : cdx m i = (11, (3, b))) (K1 : (wr x) ≥ (wr y) → At X w m b ls st M Q) (K2 : (wr x) < (wr y) → At X w m (i + 1) ls st M Q) : At X w m i ls (vi y :: vi x :: st) M Q := by
  refine at_icmp hd (fun h => K1 ?_) (fun h => K2 ?_)
  · have h1 : wr y ≤ wr x := of_decide_eq_true h
    exact h1
  · have h1 : wr x < wr y := Int.not_le.mp (of_decide_eq_false h)
    exact h1
theorem at_zgeW (hd : cdx m i = (10, (3, b))) (K1 : (wr x) ≥ 0 → At X w m b ls st M Q) (K2 : (wr x) < 0 → At X w m (i + 1) ls st M Q) : At X w m i ls (vi x :: st) M Q := by
  refine at_if hd (fun h => K1 ?_) (fun h => K2 ?_)
  · have h1 : wr 0 ≤ wr x := of_decide_eq_true h
    rw [wr_R (show inR 0 by decide)] at h1
    exact h1
  · have h1 : wr x < wr 0 := Int.not_le.mp (of_decide_eq_false h)
    rw [wr_R (show inR 0 by decide)] at h1
    exact h1
theorem at_cgtR (hd : cdx m i = (11, (4, b))) (hx : inR x) (hy : inR y) (K1 : x > y → At X w m b ls st M Q) (K2 : x ≤ y → At X w m (i + 1) ls st M Q) : At X w m i ls (vi y :: vi x :: st) M Q := by
  refine at_icmp hd (fun h => K1 ?_) (fun h => K2 ?_)
  · have h1 : wr y < wr x := of_decide_eq_true h
    rw [wr_R hx, wr_R hy] at h1
    exact h1
  · have h1 : wr x ≤ wr y := Int.not_lt.mp (of_decide_eq_false h)
    rw [wr_R hx, wr_R hy] at h1
    exact h1
theorem at_zgtR (hd : cdx m i = (10, (4, b))) (hx : inR x) (K1 : x > 0 → At X w m b ls st M Q) (K2 : x ≤ 0 → At X w m (i + 1) ls st M Q) : At X w m i ls (vi x :: st) M Q := by
  refine at_if hd (fun h => K1 ?_) (fun h => K2 ?_)
  · have h1 : wr 0 < wr x := of_decide_eq_true h
    rw [wr_R hx, wr_R (show inR 0 by decide)] at h1
    exact h1
  · have h1 : wr x ≤ wr 0 := Int.not_lt.mp (of_decide_eq_false h)
    rw [wr_R hx, wr_R (show inR 0 by decide)] at h1
    exact h1
theorem at_cgtW (hd : cdx m i = (11, (4, b))) (K1 : (wr x) > (wr y) → At X w m b ls st M Q) (K2 : (wr x) ≤ (wr y) → At X w m (i + 1) ls st M Q) : At X w m i ls (vi y :: vi x :: st) M Q := by
  refine at_icmp hd (fun h => K1 ?_) (fun h => K2 ?_)
  · have h1 : wr y < wr x := of_decide_eq_true h
    exact h1
  · have h1 : wr x ≤ wr y := Int.not_lt.mp (of_decide_eq_false h)
    exact h1
theorem at_zgtW (hd : cdx m i = (10, (4, b))) (K1 : (wr x) > 0 → At X w m b ls st M Q) (K2 : (wr x) ≤ 0 → At X w m (i + 1) ls st M Q) : At X w m i ls (vi x :: st) M Q := by
  refine at_if hd (fun h => K1 ?_) (fun h => K2 ?_)
  · have h1 : wr 0 < wr x := of_decide_eq_true h
    rw [wr_R (show inR 0 by decide)] at h1
    exact h1
  · have h1 : wr x ≤ wr 0 := Int.not_lt.mp (of_decide_eq_false h)
    rw [wr_R (show inR 0 by decide)] at h1
    exact h1
theorem at_cleR (hd : cdx m i = (11, (5, b))) (hx : inR x) (hy : inR y) (K1 : x ≤ y → At X w m b ls st M Q) (K2 : x > y → At X w m (i + 1) ls st M Q) : At X w m i ls (vi y :: vi x :: st) M Q := by
  refine at_icmp hd (fun h => K1 ?_) (fun h => K2 ?_)
  · have h1 : wr x ≤ wr y := of_decide_eq_true h
    rw [wr_R hx, wr_R hy] at h1
    exact h1
  · have h1 : wr y < wr x := Int.not_le.mp (of_decide_eq_false h)
    rw [wr_R hx, wr_R hy] at h1
    exact h1
theorem at_zleR (hd : cdx m i = (10, (5, b))) (hx : inR x) (K1 : x ≤ 0 → At X w m b ls st M Q) (K2 : x > 0 → At X w m (i + 1) ls st M Q) : At X w m i ls (vi x :: st) M Q := by
  refine at_if hd (fun h => K1 ?_) (fun h => K2 ?_)
  · have h1 : wr x ≤ wr 0 := of_decide_eq_true h
    rw [wr_R hx, wr_R (show inR 0 by decide)] at h1
    exact h1
  · have h1 : wr 0 < wr x := Int.not_le.mp (of_decide_eq_false h)
    rw [wr_R hx, wr_R (show inR 0 by decide)] at h1
    exact h1
theorem at_cleW (hd : cdx m i = (11, (5, b))) (K1 : (wr x) ≤ (wr y) → At X w m b ls st M Q) (K2 : (wr x) > (wr y) → At X w m (i + 1) ls st M Q) : At X w m i ls (vi y :: vi x :: st) M Q := by
  refine at_icmp hd (fun h => K1 ?_) (fun h => K2 ?_)
  · have h1 : wr x ≤ wr y := of_decide_eq_true h
    exact h1
  · have h1 : wr y < wr x := Int.not_le.mp (of_decide_eq_false h)
    exact h1
theorem at_zleW (hd : cdx m i = (10, (5, b))) (K1 : (wr x) ≤ 0 → At X w m b ls st M Q) (K2 : (wr x) > 0 → At X w m (i + 1) ls st M Q) : At X w m i ls (vi x :: st) M Q := by
  refine at_if hd (fun h => K1 ?_) (fun h => K2 ?_)
  · have h1 : wr x ≤ wr 0 := of_decide_eq_true h
    rw [wr_R (show inR 0 by decide)] at h1
    exact h1
  · have h1 : wr 0 < wr x := Int.not_le.mp (of_decide_eq_false h)
    rw [wr_R (show inR 0 by decide)] at h1
    exact h1
theorem at_nullY (hd : cdx m i = (31, (a, b))) (K : At X w m b ls st M Q) : At X w m i ls (none :: st) M Q := fun lx h hl hM =>
  ou_next hd (by decide) (fun call go c => rfl) rfl rfl (K lx h hl hM)
theorem at_nullN (hd : cdx m i = (31, (a, b))) (K : At X w m (i + 1) ls st M Q) : At X w m i ls (vr k :: st) M Q := fun lx h hl hM =>
  ou_next hd (by decide) (fun call go c => rfl) rfl rfl (K lx h hl hM)
theorem at_max (hd : cdx m i = (34, (a, b))) (hs : Nat.ble (sx_sw st) 8 = true) (K1 : wr x < wr y → At X w m (i + 1) ls (vi y :: st) M Q) (K2 : wr y ≤ wr x → At X w m (i + 1) ls (vi x :: st) M Q) : At X w m i ls (vi y :: vi x :: st) M Q := fun lx h hl hM => by
  by_cases ht : wr x < wr y
  · exact ou_next hd (by decide) (fun call go c => by
      show sh_max (oI X) go _ lx (vi y :: vi x :: st) h = _
      unfold sh_max
      show cond (Nat.ble (sx_sw st) 8) (match some (decide (wr x < wr y)) with
        | some true => go _ lx (vi y :: st) h
        | some false => go _ lx (vi x :: st) h
        | none => none) none = _
      rw [hs, decide_eq_true ht]
      rfl) rfl rfl (K1 ht lx h hl hM)
  · exact ou_next hd (by decide) (fun call go c => by
      show sh_max (oI X) go _ lx (vi y :: vi x :: st) h = _
      unfold sh_max
      show cond (Nat.ble (sx_sw st) 8) (match some (decide (wr x < wr y)) with
        | some true => go _ lx (vi y :: st) h
        | some false => go _ lx (vi x :: st) h
        | none => none) none = _
      rw [hs, decide_eq_false ht]
      rfl) rfl rfl (K2 (Int.not_lt.mp ht) lx h hl hM)
theorem at_min (hd : cdx m i = (35, (a, b))) (hs : Nat.ble (sx_sw st) 8 = true) (K1 : wr x < wr y → At X w m (i + 1) ls (vi x :: st) M Q) (K2 : wr y ≤ wr x → At X w m (i + 1) ls (vi y :: st) M Q) : At X w m i ls (vi y :: vi x :: st) M Q := fun lx h hl hM => by
  by_cases ht : wr x < wr y
  · exact ou_next hd (by decide) (fun call go c => by
      show sh_min (oI X) go _ lx (vi y :: vi x :: st) h = _
      unfold sh_min
      show cond (Nat.ble (sx_sw st) 8) (match some (decide (wr x < wr y)) with
        | some true => go _ lx (vi x :: st) h
        | some false => go _ lx (vi y :: st) h
        | none => none) none = _
      rw [hs, decide_eq_true ht]
      rfl) rfl rfl (K1 ht lx h hl hM)
  · exact ou_next hd (by decide) (fun call go c => by
      show sh_min (oI X) go _ lx (vi y :: vi x :: st) h = _
      unfold sh_min
      show cond (Nat.ble (sx_sw st) 8) (match some (decide (wr x < wr y)) with
        | some true => go _ lx (vi x :: st) h
        | some false => go _ lx (vi y :: st) h
        | none => none) none = _
      rw [hs, decide_eq_false ht]
      rfl) rfl rfl (K2 (Int.not_lt.mp ht) lx h hl hM)
theorem at_maxR (hd : cdx m i = (34, (a, b))) (hs : Nat.ble (sx_sw st) 8 = true) (hx : inR x) (hy : inR y) (K1 : x < y → At X w m (i + 1) ls (vi y :: st) M Q) (K2 : y ≤ x → At X w m (i + 1) ls (vi x :: st) M Q) : At X w m i ls (vi y :: vi x :: st) M Q :=
  at_max hd hs (fun h => K1 (by rw [wr_R hx, wr_R hy] at h; exact h)) (fun h => K2 (by rw [wr_R hx, wr_R hy] at h; exact h))
theorem at_minR (hd : cdx m i = (35, (a, b))) (hs : Nat.ble (sx_sw st) 8 = true) (hx : inR x) (hy : inR y) (K1 : x < y → At X w m (i + 1) ls (vi x :: st) M Q) (K2 : y ≤ x → At X w m (i + 1) ls (vi y :: st) M Q) : At X w m i ls (vi y :: vi x :: st) M Q :=
  at_min hd hs (fun h => K1 (by rw [wr_R hx, wr_R hy] at h; exact h)) (fun h => K2 (by rw [wr_R hx, wr_R hy] at h; exact h))
theorem at_rng (K : (∀ (k : Nat) (j : Int), inR (M k j)) → At X w m i ls st M Q) : At X w m i ls st M Q := fun lx h hl hM => K hM.2.2.2.2 lx h hl hM
theorem at_bits (K : (∀ (k j : Nat), ly_k (ly_c k) j = 1 → M k j = 0 ∨ M k j = 1) → At X w m i ls st M Q) : At X w m i ls st M Q := fun lx h hl hM => K hM.2.2.1 lx h hl hM
/-! ===== ends ===== -/
theorem at_ireturn (hd : cdx m i = (7, (a, b))) (hq : Q 1 (vi x) M) : At X w m i ls [vi x] M Q := fun lx h hl hM =>
  ou_ret (out := ((1, vi x), h)) hd (by decide) (fun call go c => rfl) hM (Nat.le_add_right _ _) (Nat.le_add_right _ _) hq
theorem at_zreturn (hd : cdx m i = (19, (a, b))) (hx : x = 0 ∨ x = 1) (hq : Q 1 (vi x) M) : At X w m i ls [vi x] M Q := fun lx h hl hM =>
  ou_ret (out := ((1, vi x), h)) hd (by decide) (fun call go c => by rcases hx with rfl | rfl <;> rfl) hM (Nat.le_add_right _ _) (Nat.le_add_right _ _) hq
theorem at_vreturn (hd : cdx m i = (17, (a, b))) (hq : Q 0 none M) : At X w m i ls [] M Q := fun lx h hl hM =>
  ou_ret (out := ((0, none), h)) hd (by decide) (fun call go c => rfl) hM (Nat.le_add_right _ _) (Nat.le_add_right _ _) hq
theorem at_areturn (hd : cdx m i = (33, (a, b))) (hq : Q 1 (vr k) M) : At X w m i ls [vr k] M Q := fun lx h hl hM =>
  ou_ret (out := ((1, vr k), h)) hd (by decide) (fun call go c => rfl) hM (Nat.le_add_right _ _) (Nat.le_add_right _ _) hq
theorem hp_R_hx {h : sx_H Int} (hM : hp_R M h) : hp_R M (sx_hx h) := hM
theorem at_throw (hd : cdx m i = (25, (a, b))) (hs : Nat.ble (sx_sw st) 8 = true) (hq : Q (a + 2) none M) : At X w m i ls st M Q := fun lx h hl hM =>
  ou_ret (out := ((a + 2, none), sx_hx h)) hd (by decide) (fun call go c => by
    show sh_throw a st h = _
    unfold sh_throw
    rw [hs]
    rfl) hM (by show h.2.2.1 + 1 ≤ h.2.2.1 + (w + 1); omega) (by show h.2.2.2.1 + 6 ≤ h.2.2.2.1 + 6 * (w + 1); omega) hq
theorem at_throwW (hd : cdx m i = (42, (a, b))) (hs : Nat.ble (sx_sw st) 8 = true) (hq : Q (a + 2) none M) : At X w m i ls st M Q := fun lx h hl hM =>
  ou_ret (out := ((a + 2, none), sx_hx h)) hd (by decide) (fun call go c => by
    show sh_throw a st h = _
    unfold sh_throw
    rw [hs]
    rfl) hM (by show h.2.2.1 + 1 ≤ h.2.2.1 + (w + 1); omega) (by show h.2.2.2.1 + 6 ≤ h.2.2.2.1 + 6 * (w + 1); omega) hq
end RU
