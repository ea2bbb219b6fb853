/-! ===== receiving while nothing is confirmed: each pending step comes out as it was ===== -/
abbrev okT (M : mem) (s : Nat) : Prop := okS M s ∧ (M s 0 ≠ 0 → 0 ≤ M s 1 ∧ M s 1 < M s 2 ∧ M s 2 ≤ 60)
theorem okT_u {M M' : mem} {s t : Nat} (h : sv M' s = sv M t) (ht : okT M t) : okT M' s := by
  unfold sv at h
  have h1 := congrArg Prod.fst h
  dsimp only at h1
  simp only [List.cons.injEq] at h1
  obtain ⟨e0, e1, e2, -, -, h5, h6, h7, h8, h9, h10, h11, -⟩ := h1
  unfold okT okS at ht ⊢
  rw [e0, e1, e2, h5, h6, h7, h8, h9, h10, h11]
  exact ht
def PV (M : mem) (c n : Nat) (f : Nat → List Int) : Prop := f 0 = [1, 0] ∧ f n = tk M (c + 4) ∧ ∀ j : Nat, j < n → okT M (pst c j) ∧ okV (sv M (pst c j)) (f j) ∧ f (j + 1) = apV (sv M (pst c j)) (f j) ∧ acc (M 2) (M 3) (f (j + 1))
abbrev rq4 (q : Nat) : Prop := q = 25 ∨ q = 26 ∨ q = 27 ∨ q = 28
theorem TI_rq {M M' : mem} (hT : TI M) (f : fr rq4 M M') : TI M' := TI_no hT f (fun q hq hP => by
  rcases hP with h | h | h | h
  · rw [h, lc_25] at hq; exact absurd hq (by decide)
  · rw [h, lc_26] at hq; exact absurd hq (by decide)
  · rw [h, lc_27] at hq; exact absurd hq (by decide)
  · rw [h, lc_28] at hq; exact absurd hq (by decide))
theorem TI_bec {M M' : mem} {k : Nat} (hk : ly_c k = 5) (hT : TI M) (f : fr (fun q => q = k ∨ q = k + 1) M M') (i : tkI M' k) : TI M' := TI_fr hT f (fun q hq hP => by
  rcases hP with h | h
  · subst h; exact i
  · have h1 := tk_e hq; have h2 := tk_e hk; omega)
