/-! ===== mapping the pending steps while nothing is confirmed: what the frames leave as it was ===== -/
abbrev sc6 (s q : Nat) : Prop := q = s ∨ q = s + 1 ∨ q = s + 2 ∨ q = s + 3 ∨ q = s + 6 ∨ q = s + 7
abbrev pf (s q : Nat) : Prop := q = 20 ∨ q = 21 ∨ q = s + 4 ∨ q = s + 5 ∨ q = 4 ∨ q = 5
theorem nP_mz {c k q : Nat} (hc : ly_c c = 0) (h : sc6 (pst c k) q) : ¬ mz c q := by
  have h8 := cl_al hc
  dsimp only [sc6, pst, mz, wq] at h ⊢
  omega
theorem nP_b {c k i q : Nat} (hc : ly_c c = 0) (hi : i < 10) (h : sc6 (pst c k) q) : ¬ blk (512 + 8 * i) q := by
  have h8 := cl_al hc
  dsimp only [sc6, pst, blk] at h ⊢
  omega
theorem nP_f {c k i q : Nat} (hc : ly_c c = 0) (hi : i < 10) (h : sc6 (pst c k) q) : ¬ pf (512 + 8 * i) q := by
  have h8 := cl_al hc
  dsimp only [sc6, pst, pf] at h ⊢
  omega
theorem nK_f {k i q : Nat} (h : sc6 (512 + 8 * k) q) : ¬ pf (512 + 8 * i) q := by
  dsimp only [sc6, pf] at h ⊢
  omega
theorem nP_4 {c k q : Nat} (h : sc6 (pst c k) q) : ¬ (q = c + 4 ∨ q = c + 4 + 1) := by
  dsimp only [sc6, pst] at h
  omega
theorem nK_4 {c k q : Nat} (hc : ly_c c = 0) (hk : k < 10) (h : sc6 (512 + 8 * k) q) : ¬ (q = c + 4 ∨ q = c + 4 + 1) := by
  have h8 := cl_al hc
  dsimp only [sc6] at h
  omega
theorem RWx_b {M M' : mem} {c n i : Nat} (hc : ly_c c = 0) (hi : i < n ∧ n ≤ 10) (f : fr (blk (512 + 8 * i)) M M') (hR : RWx M c n i) : RWx M' c n i := by
  have h8 := cl_al hc
  exact RWx_cg hc (by omega) f (fun q e => by dsimp only [blk] at e; omega) hR
theorem RWx_f {M M' : mem} {c n i : Nat} (hc : ly_c c = 0) (hi : i < n ∧ n ≤ 10) (f : fr (pf (512 + 8 * i)) M M') (hR : RWx M c n i) : RWx M' c n i := by
  have h8 := cl_al hc
  refine RWx_cg hc (by omega) f (fun q e => ?_) hR
  dsimp only [pf] at e
  rcases h8 with h8 | h8 | h8 <;> rcases e with e | e | e | e | e | e <;> omega
theorem RWx_4 {M M' : mem} {c n i : Nat} (hc : ly_c c = 0) (hi : i < n ∧ n ≤ 10) (f : fr (fun q => q = c + 4 ∨ q = c + 4 + 1) M M') (hR : RWx M c n i) : RWx M' c n i := by
  have h8 := cl_al hc
  exact RWx_cg hc (by omega) f (fun q e => by (try dsimp only at e); omega) hR
theorem mz_b {c i : Nat} (hi : i < 10) {q : Nat} (h : blk (512 + 8 * i) q) : mz c q := by
  dsimp only [blk, mz, wq] at h ⊢
  omega
theorem mz_f {c i : Nat} (hi : i < 10) {q : Nat} (h : pf (512 + 8 * i) q) : mz c q := by
  dsimp only [pf, mz, wq] at h ⊢
  omega
theorem mz_29 {c q : Nat} (h : q = 29) : mz c q := by
  dsimp only [mz, wq]
  omega
theorem mz_4 {c q : Nat} (h : q = c + 4 ∨ q = c + 4 + 1) : mz c q := by
  dsimp only [mz]
  omega
theorem mz_r {c q : Nat} (h : rq4 q) : mz c q := by
  dsimp only [rq4, mz, wq] at h ⊢
  omega
theorem mz_no {c q : Nat} (hc : ly_c c = 0) (h : q = 2 ∨ q = 3 ∨ q = c) : ¬ mz c q := by
  have h8 := cl_al hc
  dsimp only [mz, wq]
  omega
theorem b_no4 {c i : Nat} (hc : ly_c c = 0) (hi : i < 10) {q : Nat} (h : q = c + 4 ∨ q = c + 4 + 1) : ¬ blk (512 + 8 * i) q := by
  have h8 := cl_al hc
  dsimp only [blk]
  omega
theorem sv36 {M M1 M29 M36 : mem} {c n i : Nat} {f0 : Nat → List Int} (hc : ly_c c = 0) (hi : i < n ∧ n ≤ 10) (F : fr (mz c) M M1) (hd : tk M1 (c + 4) = f0 i) (f29 : fr (blk (512 + 8 * i)) M1 M29) (s29 : sv M29 (512 + 8 * i) = sv M1 (pst c i)) (f36 : fr (fun q => q = 29) M29 M36) :
    sv M36 (512 + 8 * i) = sv M (pst c i) ∧ tk M36 (c + 4) = f0 i ∧ M36 2 = M 2 ∧ M36 3 = M 3 := by
  have h8 := cl_al hc
  have hi10 : i < 10 := by omega
  have eP : sv M1 (pst c i) = sv M (pst c i) := sv_cg (fun q z h => F q z (nP_mz hc h))
  have F36 : fr (mz c) M M36 := fr_tr F (fr_tr (fr_le f29 (fun q h => mz_b hi10 h)) (fr_le f36 (fun q h => mz_29 h)))
  refine ⟨((sv_cg (fun q z h => f36 q z (by omega))).trans s29).trans eP, ?_, funext (fun j => F36 2 j (mz_no hc (Or.inl rfl))), funext (fun j => F36 3 j (mz_no hc (Or.inr (Or.inl rfl))))⟩
  rw [tk_fr f36 (by omega) (by omega), tk_fr f29 (b_no4 hc hi10 (Or.inl rfl)) (b_no4 hc hi10 (Or.inr rfl))]
  exact hd
/-- one pending step has been mapped -/
theorem map_one {M M1 M29 M36 M42 M48 M57 : mem} {c n i : Nat} {f0 : Nat → List Int} (hc : ly_c c = 0) (hi : i < n ∧ n ≤ 10) (hn : n ≤ 10) (F : fr (mz c) M M1) (T : TI M1) (hR : RWx M1 c n i) (hd : tk M1 (c + 4) = f0 i)
    (hP : okT M (pst c i) ∧ okV (sv M (pst c i)) (f0 i) ∧ f0 (i + 1) = apV (sv M (pst c i)) (f0 i) ∧ acc (M 2) (M 3) (f0 (i + 1)))
    (f29 : fr (blk (512 + 8 * i)) M1 M29) (s29 : sv M29 (512 + 8 * i) = sv M1 (pst c i)) (f36 : fr (fun q => q = 29) M29 M36) (f42 : fr (pf (512 + 8 * i)) M36 M42) (i42 : TI M42) (t42 : tk M42 20 = apV (sv M36 (512 + 8 * i)) (tk M36 (c + 4)))
    (f48 : fr (fun q => q = c + 4 ∨ q = c + 4 + 1) M42 M48) (i48 : tkI M48 (c + 4)) (t48 : tk M48 (c + 4) = tk M42 20) (f57 : fr rq4 M48 M57) (y1 : M57 25 3 = M48 25 3 + 1)
    (y2 : M57 26 (M48 25 3) = ((512 + 8 * i : Nat) : Int)) (y3 : M57 27 (M48 25 3) = 0) (y4 : M57 28 (M48 25 3) = -1) (y5 : M57 28 ((n : Int) - 1 - (i : Int)) = M48 25 3)
    (y6 : ∀ j, j ≠ M48 25 3 → M57 26 j = M48 26 j ∧ M57 27 j = M48 27 j ∧ (j ≠ (n : Int) - 1 - (i : Int) → M57 28 j = M48 28 j)) :
    fr (mz c) M M57 ∧ TI M57 ∧ RI M57 ∧ RWx M57 c n (i + 1) ∧ tk M57 (c + 4) = f0 (i + 1) := by
  have hi10 : i < 10 := by omega
  have eP : sv M1 (pst c i) = sv M (pst c i) := sv_cg (fun q z h => F q z (nP_mz hc h))
  have R29 := RWx_b hc hi f29 hR
  have R36 := RWx_29 hc (by omega) f36 R29
  have R42 := RWx_f hc hi f42 R36
  have R48 := RWx_4 hc hi f48 R42
  have n29 : ∀ s q, sc6 s q → s % 8 = 0 → q ≠ 29 := fun s q h hs => by dsimp only [sc6] at h; omega
  have s36 : sv M36 (512 + 8 * i) = sv M (pst c i) := ((sv_cg (fun q z h => f36 q z (n29 _ q h (by omega)))).trans s29).trans eP
  have d36 : tk M36 (c + 4) = f0 i := by
    have h8 := cl_al hc
    rw [tk_fr f36 (by omega) (by omega), tk_fr f29 (b_no4 hc hi10 (Or.inl rfl)) (b_no4 hc hi10 (Or.inr rfl))]
    exact hd
  have T48 := TI_bec (cl_c4 hc) i42 f48 i48
  have a1 : sv M48 (512 + 8 * i) = sv M36 (512 + 8 * i) := (sv_cg (fun q z h => f48 q z (nK_4 hc hi10 h))).trans (sv_cg (fun q z h => f42 q z (nK_f h)))
  have b1 : sv M48 (pst c i) = sv M29 (pst c i) := ((sv_cg (fun q z h => f48 q z (nP_4 h))).trans (sv_cg (fun q z h => f42 q z (nP_f hc hi10 h)))).trans (sv_cg (fun q z h => f36 q z (by have h8 := cl_al hc; exact n29 _ q h (by unfold pst; omega))))
  have b2 : sv M29 (pst c i) = sv M (pst c i) := (sv_cg (fun q z h => f29 q z (nP_b hc hi10 h))).trans eP
  have e48 : sv M48 (512 + 8 * i) = sv M48 (pst c i) := by rw [a1, s36, b1, b2]
  have R57 := rw_next hc hi R48 e48 f57 y1 y2 y3 y4 y5 y6
  refine ⟨fr_tr F (fr_tr (fr_tr (fr_tr (fr_tr (fr_le f29 (fun q h => mz_b hi10 h)) (fr_le f36 (fun q h => mz_29 h))) (fr_le f42 (fun q h => mz_f hi10 h))) (fr_le f48 (fun q h => mz_4 h))) (fr_le f57 (fun q h => mz_r h))), TI_rq T48 f57, ?_, R57, ?_⟩
  · have h9 := R57.1
    unfold RI
    omega
  · have h8 := cl_al hc
    rw [tk_fr f57 (by dsimp only [rq4]; omega) (by dsimp only [rq4]; omega), t48, t42, s36, d36]
    exact hP.2.2.1.symm
