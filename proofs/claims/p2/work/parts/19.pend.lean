/-! ===== a step becomes pending; what is drafted ===== -/
theorem c_becomeChangeW {X : scr} {M : mem} {s : Nat} (hs : ly_c s = 4) (hT : TI M) : At X 0 22 0 [vr s] [] M (qV (fun M' => fr (blk s) M M' ∧ TI M')) := At.mono (c_becomeChange hs) (fun t v M1 h => by
  obtain ⟨h0, h1, hM1⟩ := h
  have f1 : fr (blk s) M M1 := by rw [hM1]; (repeat (first | exact fr_rf | refine fr_ums ?_ (by (try dsimp only [blk]); first | done | omega)))
  refine ⟨h0, h1, f1, TI_fr hT f1 (fun k hk hP => ?_)⟩
  have hq := hT k hk
  have e1 : k ≠ s := fun e => by rw [e, hs] at hk; exact absurd hk (by decide)
  rw [hM1]; unfold tkI
  by_cases e4 : k = s + 4
  · subst e4; simp (disch := omega) only [um_eq, um_k, um_j]; omega
  · by_cases e6 : k = s + 6
    · subst e6; simp (disch := omega) only [um_eq, um_k, um_j]; omega
    · simp (disch := omega) only [um_eq, um_k, um_j]; exact hq)
abbrev sd (q : Nat) : Prop := q = 4 ∨ q = 5 ∨ blk 12 q ∨ q = 20 ∨ q = 21

set_option maxRecDepth 100000 in
set_option maxHeartbeats 4000000 in
theorem c_addPending {X : scr} {M : mem} {c : Nat} (hc : ly_c c = 0) (hC : CI M) : At X 0 81 0 [vr 0, vr c] [] M (qT (qV (fun M' => CI M' ∧ fr lo M M' ∧ M' 0 3 = M 0 3)) (fun e M' => e = 2 ∧ CI M' ∧ fr lo M M')) := by
  have h8 := cl_al hc
  obtain ⟨a1, a2, a3, a4, a5, a6⟩ := hC.2.2.2.2.2 c hc
  have hpc : ly_c (c + 8 + 8 * (M c 2).toNat) = 4 ∨ 10 ≤ M c 2 := by
    by_cases e : M c 2 < 10
    · exact Or.inl (pd_c hc a3 e)
    · exact Or.inr (by omega)
  refine at_aload dx_81_0 rfl ?_
  refine at_getI 2 dx_81_1 hc rfl rfl (fun r1 => ?_)
  refine at_aload dx_81_2 rfl ?_
  refine at_getR dx_81_3 hc rfl (cl_t3 hc) ?_
  refine at_alen dx_81_4 (cl_c1 hc) rfl (cl_n1 hc) ?_
  refine at_cltR dx_81_5 r1 (by decide) (fun c5 => ?_) (fun c5 => ?_)
  · skip
    refine at_aload dx_81_7 rfl ?_
    refine at_aload dx_81_8 rfl ?_
    refine at_getR dx_81_9 lc_0 rfl lt_0_8 ?_
    refine at_aload dx_81_10 rfl ?_
    refine at_getR dx_81_11 hc rfl (cl_t5 hc) ?_
    refine at_callVI dx_81_12 rfl lc_0 rfl (c_isPossible lc_12 (cl_c4 hc) (by omega) (by omega) (by omega) hC.1) ?_
    rintro x12 M1 r12 ⟨f1, i1, b1, w1⟩
    have e1c : ∀ j, M1 c j = M c j := fun j => f1 c j (by (try dsimp only [blk, sq, cq, sd, lo]); first | done | omega)
    refine at_zneR dx_81_13 r12 (fun c13 => ?_) (fun c13 => ?_)
    · skip
      refine at_aload dx_81_15 rfl ?_
      refine at_getR dx_81_16 hc rfl (cl_t5 hc) ?_
      refine at_aload dx_81_17 rfl ?_
      refine at_getR dx_81_18 lc_0 rfl lt_0_9 ?_
      refine at_callVV dx_81_19 rfl (cl_c4 hc) rfl (c_become (cl_c4 hc) lc_20 (by omega) (i1 _ lc_20)) ?_
      rintro M2 ⟨f2, i2, t2⟩
      have e2c : ∀ j, M2 c j = M c j := fun j => (f2 c j (by (try dsimp only [blk, sq, cq, sd, lo]); first | done | omega)).trans (e1c j)
      have T2 : TI M2 := TI_fr i1 f2 (fun k hk hP => by
        rcases hP with h | h
        · subst h; exact i2
        · have := tk_e hk; omega)
      refine at_aload dx_81_20 rfl ?_
      refine at_getR dx_81_21 hc rfl (cl_t3 hc) ?_
      refine at_aload dx_81_22 rfl ?_
      refine at_getI 2 dx_81_23 hc rfl rfl (fun r23 => ?_)
      rw [e2c] at r23 ⊢
      refine at_aldS dx_81_24 (cl_c1 hc) (cl_n1 hc) (by first | omega | (simp (disch := omega) only [um_eq, um_k, um_j]; omega)) (by first | omega | (simp (disch := omega) only [um_eq, um_k, um_j]; omega)) (pd_t hc (by omega) (by omega)) ?_
      refine at_aload dx_81_25 rfl ?_
      refine at_getR dx_81_26 lc_0 rfl lt_0_8 ?_
      refine at_callVV dx_81_27 rfl (pd_c hc (by omega) (by omega)) rfl (c_stepBecome (pd_c hc (by omega) (by omega)) lc_12 (by omega) T2) ?_
      rintro M3 ⟨f3, i3, s3, -⟩
      have e3c : ∀ j, M3 c j = M c j := fun j => (f3 c j (by (try dsimp only [blk, sq, cq, sd, lo]); first | done | omega)).trans (e2c j)
      refine at_aload dx_81_28 rfl ?_
      refine at_dup dx_81_29 rfl ?_
      refine at_getI 2 dx_81_30 hc rfl rfl (fun r30 => ?_)
      rw [e3c] at r30 ⊢
      refine at_const (x := 1) dx_81_31 rfl ?_
      refine at_addR dx_81_32 (by constructor <;> omega) (fun r32 => ?_)
      refine at_putI 2 dx_81_33 hc rfl rfl r32 ?_
      refine at_vretVT dx_81_34 ?_
      obtain ⟨wo, wt⟩ := w1 (by omega)
      refine (fun M4 (hM4 : M4 = um M3 c 2 (M c 2 + 1)) => ?_ : ∀ M4, M4 = um M3 c 2 (M c 2 + 1) → CI M4 ∧ fr lo M M4 ∧ M4 0 3 = M 0 3) _ rfl
      have f4 : fr (fun q => q = c) M3 M4 := by rw [hM4]; exact fr_um rfl
      have F : fr (fun q => q = 20 ∨ q = 21 ∨ q = 16 ∨ q = 17 ∨ q = 4 ∨ q = 5 ∨ q = c + 4 ∨ q = c + 5 ∨ q = c ∨ blk (c + 8 + 8 * (M c 2).toNat) q) M M4 :=
        fr_tr (fr_tr (fr_tr (fr_le f1 (fun q h => by (try dsimp only [blk, sq, cq, sd, lo] at h ⊢); first | done | omega)) (fr_le f2 (fun q h => by (try dsimp only [blk, sq, cq, sd, lo] at h ⊢); first | done | omega))) (fr_le f3 (fun q h => by (try dsimp only [blk, sq, cq, sd, lo] at h ⊢); first | done | omega))) (fr_le f4 (fun q h => by (try dsimp only [blk, sq, cq, sd, lo] at h ⊢); first | done | omega))
      have T4 : TI M4 := by rw [hM4]; exact TI_um i3 (by rw [hc]; decide)
      have R4 : RI M4 := RI_fr F (by (try dsimp only [blk, sq, cq, sd, lo]); first | done | omega) hC.2.1
      have e0 : ∀ j, M4 0 j = M 0 j := fun j => F 0 j (by (try dsimp only [blk, sq, cq, sd, lo]); first | done | omega)
      have m0 : M4 c 0 = M c 0 := by rw [hM4, um_j (by omega), e3c]
      have m2 : M4 c 2 = M c 2 + 1 := by rw [hM4, um_eq]
      have b2 : tk M4 (c + 2) = tk M (c + 2) := tk_fr F (by (try dsimp only [blk, sq, cq, sd, lo]); first | done | omega) (by (try dsimp only [blk, sq, cq, sd, lo]); first | done | omega)
      have d4 : tk M4 (c + 4) = apV (sv M 12) (tk M (c + 4)) := by
        rw [tk_fr f4 (by (try dsimp only [blk, sq, cq, sd, lo]); first | done | omega) (by (try dsimp only [blk, sq, cq, sd, lo]); first | done | omega), tk_fr f3 (by (try dsimp only [blk, sq, cq, sd, lo]); first | done | omega) (by (try dsimp only [blk, sq, cq, sd, lo]); first | done | omega), t2, wt]
      have sp : sv M4 (c + 8 + 8 * (M c 2).toNat) = sv M 12 := by
        rw [sv_fr f4 (by (try dsimp only [blk, sq, cq, sd, lo]); first | done | omega) (by (try dsimp only [blk, sq, cq, sd, lo]); first | done | omega) (by (try dsimp only [blk, sq, cq, sd, lo]); first | done | omega) (by (try dsimp only [blk, sq, cq, sd, lo]); first | done | omega) (by (try dsimp only [blk, sq, cq, sd, lo]); first | done | omega) (by (try dsimp only [blk, sq, cq, sd, lo]); first | done | omega), s3, sv_fr f2 (by (try dsimp only [blk, sq, cq, sd, lo]); first | done | omega) (by (try dsimp only [blk, sq, cq, sd, lo]); first | done | omega) (by (try dsimp only [blk, sq, cq, sd, lo]); first | done | omega) (by (try dsimp only [blk, sq, cq, sd, lo]); first | done | omega) (by (try dsimp only [blk, sq, cq, sd, lo]); first | done | omega) (by (try dsimp only [blk, sq, cq, sd, lo]); first | done | omega), sv_fr f1 (by (try dsimp only [blk, sq, cq, sd, lo]); first | done | omega) (by (try dsimp only [blk, sq, cq, sd, lo]); first | done | omega) (by (try dsimp only [blk, sq, cq, sd, lo]); first | done | omega) (by (try dsimp only [blk, sq, cq, sd, lo]); first | done | omega) (by (try dsimp only [blk, sq, cq, sd, lo]); first | done | omega) (by (try dsimp only [blk, sq, cq, sd, lo]); first | done | omega)]
      refine ⟨CI_cl hC hc (fr_le F (fun q h => by (try dsimp only [blk, sq, cq, sd, lo] at h ⊢); first | done | omega)) T4 R4 ⟨?_, ?_, ?_, ?_, ?_, ?_⟩, fr_le F (fun q h => by (try dsimp only [blk, sq, cq, sd, lo] at h ⊢); first | done | omega), e0 3⟩
      · rw [m0]; exact a1
      · rw [m0, e0]; exact a2
      · rw [m2]; omega
      · rw [m2]; omega
      · rw [m0, b2, lgV_cg F (by have := hC.2.2.1; omega) (fun q hP => by dsimp only [blk] at hP; omega)]
        exact a5
      · rw [m2, b2, d4, pdV_succ a3, sp, pdV_cg F hc a4 (fun q hP => by dsimp only [blk] at hP; omega)]
        exact (Run_app _ _ _ _).mpr ⟨_, a6, wo, rfl⟩
    · skip
      refine at_thrTW dx_81_14 rfl ?_
      exact ⟨rfl, CI_sq hC (fr_le f1 (fun q h => by (try dsimp only [blk, sq, cq, sd, lo] at h ⊢); first | done | omega)) i1 (RI_fr f1 (by omega) hC.2.1), fr_le f1 (fun q h => by (try dsimp only [blk, sq, cq, sd, lo] at h ⊢); first | done | omega)⟩
  · skip
    refine at_thrTW dx_81_6 rfl ?_
    exact ⟨rfl, hC, fr_rf⟩

set_option maxRecDepth 100000 in
set_option maxHeartbeats 4000000 in
theorem c_draftsSlice {X : scr} {M : mem} {c : Nat} {p f t : Int} (hc : ly_c c = 0) (hp : inR p) (hf : inR f) (ht : inR t) (hT : TI M) : At X 0 83 0 [vr 0, vr c, vi p, vi f, vi t] [] M (qI (fun x M' => fr sd M M' ∧ TI M' ∧ (x = 0 ∨ x = 1))) := by
  have h8 := cl_al hc
  have lp : ∀ (n : Nat) (i : Int) (M1 : mem) (ri : inR i) (hn : (t - i).toNat = n) (g1 : fr (blk 12) M M1) (j1 : TI M1), At X 0 83 10 [vr 0, vr c, vi p, vi f, vi t, vi i] [] M1 (qI (fun x M' => fr sd M M' ∧ TI M' ∧ (x = 0 ∨ x = 1))) := by
    intro n
    induction n using Nat.strongRecOn with
    | ind n ih =>
    intro i M1 ri hn g1 j1
    refine at_iload dx_83_10 rfl ?_
    refine at_iload dx_83_11 rfl ?_
    refine at_cgeR dx_83_12 ri ht (fun c12 => ?_) (fun c12 => ?_)
    · skip
      refine at_aload dx_83_22 rfl ?_
      refine at_aload dx_83_23 rfl ?_
      refine at_getR dx_83_24 lc_0 rfl lt_0_8 ?_
      refine at_aload dx_83_25 rfl ?_
      refine at_getR dx_83_26 hc rfl (cl_t5 hc) ?_
      refine at_callVI dx_83_27 rfl lc_0 rfl (c_isPossible lc_12 (cl_c4 hc) (by omega) (by omega) (by omega) j1) ?_
      rintro x27 M27 r27 ⟨f27, i27, b27, w27⟩
      refine at_zretI dx_83_28 b27 ?_
      exact ⟨fr_tr (fr_le g1 (fun q h => by (try dsimp only [blk, sq, cq, sd, lo] at h ⊢); first | done | omega)) (fr_le f27 (fun q h => by (try dsimp only [blk, sq, cq, sd, lo] at h ⊢); first | done | omega)), i27, b27⟩
    · skip
      refine at_aload dx_83_13 rfl ?_
      refine at_getR dx_83_14 lc_0 rfl lt_0_8 ?_
      refine at_aload dx_83_15 rfl ?_
      refine at_getR dx_83_16 hc rfl (cl_t6 hc) ?_
      refine at_iload dx_83_17 rfl ?_
      refine at_callVI dx_83_18 rfl (cl_c6 hc) rfl (c_at (cl_c6 hc) ri (j1 _ (cl_c6 hc))) ?_
      rintro x18 M9 r18 ⟨e9, h18⟩; replace e9 := e9.symm; subst e9
      refine at_callVV dx_83_19 rfl lc_12 rfl (c_addPut lc_12 r18 j1) ?_
      rintro M19 ⟨f19, i19⟩
      refine at_iincR (y := 1) dx_83_20 rfl rfl (by constructor <;> omega) (fun r20 => ?_)
      refine at_goto dx_83_21 ?_
      exact ih _ (by omega) _ _ r20 rfl (fr_tr g1 f19) i19
  refine at_aload dx_83_0 rfl ?_
  refine at_getR dx_83_1 lc_0 rfl lt_0_8 ?_
  refine at_callVV dx_83_2 rfl lc_12 rfl (c_becomeChangeW lc_12 hT) ?_
  rintro M2 ⟨f2, i2⟩
  refine at_aload dx_83_3 rfl ?_
  refine at_getR dx_83_4 lc_0 rfl lt_0_8 ?_
  refine at_iload dx_83_5 rfl ?_
  refine at_const (x := 0) dx_83_6 rfl ?_
  refine at_callVV dx_83_7 rfl lc_12 rfl (c_addRange lc_12 hp (by decide) i2) ?_
  rintro M7 ⟨f7, i7⟩
  refine at_iload dx_83_8 rfl ?_
  refine at_istore dx_83_9 ?_
  exact lp _ _ _ hf rfl (fr_tr f2 f7) i7

