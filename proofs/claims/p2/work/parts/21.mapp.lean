/-! ===== the pending steps are mapped ===== -/
noncomputable def mpV (M : mem) (n : Int) : List sV := (List.range n.toNat).map (fun i : Nat => sv M (512 + 8 * i))
theorem mpV_succ {M : mem} {n : Int} (h : 0 ≤ n) : mpV M (n + 1) = mpV M n ++ [sv M (512 + 8 * n.toNat)] := by
  unfold mpV
  rw [show (n + 1).toNat = n.toNat + 1 by omega, List.range_succ, List.map_append]
  rfl
theorem mpV_cg {P : Nat → Prop} {M M' : mem} {n : Int} (hf : fr P M M') (hn : n ≤ 10) (hP : ∀ q, P q → ¬ (512 ≤ q ∧ q < 512 + 8 * n.toNat ∧ q % 8 ≠ 4 ∧ q % 8 ≠ 5)) : mpV M' n = mpV M n := by
  unfold mpV
  apply List.map_congr_left
  intro i hi
  have := List.mem_range.mp hi
  exact sv_cg (fun q j h => hf q j (fun hq => hP q hq (by omega)))
abbrev mq (c q : Nat) : Prop := sq q ∨ q = c ∨ q = c + 4 ∨ q = c + 5
set_option maxRecDepth 100000 in
set_option maxHeartbeats 4000000 in
theorem c_mapPending {X : scr} {M : mem} {c : Nat} (hc : ly_c c = 0) (hT : TI M) (hI : RI M) (hp : 0 ≤ M c 2 ∧ M c 2 ≤ 10) : At X 0 86 0 [vr 0, vr c] [] M (qV (fun M' => fr (fun q => sq q ∨ cq c q) M M' ∧ TI M' ∧ RI M' ∧ M' c 0 = M c 0 ∧ (0 ≤ M' c 2 ∧ M' c 2 ≤ 10) ∧ tk M' (c + 2) = tk M (c + 2) ∧ Run (pdV M' c (M' c 2)) (tk M (c + 4)) (tk M' (c + 4)))) := by
  have h8 := cl_al hc
  have lq : ∀ (n : Nat) (f k i : Int) (M1 M2 : mem) (rf : inR f) (rk : inR k) (ri : inR i) (h0 : 0 ≤ i ∧ i ≤ k ∧ k ≤ 10) (hn : (k - i).toNat = n) (g1 : fr (mq c) M M1) (e0 : M1 c 0 = M c 0) (w1 : Run (mpV M1 k) (tk M (c + 4)) (tk M1 (c + 4))) (g2 : fr (fun q => c + 8 ≤ q ∧ q < c + 88) M1 M2) (j2 : TI M2) (l2 : RI M2) (hv : pdV M2 c i = mpV M1 i), At X 0 86 70 [vr 0, vr c, vi f, vi k, vi i] [] M2 (qV (fun M' => fr (fun q => sq q ∨ cq c q) M M' ∧ TI M' ∧ RI M' ∧ M' c 0 = M c 0 ∧ (0 ≤ M' c 2 ∧ M' c 2 ≤ 10) ∧ tk M' (c + 2) = tk M (c + 2) ∧ Run (pdV M' c (M' c 2)) (tk M (c + 4)) (tk M' (c + 4)))) := by
    intro n
    induction n using Nat.strongRecOn with
    | ind n ih =>
    intro f k i M1 M2 rf rk ri h0 hn g1 e0 w1 g2 j2 l2 hv
    refine at_iload dx_86_70 rfl ?_
    refine at_iload dx_86_71 rfl ?_
    refine at_cgeR dx_86_72 ri rk (fun c72 => ?_) (fun c72 => ?_)
    · skip
      refine at_aload dx_86_89 rfl ?_
      refine at_iload dx_86_90 rfl ?_
      refine at_putI 2 dx_86_91 hc rfl rfl rk ?_
      refine at_vretV dx_86_92 ?_
      have hik : i = k := by omega
      subst hik
      have fu : fr (fun q => q = c) M2 (um M2 c 2 i) := fr_um rfl
      have F : fr (fun q => sq q ∨ cq c q) M (um M2 c 2 i) := fr_tr (fr_tr (fr_le g1 (fun q h => by (try dsimp only [blk, sq, cq, sd, lo, mq] at h ⊢); first | done | omega)) (fr_le g2 (fun q h => by (try dsimp only [blk, sq, cq, sd, lo, mq] at h ⊢); first | done | omega))) (fr_le fu (fun q h => by (try dsimp only [blk, sq, cq, sd, lo, mq] at h ⊢); first | done | omega))
      have tb : ∀ o, o = 2 ∨ o = 4 → tk (um M2 c 2 i) (c + o) = tk M1 (c + o) := fun o ho => by
        rw [tk_fr fu (by (try dsimp only [blk, sq, cq, sd, lo, mq]); first | done | omega) (by (try dsimp only [blk, sq, cq, sd, lo, mq]); first | done | omega), tk_fr g2 (by (try dsimp only [blk, sq, cq, sd, lo, mq]); first | done | omega) (by (try dsimp only [blk, sq, cq, sd, lo, mq]); first | done | omega)]
      refine ⟨F, TI_um j2 (by rw [hc]; decide), RI_fr fu (by (try dsimp only [blk, sq, cq, sd, lo, mq]); first | done | omega) l2, ?_, ?_, ?_, ?_⟩
      · rw [um_j (by decide), g2 c 0 (by (try dsimp only [blk, sq, cq, sd, lo, mq]); first | done | omega), e0]
      · rw [um_eq]; omega
      · rw [tb 2 (Or.inl rfl), tk_fr g1 (by (try dsimp only [blk, sq, cq, sd, lo, mq]); first | done | omega) (by (try dsimp only [blk, sq, cq, sd, lo, mq]); first | done | omega)]
      · rw [um_eq, tb 4 (Or.inr rfl), pdV_cg fu hc (by omega) (fun q hP => by (try dsimp only at hP); omega), hv]
        exact w1
    · skip
      refine at_iload dx_86_73 rfl ?_
      refine at_aload dx_86_74 rfl ?_
      refine at_getR dx_86_75 hc rfl (cl_t3 hc) ?_
      refine at_alen dx_86_76 (cl_c1 hc) rfl (cl_n1 hc) ?_
      refine at_cgeR dx_86_77 ri (by decide) (fun c77 => ?_) (fun c77 => ?_)
      · skip
        refine at_aload dx_86_89 rfl ?_
        refine at_iload dx_86_90 rfl ?_
        refine at_putI 2 dx_86_91 hc rfl rfl rk ?_
        refine at_vretV dx_86_92 ?_
        have hik : i = k := by omega
        subst hik
        have fu : fr (fun q => q = c) M2 (um M2 c 2 i) := fr_um rfl
        have F : fr (fun q => sq q ∨ cq c q) M (um M2 c 2 i) := fr_tr (fr_tr (fr_le g1 (fun q h => by (try dsimp only [blk, sq, cq, sd, lo, mq] at h ⊢); first | done | omega)) (fr_le g2 (fun q h => by (try dsimp only [blk, sq, cq, sd, lo, mq] at h ⊢); first | done | omega))) (fr_le fu (fun q h => by (try dsimp only [blk, sq, cq, sd, lo, mq] at h ⊢); first | done | omega))
        have tb : ∀ o, o = 2 ∨ o = 4 → tk (um M2 c 2 i) (c + o) = tk M1 (c + o) := fun o ho => by
          rw [tk_fr fu (by (try dsimp only [blk, sq, cq, sd, lo, mq]); first | done | omega) (by (try dsimp only [blk, sq, cq, sd, lo, mq]); first | done | omega), tk_fr g2 (by (try dsimp only [blk, sq, cq, sd, lo, mq]); first | done | omega) (by (try dsimp only [blk, sq, cq, sd, lo, mq]); first | done | omega)]
        refine ⟨F, TI_um j2 (by rw [hc]; decide), RI_fr fu (by (try dsimp only [blk, sq, cq, sd, lo, mq]); first | done | omega) l2, ?_, ?_, ?_, ?_⟩
        · rw [um_j (by decide), g2 c 0 (by (try dsimp only [blk, sq, cq, sd, lo, mq]); first | done | omega), e0]
        · rw [um_eq]; omega
        · rw [tb 2 (Or.inl rfl), tk_fr g1 (by (try dsimp only [blk, sq, cq, sd, lo, mq]); first | done | omega) (by (try dsimp only [blk, sq, cq, sd, lo, mq]); first | done | omega)]
        · rw [um_eq, tb 4 (Or.inr rfl), pdV_cg fu hc (by omega) (fun q hP => by (try dsimp only at hP); omega), hv]
          exact w1
      · skip
        refine at_aload dx_86_78 rfl ?_
        refine at_getR dx_86_79 hc rfl (cl_t3 hc) ?_
        refine at_iload dx_86_80 rfl ?_
        refine at_aldS dx_86_81 (cl_c1 hc) (cl_n1 hc) (by first | omega | (simp (disch := omega) only [um_eq, um_k, um_j]; omega)) (by first | omega | (simp (disch := omega) only [um_eq, um_k, um_j]; omega)) (pd_t hc h0.1 (by omega)) ?_
        refine at_aload dx_86_82 rfl ?_
        refine at_getR dx_86_83 lc_0 rfl lt_0_11 ?_
        refine at_iload dx_86_84 rfl ?_
        refine at_aldS dx_86_85 lc_24 ln_24 (by first | omega | (simp (disch := omega) only [um_eq, um_k, um_j]; omega)) (by first | omega | (simp (disch := omega) only [um_eq, um_k, um_j]; omega)) (mp_t h0.1 (by omega)) ?_
        refine at_callVV dx_86_86 rfl (pd_c hc h0.1 (by omega)) rfl (c_stepBecome (pd_c hc h0.1 (by omega)) (mp_c h0.1 (by omega)) (by omega) j2) ?_
        rintro M86 ⟨f86, i86, s86, -⟩
        refine at_iincR (y := 1) dx_86_87 rfl rfl (by constructor <;> omega) (fun r87 => ?_)
        refine at_goto dx_86_88 ?_
        have F86 : fr (blk (c + 8 + 8 * i.toNat)) M2 M86 := f86
        refine ih _ (by omega) _ _ _ _ _ rf rk r87 (by omega) rfl g1 e0 w1 (fr_tr g2 (fr_le f86 (fun q h => by (try dsimp only [blk, sq, cq, sd, lo, mq] at h ⊢); first | done | omega))) i86 (RI_fr f86 (by (try dsimp only [blk, sq, cq, sd, lo, mq]); first | done | omega) l2) ?_
        rw [pdV_succ h0.1, mpV_succ h0.1, s86, pdV_cg f86 hc (by omega) (fun q hP => by dsimp only [blk] at hP; omega), hv, sv_cg (fun q j h => g2 q j (by omega))]
  have lp : ∀ (n : Nat) (f k i : Int) (M1 : mem) (rf : inR f) (rk : inR k) (ri : inR i) (h0 : 0 ≤ k ∧ k ≤ i ∧ f ≤ 10 ∧ k ≤ 10) (hn : (f - i).toNat = n) (g1 : fr (mq c) M M1) (j1 : TI M1) (l1 : RI M1) (e0 : M1 c 0 = M c 0) (e2 : M1 c 2 = M c 2) (w1 : Run (mpV M1 k) (tk M (c + 4)) (tk M1 (c + 4))), At X 0 86 11 [vr 0, vr c, vi f, vi k, vi i] [] M1 (qV (fun M' => fr (fun q => sq q ∨ cq c q) M M' ∧ TI M' ∧ RI M' ∧ M' c 0 = M c 0 ∧ (0 ≤ M' c 2 ∧ M' c 2 ≤ 10) ∧ tk M' (c + 2) = tk M (c + 2) ∧ Run (pdV M' c (M' c 2)) (tk M (c + 4)) (tk M' (c + 4)))) := by
    intro n
    induction n using Nat.strongRecOn with
    | ind n ih =>
    intro f k i M1 rf rk ri h0 hn g1 j1 l1 e0 e2 w1
    refine at_iload dx_86_11 rfl ?_
    refine at_iload dx_86_12 rfl ?_
    refine at_cgeR dx_86_13 ri rf (fun c13 => ?_) (fun c13 => ?_)
    · skip
      refine at_const (x := 0) dx_86_68 rfl ?_
      refine at_istore dx_86_69 ?_
      exact lq _ _ _ 0 _ _ rf rk (by decide) (by omega) rfl g1 e0 w1 fr_rf j1 l1 rfl
    · skip
      refine at_iload dx_86_14 rfl ?_
      refine at_aload dx_86_15 rfl ?_
      refine at_getR dx_86_16 lc_0 rfl lt_0_11 ?_
      refine at_alen dx_86_17 lc_24 rfl ln_24 ?_
      refine at_cgeR dx_86_18 rk (by decide) (fun c18 => ?_) (fun c18 => ?_)
      · skip
        refine at_const (x := 0) dx_86_68 rfl ?_
        refine at_istore dx_86_69 ?_
        exact lq _ _ _ 0 _ _ rf rk (by decide) (by omega) rfl g1 e0 w1 fr_rf j1 l1 rfl
      · skip
        refine at_aload dx_86_19 rfl ?_
        refine at_getR dx_86_20 lc_0 rfl lt_0_11 ?_
        refine at_iload dx_86_21 rfl ?_
        refine at_aldS dx_86_22 lc_24 ln_24 (by first | omega | (simp (disch := omega) only [um_eq, um_k, um_j]; omega)) (by first | omega | (simp (disch := omega) only [um_eq, um_k, um_j]; omega)) (mp_t h0.1 (by omega)) ?_
        refine at_astore dx_86_23 ?_
        refine at_aload dx_86_24 rfl ?_
        refine at_aload dx_86_25 rfl ?_
        refine at_getR dx_86_26 hc rfl (cl_t3 hc) ?_
        refine at_iload dx_86_27 rfl ?_
        refine at_aldS dx_86_28 (cl_c1 hc) (cl_n1 hc) (by first | omega | (simp (disch := omega) only [um_eq, um_k, um_j]; omega)) (by first | omega | (simp (disch := omega) only [um_eq, um_k, um_j]; omega)) (pd_t hc (by omega) (by omega)) ?_
        refine at_callVV dx_86_29 rfl (mp_c h0.1 (by omega)) rfl (c_stepBecome (mp_c h0.1 (by omega)) (pd_c hc (by omega) (by omega)) (by omega) j1) ?_
        rintro M29 ⟨f29, i29, s29, -⟩
        refine at_aload dx_86_30 rfl ?_
        refine at_getR dx_86_31 lc_0 rfl lt_0_12 ?_
        refine at_aload dx_86_32 rfl ?_
        refine at_iload dx_86_33 rfl ?_
        refine at_iload dx_86_34 rfl ?_
        refine at_subR dx_86_35 (by constructor <;> omega) (fun r35 => ?_)
        refine at_callVI dx_86_36 rfl lc_25 rfl (c_carryStep (mp_c h0.1 (by omega)) r35) ?_
        rintro x36 M36 r36 ⟨f36, b36⟩
        have i36 : TI M36 := TI_no i29 f36 (fun q hq hP => by
          have := tk_e hq
          have hk := mp_c h0.1 (show k < 10 by omega)
          rcases hP with h | h | h | h
          · rw [h, hk] at hq; exact absurd hq (by decide)
          · omega
          · rw [h, st_c2 hk] at hq; exact absurd hq (by decide)
          · omega)
        refine at_zeqR dx_86_37 r36 (fun c37 => ?_) (fun c37 => ?_)
        · skip
          refine at_aload dx_86_60 rfl ?_
          refine at_dup dx_86_61 rfl ?_
          refine at_getI 1 dx_86_62 hc rfl rfl (fun r62 => ?_)
          refine at_const (x := 1) dx_86_63 rfl ?_
          refine at_addW dx_86_64 ?_
          refine at_putI 1 dx_86_65 hc rfl rfl (inR_wr _) ?_
          refine at_iincR (y := 1) dx_86_66 rfl rfl (by constructor <;> omega) (fun r66 => ?_)
          refine at_goto dx_86_67 ?_
          refine at_wk (ls := [vr 0, vr c, vi _, vi _, vi _]) ⟨Or.inl rfl, Or.inl rfl, Or.inl rfl, Or.inl rfl, Or.inl rfl, trivial⟩ ?_
          first
          | (have PF : ∀ q, (q = 29 ∨ q = 20 ∨ q = 21 ∨ q = 4 ∨ q = 5 ∨ q = c + 4 ∨ q = c + 5 ∨ q = 25 ∨ q = 26 ∨ q = 27 ∨ q = 28 ∨ blk (512 + 8 * k.toNat) q) → mq c q := fun q h => by dsimp only [mq, sq, blk] at h ⊢; omega
             have F : fr (fun q => q = 29 ∨ q = 20 ∨ q = 21 ∨ q = 4 ∨ q = 5 ∨ q = c + 4 ∨ q = c + 5 ∨ q = 25 ∨ q = 26 ∨ q = 27 ∨ q = 28 ∨ blk (512 + 8 * k.toNat) q) M1 M57 := fr_tr (fr_tr (fr_tr (fr_tr (fr_le f29 (fun q h => by (try dsimp only [blk, sq, cq, sd, lo, mq] at h ⊢); first | done | omega)) (fr_le f36 (fun q h => by (try dsimp only [blk, sq, cq, sd, lo, mq] at h ⊢); first | done | omega))) (fr_le f42 (fun q h => by (try dsimp only [blk, sq, cq, sd, lo, mq] at h ⊢); first | done | omega))) (fr_le f48 (fun q h => by (try dsimp only [blk, sq, cq, sd, lo, mq] at h ⊢); first | done | omega))) (fr_le f57 (fun q h => by (try dsimp only [blk, sq, cq, sd, lo, mq] at h ⊢); first | done | omega))
             have T48 : TI M48 := TI_fr i42 f48 (fun q hq hP => by
               rcases hP with h | h
               · subst h; exact i48
               · have := tk_e hq; omega)
             have T57 : TI M57 := TI_no T48 f57 (fun q hq hP => by
               rcases hP with h | h | h | h
               · rw [h, lc_25] at hq; exact absurd hq (by decide)
               · rw [h, lc_26] at hq; exact absurd hq (by decide)
               · rw [h, lc_27] at hq; exact absurd hq (by decide)
               · rw [h, lc_28] at hq; exact absurd hq (by decide))
             obtain ⟨wo, wt⟩ := w42 (by omega)
             have ec : ∀ j, M57 c j = M1 c j := fun j => F c j (by (try dsimp only [blk, sq, cq, sd, lo, mq]); first | done | omega)
             have td : tk M36 (c + 4) = tk M1 (c + 4) := (tk_fr f36 (by (try dsimp only [blk, sq, cq, sd, lo, mq]); first | done | omega) (by (try dsimp only [blk, sq, cq, sd, lo, mq]); first | done | omega)).trans (tk_fr f29 (by (try dsimp only [blk, sq, cq, sd, lo, mq]); first | done | omega) (by (try dsimp only [blk, sq, cq, sd, lo, mq]); first | done | omega))
             have t4 : tk M57 (c + 4) = apV (sv M36 (512 + 8 * k.toNat)) (tk M1 (c + 4)) := by rw [tk_fr f57 (by (try dsimp only [blk, sq, cq, sd, lo, mq]); first | done | omega) (by (try dsimp only [blk, sq, cq, sd, lo, mq]); first | done | omega), t48, wt, td]
             have sK : sv M57 (512 + 8 * k.toNat) = sv M36 (512 + 8 * k.toNat) := by rw [sv_fr f57 (by (try dsimp only [blk, sq, cq, sd, lo, mq]); first | done | omega) (by (try dsimp only [blk, sq, cq, sd, lo, mq]); first | done | omega) (by (try dsimp only [blk, sq, cq, sd, lo, mq]); first | done | omega) (by (try dsimp only [blk, sq, cq, sd, lo, mq]); first | done | omega) (by (try dsimp only [blk, sq, cq, sd, lo, mq]); first | done | omega) (by (try dsimp only [blk, sq, cq, sd, lo, mq]); first | done | omega), sv_fr f48 (by (try dsimp only [blk, sq, cq, sd, lo, mq]); first | done | omega) (by (try dsimp only [blk, sq, cq, sd, lo, mq]); first | done | omega) (by (try dsimp only [blk, sq, cq, sd, lo, mq]); first | done | omega) (by (try dsimp only [blk, sq, cq, sd, lo, mq]); first | done | omega) (by (try dsimp only [blk, sq, cq, sd, lo, mq]); first | done | omega) (by (try dsimp only [blk, sq, cq, sd, lo, mq]); first | done | omega), sv_fr f42 (by (try dsimp only [blk, sq, cq, sd, lo, mq]); first | done | omega) (by (try dsimp only [blk, sq, cq, sd, lo, mq]); first | done | omega) (by (try dsimp only [blk, sq, cq, sd, lo, mq]); first | done | omega) (by (try dsimp only [blk, sq, cq, sd, lo, mq]); first | done | omega) (by (try dsimp only [blk, sq, cq, sd, lo, mq]); first | done | omega) (by (try dsimp only [blk, sq, cq, sd, lo, mq]); first | done | omega)]
             refine ih _ (by omega) _ _ _ _ rf r58 r66 (by omega) rfl (fr_tr g1 (fr_le F PF)) T57 l57 ((ec 0).trans e0) ((ec 2).trans e2) ?_
             rw [mpV_succ h0.1, sK, t4, mpV_cg F (by omega) (fun q hP => by dsimp only [blk] at hP; omega)]
             exact (Run_app _ _ _ _).mpr ⟨_, w1, by rw [← td]; exact wo, rfl⟩)
          | (have F : fr (fun q => q = 29 ∨ q = 20 ∨ q = 21 ∨ q = 4 ∨ q = 5 ∨ blk (512 + 8 * k.toNat) q) M1 M42 := fr_tr (fr_tr (fr_le f29 (fun q h => by (try dsimp only [blk, sq, cq, sd, lo, mq] at h ⊢); first | done | omega)) (fr_le f36 (fun q h => by (try dsimp only [blk, sq, cq, sd, lo, mq] at h ⊢); first | done | omega))) (fr_le f42 (fun q h => by (try dsimp only [blk, sq, cq, sd, lo, mq] at h ⊢); first | done | omega))
             have ec : ∀ j, M42 c j = M1 c j := fun j => F c j (by (try dsimp only [blk, sq, cq, sd, lo, mq]); first | done | omega)
             have fu : fr (fun q => q = c) M42 (um M42 c 1 (wr (M42 c 1 + 1))) := fr_um rfl
             refine ih _ (by omega) _ _ _ _ rf rk r66 (by omega) rfl (fr_tr g1 (fr_tr (fr_le F (fun q h => by (try dsimp only [blk, sq, cq, sd, lo, mq] at h ⊢); first | done | omega)) (fr_le fu (fun q h => by (try dsimp only [blk, sq, cq, sd, lo, mq] at h ⊢); first | done | omega)))) (TI_um i42 (by rw [hc]; decide)) (RI_fr fu (by (try dsimp only [blk, sq, cq, sd, lo, mq]); first | done | omega) (RI_fr F (by (try dsimp only [blk, sq, cq, sd, lo, mq]); first | done | omega) l1)) (by rw [um_j (by decide), ec, e0]) (by rw [um_j (by decide), ec, e2]) ?_
             rw [tk_fr fu (by (try dsimp only [blk, sq, cq, sd, lo, mq]); first | done | omega) (by (try dsimp only [blk, sq, cq, sd, lo, mq]); first | done | omega), tk_fr F (by (try dsimp only [blk, sq, cq, sd, lo, mq]); first | done | omega) (by (try dsimp only [blk, sq, cq, sd, lo, mq]); first | done | omega), mpV_cg fu (by omega) (fun q hP => by (try dsimp only at hP); omega), mpV_cg F (by omega) (fun q hP => by dsimp only [blk] at hP; omega)]
             exact w1)
          | (have F : fr (fun q => q = 29 ∨ blk (512 + 8 * k.toNat) q) M1 M36 := fr_tr (fr_le f29 (fun q h => by (try dsimp only [blk, sq, cq, sd, lo, mq] at h ⊢); first | done | omega)) (fr_le f36 (fun q h => by (try dsimp only [blk, sq, cq, sd, lo, mq] at h ⊢); first | done | omega))
             have ec : ∀ j, M36 c j = M1 c j := fun j => F c j (by (try dsimp only [blk, sq, cq, sd, lo, mq]); first | done | omega)
             have fu : fr (fun q => q = c) M36 (um M36 c 1 (wr (M36 c 1 + 1))) := fr_um rfl
             refine ih _ (by omega) _ _ _ _ rf rk r66 (by omega) rfl (fr_tr g1 (fr_tr (fr_le F (fun q h => by (try dsimp only [blk, sq, cq, sd, lo, mq] at h ⊢); first | done | omega)) (fr_le fu (fun q h => by (try dsimp only [blk, sq, cq, sd, lo, mq] at h ⊢); first | done | omega)))) (TI_um i36 (by rw [hc]; decide)) (RI_fr fu (by (try dsimp only [blk, sq, cq, sd, lo, mq]); first | done | omega) (RI_fr F (by (try dsimp only [blk, sq, cq, sd, lo, mq]); first | done | omega) l1)) (by rw [um_j (by decide), ec, e0]) (by rw [um_j (by decide), ec, e2]) ?_
             rw [tk_fr fu (by (try dsimp only [blk, sq, cq, sd, lo, mq]); first | done | omega) (by (try dsimp only [blk, sq, cq, sd, lo, mq]); first | done | omega), tk_fr F (by (try dsimp only [blk, sq, cq, sd, lo, mq]); first | done | omega) (by (try dsimp only [blk, sq, cq, sd, lo, mq]); first | done | omega), mpV_cg fu (by omega) (fun q hP => by (try dsimp only at hP); omega), mpV_cg F (by omega) (fun q hP => by dsimp only [blk] at hP; omega)]
             exact w1)
        · skip
          refine at_aload dx_86_38 rfl ?_
          refine at_aload dx_86_39 rfl ?_
          refine at_aload dx_86_40 rfl ?_
          refine at_getR dx_86_41 hc rfl (cl_t5 hc) ?_
          refine at_callVI dx_86_42 rfl lc_0 rfl (c_isPossible (mp_c h0.1 (by omega)) (cl_c4 hc) (by omega) (by omega) (by omega) i36) ?_
          rintro x42 M42 r42 ⟨f42, i42, b42, w42⟩
          refine at_zeqR dx_86_43 r42 (fun c43 => ?_) (fun c43 => ?_)
          · skip
            refine at_aload dx_86_60 rfl ?_
            refine at_dup dx_86_61 rfl ?_
            refine at_getI 1 dx_86_62 hc rfl rfl (fun r62 => ?_)
            refine at_const (x := 1) dx_86_63 rfl ?_
            refine at_addW dx_86_64 ?_
            refine at_putI 1 dx_86_65 hc rfl rfl (inR_wr _) ?_
            refine at_iincR (y := 1) dx_86_66 rfl rfl (by constructor <;> omega) (fun r66 => ?_)
            refine at_goto dx_86_67 ?_
            refine at_wk (ls := [vr 0, vr c, vi _, vi _, vi _]) ⟨Or.inl rfl, Or.inl rfl, Or.inl rfl, Or.inl rfl, Or.inl rfl, trivial⟩ ?_
            first
            | (have PF : ∀ q, (q = 29 ∨ q = 20 ∨ q = 21 ∨ q = 4 ∨ q = 5 ∨ q = c + 4 ∨ q = c + 5 ∨ q = 25 ∨ q = 26 ∨ q = 27 ∨ q = 28 ∨ blk (512 + 8 * k.toNat) q) → mq c q := fun q h => by dsimp only [mq, sq, blk] at h ⊢; omega
               have F : fr (fun q => q = 29 ∨ q = 20 ∨ q = 21 ∨ q = 4 ∨ q = 5 ∨ q = c + 4 ∨ q = c + 5 ∨ q = 25 ∨ q = 26 ∨ q = 27 ∨ q = 28 ∨ blk (512 + 8 * k.toNat) q) M1 M57 := fr_tr (fr_tr (fr_tr (fr_tr (fr_le f29 (fun q h => by (try dsimp only [blk, sq, cq, sd, lo, mq] at h ⊢); first | done | omega)) (fr_le f36 (fun q h => by (try dsimp only [blk, sq, cq, sd, lo, mq] at h ⊢); first | done | omega))) (fr_le f42 (fun q h => by (try dsimp only [blk, sq, cq, sd, lo, mq] at h ⊢); first | done | omega))) (fr_le f48 (fun q h => by (try dsimp only [blk, sq, cq, sd, lo, mq] at h ⊢); first | done | omega))) (fr_le f57 (fun q h => by (try dsimp only [blk, sq, cq, sd, lo, mq] at h ⊢); first | done | omega))
               have T48 : TI M48 := TI_fr i42 f48 (fun q hq hP => by
                 rcases hP with h | h
                 · subst h; exact i48
                 · have := tk_e hq; omega)
               have T57 : TI M57 := TI_no T48 f57 (fun q hq hP => by
                 rcases hP with h | h | h | h
                 · rw [h, lc_25] at hq; exact absurd hq (by decide)
                 · rw [h, lc_26] at hq; exact absurd hq (by decide)
                 · rw [h, lc_27] at hq; exact absurd hq (by decide)
                 · rw [h, lc_28] at hq; exact absurd hq (by decide))
               obtain ⟨wo, wt⟩ := w42 (by omega)
               have ec : ∀ j, M57 c j = M1 c j := fun j => F c j (by (try dsimp only [blk, sq, cq, sd, lo, mq]); first | done | omega)
               have td : tk M36 (c + 4) = tk M1 (c + 4) := (tk_fr f36 (by (try dsimp only [blk, sq, cq, sd, lo, mq]); first | done | omega) (by (try dsimp only [blk, sq, cq, sd, lo, mq]); first | done | omega)).trans (tk_fr f29 (by (try dsimp only [blk, sq, cq, sd, lo, mq]); first | done | omega) (by (try dsimp only [blk, sq, cq, sd, lo, mq]); first | done | omega))
               have t4 : tk M57 (c + 4) = apV (sv M36 (512 + 8 * k.toNat)) (tk M1 (c + 4)) := by rw [tk_fr f57 (by (try dsimp only [blk, sq, cq, sd, lo, mq]); first | done | omega) (by (try dsimp only [blk, sq, cq, sd, lo, mq]); first | done | omega), t48, wt, td]
               have sK : sv M57 (512 + 8 * k.toNat) = sv M36 (512 + 8 * k.toNat) := by rw [sv_fr f57 (by (try dsimp only [blk, sq, cq, sd, lo, mq]); first | done | omega) (by (try dsimp only [blk, sq, cq, sd, lo, mq]); first | done | omega) (by (try dsimp only [blk, sq, cq, sd, lo, mq]); first | done | omega) (by (try dsimp only [blk, sq, cq, sd, lo, mq]); first | done | omega) (by (try dsimp only [blk, sq, cq, sd, lo, mq]); first | done | omega) (by (try dsimp only [blk, sq, cq, sd, lo, mq]); first | done | omega), sv_fr f48 (by (try dsimp only [blk, sq, cq, sd, lo, mq]); first | done | omega) (by (try dsimp only [blk, sq, cq, sd, lo, mq]); first | done | omega) (by (try dsimp only [blk, sq, cq, sd, lo, mq]); first | done | omega) (by (try dsimp only [blk, sq, cq, sd, lo, mq]); first | done | omega) (by (try dsimp only [blk, sq, cq, sd, lo, mq]); first | done | omega) (by (try dsimp only [blk, sq, cq, sd, lo, mq]); first | done | omega), sv_fr f42 (by (try dsimp only [blk, sq, cq, sd, lo, mq]); first | done | omega) (by (try dsimp only [blk, sq, cq, sd, lo, mq]); first | done | omega) (by (try dsimp only [blk, sq, cq, sd, lo, mq]); first | done | omega) (by (try dsimp only [blk, sq, cq, sd, lo, mq]); first | done | omega) (by (try dsimp only [blk, sq, cq, sd, lo, mq]); first | done | omega) (by (try dsimp only [blk, sq, cq, sd, lo, mq]); first | done | omega)]
               refine ih _ (by omega) _ _ _ _ rf r58 r66 (by omega) rfl (fr_tr g1 (fr_le F PF)) T57 l57 ((ec 0).trans e0) ((ec 2).trans e2) ?_
               rw [mpV_succ h0.1, sK, t4, mpV_cg F (by omega) (fun q hP => by dsimp only [blk] at hP; omega)]
               exact (Run_app _ _ _ _).mpr ⟨_, w1, by rw [← td]; exact wo, rfl⟩)
            | (have F : fr (fun q => q = 29 ∨ q = 20 ∨ q = 21 ∨ q = 4 ∨ q = 5 ∨ blk (512 + 8 * k.toNat) q) M1 M42 := fr_tr (fr_tr (fr_le f29 (fun q h => by (try dsimp only [blk, sq, cq, sd, lo, mq] at h ⊢); first | done | omega)) (fr_le f36 (fun q h => by (try dsimp only [blk, sq, cq, sd, lo, mq] at h ⊢); first | done | omega))) (fr_le f42 (fun q h => by (try dsimp only [blk, sq, cq, sd, lo, mq] at h ⊢); first | done | omega))
               have ec : ∀ j, M42 c j = M1 c j := fun j => F c j (by (try dsimp only [blk, sq, cq, sd, lo, mq]); first | done | omega)
               have fu : fr (fun q => q = c) M42 (um M42 c 1 (wr (M42 c 1 + 1))) := fr_um rfl
               refine ih _ (by omega) _ _ _ _ rf rk r66 (by omega) rfl (fr_tr g1 (fr_tr (fr_le F (fun q h => by (try dsimp only [blk, sq, cq, sd, lo, mq] at h ⊢); first | done | omega)) (fr_le fu (fun q h => by (try dsimp only [blk, sq, cq, sd, lo, mq] at h ⊢); first | done | omega)))) (TI_um i42 (by rw [hc]; decide)) (RI_fr fu (by (try dsimp only [blk, sq, cq, sd, lo, mq]); first | done | omega) (RI_fr F (by (try dsimp only [blk, sq, cq, sd, lo, mq]); first | done | omega) l1)) (by rw [um_j (by decide), ec, e0]) (by rw [um_j (by decide), ec, e2]) ?_
               rw [tk_fr fu (by (try dsimp only [blk, sq, cq, sd, lo, mq]); first | done | omega) (by (try dsimp only [blk, sq, cq, sd, lo, mq]); first | done | omega), tk_fr F (by (try dsimp only [blk, sq, cq, sd, lo, mq]); first | done | omega) (by (try dsimp only [blk, sq, cq, sd, lo, mq]); first | done | omega), mpV_cg fu (by omega) (fun q hP => by (try dsimp only at hP); omega), mpV_cg F (by omega) (fun q hP => by dsimp only [blk] at hP; omega)]
               exact w1)
            | (have F : fr (fun q => q = 29 ∨ blk (512 + 8 * k.toNat) q) M1 M36 := fr_tr (fr_le f29 (fun q h => by (try dsimp only [blk, sq, cq, sd, lo, mq] at h ⊢); first | done | omega)) (fr_le f36 (fun q h => by (try dsimp only [blk, sq, cq, sd, lo, mq] at h ⊢); first | done | omega))
               have ec : ∀ j, M36 c j = M1 c j := fun j => F c j (by (try dsimp only [blk, sq, cq, sd, lo, mq]); first | done | omega)
               have fu : fr (fun q => q = c) M36 (um M36 c 1 (wr (M36 c 1 + 1))) := fr_um rfl
               refine ih _ (by omega) _ _ _ _ rf rk r66 (by omega) rfl (fr_tr g1 (fr_tr (fr_le F (fun q h => by (try dsimp only [blk, sq, cq, sd, lo, mq] at h ⊢); first | done | omega)) (fr_le fu (fun q h => by (try dsimp only [blk, sq, cq, sd, lo, mq] at h ⊢); first | done | omega)))) (TI_um i36 (by rw [hc]; decide)) (RI_fr fu (by (try dsimp only [blk, sq, cq, sd, lo, mq]); first | done | omega) (RI_fr F (by (try dsimp only [blk, sq, cq, sd, lo, mq]); first | done | omega) l1)) (by rw [um_j (by decide), ec, e0]) (by rw [um_j (by decide), ec, e2]) ?_
               rw [tk_fr fu (by (try dsimp only [blk, sq, cq, sd, lo, mq]); first | done | omega) (by (try dsimp only [blk, sq, cq, sd, lo, mq]); first | done | omega), tk_fr F (by (try dsimp only [blk, sq, cq, sd, lo, mq]); first | done | omega) (by (try dsimp only [blk, sq, cq, sd, lo, mq]); first | done | omega), mpV_cg fu (by omega) (fun q hP => by (try dsimp only at hP); omega), mpV_cg F (by omega) (fun q hP => by dsimp only [blk] at hP; omega)]
               exact w1)
          · skip
            refine at_aload dx_86_44 rfl ?_
            refine at_getR dx_86_45 hc rfl (cl_t5 hc) ?_
            refine at_aload dx_86_46 rfl ?_
            refine at_getR dx_86_47 lc_0 rfl lt_0_9 ?_
            refine at_callVV dx_86_48 rfl (cl_c4 hc) rfl (c_become (cl_c4 hc) lc_20 (by omega) (i42 _ lc_20)) ?_
            rintro M48 ⟨f48, i48, t48⟩
            refine at_aload dx_86_49 rfl ?_
            refine at_getR dx_86_50 lc_0 rfl lt_0_12 ?_
            refine at_aload dx_86_51 rfl ?_
            refine at_iload dx_86_52 rfl ?_
            refine at_const (x := 1) dx_86_53 rfl ?_
            refine at_subR dx_86_54 (by constructor <;> omega) (fun r54 => ?_)
            refine at_iload dx_86_55 rfl ?_
            refine at_subR dx_86_56 (by constructor <;> omega) (fun r56 => ?_)
            refine at_callVV dx_86_57 rfl lc_25 rfl (c_addPartner (mp_c h0.1 (by omega)) r56 (RI_fr f48 (by omega) (RI_fr f42 (by omega) (RI_fr f36 (by omega) (RI_fr f29 (by omega) l1))))) ?_
            rintro M57 ⟨f57, l57⟩
            refine at_iincR (y := 1) dx_86_58 rfl rfl (by constructor <;> omega) (fun r58 => ?_)
            refine at_goto dx_86_59 ?_
            refine at_iincR (y := 1) dx_86_66 rfl rfl (by constructor <;> omega) (fun r66 => ?_)
            refine at_goto dx_86_67 ?_
            refine at_wk (ls := [vr 0, vr c, vi _, vi _, vi _]) ⟨Or.inl rfl, Or.inl rfl, Or.inl rfl, Or.inl rfl, Or.inl rfl, trivial⟩ ?_
            first
            | (have PF : ∀ q, (q = 29 ∨ q = 20 ∨ q = 21 ∨ q = 4 ∨ q = 5 ∨ q = c + 4 ∨ q = c + 5 ∨ q = 25 ∨ q = 26 ∨ q = 27 ∨ q = 28 ∨ blk (512 + 8 * k.toNat) q) → mq c q := fun q h => by dsimp only [mq, sq, blk] at h ⊢; omega
               have F : fr (fun q => q = 29 ∨ q = 20 ∨ q = 21 ∨ q = 4 ∨ q = 5 ∨ q = c + 4 ∨ q = c + 5 ∨ q = 25 ∨ q = 26 ∨ q = 27 ∨ q = 28 ∨ blk (512 + 8 * k.toNat) q) M1 M57 := fr_tr (fr_tr (fr_tr (fr_tr (fr_le f29 (fun q h => by (try dsimp only [blk, sq, cq, sd, lo, mq] at h ⊢); first | done | omega)) (fr_le f36 (fun q h => by (try dsimp only [blk, sq, cq, sd, lo, mq] at h ⊢); first | done | omega))) (fr_le f42 (fun q h => by (try dsimp only [blk, sq, cq, sd, lo, mq] at h ⊢); first | done | omega))) (fr_le f48 (fun q h => by (try dsimp only [blk, sq, cq, sd, lo, mq] at h ⊢); first | done | omega))) (fr_le f57 (fun q h => by (try dsimp only [blk, sq, cq, sd, lo, mq] at h ⊢); first | done | omega))
               have T48 : TI M48 := TI_fr i42 f48 (fun q hq hP => by
                 rcases hP with h | h
                 · subst h; exact i48
                 · have := tk_e hq; omega)
               have T57 : TI M57 := TI_no T48 f57 (fun q hq hP => by
                 rcases hP with h | h | h | h
                 · rw [h, lc_25] at hq; exact absurd hq (by decide)
                 · rw [h, lc_26] at hq; exact absurd hq (by decide)
                 · rw [h, lc_27] at hq; exact absurd hq (by decide)
                 · rw [h, lc_28] at hq; exact absurd hq (by decide))
               obtain ⟨wo, wt⟩ := w42 (by omega)
               have ec : ∀ j, M57 c j = M1 c j := fun j => F c j (by (try dsimp only [blk, sq, cq, sd, lo, mq]); first | done | omega)
               have td : tk M36 (c + 4) = tk M1 (c + 4) := (tk_fr f36 (by (try dsimp only [blk, sq, cq, sd, lo, mq]); first | done | omega) (by (try dsimp only [blk, sq, cq, sd, lo, mq]); first | done | omega)).trans (tk_fr f29 (by (try dsimp only [blk, sq, cq, sd, lo, mq]); first | done | omega) (by (try dsimp only [blk, sq, cq, sd, lo, mq]); first | done | omega))
               have t4 : tk M57 (c + 4) = apV (sv M36 (512 + 8 * k.toNat)) (tk M1 (c + 4)) := by rw [tk_fr f57 (by (try dsimp only [blk, sq, cq, sd, lo, mq]); first | done | omega) (by (try dsimp only [blk, sq, cq, sd, lo, mq]); first | done | omega), t48, wt, td]
               have sK : sv M57 (512 + 8 * k.toNat) = sv M36 (512 + 8 * k.toNat) := by rw [sv_fr f57 (by (try dsimp only [blk, sq, cq, sd, lo, mq]); first | done | omega) (by (try dsimp only [blk, sq, cq, sd, lo, mq]); first | done | omega) (by (try dsimp only [blk, sq, cq, sd, lo, mq]); first | done | omega) (by (try dsimp only [blk, sq, cq, sd, lo, mq]); first | done | omega) (by (try dsimp only [blk, sq, cq, sd, lo, mq]); first | done | omega) (by (try dsimp only [blk, sq, cq, sd, lo, mq]); first | done | omega), sv_fr f48 (by (try dsimp only [blk, sq, cq, sd, lo, mq]); first | done | omega) (by (try dsimp only [blk, sq, cq, sd, lo, mq]); first | done | omega) (by (try dsimp only [blk, sq, cq, sd, lo, mq]); first | done | omega) (by (try dsimp only [blk, sq, cq, sd, lo, mq]); first | done | omega) (by (try dsimp only [blk, sq, cq, sd, lo, mq]); first | done | omega) (by (try dsimp only [blk, sq, cq, sd, lo, mq]); first | done | omega), sv_fr f42 (by (try dsimp only [blk, sq, cq, sd, lo, mq]); first | done | omega) (by (try dsimp only [blk, sq, cq, sd, lo, mq]); first | done | omega) (by (try dsimp only [blk, sq, cq, sd, lo, mq]); first | done | omega) (by (try dsimp only [blk, sq, cq, sd, lo, mq]); first | done | omega) (by (try dsimp only [blk, sq, cq, sd, lo, mq]); first | done | omega) (by (try dsimp only [blk, sq, cq, sd, lo, mq]); first | done | omega)]
               refine ih _ (by omega) _ _ _ _ rf r58 r66 (by omega) rfl (fr_tr g1 (fr_le F PF)) T57 l57 ((ec 0).trans e0) ((ec 2).trans e2) ?_
               rw [mpV_succ h0.1, sK, t4, mpV_cg F (by omega) (fun q hP => by dsimp only [blk] at hP; omega)]
               exact (Run_app _ _ _ _).mpr ⟨_, w1, by rw [← td]; exact wo, rfl⟩)
            | (have F : fr (fun q => q = 29 ∨ q = 20 ∨ q = 21 ∨ q = 4 ∨ q = 5 ∨ blk (512 + 8 * k.toNat) q) M1 M42 := fr_tr (fr_tr (fr_le f29 (fun q h => by (try dsimp only [blk, sq, cq, sd, lo, mq] at h ⊢); first | done | omega)) (fr_le f36 (fun q h => by (try dsimp only [blk, sq, cq, sd, lo, mq] at h ⊢); first | done | omega))) (fr_le f42 (fun q h => by (try dsimp only [blk, sq, cq, sd, lo, mq] at h ⊢); first | done | omega))
               have ec : ∀ j, M42 c j = M1 c j := fun j => F c j (by (try dsimp only [blk, sq, cq, sd, lo, mq]); first | done | omega)
               have fu : fr (fun q => q = c) M42 (um M42 c 1 (wr (M42 c 1 + 1))) := fr_um rfl
               refine ih _ (by omega) _ _ _ _ rf rk r66 (by omega) rfl (fr_tr g1 (fr_tr (fr_le F (fun q h => by (try dsimp only [blk, sq, cq, sd, lo, mq] at h ⊢); first | done | omega)) (fr_le fu (fun q h => by (try dsimp only [blk, sq, cq, sd, lo, mq] at h ⊢); first | done | omega)))) (TI_um i42 (by rw [hc]; decide)) (RI_fr fu (by (try dsimp only [blk, sq, cq, sd, lo, mq]); first | done | omega) (RI_fr F (by (try dsimp only [blk, sq, cq, sd, lo, mq]); first | done | omega) l1)) (by rw [um_j (by decide), ec, e0]) (by rw [um_j (by decide), ec, e2]) ?_
               rw [tk_fr fu (by (try dsimp only [blk, sq, cq, sd, lo, mq]); first | done | omega) (by (try dsimp only [blk, sq, cq, sd, lo, mq]); first | done | omega), tk_fr F (by (try dsimp only [blk, sq, cq, sd, lo, mq]); first | done | omega) (by (try dsimp only [blk, sq, cq, sd, lo, mq]); first | done | omega), mpV_cg fu (by omega) (fun q hP => by (try dsimp only at hP); omega), mpV_cg F (by omega) (fun q hP => by dsimp only [blk] at hP; omega)]
               exact w1)
            | (have F : fr (fun q => q = 29 ∨ blk (512 + 8 * k.toNat) q) M1 M36 := fr_tr (fr_le f29 (fun q h => by (try dsimp only [blk, sq, cq, sd, lo, mq] at h ⊢); first | done | omega)) (fr_le f36 (fun q h => by (try dsimp only [blk, sq, cq, sd, lo, mq] at h ⊢); first | done | omega))
               have ec : ∀ j, M36 c j = M1 c j := fun j => F c j (by (try dsimp only [blk, sq, cq, sd, lo, mq]); first | done | omega)
               have fu : fr (fun q => q = c) M36 (um M36 c 1 (wr (M36 c 1 + 1))) := fr_um rfl
               refine ih _ (by omega) _ _ _ _ rf rk r66 (by omega) rfl (fr_tr g1 (fr_tr (fr_le F (fun q h => by (try dsimp only [blk, sq, cq, sd, lo, mq] at h ⊢); first | done | omega)) (fr_le fu (fun q h => by (try dsimp only [blk, sq, cq, sd, lo, mq] at h ⊢); first | done | omega)))) (TI_um i36 (by rw [hc]; decide)) (RI_fr fu (by (try dsimp only [blk, sq, cq, sd, lo, mq]); first | done | omega) (RI_fr F (by (try dsimp only [blk, sq, cq, sd, lo, mq]); first | done | omega) l1)) (by rw [um_j (by decide), ec, e0]) (by rw [um_j (by decide), ec, e2]) ?_
               rw [tk_fr fu (by (try dsimp only [blk, sq, cq, sd, lo, mq]); first | done | omega) (by (try dsimp only [blk, sq, cq, sd, lo, mq]); first | done | omega), tk_fr F (by (try dsimp only [blk, sq, cq, sd, lo, mq]); first | done | omega) (by (try dsimp only [blk, sq, cq, sd, lo, mq]); first | done | omega), mpV_cg fu (by omega) (fun q hP => by (try dsimp only at hP); omega), mpV_cg F (by omega) (fun q hP => by dsimp only [blk] at hP; omega)]
               exact w1)
  refine at_aload dx_86_0 rfl ?_
  refine at_getI 2 dx_86_1 hc rfl rfl (fun r1 => ?_)
  refine at_aload dx_86_2 rfl ?_
  refine at_getR dx_86_3 hc rfl (cl_t3 hc) ?_
  refine at_alen dx_86_4 (cl_c1 hc) rfl (cl_n1 hc) ?_
  refine at_minR dx_86_5 rfl r1 (by decide) (fun c5 => ?_) (fun c5 => ?_)
  · skip
    refine at_istore dx_86_6 ?_
    refine at_const (x := 0) dx_86_7 rfl ?_
    refine at_istore dx_86_8 ?_
    refine at_const (x := 0) dx_86_9 rfl ?_
    refine at_istore dx_86_10 ?_
    first | exact lp _ _ 0 0 _ r1 (by decide) (by decide) (by omega) rfl fr_rf hT hI rfl rfl rfl | exact lp _ _ 0 0 _ (by decide) (by decide) (by decide) (by omega) rfl fr_rf hT hI rfl rfl rfl
  · skip
    refine at_istore dx_86_6 ?_
    refine at_const (x := 0) dx_86_7 rfl ?_
    refine at_istore dx_86_8 ?_
    refine at_const (x := 0) dx_86_9 rfl ?_
    refine at_istore dx_86_10 ?_
    first | exact lp _ _ 0 0 _ r1 (by decide) (by decide) (by omega) rfl fr_rf hT hI rfl rfl rfl | exact lp _ _ 0 0 _ (by decide) (by decide) (by decide) (by omega) rfl fr_rf hT hI rfl rfl rfl
