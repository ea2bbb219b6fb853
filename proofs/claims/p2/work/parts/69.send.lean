/-! ===== sending, on both sides ===== -/
abbrev sE (c q : Nat) : Prop := q = 0 ∨ q = 6 ∨ q = 7 ∨ q = 10 ∨ q = 11 ∨ q = 20 ∨ q = 21 ∨ q = 30 ∨ (32 ≤ q ∧ q < 512) ∨ q = c ∨ q = c + 2 ∨ q = c + 3
noncomputable def SC (x : Int) (M M' : mem) : Prop := (((0 ≤ x ∧ x < 3) ∧ M (cl x) 0 = M 0 3 ∧ M 0 3 + M (cl x) 2 ≤ 60) ∧ CI M' ∧ fr (sE (cl x)) M M' ∧ M' 0 3 = M 0 3 + M (cl x) 2 ∧ M' (cl x) 2 = 0 ∧ M' (cl x) 0 = M 0 3 + M (cl x) 2) ∨ (¬ ((0 ≤ x ∧ x < 3) ∧ M (cl x) 0 = M 0 3 ∧ M 0 3 + M (cl x) 2 ≤ 60) ∧ CI M' ∧ fr wq M M')
theorem SC_no {x : Int} {M M' : mem} (h : ¬ (0 ≤ x ∧ x < 3)) (hC : CI M') (f : fr wq M M') : SC x M M' := Or.inr ⟨fun e => h e.1, hC, f⟩
theorem SC_0 {x : Int} {c : Nat} {M M' : mem} (hcx : c = 592 + 88 * x.toNat) (h : ¬ (M c 0 = M 0 3 ∧ M 0 3 + M c 2 ≤ 60)) (hC : CI M') (f : fr wq M M') : SC x M M' := by
  have e : c = cl x := hcx
  subst e
  exact Or.inr ⟨fun e => h e.2, hC, f⟩
theorem SC_1 {x : Int} {c : Nat} {M M' : mem} (hcx : c = 592 + 88 * x.toNat) (h0 : 0 ≤ x ∧ x < 3) (h : M c 0 = M 0 3 ∧ M 0 3 + M c 2 ≤ 60) (hC : CI M') (f : fr (sE c) M M') (h1 : M' 0 3 = M 0 3 + M c 2) (h2 : M' c 2 = 0) (h3 : M' c 0 = M 0 3 + M c 2) : SC x M M' := by
  have e : c = cl x := hcx
  subst e
  exact Or.inl ⟨⟨h0, h⟩, hC, f, h1, h2, h3⟩
set_option maxRecDepth 100000 in
set_option maxHeartbeats 4000000 in
theorem x_send {X : scr} {M : mem} {x : Int} (rx : inR x) (hC : CI M) : At X 0 60 0 [vr 0, vi x] [] M (qT (qI (fun _ M' => SC x M M')) (fun e M' => e ∈ [0, 2] ∧ SC x M M')) := by
  have F : fr wq M M := fr_rf
  have T : TI M := hC.1
  have G : RI M := hC.2.1
  have lp : ∀ (n : Nat) (c : Nat) (i : Int) (M1 : mem) (rz : inR (M c 2)) (hc : ly_c c = 0) (ri : inR i) (hv : M c 0 = M 0 3) (hs : M 0 3 + M c 2 ≤ 60) (h0 : 0 ≤ i ∧ i ≤ M c 2) (hn : (M c 2 - i).toNat = n) (F1 : fr (fun q => q = 0 ∨ q = 6 ∨ q = 7 ∨ q = 10 ∨ q = 11 ∨ q = 20 ∨ q = 21 ∨ q = 30 ∨ (32 + 8 * (M 0 3).toNat ≤ q ∧ q < 512)) M M1) (T1 : TI M1) (e3 : M1 0 3 = M 0 3 + i) (e7 : ∀ j, j ≠ 3 → M1 0 j = M 0 j) (hcx : c = 592 + 88 * x.toNat) (h03 : 0 ≤ x ∧ x < 3) (wl : Run (lgV M1 (M 0 3 + i)) [1, 0] (tk M1 6)) (wp : Run (pdV M c i) (tk M 6) (tk M1 6)), At X 0 60 23 [vr 0, vi x, vr c, vi ((M c 2)), vi i] [] M1 (qT (qI (fun _ M' => SC x M M')) (fun e M' => e ∈ [0, 2] ∧ SC x M M')) := by
    intro n
    induction n using Nat.strongRecOn with
    | ind n ih =>
    intro c i M1 rz hc ri hv hs h0 hn F1 T1 e3 e7 hcx h03 wl wp
    have h8 := cl_al hc
    obtain ⟨b1, b2, b3, b4, b5, b6⟩ := hC
    obtain ⟨a1, a2, a3, a4, a5, a6⟩ := b6 c hc
    have hb : tk M (c + 2) = tk M 6 := by rw [hv] at a5; exact Run_det _ _ _ _ a5 b5
    rw [hb] at a6
    have nx := fun (h : i < M c 2) => Run_next (f := fun i : Nat => sv M (c + 8 + 8 * i)) h0.1 h a6 wp
    have ec : ∀ j, M1 c j = M c j := fun j => F1 c j (by (try dsimp only); omega)
    refine at_iload dx_60_23 rfl ?_
    refine at_iload dx_60_24 rfl ?_
    refine at_cgeR dx_60_25 ri rz (fun c25 => ?_) (fun c25 => ?_)
    · skip
      refine at_aload dx_60_39 rfl ?_
      refine at_const (x := 0) dx_60_40 rfl ?_
      refine at_putI 2 dx_60_41 hc rfl rfl (by decide) ?_
      refine at_aload dx_60_42 rfl ?_
      refine at_aload dx_60_43 rfl ?_
      refine at_getI 3 dx_60_44 lc_0 rfl rfl (fun r44 => ?_)
      refine at_putI 0 dx_60_45 hc rfl rfl r44 ?_
      refine at_mem (fun Mu hMu => ?_)
      have fu : fr (fun q => q = c) M1 Mu := by rw [hMu]; (repeat (first | exact fr_rf | refine fr_ums ?_ (by (try dsimp only [blk]); first | done | omega)))
      have Tu : TI Mu := by rw [hMu]; exact TI_um (TI_um T1 (by rw [hc]; decide)) (by rw [hc]; decide)
      have u2 : Mu c 2 = 0 := by rw [hMu, um_j (by decide), um_eq]
      have u0 : Mu c 0 = M 0 3 + i := by rw [hMu, um_eq, um_k (by omega), e3]
      refine at_aload dx_60_46 rfl ?_
      refine at_getR dx_60_47 hc rfl (cl_t4 hc) ?_
      refine at_aload dx_60_48 rfl ?_
      refine at_getR dx_60_49 lc_0 rfl lt_0_1 ?_
      refine at_callVV dx_60_50 rfl (cl_c2 hc) rfl (c_become (cl_c2 hc) lc_6 (by omega) (Tu _ lc_6)) ?_
      rintro M50 ⟨f50, i50, t50⟩
      refine at_iload dx_60_51 rfl ?_
      refine at_iretIT dx_60_52 rz ?_
      have hi : i = M c 2 := by omega
      subst hi
      have F50 : fr (fun q => q = 0 ∨ q = 6 ∨ q = 7 ∨ q = 10 ∨ q = 11 ∨ q = 20 ∨ q = 21 ∨ q = 30 ∨ (32 + 8 * (M 0 3).toNat ≤ q ∧ q < 512) ∨ q = c ∨ q = c + 2 ∨ q = c + 3) M M50 := fr_tr (fr_tr (fr_le F1 (fun q h => by (try dsimp only [blk, sq, cq, lo, wq, pq, sE] at h ⊢); first | done | omega)) (fr_le fu (fun q h => by (try dsimp only [blk, sq, cq, lo, wq, pq, sE] at h ⊢); first | done | omega))) (fr_le f50 (fun q h => by (try dsimp only [blk, sq, cq, lo, wq, pq, sE] at h ⊢); first | done | omega))
      have T50 : TI M50 := TI_fr Tu f50 (fun q hq hP => by
        rcases hP with h | h
        · subst h; exact i50
        · have := tk_e hq; omega)
      have d3 : M50 0 3 = M 0 3 + M c 2 := by rw [f50 0 3 (by (try dsimp only [blk, sq, cq, lo, wq, pq, sE]); first | done | omega), fu 0 3 (by (try dsimp only [blk, sq, cq, lo, wq, pq, sE]); first | done | omega), e3]
      have d7 : M50 0 7 = M 0 7 := by rw [f50 0 7 (by (try dsimp only [blk, sq, cq, lo, wq, pq, sE]); first | done | omega), fu 0 7 (by (try dsimp only [blk, sq, cq, lo, wq, pq, sE]); first | done | omega), e7 7 (by decide)]
      have t6 : tk M50 6 = tk M1 6 := by rw [tk_fr f50 (by (try dsimp only [blk, sq, cq, lo, wq, pq, sE]); first | done | omega) (by (try dsimp only [blk, sq, cq, lo, wq, pq, sE]); first | done | omega), tk_fr fu (by (try dsimp only [blk, sq, cq, lo, wq, pq, sE]); first | done | omega) (by (try dsimp only [blk, sq, cq, lo, wq, pq, sE]); first | done | omega)]
      have tb : tk M50 (c + 2) = tk M1 6 := by rw [t50, tk_fr fu (by (try dsimp only [blk, sq, cq, lo, wq, pq, sE]); first | done | omega) (by (try dsimp only [blk, sq, cq, lo, wq, pq, sE]); first | done | omega)]
      have td : tk M50 (c + 4) = tk M (c + 4) := tk_fr F50 (by (try dsimp only [blk, sq, cq, lo, wq, pq, sE]); first | done | omega) (by (try dsimp only [blk, sq, cq, lo, wq, pq, sE]); first | done | omega)
      have c2 : M50 c 2 = 0 := by rw [f50 c 2 (by (try dsimp only [blk, sq, cq, lo, wq, pq, sE]); first | done | omega), u2]
      have c0 : M50 c 0 = M 0 3 + M c 2 := by rw [f50 c 0 (by (try dsimp only [blk, sq, cq, lo, wq, pq, sE]); first | done | omega), u0]
      have lg : lgV M50 (M 0 3 + M c 2) = lgV M1 (M 0 3 + M c 2) := by
        rw [lgV_cg f50 (by omega) (fun q hP => by (try dsimp only at hP); omega), lgV_cg fu (by omega) (fun q hP => by (try dsimp only at hP); omega)]
      have hd := Run_det _ _ _ _ wp a6
      refine SC_1 hcx h03 ⟨hv, hs⟩ ⟨T50, RI_fr F50 (by (try dsimp only [blk, sq, cq, lo, wq, pq, sE]); first | done | omega) b2, by rw [d3]; omega, by rw [d7]; exact b4, ?_, fun c' hc' => ?_⟩ (fr_le F50 (fun q h => by (try dsimp only [sE] at h ⊢); omega)) d3 c2 c0
      · rw [d3, lg, t6]; exact wl
      · by_cases e : c' = c
        · subst e
          unfold CC
          rw [c0, c2, d3, lg, tb, td]
          exact ⟨by omega, by omega, by decide, by decide, wl, hd.symm⟩
        · have h9 := cl_al hc'
          obtain ⟨z1, z2, z3, z4, z5, z6⟩ := b6 c' hc'
          have ec' : ∀ j, M50 c' j = M c' j := fun j => F50 c' j (by (try dsimp only [blk, sq, cq, lo, wq, pq, sE]); first | done | omega)
          unfold CC
          rw [ec', ec', d3, tk_fr F50 (by (try dsimp only [blk, sq, cq, lo, wq, pq, sE]); first | done | omega) (by (try dsimp only [blk, sq, cq, lo, wq, pq, sE]); first | done | omega), tk_fr F50 (by (try dsimp only [blk, sq, cq, lo, wq, pq, sE]); first | done | omega) (by (try dsimp only [blk, sq, cq, lo, wq, pq, sE]); first | done | omega), lgV_cg F50 (by omega) (fun q hP => by (try dsimp only at hP); omega), pdV_cg F50 hc' (by omega) (fun q hP => by (try dsimp only at hP); omega)]
          exact ⟨z1, by omega, z3, z4, z5, z6⟩
    · skip
      refine at_iload dx_60_26 rfl ?_
      refine at_aload dx_60_27 rfl ?_
      refine at_getR dx_60_28 hc rfl (cl_t3 hc) ?_
      refine at_alen dx_60_29 (cl_c1 hc) rfl (cl_n1 hc) ?_
      refine at_cgeR dx_60_30 ri (by decide) (fun c30 => ?_) (fun c30 => ?_)
      · skip
        refine at_aload dx_60_39 rfl ?_
        refine at_const (x := 0) dx_60_40 rfl ?_
        refine at_putI 2 dx_60_41 hc rfl rfl (by decide) ?_
        refine at_aload dx_60_42 rfl ?_
        refine at_aload dx_60_43 rfl ?_
        refine at_getI 3 dx_60_44 lc_0 rfl rfl (fun r44 => ?_)
        refine at_putI 0 dx_60_45 hc rfl rfl r44 ?_
        refine at_mem (fun Mu hMu => ?_)
        have fu : fr (fun q => q = c) M1 Mu := by rw [hMu]; (repeat (first | exact fr_rf | refine fr_ums ?_ (by (try dsimp only [blk]); first | done | omega)))
        have Tu : TI Mu := by rw [hMu]; exact TI_um (TI_um T1 (by rw [hc]; decide)) (by rw [hc]; decide)
        have u2 : Mu c 2 = 0 := by rw [hMu, um_j (by decide), um_eq]
        have u0 : Mu c 0 = M 0 3 + i := by rw [hMu, um_eq, um_k (by omega), e3]
        refine at_aload dx_60_46 rfl ?_
        refine at_getR dx_60_47 hc rfl (cl_t4 hc) ?_
        refine at_aload dx_60_48 rfl ?_
        refine at_getR dx_60_49 lc_0 rfl lt_0_1 ?_
        refine at_callVV dx_60_50 rfl (cl_c2 hc) rfl (c_become (cl_c2 hc) lc_6 (by omega) (Tu _ lc_6)) ?_
        rintro M50 ⟨f50, i50, t50⟩
        refine at_iload dx_60_51 rfl ?_
        refine at_iretIT dx_60_52 rz ?_
        have hi : i = M c 2 := by omega
        subst hi
        have F50 : fr (fun q => q = 0 ∨ q = 6 ∨ q = 7 ∨ q = 10 ∨ q = 11 ∨ q = 20 ∨ q = 21 ∨ q = 30 ∨ (32 + 8 * (M 0 3).toNat ≤ q ∧ q < 512) ∨ q = c ∨ q = c + 2 ∨ q = c + 3) M M50 := fr_tr (fr_tr (fr_le F1 (fun q h => by (try dsimp only [blk, sq, cq, lo, wq, pq, sE] at h ⊢); first | done | omega)) (fr_le fu (fun q h => by (try dsimp only [blk, sq, cq, lo, wq, pq, sE] at h ⊢); first | done | omega))) (fr_le f50 (fun q h => by (try dsimp only [blk, sq, cq, lo, wq, pq, sE] at h ⊢); first | done | omega))
        have T50 : TI M50 := TI_fr Tu f50 (fun q hq hP => by
          rcases hP with h | h
          · subst h; exact i50
          · have := tk_e hq; omega)
        have d3 : M50 0 3 = M 0 3 + M c 2 := by rw [f50 0 3 (by (try dsimp only [blk, sq, cq, lo, wq, pq, sE]); first | done | omega), fu 0 3 (by (try dsimp only [blk, sq, cq, lo, wq, pq, sE]); first | done | omega), e3]
        have d7 : M50 0 7 = M 0 7 := by rw [f50 0 7 (by (try dsimp only [blk, sq, cq, lo, wq, pq, sE]); first | done | omega), fu 0 7 (by (try dsimp only [blk, sq, cq, lo, wq, pq, sE]); first | done | omega), e7 7 (by decide)]
        have t6 : tk M50 6 = tk M1 6 := by rw [tk_fr f50 (by (try dsimp only [blk, sq, cq, lo, wq, pq, sE]); first | done | omega) (by (try dsimp only [blk, sq, cq, lo, wq, pq, sE]); first | done | omega), tk_fr fu (by (try dsimp only [blk, sq, cq, lo, wq, pq, sE]); first | done | omega) (by (try dsimp only [blk, sq, cq, lo, wq, pq, sE]); first | done | omega)]
        have tb : tk M50 (c + 2) = tk M1 6 := by rw [t50, tk_fr fu (by (try dsimp only [blk, sq, cq, lo, wq, pq, sE]); first | done | omega) (by (try dsimp only [blk, sq, cq, lo, wq, pq, sE]); first | done | omega)]
        have td : tk M50 (c + 4) = tk M (c + 4) := tk_fr F50 (by (try dsimp only [blk, sq, cq, lo, wq, pq, sE]); first | done | omega) (by (try dsimp only [blk, sq, cq, lo, wq, pq, sE]); first | done | omega)
        have c2 : M50 c 2 = 0 := by rw [f50 c 2 (by (try dsimp only [blk, sq, cq, lo, wq, pq, sE]); first | done | omega), u2]
        have c0 : M50 c 0 = M 0 3 + M c 2 := by rw [f50 c 0 (by (try dsimp only [blk, sq, cq, lo, wq, pq, sE]); first | done | omega), u0]
        have lg : lgV M50 (M 0 3 + M c 2) = lgV M1 (M 0 3 + M c 2) := by
          rw [lgV_cg f50 (by omega) (fun q hP => by (try dsimp only at hP); omega), lgV_cg fu (by omega) (fun q hP => by (try dsimp only at hP); omega)]
        have hd := Run_det _ _ _ _ wp a6
        refine SC_1 hcx h03 ⟨hv, hs⟩ ⟨T50, RI_fr F50 (by (try dsimp only [blk, sq, cq, lo, wq, pq, sE]); first | done | omega) b2, by rw [d3]; omega, by rw [d7]; exact b4, ?_, fun c' hc' => ?_⟩ (fr_le F50 (fun q h => by (try dsimp only [sE] at h ⊢); omega)) d3 c2 c0
        · rw [d3, lg, t6]; exact wl
        · by_cases e : c' = c
          · subst e
            unfold CC
            rw [c0, c2, d3, lg, tb, td]
            exact ⟨by omega, by omega, by decide, by decide, wl, hd.symm⟩
          · have h9 := cl_al hc'
            obtain ⟨z1, z2, z3, z4, z5, z6⟩ := b6 c' hc'
            have ec' : ∀ j, M50 c' j = M c' j := fun j => F50 c' j (by (try dsimp only [blk, sq, cq, lo, wq, pq, sE]); first | done | omega)
            unfold CC
            rw [ec', ec', d3, tk_fr F50 (by (try dsimp only [blk, sq, cq, lo, wq, pq, sE]); first | done | omega) (by (try dsimp only [blk, sq, cq, lo, wq, pq, sE]); first | done | omega), tk_fr F50 (by (try dsimp only [blk, sq, cq, lo, wq, pq, sE]); first | done | omega) (by (try dsimp only [blk, sq, cq, lo, wq, pq, sE]); first | done | omega), lgV_cg F50 (by omega) (fun q hP => by (try dsimp only at hP); omega), pdV_cg F50 hc' (by omega) (fun q hP => by (try dsimp only at hP); omega)]
            exact ⟨z1, by omega, z3, z4, z5, z6⟩
      · skip
        refine at_aload dx_60_31 rfl ?_
        refine at_aload dx_60_32 rfl ?_
        refine at_getR dx_60_33 hc rfl (cl_t3 hc) ?_
        refine at_iload dx_60_34 rfl ?_
        refine at_aldS dx_60_35 (cl_c1 hc) (cl_n1 hc) (by first | omega | (simp (disch := omega) only [um_eq, um_k, um_j]; omega)) (by first | omega | (simp (disch := omega) only [um_eq, um_k, um_j]; omega)) (pd_t hc h0.1 (by omega)) ?_
        have sK : sv M1 (c + 8 + 8 * i.toNat) = sv M (c + 8 + 8 * i.toNat) := sv_fr F1 (by (try dsimp only [blk, sq, cq, lo, wq, pq, sE]); first | done | omega) (by (try dsimp only [blk, sq, cq, lo, wq, pq, sE]); first | done | omega) (by (try dsimp only [blk, sq, cq, lo, wq, pq, sE]); first | done | omega) (by (try dsimp only [blk, sq, cq, lo, wq, pq, sE]); first | done | omega) (by (try dsimp only [blk, sq, cq, lo, wq, pq, sE]); first | done | omega) (by (try dsimp only [blk, sq, cq, lo, wq, pq, sE]); first | done | omega)
        obtain ⟨n1, n2⟩ := nx (by omega)
        refine at_callVV dx_60_36 rfl lc_0 rfl (c_confirm (pd_c hc h0.1 (by omega)) (by omega) T1 (by omega) (by rw [sK]; exact n1)) ?_
        rintro M36 ⟨f36, T36, e36, g36, s36, t36⟩
        refine at_iincR (y := 1) dx_60_37 rfl rfl (by constructor <;> omega) (fun r37 => ?_)
        refine at_goto dx_60_38 ?_
        have k3 : M36 0 3 = M 0 3 + (i + 1) := by rw [e36, e3]; omega
        refine ih _ (by omega) c (i + 1) M36 rz hc r37 hv hs (by omega) rfl (fr_tr F1 (fr_le f36 (fun q h => by (try dsimp only [blk] at h ⊢); omega))) T36 k3 (fun j hj => (g36 j hj).trans (e7 j hj)) hcx h03 ?_ ?_
        · rw [show M 0 3 + (i + 1) = (M 0 3 + i) + 1 by omega, lgV_succ (by omega), lgV_cg f36 (by omega) (fun q hP => by (try dsimp only [blk] at hP); omega), ← e3, s36, t36, sK]
          refine (Run_app _ _ _ _).mpr ⟨_, ?_, n1, rfl⟩
          rw [e3]; exact wl
        · rw [t36, sK]; exact n2
  refine at_aload dx_60_0 rfl ?_
  refine at_iload dx_60_1 rfl ?_
  refine at_callVRT dx_60_2 rfl lc_0 rfl (x_clientOf rx) ?_ ?_
  rotate_left
  · rintro e M9 ⟨he, e9, hno⟩; replace e9 := e9.symm; subst e9; exact Or.inr ⟨e, rfl, rfl, (by simp only [List.mem_cons, List.not_mem_nil, or_false]; omega), SC_no hno hC fr_rf⟩
  rintro c M9 ⟨e9, h0, h3, hcx, hc⟩; replace e9 := e9.symm; subst e9
  have h8 := cl_al hc
  refine at_astore dx_60_3 ?_
  refine at_aload dx_60_4 rfl ?_
  refine at_getI 0 dx_60_5 hc rfl rfl (fun r5 => ?_)
  refine at_aload dx_60_6 rfl ?_
  refine at_getI 3 dx_60_7 lc_0 rfl rfl (fun r7 => ?_)
  refine at_ceqR dx_60_8 r5 r7 (fun c8 => ?_) (fun c8 => ?_)
  · skip
    refine at_aload dx_60_10 rfl ?_
    refine at_getI 3 dx_60_11 lc_0 rfl rfl (fun r11 => ?_)
    refine at_aload dx_60_12 rfl ?_
    refine at_getI 2 dx_60_13 hc rfl rfl (fun r13 => ?_)
    refine at_addR dx_60_14 (by have := (hC.2.2.2.2.2 c hc); have := hC.2.2.1; constructor <;> omega) (fun r14 => ?_)
    refine at_const (x := 60) dx_60_15 rfl ?_
    refine at_cleR dx_60_16 r14 (by decide) (fun c16 => ?_) (fun c16 => ?_)
    · skip
      refine at_aload dx_60_18 rfl ?_
      refine at_getI 2 dx_60_19 hc rfl rfl (fun r19 => ?_)
      refine at_istore dx_60_20 ?_
      refine at_const (x := 0) dx_60_21 rfl ?_
      refine at_istore dx_60_22 ?_
      exact lp _ c 0 M (by assumption) hc (by decide) (by omega) (by omega) ⟨by decide, (hC.2.2.2.2.2 c hc).2.2.1⟩ rfl fr_rf hC.1 (by omega) (fun j _ => rfl) hcx ⟨h0, h3⟩ (by rw [Int.add_zero]; exact hC.2.2.2.2.1) rfl
    · skip
      refine at_thrTW dx_60_17 rfl ?_
      exact ⟨by decide, SC_0 hcx (by omega) hC fr_rf⟩
  · skip
    refine at_thrTW dx_60_9 rfl ?_
    exact ⟨by decide, SC_0 hcx (by omega) hC fr_rf⟩

abbrev snE (M : mem) (c : Int) (q : Nat) (j : Int) : Prop := (fun q j => (q = 856 ∧ (j = 13 ∨ j = 28 ∨ j = 31)) ∨ ((861 ≤ q ∧ q ≤ 864) ∧ M 856 13 ≤ j ∧ j < 60) ∨ ((865 ≤ q ∧ q ≤ 867) ∧ 2 * M 856 13 ≤ j ∧ j < 120) ∨ q = 868 ∨ (q = 869 ∧ 60 * M 856 13 ≤ j ∧ j < 3600) ∨ q = 875 ∨ q = 876) q j ∨ (q = 877 ∨ (q = 856 ∧ j = 23) ∨ (q = 860 ∧ j = 3) ∨ (q = 859 ∧ 180 ≤ j ∧ j < 240) ∨ ((q = 870 ∨ q = 871) ∧ j = c))
/-- what sending comes to, of the reference -/
noncomputable def SM (c : Int) (M M' : mem) : Prop := (((0 ≤ c ∧ c ≤ 2) ∧ M 870 c = M 856 13 ∧ M 856 13 + M 871 c ≤ 60) ∧ MI M' ∧ frE (snE M c) M M' ∧ M' 856 13 = M 856 13 + M 871 c ∧ M' 871 c = 0 ∧ M' 870 c = M 856 13 + M 871 c) ∨ (¬ ((0 ≤ c ∧ c ≤ 2) ∧ M 870 c = M 856 13 ∧ M 856 13 + M 871 c ≤ 60) ∧ MI M' ∧ frE wE M M')
set_option maxRecDepth 100000 in
set_option maxHeartbeats 4000000 in
theorem y_send {X : scr} {M : mem} {c : Int} (rc : inR c) (hM : MI M) : At X 0 148 0 [vr 856, vi c] [] M (qI (fun _ M' => SM c M M')) := by
  have F : frE wE M M := fe_rf
  have hS := fun h1 h2 => hM.1 c h1 h2
  have lp : ∀ (n9 : Nat) (k z : Int) (d : List Int) (M1 : mem) (rp9 : inR (M 871 c)) (rz : inR z) (rk : inR k) (hc : 0 ≤ c ∧ c ≤ 2) (hver : M 870 c = M 856 13) (h60 : M 856 13 + M 871 c ≤ 60) (hk : 0 ≤ k ∧ k ≤ M 871 c) (hn : (M 871 c - k).toNat = n9) (F1 : frE (fun q j => (q = 856 ∧ (j = 13 ∨ j = 28 ∨ j = 31)) ∨ ((861 ≤ q ∧ q ≤ 864) ∧ M 856 13 ≤ j ∧ j < 60) ∨ ((865 ≤ q ∧ q ≤ 867) ∧ 2 * M 856 13 ≤ j ∧ j < 120) ∨ q = 868 ∨ (q = 869 ∧ 60 * M 856 13 ≤ j ∧ j < 3600) ∨ q = 875 ∨ q = 876) M M1) (e13 : M1 856 13 = M 856 13 + k) (wl : RunW (lgW M1 (M 856 13 + k)) [1, 0] d) (wp : RunW (pdW M c k) (dc M 3) d), At X 0 148 38 [vr 856, vi c, vi z, vi ((M 871 c)), vi k] [] M1 (qI (fun _ M' => SM c M M')) := by
    intro n9
    induction n9 using Nat.strongRecOn with
    | ind n9 ih =>
    intro k z d M1 rp9 rz rk hc hver h60 hk hn F1 e13 wl wp
    obtain ⟨a1, a2, a3, a4, a5⟩ := id hM
    have hmc := a5 c hc.1 hc.2
    unfold MC at hmc
    obtain ⟨b1, b2, b3, b, b4, b5⟩ := hmc
    have hb : b = dc M 3 := by rw [hver] at b4; exact RunW_det _ _ _ _ b4 a4
    subst hb
    have nx := fun (h : k < M 871 c) => RunW_next (f := fun i : Int => mv M (60 + 10 * c + i)) hk.1 h b5 wp
    have ep : k < 10 → mv M1 (60 + 10 * c + k) = mv M (60 + 10 * c + k) := fun h => mv_fe F1 (fun q j e h8 hq => by (try dsimp only [stE] at e hq); omega)
    have h3 := a1 3 (by decide) (by decide)
    refine at_iload dx_148_38 rfl ?_
    refine at_iload dx_148_39 rfl ?_
    refine at_cgeR dx_148_40 rk rp9 (fun c40 => ?_) (fun c40 => ?_)
    · skip
      refine at_aload dx_148_60 rfl ?_
      refine at_iload dx_148_61 rfl ?_
      refine at_callVV dx_148_62 rfl lc_856 rfl (m_looksAt rc (by omega) (by rw [F1 860 c (by (try dsimp only [stE]); first | done | omega)]; exact a1 c hc.1 (by omega))) ?_
      rintro M62 ⟨F62, l62, w62⟩
      refine at_aload dx_148_63 rfl ?_
      refine at_const (x := 3) dx_148_64 rfl ?_
      refine at_callVV dx_148_65 rfl lc_856 rfl (m_keeps (d := 3) (by decide) (by decide) (by rw [l62, F1 860 c (by (try dsimp only [stE]); first | done | omega)]; exact a1 c hc.1 (by omega))) ?_
      rintro M65 ⟨F65, l65, w65⟩
      refine at_aload dx_148_66 rfl ?_
      refine at_getR dx_148_67 lc_856 rfl lt_856_14 ?_
      refine at_iload dx_148_68 rfl ?_
      refine at_aload dx_148_69 rfl ?_
      refine at_getI 13 dx_148_70 lc_856 rfl rfl (fun r70 => ?_)
      refine at_astI dx_148_71 lc_870 ln_870 (by first | omega | (simp (disch := omega) only [um_eq, um_k, um_j]; omega)) (by first | omega | (simp (disch := omega) only [um_eq, um_k, um_j]; omega)) r70 ?_
      refine at_aload dx_148_72 rfl ?_
      refine at_getR dx_148_73 lc_856 rfl lt_856_15 ?_
      refine at_iload dx_148_74 rfl ?_
      refine at_const (x := 0) dx_148_75 rfl ?_
      refine at_astI dx_148_76 lc_871 ln_871 (by first | omega | (simp (disch := omega) only [um_eq, um_k, um_j]; omega)) (by first | omega | (simp (disch := omega) only [um_eq, um_k, um_j]; omega)) (by decide) ?_
      refine at_iload dx_148_77 rfl ?_
      refine at_iretI dx_148_78 rp9 ?_
      have hkp : k = M 871 c := by omega
      subst hkp
      have hd := RunW_det _ _ _ _ wp b5
      subst hd
      have dM1 : dc M1 c = dc M c := dc_cg (F1 860 c (by (try dsimp only [stE]); first | done | omega)) (fun j _ => F1 859 _ (by (try dsimp only [stE]); first | done | omega))
      have hF : ∀ MF : mem, MF = um (um M65 870 c (M65 856 13)) 871 c 0 → SM c M MF := fun MF hMF => by
        have G65 : frE (fun q j => (q = 870 ∨ q = 871) ∧ j = c) M65 MF := by rw [hMF]; exact fe_ums (fe_um ⟨Or.inl rfl, rfl⟩) ⟨Or.inr rfl, rfl⟩
        have G1 : frE (fun q j => q = 877 ∨ (q = 856 ∧ j = 23) ∨ (q = 860 ∧ j = 3) ∨ (q = 859 ∧ 180 ≤ j ∧ j < 240) ∨ ((q = 870 ∨ q = 871) ∧ j = c)) M1 MF := fe_tr (fe_tr (fe_le F62 (fun q j h => by (try dsimp only at h ⊢); first | done | omega)) (fe_le F65 (fun q j h => by (try dsimp only at h ⊢); first | done | omega))) (fe_le G65 (fun q j h => by (try dsimp only at h ⊢); first | done | omega))
        have e65 : M65 856 13 = M 856 13 + M 871 c := by rw [F65 856 13 (by (try dsimp only [stE]); first | done | omega), F62 856 13 (by (try dsimp only [stE]); first | done | omega), e13]
        have f13 : MF 856 13 = M 856 13 + M 871 c := by rw [G65 856 13 (by (try dsimp only [stE]); first | done | omega), e65]
        have f870 : MF 870 c = M 856 13 + M 871 c := by rw [hMF, um_k (by decide), um_eq, e65]
        have f871 : MF 871 c = 0 := by rw [hMF, um_eq]
        have s3 : MF 860 3 = M 860 c := by rw [G65 860 3 (by (try dsimp only [stE]); first | done | omega), l65, l62, F1 860 c (by (try dsimp only [stE]); first | done | omega)]
        have d3 : dc MF 3 = dc M c := by
          rw [← dM1, ← w62, ← w65]
          exact dc_cg (G65 860 3 (by (try dsimp only [stE]); first | done | omega)) (fun j _ => G65 859 _ (by (try dsimp only [stE]); first | done | omega))
        have lg1 : ∀ n : Int, n ≤ 60 → lgW MF n = lgW M1 n := fun n hn => lgW_fe G1 (fun q j e => by (try dsimp only at e); omega)
        have lgM : ∀ n : Int, n ≤ M 856 13 → lgW MF n = lgW M n := fun n hn => by
          rw [lg1 n (by omega)]
          exact lgW_fe F1 (fun q j e => by (try dsimp only at e); omega)
        have gd : ∀ d : Int, 0 ≤ d → d ≤ 2 → MF 860 d = M 860 d ∧ dc MF d = dc M d := fun d h0 h2 => by
          have e1 : MF 860 d = M 860 d := by rw [G1 860 d (by (try dsimp only [stE]); first | done | omega), F1 860 d (by (try dsimp only [stE]); first | done | omega)]
          refine ⟨e1, dc_cg e1 (fun j hj => ?_)⟩
          have := a1 d h0 (by omega)
          rw [G1 859 _ (by (try dsimp only [stE]); first | done | omega), F1 859 _ (by (try dsimp only [stE]); first | done | omega)]
        refine Or.inl ⟨⟨hc, hver, h60⟩, ⟨fun d h0 h3 => ?_, by rw [f13]; omega, by rw [G1 856 19 (by (try dsimp only [stE]); first | done | omega), F1 856 19 (by (try dsimp only [stE]); first | done | omega)]; exact a3, ?_, fun c' h0 h2 => ?_⟩, fe_tr (fe_le F1 (fun q j h => Or.inl h)) (fe_le G1 (fun q j h => Or.inr h)), f13, f871, f870⟩
        · by_cases e : d = 3
          · subst e; rw [s3]; exact a1 c hc.1 (by omega)
          · rw [(gd d h0 (by omega)).1]; exact a1 d h0 h3
        · rw [f13, lg1 _ (by omega), d3]; exact wl
        · by_cases e : c' = c
          · subst e
            unfold MC
            rw [f870, f871, f13, G1 874 c' (by (try dsimp only [stE]); first | done | omega), F1 874 c' (by (try dsimp only [stE]); first | done | omega), (gd c' h0 h2).2, lg1 _ (by omega)]
            exact ⟨by omega, by omega, b3, _, wl, rfl⟩
          · obtain ⟨z1, z2, z3, z, z4, z5⟩ := a5 c' h0 h2
            unfold MC
            rw [G1 870 c' (by (try dsimp only [stE]); first | done | omega), F1 870 c' (by (try dsimp only [stE]); first | done | omega), G1 871 c' (by (try dsimp only [stE]); first | done | omega), F1 871 c' (by (try dsimp only [stE]); first | done | omega), G1 874 c' (by (try dsimp only [stE]); first | done | omega), F1 874 c' (by (try dsimp only [stE]); first | done | omega), f13, lgM _ (by omega), (gd c' h0 h2).2, pdW_fe G1 (fun q j e => by (try dsimp only at e); omega), pdW_fe F1 (fun q j e => by (try dsimp only at e); omega)]
            exact ⟨by omega, z2, z3, z, z4, z5⟩
      exact hF _ rfl
    · skip
      refine at_aload dx_148_41 rfl ?_
      refine at_iload dx_148_42 rfl ?_
      refine at_iload dx_148_43 rfl ?_
      refine at_callSI dx_148_44 rfl rfl (m_place rc rk (by omega) (by omega)) ?_
      rintro x44 M9 r44 ⟨e9, h44⟩; replace e9 := e9.symm; subst e9; subst h44
      refine at_aload dx_148_45 rfl ?_
      refine at_getI 13 dx_148_46 lc_856 rfl rfl (fun r46 => ?_)
      refine at_callVV dx_148_47 rfl lc_856 rfl (m_copies r44 r46 (by omega) (by omega) (by omega)) ?_
      rintro M47 ⟨f47, v47, -⟩
      refine at_aload dx_148_48 rfl ?_
      refine at_aload dx_148_49 rfl ?_
      refine at_getI 13 dx_148_50 lc_856 rfl rfl (fun r50 => ?_)
      refine at_callVV dx_148_51 rfl lc_856 rfl (m_mapsComments (n := (d.length : Int)) r50 (by rw [f47 856 13 (by (try dsimp only [stE]); first | done | omega)]; omega) (by rw [f47 856 13 (by (try dsimp only [stE]); first | done | omega), v47, ep (by omega)]; exact (nx (by omega)).1) (RunW_60 _ _ _ (by rw [dc_len]; omega) wp) (by rw [f47 856 19 (by (try dsimp only [stE]); first | done | omega), F1 856 19 (by (try dsimp only [stE]); first | done | omega)]; exact hM.2.2.1)) ?_
      rintro M51 f51
      refine at_aload dx_148_52 rfl ?_
      refine at_dup dx_148_53 rfl ?_
      refine at_getI 13 dx_148_54 lc_856 rfl rfl (fun r54 => ?_)
      refine at_const (x := 1) dx_148_55 rfl ?_
      have e51a : M51 856 13 = M 856 13 + k := by rw [f51 856 13 (by decide), f47 856 13 (by (try dsimp only [stE]); first | done | omega), e13]
      refine at_addR dx_148_56 (by (first | (constructor <;> omega) | (have := hM.2.2.2.2 c (by omega) (by omega); unfold MC at this; have := hM.2.1; constructor <;> omega))) (fun r56 => ?_)
      refine at_putI 13 dx_148_57 lc_856 rfl rfl r56 ?_
      refine at_iincR (y := 1) dx_148_58 rfl rfl (by (first | (constructor <;> omega) | (have := hM.2.2.2.2 c (by omega) (by omega); unfold MC at this; have := hM.2.1; constructor <;> omega))) (fun r58 => ?_)
      refine at_goto dx_148_59 ?_
      obtain ⟨n1, n2, n3⟩ := nx (by omega)
      have Fu : frE (fun q j => q = 856 ∧ j = 13) M51 (um M51 856 13 (M51 856 13 + 1)) := fe_um ⟨rfl, rfl⟩
      have e51 : M51 856 13 = M 856 13 + k := by rw [f51 856 13 (by decide), f47 856 13 (by (try dsimp only [stE]); first | done | omega), e13]
      have vN : mv (um M51 856 13 (M51 856 13 + 1)) (M 856 13 + k) = mv M (60 + 10 * c + k) := by
        rw [mv_fe Fu (fun q j e h8 hq => by (try dsimp only [stE] at e hq); omega), mv_fe f51 (fun q j e h8 hq => by (try dsimp only [stE] at e hq); omega), ← e13, v47, ep (by omega)]
      refine ih _ (by omega) (k + 1) _ (apW (mv M (60 + 10 * c + k)) d) _ rp9 rz r58 hc hver h60 (by omega) rfl (fe_tr (fe_tr (fe_tr F1 (fe_le f47 (fun q j h => ?_))) (fe_le f51 (fun q j h => ?_))) (fe_le Fu (fun q j h => Or.inl ⟨h.1, Or.inl h.2⟩))) (by rw [um_eq, e51]; omega) ?_ n3
      · rw [e13] at h
        rcases h with ⟨h1, h2⟩ | ⟨h1, h2⟩ | ⟨h1, h2, h3⟩
        · exact Or.inr (Or.inl ⟨h1, by omega, by omega⟩)
        · exact Or.inr (Or.inr (Or.inl ⟨h1, by omega, by omega⟩))
        · rcases (show q = 868 ∨ q = 869 by omega) with h9 | h9
          · exact Or.inr (Or.inr (Or.inr (Or.inl h9)))
          · exact Or.inr (Or.inr (Or.inr (Or.inr (Or.inl ⟨h9, by omega, by omega⟩))))
      · rcases h with ⟨h1, h2⟩ | h | h
        · exact Or.inl ⟨h1, Or.inr (Or.inl h2)⟩
        · exact Or.inr (Or.inr (Or.inr (Or.inr (Or.inr (Or.inl h)))))
        · exact Or.inr (Or.inr (Or.inr (Or.inr (Or.inr (Or.inr h)))))
      · rw [show M 856 13 + (k + 1) = (M 856 13 + k) + 1 by omega, lgW_succ (by omega), vN, lgW_fe Fu (fun q j e => by (try dsimp only at e); omega), lgW_fe f51 (fun q j e => by (try dsimp only at e); omega), lgW_fe f47 (fun q j e => by rw [e13] at e; (try dsimp only [stE] at e); omega)]
        exact (RunW_app _ _ _ _).mpr ⟨_, wl, n1, n2, rfl⟩
  refine at_iload dx_148_0 rfl ?_
  refine at_callSI dx_148_1 rfl rfl (m_isClient rc) ?_
  rintro x1 M9 r1 ⟨e9, h1⟩; replace e9 := e9.symm; subst e9; replace h1 := ite01 h1
  refine at_istore dx_148_2 ?_
  refine at_aload dx_148_3 rfl ?_
  refine at_iload dx_148_4 rfl ?_
  refine at_zneR dx_148_5 r1 (fun c5 => ?_) (fun c5 => ?_)
  · skip
    refine at_aload dx_148_8 rfl ?_
    refine at_getR dx_148_9 lc_856 rfl lt_856_14 ?_
    refine at_iload dx_148_10 rfl ?_
    refine at_aldI dx_148_11 lc_870 ln_870 (by first | omega | (simp (disch := omega) only [um_eq, um_k, um_j]; omega)) (by first | omega | (simp (disch := omega) only [um_eq, um_k, um_j]; omega)) (fun r11 => ?_)
    refine at_aload dx_148_12 rfl ?_
    refine at_getI 13 dx_148_13 lc_856 rfl rfl (fun r13 => ?_)
    refine at_cneR dx_148_14 r11 r13 (fun c14 => ?_) (fun c14 => ?_)
    · skip
      refine at_const (x := 2) dx_148_24 rfl ?_
      refine at_goto dx_148_25 ?_
      refine at_callVI dx_148_27 rfl lc_856 rfl (m_fails2 (by decide)) ?_
      rintro x27 M27 r27 ⟨f27, h27⟩; replace h27 := ite01 h27
      replace F : frE wE M _ := fe_tr F (fe_le f27 (fun q j h => by obtain ⟨rfl, rfl⟩ := h; exact wE_31))
      obtain rfl : x27 = 1 := by omega
      have g871 : M27 871 c = M 871 c := f27 871 c (by (try dsimp only); omega)
      refine at_zeqR dx_148_28 (by decide) (fun c => absurd c (by decide)) (fun _ => ?_)
      refine at_const (x := 0) dx_148_29 rfl ?_
      refine at_iretI dx_148_30 (by decide) ?_
      exact Or.inr ⟨by omega, MI_wE hM F, F⟩
    · skip
      refine at_aload dx_148_15 rfl ?_
      refine at_getI 13 dx_148_16 lc_856 rfl rfl (fun r16 => ?_)
      refine at_aload dx_148_17 rfl ?_
      refine at_getR dx_148_18 lc_856 rfl lt_856_15 ?_
      refine at_iload dx_148_19 rfl ?_
      refine at_aldI dx_148_20 lc_871 ln_871 (by first | omega | (simp (disch := omega) only [um_eq, um_k, um_j]; omega)) (by first | omega | (simp (disch := omega) only [um_eq, um_k, um_j]; omega)) (fun r20 => ?_)
      refine at_addR dx_148_21 (by (first | (constructor <;> omega) | (have := hM.2.2.2.2 c (by omega) (by omega); unfold MC at this; have := hM.2.1; constructor <;> omega))) (fun r21 => ?_)
      refine at_const (x := 60) dx_148_22 rfl ?_
      refine at_cleR dx_148_23 r21 (by decide) (fun c23 => ?_) (fun c23 => ?_)
      · skip
        refine at_const (x := 0) dx_148_26 rfl ?_
        refine at_callVI dx_148_27 rfl lc_856 rfl (m_fails2 (by decide)) ?_
        rintro x27 M27 r27 ⟨f27, h27⟩; replace h27 := ite01 h27
        replace F : frE wE M _ := fe_tr F (fe_le f27 (fun q j h => by obtain ⟨rfl, rfl⟩ := h; exact wE_31))
        obtain rfl : x27 = 0 := by omega
        have g871 : M27 871 c = M 871 c := f27 871 c (by (try dsimp only); omega)
        refine at_zeqR dx_148_28 (by decide) (fun _ => ?_) (fun c => absurd c (by decide))
        refine at_aload dx_148_31 rfl ?_
        refine at_getR dx_148_32 lc_856 rfl lt_856_15 ?_
        refine at_iload dx_148_33 rfl ?_
        refine at_aldI dx_148_34 lc_871 ln_871 (by first | omega | (simp (disch := omega) only [um_eq, um_k, um_j]; omega)) (by first | omega | (simp (disch := omega) only [um_eq, um_k, um_j]; omega)) (fun r34 => ?_)
        rw [g871] at r34 ⊢
        refine at_istore dx_148_35 ?_
        refine at_const (x := 0) dx_148_36 rfl ?_
        refine at_istore dx_148_37 ?_
        exact lp _ 0 _ (dc M 3) _ (by assumption) r1 (by decide) (by omega) (by omega) (by omega) ⟨by decide, by have := (hM.2.2.2.2 c (by omega) (by omega)).2.1; omega⟩ rfl (fe_le f27 (fun q j h => Or.inl ⟨h.1, Or.inr (Or.inr h.2)⟩)) (by rw [f27 856 13 (by decide), Int.add_zero]) (by rw [Int.add_zero, lgW_fe f27 (fun q j e => by (try dsimp only at e); omega)]; exact hM.2.2.2.1) rfl
      · skip
        refine at_const (x := 2) dx_148_24 rfl ?_
        refine at_goto dx_148_25 ?_
        refine at_callVI dx_148_27 rfl lc_856 rfl (m_fails2 (by decide)) ?_
        rintro x27 M27 r27 ⟨f27, h27⟩; replace h27 := ite01 h27
        replace F : frE wE M _ := fe_tr F (fe_le f27 (fun q j h => by obtain ⟨rfl, rfl⟩ := h; exact wE_31))
        obtain rfl : x27 = 1 := by omega
        have g871 : M27 871 c = M 871 c := f27 871 c (by (try dsimp only); omega)
        refine at_zeqR dx_148_28 (by decide) (fun c => absurd c (by decide)) (fun _ => ?_)
        refine at_const (x := 0) dx_148_29 rfl ?_
        refine at_iretI dx_148_30 (by decide) ?_
        exact Or.inr ⟨by omega, MI_wE hM F, F⟩
  · skip
    refine at_const (x := 1) dx_148_6 rfl ?_
    refine at_goto dx_148_7 ?_
    refine at_callVI dx_148_27 rfl lc_856 rfl (m_fails2 (by decide)) ?_
    rintro x27 M27 r27 ⟨f27, h27⟩; replace h27 := ite01 h27
    replace F : frE wE M _ := fe_tr F (fe_le f27 (fun q j h => by obtain ⟨rfl, rfl⟩ := h; exact wE_31))
    obtain rfl : x27 = 1 := by omega
    have g871 : M27 871 c = M 871 c := f27 871 c (by (try dsimp only); omega)
    refine at_zeqR dx_148_28 (by decide) (fun c => absurd c (by decide)) (fun _ => ?_)
    refine at_const (x := 0) dx_148_29 rfl ?_
    refine at_iretI dx_148_30 (by decide) ?_
    exact Or.inr ⟨by omega, MI_wE hM F, F⟩
