/-! ===== sending ===== -/
set_option maxRecDepth 100000 in
set_option maxHeartbeats 4000000 in
theorem p_send {X : scr} {M : mem} {x : Int} (rx : inR x) (hC : CI M) : At X 0 60 0 [vr 0, vi x] [] M (qT (qI (fun x M' => CI M' ∧ fr lo M M')) (ER [0, 2] M)) := by
  have F : fr sq M M := fr_rf
  have T : TI M := hC.1
  have G : RI M := hC.2.1
  have lp : ∀ (n : Nat) (c : Nat) (i : Int) (M1 : mem) (rz : inR (M c 2)) (hc : ly_c c = 0) (ri : inR i) (hv : M c 0 = M 0 3) (hs : M 0 3 + M c 2 ≤ 60) (h0 : 0 ≤ i ∧ i ≤ M c 2) (hn : (M c 2 - i).toNat = n) (F1 : fr (fun q => q = 0 ∨ q = 6 ∨ q = 7 ∨ q = 10 ∨ q = 11 ∨ q = 20 ∨ q = 21 ∨ q = 30 ∨ (32 + 8 * (M 0 3).toNat ≤ q ∧ q < 512)) M M1) (T1 : TI M1) (e3 : M1 0 3 = M 0 3 + i) (e7 : ∀ j, j ≠ 3 → M1 0 j = M 0 j) (wl : Run (lgV M1 (M 0 3 + i)) [1, 0] (tk M1 6)) (wp : Run (pdV M c i) (tk M 6) (tk M1 6)), At X 0 60 23 [vr 0, vi x, vr c, vi ((M c 2)), vi i] [] M1 (qT (qI (fun x M' => CI M' ∧ fr lo M M')) (ER [0, 2] M)) := by
    intro n
    induction n using Nat.strongRecOn with
    | ind n ih =>
    intro c i M1 rz hc ri hv hs h0 hn F1 T1 e3 e7 wl wp
    have h8 := cl_al hc
    obtain ⟨b1, b2, b3, b4, b5, b6⟩ := hC
    obtain ⟨a1, a2, a3, a4, a5, a6⟩ := b6 c hc
    have hb : tk M (c + 2) = tk M 6 := by rw [hv] at a5; exact Run_det _ _ _ _ a5 b5
    rw [hb] at a6
    have nx := fun (h : i < M c 2) => Run_next (f := fun i : Nat => sv M (c + 8 + 8 * i)) h0.1 h a6 wp
    have ec : ∀ j, M1 c j = M c j := fun j => F1 c j (by (try dsimp only); omega)
    refine at_iload dx_60_23 rfl ?_
    refine at_iload dx_60_24 rfl ?_
    refine at_cgeR dx_60_25 ri rz (fun c25 => ?_) (fun c25 => ?_)
    · skip
      refine at_aload dx_60_39 rfl ?_
      refine at_const (x := 0) dx_60_40 rfl ?_
      refine at_putI 2 dx_60_41 hc rfl rfl (by decide) ?_
      refine at_aload dx_60_42 rfl ?_
      refine at_aload dx_60_43 rfl ?_
      refine at_getI 3 dx_60_44 lc_0 rfl rfl (fun r44 => ?_)
      refine at_putI 0 dx_60_45 hc rfl rfl r44 ?_
      refine at_mem (fun Mu hMu => ?_)
      have fu : fr (fun q => q = c) M1 Mu := by rw [hMu]; (repeat (first | exact fr_rf | refine fr_ums ?_ (by (try dsimp only [blk]); first | done | omega)))
      have Tu : TI Mu := by rw [hMu]; exact TI_um (TI_um T1 (by rw [hc]; decide)) (by rw [hc]; decide)
      have u2 : Mu c 2 = 0 := by rw [hMu, um_j (by decide), um_eq]
      have u0 : Mu c 0 = M 0 3 + i := by rw [hMu, um_eq, um_k (by omega), e3]
      refine at_aload dx_60_46 rfl ?_
      refine at_getR dx_60_47 hc rfl (cl_t4 hc) ?_
      refine at_aload dx_60_48 rfl ?_
      refine at_getR dx_60_49 lc_0 rfl lt_0_1 ?_
      refine at_callVV dx_60_50 rfl (cl_c2 hc) rfl (c_become (cl_c2 hc) lc_6 (by omega) (Tu _ lc_6)) ?_
      rintro M50 ⟨f50, i50, t50⟩
      refine at_iload dx_60_51 rfl ?_
      refine at_iretIT dx_60_52 rz ?_
      have hi : i = M c 2 := by omega
      subst hi
      have F50 : fr (fun q => q = 0 ∨ q = 6 ∨ q = 7 ∨ q = 10 ∨ q = 11 ∨ q = 20 ∨ q = 21 ∨ q = 30 ∨ (32 + 8 * (M 0 3).toNat ≤ q ∧ q < 512) ∨ q = c ∨ q = c + 2 ∨ q = c + 3) M M50 := fr_tr (fr_tr (fr_le F1 (fun q h => by (try dsimp only [blk, sq, cq, sd, lo] at h ⊢); first | done | omega)) (fr_le fu (fun q h => by (try dsimp only [blk, sq, cq, sd, lo] at h ⊢); first | done | omega))) (fr_le f50 (fun q h => by (try dsimp only [blk, sq, cq, sd, lo] at h ⊢); first | done | omega))
      have T50 : TI M50 := TI_fr Tu f50 (fun q hq hP => by
        rcases hP with h | h
        · subst h; exact i50
        · have := tk_e hq; omega)
      have d3 : M50 0 3 = M 0 3 + M c 2 := by rw [f50 0 3 (by (try dsimp only [blk, sq, cq, sd, lo]); first | done | omega), fu 0 3 (by (try dsimp only [blk, sq, cq, sd, lo]); first | done | omega), e3]
      have d7 : M50 0 7 = M 0 7 := by rw [f50 0 7 (by (try dsimp only [blk, sq, cq, sd, lo]); first | done | omega), fu 0 7 (by (try dsimp only [blk, sq, cq, sd, lo]); first | done | omega), e7 7 (by decide)]
      have t6 : tk M50 6 = tk M1 6 := by rw [tk_fr f50 (by (try dsimp only [blk, sq, cq, sd, lo]); first | done | omega) (by (try dsimp only [blk, sq, cq, sd, lo]); first | done | omega), tk_fr fu (by (try dsimp only [blk, sq, cq, sd, lo]); first | done | omega) (by (try dsimp only [blk, sq, cq, sd, lo]); first | done | omega)]
      have tb : tk M50 (c + 2) = tk M1 6 := by rw [t50, tk_fr fu (by (try dsimp only [blk, sq, cq, sd, lo]); first | done | omega) (by (try dsimp only [blk, sq, cq, sd, lo]); first | done | omega)]
      have td : tk M50 (c + 4) = tk M (c + 4) := tk_fr F50 (by (try dsimp only [blk, sq, cq, sd, lo]); first | done | omega) (by (try dsimp only [blk, sq, cq, sd, lo]); first | done | omega)
      have c2 : M50 c 2 = 0 := by rw [f50 c 2 (by (try dsimp only [blk, sq, cq, sd, lo]); first | done | omega), u2]
      have c0 : M50 c 0 = M 0 3 + M c 2 := by rw [f50 c 0 (by (try dsimp only [blk, sq, cq, sd, lo]); first | done | omega), u0]
      have lg : lgV M50 (M 0 3 + M c 2) = lgV M1 (M 0 3 + M c 2) := by
        rw [lgV_cg f50 (by omega) (fun q hP => by (try dsimp only at hP); omega), lgV_cg fu (by omega) (fun q hP => by (try dsimp only at hP); omega)]
      have hd := Run_det _ _ _ _ wp a6
      refine ⟨⟨T50, RI_fr F50 (by (try dsimp only [blk, sq, cq, sd, lo]); first | done | omega) b2, by rw [d3]; omega, by rw [d7]; exact b4, ?_, fun c' hc' => ?_⟩, fr_le F50 (fun q h => by (try dsimp only [blk, sq, cq, sd, lo] at h ⊢); first | done | omega)⟩
      · rw [d3, lg, t6]; exact wl
      · by_cases e : c' = c
        · subst e
          unfold CC
          rw [c0, c2, d3, lg, tb, td]
          exact ⟨by omega, by omega, by decide, by decide, wl, hd.symm⟩
        · have h9 := cl_al hc'
          obtain ⟨z1, z2, z3, z4, z5, z6⟩ := b6 c' hc'
          have ec' : ∀ j, M50 c' j = M c' j := fun j => F50 c' j (by (try dsimp only [blk, sq, cq, sd, lo]); first | done | omega)
          unfold CC
          rw [ec', ec', d3, tk_fr F50 (by (try dsimp only [blk, sq, cq, sd, lo]); first | done | omega) (by (try dsimp only [blk, sq, cq, sd, lo]); first | done | omega), tk_fr F50 (by (try dsimp only [blk, sq, cq, sd, lo]); first | done | omega) (by (try dsimp only [blk, sq, cq, sd, lo]); first | done | omega), lgV_cg F50 (by omega) (fun q hP => by (try dsimp only at hP); omega), pdV_cg F50 hc' (by omega) (fun q hP => by (try dsimp only at hP); omega)]
          exact ⟨z1, by omega, z3, z4, z5, z6⟩
    · skip
      refine at_iload dx_60_26 rfl ?_
      refine at_aload dx_60_27 rfl ?_
      refine at_getR dx_60_28 hc rfl (cl_t3 hc) ?_
      refine at_alen dx_60_29 (cl_c1 hc) rfl (cl_n1 hc) ?_
      refine at_cgeR dx_60_30 ri (by decide) (fun c30 => ?_) (fun c30 => ?_)
      · skip
        refine at_aload dx_60_39 rfl ?_
        refine at_const (x := 0) dx_60_40 rfl ?_
        refine at_putI 2 dx_60_41 hc rfl rfl (by decide) ?_
        refine at_aload dx_60_42 rfl ?_
        refine at_aload dx_60_43 rfl ?_
        refine at_getI 3 dx_60_44 lc_0 rfl rfl (fun r44 => ?_)
        refine at_putI 0 dx_60_45 hc rfl rfl r44 ?_
        refine at_mem (fun Mu hMu => ?_)
        have fu : fr (fun q => q = c) M1 Mu := by rw [hMu]; (repeat (first | exact fr_rf | refine fr_ums ?_ (by (try dsimp only [blk]); first | done | omega)))
        have Tu : TI Mu := by rw [hMu]; exact TI_um (TI_um T1 (by rw [hc]; decide)) (by rw [hc]; decide)
        have u2 : Mu c 2 = 0 := by rw [hMu, um_j (by decide), um_eq]
        have u0 : Mu c 0 = M 0 3 + i := by rw [hMu, um_eq, um_k (by omega), e3]
        refine at_aload dx_60_46 rfl ?_
        refine at_getR dx_60_47 hc rfl (cl_t4 hc) ?_
        refine at_aload dx_60_48 rfl ?_
        refine at_getR dx_60_49 lc_0 rfl lt_0_1 ?_
        refine at_callVV dx_60_50 rfl (cl_c2 hc) rfl (c_become (cl_c2 hc) lc_6 (by omega) (Tu _ lc_6)) ?_
        rintro M50 ⟨f50, i50, t50⟩
        refine at_iload dx_60_51 rfl ?_
        refine at_iretIT dx_60_52 rz ?_
        have hi : i = M c 2 := by omega
        subst hi
        have F50 : fr (fun q => q = 0 ∨ q = 6 ∨ q = 7 ∨ q = 10 ∨ q = 11 ∨ q = 20 ∨ q = 21 ∨ q = 30 ∨ (32 + 8 * (M 0 3).toNat ≤ q ∧ q < 512) ∨ q = c ∨ q = c + 2 ∨ q = c + 3) M M50 := fr_tr (fr_tr (fr_le F1 (fun q h => by (try dsimp only [blk, sq, cq, sd, lo] at h ⊢); first | done | omega)) (fr_le fu (fun q h => by (try dsimp only [blk, sq, cq, sd, lo] at h ⊢); first | done | omega))) (fr_le f50 (fun q h => by (try dsimp only [blk, sq, cq, sd, lo] at h ⊢); first | done | omega))
        have T50 : TI M50 := TI_fr Tu f50 (fun q hq hP => by
          rcases hP with h | h
          · subst h; exact i50
          · have := tk_e hq; omega)
        have d3 : M50 0 3 = M 0 3 + M c 2 := by rw [f50 0 3 (by (try dsimp only [blk, sq, cq, sd, lo]); first | done | omega), fu 0 3 (by (try dsimp only [blk, sq, cq, sd, lo]); first | done | omega), e3]
        have d7 : M50 0 7 = M 0 7 := by rw [f50 0 7 (by (try dsimp only [blk, sq, cq, sd, lo]); first | done | omega), fu 0 7 (by (try dsimp only [blk, sq, cq, sd, lo]); first | done | omega), e7 7 (by decide)]
        have t6 : tk M50 6 = tk M1 6 := by rw [tk_fr f50 (by (try dsimp only [blk, sq, cq, sd, lo]); first | done | omega) (by (try dsimp only [blk, sq, cq, sd, lo]); first | done | omega), tk_fr fu (by (try dsimp only [blk, sq, cq, sd, lo]); first | done | omega) (by (try dsimp only [blk, sq, cq, sd, lo]); first | done | omega)]
        have tb : tk M50 (c + 2) = tk M1 6 := by rw [t50, tk_fr fu (by (try dsimp only [blk, sq, cq, sd, lo]); first | done | omega) (by (try dsimp only [blk, sq, cq, sd, lo]); first | done | omega)]
        have td : tk M50 (c + 4) = tk M (c + 4) := tk_fr F50 (by (try dsimp only [blk, sq, cq, sd, lo]); first | done | omega) (by (try dsimp only [blk, sq, cq, sd, lo]); first | done | omega)
        have c2 : M50 c 2 = 0 := by rw [f50 c 2 (by (try dsimp only [blk, sq, cq, sd, lo]); first | done | omega), u2]
        have c0 : M50 c 0 = M 0 3 + M c 2 := by rw [f50 c 0 (by (try dsimp only [blk, sq, cq, sd, lo]); first | done | omega), u0]
        have lg : lgV M50 (M 0 3 + M c 2) = lgV M1 (M 0 3 + M c 2) := by
          rw [lgV_cg f50 (by omega) (fun q hP => by (try dsimp only at hP); omega), lgV_cg fu (by omega) (fun q hP => by (try dsimp only at hP); omega)]
        have hd := Run_det _ _ _ _ wp a6
        refine ⟨⟨T50, RI_fr F50 (by (try dsimp only [blk, sq, cq, sd, lo]); first | done | omega) b2, by rw [d3]; omega, by rw [d7]; exact b4, ?_, fun c' hc' => ?_⟩, fr_le F50 (fun q h => by (try dsimp only [blk, sq, cq, sd, lo] at h ⊢); first | done | omega)⟩
        · rw [d3, lg, t6]; exact wl
        · by_cases e : c' = c
          · subst e
            unfold CC
            rw [c0, c2, d3, lg, tb, td]
            exact ⟨by omega, by omega, by decide, by decide, wl, hd.symm⟩
          · have h9 := cl_al hc'
            obtain ⟨z1, z2, z3, z4, z5, z6⟩ := b6 c' hc'
            have ec' : ∀ j, M50 c' j = M c' j := fun j => F50 c' j (by (try dsimp only [blk, sq, cq, sd, lo]); first | done | omega)
            unfold CC
            rw [ec', ec', d3, tk_fr F50 (by (try dsimp only [blk, sq, cq, sd, lo]); first | done | omega) (by (try dsimp only [blk, sq, cq, sd, lo]); first | done | omega), tk_fr F50 (by (try dsimp only [blk, sq, cq, sd, lo]); first | done | omega) (by (try dsimp only [blk, sq, cq, sd, lo]); first | done | omega), lgV_cg F50 (by omega) (fun q hP => by (try dsimp only at hP); omega), pdV_cg F50 hc' (by omega) (fun q hP => by (try dsimp only at hP); omega)]
            exact ⟨z1, by omega, z3, z4, z5, z6⟩
      · skip
        refine at_aload dx_60_31 rfl ?_
        refine at_aload dx_60_32 rfl ?_
        refine at_getR dx_60_33 hc rfl (cl_t3 hc) ?_
        refine at_iload dx_60_34 rfl ?_
        refine at_aldS dx_60_35 (cl_c1 hc) (cl_n1 hc) (by first | omega | (simp (disch := omega) only [um_eq, um_k, um_j]; omega)) (by first | omega | (simp (disch := omega) only [um_eq, um_k, um_j]; omega)) (pd_t hc h0.1 (by omega)) ?_
        have sK : sv M1 (c + 8 + 8 * i.toNat) = sv M (c + 8 + 8 * i.toNat) := sv_fr F1 (by (try dsimp only [blk, sq, cq, sd, lo]); first | done | omega) (by (try dsimp only [blk, sq, cq, sd, lo]); first | done | omega) (by (try dsimp only [blk, sq, cq, sd, lo]); first | done | omega) (by (try dsimp only [blk, sq, cq, sd, lo]); first | done | omega) (by (try dsimp only [blk, sq, cq, sd, lo]); first | done | omega) (by (try dsimp only [blk, sq, cq, sd, lo]); first | done | omega)
        obtain ⟨n1, n2⟩ := nx (by omega)
        refine at_callVV dx_60_36 rfl lc_0 rfl (c_confirm (pd_c hc h0.1 (by omega)) (by omega) T1 (by omega) (by rw [sK]; exact n1)) ?_
        rintro M36 ⟨f36, T36, e36, g36, s36, t36⟩
        refine at_iincR (y := 1) dx_60_37 rfl rfl (by constructor <;> omega) (fun r37 => ?_)
        refine at_goto dx_60_38 ?_
        have k3 : M36 0 3 = M 0 3 + (i + 1) := by rw [e36, e3]; omega
        refine ih _ (by omega) c (i + 1) M36 rz hc r37 hv hs (by omega) rfl (fr_tr F1 (fr_le f36 (fun q h => by (try dsimp only [blk] at h ⊢); omega))) T36 k3 (fun j hj => (g36 j hj).trans (e7 j hj)) ?_ ?_
        · rw [show M 0 3 + (i + 1) = (M 0 3 + i) + 1 by omega, lgV_succ (by omega), lgV_cg f36 (by omega) (fun q hP => by (try dsimp only [blk] at hP); omega), ← e3, s36, t36, sK]
          refine (Run_app _ _ _ _).mpr ⟨_, ?_, n1, rfl⟩
          rw [e3]; exact wl
        · rw [t36, sK]; exact n2
  refine at_aload dx_60_0 rfl ?_
  refine at_iload dx_60_1 rfl ?_
  refine at_callVRT dx_60_2 rfl lc_0 rfl (c_clientOf rx) ?_ ?_
  rotate_left
  · rintro e M9 ⟨he, e9⟩; replace e9 := e9.symm; subst e9; exact Or.inr ⟨e, rfl, rfl, by simp only [List.mem_cons, List.not_mem_nil, or_false]; omega, hC, fr_rf⟩
  rintro c M9 ⟨e9, h0, h3, hcx, hc⟩; replace e9 := e9.symm; subst e9
  have h8 := cl_al hc
  refine at_astore dx_60_3 ?_
  refine at_aload dx_60_4 rfl ?_
  refine at_getI 0 dx_60_5 hc rfl rfl (fun r5 => ?_)
  refine at_aload dx_60_6 rfl ?_
  refine at_getI 3 dx_60_7 lc_0 rfl rfl (fun r7 => ?_)
  refine at_ceqR dx_60_8 r5 r7 (fun c8 => ?_) (fun c8 => ?_)
  · skip
    refine at_aload dx_60_10 rfl ?_
    refine at_getI 3 dx_60_11 lc_0 rfl rfl (fun r11 => ?_)
    refine at_aload dx_60_12 rfl ?_
    refine at_getI 2 dx_60_13 hc rfl rfl (fun r13 => ?_)
    refine at_addR dx_60_14 (by have := (hC.2.2.2.2.2 c hc); have := hC.2.2.1; constructor <;> omega) (fun r14 => ?_)
    refine at_const (x := 60) dx_60_15 rfl ?_
    refine at_cleR dx_60_16 r14 (by decide) (fun c16 => ?_) (fun c16 => ?_)
    · skip
      refine at_aload dx_60_18 rfl ?_
      refine at_getI 2 dx_60_19 hc rfl rfl (fun r19 => ?_)
      refine at_istore dx_60_20 ?_
      refine at_const (x := 0) dx_60_21 rfl ?_
      refine at_istore dx_60_22 ?_
      exact lp _ c 0 M (by assumption) hc (by decide) (by omega) (by omega) ⟨by decide, (hC.2.2.2.2.2 c hc).2.2.1⟩ rfl fr_rf hC.1 (by omega) (fun j _ => rfl) (by rw [Int.add_zero]; exact hC.2.2.2.2.1) rfl
    · skip
      refine at_thrTW dx_60_17 rfl ?_
      first | exact ⟨by decide, hC, fr_rf⟩ | exact ⟨by decide, CI_sq hC F T G, fr_le F (fun q h => by (try dsimp only [blk, sq, cq, sd, lo] at h ⊢); first | done | omega)⟩
  · skip
    refine at_thrTW dx_60_9 rfl ?_
    first | exact ⟨by decide, hC, fr_rf⟩ | exact ⟨by decide, CI_sq hC F T G, fr_le F (fun q h => by (try dsimp only [blk, sq, cq, sd, lo] at h ⊢); first | done | omega)⟩
