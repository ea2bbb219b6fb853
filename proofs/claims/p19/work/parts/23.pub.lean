/-! ===== the calls of the class: the rest ===== -/
theorem TI_add {M : mem} {k : Nat} {t : Int} (hT : TI M) (hk : ly_c k = 5) : TI (addM M k t) := TI_fr hT (addM_fr M k t) (fun q hq hP => by
  rcases hP with h | h
  · subst h; exact addM_I (hT _ hq)
  · have := tk_e hq; have := tk_e hk; omega)
theorem CI_07 {M : mem} {v : Int} (hC : CI M) (hv : 0 ≤ v ∧ v ≤ 10) : CI (um M 0 7 v) := by
  have hf : fr (fun q => q = 0) M (um M 0 7 v) := fr_um rfl
  have e3 : um M 0 7 v 0 3 = M 0 3 := um_j (by decide)
  obtain ⟨a1, a2, a3, a4, a5, a6⟩ := hC
  refine ⟨TI_um a1 (by rw [lc_0]; decide), RI_fr hf (by decide) a2, by rw [e3]; exact a3, by rw [um_eq]; exact hv, ?_, fun c hc => ?_⟩
  · rw [e3, tk_fr hf (by decide) (by decide), lgV_cg hf (by omega) (fun q hP => by (try dsimp only at hP); omega)]
    exact a5
  · have h8 := cl_al hc
    obtain ⟨b1, b2, b3, b4, b5, b6⟩ := a6 c hc
    have ec : ∀ j, um M 0 7 v c j = M c j := fun j => hf c j (by (try dsimp only); omega)
    unfold CC
    rw [e3, ec, ec, tk_fr hf (by (try dsimp only); omega) (by (try dsimp only); omega), tk_fr hf (by (try dsimp only); omega) (by (try dsimp only); omega), lgV_cg hf (by omega) (fun q hP => by (try dsimp only at hP); omega), pdV_cg hf hc (by omega) (fun q hP => by (try dsimp only at hP); omega)]
    exact ⟨b1, b2, b3, b4, b5, b6⟩
theorem Run_det (a : List sV) : ∀ l x y, Run a l x → Run a l y → x = y := by
  induction a with
  | nil =>
    intro l x y h1 h2
    have h1 : x = l := h1
    have h2 : y = l := h2
    rw [h1, h2]
  | cons v vs ih => intro l x y h1 h2; exact ih _ _ _ h1.2 h2.2
theorem range_app {i n : Int} (h0 : 0 ≤ i) (h1 : i ≤ n) (f : Nat → sV) : ∃ r, (List.range n.toNat).map f = (List.range i.toNat).map f ++ r :=
  ⟨((List.range (n.toNat - i.toNat)).map (fun j => i.toNat + j)).map f, by
    rw [← List.map_append]
    congr 1
    have h2 : n.toNat = i.toNat + (n.toNat - i.toNat) := by omega
    rw [← List.range_add, ← h2]⟩
/-- what a prefix comes to, and that the next step lies within it -/
theorem Run_next {f : Nat → sV} {i n : Int} {l d x : List Int} (h0 : 0 ≤ i) (h1 : i < n) (h : Run ((List.range n.toNat).map f) l x) (hd : Run ((List.range i.toNat).map f) l d) : okV (f i.toNat) d ∧ Run ((List.range (i + 1).toNat).map f) l (apV (f i.toNat) d) := by
  obtain ⟨r, hr⟩ := range_app (i := i + 1) (n := n) (by omega) (by omega) f
  rw [hr] at h
  obtain ⟨l', h2, -⟩ := (Run_app _ _ _ _).mp h
  have h3 : (List.range (i + 1).toNat).map f = (List.range i.toNat).map f ++ [f i.toNat] := by
    rw [show (i + 1).toNat = i.toNat + 1 by omega, List.range_succ, List.map_append]
    rfl
  rw [h3] at h2 ⊢
  obtain ⟨l2, h4, h5⟩ := (Run_app _ _ _ _).mp h2
  have h6 := Run_det _ _ _ _ h4 hd
  subst h6
  exact ⟨h5.1, (Run_app _ _ _ _).mpr ⟨_, hd, h5.1, rfl⟩⟩
theorem Run_end {f : Nat → sV} {i n : Int} {l x : List Int} (h0 : 0 ≤ i) (h1 : i ≤ n) (h : Run ((List.range n.toNat).map f) l x) : ∃ d, Run ((List.range i.toNat).map f) l d := by
  obtain ⟨r, hr⟩ := range_app (i := i) (n := n) h0 h1 f
  rw [hr] at h
  obtain ⟨l', h2, -⟩ := (Run_app _ _ _ _).mp h
  exact ⟨l', h2⟩
theorem c_addW {X : scr} {M : mem} {k : Nat} {t : Int} (hk : ly_c k = 5) (ht : inR t) (hT : TI M) : At X 0 38 0 [vr k, vi t] [] M (qV (fun M' => fr (fun q => q = k ∨ q = k + 1) M M' ∧ TI M' ∧ tk M' k = (tk M k ++ [t]).take 60)) := At.mono (c_add hk ht (hT k hk)) (fun t v M1 h => by
  obtain ⟨h0, h1, hM1⟩ := h
  subst hM1
  exact ⟨h0, h1, addM_fr _ _ _, TI_add hT hk, addM_tk (hT k hk)⟩)
theorem c_clearW {X : scr} {M : mem} {k : Nat} (hk : ly_c k = 5) (hT : TI M) : At X 0 36 0 [vr k] [] M (qV (fun M' => fr (fun q => q = k) M M' ∧ TI M' ∧ tk M' k = [])) := At.mono (c_clear hk) (fun t v M1 h => by
  obtain ⟨h0, h1, hM1⟩ := h
  subst hM1
  refine ⟨h0, h1, fr_um rfl, TI_fr (P := fun q => q = k) hT (fr_um rfl) (fun q hq hP => ?_), ?_⟩
  · replace hP : q = k := hP
    subst hP; unfold tkI; rw [um_eq]; omega
  · unfold tk; rw [um_eq]; rfl)

set_option maxRecDepth 100000 in
set_option maxHeartbeats 4000000 in
theorem p_rule {X : scr} {M : mem} {t e a b : Int} (rt : inR t) (re : inR e) (ra : inR a) (rb : inR b) (hC : CI M) : At X 0 47 0 [vr 0, vi t, vi e, vi a, vi b] [] M (qT (qV (fun M' => CI M' ∧ fr lo M M')) (ER [0, 1, 2] M)) := by
  have F : fr sq M M := fr_rf
  have T : TI M := hC.1
  have G : RI M := hC.2.1
  refine at_iload dx_47_0 rfl ?_
  refine at_zltR dx_47_1 rt (fun c1 => ?_) (fun c1 => ?_)
  · skip
    refine at_thrT dx_47_5 rfl ?_
    first | exact ⟨by decide, hC, fr_rf⟩ | exact ⟨by decide, CI_sq hC F T G, fr_le F (fun q h => by (try dsimp only [blk, sq, cq, sd, lo] at h ⊢); first | done | omega)⟩
  · skip
    refine at_iload dx_47_2 rfl ?_
    refine at_const (x := 6) dx_47_3 rfl ?_
    refine at_cltR dx_47_4 rt (by decide) (fun c4 => ?_) (fun c4 => ?_)
    · skip
      refine at_iload dx_47_6 rfl ?_
      refine at_zltR dx_47_7 re (fun c7 => ?_) (fun c7 => ?_)
      · skip
        refine at_thrT dx_47_11 rfl ?_
        first | exact ⟨by decide, hC, fr_rf⟩ | exact ⟨by decide, CI_sq hC F T G, fr_le F (fun q h => by (try dsimp only [blk, sq, cq, sd, lo] at h ⊢); first | done | omega)⟩
      · skip
        refine at_iload dx_47_8 rfl ?_
        refine at_const (x := 3) dx_47_9 rfl ?_
        refine at_cltR dx_47_10 re (by decide) (fun c10 => ?_) (fun c10 => ?_)
        · skip
          refine at_iload dx_47_12 rfl ?_
          refine at_zltR dx_47_13 ra (fun c13 => ?_) (fun c13 => ?_)
          · skip
            refine at_thrT dx_47_21 rfl ?_
            first | exact ⟨by decide, hC, fr_rf⟩ | exact ⟨by decide, CI_sq hC F T G, fr_le F (fun q h => by (try dsimp only [blk, sq, cq, sd, lo] at h ⊢); first | done | omega)⟩
          · skip
            refine at_iload dx_47_14 rfl ?_
            refine at_const (x := 126) dx_47_15 rfl ?_
            refine at_cgtR dx_47_16 ra (by decide) (fun c16 => ?_) (fun c16 => ?_)
            · skip
              refine at_thrT dx_47_21 rfl ?_
              first | exact ⟨by decide, hC, fr_rf⟩ | exact ⟨by decide, CI_sq hC F T G, fr_le F (fun q h => by (try dsimp only [blk, sq, cq, sd, lo] at h ⊢); first | done | omega)⟩
            · skip
              refine at_iload dx_47_17 rfl ?_
              refine at_const (x := 1) dx_47_18 rfl ?_
              refine at_and dx_47_19 ?_
              refine at_zeqR dx_47_20 (inR_and _ _) (fun c20 => ?_) (fun c20 => ?_)
              · skip
                refine at_iload dx_47_22 rfl ?_
                refine at_zltR dx_47_23 rb (fun c23 => ?_) (fun c23 => ?_)
                · skip
                  refine at_thrT dx_47_27 rfl ?_
                  first | exact ⟨by decide, hC, fr_rf⟩ | exact ⟨by decide, CI_sq hC F T G, fr_le F (fun q h => by (try dsimp only [blk, sq, cq, sd, lo] at h ⊢); first | done | omega)⟩
                · skip
                  refine at_iload dx_47_24 rfl ?_
                  refine at_const (x := 3) dx_47_25 rfl ?_
                  refine at_cleR dx_47_26 rb (by decide) (fun c26 => ?_) (fun c26 => ?_)
                  · skip
                    refine at_aload dx_47_28 rfl ?_
                    refine at_getI 3 dx_47_29 lc_0 rfl rfl (fun r29 => ?_)
                    refine at_zgtR dx_47_30 r29 (fun c30 => ?_) (fun c30 => ?_)
                    · skip
                      refine at_thrT dx_47_34 rfl ?_
                      first | exact ⟨by decide, hC, fr_rf⟩ | exact ⟨by decide, CI_sq hC F T G, fr_le F (fun q h => by (try dsimp only [blk, sq, cq, sd, lo] at h ⊢); first | done | omega)⟩
                    · skip
                      refine at_aload dx_47_31 rfl ?_
                      refine at_callVI dx_47_32 rfl lc_0 rfl (c_isAnyPending) ?_
                      rintro x32 M9 r32 ⟨e9, h32⟩; replace e9 := e9.symm; subst e9
                      refine at_zeqR dx_47_33 r32 (fun c33 => ?_) (fun c33 => ?_)
                      · skip
                        refine at_aload dx_47_35 rfl ?_
                        refine at_iload dx_47_36 rfl ?_
                        refine at_iload dx_47_37 rfl ?_
                        refine at_iload dx_47_38 rfl ?_
                        refine at_iload dx_47_39 rfl ?_
                        refine at_callVI dx_47_40 rfl lc_0 rfl (c_isFirstValidWith rt re ra rb hC) ?_
                        rintro x40 M40 r40 ⟨f40, C40, b40⟩
                        refine at_zneR dx_47_41 r40 (fun c41 => ?_) (fun c41 => ?_)
                        · skip
                          refine at_aload dx_47_43 rfl ?_
                          refine at_getR dx_47_44 lc_0 rfl lt_0_0 ?_
                          refine at_iload dx_47_45 rfl ?_
                          refine at_iload dx_47_46 rfl ?_
                          refine at_iload dx_47_47 rfl ?_
                          refine at_iload dx_47_48 rfl ?_
                          refine at_callVV dx_47_49 rfl lc_1 rfl (c_setElement rt re ra rb) ?_
                          intro M49 f49
                          refine at_vretVT dx_47_50 ?_
                          exact ⟨CI_sq C40 (fr_le f49 (fun q h => by (try dsimp only [blk, sq, cq, sd, lo] at h ⊢); first | done | omega)) (TI_no C40.1 f49 (fun q hq hP => by have := tk_e hq; omega)) (RI_fr f49 (by (try dsimp only [blk, sq, cq, sd, lo]); first | done | omega) C40.2.1), fr_tr (fr_le f40 (fun q h => by (try dsimp only [blk, sq, cq, sd, lo] at h ⊢); first | done | omega)) (fr_le f49 (fun q h => by (try dsimp only [blk, sq, cq, sd, lo] at h ⊢); first | done | omega))⟩
                        · skip
                          refine at_thrT dx_47_42 rfl ?_
                          exact ⟨by decide, C40, fr_le f40 (fun q h => by (try dsimp only [blk, sq, cq, sd, lo] at h ⊢); first | done | omega)⟩
                      · skip
                        refine at_thrT dx_47_34 rfl ?_
                        first | exact ⟨by decide, hC, fr_rf⟩ | exact ⟨by decide, CI_sq hC F T G, fr_le F (fun q h => by (try dsimp only [blk, sq, cq, sd, lo] at h ⊢); first | done | omega)⟩
                  · skip
                    refine at_thrT dx_47_27 rfl ?_
                    first | exact ⟨by decide, hC, fr_rf⟩ | exact ⟨by decide, CI_sq hC F T G, fr_le F (fun q h => by (try dsimp only [blk, sq, cq, sd, lo] at h ⊢); first | done | omega)⟩
              · skip
                refine at_thrT dx_47_21 rfl ?_
                first | exact ⟨by decide, hC, fr_rf⟩ | exact ⟨by decide, CI_sq hC F T G, fr_le F (fun q h => by (try dsimp only [blk, sq, cq, sd, lo] at h ⊢); first | done | omega)⟩
        · skip
          refine at_thrT dx_47_11 rfl ?_
          first | exact ⟨by decide, hC, fr_rf⟩ | exact ⟨by decide, CI_sq hC F T G, fr_le F (fun q h => by (try dsimp only [blk, sq, cq, sd, lo] at h ⊢); first | done | omega)⟩
    · skip
      refine at_thrT dx_47_5 rfl ?_
      first | exact ⟨by decide, hC, fr_rf⟩ | exact ⟨by decide, CI_sq hC F T G, fr_le F (fun q h => by (try dsimp only [blk, sq, cq, sd, lo] at h ⊢); first | done | omega)⟩

set_option maxRecDepth 100000 in
set_option maxHeartbeats 4000000 in
theorem p_comment {X : scr} {M : mem} {f t : Int} (rf : inR f) (rt : inR t) (hC : CI M) : At X 0 68 0 [vr 0, vi f, vi t] [] M (qT (qI (fun x M' => CI M' ∧ fr lo M M')) (ER [0, 1, 2] M)) := by
  have F : fr sq M M := fr_rf
  have T : TI M := hC.1
  have G : RI M := hC.2.1
  have hcc := hC.2.2.2.1
  refine at_aload dx_68_0 rfl ?_
  refine at_getR dx_68_1 lc_0 rfl lt_0_1 ?_
  refine at_iload dx_68_2 rfl ?_
  refine at_iload dx_68_3 rfl ?_
  refine at_callSVT dx_68_4 rfl rfl (c_checkStretch lc_6 rf rt) ?_ ?_
  rotate_left
  · rintro e M9 ⟨he, e9⟩; replace e9 := e9.symm; subst e9; exact Or.inr ⟨e, rfl, rfl, by simp only [List.mem_cons, List.not_mem_nil, or_false]; omega, hC, fr_rf⟩
  rintro M9 ⟨e9, p0, p1, p2⟩; replace e9 := e9.symm; subst e9
  refine at_aload dx_68_5 rfl ?_
  refine at_getI 7 dx_68_6 lc_0 rfl rfl (fun r6 => ?_)
  refine at_const (x := 10) dx_68_7 rfl ?_
  refine at_cltR dx_68_8 r6 (by decide) (fun c8 => ?_) (fun c8 => ?_)
  · skip
    refine at_aload dx_68_10 rfl ?_
    refine at_getI 7 dx_68_11 lc_0 rfl rfl (fun r11 => ?_)
    refine at_istore dx_68_12 ?_
    refine at_aload dx_68_13 rfl ?_
    refine at_getR dx_68_14 lc_0 rfl lt_0_5 ?_
    refine at_iload dx_68_15 rfl ?_
    refine at_iload dx_68_16 rfl ?_
    refine at_astI dx_68_17 lc_10 ln_10 (by omega) (by omega) rf ?_
    refine at_aload dx_68_18 rfl ?_
    refine at_getR dx_68_19 lc_0 rfl lt_0_6 ?_
    refine at_iload dx_68_20 rfl ?_
    refine at_iload dx_68_21 rfl ?_
    refine at_astI dx_68_22 lc_11 ln_11 (by omega) (by omega) rt ?_
    refine at_aload dx_68_23 rfl ?_
    refine at_dup dx_68_24 rfl ?_
    refine at_getI 7 dx_68_25 lc_0 rfl rfl (fun r25 => ?_)
    refine at_const (x := 1) dx_68_26 rfl ?_
    refine at_addR dx_68_27 (by (simp (disch := omega) only [um_eq, um_k, um_j]; constructor <;> omega)) (fun r27 => ?_)
    refine at_putI 7 dx_68_28 lc_0 rfl rfl r27 ?_
    refine at_iload dx_68_29 rfl ?_
    refine at_iretIT dx_68_30 r11 ?_
    have hs : ∀ a b : Int, CI (um (um M 10 (M 0 7) a) 11 (M 0 7) b) := fun a b => CI_sq hC (fr_ums (fr_um (by (try dsimp only [blk, sq, cq, sd, lo]); first | done | omega)) (by (try dsimp only [blk, sq, cq, sd, lo]); first | done | omega)) (TI_um (TI_um hC.1 (by rw [lc_10]; decide)) (by rw [lc_11]; decide)) (RI_fr (P := fun q => q = 10 ∨ q = 11) (fr_ums (fr_um (Or.inl rfl)) (Or.inr rfl)) (by decide) hC.2.1)
    refine ⟨CI_07 (hs _ _) ?_, fr_ums (fr_ums (fr_um (by (try dsimp only [blk, sq, cq, sd, lo]); first | done | omega)) (by (try dsimp only [blk, sq, cq, sd, lo]); first | done | omega)) (by (try dsimp only [blk, sq, cq, sd, lo]); first | done | omega)⟩
    simp (disch := omega) only [um_eq, um_k, um_j]; omega
  · skip
    refine at_thrTW dx_68_9 rfl ?_
    first | exact ⟨by decide, hC, fr_rf⟩ | exact ⟨by decide, CI_sq hC F T G, fr_le F (fun q h => by (try dsimp only [blk, sq, cq, sd, lo] at h ⊢); first | done | omega)⟩

set_option maxRecDepth 100000 in
set_option maxHeartbeats 4000000 in
theorem p_copy {X : scr} {M : mem} {x f t : Int} (rx : inR x) (rf : inR f) (rt : inR t) (hC : CI M) : At X 0 56 0 [vr 0, vi x, vi f, vi t] [] M (qT (qI (fun x M' => CI M' ∧ fr lo M M')) (ER [0, 1] M)) := by
  have F : fr sq M M := fr_rf
  have T : TI M := hC.1
  have G : RI M := hC.2.1
  have l3 : ∀ (n : Nat) (c : Nat) (d lv lw i : Int) (M1 : mem) (rd : inR d) (rlv : inR lv) (rlw : inR lw) (ri : inR i) (hn : (lv - i).toNat = n) (hc : ly_c c = 0) (F : fr sq M M1) (T : TI M1) (G : RI M1), At X 0 56 72 [vr 0, vi x, vi f, vi t, vr c, vi d, vi lv, vi lw, vi i] [] M1 (qT (qI (fun x M' => CI M' ∧ fr lo M M')) (ER [0, 1] M)) := by
    intro n
    induction n using Nat.strongRecOn with
    | ind n ih =>
    intro c d lv lw i M1 rd rlv rlw ri hn hc F T G
    have h8 := cl_al hc
    refine at_iload dx_56_72 rfl ?_
    refine at_iload dx_56_73 rfl ?_
    refine at_cgeR dx_56_74 ri rlv (fun c74 => ?_) (fun c74 => ?_)
    · skip
      refine at_aload dx_56_81 rfl ?_
      refine at_getR dx_56_82 hc rfl (cl_t6 hc) ?_
      refine at_getI 1 dx_56_83 (cl_c6 hc) rfl rfl (fun r83 => ?_)
      refine at_iretIT dx_56_84 r83 ?_
      first | exact ⟨k1, k2⟩ | exact ⟨hC, fr_rf⟩ | exact ⟨CI_sq hC F T G, fr_le F (fun q h => by (try dsimp only [blk, sq, cq, sd, lo] at h ⊢); first | done | omega)⟩
    · skip
      refine at_aload dx_56_75 rfl ?_
      refine at_getR dx_56_76 hc rfl (cl_t6 hc) ?_
      refine at_const (x := 0) dx_56_77 rfl ?_
      refine at_callVV dx_56_78 rfl (cl_c6 hc) rfl (c_addW (cl_c6 hc) (by decide) T) ?_
      rintro M78 ⟨f78, i78, -⟩
      replace T := i78
      replace F : fr sq M _ := fr_tr F (fr_le f78 (fun q h => by (try dsimp only [blk, sq, cq, sd, lo] at h ⊢); first | done | omega))
      replace G := RI_fr f78 (by (try dsimp only [blk, sq, cq, sd, lo]); first | done | omega) G
      refine at_iincR (y := 1) dx_56_79 rfl rfl (by constructor <;> omega) (fun r79 => ?_)
      refine at_goto dx_56_80 ?_
      exact ih _ (by omega) _ _ _ _ _ _ rd rlv rlw r79 rfl hc F T G
  have l2 : ∀ (n : Nat) (c : Nat) (d lv lw i : Int) (M1 : mem) (rd : inR d) (rlv : inR lv) (rlw : inR lw) (ri : inR i) (h0 : 0 ≤ i) (hn : (60 - i).toNat = n) (hc : ly_c c = 0) (F : fr sq M M1) (T : TI M1) (G : RI M1), At X 0 56 46 [vr 0, vi x, vi f, vi t, vr c, vi d, vi lv, vi lw, vi i] [] M1 (qT (qI (fun x M' => CI M' ∧ fr lo M M')) (ER [0, 1] M)) := by
    intro n
    induction n using Nat.strongRecOn with
    | ind n ih =>
    intro c d lv lw i M1 rd rlv rlw ri h0 hn hc F T G
    have h8 := cl_al hc
    refine at_iload dx_56_46 rfl ?_
    refine at_iload dx_56_47 rfl ?_
    refine at_cgeR dx_56_48 ri rd (fun c48 => ?_) (fun c48 => ?_)
    · skip
      refine at_aload dx_56_63 rfl ?_
      refine at_getR dx_56_64 hc rfl (cl_t6 hc) ?_
      refine at_aload dx_56_65 rfl ?_
      refine at_getR dx_56_66 hc rfl (cl_t5 hc) ?_
      refine at_iload dx_56_67 rfl ?_
      refine at_iload dx_56_68 rfl ?_
      refine at_callVV dx_56_69 rfl (cl_c6 hc) rfl (c_addSlice (cl_c6 hc) (cl_c4 hc) (by omega) rf rt (T _ (cl_c6 hc)) (T _ (cl_c4 hc))) ?_
      rintro M69 ⟨f69, i69, -⟩
      replace T : TI M69 := TI_fr T f69 (fun q hq hP => by
        rcases hP with h | h
        · subst h; exact i69
        · have := tk_e hq; omega)
      replace F : fr sq M _ := fr_tr F (fr_le f69 (fun q h => by (try dsimp only [blk, sq, cq, sd, lo] at h ⊢); first | done | omega))
      replace G := RI_fr f69 (by (try dsimp only [blk, sq, cq, sd, lo]); first | done | omega) G
      refine at_iload dx_56_70 rfl ?_
      refine at_istore dx_56_71 ?_
      exact l3 _ _ _ _ _ _ _ rd rlv rlw rlw rfl hc F T G
    · skip
      refine at_iload dx_56_49 rfl ?_
      refine at_aload dx_56_50 rfl ?_
      refine at_getR dx_56_51 lc_0 rfl lt_0_14 ?_
      refine at_alen dx_56_52 lc_31 rfl ln_31 ?_
      refine at_cgeR dx_56_53 ri (by decide) (fun c53 => ?_) (fun c53 => ?_)
      · skip
        refine at_aload dx_56_63 rfl ?_
        refine at_getR dx_56_64 hc rfl (cl_t6 hc) ?_
        refine at_aload dx_56_65 rfl ?_
        refine at_getR dx_56_66 hc rfl (cl_t5 hc) ?_
        refine at_iload dx_56_67 rfl ?_
        refine at_iload dx_56_68 rfl ?_
        refine at_callVV dx_56_69 rfl (cl_c6 hc) rfl (c_addSlice (cl_c6 hc) (cl_c4 hc) (by omega) rf rt (T _ (cl_c6 hc)) (T _ (cl_c4 hc))) ?_
        rintro M69 ⟨f69, i69, -⟩
        replace T : TI M69 := TI_fr T f69 (fun q hq hP => by
          rcases hP with h | h
          · subst h; exact i69
          · have := tk_e hq; omega)
        replace F : fr sq M _ := fr_tr F (fr_le f69 (fun q h => by (try dsimp only [blk, sq, cq, sd, lo] at h ⊢); first | done | omega))
        replace G := RI_fr f69 (by (try dsimp only [blk, sq, cq, sd, lo]); first | done | omega) G
        refine at_iload dx_56_70 rfl ?_
        refine at_istore dx_56_71 ?_
        exact l3 _ _ _ _ _ _ _ rd rlv rlw rlw rfl hc F T G
      · skip
        refine at_aload dx_56_54 rfl ?_
        refine at_getR dx_56_55 hc rfl (cl_t6 hc) ?_
        refine at_aload dx_56_56 rfl ?_
        refine at_getR dx_56_57 lc_0 rfl lt_0_14 ?_
        refine at_iload dx_56_58 rfl ?_
        refine at_aldI dx_56_59 lc_31 ln_31 (by first | omega | (simp (disch := omega) only [um_eq, um_k, um_j]; omega)) (by first | omega | (simp (disch := omega) only [um_eq, um_k, um_j]; omega)) (fun r59 => ?_)
        refine at_callVV dx_56_60 rfl (cl_c6 hc) rfl (c_addW (cl_c6 hc) r59 T) ?_
        rintro M60 ⟨f60, i60, -⟩
        replace T := i60
        replace F : fr sq M _ := fr_tr F (fr_le f60 (fun q h => by (try dsimp only [blk, sq, cq, sd, lo] at h ⊢); first | done | omega))
        replace G := RI_fr f60 (by (try dsimp only [blk, sq, cq, sd, lo]); first | done | omega) G
        refine at_iincR (y := 1) dx_56_61 rfl rfl (by constructor <;> omega) (fun r61 => ?_)
        refine at_goto dx_56_62 ?_
        exact ih _ (by omega) _ _ _ _ _ _ rd rlv rlw r61 (by omega) rfl hc F T G
  have l1 : ∀ (n : Nat) (c : Nat) (d lv lw i : Int) (M1 : mem) (rd : inR d) (rlv : inR lv) (rlw : inR lw) (ri : inR i) (hn : (t - i).toNat = n) (hc : ly_c c = 0) (F : fr sq M M1) (T : TI M1) (G : RI M1), At X 0 56 22 [vr 0, vi x, vi f, vi t, vr c, vi d, vi lv, vi lw, vi i] [] M1 (qT (qI (fun x M' => CI M' ∧ fr lo M M')) (ER [0, 1] M)) := by
    intro n
    induction n using Nat.strongRecOn with
    | ind n ih =>
    intro c d lv lw i M1 rd rlv rlw ri hn hc F T G
    have h8 := cl_al hc
    refine at_iload dx_56_22 rfl ?_
    refine at_iload dx_56_23 rfl ?_
    refine at_cgeR dx_56_24 ri rt (fun c24 => ?_) (fun c24 => ?_)
    · skip
      refine at_aload dx_56_39 rfl ?_
      refine at_getR dx_56_40 hc rfl (cl_t6 hc) ?_
      refine at_callVV dx_56_41 rfl (cl_c6 hc) rfl (c_clearW (cl_c6 hc) T) ?_
      rintro M41 ⟨f41, i41, -⟩
      replace T := i41
      replace F : fr sq M _ := fr_tr F (fr_le f41 (fun q h => by (try dsimp only [blk, sq, cq, sd, lo] at h ⊢); first | done | omega))
      replace G := RI_fr f41 (by (try dsimp only [blk, sq, cq, sd, lo]); first | done | omega) G
      refine at_iload dx_56_42 rfl ?_
      refine at_const (x := 0) dx_56_43 rfl ?_
      refine at_maxR dx_56_44 rfl rlw (by decide) (fun c44 => ?_) (fun c44 => ?_)
      · skip
        refine at_istore dx_56_45 ?_
        first | exact l2 _ _ _ _ _ _ _ rd rlv rlw (by assumption) (by omega) rfl hc F T G | exact l2 _ _ _ _ _ 0 _ rd rlv rlw (by decide) (by decide) rfl hc F T G
      · skip
        refine at_istore dx_56_45 ?_
        first | exact l2 _ _ _ _ _ _ _ rd rlv rlw (by assumption) (by omega) rfl hc F T G | exact l2 _ _ _ _ _ 0 _ rd rlv rlw (by decide) (by decide) rfl hc F T G
    · skip
      refine at_iload dx_56_25 rfl ?_
      refine at_aload dx_56_26 rfl ?_
      refine at_getR dx_56_27 hc rfl (cl_t5 hc) ?_
      refine at_iload dx_56_28 rfl ?_
      refine at_callVI dx_56_29 rfl (cl_c4 hc) rfl (c_at (cl_c4 hc) ri (T _ (cl_c4 hc))) ?_
      rintro x29 M9 r29 ⟨e9, h29⟩; replace e9 := e9.symm; subst e9
      refine at_callSI dx_56_30 rfl rfl (c_depthChange r29) ?_
      rintro x30 M9 r30 ⟨e9, h30⟩; replace e9 := e9.symm; subst e9
      refine at_addW dx_56_31 ?_
      refine at_istore dx_56_32 ?_
      refine at_iload dx_56_33 rfl ?_
      refine at_iload dx_56_34 rfl ?_
      refine at_minR dx_56_35 rfl rlw (inR_wr _) (fun c35 => ?_) (fun c35 => ?_)
      · skip
        refine at_istore dx_56_36 ?_
        refine at_iincR (y := 1) dx_56_37 rfl rfl (by constructor <;> omega) (fun r37 => ?_)
        refine at_goto dx_56_38 ?_
        exact ih _ (by omega) _ _ _ _ _ _ rd (inR_wr _) (by first | assumption | exact inR_wr _) r37 rfl hc F T G
      · skip
        refine at_istore dx_56_36 ?_
        refine at_iincR (y := 1) dx_56_37 rfl rfl (by constructor <;> omega) (fun r37 => ?_)
        refine at_goto dx_56_38 ?_
        exact ih _ (by omega) _ _ _ _ _ _ rd (inR_wr _) (by first | assumption | exact inR_wr _) r37 rfl hc F T G
  refine at_aload dx_56_0 rfl ?_
  refine at_iload dx_56_1 rfl ?_
  refine at_callVRT dx_56_2 rfl lc_0 rfl (c_clientOf rx) ?_ ?_
  rotate_left
  · rintro e M9 ⟨he, e9⟩; replace e9 := e9.symm; subst e9; exact Or.inr ⟨e, rfl, rfl, by simp only [List.mem_cons, List.not_mem_nil, or_false]; omega, hC, fr_rf⟩
  rintro c M9 ⟨e9, h0, h3, hcx, hc⟩; replace e9 := e9.symm; subst e9
  have h8 := cl_al hc
  refine at_astore dx_56_3 ?_
  refine at_aload dx_56_4 rfl ?_
  refine at_getR dx_56_5 hc rfl (cl_t5 hc) ?_
  refine at_iload dx_56_6 rfl ?_
  refine at_iload dx_56_7 rfl ?_
  refine at_callSVT dx_56_8 rfl rfl (c_checkStretch (cl_c4 hc) rf rt) ?_ ?_
  rotate_left
  · rintro e M9 ⟨he, e9⟩; replace e9 := e9.symm; subst e9; exact Or.inr ⟨e, rfl, rfl, by simp only [List.mem_cons, List.not_mem_nil, or_false]; omega, hC, fr_rf⟩
  rintro M9 ⟨e9, p0, p1, p2⟩; replace e9 := e9.symm; subst e9
  refine at_aload dx_56_9 rfl ?_
  refine at_getR dx_56_10 hc rfl (cl_t5 hc) ?_
  refine at_iload dx_56_11 rfl ?_
  refine at_aload dx_56_12 rfl ?_
  refine at_getR dx_56_13 lc_0 rfl lt_0_14 ?_
  refine at_callVI dx_56_14 rfl (cl_c4 hc) rfl (c_findOpen (cl_c4 hc) rf lc_31 ln_31 (by omega) (by omega) (T _ (cl_c4 hc))) ?_
  rintro x14 M14 r14 ⟨f14, u14, v14⟩
  replace F : fr sq M _ := fr_tr F (fr_le f14 (fun q h => by (try dsimp only [blk, sq, cq, sd, lo] at h ⊢); first | done | omega))
  replace G := RI_fr f14 (by (try dsimp only [blk, sq, cq, sd, lo]); first | done | omega) G
  replace T : TI M14 := TI_no T f14 (fun q hq hP => by rw [hP, lc_31] at hq; exact absurd hq (by decide))
  refine at_istore dx_56_15 ?_
  refine at_iload dx_56_16 rfl ?_
  refine at_istore dx_56_17 ?_
  refine at_iload dx_56_18 rfl ?_
  refine at_istore dx_56_19 ?_
  refine at_iload dx_56_20 rfl ?_
  refine at_istore dx_56_21 ?_
  exact l1 _ _ _ _ _ _ _ r14 r14 r14 rf rfl hc F T G

set_option maxRecDepth 100000 in
set_option maxHeartbeats 4000000 in
theorem p_takeBack {X : scr} {M : mem} {x : Int} (rx : inR x) (hC : CI M) : At X 0 58 0 [vr 0, vi x] [] M (qT (qI (fun x M' => CI M' ∧ fr lo M M')) (ER [0, 2] M)) := by
  have F : fr sq M M := fr_rf
  have T : TI M := hC.1
  have G : RI M := hC.2.1
  have lp : ∀ (n : Nat) (c : Nat) (i z : Int) (M1 : mem) (hc : ly_c c = 0) (ri : inR i) (h0 : 0 ≤ i ∧ i ≤ z ∧ z < M c 2) (hn : (z - i).toNat = n) (F : fr (fun q => sq q ∨ q = c ∨ q = c + 4 ∨ q = c + 5) M M1) (T : TI M1) (G : RI M1) (e0 : M1 c 0 = M c 0) (e2 : M1 c 2 = z) (w1 : Run (pdV M c i) (tk M (c + 2)) (tk M1 (c + 4))), At X 0 58 21 [vr 0, vi x, vr c, vi i] [] M1 (qT (qI (fun x M' => CI M' ∧ fr lo M M')) (ER [0, 2] M)) := by
    intro n
    induction n using Nat.strongRecOn with
    | ind n ih =>
    intro c i z M1 hc ri h0 hn F T G e0 e2 w1
    have h8 := cl_al hc
    obtain ⟨a1, a2, a3, a4, a5, a6⟩ := hC.2.2.2.2.2 c hc
    have nx := fun (h : i < z) => Run_next (f := fun i : Nat => sv M (c + 8 + 8 * i)) h0.1 (show i < M c 2 by omega) a6 w1
    refine at_iload dx_58_21 rfl ?_
    refine at_aload dx_58_22 rfl ?_
    refine at_getI 2 dx_58_23 hc rfl rfl (fun r23 => ?_)
    refine at_cgeR dx_58_24 ri r23 (fun c24 => ?_) (fun c24 => ?_)
    · skip
      refine at_aload dx_58_47 rfl ?_
      refine at_getI 2 dx_58_48 hc rfl rfl (fun r48 => ?_)
      refine at_iretIT dx_58_49 r48 ?_
      have hiz : i = z := by omega
      subst hiz
      have eb : tk M1 (c + 2) = tk M (c + 2) := tk_fr F (by (try dsimp only [blk, sq, cq, sd, lo]); first | done | omega) (by (try dsimp only [blk, sq, cq, sd, lo]); first | done | omega)
      have e03 : M1 0 3 = M 0 3 := F 0 3 (by (try dsimp only [blk, sq, cq, sd, lo]); first | done | omega)
      refine ⟨CI_cl hC hc (fr_le F (fun q h => by (try dsimp only [blk, sq, cq, sd, lo] at h ⊢); first | done | omega)) T G ⟨?_, ?_, ?_, ?_, ?_, ?_⟩, fr_le F (fun q h => by (try dsimp only [blk, sq, cq, sd, lo] at h ⊢); first | done | omega)⟩
      · rw [e0]; exact a1
      · rw [e0, e03]; exact a2
      · omega
      · omega
      · rw [e0, eb, lgV_cg F (by have := hC.2.2.1; omega) (fun q hP => by dsimp only [sq] at hP; omega)]; exact a5
      · rw [e2, eb, pdV_cg F hc (by omega) (fun q hP => by dsimp only [sq] at hP; omega)]; exact w1
    · skip
      refine at_iload dx_58_25 rfl ?_
      refine at_aload dx_58_26 rfl ?_
      refine at_getR dx_58_27 hc rfl (cl_t3 hc) ?_
      refine at_alen dx_58_28 (cl_c1 hc) rfl (cl_n1 hc) ?_
      refine at_cgeR dx_58_29 ri (by decide) (fun c29 => ?_) (fun c29 => ?_)
      · skip
        refine at_aload dx_58_47 rfl ?_
        refine at_getI 2 dx_58_48 hc rfl rfl (fun r48 => ?_)
        refine at_iretIT dx_58_49 r48 ?_
        have hiz : i = z := by omega
        subst hiz
        have eb : tk M1 (c + 2) = tk M (c + 2) := tk_fr F (by (try dsimp only [blk, sq, cq, sd, lo]); first | done | omega) (by (try dsimp only [blk, sq, cq, sd, lo]); first | done | omega)
        have e03 : M1 0 3 = M 0 3 := F 0 3 (by (try dsimp only [blk, sq, cq, sd, lo]); first | done | omega)
        refine ⟨CI_cl hC hc (fr_le F (fun q h => by (try dsimp only [blk, sq, cq, sd, lo] at h ⊢); first | done | omega)) T G ⟨?_, ?_, ?_, ?_, ?_, ?_⟩, fr_le F (fun q h => by (try dsimp only [blk, sq, cq, sd, lo] at h ⊢); first | done | omega)⟩
        · rw [e0]; exact a1
        · rw [e0, e03]; exact a2
        · omega
        · omega
        · rw [e0, eb, lgV_cg F (by have := hC.2.2.1; omega) (fun q hP => by dsimp only [sq] at hP; omega)]; exact a5
        · rw [e2, eb, pdV_cg F hc (by omega) (fun q hP => by dsimp only [sq] at hP; omega)]; exact w1
      · skip
        refine at_aload dx_58_30 rfl ?_
        refine at_getR dx_58_31 hc rfl (cl_t3 hc) ?_
        refine at_iload dx_58_32 rfl ?_
        refine at_aldS dx_58_33 (cl_c1 hc) (cl_n1 hc) (by first | omega | (simp (disch := omega) only [um_eq, um_k, um_j]; omega)) (by first | omega | (simp (disch := omega) only [um_eq, um_k, um_j]; omega)) (pd_t hc h0.1 (by omega)) ?_
        refine at_aload dx_58_34 rfl ?_
        refine at_getR dx_58_35 hc rfl (cl_t5 hc) ?_
        refine at_aload dx_58_36 rfl ?_
        refine at_getR dx_58_37 lc_0 rfl lt_0_9 ?_
        refine at_callVI dx_58_38 rfl (pd_c hc h0.1 (by omega)) rfl (c_applyTo (pd_c hc h0.1 (by omega)) (cl_c4 hc) lc_20 (by omega) (by omega) (by omega) (by omega) (by omega) T) ?_
        rintro x38 M38 r38 ⟨f38, i38, b38, w38, t38⟩
        refine at_zeqR dx_58_39 r38 (fun c39 => ?_) (fun c39 => ?_)
        · skip
          refine at_iincR (y := 1) dx_58_45 rfl rfl (by (have := (hC.2.2.2.2.2 c hc); constructor <;> omega)) (fun r45 => ?_)
          refine at_goto dx_58_46 ?_
          have sK : sv M1 (c + 8 + 8 * i.toNat) = sv M (c + 8 + 8 * i.toNat) := sv_fr F (by (try dsimp only [blk, sq, cq, sd, lo]); first | done | omega) (by (try dsimp only [blk, sq, cq, sd, lo]); first | done | omega) (by (try dsimp only [blk, sq, cq, sd, lo]); first | done | omega) (by (try dsimp only [blk, sq, cq, sd, lo]); first | done | omega) (by (try dsimp only [blk, sq, cq, sd, lo]); first | done | omega) (by (try dsimp only [blk, sq, cq, sd, lo]); first | done | omega)
          obtain ⟨n1, n2⟩ := nx (by omega)
          first
          | (exact absurd (w38.mpr (by rw [sK]; exact n1)) (by omega))
          | (refine ih _ (by omega) c (i + 1) z M44 hc r45 (by omega) rfl (fr_tr (fr_tr F (fr_le f38 (fun q h => by (try dsimp only [blk, sq, cq, sd, lo] at h ⊢); first | done | omega))) (fr_le f44 (fun q h => by (try dsimp only [blk, sq, cq, sd, lo] at h ⊢); first | done | omega))) T44 (RI_fr f44 (by (try dsimp only [blk, sq, cq, sd, lo]); first | done | omega) (RI_fr f38 (by (try dsimp only [blk, sq, cq, sd, lo]); first | done | omega) G)) (by rw [f44 c 0 (by (try dsimp only [blk, sq, cq, sd, lo]); first | done | omega), f38 c 0 (by (try dsimp only [blk, sq, cq, sd, lo]); first | done | omega), e0]) (by rw [f44 c 2 (by (try dsimp only [blk, sq, cq, sd, lo]); first | done | omega), f38 c 2 (by (try dsimp only [blk, sq, cq, sd, lo]); first | done | omega), e2]) ?_
             have t9 := t38 (by omega)
             rw [sK] at t9
             rw [t44, t9]; exact n2)
        · skip
          refine at_aload dx_58_40 rfl ?_
          refine at_getR dx_58_41 hc rfl (cl_t5 hc) ?_
          refine at_aload dx_58_42 rfl ?_
          refine at_getR dx_58_43 lc_0 rfl lt_0_9 ?_
          refine at_callVV dx_58_44 rfl (cl_c4 hc) rfl (c_become (cl_c4 hc) lc_20 (by omega) (i38 _ lc_20)) ?_
          rintro M44 ⟨f44, i44, t44⟩
          have T44 : TI M44 := TI_fr i38 f44 (fun q hq hP => by
            rcases hP with h | h
            · subst h; exact i44
            · have := tk_e hq; omega)
          refine at_iincR (y := 1) dx_58_45 rfl rfl (by (have := (hC.2.2.2.2.2 c hc); constructor <;> omega)) (fun r45 => ?_)
          refine at_goto dx_58_46 ?_
          have sK : sv M1 (c + 8 + 8 * i.toNat) = sv M (c + 8 + 8 * i.toNat) := sv_fr F (by (try dsimp only [blk, sq, cq, sd, lo]); first | done | omega) (by (try dsimp only [blk, sq, cq, sd, lo]); first | done | omega) (by (try dsimp only [blk, sq, cq, sd, lo]); first | done | omega) (by (try dsimp only [blk, sq, cq, sd, lo]); first | done | omega) (by (try dsimp only [blk, sq, cq, sd, lo]); first | done | omega) (by (try dsimp only [blk, sq, cq, sd, lo]); first | done | omega)
          obtain ⟨n1, n2⟩ := nx (by omega)
          first
          | (exact absurd (w38.mpr (by rw [sK]; exact n1)) (by omega))
          | (refine ih _ (by omega) c (i + 1) z M44 hc r45 (by omega) rfl (fr_tr (fr_tr F (fr_le f38 (fun q h => by (try dsimp only [blk, sq, cq, sd, lo] at h ⊢); first | done | omega))) (fr_le f44 (fun q h => by (try dsimp only [blk, sq, cq, sd, lo] at h ⊢); first | done | omega))) T44 (RI_fr f44 (by (try dsimp only [blk, sq, cq, sd, lo]); first | done | omega) (RI_fr f38 (by (try dsimp only [blk, sq, cq, sd, lo]); first | done | omega) G)) (by rw [f44 c 0 (by (try dsimp only [blk, sq, cq, sd, lo]); first | done | omega), f38 c 0 (by (try dsimp only [blk, sq, cq, sd, lo]); first | done | omega), e0]) (by rw [f44 c 2 (by (try dsimp only [blk, sq, cq, sd, lo]); first | done | omega), f38 c 2 (by (try dsimp only [blk, sq, cq, sd, lo]); first | done | omega), e2]) ?_
             have t9 := t38 (by omega)
             rw [sK] at t9
             rw [t44, t9]; exact n2)
  refine at_aload dx_58_0 rfl ?_
  refine at_iload dx_58_1 rfl ?_
  refine at_callVRT dx_58_2 rfl lc_0 rfl (c_clientOf rx) ?_ ?_
  rotate_left
  · rintro e M9 ⟨he, e9⟩; replace e9 := e9.symm; subst e9; exact Or.inr ⟨e, rfl, rfl, by simp only [List.mem_cons, List.not_mem_nil, or_false]; omega, hC, fr_rf⟩
  rintro c M9 ⟨e9, h0, h3, hcx, hc⟩; replace e9 := e9.symm; subst e9
  have h8 := cl_al hc
  refine at_astore dx_58_3 ?_
  refine at_aload dx_58_4 rfl ?_
  refine at_getI 2 dx_58_5 hc rfl rfl (fun r5 => ?_)
  refine at_zneR dx_58_6 r5 (fun c6 => ?_) (fun c6 => ?_)
  · skip
    refine at_aload dx_58_8 rfl ?_
    refine at_dup dx_58_9 rfl ?_
    refine at_getI 2 dx_58_10 hc rfl rfl (fun r10 => ?_)
    refine at_const (x := 1) dx_58_11 rfl ?_
    refine at_subR dx_58_12 (by (have := (hC.2.2.2.2.2 c hc); constructor <;> omega)) (fun r12 => ?_)
    refine at_putI 2 dx_58_13 hc rfl rfl r12 ?_
    have hu1 := (hC.2.2.2.2.2 c hc)
    have fu : fr (fun q => q = c) M (um M c 2 (M c 2 - 1)) := fr_um rfl
    have Tu : TI (um M c 2 (M c 2 - 1)) := TI_um hC.1 (by rw [hc]; decide)
    refine at_aload dx_58_14 rfl ?_
    refine at_getR dx_58_15 hc rfl (cl_t5 hc) ?_
    refine at_aload dx_58_16 rfl ?_
    refine at_getR dx_58_17 hc rfl (cl_t4 hc) ?_
    refine at_callVV dx_58_18 rfl (cl_c4 hc) rfl (c_become (cl_c4 hc) (cl_c2 hc) (by omega) (Tu _ (cl_c2 hc))) ?_
    rintro M18 ⟨f18, i18, t18⟩
    have T18 : TI M18 := TI_fr Tu f18 (fun q hq hP => by
      rcases hP with h | h
      · subst h; exact i18
      · have := tk_e hq; omega)
    refine at_const (x := 0) dx_58_19 rfl ?_
    refine at_istore dx_58_20 ?_
    refine lp _ c 0 (M c 2 - 1) M18 hc (by decide) (by omega) rfl (fr_tr (fr_le fu (fun q h => by (try dsimp only [blk, sq, cq, sd, lo] at h ⊢); first | done | omega)) (fr_le f18 (fun q h => by (try dsimp only [blk, sq, cq, sd, lo] at h ⊢); first | done | omega))) T18 (RI_fr f18 (by (try dsimp only [blk, sq, cq, sd, lo]); first | done | omega) (RI_fr fu (by (try dsimp only [blk, sq, cq, sd, lo]); first | done | omega) hC.2.1)) (by rw [f18 c 0 (by (try dsimp only [blk, sq, cq, sd, lo]); first | done | omega), um_j (by decide)]) (by rw [f18 c 2 (by (try dsimp only [blk, sq, cq, sd, lo]); first | done | omega), um_eq]) ?_
    rw [t18, tk_fr fu (by (try dsimp only [blk, sq, cq, sd, lo]); first | done | omega) (by (try dsimp only [blk, sq, cq, sd, lo]); first | done | omega)]; rfl
  · skip
    refine at_thrT dx_58_7 rfl ?_
    first | exact ⟨by decide, hC, fr_rf⟩ | exact ⟨by decide, CI_sq hC F T G, fr_le F (fun q h => by (try dsimp only [blk, sq, cq, sd, lo] at h ⊢); first | done | omega)⟩
