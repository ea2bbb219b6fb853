/-! ===== rows of maps, the grammar, nodes: what they leave as it was ===== -/
abbrev RI (M : mem) : Prop := 0 ≤ M 25 3 ∧ M 25 3 ≤ 80
set_option maxRecDepth 100000 in
set_option maxHeartbeats 4000000 in
theorem c_addMap {X : scr} {M : mem} {t : Nat} {z : Int} (ht : ly_c t = 4) (hz : z = 0 ∨ z = 1) (rz : inR z) (hI : RI M) : At X 0 11 0 [vr 25, vr t, vi z] [] M (qV (fun M' => fr (fun q => q = 25 ∨ q = 26 ∨ q = 27 ∨ q = 28) M M' ∧ RI M')) := by
  refine at_aload dx_11_0 rfl ?_
  refine at_getI 3 dx_11_1 lc_25 rfl rfl (fun r1 => ?_)
  refine at_zltR dx_11_2 r1 (fun c2 => ?_) (fun c2 => ?_)
  · skip
    refine at_vretV dx_11_31 ?_
    refine ⟨by (repeat (first | exact fr_rf | refine fr_ums ?_ (by (try dsimp only [blk]); first | done | omega))), (by first | exact hI | (unfold RI; simp (disch := omega) only [um_eq, um_k, um_j]; omega))⟩
  · skip
    refine at_aload dx_11_3 rfl ?_
    refine at_getI 3 dx_11_4 lc_25 rfl rfl (fun r4 => ?_)
    refine at_const (x := 80) dx_11_5 rfl ?_
    refine at_cgeR dx_11_6 r4 (by decide) (fun c6 => ?_) (fun c6 => ?_)
    · skip
      refine at_vretV dx_11_31 ?_
      refine ⟨by (repeat (first | exact fr_rf | refine fr_ums ?_ (by (try dsimp only [blk]); first | done | omega))), (by first | exact hI | (unfold RI; simp (disch := omega) only [um_eq, um_k, um_j]; omega))⟩
    · skip
      refine at_aload dx_11_7 rfl ?_
      refine at_getR dx_11_8 lc_25 rfl lt_25_0 ?_
      refine at_aload dx_11_9 rfl ?_
      refine at_getI 3 dx_11_10 lc_25 rfl rfl (fun r10 => ?_)
      refine at_aload dx_11_11 rfl ?_
      refine at_astD dx_11_12 lc_26 ln_26 (by first | omega | (simp (disch := omega) only [um_eq, um_k, um_j]; omega)) (by first | omega | (simp (disch := omega) only [um_eq, um_k, um_j]; omega)) ht ?_
      refine at_aload dx_11_13 rfl ?_
      refine at_getR dx_11_14 lc_25 rfl lt_25_1 ?_
      refine at_aload dx_11_15 rfl ?_
      refine at_getI 3 dx_11_16 lc_25 rfl rfl (fun r16 => ?_)
      refine at_iload dx_11_17 rfl ?_
      refine at_astZ dx_11_18 lc_27 ln_27 (by first | omega | (simp (disch := omega) only [um_eq, um_k, um_j]; omega)) (by first | omega | (simp (disch := omega) only [um_eq, um_k, um_j]; omega)) hz ?_
      refine at_aload dx_11_19 rfl ?_
      refine at_getR dx_11_20 lc_25 rfl lt_25_2 ?_
      refine at_aload dx_11_21 rfl ?_
      refine at_getI 3 dx_11_22 lc_25 rfl rfl (fun r22 => ?_)
      refine at_const (x := -1) dx_11_23 rfl ?_
      refine at_astI dx_11_24 lc_28 ln_28 (by first | omega | (simp (disch := omega) only [um_eq, um_k, um_j]; omega)) (by first | omega | (simp (disch := omega) only [um_eq, um_k, um_j]; omega)) (by decide) ?_
      refine at_aload dx_11_25 rfl ?_
      refine at_dup dx_11_26 rfl ?_
      refine at_getI 3 dx_11_27 lc_25 rfl rfl (fun r27 => ?_)
      refine at_const (x := 1) dx_11_28 rfl ?_
      refine at_addR dx_11_29 (by (simp (disch := omega) only [um_eq, um_k, um_j]; constructor <;> omega)) (fun r29 => ?_)
      refine at_putI 3 dx_11_30 lc_25 rfl rfl r29 ?_
      refine at_vretV dx_11_31 ?_
      refine ⟨by (repeat (first | exact fr_rf | refine fr_ums ?_ (by (try dsimp only [blk]); first | done | omega))), (by first | exact hI | (unfold RI; simp (disch := omega) only [um_eq, um_k, um_j]; omega))⟩

set_option maxRecDepth 100000 in
set_option maxHeartbeats 4000000 in
theorem c_addPartner {X : scr} {M : mem} {t : Nat} {z : Int} (ht : ly_c t = 4) (hz : inR z) (hI : RI M) : At X 0 12 0 [vr 25, vr t, vi z] [] M (qV (fun M' => fr (fun q => q = 25 ∨ q = 26 ∨ q = 27 ∨ q = 28) M M' ∧ RI M')) := by
  refine at_iload dx_12_0 rfl ?_
  refine at_zltR dx_12_1 hz (fun c1 => ?_) (fun c1 => ?_)
  · skip
    refine at_vretV dx_12_19 ?_
    first | exact ⟨fr_tr (fr_um (by omega)) f1, i1⟩ | exact ⟨fr_rf, hI⟩
  · skip
    refine at_iload dx_12_2 rfl ?_
    refine at_aload dx_12_3 rfl ?_
    refine at_getI 3 dx_12_4 lc_25 rfl rfl (fun r4 => ?_)
    refine at_cgeR dx_12_5 hz r4 (fun c5 => ?_) (fun c5 => ?_)
    · skip
      refine at_vretV dx_12_19 ?_
      first | exact ⟨fr_tr (fr_um (by omega)) f1, i1⟩ | exact ⟨fr_rf, hI⟩
    · skip
      refine at_iload dx_12_6 rfl ?_
      refine at_const (x := 80) dx_12_7 rfl ?_
      refine at_cgeR dx_12_8 hz (by decide) (fun c8 => ?_) (fun c8 => ?_)
      · skip
        refine at_vretV dx_12_19 ?_
        first | exact ⟨fr_tr (fr_um (by omega)) f1, i1⟩ | exact ⟨fr_rf, hI⟩
      · skip
        refine at_aload dx_12_9 rfl ?_
        refine at_getR dx_12_10 lc_25 rfl lt_25_2 ?_
        refine at_iload dx_12_11 rfl ?_
        refine at_aload dx_12_12 rfl ?_
        refine at_getI 3 dx_12_13 lc_25 rfl rfl (fun r13 => ?_)
        refine at_astI dx_12_14 lc_28 ln_28 (by first | omega | (simp (disch := omega) only [um_eq, um_k, um_j]; omega)) (by first | omega | (simp (disch := omega) only [um_eq, um_k, um_j]; omega)) r13 ?_
        refine at_aload dx_12_15 rfl ?_
        refine at_aload dx_12_16 rfl ?_
        refine at_const (x := 0) dx_12_17 rfl ?_
        refine at_callVV dx_12_18 rfl lc_25 rfl (c_addMap ht (Or.inl rfl) (by decide) (by unfold RI; simp (disch := omega) only [um_eq, um_k, um_j]; exact hI)) ?_
        rintro M1 ⟨f1, i1⟩
        refine at_vretV dx_12_19 ?_
        first | exact ⟨fr_tr (fr_um (by omega)) f1, i1⟩ | exact ⟨fr_rf, hI⟩

set_option maxRecDepth 100000 in
set_option maxHeartbeats 4000000 in
theorem c_carryMarking {X : scr} {M : mem} {f : Int} {s : Nat} (hs : ly_c s = 4) (hf : inR f) : At X 0 14 0 [vr 25, vr s, vi f] [] M (qI (fun x M' => fr (fun q => q = s ∨ q = 29) M M' ∧ (x = 0 ∨ x = 1))) := by
  refine at_aload dx_14_0 rfl ?_
  refine at_aload dx_14_1 rfl ?_
  refine at_aload dx_14_2 rfl ?_
  refine at_getI 1 dx_14_3 hs rfl rfl (fun r3 => ?_)
  refine at_const (x := 1) dx_14_4 rfl ?_
  refine at_iload dx_14_5 rfl ?_
  refine at_callVI dx_14_6 rfl lc_25 rfl (c_carryPosition r3 (Or.inr rfl) (by decide) hf) ?_
  intro x6 M6 r6 f6
  refine at_putI 1 dx_14_7 hs rfl rfl r6 ?_
  refine at_aload dx_14_8 rfl ?_
  refine at_aload dx_14_9 rfl ?_
  refine at_aload dx_14_10 rfl ?_
  refine at_getI 2 dx_14_11 hs rfl rfl (fun r11 => ?_)
  refine at_const (x := 0) dx_14_12 rfl ?_
  refine at_iload dx_14_13 rfl ?_
  refine at_callVI dx_14_14 rfl lc_25 rfl (c_carryPosition r11 (Or.inl rfl) (by decide) hf) ?_
  intro x14 M14 r14 f14
  refine at_putI 2 dx_14_15 hs rfl rfl r14 ?_
  refine at_aload dx_14_16 rfl ?_
  refine at_getI 2 dx_14_17 hs rfl rfl (fun r17 => ?_)
  refine at_aload dx_14_18 rfl ?_
  refine at_getI 1 dx_14_19 hs rfl rfl (fun r19 => ?_)
  refine at_cleR dx_14_20 r17 r19 (fun c20 => ?_) (fun c20 => ?_)
  · skip
    refine at_const (x := 0) dx_14_23 rfl ?_
    refine at_zretI dx_14_24 (Or.inl rfl) ?_
    refine ⟨fr_ums (fr_tr (fr_ums (fr_le f6 (fun q h => by (try dsimp only [blk] at h ⊢); first | done | omega)) (by (try dsimp only [blk]); first | done | omega)) (fr_le f14 (fun q h => by (try dsimp only [blk] at h ⊢); first | done | omega))) (by (try dsimp only [blk]); first | done | omega), Or.inl rfl⟩
  · skip
    refine at_const (x := 1) dx_14_21 rfl ?_
    refine at_goto dx_14_22 ?_
    refine at_zretI dx_14_24 (Or.inr rfl) ?_
    refine ⟨fr_ums (fr_tr (fr_ums (fr_le f6 (fun q h => by (try dsimp only [blk] at h ⊢); first | done | omega)) (by (try dsimp only [blk]); first | done | omega)) (fr_le f14 (fun q h => by (try dsimp only [blk] at h ⊢); first | done | omega))) (by (try dsimp only [blk]); first | done | omega), Or.inr rfl⟩

set_option maxRecDepth 100000 in
set_option maxHeartbeats 4000000 in
theorem c_carryChange {X : scr} {M : mem} {f : Int} {s : Nat} (hs : ly_c s = 4) (hf : inR f) : At X 0 15 0 [vr 25, vr s, vi f] [] M (qI (fun x M' => fr (fun q => q = s + 1 ∨ q = s + 2 ∨ q = 29) M M' ∧ (x = 0 ∨ x = 1))) := by
  have lp : ∀ (n : Nat) (e r : Int) (M1 : mem) (re : inR e) (rr : inR r) (h0 : 0 ≤ r) (hn : (2 - r).toNat = n) (h1 : fr (fun q => q = s + 1 ∨ q = s + 2 ∨ q = 29) M M1), At X 0 15 4 [vr 25, vr s, vi f, vi e, vi r] [] M1 (qI (fun x M' => fr (fun q => q = s + 1 ∨ q = s + 2 ∨ q = 29) M M' ∧ (x = 0 ∨ x = 1))) := by
    intro n
    induction n using Nat.strongRecOn with
    | ind n ih =>
    intro e r M1 re rr h0 hn h1
    refine at_iload dx_15_4 rfl ?_
    refine at_aload dx_15_5 rfl ?_
    refine at_getI 5 dx_15_6 hs rfl rfl (fun r6 => ?_)
    refine at_cgeR dx_15_7 rr r6 (fun c7 => ?_) (fun c7 => ?_)
    · skip
      refine at_const (x := 1) dx_15_73 rfl ?_
      refine at_zretI dx_15_74 (Or.inr rfl) ?_
      exact ⟨h1, Or.inr rfl⟩
    · skip
      refine at_iload dx_15_8 rfl ?_
      refine at_const (x := 2) dx_15_9 rfl ?_
      refine at_cgeR dx_15_10 rr (by decide) (fun c10 => ?_) (fun c10 => ?_)
      · skip
        refine at_const (x := 1) dx_15_73 rfl ?_
        refine at_zretI dx_15_74 (Or.inr rfl) ?_
        exact ⟨h1, Or.inr rfl⟩
      · skip
        refine at_aload dx_15_11 rfl ?_
        refine at_getR dx_15_12 hs rfl (st_t6 hs) ?_
        refine at_iload dx_15_13 rfl ?_
        refine at_aldI dx_15_14 (st_c1 hs) (st_n1 hs) (by first | omega | (simp (disch := omega) only [um_eq, um_k, um_j]; omega)) (by first | omega | (simp (disch := omega) only [um_eq, um_k, um_j]; omega)) (fun r14 => ?_)
        refine at_aload dx_15_15 rfl ?_
        refine at_getR dx_15_16 hs rfl (st_t7 hs) ?_
        refine at_iload dx_15_17 rfl ?_
        refine at_aldI dx_15_18 (st_c2 hs) (st_n2 hs) (by first | omega | (simp (disch := omega) only [um_eq, um_k, um_j]; omega)) (by first | omega | (simp (disch := omega) only [um_eq, um_k, um_j]; omega)) (fun r18 => ?_)
        refine at_addW dx_15_19 ?_
        refine at_istore dx_15_20 ?_
        refine at_aload dx_15_21 rfl ?_
        refine at_aload dx_15_22 rfl ?_
        refine at_getR dx_15_23 hs rfl (st_t6 hs) ?_
        refine at_iload dx_15_24 rfl ?_
        refine at_aldI dx_15_25 (st_c1 hs) (st_n1 hs) (by first | omega | (simp (disch := omega) only [um_eq, um_k, um_j]; omega)) (by first | omega | (simp (disch := omega) only [um_eq, um_k, um_j]; omega)) (fun r25 => ?_)
        refine at_const (x := 1) dx_15_26 rfl ?_
        refine at_iload dx_15_27 rfl ?_
        refine at_callVI dx_15_28 rfl lc_25 rfl (c_carryPosition r25 (Or.inr rfl) (by decide) hf) ?_
        intro x28 M28 r28 f28
        have k1 := fr_tr h1 (fr_le f28 (fun q h => by (try dsimp only [blk] at h ⊢); first | done | omega))
        refine at_istore dx_15_29 ?_
        refine at_aload dx_15_30 rfl ?_
        refine at_getR dx_15_31 lc_25 rfl lt_25_4 ?_
        refine at_getI 2 dx_15_32 lc_29 rfl rfl (fun r32 => ?_)
        refine at_istore dx_15_33 ?_
        refine at_iload dx_15_34 rfl ?_
        refine at_aload dx_15_35 rfl ?_
        refine at_iload dx_15_36 rfl ?_
        refine at_const (x := 0) dx_15_37 rfl ?_
        refine at_iload dx_15_38 rfl ?_
        refine at_callVI dx_15_39 rfl lc_25 rfl (c_carryPosition (inR_wr _) (Or.inl rfl) (by decide) hf) ?_
        intro x39 M39 r39 f39
        have k2 := fr_tr k1 (fr_le f39 (fun q h => by (try dsimp only [blk] at h ⊢); first | done | omega))
        refine at_maxR dx_15_40 rfl r28 r39 (fun c40 => ?_) (fun c40 => ?_)
        · skip
          refine at_istore dx_15_41 ?_
          refine at_aload dx_15_42 rfl ?_
          refine at_getR dx_15_43 lc_25 rfl lt_25_4 ?_
          refine at_getI 2 dx_15_44 lc_29 rfl rfl (fun r44 => ?_)
          refine at_istore dx_15_45 ?_
          refine at_iload dx_15_46 rfl ?_
          refine at_zeqR dx_15_47 r32 (fun c47 => ?_) (fun c47 => ?_)
          · skip
            refine at_iload dx_15_50 rfl ?_
            refine at_zleR dx_15_51 rr (fun c51 => ?_) (fun c51 => ?_)
            · skip
              refine at_aload dx_15_57 rfl ?_
              refine at_getR dx_15_58 hs rfl (st_t6 hs) ?_
              refine at_iload dx_15_59 rfl ?_
              refine at_iload dx_15_60 rfl ?_
              refine at_astI dx_15_61 (st_c1 hs) (st_n1 hs) (by first | omega | (simp (disch := omega) only [um_eq, um_k, um_j]; omega)) (by first | omega | (simp (disch := omega) only [um_eq, um_k, um_j]; omega)) r28 ?_
              refine at_aload dx_15_62 rfl ?_
              refine at_getR dx_15_63 hs rfl (st_t7 hs) ?_
              refine at_iload dx_15_64 rfl ?_
              refine at_iload dx_15_65 rfl ?_
              refine at_iload dx_15_66 rfl ?_
              refine at_subW dx_15_67 ?_
              refine at_astI dx_15_68 (st_c2 hs) (st_n2 hs) (by first | omega | (simp (disch := omega) only [um_eq, um_k, um_j]; omega)) (by first | omega | (simp (disch := omega) only [um_eq, um_k, um_j]; omega)) (inR_wr _) ?_
              refine at_iload dx_15_69 rfl ?_
              refine at_istore dx_15_70 ?_
              refine at_iincR (y := 1) dx_15_71 rfl rfl (by constructor <;> omega) (fun r71 => ?_)
              refine at_goto dx_15_72 ?_
              refine at_wk (ls := [vr 25, vr s, vi _, vi _, vi _]) ⟨Or.inl rfl, Or.inl rfl, Or.inl rfl, Or.inl rfl, Or.inl rfl, trivial⟩ ?_
              exact ih _ (by omega) _ _ _ (by assumption) r71 (by omega) rfl (fr_ums (fr_ums k2 (by (try dsimp only [blk]); first | done | omega)) (by (try dsimp only [blk]); first | done | omega))
            · skip
              refine at_iload dx_15_52 rfl ?_
              refine at_iload dx_15_53 rfl ?_
              refine at_cgeR dx_15_54 r28 re (fun c54 => ?_) (fun c54 => ?_)
              · skip
                refine at_aload dx_15_57 rfl ?_
                refine at_getR dx_15_58 hs rfl (st_t6 hs) ?_
                refine at_iload dx_15_59 rfl ?_
                refine at_iload dx_15_60 rfl ?_
                refine at_astI dx_15_61 (st_c1 hs) (st_n1 hs) (by first | omega | (simp (disch := omega) only [um_eq, um_k, um_j]; omega)) (by first | omega | (simp (disch := omega) only [um_eq, um_k, um_j]; omega)) r28 ?_
                refine at_aload dx_15_62 rfl ?_
                refine at_getR dx_15_63 hs rfl (st_t7 hs) ?_
                refine at_iload dx_15_64 rfl ?_
                refine at_iload dx_15_65 rfl ?_
                refine at_iload dx_15_66 rfl ?_
                refine at_subW dx_15_67 ?_
                refine at_astI dx_15_68 (st_c2 hs) (st_n2 hs) (by first | omega | (simp (disch := omega) only [um_eq, um_k, um_j]; omega)) (by first | omega | (simp (disch := omega) only [um_eq, um_k, um_j]; omega)) (inR_wr _) ?_
                refine at_iload dx_15_69 rfl ?_
                refine at_istore dx_15_70 ?_
                refine at_iincR (y := 1) dx_15_71 rfl rfl (by constructor <;> omega) (fun r71 => ?_)
                refine at_goto dx_15_72 ?_
                refine at_wk (ls := [vr 25, vr s, vi _, vi _, vi _]) ⟨Or.inl rfl, Or.inl rfl, Or.inl rfl, Or.inl rfl, Or.inl rfl, trivial⟩ ?_
                exact ih _ (by omega) _ _ _ (by assumption) r71 (by omega) rfl (fr_ums (fr_ums k2 (by (try dsimp only [blk]); first | done | omega)) (by (try dsimp only [blk]); first | done | omega))
              · skip
                refine at_const (x := 0) dx_15_55 rfl ?_
                refine at_zretI dx_15_56 (Or.inl rfl) ?_
                exact ⟨k2, Or.inl rfl⟩
          · skip
            refine at_iload dx_15_48 rfl ?_
            refine at_zneR dx_15_49 r44 (fun c49 => ?_) (fun c49 => ?_)
            · skip
              refine at_const (x := 0) dx_15_55 rfl ?_
              refine at_zretI dx_15_56 (Or.inl rfl) ?_
              exact ⟨k2, Or.inl rfl⟩
            · skip
              refine at_iload dx_15_50 rfl ?_
              refine at_zleR dx_15_51 rr (fun c51 => ?_) (fun c51 => ?_)
              · skip
                refine at_aload dx_15_57 rfl ?_
                refine at_getR dx_15_58 hs rfl (st_t6 hs) ?_
                refine at_iload dx_15_59 rfl ?_
                refine at_iload dx_15_60 rfl ?_
                refine at_astI dx_15_61 (st_c1 hs) (st_n1 hs) (by first | omega | (simp (disch := omega) only [um_eq, um_k, um_j]; omega)) (by first | omega | (simp (disch := omega) only [um_eq, um_k, um_j]; omega)) r28 ?_
                refine at_aload dx_15_62 rfl ?_
                refine at_getR dx_15_63 hs rfl (st_t7 hs) ?_
                refine at_iload dx_15_64 rfl ?_
                refine at_iload dx_15_65 rfl ?_
                refine at_iload dx_15_66 rfl ?_
                refine at_subW dx_15_67 ?_
                refine at_astI dx_15_68 (st_c2 hs) (st_n2 hs) (by first | omega | (simp (disch := omega) only [um_eq, um_k, um_j]; omega)) (by first | omega | (simp (disch := omega) only [um_eq, um_k, um_j]; omega)) (inR_wr _) ?_
                refine at_iload dx_15_69 rfl ?_
                refine at_istore dx_15_70 ?_
                refine at_iincR (y := 1) dx_15_71 rfl rfl (by constructor <;> omega) (fun r71 => ?_)
                refine at_goto dx_15_72 ?_
                refine at_wk (ls := [vr 25, vr s, vi _, vi _, vi _]) ⟨Or.inl rfl, Or.inl rfl, Or.inl rfl, Or.inl rfl, Or.inl rfl, trivial⟩ ?_
                exact ih _ (by omega) _ _ _ (by assumption) r71 (by omega) rfl (fr_ums (fr_ums k2 (by (try dsimp only [blk]); first | done | omega)) (by (try dsimp only [blk]); first | done | omega))
              · skip
                refine at_iload dx_15_52 rfl ?_
                refine at_iload dx_15_53 rfl ?_
                refine at_cgeR dx_15_54 r28 re (fun c54 => ?_) (fun c54 => ?_)
                · skip
                  refine at_aload dx_15_57 rfl ?_
                  refine at_getR dx_15_58 hs rfl (st_t6 hs) ?_
                  refine at_iload dx_15_59 rfl ?_
                  refine at_iload dx_15_60 rfl ?_
                  refine at_astI dx_15_61 (st_c1 hs) (st_n1 hs) (by first | omega | (simp (disch := omega) only [um_eq, um_k, um_j]; omega)) (by first | omega | (simp (disch := omega) only [um_eq, um_k, um_j]; omega)) r28 ?_
                  refine at_aload dx_15_62 rfl ?_
                  refine at_getR dx_15_63 hs rfl (st_t7 hs) ?_
                  refine at_iload dx_15_64 rfl ?_
                  refine at_iload dx_15_65 rfl ?_
                  refine at_iload dx_15_66 rfl ?_
                  refine at_subW dx_15_67 ?_
                  refine at_astI dx_15_68 (st_c2 hs) (st_n2 hs) (by first | omega | (simp (disch := omega) only [um_eq, um_k, um_j]; omega)) (by first | omega | (simp (disch := omega) only [um_eq, um_k, um_j]; omega)) (inR_wr _) ?_
                  refine at_iload dx_15_69 rfl ?_
                  refine at_istore dx_15_70 ?_
                  refine at_iincR (y := 1) dx_15_71 rfl rfl (by constructor <;> omega) (fun r71 => ?_)
                  refine at_goto dx_15_72 ?_
                  refine at_wk (ls := [vr 25, vr s, vi _, vi _, vi _]) ⟨Or.inl rfl, Or.inl rfl, Or.inl rfl, Or.inl rfl, Or.inl rfl, trivial⟩ ?_
                  exact ih _ (by omega) _ _ _ (by assumption) r71 (by omega) rfl (fr_ums (fr_ums k2 (by (try dsimp only [blk]); first | done | omega)) (by (try dsimp only [blk]); first | done | omega))
                · skip
                  refine at_const (x := 0) dx_15_55 rfl ?_
                  refine at_zretI dx_15_56 (Or.inl rfl) ?_
                  exact ⟨k2, Or.inl rfl⟩
        · skip
          refine at_istore dx_15_41 ?_
          refine at_aload dx_15_42 rfl ?_
          refine at_getR dx_15_43 lc_25 rfl lt_25_4 ?_
          refine at_getI 2 dx_15_44 lc_29 rfl rfl (fun r44 => ?_)
          refine at_istore dx_15_45 ?_
          refine at_iload dx_15_46 rfl ?_
          refine at_zeqR dx_15_47 r32 (fun c47 => ?_) (fun c47 => ?_)
          · skip
            refine at_iload dx_15_50 rfl ?_
            refine at_zleR dx_15_51 rr (fun c51 => ?_) (fun c51 => ?_)
            · skip
              refine at_aload dx_15_57 rfl ?_
              refine at_getR dx_15_58 hs rfl (st_t6 hs) ?_
              refine at_iload dx_15_59 rfl ?_
              refine at_iload dx_15_60 rfl ?_
              refine at_astI dx_15_61 (st_c1 hs) (st_n1 hs) (by first | omega | (simp (disch := omega) only [um_eq, um_k, um_j]; omega)) (by first | omega | (simp (disch := omega) only [um_eq, um_k, um_j]; omega)) r28 ?_
              refine at_aload dx_15_62 rfl ?_
              refine at_getR dx_15_63 hs rfl (st_t7 hs) ?_
              refine at_iload dx_15_64 rfl ?_
              refine at_iload dx_15_65 rfl ?_
              refine at_iload dx_15_66 rfl ?_
              refine at_subW dx_15_67 ?_
              refine at_astI dx_15_68 (st_c2 hs) (st_n2 hs) (by first | omega | (simp (disch := omega) only [um_eq, um_k, um_j]; omega)) (by first | omega | (simp (disch := omega) only [um_eq, um_k, um_j]; omega)) (inR_wr _) ?_
              refine at_iload dx_15_69 rfl ?_
              refine at_istore dx_15_70 ?_
              refine at_iincR (y := 1) dx_15_71 rfl rfl (by constructor <;> omega) (fun r71 => ?_)
              refine at_goto dx_15_72 ?_
              refine at_wk (ls := [vr 25, vr s, vi _, vi _, vi _]) ⟨Or.inl rfl, Or.inl rfl, Or.inl rfl, Or.inl rfl, Or.inl rfl, trivial⟩ ?_
              exact ih _ (by omega) _ _ _ (by assumption) r71 (by omega) rfl (fr_ums (fr_ums k2 (by (try dsimp only [blk]); first | done | omega)) (by (try dsimp only [blk]); first | done | omega))
            · skip
              refine at_iload dx_15_52 rfl ?_
              refine at_iload dx_15_53 rfl ?_
              refine at_cgeR dx_15_54 r28 re (fun c54 => ?_) (fun c54 => ?_)
              · skip
                refine at_aload dx_15_57 rfl ?_
                refine at_getR dx_15_58 hs rfl (st_t6 hs) ?_
                refine at_iload dx_15_59 rfl ?_
                refine at_iload dx_15_60 rfl ?_
                refine at_astI dx_15_61 (st_c1 hs) (st_n1 hs) (by first | omega | (simp (disch := omega) only [um_eq, um_k, um_j]; omega)) (by first | omega | (simp (disch := omega) only [um_eq, um_k, um_j]; omega)) r28 ?_
                refine at_aload dx_15_62 rfl ?_
                refine at_getR dx_15_63 hs rfl (st_t7 hs) ?_
                refine at_iload dx_15_64 rfl ?_
                refine at_iload dx_15_65 rfl ?_
                refine at_iload dx_15_66 rfl ?_
                refine at_subW dx_15_67 ?_
                refine at_astI dx_15_68 (st_c2 hs) (st_n2 hs) (by first | omega | (simp (disch := omega) only [um_eq, um_k, um_j]; omega)) (by first | omega | (simp (disch := omega) only [um_eq, um_k, um_j]; omega)) (inR_wr _) ?_
                refine at_iload dx_15_69 rfl ?_
                refine at_istore dx_15_70 ?_
                refine at_iincR (y := 1) dx_15_71 rfl rfl (by constructor <;> omega) (fun r71 => ?_)
                refine at_goto dx_15_72 ?_
                refine at_wk (ls := [vr 25, vr s, vi _, vi _, vi _]) ⟨Or.inl rfl, Or.inl rfl, Or.inl rfl, Or.inl rfl, Or.inl rfl, trivial⟩ ?_
                exact ih _ (by omega) _ _ _ (by assumption) r71 (by omega) rfl (fr_ums (fr_ums k2 (by (try dsimp only [blk]); first | done | omega)) (by (try dsimp only [blk]); first | done | omega))
              · skip
                refine at_const (x := 0) dx_15_55 rfl ?_
                refine at_zretI dx_15_56 (Or.inl rfl) ?_
                exact ⟨k2, Or.inl rfl⟩
          · skip
            refine at_iload dx_15_48 rfl ?_
            refine at_zneR dx_15_49 r44 (fun c49 => ?_) (fun c49 => ?_)
            · skip
              refine at_const (x := 0) dx_15_55 rfl ?_
              refine at_zretI dx_15_56 (Or.inl rfl) ?_
              exact ⟨k2, Or.inl rfl⟩
            · skip
              refine at_iload dx_15_50 rfl ?_
              refine at_zleR dx_15_51 rr (fun c51 => ?_) (fun c51 => ?_)
              · skip
                refine at_aload dx_15_57 rfl ?_
                refine at_getR dx_15_58 hs rfl (st_t6 hs) ?_
                refine at_iload dx_15_59 rfl ?_
                refine at_iload dx_15_60 rfl ?_
                refine at_astI dx_15_61 (st_c1 hs) (st_n1 hs) (by first | omega | (simp (disch := omega) only [um_eq, um_k, um_j]; omega)) (by first | omega | (simp (disch := omega) only [um_eq, um_k, um_j]; omega)) r28 ?_
                refine at_aload dx_15_62 rfl ?_
                refine at_getR dx_15_63 hs rfl (st_t7 hs) ?_
                refine at_iload dx_15_64 rfl ?_
                refine at_iload dx_15_65 rfl ?_
                refine at_iload dx_15_66 rfl ?_
                refine at_subW dx_15_67 ?_
                refine at_astI dx_15_68 (st_c2 hs) (st_n2 hs) (by first | omega | (simp (disch := omega) only [um_eq, um_k, um_j]; omega)) (by first | omega | (simp (disch := omega) only [um_eq, um_k, um_j]; omega)) (inR_wr _) ?_
                refine at_iload dx_15_69 rfl ?_
                refine at_istore dx_15_70 ?_
                refine at_iincR (y := 1) dx_15_71 rfl rfl (by constructor <;> omega) (fun r71 => ?_)
                refine at_goto dx_15_72 ?_
                refine at_wk (ls := [vr 25, vr s, vi _, vi _, vi _]) ⟨Or.inl rfl, Or.inl rfl, Or.inl rfl, Or.inl rfl, Or.inl rfl, trivial⟩ ?_
                exact ih _ (by omega) _ _ _ (by assumption) r71 (by omega) rfl (fr_ums (fr_ums k2 (by (try dsimp only [blk]); first | done | omega)) (by (try dsimp only [blk]); first | done | omega))
              · skip
                refine at_iload dx_15_52 rfl ?_
                refine at_iload dx_15_53 rfl ?_
                refine at_cgeR dx_15_54 r28 re (fun c54 => ?_) (fun c54 => ?_)
                · skip
                  refine at_aload dx_15_57 rfl ?_
                  refine at_getR dx_15_58 hs rfl (st_t6 hs) ?_
                  refine at_iload dx_15_59 rfl ?_
                  refine at_iload dx_15_60 rfl ?_
                  refine at_astI dx_15_61 (st_c1 hs) (st_n1 hs) (by first | omega | (simp (disch := omega) only [um_eq, um_k, um_j]; omega)) (by first | omega | (simp (disch := omega) only [um_eq, um_k, um_j]; omega)) r28 ?_
                  refine at_aload dx_15_62 rfl ?_
                  refine at_getR dx_15_63 hs rfl (st_t7 hs) ?_
                  refine at_iload dx_15_64 rfl ?_
                  refine at_iload dx_15_65 rfl ?_
                  refine at_iload dx_15_66 rfl ?_
                  refine at_subW dx_15_67 ?_
                  refine at_astI dx_15_68 (st_c2 hs) (st_n2 hs) (by first | omega | (simp (disch := omega) only [um_eq, um_k, um_j]; omega)) (by first | omega | (simp (disch := omega) only [um_eq, um_k, um_j]; omega)) (inR_wr _) ?_
                  refine at_iload dx_15_69 rfl ?_
                  refine at_istore dx_15_70 ?_
                  refine at_iincR (y := 1) dx_15_71 rfl rfl (by constructor <;> omega) (fun r71 => ?_)
                  refine at_goto dx_15_72 ?_
                  refine at_wk (ls := [vr 25, vr s, vi _, vi _, vi _]) ⟨Or.inl rfl, Or.inl rfl, Or.inl rfl, Or.inl rfl, Or.inl rfl, trivial⟩ ?_
                  exact ih _ (by omega) _ _ _ (by assumption) r71 (by omega) rfl (fr_ums (fr_ums k2 (by (try dsimp only [blk]); first | done | omega)) (by (try dsimp only [blk]); first | done | omega))
                · skip
                  refine at_const (x := 0) dx_15_55 rfl ?_
                  refine at_zretI dx_15_56 (Or.inl rfl) ?_
                  exact ⟨k2, Or.inl rfl⟩
  refine at_const (x := 0) dx_15_0 rfl ?_
  refine at_istore dx_15_1 ?_
  refine at_const (x := 0) dx_15_2 rfl ?_
  refine at_istore dx_15_3 ?_
  exact lp _ 0 0 _ (by decide) (by decide) (by decide) rfl fr_rf

set_option maxRecDepth 100000 in
set_option maxHeartbeats 4000000 in
theorem c_carryStep {X : scr} {M : mem} {f : Int} {s : Nat} (hs : ly_c s = 4) (hf : inR f) : At X 0 13 0 [vr 25, vr s, vi f] [] M (qI (fun x M' => fr (fun q => q = s ∨ q = s + 1 ∨ q = s + 2 ∨ q = 29) M M' ∧ (x = 0 ∨ x = 1))) := by
  refine at_aload dx_13_0 rfl ?_
  refine at_getI 0 dx_13_1 hs rfl rfl (fun r1 => ?_)
  refine at_zeqR dx_13_2 r1 (fun c2 => ?_) (fun c2 => ?_)
  · skip
    refine at_aload dx_13_8 rfl ?_
    refine at_aload dx_13_9 rfl ?_
    refine at_iload dx_13_10 rfl ?_
    refine at_callVI dx_13_11 rfl lc_25 rfl (c_carryChange hs hf) ?_
    rintro x M1 rx ⟨f1, hx⟩
    refine at_zretI dx_13_12 hx ?_
    exact ⟨fr_le f1 (fun q h => by (try dsimp only [blk] at h ⊢); first | done | omega), hx⟩
  · skip
    refine at_aload dx_13_3 rfl ?_
    refine at_aload dx_13_4 rfl ?_
    refine at_iload dx_13_5 rfl ?_
    refine at_callVI dx_13_6 rfl lc_25 rfl (c_carryMarking hs hf) ?_
    rintro x M1 rx ⟨f1, hx⟩
    refine at_goto dx_13_7 ?_
    refine at_zretI dx_13_12 hx ?_
    exact ⟨fr_le f1 (fun q h => by (try dsimp only [blk] at h ⊢); first | done | omega), hx⟩

set_option maxRecDepth 100000 in
set_option maxHeartbeats 4000000 in
theorem c_kindsOf {X : scr} {M : mem} {t e : Int} (ht : inR t) (he : inR e) : At X 0 2 0 [vr 1, vi t, vi e] [] M (qI (fun x M' => M' = M)) := by
  refine at_const (x := 3) dx_2_0 rfl ?_
  refine at_iload dx_2_1 rfl ?_
  refine at_mulW dx_2_2 ?_
  refine at_iload dx_2_3 rfl ?_
  refine at_addW dx_2_4 ?_
  refine at_istore dx_2_5 ?_
  refine at_iload dx_2_6 rfl ?_
  refine at_zltR dx_2_7 (inR_wr _) (fun c7 => ?_) (fun c7 => ?_)
  · skip
    refine at_const (x := 0) dx_2_18 rfl ?_
    refine at_iretI dx_2_19 (by decide) ?_
    exact rfl
  · skip
    refine at_iload dx_2_8 rfl ?_
    refine at_aload dx_2_9 rfl ?_
    refine at_getR dx_2_10 lc_1 rfl lt_1_0 ?_
    refine at_alen dx_2_11 lc_2 rfl ln_2 ?_
    refine at_cgeR dx_2_12 (inR_wr _) (by decide) (fun c12 => ?_) (fun c12 => ?_)
    · skip
      refine at_const (x := 0) dx_2_18 rfl ?_
      refine at_iretI dx_2_19 (by decide) ?_
      exact rfl
    · skip
      refine at_aload dx_2_13 rfl ?_
      refine at_getR dx_2_14 lc_1 rfl lt_1_0 ?_
      refine at_iload dx_2_15 rfl ?_
      refine at_aldI dx_2_16 lc_2 ln_2 (by first | omega | (simp (disch := omega) only [um_eq, um_k, um_j]; omega)) (by first | omega | (simp (disch := omega) only [um_eq, um_k, um_j]; omega)) (fun r16 => ?_)
      refine at_goto dx_2_17 ?_
      refine at_iretI dx_2_19 r16 ?_
      exact rfl

set_option maxRecDepth 100000 in
set_option maxHeartbeats 4000000 in
theorem c_quantityOf {X : scr} {M : mem} {t e : Int} (ht : inR t) (he : inR e) : At X 0 3 0 [vr 1, vi t, vi e] [] M (qI (fun x M' => M' = M)) := by
  refine at_const (x := 3) dx_3_0 rfl ?_
  refine at_iload dx_3_1 rfl ?_
  refine at_mulW dx_3_2 ?_
  refine at_iload dx_3_3 rfl ?_
  refine at_addW dx_3_4 ?_
  refine at_istore dx_3_5 ?_
  refine at_iload dx_3_6 rfl ?_
  refine at_zltR dx_3_7 (inR_wr _) (fun c7 => ?_) (fun c7 => ?_)
  · skip
    refine at_const (x := 0) dx_3_18 rfl ?_
    refine at_iretI dx_3_19 (by decide) ?_
    exact rfl
  · skip
    refine at_iload dx_3_8 rfl ?_
    refine at_aload dx_3_9 rfl ?_
    refine at_getR dx_3_10 lc_1 rfl lt_1_1 ?_
    refine at_alen dx_3_11 lc_3 rfl ln_3 ?_
    refine at_cgeR dx_3_12 (inR_wr _) (by decide) (fun c12 => ?_) (fun c12 => ?_)
    · skip
      refine at_const (x := 0) dx_3_18 rfl ?_
      refine at_iretI dx_3_19 (by decide) ?_
      exact rfl
    · skip
      refine at_aload dx_3_13 rfl ?_
      refine at_getR dx_3_14 lc_1 rfl lt_1_1 ?_
      refine at_iload dx_3_15 rfl ?_
      refine at_aldI dx_3_16 lc_3 ln_3 (by first | omega | (simp (disch := omega) only [um_eq, um_k, um_j]; omega)) (by first | omega | (simp (disch := omega) only [um_eq, um_k, um_j]; omega)) (fun r16 => ?_)
      refine at_goto dx_3_17 ?_
      refine at_iretI dx_3_19 r16 ?_
      exact rfl

set_option maxRecDepth 100000 in
set_option maxHeartbeats 4000000 in
theorem c_setElement {X : scr} {M : mem} {t e a b : Int} (ht : inR t) (he : inR e) (ha : inR a) (hb : inR b) : At X 0 4 0 [vr 1, vi t, vi e, vi a, vi b] [] M (qV (fun M' => fr (fun q => q = 2 ∨ q = 3) M M')) := by
  refine at_const (x := 3) dx_4_0 rfl ?_
  refine at_iload dx_4_1 rfl ?_
  refine at_mulW dx_4_2 ?_
  refine at_iload dx_4_3 rfl ?_
  refine at_addW dx_4_4 ?_
  refine at_istore dx_4_5 ?_
  refine at_iload dx_4_6 rfl ?_
  refine at_zltR dx_4_7 (inR_wr _) (fun c7 => ?_) (fun c7 => ?_)
  · skip
    refine at_vretV dx_4_28 ?_
    (repeat (first | exact fr_rf | refine fr_ums ?_ (by (try dsimp only [blk]); first | done | omega)))
  · skip
    refine at_iload dx_4_8 rfl ?_
    refine at_aload dx_4_9 rfl ?_
    refine at_getR dx_4_10 lc_1 rfl lt_1_0 ?_
    refine at_alen dx_4_11 lc_2 rfl ln_2 ?_
    refine at_cgeR dx_4_12 (inR_wr _) (by decide) (fun c12 => ?_) (fun c12 => ?_)
    · skip
      refine at_vretV dx_4_28 ?_
      (repeat (first | exact fr_rf | refine fr_ums ?_ (by (try dsimp only [blk]); first | done | omega)))
    · skip
      refine at_iload dx_4_13 rfl ?_
      refine at_aload dx_4_14 rfl ?_
      refine at_getR dx_4_15 lc_1 rfl lt_1_1 ?_
      refine at_alen dx_4_16 lc_3 rfl ln_3 ?_
      refine at_cgeR dx_4_17 (inR_wr _) (by decide) (fun c17 => ?_) (fun c17 => ?_)
      · skip
        refine at_vretV dx_4_28 ?_
        (repeat (first | exact fr_rf | refine fr_ums ?_ (by (try dsimp only [blk]); first | done | omega)))
      · skip
        refine at_aload dx_4_18 rfl ?_
        refine at_getR dx_4_19 lc_1 rfl lt_1_0 ?_
        refine at_iload dx_4_20 rfl ?_
        refine at_iload dx_4_21 rfl ?_
        refine at_astI dx_4_22 lc_2 ln_2 (by first | omega | (simp (disch := omega) only [um_eq, um_k, um_j]; omega)) (by first | omega | (simp (disch := omega) only [um_eq, um_k, um_j]; omega)) ha ?_
        refine at_aload dx_4_23 rfl ?_
        refine at_getR dx_4_24 lc_1 rfl lt_1_1 ?_
        refine at_iload dx_4_25 rfl ?_
        refine at_iload dx_4_26 rfl ?_
        refine at_astI dx_4_27 lc_3 ln_3 (by first | omega | (simp (disch := omega) only [um_eq, um_k, um_j]; omega)) (by first | omega | (simp (disch := omega) only [um_eq, um_k, um_j]; omega)) hb ?_
        refine at_vretV dx_4_28 ?_
        (repeat (first | exact fr_rf | refine fr_ums ?_ (by (try dsimp only [blk]); first | done | omega)))

set_option maxRecDepth 100000 in
set_option maxHeartbeats 4000000 in
theorem c_isEnd {X : scr} {M : mem} {t : Int} (ht : inR t) : At X 0 6 0 [vi t] [] M (qI (fun x M' => M' = M ∧ (x = 0 ∨ x = 1))) := by
  refine at_iload dx_6_0 rfl ?_
  refine at_const (x := 64) dx_6_1 rfl ?_
  refine at_and dx_6_2 ?_
  refine at_zeqR dx_6_3 (inR_and _ _) (fun c3 => ?_) (fun c3 => ?_)
  · skip
    refine at_const (x := 0) dx_6_6 rfl ?_
    refine at_zretI dx_6_7 (Or.inl rfl) ?_
    exact ⟨rfl, Or.inl rfl⟩
  · skip
    refine at_const (x := 1) dx_6_4 rfl ?_
    refine at_goto dx_6_5 ?_
    refine at_zretI dx_6_7 (Or.inr rfl) ?_
    exact ⟨rfl, Or.inr rfl⟩

set_option maxRecDepth 100000 in
set_option maxHeartbeats 4000000 in
theorem c_skip {X : scr} {M : mem} {t a : Int} (ht : inR t) (ha : inR a) : At X 0 8 0 [vr 1, vi t, vi a] [] M (qI (fun x M' => M' = M)) := by
  have lp : ∀ (n : Nat) (c e : Int) (rc : inR c) (re : inR e) (h0 : 0 ≤ e) (hn : (3 - e).toNat = n), At X 0 8 4 [vr 1, vi t, vi a, vi c, vi e] [] M (qI (fun x M' => M' = M)) := by
    intro n
    induction n using Nat.strongRecOn with
    | ind n ih =>
    intro c e rc re h0 hn
    refine at_iload dx_8_4 rfl ?_
    refine at_const (x := 3) dx_8_5 rfl ?_
    refine at_cgeR dx_8_6 re (by decide) (fun c6 => ?_) (fun c6 => ?_)
    · skip
      refine at_iload dx_8_95 rfl ?_
      refine at_iretI dx_8_96 rc ?_
      exact rfl
    · skip
      refine at_const (x := 3) dx_8_7 rfl ?_
      refine at_iload dx_8_8 rfl ?_
      refine at_mulW dx_8_9 ?_
      refine at_iload dx_8_10 rfl ?_
      refine at_addW dx_8_11 ?_
      refine at_istore dx_8_12 ?_
      refine at_iload dx_8_13 rfl ?_
      refine at_const (x := 2) dx_8_14 rfl ?_
      refine at_iload dx_8_15 rfl ?_
      refine at_mulR dx_8_16 (by constructor <;> omega) (fun r16 => ?_)
      refine at_shr dx_8_17 ?_
      refine at_const (x := 1) dx_8_18 rfl ?_
      refine at_and dx_8_19 ?_
      refine at_zeqR dx_8_20 (inR_and _ _) (fun c20 => ?_) (fun c20 => ?_)
      · skip
        refine at_const (x := 0) dx_8_23 rfl ?_
        refine at_istore dx_8_24 ?_
        refine at_iload dx_8_25 rfl ?_
        refine at_const (x := 2) dx_8_26 rfl ?_
        refine at_iload dx_8_27 rfl ?_
        refine at_mulR dx_8_28 (by constructor <;> omega) (fun r28 => ?_)
        refine at_const (x := 1) dx_8_29 rfl ?_
        refine at_addR dx_8_30 (by constructor <;> omega) (fun r30 => ?_)
        refine at_shr dx_8_31 ?_
        refine at_const (x := 1) dx_8_32 rfl ?_
        refine at_and dx_8_33 ?_
        refine at_zeqR dx_8_34 (inR_and _ _) (fun c34 => ?_) (fun c34 => ?_)
        · skip
          refine at_const (x := 0) dx_8_37 rfl ?_
          refine at_istore dx_8_38 ?_
          refine at_iload dx_8_39 rfl ?_
          refine at_zeqR dx_8_40 (by decide) (fun _ => ?_) (fun c => absurd c (by decide))
          refine at_iload dx_8_81 rfl ?_
          refine at_zeqR dx_8_82 (by decide) (fun _ => ?_) (fun c => absurd c (by decide))
          refine at_iincR (y := 1) dx_8_93 rfl rfl (by constructor <;> omega) (fun r93 => ?_)
          refine at_goto dx_8_94 ?_
          refine at_wk (ls := [vr 1, vi _, vi _, vi _, vi _]) ⟨Or.inl rfl, Or.inl rfl, Or.inl rfl, Or.inl rfl, Or.inl rfl, trivial⟩ ?_
          exact ih _ (by omega) _ _ (by first | assumption | exact inR_or _ _) r93 (by omega) rfl
        · skip
          refine at_const (x := 1) dx_8_35 rfl ?_
          refine at_goto dx_8_36 ?_
          refine at_istore dx_8_38 ?_
          refine at_iload dx_8_39 rfl ?_
          refine at_zeqR dx_8_40 (by decide) (fun _ => ?_) (fun c => absurd c (by decide))
          refine at_iload dx_8_81 rfl ?_
          refine at_zeqR dx_8_82 (by decide) (fun c => absurd c (by decide)) (fun _ => ?_)
          refine at_iload dx_8_83 rfl ?_
          refine at_const (x := 1) dx_8_84 rfl ?_
          refine at_const (x := 2) dx_8_85 rfl ?_
          refine at_iload dx_8_86 rfl ?_
          refine at_mulR dx_8_87 (by constructor <;> omega) (fun r87 => ?_)
          refine at_const (x := 2) dx_8_88 rfl ?_
          refine at_addR dx_8_89 (by constructor <;> omega) (fun r89 => ?_)
          refine at_shl dx_8_90 ?_
          refine at_or dx_8_91 ?_
          refine at_istore dx_8_92 ?_
          refine at_iincR (y := 1) dx_8_93 rfl rfl (by constructor <;> omega) (fun r93 => ?_)
          refine at_goto dx_8_94 ?_
          refine at_wk (ls := [vr 1, vi _, vi _, vi _, vi _]) ⟨Or.inl rfl, Or.inl rfl, Or.inl rfl, Or.inl rfl, Or.inl rfl, trivial⟩ ?_
          exact ih _ (by omega) _ _ (by first | assumption | exact inR_or _ _) r93 (by omega) rfl
      · skip
        refine at_const (x := 1) dx_8_21 rfl ?_
        refine at_goto dx_8_22 ?_
        refine at_istore dx_8_24 ?_
        refine at_iload dx_8_25 rfl ?_
        refine at_const (x := 2) dx_8_26 rfl ?_
        refine at_iload dx_8_27 rfl ?_
        refine at_mulR dx_8_28 (by constructor <;> omega) (fun r28 => ?_)
        refine at_const (x := 1) dx_8_29 rfl ?_
        refine at_addR dx_8_30 (by constructor <;> omega) (fun r30 => ?_)
        refine at_shr dx_8_31 ?_
        refine at_const (x := 1) dx_8_32 rfl ?_
        refine at_and dx_8_33 ?_
        refine at_zeqR dx_8_34 (inR_and _ _) (fun c34 => ?_) (fun c34 => ?_)
        · skip
          refine at_const (x := 0) dx_8_37 rfl ?_
          refine at_istore dx_8_38 ?_
          refine at_iload dx_8_39 rfl ?_
          refine at_zeqR dx_8_40 (by decide) (fun c => absurd c (by decide)) (fun _ => ?_)
          refine at_iload dx_8_41 rfl ?_
          refine at_zltR dx_8_42 (inR_wr _) (fun c42 => ?_) (fun c42 => ?_)
          · skip
            refine at_iload dx_8_81 rfl ?_
            refine at_zeqR dx_8_82 (by decide) (fun _ => ?_) (fun c => absurd c (by decide))
            refine at_iincR (y := 1) dx_8_93 rfl rfl (by constructor <;> omega) (fun r93 => ?_)
            refine at_goto dx_8_94 ?_
            refine at_wk (ls := [vr 1, vi _, vi _, vi _, vi _]) ⟨Or.inl rfl, Or.inl rfl, Or.inl rfl, Or.inl rfl, Or.inl rfl, trivial⟩ ?_
            exact ih _ (by omega) _ _ (by first | assumption | exact inR_or _ _) r93 (by omega) rfl
          · skip
            refine at_iload dx_8_43 rfl ?_
            refine at_aload dx_8_44 rfl ?_
            refine at_getR dx_8_45 lc_1 rfl lt_1_0 ?_
            refine at_alen dx_8_46 lc_2 rfl ln_2 ?_
            refine at_cgeR dx_8_47 (inR_wr _) (by decide) (fun c47 => ?_) (fun c47 => ?_)
            · skip
              refine at_iload dx_8_81 rfl ?_
              refine at_zeqR dx_8_82 (by decide) (fun _ => ?_) (fun c => absurd c (by decide))
              refine at_iincR (y := 1) dx_8_93 rfl rfl (by constructor <;> omega) (fun r93 => ?_)
              refine at_goto dx_8_94 ?_
              refine at_wk (ls := [vr 1, vi _, vi _, vi _, vi _]) ⟨Or.inl rfl, Or.inl rfl, Or.inl rfl, Or.inl rfl, Or.inl rfl, trivial⟩ ?_
              exact ih _ (by omega) _ _ (by first | assumption | exact inR_or _ _) r93 (by omega) rfl
            · skip
              refine at_iload dx_8_48 rfl ?_
              refine at_aload dx_8_49 rfl ?_
              refine at_getR dx_8_50 lc_1 rfl lt_1_1 ?_
              refine at_alen dx_8_51 lc_3 rfl ln_3 ?_
              refine at_cgeR dx_8_52 (inR_wr _) (by decide) (fun c52 => ?_) (fun c52 => ?_)
              · skip
                refine at_iload dx_8_81 rfl ?_
                refine at_zeqR dx_8_82 (by decide) (fun _ => ?_) (fun c => absurd c (by decide))
                refine at_iincR (y := 1) dx_8_93 rfl rfl (by constructor <;> omega) (fun r93 => ?_)
                refine at_goto dx_8_94 ?_
                refine at_wk (ls := [vr 1, vi _, vi _, vi _, vi _]) ⟨Or.inl rfl, Or.inl rfl, Or.inl rfl, Or.inl rfl, Or.inl rfl, trivial⟩ ?_
                exact ih _ (by omega) _ _ (by first | assumption | exact inR_or _ _) r93 (by omega) rfl
              · skip
                refine at_aload dx_8_53 rfl ?_
                refine at_getR dx_8_54 lc_1 rfl lt_1_1 ?_
                refine at_iload dx_8_55 rfl ?_
                refine at_aldI dx_8_56 lc_3 ln_3 (by first | omega | (simp (disch := omega) only [um_eq, um_k, um_j]; omega)) (by first | omega | (simp (disch := omega) only [um_eq, um_k, um_j]; omega)) (fun r56 => ?_)
                refine at_istore dx_8_57 ?_
                refine at_iload dx_8_58 rfl ?_
                refine at_const (x := 1) dx_8_59 rfl ?_
                refine at_ceqR dx_8_60 r56 (by decide) (fun c60 => ?_) (fun c60 => ?_)
                · skip
                  refine at_const (x := 1) dx_8_64 rfl ?_
                  refine at_goto dx_8_65 ?_
                  refine at_istore dx_8_67 ?_
                  refine at_iload dx_8_68 rfl ?_
                  refine at_zneR dx_8_69 (by decide) (fun c => absurd c (by decide)) (fun _ => ?_)
                  refine at_aload dx_8_70 rfl ?_
                  refine at_getR dx_8_71 lc_1 rfl lt_1_0 ?_
                  refine at_iload dx_8_72 rfl ?_
                  refine at_aldI dx_8_73 lc_2 ln_2 (by first | omega | (simp (disch := omega) only [um_eq, um_k, um_j]; omega)) (by first | omega | (simp (disch := omega) only [um_eq, um_k, um_j]; omega)) (fun r73 => ?_)
                  refine at_zeqR dx_8_74 r73 (fun c74 => ?_) (fun c74 => ?_)
                  · skip
                    refine at_const (x := 1) dx_8_77 rfl ?_
                    refine at_goto dx_8_78 ?_
                    refine at_istore dx_8_80 ?_
                    refine at_iload dx_8_81 rfl ?_
                    refine at_zeqR dx_8_82 (by decide) (fun c => absurd c (by decide)) (fun _ => ?_)
                    refine at_iload dx_8_83 rfl ?_
                    refine at_const (x := 1) dx_8_84 rfl ?_
                    refine at_const (x := 2) dx_8_85 rfl ?_
                    refine at_iload dx_8_86 rfl ?_
                    refine at_mulR dx_8_87 (by constructor <;> omega) (fun r87 => ?_)
                    refine at_const (x := 2) dx_8_88 rfl ?_
                    refine at_addR dx_8_89 (by constructor <;> omega) (fun r89 => ?_)
                    refine at_shl dx_8_90 ?_
                    refine at_or dx_8_91 ?_
                    refine at_istore dx_8_92 ?_
                    refine at_iincR (y := 1) dx_8_93 rfl rfl (by constructor <;> omega) (fun r93 => ?_)
                    refine at_goto dx_8_94 ?_
                    refine at_wk (ls := [vr 1, vi _, vi _, vi _, vi _]) ⟨Or.inl rfl, Or.inl rfl, Or.inl rfl, Or.inl rfl, Or.inl rfl, trivial⟩ ?_
                    exact ih _ (by omega) _ _ (by first | assumption | exact inR_or _ _) r93 (by omega) rfl
                  · skip
                    refine at_iload dx_8_75 rfl ?_
                    refine at_zeqR dx_8_76 (by decide) (fun c => absurd c (by decide)) (fun _ => ?_)
                    refine at_const (x := 1) dx_8_77 rfl ?_
                    refine at_goto dx_8_78 ?_
                    refine at_istore dx_8_80 ?_
                    refine at_iload dx_8_81 rfl ?_
                    refine at_zeqR dx_8_82 (by decide) (fun c => absurd c (by decide)) (fun _ => ?_)
                    refine at_iload dx_8_83 rfl ?_
                    refine at_const (x := 1) dx_8_84 rfl ?_
                    refine at_const (x := 2) dx_8_85 rfl ?_
                    refine at_iload dx_8_86 rfl ?_
                    refine at_mulR dx_8_87 (by constructor <;> omega) (fun r87 => ?_)
                    refine at_const (x := 2) dx_8_88 rfl ?_
                    refine at_addR dx_8_89 (by constructor <;> omega) (fun r89 => ?_)
                    refine at_shl dx_8_90 ?_
                    refine at_or dx_8_91 ?_
                    refine at_istore dx_8_92 ?_
                    refine at_iincR (y := 1) dx_8_93 rfl rfl (by constructor <;> omega) (fun r93 => ?_)
                    refine at_goto dx_8_94 ?_
                    refine at_wk (ls := [vr 1, vi _, vi _, vi _, vi _]) ⟨Or.inl rfl, Or.inl rfl, Or.inl rfl, Or.inl rfl, Or.inl rfl, trivial⟩ ?_
                    exact ih _ (by omega) _ _ (by first | assumption | exact inR_or _ _) r93 (by omega) rfl
                · skip
                  refine at_iload dx_8_61 rfl ?_
                  refine at_const (x := 2) dx_8_62 rfl ?_
                  refine at_cneR dx_8_63 r56 (by decide) (fun c63 => ?_) (fun c63 => ?_)
                  · skip
                    refine at_const (x := 0) dx_8_66 rfl ?_
                    refine at_istore dx_8_67 ?_
                    refine at_iload dx_8_68 rfl ?_
                    refine at_zneR dx_8_69 (by decide) (fun c => absurd c (by decide)) (fun _ => ?_)
                    refine at_aload dx_8_70 rfl ?_
                    refine at_getR dx_8_71 lc_1 rfl lt_1_0 ?_
                    refine at_iload dx_8_72 rfl ?_
                    refine at_aldI dx_8_73 lc_2 ln_2 (by first | omega | (simp (disch := omega) only [um_eq, um_k, um_j]; omega)) (by first | omega | (simp (disch := omega) only [um_eq, um_k, um_j]; omega)) (fun r73 => ?_)
                    refine at_zeqR dx_8_74 r73 (fun c74 => ?_) (fun c74 => ?_)
                    · skip
                      refine at_const (x := 1) dx_8_77 rfl ?_
                      refine at_goto dx_8_78 ?_
                      refine at_istore dx_8_80 ?_
                      refine at_iload dx_8_81 rfl ?_
                      refine at_zeqR dx_8_82 (by decide) (fun c => absurd c (by decide)) (fun _ => ?_)
                      refine at_iload dx_8_83 rfl ?_
                      refine at_const (x := 1) dx_8_84 rfl ?_
                      refine at_const (x := 2) dx_8_85 rfl ?_
                      refine at_iload dx_8_86 rfl ?_
                      refine at_mulR dx_8_87 (by constructor <;> omega) (fun r87 => ?_)
                      refine at_const (x := 2) dx_8_88 rfl ?_
                      refine at_addR dx_8_89 (by constructor <;> omega) (fun r89 => ?_)
                      refine at_shl dx_8_90 ?_
                      refine at_or dx_8_91 ?_
                      refine at_istore dx_8_92 ?_
                      refine at_iincR (y := 1) dx_8_93 rfl rfl (by constructor <;> omega) (fun r93 => ?_)
                      refine at_goto dx_8_94 ?_
                      refine at_wk (ls := [vr 1, vi _, vi _, vi _, vi _]) ⟨Or.inl rfl, Or.inl rfl, Or.inl rfl, Or.inl rfl, Or.inl rfl, trivial⟩ ?_
                      exact ih _ (by omega) _ _ (by first | assumption | exact inR_or _ _) r93 (by omega) rfl
                    · skip
                      refine at_iload dx_8_75 rfl ?_
                      refine at_zeqR dx_8_76 (by decide) (fun _ => ?_) (fun c => absurd c (by decide))
                      refine at_const (x := 0) dx_8_79 rfl ?_
                      refine at_istore dx_8_80 ?_
                      refine at_iload dx_8_81 rfl ?_
                      refine at_zeqR dx_8_82 (by decide) (fun _ => ?_) (fun c => absurd c (by decide))
                      refine at_iincR (y := 1) dx_8_93 rfl rfl (by constructor <;> omega) (fun r93 => ?_)
                      refine at_goto dx_8_94 ?_
                      refine at_wk (ls := [vr 1, vi _, vi _, vi _, vi _]) ⟨Or.inl rfl, Or.inl rfl, Or.inl rfl, Or.inl rfl, Or.inl rfl, trivial⟩ ?_
                      exact ih _ (by omega) _ _ (by first | assumption | exact inR_or _ _) r93 (by omega) rfl
                  · skip
                    refine at_const (x := 1) dx_8_64 rfl ?_
                    refine at_goto dx_8_65 ?_
                    refine at_istore dx_8_67 ?_
                    refine at_iload dx_8_68 rfl ?_
                    refine at_zneR dx_8_69 (by decide) (fun c => absurd c (by decide)) (fun _ => ?_)
                    refine at_aload dx_8_70 rfl ?_
                    refine at_getR dx_8_71 lc_1 rfl lt_1_0 ?_
                    refine at_iload dx_8_72 rfl ?_
                    refine at_aldI dx_8_73 lc_2 ln_2 (by first | omega | (simp (disch := omega) only [um_eq, um_k, um_j]; omega)) (by first | omega | (simp (disch := omega) only [um_eq, um_k, um_j]; omega)) (fun r73 => ?_)
                    refine at_zeqR dx_8_74 r73 (fun c74 => ?_) (fun c74 => ?_)
                    · skip
                      refine at_const (x := 1) dx_8_77 rfl ?_
                      refine at_goto dx_8_78 ?_
                      refine at_istore dx_8_80 ?_
                      refine at_iload dx_8_81 rfl ?_
                      refine at_zeqR dx_8_82 (by decide) (fun c => absurd c (by decide)) (fun _ => ?_)
                      refine at_iload dx_8_83 rfl ?_
                      refine at_const (x := 1) dx_8_84 rfl ?_
                      refine at_const (x := 2) dx_8_85 rfl ?_
                      refine at_iload dx_8_86 rfl ?_
                      refine at_mulR dx_8_87 (by constructor <;> omega) (fun r87 => ?_)
                      refine at_const (x := 2) dx_8_88 rfl ?_
                      refine at_addR dx_8_89 (by constructor <;> omega) (fun r89 => ?_)
                      refine at_shl dx_8_90 ?_
                      refine at_or dx_8_91 ?_
                      refine at_istore dx_8_92 ?_
                      refine at_iincR (y := 1) dx_8_93 rfl rfl (by constructor <;> omega) (fun r93 => ?_)
                      refine at_goto dx_8_94 ?_
                      refine at_wk (ls := [vr 1, vi _, vi _, vi _, vi _]) ⟨Or.inl rfl, Or.inl rfl, Or.inl rfl, Or.inl rfl, Or.inl rfl, trivial⟩ ?_
                      exact ih _ (by omega) _ _ (by first | assumption | exact inR_or _ _) r93 (by omega) rfl
                    · skip
                      refine at_iload dx_8_75 rfl ?_
                      refine at_zeqR dx_8_76 (by decide) (fun c => absurd c (by decide)) (fun _ => ?_)
                      refine at_const (x := 1) dx_8_77 rfl ?_
                      refine at_goto dx_8_78 ?_
                      refine at_istore dx_8_80 ?_
                      refine at_iload dx_8_81 rfl ?_
                      refine at_zeqR dx_8_82 (by decide) (fun c => absurd c (by decide)) (fun _ => ?_)
                      refine at_iload dx_8_83 rfl ?_
                      refine at_const (x := 1) dx_8_84 rfl ?_
                      refine at_const (x := 2) dx_8_85 rfl ?_
                      refine at_iload dx_8_86 rfl ?_
                      refine at_mulR dx_8_87 (by constructor <;> omega) (fun r87 => ?_)
                      refine at_const (x := 2) dx_8_88 rfl ?_
                      refine at_addR dx_8_89 (by constructor <;> omega) (fun r89 => ?_)
                      refine at_shl dx_8_90 ?_
                      refine at_or dx_8_91 ?_
                      refine at_istore dx_8_92 ?_
                      refine at_iincR (y := 1) dx_8_93 rfl rfl (by constructor <;> omega) (fun r93 => ?_)
                      refine at_goto dx_8_94 ?_
                      refine at_wk (ls := [vr 1, vi _, vi _, vi _, vi _]) ⟨Or.inl rfl, Or.inl rfl, Or.inl rfl, Or.inl rfl, Or.inl rfl, trivial⟩ ?_
                      exact ih _ (by omega) _ _ (by first | assumption | exact inR_or _ _) r93 (by omega) rfl
        · skip
          refine at_const (x := 1) dx_8_35 rfl ?_
          refine at_goto dx_8_36 ?_
          refine at_istore dx_8_38 ?_
          refine at_iload dx_8_39 rfl ?_
          refine at_zeqR dx_8_40 (by decide) (fun c => absurd c (by decide)) (fun _ => ?_)
          refine at_iload dx_8_41 rfl ?_
          refine at_zltR dx_8_42 (inR_wr _) (fun c42 => ?_) (fun c42 => ?_)
          · skip
            refine at_iload dx_8_81 rfl ?_
            refine at_zeqR dx_8_82 (by decide) (fun c => absurd c (by decide)) (fun _ => ?_)
            refine at_iload dx_8_83 rfl ?_
            refine at_const (x := 1) dx_8_84 rfl ?_
            refine at_const (x := 2) dx_8_85 rfl ?_
            refine at_iload dx_8_86 rfl ?_
            refine at_mulR dx_8_87 (by constructor <;> omega) (fun r87 => ?_)
            refine at_const (x := 2) dx_8_88 rfl ?_
            refine at_addR dx_8_89 (by constructor <;> omega) (fun r89 => ?_)
            refine at_shl dx_8_90 ?_
            refine at_or dx_8_91 ?_
            refine at_istore dx_8_92 ?_
            refine at_iincR (y := 1) dx_8_93 rfl rfl (by constructor <;> omega) (fun r93 => ?_)
            refine at_goto dx_8_94 ?_
            refine at_wk (ls := [vr 1, vi _, vi _, vi _, vi _]) ⟨Or.inl rfl, Or.inl rfl, Or.inl rfl, Or.inl rfl, Or.inl rfl, trivial⟩ ?_
            exact ih _ (by omega) _ _ (by first | assumption | exact inR_or _ _) r93 (by omega) rfl
          · skip
            refine at_iload dx_8_43 rfl ?_
            refine at_aload dx_8_44 rfl ?_
            refine at_getR dx_8_45 lc_1 rfl lt_1_0 ?_
            refine at_alen dx_8_46 lc_2 rfl ln_2 ?_
            refine at_cgeR dx_8_47 (inR_wr _) (by decide) (fun c47 => ?_) (fun c47 => ?_)
            · skip
              refine at_iload dx_8_81 rfl ?_
              refine at_zeqR dx_8_82 (by decide) (fun c => absurd c (by decide)) (fun _ => ?_)
              refine at_iload dx_8_83 rfl ?_
              refine at_const (x := 1) dx_8_84 rfl ?_
              refine at_const (x := 2) dx_8_85 rfl ?_
              refine at_iload dx_8_86 rfl ?_
              refine at_mulR dx_8_87 (by constructor <;> omega) (fun r87 => ?_)
              refine at_const (x := 2) dx_8_88 rfl ?_
              refine at_addR dx_8_89 (by constructor <;> omega) (fun r89 => ?_)
              refine at_shl dx_8_90 ?_
              refine at_or dx_8_91 ?_
              refine at_istore dx_8_92 ?_
              refine at_iincR (y := 1) dx_8_93 rfl rfl (by constructor <;> omega) (fun r93 => ?_)
              refine at_goto dx_8_94 ?_
              refine at_wk (ls := [vr 1, vi _, vi _, vi _, vi _]) ⟨Or.inl rfl, Or.inl rfl, Or.inl rfl, Or.inl rfl, Or.inl rfl, trivial⟩ ?_
              exact ih _ (by omega) _ _ (by first | assumption | exact inR_or _ _) r93 (by omega) rfl
            · skip
              refine at_iload dx_8_48 rfl ?_
              refine at_aload dx_8_49 rfl ?_
              refine at_getR dx_8_50 lc_1 rfl lt_1_1 ?_
              refine at_alen dx_8_51 lc_3 rfl ln_3 ?_
              refine at_cgeR dx_8_52 (inR_wr _) (by decide) (fun c52 => ?_) (fun c52 => ?_)
              · skip
                refine at_iload dx_8_81 rfl ?_
                refine at_zeqR dx_8_82 (by decide) (fun c => absurd c (by decide)) (fun _ => ?_)
                refine at_iload dx_8_83 rfl ?_
                refine at_const (x := 1) dx_8_84 rfl ?_
                refine at_const (x := 2) dx_8_85 rfl ?_
                refine at_iload dx_8_86 rfl ?_
                refine at_mulR dx_8_87 (by constructor <;> omega) (fun r87 => ?_)
                refine at_const (x := 2) dx_8_88 rfl ?_
                refine at_addR dx_8_89 (by constructor <;> omega) (fun r89 => ?_)
                refine at_shl dx_8_90 ?_
                refine at_or dx_8_91 ?_
                refine at_istore dx_8_92 ?_
                refine at_iincR (y := 1) dx_8_93 rfl rfl (by constructor <;> omega) (fun r93 => ?_)
                refine at_goto dx_8_94 ?_
                refine at_wk (ls := [vr 1, vi _, vi _, vi _, vi _]) ⟨Or.inl rfl, Or.inl rfl, Or.inl rfl, Or.inl rfl, Or.inl rfl, trivial⟩ ?_
                exact ih _ (by omega) _ _ (by first | assumption | exact inR_or _ _) r93 (by omega) rfl
              · skip
                refine at_aload dx_8_53 rfl ?_
                refine at_getR dx_8_54 lc_1 rfl lt_1_1 ?_
                refine at_iload dx_8_55 rfl ?_
                refine at_aldI dx_8_56 lc_3 ln_3 (by first | omega | (simp (disch := omega) only [um_eq, um_k, um_j]; omega)) (by first | omega | (simp (disch := omega) only [um_eq, um_k, um_j]; omega)) (fun r56 => ?_)
                refine at_istore dx_8_57 ?_
                refine at_iload dx_8_58 rfl ?_
                refine at_const (x := 1) dx_8_59 rfl ?_
                refine at_ceqR dx_8_60 r56 (by decide) (fun c60 => ?_) (fun c60 => ?_)
                · skip
                  refine at_const (x := 1) dx_8_64 rfl ?_
                  refine at_goto dx_8_65 ?_
                  refine at_istore dx_8_67 ?_
                  refine at_iload dx_8_68 rfl ?_
                  refine at_zneR dx_8_69 (by decide) (fun _ => ?_) (fun c => absurd c (by decide))
                  refine at_const (x := 1) dx_8_77 rfl ?_
                  refine at_goto dx_8_78 ?_
                  refine at_istore dx_8_80 ?_
                  refine at_iload dx_8_81 rfl ?_
                  refine at_zeqR dx_8_82 (by decide) (fun c => absurd c (by decide)) (fun _ => ?_)
                  refine at_iload dx_8_83 rfl ?_
                  refine at_const (x := 1) dx_8_84 rfl ?_
                  refine at_const (x := 2) dx_8_85 rfl ?_
                  refine at_iload dx_8_86 rfl ?_
                  refine at_mulR dx_8_87 (by constructor <;> omega) (fun r87 => ?_)
                  refine at_const (x := 2) dx_8_88 rfl ?_
                  refine at_addR dx_8_89 (by constructor <;> omega) (fun r89 => ?_)
                  refine at_shl dx_8_90 ?_
                  refine at_or dx_8_91 ?_
                  refine at_istore dx_8_92 ?_
                  refine at_iincR (y := 1) dx_8_93 rfl rfl (by constructor <;> omega) (fun r93 => ?_)
                  refine at_goto dx_8_94 ?_
                  refine at_wk (ls := [vr 1, vi _, vi _, vi _, vi _]) ⟨Or.inl rfl, Or.inl rfl, Or.inl rfl, Or.inl rfl, Or.inl rfl, trivial⟩ ?_
                  exact ih _ (by omega) _ _ (by first | assumption | exact inR_or _ _) r93 (by omega) rfl
                · skip
                  refine at_iload dx_8_61 rfl ?_
                  refine at_const (x := 2) dx_8_62 rfl ?_
                  refine at_cneR dx_8_63 r56 (by decide) (fun c63 => ?_) (fun c63 => ?_)
                  · skip
                    refine at_const (x := 0) dx_8_66 rfl ?_
                    refine at_istore dx_8_67 ?_
                    refine at_iload dx_8_68 rfl ?_
                    refine at_zneR dx_8_69 (by decide) (fun _ => ?_) (fun c => absurd c (by decide))
                    refine at_const (x := 1) dx_8_77 rfl ?_
                    refine at_goto dx_8_78 ?_
                    refine at_istore dx_8_80 ?_
                    refine at_iload dx_8_81 rfl ?_
                    refine at_zeqR dx_8_82 (by decide) (fun c => absurd c (by decide)) (fun _ => ?_)
                    refine at_iload dx_8_83 rfl ?_
                    refine at_const (x := 1) dx_8_84 rfl ?_
                    refine at_const (x := 2) dx_8_85 rfl ?_
                    refine at_iload dx_8_86 rfl ?_
                    refine at_mulR dx_8_87 (by constructor <;> omega) (fun r87 => ?_)
                    refine at_const (x := 2) dx_8_88 rfl ?_
                    refine at_addR dx_8_89 (by constructor <;> omega) (fun r89 => ?_)
                    refine at_shl dx_8_90 ?_
                    refine at_or dx_8_91 ?_
                    refine at_istore dx_8_92 ?_
                    refine at_iincR (y := 1) dx_8_93 rfl rfl (by constructor <;> omega) (fun r93 => ?_)
                    refine at_goto dx_8_94 ?_
                    refine at_wk (ls := [vr 1, vi _, vi _, vi _, vi _]) ⟨Or.inl rfl, Or.inl rfl, Or.inl rfl, Or.inl rfl, Or.inl rfl, trivial⟩ ?_
                    exact ih _ (by omega) _ _ (by first | assumption | exact inR_or _ _) r93 (by omega) rfl
                  · skip
                    refine at_const (x := 1) dx_8_64 rfl ?_
                    refine at_goto dx_8_65 ?_
                    refine at_istore dx_8_67 ?_
                    refine at_iload dx_8_68 rfl ?_
                    refine at_zneR dx_8_69 (by decide) (fun _ => ?_) (fun c => absurd c (by decide))
                    refine at_const (x := 1) dx_8_77 rfl ?_
                    refine at_goto dx_8_78 ?_
                    refine at_istore dx_8_80 ?_
                    refine at_iload dx_8_81 rfl ?_
                    refine at_zeqR dx_8_82 (by decide) (fun c => absurd c (by decide)) (fun _ => ?_)
                    refine at_iload dx_8_83 rfl ?_
                    refine at_const (x := 1) dx_8_84 rfl ?_
                    refine at_const (x := 2) dx_8_85 rfl ?_
                    refine at_iload dx_8_86 rfl ?_
                    refine at_mulR dx_8_87 (by constructor <;> omega) (fun r87 => ?_)
                    refine at_const (x := 2) dx_8_88 rfl ?_
                    refine at_addR dx_8_89 (by constructor <;> omega) (fun r89 => ?_)
                    refine at_shl dx_8_90 ?_
                    refine at_or dx_8_91 ?_
                    refine at_istore dx_8_92 ?_
                    refine at_iincR (y := 1) dx_8_93 rfl rfl (by constructor <;> omega) (fun r93 => ?_)
                    refine at_goto dx_8_94 ?_
                    refine at_wk (ls := [vr 1, vi _, vi _, vi _, vi _]) ⟨Or.inl rfl, Or.inl rfl, Or.inl rfl, Or.inl rfl, Or.inl rfl, trivial⟩ ?_
                    exact ih _ (by omega) _ _ (by first | assumption | exact inR_or _ _) r93 (by omega) rfl
  refine at_iload dx_8_0 rfl ?_
  refine at_istore dx_8_1 ?_
  refine at_const (x := 0) dx_8_2 rfl ?_
  refine at_istore dx_8_3 ?_
  exact lp _ _ 0 ha (by decide) (by decide) rfl

set_option maxRecDepth 100000 in
set_option maxHeartbeats 4000000 in
theorem c_advance {X : scr} {M : mem} {t a k : Int} (ht : inR t) (ha : inR a) (hk : inR k) : At X 0 7 0 [vr 1, vi t, vi a, vi k] [] M (qI (fun x M' => M' = M)) := by
  have lp : ∀ (n : Nat) (c e : Int) (rc : inR c) (re : inR e) (h0 : 0 ≤ e) (hn : (3 - e).toNat = n), At X 0 7 4 [vr 1, vi t, vi a, vi k, vi c, vi e] [] M (qI (fun x M' => M' = M)) := by
    intro n
    induction n using Nat.strongRecOn with
    | ind n ih =>
    intro c e rc re h0 hn
    refine at_iload dx_7_4 rfl ?_
    refine at_const (x := 3) dx_7_5 rfl ?_
    refine at_cgeR dx_7_6 re (by decide) (fun c6 => ?_) (fun c6 => ?_)
    · skip
      refine at_aload dx_7_89 rfl ?_
      refine at_iload dx_7_90 rfl ?_
      refine at_iload dx_7_91 rfl ?_
      refine at_callVI dx_7_92 rfl lc_1 rfl (c_skip ht rc) ?_
      intro x M9 rx e9; replace e9 := Eq.symm e9; subst e9
      refine at_iretI dx_7_93 rx ?_
      exact rfl
    · skip
      refine at_const (x := 3) dx_7_7 rfl ?_
      refine at_iload dx_7_8 rfl ?_
      refine at_mulW dx_7_9 ?_
      refine at_iload dx_7_10 rfl ?_
      refine at_addW dx_7_11 ?_
      refine at_istore dx_7_12 ?_
      refine at_iload dx_7_13 rfl ?_
      refine at_const (x := 2) dx_7_14 rfl ?_
      refine at_iload dx_7_15 rfl ?_
      refine at_mulR dx_7_16 (by constructor <;> omega) (fun r16 => ?_)
      refine at_shr dx_7_17 ?_
      refine at_const (x := 3) dx_7_18 rfl ?_
      refine at_and dx_7_19 ?_
      refine at_zeqR dx_7_20 (inR_and _ _) (fun c20 => ?_) (fun c20 => ?_)
      · skip
        refine at_const (x := 0) dx_7_23 rfl ?_
        refine at_istore dx_7_24 ?_
        refine at_iload dx_7_25 rfl ?_
        refine at_zeqR dx_7_26 (by decide) (fun _ => ?_) (fun c => absurd c (by decide))
        refine at_iincR (y := 1) dx_7_87 rfl rfl (by constructor <;> omega) (fun r87 => ?_)
        refine at_goto dx_7_88 ?_
        refine at_wk (ls := [vr 1, vi _, vi _, vi _, vi _, vi _]) ⟨Or.inl rfl, Or.inl rfl, Or.inl rfl, Or.inl rfl, Or.inl rfl, Or.inl rfl, trivial⟩ ?_
        exact ih _ (by omega) _ _ (by first | assumption | exact inR_or _ _) r87 (by omega) rfl
      · skip
        refine at_const (x := 1) dx_7_21 rfl ?_
        refine at_goto dx_7_22 ?_
        refine at_istore dx_7_24 ?_
        refine at_iload dx_7_25 rfl ?_
        refine at_zeqR dx_7_26 (by decide) (fun c => absurd c (by decide)) (fun _ => ?_)
        refine at_iload dx_7_27 rfl ?_
        refine at_zltR dx_7_28 (inR_wr _) (fun c28 => ?_) (fun c28 => ?_)
        · skip
          refine at_iincR (y := 1) dx_7_87 rfl rfl (by constructor <;> omega) (fun r87 => ?_)
          refine at_goto dx_7_88 ?_
          refine at_wk (ls := [vr 1, vi _, vi _, vi _, vi _, vi _]) ⟨Or.inl rfl, Or.inl rfl, Or.inl rfl, Or.inl rfl, Or.inl rfl, Or.inl rfl, trivial⟩ ?_
          exact ih _ (by omega) _ _ (by first | assumption | exact inR_or _ _) r87 (by omega) rfl
        · skip
          refine at_iload dx_7_29 rfl ?_
          refine at_aload dx_7_30 rfl ?_
          refine at_getR dx_7_31 lc_1 rfl lt_1_0 ?_
          refine at_alen dx_7_32 lc_2 rfl ln_2 ?_
          refine at_cgeR dx_7_33 (inR_wr _) (by decide) (fun c33 => ?_) (fun c33 => ?_)
          · skip
            refine at_iincR (y := 1) dx_7_87 rfl rfl (by constructor <;> omega) (fun r87 => ?_)
            refine at_goto dx_7_88 ?_
            refine at_wk (ls := [vr 1, vi _, vi _, vi _, vi _, vi _]) ⟨Or.inl rfl, Or.inl rfl, Or.inl rfl, Or.inl rfl, Or.inl rfl, Or.inl rfl, trivial⟩ ?_
            exact ih _ (by omega) _ _ (by first | assumption | exact inR_or _ _) r87 (by omega) rfl
          · skip
            refine at_iload dx_7_34 rfl ?_
            refine at_aload dx_7_35 rfl ?_
            refine at_getR dx_7_36 lc_1 rfl lt_1_1 ?_
            refine at_alen dx_7_37 lc_3 rfl ln_3 ?_
            refine at_cgeR dx_7_38 (inR_wr _) (by decide) (fun c38 => ?_) (fun c38 => ?_)
            · skip
              refine at_iincR (y := 1) dx_7_87 rfl rfl (by constructor <;> omega) (fun r87 => ?_)
              refine at_goto dx_7_88 ?_
              refine at_wk (ls := [vr 1, vi _, vi _, vi _, vi _, vi _]) ⟨Or.inl rfl, Or.inl rfl, Or.inl rfl, Or.inl rfl, Or.inl rfl, Or.inl rfl, trivial⟩ ?_
              exact ih _ (by omega) _ _ (by first | assumption | exact inR_or _ _) r87 (by omega) rfl
            · skip
              refine at_aload dx_7_39 rfl ?_
              refine at_getR dx_7_40 lc_1 rfl lt_1_0 ?_
              refine at_iload dx_7_41 rfl ?_
              refine at_aldI dx_7_42 lc_2 ln_2 (by first | omega | (simp (disch := omega) only [um_eq, um_k, um_j]; omega)) (by first | omega | (simp (disch := omega) only [um_eq, um_k, um_j]; omega)) (fun r42 => ?_)
              refine at_iload dx_7_43 rfl ?_
              refine at_shr dx_7_44 ?_
              refine at_const (x := 1) dx_7_45 rfl ?_
              refine at_and dx_7_46 ?_
              refine at_zeqR dx_7_47 (inR_and _ _) (fun c47 => ?_) (fun c47 => ?_)
              · skip
                refine at_const (x := 0) dx_7_50 rfl ?_
                refine at_istore dx_7_51 ?_
                refine at_aload dx_7_52 rfl ?_
                refine at_getR dx_7_53 lc_1 rfl lt_1_1 ?_
                refine at_iload dx_7_54 rfl ?_
                refine at_aldI dx_7_55 lc_3 ln_3 (by first | omega | (simp (disch := omega) only [um_eq, um_k, um_j]; omega)) (by first | omega | (simp (disch := omega) only [um_eq, um_k, um_j]; omega)) (fun r55 => ?_)
                refine at_istore dx_7_56 ?_
                refine at_iload dx_7_57 rfl ?_
                refine at_const (x := 2) dx_7_58 rfl ?_
                refine at_ceqR dx_7_59 r55 (by decide) (fun c59 => ?_) (fun c59 => ?_)
                · skip
                  refine at_const (x := 1) dx_7_63 rfl ?_
                  refine at_goto dx_7_64 ?_
                  refine at_istore dx_7_66 ?_
                  refine at_iload dx_7_67 rfl ?_
                  refine at_zeqR dx_7_68 (by decide) (fun _ => ?_) (fun c => absurd c (by decide))
                  refine at_iincR (y := 1) dx_7_87 rfl rfl (by constructor <;> omega) (fun r87 => ?_)
                  refine at_goto dx_7_88 ?_
                  refine at_wk (ls := [vr 1, vi _, vi _, vi _, vi _, vi _]) ⟨Or.inl rfl, Or.inl rfl, Or.inl rfl, Or.inl rfl, Or.inl rfl, Or.inl rfl, trivial⟩ ?_
                  exact ih _ (by omega) _ _ (by first | assumption | exact inR_or _ _) r87 (by omega) rfl
                · skip
                  refine at_iload dx_7_60 rfl ?_
                  refine at_const (x := 3) dx_7_61 rfl ?_
                  refine at_cneR dx_7_62 r55 (by decide) (fun c62 => ?_) (fun c62 => ?_)
                  · skip
                    refine at_const (x := 0) dx_7_65 rfl ?_
                    refine at_istore dx_7_66 ?_
                    refine at_iload dx_7_67 rfl ?_
                    refine at_zeqR dx_7_68 (by decide) (fun _ => ?_) (fun c => absurd c (by decide))
                    refine at_iincR (y := 1) dx_7_87 rfl rfl (by constructor <;> omega) (fun r87 => ?_)
                    refine at_goto dx_7_88 ?_
                    refine at_wk (ls := [vr 1, vi _, vi _, vi _, vi _, vi _]) ⟨Or.inl rfl, Or.inl rfl, Or.inl rfl, Or.inl rfl, Or.inl rfl, Or.inl rfl, trivial⟩ ?_
                    exact ih _ (by omega) _ _ (by first | assumption | exact inR_or _ _) r87 (by omega) rfl
                  · skip
                    refine at_const (x := 1) dx_7_63 rfl ?_
                    refine at_goto dx_7_64 ?_
                    refine at_istore dx_7_66 ?_
                    refine at_iload dx_7_67 rfl ?_
                    refine at_zeqR dx_7_68 (by decide) (fun _ => ?_) (fun c => absurd c (by decide))
                    refine at_iincR (y := 1) dx_7_87 rfl rfl (by constructor <;> omega) (fun r87 => ?_)
                    refine at_goto dx_7_88 ?_
                    refine at_wk (ls := [vr 1, vi _, vi _, vi _, vi _, vi _]) ⟨Or.inl rfl, Or.inl rfl, Or.inl rfl, Or.inl rfl, Or.inl rfl, Or.inl rfl, trivial⟩ ?_
                    exact ih _ (by omega) _ _ (by first | assumption | exact inR_or _ _) r87 (by omega) rfl
              · skip
                refine at_const (x := 1) dx_7_48 rfl ?_
                refine at_goto dx_7_49 ?_
                refine at_istore dx_7_51 ?_
                refine at_aload dx_7_52 rfl ?_
                refine at_getR dx_7_53 lc_1 rfl lt_1_1 ?_
                refine at_iload dx_7_54 rfl ?_
                refine at_aldI dx_7_55 lc_3 ln_3 (by first | omega | (simp (disch := omega) only [um_eq, um_k, um_j]; omega)) (by first | omega | (simp (disch := omega) only [um_eq, um_k, um_j]; omega)) (fun r55 => ?_)
                refine at_istore dx_7_56 ?_
                refine at_iload dx_7_57 rfl ?_
                refine at_const (x := 2) dx_7_58 rfl ?_
                refine at_ceqR dx_7_59 r55 (by decide) (fun c59 => ?_) (fun c59 => ?_)
                · skip
                  refine at_const (x := 1) dx_7_63 rfl ?_
                  refine at_goto dx_7_64 ?_
                  refine at_istore dx_7_66 ?_
                  refine at_iload dx_7_67 rfl ?_
                  refine at_zeqR dx_7_68 (by decide) (fun c => absurd c (by decide)) (fun _ => ?_)
                  refine at_iload dx_7_69 rfl ?_
                  refine at_const (x := 1) dx_7_70 rfl ?_
                  refine at_iload dx_7_71 rfl ?_
                  refine at_zeqR dx_7_72 (by decide) (fun c => absurd c (by decide)) (fun _ => ?_)
                  refine at_const (x := 2) dx_7_73 rfl ?_
                  refine at_iload dx_7_74 rfl ?_
                  refine at_mulR dx_7_75 (by constructor <;> omega) (fun r75 => ?_)
                  refine at_const (x := 1) dx_7_76 rfl ?_
                  refine at_addR dx_7_77 (by constructor <;> omega) (fun r77 => ?_)
                  refine at_goto dx_7_78 ?_
                  refine at_shl dx_7_84 ?_
                  refine at_or dx_7_85 ?_
                  refine at_istore dx_7_86 ?_
                  refine at_iincR (y := 1) dx_7_87 rfl rfl (by constructor <;> omega) (fun r87 => ?_)
                  refine at_goto dx_7_88 ?_
                  refine at_wk (ls := [vr 1, vi _, vi _, vi _, vi _, vi _]) ⟨Or.inl rfl, Or.inl rfl, Or.inl rfl, Or.inl rfl, Or.inl rfl, Or.inl rfl, trivial⟩ ?_
                  exact ih _ (by omega) _ _ (by first | assumption | exact inR_or _ _) r87 (by omega) rfl
                · skip
                  refine at_iload dx_7_60 rfl ?_
                  refine at_const (x := 3) dx_7_61 rfl ?_
                  refine at_cneR dx_7_62 r55 (by decide) (fun c62 => ?_) (fun c62 => ?_)
                  · skip
                    refine at_const (x := 0) dx_7_65 rfl ?_
                    refine at_istore dx_7_66 ?_
                    refine at_iload dx_7_67 rfl ?_
                    refine at_zeqR dx_7_68 (by decide) (fun c => absurd c (by decide)) (fun _ => ?_)
                    refine at_iload dx_7_69 rfl ?_
                    refine at_const (x := 1) dx_7_70 rfl ?_
                    refine at_iload dx_7_71 rfl ?_
                    refine at_zeqR dx_7_72 (by decide) (fun _ => ?_) (fun c => absurd c (by decide))
                    refine at_const (x := 2) dx_7_79 rfl ?_
                    refine at_iload dx_7_80 rfl ?_
                    refine at_mulR dx_7_81 (by constructor <;> omega) (fun r81 => ?_)
                    refine at_const (x := 2) dx_7_82 rfl ?_
                    refine at_addR dx_7_83 (by constructor <;> omega) (fun r83 => ?_)
                    refine at_shl dx_7_84 ?_
                    refine at_or dx_7_85 ?_
                    refine at_istore dx_7_86 ?_
                    refine at_iincR (y := 1) dx_7_87 rfl rfl (by constructor <;> omega) (fun r87 => ?_)
                    refine at_goto dx_7_88 ?_
                    refine at_wk (ls := [vr 1, vi _, vi _, vi _, vi _, vi _]) ⟨Or.inl rfl, Or.inl rfl, Or.inl rfl, Or.inl rfl, Or.inl rfl, Or.inl rfl, trivial⟩ ?_
                    exact ih _ (by omega) _ _ (by first | assumption | exact inR_or _ _) r87 (by omega) rfl
                  · skip
                    refine at_const (x := 1) dx_7_63 rfl ?_
                    refine at_goto dx_7_64 ?_
                    refine at_istore dx_7_66 ?_
                    refine at_iload dx_7_67 rfl ?_
                    refine at_zeqR dx_7_68 (by decide) (fun c => absurd c (by decide)) (fun _ => ?_)
                    refine at_iload dx_7_69 rfl ?_
                    refine at_const (x := 1) dx_7_70 rfl ?_
                    refine at_iload dx_7_71 rfl ?_
                    refine at_zeqR dx_7_72 (by decide) (fun c => absurd c (by decide)) (fun _ => ?_)
                    refine at_const (x := 2) dx_7_73 rfl ?_
                    refine at_iload dx_7_74 rfl ?_
                    refine at_mulR dx_7_75 (by constructor <;> omega) (fun r75 => ?_)
                    refine at_const (x := 1) dx_7_76 rfl ?_
                    refine at_addR dx_7_77 (by constructor <;> omega) (fun r77 => ?_)
                    refine at_goto dx_7_78 ?_
                    refine at_shl dx_7_84 ?_
                    refine at_or dx_7_85 ?_
                    refine at_istore dx_7_86 ?_
                    refine at_iincR (y := 1) dx_7_87 rfl rfl (by constructor <;> omega) (fun r87 => ?_)
                    refine at_goto dx_7_88 ?_
                    refine at_wk (ls := [vr 1, vi _, vi _, vi _, vi _, vi _]) ⟨Or.inl rfl, Or.inl rfl, Or.inl rfl, Or.inl rfl, Or.inl rfl, Or.inl rfl, trivial⟩ ?_
                    exact ih _ (by omega) _ _ (by first | assumption | exact inR_or _ _) r87 (by omega) rfl
  refine at_const (x := 0) dx_7_0 rfl ?_
  refine at_istore dx_7_1 ?_
  refine at_const (x := 0) dx_7_2 rfl ?_
  refine at_istore dx_7_3 ?_
  exact lp _ _ 0 (by decide) (by decide) (by decide) rfl

set_option maxRecDepth 100000 in
set_option maxHeartbeats 4000000 in
theorem c_isOpening {X : scr} {M : mem} {t : Int} (ht : inR t) : At X 0 70 0 [vi t] [] M (qI (fun x M' => M' = M ∧ x = if 1 ≤ t ∧ t ≤ 5 then 1 else 0)) := by
  refine at_iload dx_70_0 rfl ?_
  refine at_const (x := 1) dx_70_1 rfl ?_
  refine at_cltR dx_70_2 ht (by decide) (fun c2 => ?_) (fun c2 => ?_)
  · skip
    refine at_const (x := 0) dx_70_8 rfl ?_
    refine at_zretI dx_70_9 (Or.inl rfl) ?_
    refine ⟨rfl, ?_⟩; rw [if_neg (by omega)]
  · skip
    refine at_iload dx_70_3 rfl ?_
    refine at_const (x := 5) dx_70_4 rfl ?_
    refine at_cgtR dx_70_5 ht (by decide) (fun c5 => ?_) (fun c5 => ?_)
    · skip
      refine at_const (x := 0) dx_70_8 rfl ?_
      refine at_zretI dx_70_9 (Or.inl rfl) ?_
      refine ⟨rfl, ?_⟩; rw [if_neg (by omega)]
    · skip
      refine at_const (x := 1) dx_70_6 rfl ?_
      refine at_goto dx_70_7 ?_
      refine at_zretI dx_70_9 (Or.inr rfl) ?_
      refine ⟨rfl, ?_⟩; rw [if_pos (by omega)]
