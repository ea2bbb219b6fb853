/-! ===== drafts, maps of comments, confirming ===== -/
set_option maxRecDepth 100000 in
set_option maxHeartbeats 4000000 in
theorem c_draftsBare {X : scr} {M : mem} {c : Nat} {p : Int} (hc : ly_c c = 0) (hp : inR p) (hT : TI M) : At X 0 82 0 [vr 0, vr c, vi p] [] M (qI (fun x M' => fr sd M M' ∧ TI M' ∧ (x = 0 ∨ x = 1))) := by
  have h8 := cl_al hc
  have lp : ∀ (n : Nat) (t f : Int) (M1 : mem) (rt : inR t) (rf : inR f) (h0 : 0 ≤ f) (hn : (t - f).toNat = n) (g1 : fr sd M M1) (j1 : TI M1), At X 0 82 6 [vr 0, vr c, vi p, vi t, vi f] [] M1 (qI (fun x M' => fr sd M M' ∧ TI M' ∧ (x = 0 ∨ x = 1))) := by
    intro n
    induction n using Nat.strongRecOn with
    | ind n ih =>
    intro t f M1 rt rf h0 hn g1 j1
    refine at_iload dx_82_6 rfl ?_
    refine at_iload dx_82_7 rfl ?_
    refine at_cgeR dx_82_8 rf rt (fun c8 => ?_) (fun c8 => ?_)
    · skip
      refine at_const (x := 0) dx_82_31 rfl ?_
      refine at_zretI dx_82_32 (Or.inl rfl) ?_
      exact ⟨g1, j1, Or.inl rfl⟩
    · skip
      refine at_aload dx_82_9 rfl ?_
      refine at_aload dx_82_10 rfl ?_
      refine at_iload dx_82_11 rfl ?_
      refine at_iload dx_82_12 rfl ?_
      refine at_iload dx_82_13 rfl ?_
      refine at_callVI dx_82_14 rfl lc_0 rfl (c_draftsSlice hc hp rf rt j1) ?_
      rintro x14 M14 r14 ⟨f14, i14, b14⟩
      refine at_zeqR dx_82_15 r14 (fun c15 => ?_) (fun c15 => ?_)
      · skip
        refine at_aload dx_82_18 rfl ?_
        refine at_getR dx_82_19 hc rfl (cl_t6 hc) ?_
        refine at_iload dx_82_20 rfl ?_
        refine at_callVI dx_82_21 rfl (cl_c6 hc) rfl (c_findClosing (cl_c6 hc) rf (i14 _ (cl_c6 hc))) ?_
        intro x21 M9 r21 e9; replace e9 := Eq.symm e9; subst e9
        refine at_iload dx_82_22 rfl ?_
        refine at_const (x := 1) dx_82_23 rfl ?_
        refine at_subR dx_82_24 (by constructor <;> omega) (fun r24 => ?_)
        refine at_ceqR dx_82_25 r21 r24 (fun c25 => ?_) (fun c25 => ?_)
        · skip
          refine at_iincR (y := -1) dx_82_28 rfl rfl (by constructor <;> omega) (fun r28 => ?_)
          refine at_iincR (y := 1) dx_82_29 rfl rfl (by constructor <;> omega) (fun r29 => ?_)
          refine at_goto dx_82_30 ?_
          exact ih _ (by omega) _ _ _ r28 r29 (by omega) rfl (fr_tr g1 f14) i14
        · skip
          refine at_const (x := 0) dx_82_26 rfl ?_
          refine at_zretI dx_82_27 (Or.inl rfl) ?_
          exact ⟨fr_tr g1 f14, i14, Or.inl rfl⟩
      · skip
        refine at_const (x := 1) dx_82_16 rfl ?_
        refine at_zretI dx_82_17 (Or.inr rfl) ?_
        exact ⟨fr_tr g1 f14, i14, Or.inr rfl⟩
  refine at_aload dx_82_0 rfl ?_
  refine at_getR dx_82_1 hc rfl (cl_t6 hc) ?_
  refine at_getI 1 dx_82_2 (cl_c6 hc) rfl rfl (fun r2 => ?_)
  refine at_istore dx_82_3 ?_
  refine at_const (x := 0) dx_82_4 rfl ?_
  refine at_istore dx_82_5 ?_
  exact lp _ _ 0 _ r2 (by decide) (by decide) rfl fr_rf hT

set_option maxRecDepth 100000 in
set_option maxHeartbeats 4000000 in
theorem c_draftsWrapped {X : scr} {M : mem} {c : Nat} {p : Int} (hc : ly_c c = 0) (hp : inR p) (hT : TI M) : At X 0 84 0 [vr 0, vr c, vi p] [] M (qI (fun x M' => fr sd M M' ∧ TI M' ∧ (x = 0 ∨ x = 1))) := by
  have h8 := cl_al hc
  have hk := hT _ (cl_c6 hc)
  have lp : ∀ (n : Nat) (t : Int) (M1 : mem) (rt : inR t) (hn : (6 - t).toNat = n) (g1 : fr sd M M1) (j1 : TI M1), At X 0 84 11 [vr 0, vr c, vi p, vi t] [] M1 (qI (fun x M' => fr sd M M' ∧ TI M' ∧ (x = 0 ∨ x = 1))) := by
    intro n
    induction n using Nat.strongRecOn with
    | ind n ih =>
    intro t M1 rt hn g1 j1
    have lq : ∀ (n2 : Nat) (i : Int) (M2 : mem) (ri : inR i) (ht5 : t ≤ 5) (hn2 : (60 - i).toNat = n2) (k2 : fr sd M M2) (l2 : TI M2), At X 0 84 28 [vr 0, vr c, vi p, vi t, vi i] [] M2 (qI (fun x M' => fr sd M M' ∧ TI M' ∧ (x = 0 ∨ x = 1))) := by
      intro n2
      induction n2 using Nat.strongRecOn with
      | ind n2 ih2 =>
      intro i M2 ri ht5 hn2 k2 l2
      have hk2 := l2 _ (cl_c6 hc)
      refine at_iload dx_84_28 rfl ?_
      refine at_aload dx_84_29 rfl ?_
      refine at_getR dx_84_30 hc rfl (cl_t6 hc) ?_
      refine at_getI 1 dx_84_31 (cl_c6 hc) rfl rfl (fun r31 => ?_)
      refine at_cgeR dx_84_32 ri r31 (fun c32 => ?_) (fun c32 => ?_)
      · skip
        refine at_aload dx_84_42 rfl ?_
        refine at_getR dx_84_43 lc_0 rfl lt_0_8 ?_
        refine at_const (x := 0) dx_84_44 rfl ?_
        refine at_callVV dx_84_45 rfl lc_12 rfl (c_addPut lc_12 (by decide) l2) ?_
        rintro M45 ⟨f45, i45⟩
        replace k2 := fr_tr k2 (fr_le f45 (fun q h => by (try dsimp only [blk, sq, cq, sd, lo] at h ⊢); first | done | omega))
        refine at_aload dx_84_46 rfl ?_
        refine at_aload dx_84_47 rfl ?_
        refine at_getR dx_84_48 lc_0 rfl lt_0_8 ?_
        refine at_aload dx_84_49 rfl ?_
        refine at_getR dx_84_50 hc rfl (cl_t5 hc) ?_
        refine at_callVI dx_84_51 rfl lc_0 rfl (c_isPossible lc_12 (cl_c4 hc) (by omega) (by omega) (by omega) i45) ?_
        rintro x51 M51 r51 ⟨f51, i51, b51, w51⟩
        replace f51 : fr sd _ M51 := fr_le f51 (fun q h => by (try dsimp only [blk, sq, cq, sd, lo] at h ⊢); first | done | omega)
        refine at_zeqR dx_84_52 r51 (fun c52 => ?_) (fun c52 => ?_)
        · skip
          refine at_iincR (y := 1) dx_84_55 rfl rfl (by constructor <;> omega) (fun r55 => ?_)
          refine at_goto dx_84_56 ?_
          refine at_wk (ls := [vr 0, vr c, vi _, vi _]) ⟨Or.inl rfl, Or.inl rfl, Or.inl rfl, Or.inl rfl, trivial⟩ ?_
          exact ih _ (by omega) _ _ r55 rfl (fr_tr k2 f51) i51
        · skip
          refine at_const (x := 1) dx_84_53 rfl ?_
          refine at_zretI dx_84_54 (Or.inr rfl) ?_
          exact ⟨fr_tr k2 f51, i51, Or.inr rfl⟩
      · skip
        refine at_aload dx_84_33 rfl ?_
        refine at_getR dx_84_34 lc_0 rfl lt_0_8 ?_
        refine at_aload dx_84_35 rfl ?_
        refine at_getR dx_84_36 hc rfl (cl_t6 hc) ?_
        refine at_iload dx_84_37 rfl ?_
        refine at_callVI dx_84_38 rfl (cl_c6 hc) rfl (c_at (cl_c6 hc) ri hk2) ?_
        rintro x38 M9 r38 ⟨e9, h38⟩; replace e9 := e9.symm; subst e9
        refine at_callVV dx_84_39 rfl lc_12 rfl (c_addPut lc_12 r38 l2) ?_
        rintro M39 ⟨f39, i39⟩
        refine at_iincR (y := 1) dx_84_40 rfl rfl (by constructor <;> omega) (fun r40 => ?_)
        refine at_goto dx_84_41 ?_
        exact ih2 _ (by omega) _ _ r40 ht5 rfl (fr_tr k2 (fr_le f39 (fun q h => by (try dsimp only [blk, sq, cq, sd, lo] at h ⊢); first | done | omega))) i39
    refine at_iload dx_84_11 rfl ?_
    refine at_const (x := 5) dx_84_12 rfl ?_
    refine at_cgtR dx_84_13 rt (by decide) (fun c13 => ?_) (fun c13 => ?_)
    · skip
      refine at_const (x := 0) dx_84_57 rfl ?_
      refine at_zretI dx_84_58 (Or.inl rfl) ?_
      exact ⟨g1, j1, Or.inl rfl⟩
    · skip
      refine at_aload dx_84_14 rfl ?_
      refine at_getR dx_84_15 lc_0 rfl lt_0_8 ?_
      refine at_callVV dx_84_16 rfl lc_12 rfl (c_becomeChangeW lc_12 j1) ?_
      rintro M16 ⟨f16, i16⟩
      refine at_aload dx_84_17 rfl ?_
      refine at_getR dx_84_18 lc_0 rfl lt_0_8 ?_
      refine at_iload dx_84_19 rfl ?_
      refine at_const (x := 0) dx_84_20 rfl ?_
      refine at_callVV dx_84_21 rfl lc_12 rfl (c_addRange lc_12 hp (by decide) i16) ?_
      rintro M21 ⟨f21, i21⟩
      refine at_aload dx_84_22 rfl ?_
      refine at_getR dx_84_23 lc_0 rfl lt_0_8 ?_
      refine at_iload dx_84_24 rfl ?_
      refine at_callVV dx_84_25 rfl lc_12 rfl (c_addPut lc_12 rt i21) ?_
      rintro M25 ⟨f25, i25⟩
      refine at_const (x := 0) dx_84_26 rfl ?_
      refine at_istore dx_84_27 ?_
      exact lq _ 0 _ (by decide) (by omega) rfl (fr_tr g1 (fr_le (fr_tr f16 (fr_tr f21 f25)) (fun q h => by (try dsimp only [blk, sq, cq, sd, lo] at h ⊢); first | done | omega))) i25
  refine at_aload dx_84_0 rfl ?_
  refine at_getR dx_84_1 hc rfl (cl_t6 hc) ?_
  refine at_getI 1 dx_84_2 (cl_c6 hc) rfl rfl (fun r2 => ?_)
  refine at_const (x := 2) dx_84_3 rfl ?_
  refine at_addR dx_84_4 (by constructor <;> omega) (fun r4 => ?_)
  refine at_const (x := 60) dx_84_5 rfl ?_
  refine at_cleR dx_84_6 r4 (by decide) (fun c6 => ?_) (fun c6 => ?_)
  · skip
    refine at_const (x := 1) dx_84_9 rfl ?_
    refine at_istore dx_84_10 ?_
    exact lp _ 1 _ (by decide) rfl fr_rf hT
  · skip
    refine at_const (x := 0) dx_84_7 rfl ?_
    refine at_zretI dx_84_8 (Or.inl rfl) ?_
    exact ⟨fr_rf, hT, Or.inl rfl⟩

set_option maxRecDepth 100000 in
set_option maxHeartbeats 4000000 in
theorem c_addConfirmedMaps {X : scr} {M : mem} {f t : Int} (hf : inR f) (ht : inR t) (hI : RI M) : At X 0 85 0 [vr 0, vi f, vi t] [] M (qV (fun M' => fr (fun q => q = 25 ∨ q = 26 ∨ q = 27 ∨ q = 28) M M' ∧ RI M')) := by
  have lp : ∀ (n : Nat) (i : Int) (M1 : mem) (ri : inR i) (hn : (t - i).toNat = n) (g1 : fr (fun q => q = 25 ∨ q = 26 ∨ q = 27 ∨ q = 28) M M1) (j1 : RI M1), At X 0 85 2 [vr 0, vi f, vi t, vi i] [] M1 (qV (fun M' => fr (fun q => q = 25 ∨ q = 26 ∨ q = 27 ∨ q = 28) M M' ∧ RI M')) := by
    intro n
    induction n using Nat.strongRecOn with
    | ind n ih =>
    intro i M1 ri hn g1 j1
    refine at_iload dx_85_2 rfl ?_
    refine at_iload dx_85_3 rfl ?_
    refine at_cgeR dx_85_4 ri ht (fun c4 => ?_) (fun c4 => ?_)
    · skip
      refine at_vretV dx_85_22 ?_
      exact ⟨g1, j1⟩
    · skip
      refine at_iload dx_85_5 rfl ?_
      refine at_zltR dx_85_6 ri (fun c6 => ?_) (fun c6 => ?_)
      · skip
        refine at_iincR (y := 1) dx_85_20 rfl rfl (by constructor <;> omega) (fun r20 => ?_)
        refine at_goto dx_85_21 ?_
        first | exact ih _ (by omega) _ _ r20 rfl (fr_tr g1 f19) i19 | exact ih _ (by omega) _ _ r20 rfl g1 j1
      · skip
        refine at_iload dx_85_7 rfl ?_
        refine at_aload dx_85_8 rfl ?_
        refine at_getR dx_85_9 lc_0 rfl lt_0_2 ?_
        refine at_alen dx_85_10 lc_8 rfl ln_8 ?_
        refine at_cgeR dx_85_11 ri (by decide) (fun c11 => ?_) (fun c11 => ?_)
        · skip
          refine at_iincR (y := 1) dx_85_20 rfl rfl (by constructor <;> omega) (fun r20 => ?_)
          refine at_goto dx_85_21 ?_
          first | exact ih _ (by omega) _ _ r20 rfl (fr_tr g1 f19) i19 | exact ih _ (by omega) _ _ r20 rfl g1 j1
        · skip
          refine at_aload dx_85_12 rfl ?_
          refine at_getR dx_85_13 lc_0 rfl lt_0_12 ?_
          refine at_aload dx_85_14 rfl ?_
          refine at_getR dx_85_15 lc_0 rfl lt_0_2 ?_
          refine at_iload dx_85_16 rfl ?_
          refine at_aldS dx_85_17 lc_8 ln_8 (by first | omega | (simp (disch := omega) only [um_eq, um_k, um_j]; omega)) (by first | omega | (simp (disch := omega) only [um_eq, um_k, um_j]; omega)) (lg_t (by omega) (by omega)) ?_
          refine at_const (x := 0) dx_85_18 rfl ?_
          refine at_callVV dx_85_19 rfl lc_25 rfl (c_addMap (lg_c (by omega) (by omega)) (Or.inl rfl) (by decide) j1) ?_
          rintro M19 ⟨f19, i19⟩
          refine at_iincR (y := 1) dx_85_20 rfl rfl (by constructor <;> omega) (fun r20 => ?_)
          refine at_goto dx_85_21 ?_
          first | exact ih _ (by omega) _ _ r20 rfl (fr_tr g1 f19) i19 | exact ih _ (by omega) _ _ r20 rfl g1 j1
  refine at_iload dx_85_0 rfl ?_
  refine at_istore dx_85_1 ?_
  exact lp _ _ _ hf rfl fr_rf hI

set_option maxRecDepth 100000 in
set_option maxHeartbeats 4000000 in
theorem c_mapOver {X : scr} {M : mem} {s : Nat} {p z : Int} (hs : ly_c s = 4) (hp : inR p) (hz : z = 0 ∨ z = 1) (rz : inR z) : At X 0 89 0 [vr 0, vr s, vi p, vi z] [] M (qI (fun x M' => fr (fun q => q = 30) M M')) := by
  refine at_aload dx_89_0 rfl ?_
  refine at_getR dx_89_1 lc_0 rfl lt_0_13 ?_
  refine at_iload dx_89_2 rfl ?_
  refine at_iload dx_89_3 rfl ?_
  refine at_callVV dx_89_4 rfl lc_30 rfl (c_begin lc_30 hp hz rz) ?_
  intro M1 f1
  refine at_aload dx_89_5 rfl ?_
  refine at_aload dx_89_6 rfl ?_
  refine at_getR dx_89_7 lc_0 rfl lt_0_13 ?_
  refine at_const (x := 0) dx_89_8 rfl ?_
  refine at_callVV dx_89_9 rfl hs rfl (c_carry hs lc_30 (Or.inl rfl)) ?_
  intro M2 f2
  refine at_aload dx_89_10 rfl ?_
  refine at_getR dx_89_11 lc_0 rfl lt_0_13 ?_
  refine at_getI 0 dx_89_12 lc_30 rfl rfl (fun r12 => ?_)
  refine at_iretI dx_89_13 r12 ?_
  exact fr_tr f1 f2

set_option maxRecDepth 100000 in
set_option maxHeartbeats 4000000 in
theorem c_mapComments {X : scr} {M : mem} {s : Nat} (hs : ly_c s = 4) : At X 0 88 0 [vr 0, vr s] [] M (qV (fun M' => fr (fun q => q = 10 ∨ q = 11 ∨ q = 30) M M')) := by
  have lp : ∀ (n : Nat) (i : Int) (M1 : mem) (ri : inR i) (hi : 0 ≤ i) (hn : (10 - i).toNat = n) (g1 : fr (fun q => q = 10 ∨ q = 11 ∨ q = 30) M M1), At X 0 88 2 [vr 0, vr s, vi i] [] M1 (qV (fun M' => fr (fun q => q = 10 ∨ q = 11 ∨ q = 30) M M')) := by
    intro n
    induction n using Nat.strongRecOn with
    | ind n ih =>
    intro i M1 ri hi hn g1
    refine at_iload dx_88_2 rfl ?_
    refine at_aload dx_88_3 rfl ?_
    refine at_getI 7 dx_88_4 lc_0 rfl rfl (fun r4 => ?_)
    refine at_cgeR dx_88_5 ri r4 (fun c5 => ?_) (fun c5 => ?_)
    · skip
      refine at_vretV dx_88_50 ?_
      exact g1
    · skip
      refine at_iload dx_88_6 rfl ?_
      refine at_const (x := 10) dx_88_7 rfl ?_
      refine at_cgeR dx_88_8 ri (by decide) (fun c8 => ?_) (fun c8 => ?_)
      · skip
        refine at_vretV dx_88_50 ?_
        exact g1
      · skip
        refine at_aload dx_88_9 rfl ?_
        refine at_getR dx_88_10 lc_0 rfl lt_0_5 ?_
        refine at_iload dx_88_11 rfl ?_
        refine at_aldI dx_88_12 lc_10 ln_10 (by first | omega | (simp (disch := omega) only [um_eq, um_k, um_j]; omega)) (by first | omega | (simp (disch := omega) only [um_eq, um_k, um_j]; omega)) (fun r12 => ?_)
        refine at_const (x := -1) dx_88_13 rfl ?_
        refine at_ceqR dx_88_14 r12 (by decide) (fun c14 => ?_) (fun c14 => ?_)
        · skip
          refine at_iincR (y := 1) dx_88_48 rfl rfl (by constructor <;> omega) (fun r48 => ?_)
          refine at_goto dx_88_49 ?_
          first | exact ih _ (by omega) _ _ r48 (by omega) rfl g1 | exact ih _ (by omega) _ _ r48 (by omega) rfl (fr_ums (fr_ums (fr_tr g1 (fr_le (fr_tr f22 f31) (fun q h => by (try dsimp only [blk, sq, cq, sd, lo] at h ⊢); first | done | omega))) (by (try dsimp only [blk, sq, cq, sd, lo]); first | done | omega)) (by (try dsimp only [blk, sq, cq, sd, lo]); first | done | omega))
        · skip
          refine at_aload dx_88_15 rfl ?_
          refine at_aload dx_88_16 rfl ?_
          refine at_aload dx_88_17 rfl ?_
          refine at_getR dx_88_18 lc_0 rfl lt_0_5 ?_
          refine at_iload dx_88_19 rfl ?_
          refine at_aldI dx_88_20 lc_10 ln_10 (by first | omega | (simp (disch := omega) only [um_eq, um_k, um_j]; omega)) (by first | omega | (simp (disch := omega) only [um_eq, um_k, um_j]; omega)) (fun r20 => ?_)
          refine at_const (x := 1) dx_88_21 rfl ?_
          refine at_callVI dx_88_22 rfl lc_0 rfl (c_mapOver hs r20 (Or.inr rfl) (by decide)) ?_
          intro x22 M22 r22 f22
          refine at_istore dx_88_23 ?_
          refine at_aload dx_88_24 rfl ?_
          refine at_aload dx_88_25 rfl ?_
          refine at_aload dx_88_26 rfl ?_
          refine at_getR dx_88_27 lc_0 rfl lt_0_6 ?_
          refine at_iload dx_88_28 rfl ?_
          refine at_aldI dx_88_29 lc_11 ln_11 (by first | omega | (simp (disch := omega) only [um_eq, um_k, um_j]; omega)) (by first | omega | (simp (disch := omega) only [um_eq, um_k, um_j]; omega)) (fun r29 => ?_)
          refine at_const (x := 0) dx_88_30 rfl ?_
          refine at_callVI dx_88_31 rfl lc_0 rfl (c_mapOver hs r29 (Or.inl rfl) (by decide)) ?_
          intro x31 M31 r31 f31
          refine at_istore dx_88_32 ?_
          refine at_aload dx_88_33 rfl ?_
          refine at_getR dx_88_34 lc_0 rfl lt_0_5 ?_
          refine at_iload dx_88_35 rfl ?_
          refine at_iload dx_88_36 rfl ?_
          refine at_iload dx_88_37 rfl ?_
          refine at_cleR dx_88_38 r31 r22 (fun c38 => ?_) (fun c38 => ?_)
          · skip
            refine at_const (x := -1) dx_88_41 rfl ?_
            refine at_astI dx_88_42 lc_10 ln_10 (by first | omega | (simp (disch := omega) only [um_eq, um_k, um_j]; omega)) (by first | omega | (simp (disch := omega) only [um_eq, um_k, um_j]; omega)) (by decide) ?_
            refine at_aload dx_88_43 rfl ?_
            refine at_getR dx_88_44 lc_0 rfl lt_0_6 ?_
            refine at_iload dx_88_45 rfl ?_
            refine at_iload dx_88_46 rfl ?_
            refine at_astI dx_88_47 lc_11 ln_11 (by first | omega | (simp (disch := omega) only [um_eq, um_k, um_j]; omega)) (by first | omega | (simp (disch := omega) only [um_eq, um_k, um_j]; omega)) r31 ?_
            refine at_iincR (y := 1) dx_88_48 rfl rfl (by constructor <;> omega) (fun r48 => ?_)
            refine at_goto dx_88_49 ?_
            refine at_wk (ls := [vr 0, vr s, vi _]) ⟨Or.inl rfl, Or.inl rfl, Or.inl rfl, trivial⟩ ?_
            first | exact ih _ (by omega) _ _ r48 (by omega) rfl g1 | exact ih _ (by omega) _ _ r48 (by omega) rfl (fr_ums (fr_ums (fr_tr g1 (fr_le (fr_tr f22 f31) (fun q h => by (try dsimp only [blk, sq, cq, sd, lo] at h ⊢); first | done | omega))) (by (try dsimp only [blk, sq, cq, sd, lo]); first | done | omega)) (by (try dsimp only [blk, sq, cq, sd, lo]); first | done | omega))
          · skip
            refine at_iload dx_88_39 rfl ?_
            refine at_goto dx_88_40 ?_
            refine at_astI dx_88_42 lc_10 ln_10 (by first | omega | (simp (disch := omega) only [um_eq, um_k, um_j]; omega)) (by first | omega | (simp (disch := omega) only [um_eq, um_k, um_j]; omega)) r22 ?_
            refine at_aload dx_88_43 rfl ?_
            refine at_getR dx_88_44 lc_0 rfl lt_0_6 ?_
            refine at_iload dx_88_45 rfl ?_
            refine at_iload dx_88_46 rfl ?_
            refine at_astI dx_88_47 lc_11 ln_11 (by first | omega | (simp (disch := omega) only [um_eq, um_k, um_j]; omega)) (by first | omega | (simp (disch := omega) only [um_eq, um_k, um_j]; omega)) r31 ?_
            refine at_iincR (y := 1) dx_88_48 rfl rfl (by constructor <;> omega) (fun r48 => ?_)
            refine at_goto dx_88_49 ?_
            refine at_wk (ls := [vr 0, vr s, vi _]) ⟨Or.inl rfl, Or.inl rfl, Or.inl rfl, trivial⟩ ?_
            first | exact ih _ (by omega) _ _ r48 (by omega) rfl g1 | exact ih _ (by omega) _ _ r48 (by omega) rfl (fr_ums (fr_ums (fr_tr g1 (fr_le (fr_tr f22 f31) (fun q h => by (try dsimp only [blk, sq, cq, sd, lo] at h ⊢); first | done | omega))) (by (try dsimp only [blk, sq, cq, sd, lo]); first | done | omega)) (by (try dsimp only [blk, sq, cq, sd, lo]); first | done | omega))
  refine at_const (x := 0) dx_88_0 rfl ?_
  refine at_istore dx_88_1 ?_
  exact lp _ 0 _ (by decide) (by decide) rfl fr_rf

set_option maxRecDepth 100000 in
set_option maxHeartbeats 4000000 in
theorem c_confirm {X : scr} {M : mem} {s : Nat} (hs : ly_c s = 4) (hp : 592 ≤ s) (hT : TI M) (hn : 0 ≤ M 0 3 ∧ M 0 3 < 60) (hok : okV (sv M s) (tk M 6)) : At X 0 87 0 [vr 0, vr s] [] M (qV (fun M' => fr (fun q => q = 0 ∨ q = 6 ∨ q = 7 ∨ q = 10 ∨ q = 11 ∨ q = 20 ∨ q = 21 ∨ q = 30 ∨ blk (32 + 8 * (M 0 3).toNat) q) M M' ∧ TI M' ∧ M' 0 3 = M 0 3 + 1 ∧ (∀ j, j ≠ 3 → M' 0 j = M 0 j) ∧ sv M' (32 + 8 * (M 0 3).toNat) = sv M s ∧ tk M' 6 = apV (sv M s) (tk M 6))) := by
  have hl : ly_c (32 + 8 * (M 0 3).toNat) = 4 := lg_c (by omega) (by omega)
  refine at_aload dx_87_0 rfl ?_
  refine at_getI 3 dx_87_1 lc_0 rfl rfl (fun r1 => ?_)
  refine at_aload dx_87_2 rfl ?_
  refine at_getR dx_87_3 lc_0 rfl lt_0_2 ?_
  refine at_alen dx_87_4 lc_8 rfl ln_8 ?_
  refine at_cltR dx_87_5 r1 (by decide) (fun c5 => ?_) (fun c5 => ?_)
  rotate_left
  · exfalso; omega
  · skip
    refine at_aload dx_87_7 rfl ?_
    refine at_getR dx_87_8 lc_0 rfl lt_0_2 ?_
    refine at_aload dx_87_9 rfl ?_
    refine at_getI 3 dx_87_10 lc_0 rfl rfl (fun r10 => ?_)
    refine at_aldS dx_87_11 lc_8 ln_8 (by first | omega | (simp (disch := omega) only [um_eq, um_k, um_j]; omega)) (by first | omega | (simp (disch := omega) only [um_eq, um_k, um_j]; omega)) (lg_t (by omega) (by omega)) ?_
    refine at_astore dx_87_12 ?_
    refine at_aload dx_87_13 rfl ?_
    refine at_aload dx_87_14 rfl ?_
    refine at_callVV dx_87_15 rfl hl rfl (c_stepBecome hl hs (by omega) hT) ?_
    rintro M15 ⟨f15, i15, s15, -⟩
    refine at_aload dx_87_16 rfl ?_
    refine at_aload dx_87_17 rfl ?_
    refine at_getR dx_87_18 lc_0 rfl lt_0_1 ?_
    refine at_aload dx_87_19 rfl ?_
    refine at_getR dx_87_20 lc_0 rfl lt_0_9 ?_
    refine at_callVI dx_87_21 rfl hl rfl (c_applyTo hl lc_6 lc_20 (by decide) (by omega) (by omega) (by omega) (by omega) i15) ?_
    rintro x21 M21 r21 ⟨f21, i21, b21, w21, t21⟩
    refine at_zeqR dx_87_22 r21 (fun c22 => ?_) (fun c22 => ?_)
    · exfalso; exact absurd (w21.mpr (by rw [s15, tk_fr f15 (by (try dsimp only [blk, sq, cq, sd, lo]); first | done | omega) (by (try dsimp only [blk, sq, cq, sd, lo]); first | done | omega)]; exact hok)) (by omega)
    · skip
      refine at_aload dx_87_23 rfl ?_
      refine at_getR dx_87_24 lc_0 rfl lt_0_1 ?_
      refine at_aload dx_87_25 rfl ?_
      refine at_getR dx_87_26 lc_0 rfl lt_0_9 ?_
      refine at_callVV dx_87_27 rfl lc_6 rfl (c_become lc_6 lc_20 (by decide) (i21 _ lc_20)) ?_
      rintro M27 ⟨f27, i27, t27⟩
      have e27 : ∀ j, M27 0 j = M 0 j := fun j => (f27 0 j (by (try dsimp only [blk, sq, cq, sd, lo]); first | done | omega)).trans ((f21 0 j (by (try dsimp only [blk, sq, cq, sd, lo]); first | done | omega)).trans (f15 0 j (by (try dsimp only [blk, sq, cq, sd, lo]); first | done | omega)))
      refine at_aload dx_87_28 rfl ?_
      refine at_dup dx_87_29 rfl ?_
      refine at_getI 3 dx_87_30 lc_0 rfl rfl (fun r30 => ?_)
      rw [e27] at r30 ⊢
      refine at_const (x := 1) dx_87_31 rfl ?_
      refine at_addR dx_87_32 (by constructor <;> omega) (fun r32 => ?_)
      refine at_putI 3 dx_87_33 lc_0 rfl rfl r32 ?_
      refine at_aload dx_87_34 rfl ?_
      refine at_aload dx_87_35 rfl ?_
      refine at_callVV dx_87_36 rfl lc_0 rfl (c_mapComments hl) ?_
      intro M36 f36
      refine at_vretV dx_87_37 ?_
      have x1 : x21 = 1 := by omega
      have hu : fr (fun q => q = 0) M27 (um M27 0 3 (M 0 3 + 1)) := fr_um rfl
      refine ⟨fr_tr (fr_tr (fr_tr (fr_tr (fr_le f15 (fun q h => by (try dsimp only [blk, sq, cq, sd, lo] at h ⊢); first | done | omega)) (fr_le f21 (fun q h => by (try dsimp only [blk, sq, cq, sd, lo] at h ⊢); first | done | omega))) (fr_le f27 (fun q h => by (try dsimp only [blk, sq, cq, sd, lo] at h ⊢); first | done | omega))) (fr_le hu (fun q h => by (try dsimp only [blk, sq, cq, sd, lo] at h ⊢); first | done | omega))) (fr_le f36 (fun q h => by (try dsimp only [blk, sq, cq, sd, lo] at h ⊢); first | done | omega)), ?_, ?_, ?_, ?_, ?_⟩
      · refine TI_no (TI_um (TI_fr i21 f27 (fun k hk hP => ?_)) (by rw [lc_0]; decide)) f36 (fun k hk hP => ?_)
        · rcases hP with h | h
          · subst h; exact i27
          · have := tk_e hk; omega
        · rcases hP with h | h | h
          · rw [h, lc_10] at hk; exact absurd hk (by decide)
          · rw [h, lc_11] at hk; exact absurd hk (by decide)
          · rw [h, lc_30] at hk; exact absurd hk (by decide)
      · rw [f36 0 3 (by (try dsimp only [blk, sq, cq, sd, lo]); first | done | omega), um_eq]
      · intro j hj; rw [f36 0 j (by (try dsimp only [blk, sq, cq, sd, lo]); first | done | omega), um_j hj, e27]
      · rw [sv_fr f36 (by (try dsimp only [blk, sq, cq, sd, lo]); first | done | omega) (by (try dsimp only [blk, sq, cq, sd, lo]); first | done | omega) (by (try dsimp only [blk, sq, cq, sd, lo]); first | done | omega) (by (try dsimp only [blk, sq, cq, sd, lo]); first | done | omega) (by (try dsimp only [blk, sq, cq, sd, lo]); first | done | omega) (by (try dsimp only [blk, sq, cq, sd, lo]); first | done | omega), sv_fr hu (by (try dsimp only [blk, sq, cq, sd, lo]); first | done | omega) (by (try dsimp only [blk, sq, cq, sd, lo]); first | done | omega) (by (try dsimp only [blk, sq, cq, sd, lo]); first | done | omega) (by (try dsimp only [blk, sq, cq, sd, lo]); first | done | omega) (by (try dsimp only [blk, sq, cq, sd, lo]); first | done | omega) (by (try dsimp only [blk, sq, cq, sd, lo]); first | done | omega), sv_fr f27 (by (try dsimp only [blk, sq, cq, sd, lo]); first | done | omega) (by (try dsimp only [blk, sq, cq, sd, lo]); first | done | omega) (by (try dsimp only [blk, sq, cq, sd, lo]); first | done | omega) (by (try dsimp only [blk, sq, cq, sd, lo]); first | done | omega) (by (try dsimp only [blk, sq, cq, sd, lo]); first | done | omega) (by (try dsimp only [blk, sq, cq, sd, lo]); first | done | omega), sv_fr f21 (by (try dsimp only [blk, sq, cq, sd, lo]); first | done | omega) (by (try dsimp only [blk, sq, cq, sd, lo]); first | done | omega) (by (try dsimp only [blk, sq, cq, sd, lo]); first | done | omega) (by (try dsimp only [blk, sq, cq, sd, lo]); first | done | omega) (by (try dsimp only [blk, sq, cq, sd, lo]); first | done | omega) (by (try dsimp only [blk, sq, cq, sd, lo]); first | done | omega), s15]
      · rw [tk_fr f36 (by (try dsimp only [blk, sq, cq, sd, lo]); first | done | omega) (by (try dsimp only [blk, sq, cq, sd, lo]); first | done | omega), tk_fr hu (by (try dsimp only [blk, sq, cq, sd, lo]); first | done | omega) (by (try dsimp only [blk, sq, cq, sd, lo]); first | done | omega), t27, t21 x1, s15, tk_fr f15 (by (try dsimp only [blk, sq, cq, sd, lo]); first | done | omega) (by (try dsimp only [blk, sq, cq, sd, lo]); first | done | omega)]
