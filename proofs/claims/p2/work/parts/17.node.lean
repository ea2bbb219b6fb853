/-! ===== the grammar reads; nodes around ===== -/
set_option maxRecDepth 100000 in
set_option maxHeartbeats 4000000 in
theorem c_depthChange {X : scr} {M : mem} {t : Int} (ht : inR t) : At X 0 71 0 [vi t] [] M (qI (fun x M' => M' = M ∧ x = if t = 0 then -1 else if 1 ≤ t ∧ t ≤ 5 then 1 else 0)) := by
  refine at_iload dx_71_0 rfl ?_
  refine at_zneR dx_71_1 ht (fun c1 => ?_) (fun c1 => ?_)
  · skip
    refine at_iload dx_71_4 rfl ?_
    refine at_callSI dx_71_5 rfl rfl (c_isOpening ht) ?_
    rintro x5 M9 r5 ⟨e9, h5⟩; replace e9 := e9.symm; subst e9
    refine at_zeqR dx_71_6 r5 (fun c6 => ?_) (fun c6 => ?_)
    · skip
      refine at_const (x := 0) dx_71_9 rfl ?_
      refine at_iretI dx_71_10 (by decide) ?_
      refine ⟨rfl, ?_⟩; rw [if_neg c1]; first | (rw [if_pos (by split at h5 <;> omega)]; done) | (rw [if_neg (by split at h5 <;> omega)]; done)
    · skip
      refine at_const (x := 1) dx_71_7 rfl ?_
      refine at_goto dx_71_8 ?_
      refine at_iretI dx_71_10 (by decide) ?_
      refine ⟨rfl, ?_⟩; rw [if_neg c1]; first | (rw [if_pos (by split at h5 <;> omega)]; done) | (rw [if_neg (by split at h5 <;> omega)]; done)
  · skip
    refine at_const (x := -1) dx_71_2 rfl ?_
    refine at_iretI dx_71_3 (by decide) ?_
    refine ⟨rfl, ?_⟩; rw [if_pos c1]

set_option maxRecDepth 100000 in
set_option maxHeartbeats 4000000 in
theorem c_accepts {X : scr} {M : mem} {b : Nat} (hb : ly_c b = 5) (hI : tkI M b) : At X 0 5 0 [vr 1, vr b] [] M (qI (fun x M' => fr (fun q => q = 4 ∨ q = 5) M M' ∧ (x = 0 ∨ x = 1))) := by
  have eb := tk_e hb
  have lp : ∀ (n : Nat) (d i : Int) (M1 : mem) (rd : inR d) (ri : inR i) (h0 : 0 ≤ d ∧ d ≤ 60) (hi : 0 ≤ i) (hn : (M b 1 - i).toNat = n) (h1 : fr (fun q => q = 4 ∨ q = 5) M M1), At X 0 5 17 [vr 1, vr b, vi d, vi i] [] M1 (qI (fun x M' => fr (fun q => q = 4 ∨ q = 5) M M' ∧ (x = 0 ∨ x = 1))) := by
    intro n
    induction n using Nat.strongRecOn with
    | ind n ih =>
    intro d i M1 rd ri h0 hi hn h1
    have hb1 : tkI M1 b := tkI_fr h1 (by (try dsimp only [blk]); first | done | omega) hI
    have eb1 : M1 b 1 = M b 1 := h1 b 1 (by (try dsimp only [blk]); first | done | omega)
    refine at_iload dx_5_17 rfl ?_
    refine at_aload dx_5_18 rfl ?_
    refine at_getI 1 dx_5_19 hb rfl rfl (fun r19 => ?_)
    refine at_cgeR dx_5_20 ri r19 (fun c20 => ?_) (fun c20 => ?_)
    · skip
      refine at_iload dx_5_96 rfl ?_
      refine at_zneR dx_5_97 rd (fun c97 => ?_) (fun c97 => ?_)
      · skip
        refine at_const (x := 0) dx_5_106 rfl ?_
        refine at_zretI dx_5_107 (Or.inl rfl) ?_
        refine ⟨by first | exact h1 | exact fr_ums h1 (by (try dsimp only [blk]); first | done | omega) | exact fr_ums (fr_ums (fr_ums h1 (by (try dsimp only [blk]); first | done | omega)) (by (try dsimp only [blk]); first | done | omega)) (by (try dsimp only [blk]); first | done | omega), Or.inl rfl⟩
      · skip
        refine at_aload dx_5_98 rfl ?_
        refine at_getR dx_5_99 lc_1 rfl lt_1_3 ?_
        refine at_const (x := 0) dx_5_100 rfl ?_
        refine at_aldI dx_5_101 lc_5 ln_5 (by decide) (by decide) (fun r101 => ?_)
        refine at_callSI dx_5_102 rfl rfl (c_isEnd r101) ?_
        rintro x102 M9 r102 ⟨e9, h102⟩; replace e9 := e9.symm; subst e9
        refine at_zeqR dx_5_103 r102 (fun c103 => ?_) (fun c103 => ?_)
        · skip
          refine at_const (x := 0) dx_5_106 rfl ?_
          refine at_zretI dx_5_107 (Or.inl rfl) ?_
          refine ⟨by first | exact h1 | exact fr_ums h1 (by (try dsimp only [blk]); first | done | omega) | exact fr_ums (fr_ums (fr_ums h1 (by (try dsimp only [blk]); first | done | omega)) (by (try dsimp only [blk]); first | done | omega)) (by (try dsimp only [blk]); first | done | omega), Or.inl rfl⟩
        · skip
          refine at_const (x := 1) dx_5_104 rfl ?_
          refine at_goto dx_5_105 ?_
          refine at_zretI dx_5_107 (Or.inr rfl) ?_
          refine ⟨by first | exact h1 | exact fr_ums h1 (by (try dsimp only [blk]); first | done | omega), Or.inr rfl⟩
    · skip
      refine at_aload dx_5_21 rfl ?_
      refine at_iload dx_5_22 rfl ?_
      refine at_callVI dx_5_23 rfl hb rfl (c_at hb ri hb1) ?_
      rintro x23 M9 r23 ⟨e9, h23⟩; replace e9 := e9.symm; subst e9
      refine at_istore dx_5_24 ?_
      refine at_iload dx_5_25 rfl ?_
      refine at_zneR dx_5_26 r23 (fun c26 => ?_) (fun c26 => ?_)
      · skip
        refine at_iload dx_5_39 rfl ?_
        refine at_callNI dx_5_40 rfl rfl (c_isOpening r23) ?_
        rintro x40 M9 r40 ⟨e9, h40⟩; replace e9 := e9.symm; subst e9
        refine at_zeqR dx_5_41 r40 (fun c41 => ?_) (fun c41 => ?_)
        · skip
          refine at_const (x := 6) dx_5_44 rfl ?_
          refine at_istore dx_5_45 ?_
          refine at_aload dx_5_46 rfl ?_
          refine at_getR dx_5_47 lc_1 rfl lt_1_3 ?_
          refine at_iload dx_5_48 rfl ?_
          refine at_aload dx_5_49 rfl ?_
          refine at_aload dx_5_50 rfl ?_
          refine at_getR dx_5_51 lc_1 rfl lt_1_2 ?_
          refine at_iload dx_5_52 rfl ?_
          refine at_aldI dx_5_53 lc_4 ln_4 (by first | omega | (simp (disch := omega) only [um_eq, um_k, um_j]; omega)) (by first | omega | (simp (disch := omega) only [um_eq, um_k, um_j]; omega)) (fun r53 => ?_)
          refine at_aload dx_5_54 rfl ?_
          refine at_getR dx_5_55 lc_1 rfl lt_1_3 ?_
          refine at_iload dx_5_56 rfl ?_
          refine at_aldI dx_5_57 lc_5 ln_5 (by first | omega | (simp (disch := omega) only [um_eq, um_k, um_j]; omega)) (by first | omega | (simp (disch := omega) only [um_eq, um_k, um_j]; omega)) (fun r57 => ?_)
          refine at_iload dx_5_58 rfl ?_
          refine at_callVI dx_5_59 rfl lc_1 rfl (c_advance r53 r57 (by decide)) ?_
          intro x59 M9 r59 e9; replace e9 := Eq.symm e9; subst e9
          refine at_astI dx_5_60 lc_5 ln_5 (by first | omega | (simp (disch := omega) only [um_eq, um_k, um_j]; omega)) (by first | omega | (simp (disch := omega) only [um_eq, um_k, um_j]; omega)) r59 ?_
          refine at_aload dx_5_61 rfl ?_
          refine at_getR dx_5_62 lc_1 rfl lt_1_3 ?_
          refine at_iload dx_5_63 rfl ?_
          refine at_aldI dx_5_64 lc_5 ln_5 (by first | omega | (simp (disch := omega) only [um_eq, um_k, um_j]; omega)) (by first | omega | (simp (disch := omega) only [um_eq, um_k, um_j]; omega)) (fun r64 => ?_)
          refine at_zneR dx_5_65 r64 (fun c65 => ?_) (fun c65 => ?_)
          · skip
            refine at_iload dx_5_68 rfl ?_
            refine at_const (x := 6) dx_5_69 rfl ?_
            refine at_ceqR dx_5_70 (by decide) (by decide) (fun _ => ?_) (fun c => absurd c (by decide))
            refine at_iincR (y := 1) dx_5_94 rfl rfl (by constructor <;> omega) (fun r94 => ?_)
            refine at_goto dx_5_95 ?_
            refine at_wk (ls := [vr 1, vr b, vi _, vi _]) ⟨Or.inl rfl, Or.inl rfl, Or.inl rfl, Or.inl rfl, trivial⟩ ?_
            exact ih _ (by omega) _ _ _ (by assumption) r94 (by omega) (by omega) rfl (by first | exact h1 | exact fr_ums (fr_ums (fr_ums h1 (by (try dsimp only [blk]); first | done | omega)) (by (try dsimp only [blk]); first | done | omega)) (by (try dsimp only [blk]); first | done | omega) | exact fr_ums h1 (by (try dsimp only [blk]); first | done | omega))
          · skip
            refine at_const (x := 0) dx_5_66 rfl ?_
            refine at_zretI dx_5_67 (Or.inl rfl) ?_
            refine ⟨by first | exact h1 | exact fr_ums h1 (by (try dsimp only [blk]); first | done | omega) | exact fr_ums (fr_ums (fr_ums h1 (by (try dsimp only [blk]); first | done | omega)) (by (try dsimp only [blk]); first | done | omega)) (by (try dsimp only [blk]); first | done | omega), Or.inl rfl⟩
        · skip
          refine at_iload dx_5_42 rfl ?_
          refine at_goto dx_5_43 ?_
          refine at_istore dx_5_45 ?_
          refine at_aload dx_5_46 rfl ?_
          refine at_getR dx_5_47 lc_1 rfl lt_1_3 ?_
          refine at_iload dx_5_48 rfl ?_
          refine at_aload dx_5_49 rfl ?_
          refine at_aload dx_5_50 rfl ?_
          refine at_getR dx_5_51 lc_1 rfl lt_1_2 ?_
          refine at_iload dx_5_52 rfl ?_
          refine at_aldI dx_5_53 lc_4 ln_4 (by first | omega | (simp (disch := omega) only [um_eq, um_k, um_j]; omega)) (by first | omega | (simp (disch := omega) only [um_eq, um_k, um_j]; omega)) (fun r53 => ?_)
          refine at_aload dx_5_54 rfl ?_
          refine at_getR dx_5_55 lc_1 rfl lt_1_3 ?_
          refine at_iload dx_5_56 rfl ?_
          refine at_aldI dx_5_57 lc_5 ln_5 (by first | omega | (simp (disch := omega) only [um_eq, um_k, um_j]; omega)) (by first | omega | (simp (disch := omega) only [um_eq, um_k, um_j]; omega)) (fun r57 => ?_)
          refine at_iload dx_5_58 rfl ?_
          refine at_callVI dx_5_59 rfl lc_1 rfl (c_advance r53 r57 r23) ?_
          intro x59 M9 r59 e9; replace e9 := Eq.symm e9; subst e9
          refine at_astI dx_5_60 lc_5 ln_5 (by first | omega | (simp (disch := omega) only [um_eq, um_k, um_j]; omega)) (by first | omega | (simp (disch := omega) only [um_eq, um_k, um_j]; omega)) r59 ?_
          refine at_aload dx_5_61 rfl ?_
          refine at_getR dx_5_62 lc_1 rfl lt_1_3 ?_
          refine at_iload dx_5_63 rfl ?_
          refine at_aldI dx_5_64 lc_5 ln_5 (by first | omega | (simp (disch := omega) only [um_eq, um_k, um_j]; omega)) (by first | omega | (simp (disch := omega) only [um_eq, um_k, um_j]; omega)) (fun r64 => ?_)
          refine at_zneR dx_5_65 r64 (fun c65 => ?_) (fun c65 => ?_)
          · skip
            refine at_iload dx_5_68 rfl ?_
            refine at_const (x := 6) dx_5_69 rfl ?_
            refine at_ceqR dx_5_70 r23 (by decide) (fun c70 => ?_) (fun c70 => ?_)
            · skip
              refine at_iincR (y := 1) dx_5_94 rfl rfl (by constructor <;> omega) (fun r94 => ?_)
              refine at_goto dx_5_95 ?_
              refine at_wk (ls := [vr 1, vr b, vi _, vi _]) ⟨Or.inl rfl, Or.inl rfl, Or.inl rfl, Or.inl rfl, trivial⟩ ?_
              exact ih _ (by omega) _ _ _ (by assumption) r94 (by omega) (by omega) rfl (by first | exact h1 | exact fr_ums (fr_ums (fr_ums h1 (by (try dsimp only [blk]); first | done | omega)) (by (try dsimp only [blk]); first | done | omega)) (by (try dsimp only [blk]); first | done | omega) | exact fr_ums h1 (by (try dsimp only [blk]); first | done | omega))
            · skip
              refine at_iload dx_5_71 rfl ?_
              refine at_const (x := 1) dx_5_72 rfl ?_
              refine at_addR dx_5_73 (by constructor <;> omega) (fun r73 => ?_)
              refine at_aload dx_5_74 rfl ?_
              refine at_getR dx_5_75 lc_1 rfl lt_1_2 ?_
              refine at_alen dx_5_76 lc_4 rfl ln_4 ?_
              refine at_cltR dx_5_77 r73 (by decide) (fun c77 => ?_) (fun c77 => ?_)
              · skip
                refine at_iincR (y := 1) dx_5_80 rfl rfl (by constructor <;> omega) (fun r80 => ?_)
                refine at_aload dx_5_81 rfl ?_
                refine at_getR dx_5_82 lc_1 rfl lt_1_2 ?_
                refine at_iload dx_5_83 rfl ?_
                refine at_iload dx_5_84 rfl ?_
                refine at_astI dx_5_85 lc_4 ln_4 (by first | omega | (simp (disch := omega) only [um_eq, um_k, um_j]; omega)) (by first | omega | (simp (disch := omega) only [um_eq, um_k, um_j]; omega)) r23 ?_
                refine at_aload dx_5_86 rfl ?_
                refine at_getR dx_5_87 lc_1 rfl lt_1_3 ?_
                refine at_iload dx_5_88 rfl ?_
                refine at_aload dx_5_89 rfl ?_
                refine at_iload dx_5_90 rfl ?_
                refine at_const (x := 1) dx_5_91 rfl ?_
                refine at_callVI dx_5_92 rfl lc_1 rfl (c_skip r23 (by decide)) ?_
                intro x92 M9 r92 e9; replace e9 := Eq.symm e9; subst e9
                refine at_astI dx_5_93 lc_5 ln_5 (by first | omega | (simp (disch := omega) only [um_eq, um_k, um_j]; omega)) (by first | omega | (simp (disch := omega) only [um_eq, um_k, um_j]; omega)) r92 ?_
                refine at_iincR (y := 1) dx_5_94 rfl rfl (by constructor <;> omega) (fun r94 => ?_)
                refine at_goto dx_5_95 ?_
                refine at_wk (ls := [vr 1, vr b, vi _, vi _]) ⟨Or.inl rfl, Or.inl rfl, Or.inl rfl, Or.inl rfl, trivial⟩ ?_
                exact ih _ (by omega) _ _ _ (by assumption) r94 (by omega) (by omega) rfl (by first | exact h1 | exact fr_ums (fr_ums (fr_ums h1 (by (try dsimp only [blk]); first | done | omega)) (by (try dsimp only [blk]); first | done | omega)) (by (try dsimp only [blk]); first | done | omega) | exact fr_ums h1 (by (try dsimp only [blk]); first | done | omega))
              · skip
                refine at_const (x := 0) dx_5_78 rfl ?_
                refine at_zretI dx_5_79 (Or.inl rfl) ?_
                refine ⟨by first | exact h1 | exact fr_ums h1 (by (try dsimp only [blk]); first | done | omega) | exact fr_ums (fr_ums (fr_ums h1 (by (try dsimp only [blk]); first | done | omega)) (by (try dsimp only [blk]); first | done | omega)) (by (try dsimp only [blk]); first | done | omega), Or.inl rfl⟩
          · skip
            refine at_const (x := 0) dx_5_66 rfl ?_
            refine at_zretI dx_5_67 (Or.inl rfl) ?_
            refine ⟨by first | exact h1 | exact fr_ums h1 (by (try dsimp only [blk]); first | done | omega) | exact fr_ums (fr_ums (fr_ums h1 (by (try dsimp only [blk]); first | done | omega)) (by (try dsimp only [blk]); first | done | omega)) (by (try dsimp only [blk]); first | done | omega), Or.inl rfl⟩
      · skip
        refine at_iload dx_5_27 rfl ?_
        refine at_zeqR dx_5_28 rd (fun c28 => ?_) (fun c28 => ?_)
        · skip
          refine at_const (x := 0) dx_5_35 rfl ?_
          refine at_zretI dx_5_36 (Or.inl rfl) ?_
          refine ⟨by first | exact h1 | exact fr_ums h1 (by (try dsimp only [blk]); first | done | omega) | exact fr_ums (fr_ums (fr_ums h1 (by (try dsimp only [blk]); first | done | omega)) (by (try dsimp only [blk]); first | done | omega)) (by (try dsimp only [blk]); first | done | omega), Or.inl rfl⟩
        · skip
          refine at_aload dx_5_29 rfl ?_
          refine at_getR dx_5_30 lc_1 rfl lt_1_3 ?_
          refine at_iload dx_5_31 rfl ?_
          refine at_aldI dx_5_32 lc_5 ln_5 (by first | omega | (simp (disch := omega) only [um_eq, um_k, um_j]; omega)) (by first | omega | (simp (disch := omega) only [um_eq, um_k, um_j]; omega)) (fun r32 => ?_)
          refine at_callSI dx_5_33 rfl rfl (c_isEnd r32) ?_
          rintro x33 M9 r33 ⟨e9, h33⟩; replace e9 := e9.symm; subst e9
          refine at_zneR dx_5_34 r33 (fun c34 => ?_) (fun c34 => ?_)
          · skip
            refine at_iincR (y := -1) dx_5_37 rfl rfl (by constructor <;> omega) (fun r37 => ?_)
            refine at_goto dx_5_38 ?_
            refine at_iincR (y := 1) dx_5_94 rfl rfl (by constructor <;> omega) (fun r94 => ?_)
            refine at_goto dx_5_95 ?_
            refine at_wk (ls := [vr 1, vr b, vi _, vi _]) ⟨Or.inl rfl, Or.inl rfl, Or.inl rfl, Or.inl rfl, trivial⟩ ?_
            exact ih _ (by omega) _ _ _ (by assumption) r94 (by omega) (by omega) rfl (by first | exact h1 | exact fr_ums (fr_ums (fr_ums h1 (by (try dsimp only [blk]); first | done | omega)) (by (try dsimp only [blk]); first | done | omega)) (by (try dsimp only [blk]); first | done | omega) | exact fr_ums h1 (by (try dsimp only [blk]); first | done | omega))
          · skip
            refine at_const (x := 0) dx_5_35 rfl ?_
            refine at_zretI dx_5_36 (Or.inl rfl) ?_
            refine ⟨by first | exact h1 | exact fr_ums h1 (by (try dsimp only [blk]); first | done | omega) | exact fr_ums (fr_ums (fr_ums h1 (by (try dsimp only [blk]); first | done | omega)) (by (try dsimp only [blk]); first | done | omega)) (by (try dsimp only [blk]); first | done | omega), Or.inl rfl⟩
  refine at_const (x := 0) dx_5_0 rfl ?_
  refine at_istore dx_5_1 ?_
  refine at_aload dx_5_2 rfl ?_
  refine at_getR dx_5_3 lc_1 rfl lt_1_2 ?_
  refine at_const (x := 0) dx_5_4 rfl ?_
  refine at_const (x := 0) dx_5_5 rfl ?_
  refine at_astI dx_5_6 lc_4 ln_4 (by decide) (by decide) (by decide) ?_
  refine at_aload dx_5_7 rfl ?_
  refine at_getR dx_5_8 lc_1 rfl lt_1_3 ?_
  refine at_const (x := 0) dx_5_9 rfl ?_
  refine at_aload dx_5_10 rfl ?_
  refine at_const (x := 0) dx_5_11 rfl ?_
  refine at_const (x := 1) dx_5_12 rfl ?_
  refine at_callVI dx_5_13 rfl lc_1 rfl (c_skip (by decide) (by decide)) ?_
  intro x13 M9 r13 e9; replace e9 := Eq.symm e9; subst e9
  refine at_astI dx_5_14 lc_5 ln_5 (by decide) (by decide) r13 ?_
  refine at_const (x := 0) dx_5_15 rfl ?_
  refine at_istore dx_5_16 ?_
  exact lp _ 0 0 _ (by decide) (by decide) (by decide) (by decide) rfl (by (repeat (first | exact fr_rf | refine fr_ums ?_ (by (try dsimp only [blk]); first | done | omega))))

set_option maxRecDepth 100000 in
set_option maxHeartbeats 4000000 in
theorem c_findOpen {X : scr} {M : mem} {b a : Nat} {p : Int} (hb : ly_c b = 5) (hp : inR p) (ha : ly_c a = 8) (na : ly_n a = 60) (n1 : a ≠ b) (n2 : a ≠ b + 1) (hI : tkI M b) : At X 0 43 0 [vr b, vi p, vr a] [] M (qI (fun x M' => fr (fun q => q = a) M M' ∧ 0 ≤ x ∧ x ≤ 60)) := by
  have eb := tk_e hb
  have lp : ∀ (n : Nat) (d i : Int) (M1 : mem) (rd : inR d) (ri : inR i) (h0 : 0 ≤ d ∧ d ≤ 60) (hn : (p - i).toNat = n) (h1 : fr (fun q => q = a) M M1), At X 0 43 4 [vr b, vi p, vr a, vi d, vi i] [] M1 (qI (fun x M' => fr (fun q => q = a) M M' ∧ 0 ≤ x ∧ x ≤ 60)) := by
    intro n
    induction n using Nat.strongRecOn with
    | ind n ih =>
    intro d i M1 rd ri h0 hn h1
    have hb1 : tkI M1 b := tkI_fr h1 (by (try dsimp only [blk]); first | done | omega) hI
    refine at_iload dx_43_4 rfl ?_
    refine at_iload dx_43_5 rfl ?_
    refine at_cgeR dx_43_6 ri hp (fun c6 => ?_) (fun c6 => ?_)
    · skip
      refine at_iload dx_43_31 rfl ?_
      refine at_iretI dx_43_32 rd ?_
      exact ⟨h1, h0.1, h0.2⟩
    · skip
      refine at_aload dx_43_7 rfl ?_
      refine at_iload dx_43_8 rfl ?_
      refine at_callVI dx_43_9 rfl hb rfl (c_at hb ri hb1) ?_
      rintro x9 M9 r9 ⟨e9, h9⟩; replace e9 := e9.symm; subst e9
      refine at_istore dx_43_10 ?_
      refine at_iload dx_43_11 rfl ?_
      refine at_callNI dx_43_12 rfl rfl (c_isOpening r9) ?_
      rintro x12 M9 r12 ⟨e9, h12⟩; replace e9 := e9.symm; subst e9
      refine at_zeqR dx_43_13 r12 (fun c13 => ?_) (fun c13 => ?_)
      · skip
        refine at_iload dx_43_24 rfl ?_
        refine at_zneR dx_43_25 r9 (fun c25 => ?_) (fun c25 => ?_)
        · skip
          refine at_iincR (y := 1) dx_43_29 rfl rfl (by constructor <;> omega) (fun r29 => ?_)
          refine at_goto dx_43_30 ?_
          refine at_wk (ls := [vr b, vi _, vr a, vi _, vi _]) ⟨Or.inl rfl, Or.inl rfl, Or.inl rfl, Or.inl rfl, Or.inl rfl, trivial⟩ ?_
          exact ih _ (by omega) _ _ _ (by assumption) r29 (by omega) rfl (by first | exact h1 | exact fr_ums h1 rfl)
        · skip
          refine at_iload dx_43_26 rfl ?_
          refine at_zleR dx_43_27 rd (fun c27 => ?_) (fun c27 => ?_)
          · skip
            refine at_iincR (y := 1) dx_43_29 rfl rfl (by constructor <;> omega) (fun r29 => ?_)
            refine at_goto dx_43_30 ?_
            refine at_wk (ls := [vr b, vi _, vr a, vi _, vi _]) ⟨Or.inl rfl, Or.inl rfl, Or.inl rfl, Or.inl rfl, Or.inl rfl, trivial⟩ ?_
            exact ih _ (by omega) _ _ _ (by assumption) r29 (by omega) rfl (by first | exact h1 | exact fr_ums h1 rfl)
          · skip
            refine at_iincR (y := -1) dx_43_28 rfl rfl (by constructor <;> omega) (fun r28 => ?_)
            refine at_iincR (y := 1) dx_43_29 rfl rfl (by constructor <;> omega) (fun r29 => ?_)
            refine at_goto dx_43_30 ?_
            refine at_wk (ls := [vr b, vi _, vr a, vi _, vi _]) ⟨Or.inl rfl, Or.inl rfl, Or.inl rfl, Or.inl rfl, Or.inl rfl, trivial⟩ ?_
            exact ih _ (by omega) _ _ _ (by assumption) r29 (by omega) rfl (by first | exact h1 | exact fr_ums h1 rfl)
      · skip
        refine at_iload dx_43_14 rfl ?_
        refine at_aload dx_43_15 rfl ?_
        refine at_alen dx_43_16 ha rfl na ?_
        refine at_cgeR dx_43_17 rd (by decide) (fun c17 => ?_) (fun c17 => ?_)
        · skip
          refine at_iload dx_43_24 rfl ?_
          refine at_zneR dx_43_25 r9 (fun c25 => ?_) (fun c25 => ?_)
          · skip
            refine at_iincR (y := 1) dx_43_29 rfl rfl (by constructor <;> omega) (fun r29 => ?_)
            refine at_goto dx_43_30 ?_
            refine at_wk (ls := [vr b, vi _, vr a, vi _, vi _]) ⟨Or.inl rfl, Or.inl rfl, Or.inl rfl, Or.inl rfl, Or.inl rfl, trivial⟩ ?_
            exact ih _ (by omega) _ _ _ (by assumption) r29 (by omega) rfl (by first | exact h1 | exact fr_ums h1 rfl)
          · skip
            refine at_iload dx_43_26 rfl ?_
            refine at_zleR dx_43_27 rd (fun c27 => ?_) (fun c27 => ?_)
            · skip
              refine at_iincR (y := 1) dx_43_29 rfl rfl (by constructor <;> omega) (fun r29 => ?_)
              refine at_goto dx_43_30 ?_
              refine at_wk (ls := [vr b, vi _, vr a, vi _, vi _]) ⟨Or.inl rfl, Or.inl rfl, Or.inl rfl, Or.inl rfl, Or.inl rfl, trivial⟩ ?_
              exact ih _ (by omega) _ _ _ (by assumption) r29 (by omega) rfl (by first | exact h1 | exact fr_ums h1 rfl)
            · skip
              refine at_iincR (y := -1) dx_43_28 rfl rfl (by constructor <;> omega) (fun r28 => ?_)
              refine at_iincR (y := 1) dx_43_29 rfl rfl (by constructor <;> omega) (fun r29 => ?_)
              refine at_goto dx_43_30 ?_
              refine at_wk (ls := [vr b, vi _, vr a, vi _, vi _]) ⟨Or.inl rfl, Or.inl rfl, Or.inl rfl, Or.inl rfl, Or.inl rfl, trivial⟩ ?_
              exact ih _ (by omega) _ _ _ (by assumption) r29 (by omega) rfl (by first | exact h1 | exact fr_ums h1 rfl)
        · skip
          refine at_aload dx_43_18 rfl ?_
          refine at_iload dx_43_19 rfl ?_
          refine at_iload dx_43_20 rfl ?_
          refine at_astI dx_43_21 ha na (by first | omega | (simp (disch := omega) only [um_eq, um_k, um_j]; omega)) (by first | omega | (simp (disch := omega) only [um_eq, um_k, um_j]; omega)) r9 ?_
          refine at_iincR (y := 1) dx_43_22 rfl rfl (by constructor <;> omega) (fun r22 => ?_)
          refine at_goto dx_43_23 ?_
          refine at_iincR (y := 1) dx_43_29 rfl rfl (by constructor <;> omega) (fun r29 => ?_)
          refine at_goto dx_43_30 ?_
          refine at_wk (ls := [vr b, vi _, vr a, vi _, vi _]) ⟨Or.inl rfl, Or.inl rfl, Or.inl rfl, Or.inl rfl, Or.inl rfl, trivial⟩ ?_
          exact ih _ (by omega) _ _ _ (by assumption) r29 (by omega) rfl (by first | exact h1 | exact fr_ums h1 rfl)
  refine at_const (x := 0) dx_43_0 rfl ?_
  refine at_istore dx_43_1 ?_
  refine at_const (x := 0) dx_43_2 rfl ?_
  refine at_istore dx_43_3 ?_
  exact lp _ 0 0 _ (by decide) (by decide) (by decide) rfl fr_rf

set_option maxRecDepth 100000 in
set_option maxHeartbeats 4000000 in
theorem c_findClosing {X : scr} {M : mem} {b : Nat} {p : Int} (hb : ly_c b = 5) (hp : inR p) (hI : tkI M b) : At X 0 44 0 [vr b, vi p] [] M (qI (fun x M' => M' = M)) := by
  have lp : ∀ (n : Nat) (l i : Int) (rl : inR l) (ri : inR i) (hn : (M b 1 - i).toNat = n), At X 0 44 11 [vr b, vi p, vi l, vi i] [] M (qI (fun x M' => M' = M)) := by
    intro n
    induction n using Nat.strongRecOn with
    | ind n ih =>
    intro l i rl ri hn
    refine at_iload dx_44_11 rfl ?_
    refine at_aload dx_44_12 rfl ?_
    refine at_getI 1 dx_44_13 hb rfl rfl (fun r13 => ?_)
    refine at_cgeR dx_44_14 ri r13 (fun c14 => ?_) (fun c14 => ?_)
    · skip
      refine at_const (x := -1) dx_44_28 rfl ?_
      refine at_iretI dx_44_29 (by decide) ?_
      exact rfl
    · skip
      refine at_iload dx_44_15 rfl ?_
      refine at_aload dx_44_16 rfl ?_
      refine at_iload dx_44_17 rfl ?_
      refine at_callVI dx_44_18 rfl hb rfl (c_at hb ri hI) ?_
      rintro x18 M9 r18 ⟨e9, h18⟩; replace e9 := e9.symm; subst e9
      refine at_callNI dx_44_19 rfl rfl (c_depthChange r18) ?_
      rintro x19 M9 r19 ⟨e9, h19⟩; replace e9 := e9.symm; subst e9
      refine at_addW dx_44_20 ?_
      refine at_istore dx_44_21 ?_
      refine at_iload dx_44_22 rfl ?_
      refine at_zneR dx_44_23 (inR_wr _) (fun c23 => ?_) (fun c23 => ?_)
      · skip
        refine at_iincR (y := 1) dx_44_26 rfl rfl (by constructor <;> omega) (fun r26 => ?_)
        refine at_goto dx_44_27 ?_
        exact ih _ (by omega) _ _ (inR_wr _) r26 rfl
      · skip
        refine at_iload dx_44_24 rfl ?_
        refine at_iretI dx_44_25 ri ?_
        exact rfl
  refine at_aload dx_44_0 rfl ?_
  refine at_iload dx_44_1 rfl ?_
  refine at_callVI dx_44_2 rfl hb rfl (c_at hb hp hI) ?_
  rintro x2 M9 r2 ⟨e9, h2⟩; replace e9 := e9.symm; subst e9
  refine at_callNI dx_44_3 rfl rfl (c_isOpening r2) ?_
  rintro x3 M9 r3 ⟨e9, h3⟩; replace e9 := e9.symm; subst e9
  refine at_zneR dx_44_4 r3 (fun c4 => ?_) (fun c4 => ?_)
  · skip
    refine at_const (x := 0) dx_44_7 rfl ?_
    refine at_istore dx_44_8 ?_
    refine at_iload dx_44_9 rfl ?_
    refine at_istore dx_44_10 ?_
    exact lp _ 0 _ (by decide) hp rfl
  · skip
    refine at_const (x := -1) dx_44_5 rfl ?_
    refine at_iretI dx_44_6 (by decide) ?_
    exact rfl

set_option maxRecDepth 100000 in
set_option maxHeartbeats 4000000 in
theorem c_countCharacters {X : scr} {M : mem} {b : Nat} {f t : Int} (hb : ly_c b = 5) (hf : inR f) (ht : inR t) (hI : tkI M b) : At X 0 45 0 [vr b, vi f, vi t] [] M (qI (fun x M' => M' = M)) := by
  have lp : ∀ (n : Nat) (c i : Int) (rc : inR c) (ri : inR i) (hn : (t - i).toNat = n), At X 0 45 4 [vr b, vi f, vi t, vi c, vi i] [] M (qI (fun x M' => M' = M)) := by
    intro n
    induction n using Nat.strongRecOn with
    | ind n ih =>
    intro c i rc ri hn
    refine at_iload dx_45_4 rfl ?_
    refine at_iload dx_45_5 rfl ?_
    refine at_cgeR dx_45_6 ri ht (fun c6 => ?_) (fun c6 => ?_)
    · skip
      refine at_iload dx_45_15 rfl ?_
      refine at_iretI dx_45_16 rc ?_
      exact rfl
    · skip
      refine at_aload dx_45_7 rfl ?_
      refine at_iload dx_45_8 rfl ?_
      refine at_callVI dx_45_9 rfl hb rfl (c_at hb ri hI) ?_
      rintro x9 M9 r9 ⟨e9, h9⟩; replace e9 := e9.symm; subst e9
      refine at_const (x := 100) dx_45_10 rfl ?_
      refine at_cltR dx_45_11 r9 (by decide) (fun c11 => ?_) (fun c11 => ?_)
      · skip
        refine at_iincR (y := 1) dx_45_13 rfl rfl (by constructor <;> omega) (fun r13 => ?_)
        refine at_goto dx_45_14 ?_
        exact ih _ (by omega) _ _ (by first | assumption | exact inR_wr _) r13 rfl
      · skip
        refine at_iincW (y := 1) dx_45_12 rfl rfl ?_
        refine at_iincR (y := 1) dx_45_13 rfl rfl (by constructor <;> omega) (fun r13 => ?_)
        refine at_goto dx_45_14 ?_
        exact ih _ (by omega) _ _ (by first | assumption | exact inR_wr _) r13 rfl
  refine at_const (x := 0) dx_45_0 rfl ?_
  refine at_istore dx_45_1 ?_
  refine at_iload dx_45_2 rfl ?_
  refine at_istore dx_45_3 ?_
  exact lp _ 0 _ (by decide) hf rfl
