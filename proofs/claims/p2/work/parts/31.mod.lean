/-! ===== the reference: steps copied, documents taken over ===== -/
/-- a step's numbers are small -/
abbrev sN (M : mem) (s : Int) : Prop := (0 ≤ M 865 (2 * s) ∧ M 865 (2 * s) ≤ 200) ∧ (0 ≤ M 865 (2 * s + 1) ∧ M 865 (2 * s + 1) ≤ 200) ∧ (0 ≤ M 866 (2 * s) ∧ M 866 (2 * s) ≤ 200) ∧ (0 ≤ M 866 (2 * s + 1) ∧ M 866 (2 * s + 1) ≤ 200) ∧ (0 ≤ M 867 (2 * s) ∧ M 867 (2 * s) ≤ 200) ∧ (0 ≤ M 867 (2 * s + 1) ∧ M 867 (2 * s + 1) ≤ 200)
abbrev nul (M : mem) (s h : Int) : Prop := M 861 s = 0 ∧ M 864 s = h ∧ (M 865 (2 * s) = 0 ∧ M 865 (2 * s + 1) = 0) ∧ (M 866 (2 * s) = 0 ∧ M 866 (2 * s + 1) = 0) ∧ (M 867 (2 * s) = 0 ∧ M 867 (2 * s + 1) = 0)
set_option maxRecDepth 100000 in
set_option maxHeartbeats 4000000 in
theorem m_begins {X : scr} {M : mem}  : At X 0 102 0 [vr 856] [] M (qV (fun M' => frE (fun q j => q = 877 ∨ (q = 856 ∧ j = 23)) M M' ∧ M' 856 23 = 2 ∧ wk M' = [1, 0])) := by
  refine at_aload dx_102_0 rfl ?_
  refine at_getR dx_102_1 lc_856 rfl lt_856_22 ?_
  refine at_const (x := 0) dx_102_2 rfl ?_
  refine at_const (x := 1) dx_102_3 rfl ?_
  refine at_astI dx_102_4 lc_877 ln_877 (by decide) (by decide) (by decide) ?_
  refine at_aload dx_102_5 rfl ?_
  refine at_getR dx_102_6 lc_856 rfl lt_856_22 ?_
  refine at_const (x := 1) dx_102_7 rfl ?_
  refine at_const (x := 0) dx_102_8 rfl ?_
  refine at_astI dx_102_9 lc_877 ln_877 (by decide) (by decide) (by decide) ?_
  refine at_aload dx_102_10 rfl ?_
  refine at_const (x := 2) dx_102_11 rfl ?_
  refine at_putI 23 dx_102_12 lc_856 rfl rfl (by decide) ?_
  refine at_vretV dx_102_13 ?_
  refine ⟨by (repeat (first | exact fe_rf | refine fe_ums ?_ (by (try dsimp only); first | done | omega))), um_eq _ _ _ _, ?_⟩; unfold wk; rw [um_eq]; simp (disch := omega) only [um_eq, um_k, um_j, List.range, List.range.loop, Int.toNat, List.map]; rfl

set_option maxRecDepth 100000 in
set_option maxHeartbeats 4000000 in
theorem m_empties {X : scr} {M : mem} {s h : Int} (rs : inR s) (rh : inR h) (hs : 0 ≤ s ∧ s ≤ 100) : At X 0 104 0 [vr 856, vi s, vi h] [] M (qV (fun M' => frE (fun q j => ((q = 861 ∨ q = 864) ∧ j = s) ∨ ((865 ≤ q ∧ q ≤ 867) ∧ (j = 2 * s ∨ j = 2 * s + 1))) M M' ∧ nul M' s h)) := by
  refine at_aload dx_104_0 rfl ?_
  refine at_getR dx_104_1 lc_856 rfl lt_856_4 ?_
  refine at_iload dx_104_2 rfl ?_
  refine at_const (x := 0) dx_104_3 rfl ?_
  refine at_astZ dx_104_4 lc_861 ln_861 (by first | omega | (simp (disch := omega) only [um_eq, um_k, um_j]; omega)) (by first | omega | (simp (disch := omega) only [um_eq, um_k, um_j]; omega)) (Or.inl rfl) ?_
  refine at_aload dx_104_5 rfl ?_
  refine at_getR dx_104_6 lc_856 rfl lt_856_7 ?_
  refine at_iload dx_104_7 rfl ?_
  refine at_iload dx_104_8 rfl ?_
  refine at_astI dx_104_9 lc_864 ln_864 (by first | omega | (simp (disch := omega) only [um_eq, um_k, um_j]; omega)) (by first | omega | (simp (disch := omega) only [um_eq, um_k, um_j]; omega)) rh ?_
  refine at_const (x := 0) dx_104_10 rfl ?_
  refine at_istore dx_104_11 ?_
  refine at_iload dx_104_12 rfl ?_
  refine at_const (x := 2) dx_104_13 rfl ?_
  refine at_cgeR dx_104_14 (by decide) (by decide) (fun c => absurd c (by decide)) (fun _ => ?_)
  refine at_aload dx_104_15 rfl ?_
  refine at_getR dx_104_16 lc_856 rfl lt_856_8 ?_
  refine at_const (x := 2) dx_104_17 rfl ?_
  refine at_iload dx_104_18 rfl ?_
  refine at_mulR dx_104_19 (by constructor <;> omega) (fun r19 => ?_)
  refine at_iload dx_104_20 rfl ?_
  refine at_addR dx_104_21 (by constructor <;> omega) (fun r21 => ?_)
  refine at_const (x := 0) dx_104_22 rfl ?_
  refine at_astI dx_104_23 lc_865 ln_865 (by first | omega | (simp (disch := omega) only [um_eq, um_k, um_j]; omega)) (by first | omega | (simp (disch := omega) only [um_eq, um_k, um_j]; omega)) (by decide) ?_
  refine at_aload dx_104_24 rfl ?_
  refine at_getR dx_104_25 lc_856 rfl lt_856_9 ?_
  refine at_const (x := 2) dx_104_26 rfl ?_
  refine at_iload dx_104_27 rfl ?_
  refine at_mulR dx_104_28 (by constructor <;> omega) (fun r28 => ?_)
  refine at_iload dx_104_29 rfl ?_
  refine at_addR dx_104_30 (by constructor <;> omega) (fun r30 => ?_)
  refine at_const (x := 0) dx_104_31 rfl ?_
  refine at_astI dx_104_32 lc_866 ln_866 (by first | omega | (simp (disch := omega) only [um_eq, um_k, um_j]; omega)) (by first | omega | (simp (disch := omega) only [um_eq, um_k, um_j]; omega)) (by decide) ?_
  refine at_aload dx_104_33 rfl ?_
  refine at_getR dx_104_34 lc_856 rfl lt_856_10 ?_
  refine at_const (x := 2) dx_104_35 rfl ?_
  refine at_iload dx_104_36 rfl ?_
  refine at_mulR dx_104_37 (by constructor <;> omega) (fun r37 => ?_)
  refine at_iload dx_104_38 rfl ?_
  refine at_addR dx_104_39 (by constructor <;> omega) (fun r39 => ?_)
  refine at_const (x := 0) dx_104_40 rfl ?_
  refine at_astI dx_104_41 lc_867 ln_867 (by first | omega | (simp (disch := omega) only [um_eq, um_k, um_j]; omega)) (by first | omega | (simp (disch := omega) only [um_eq, um_k, um_j]; omega)) (by decide) ?_
  refine at_iincC (y := 1) (z := 1) dx_104_42 rfl rfl (by decide +kernel) ?_
  refine at_goto dx_104_43 ?_
  refine at_iload dx_104_12 rfl ?_
  refine at_const (x := 2) dx_104_13 rfl ?_
  refine at_cgeR dx_104_14 (by decide) (by decide) (fun c => absurd c (by decide)) (fun _ => ?_)
  refine at_aload dx_104_15 rfl ?_
  refine at_getR dx_104_16 lc_856 rfl lt_856_8 ?_
  refine at_const (x := 2) dx_104_17 rfl ?_
  refine at_iload dx_104_18 rfl ?_
  refine at_mulR dx_104_19 (by constructor <;> omega) (fun r19 => ?_)
  refine at_iload dx_104_20 rfl ?_
  refine at_addR dx_104_21 (by constructor <;> omega) (fun r21 => ?_)
  refine at_const (x := 0) dx_104_22 rfl ?_
  refine at_astI dx_104_23 lc_865 ln_865 (by first | omega | (simp (disch := omega) only [um_eq, um_k, um_j]; omega)) (by first | omega | (simp (disch := omega) only [um_eq, um_k, um_j]; omega)) (by decide) ?_
  refine at_aload dx_104_24 rfl ?_
  refine at_getR dx_104_25 lc_856 rfl lt_856_9 ?_
  refine at_const (x := 2) dx_104_26 rfl ?_
  refine at_iload dx_104_27 rfl ?_
  refine at_mulR dx_104_28 (by constructor <;> omega) (fun r28 => ?_)
  refine at_iload dx_104_29 rfl ?_
  refine at_addR dx_104_30 (by constructor <;> omega) (fun r30 => ?_)
  refine at_const (x := 0) dx_104_31 rfl ?_
  refine at_astI dx_104_32 lc_866 ln_866 (by first | omega | (simp (disch := omega) only [um_eq, um_k, um_j]; omega)) (by first | omega | (simp (disch := omega) only [um_eq, um_k, um_j]; omega)) (by decide) ?_
  refine at_aload dx_104_33 rfl ?_
  refine at_getR dx_104_34 lc_856 rfl lt_856_10 ?_
  refine at_const (x := 2) dx_104_35 rfl ?_
  refine at_iload dx_104_36 rfl ?_
  refine at_mulR dx_104_37 (by constructor <;> omega) (fun r37 => ?_)
  refine at_iload dx_104_38 rfl ?_
  refine at_addR dx_104_39 (by constructor <;> omega) (fun r39 => ?_)
  refine at_const (x := 0) dx_104_40 rfl ?_
  refine at_astI dx_104_41 lc_867 ln_867 (by first | omega | (simp (disch := omega) only [um_eq, um_k, um_j]; omega)) (by first | omega | (simp (disch := omega) only [um_eq, um_k, um_j]; omega)) (by decide) ?_
  refine at_iincC (y := 1) (z := 2) dx_104_42 rfl rfl (by decide +kernel) ?_
  refine at_goto dx_104_43 ?_
  refine at_iload dx_104_12 rfl ?_
  refine at_const (x := 2) dx_104_13 rfl ?_
  refine at_cgeR dx_104_14 (by decide) (by decide) (fun _ => ?_) (fun c => absurd c (by decide))
  refine at_vretV dx_104_44 ?_
  refine ⟨by (repeat (first | exact fe_rf | refine fe_ums ?_ (by (try dsimp only); first | done | omega))), ?_⟩; unfold nul; simp (disch := omega) only [um_eq, um_k, um_j, Int.add_zero]; simp

set_option maxRecDepth 100000 in
set_option maxHeartbeats 4000000 in
theorem m_copies {X : scr} {M : mem} {f t : Int} (rf : inR f) (rt : inR t) (hf : 0 ≤ f ∧ f ≤ 100) (ht : 0 ≤ t ∧ t ≤ 100) (hne : f ≠ t) : At X 0 105 0 [vr 856, vi f, vi t] [] M (qV (fun M' => frE (stE t) M M' ∧ mv M' t = mv M f ∧ ∀ j : Int, 0 ≤ j → j < 60 → M' 868 (60 * t + j) = M 868 (60 * f + j))) := by
  refine at_bitZ lc_861 (fun hb1 => at_bitZ lc_862 (fun hb2 => ?_))
  have lp : ∀ (n : Nat) (i : Int) (M1 : mem) (ri : inR i) (h0 : 0 ≤ i ∧ i ≤ 60) (hn : (60 - i).toNat = n) (F : frE (stE t) M M1) (e1 : (mv M1 t).1 = (mv M f).1) (e2 : ∀ j : Int, 0 ≤ j → j < i → M1 868 (60 * t + j) = M 868 (60 * f + j)) (e3 : ∀ j : Int, 0 ≤ j → j < i → M1 869 (60 * t + j) = M 869 (60 * f + j)), At X 0 105 89 [vr 856, vi f, vi t, vi i] [] M1 (qV (fun M' => frE (stE t) M M' ∧ mv M' t = mv M f ∧ ∀ j : Int, 0 ≤ j → j < 60 → M' 868 (60 * t + j) = M 868 (60 * f + j))) := by
    intro n
    induction n using Nat.strongRecOn with
    | ind n ih =>
    intro i M1 ri h0 hn F e1 e2 e3
    have g8 : i < 60 → M1 868 (60 * f + i) = M 868 (60 * f + i) := fun hi => F 868 _ (by (try dsimp only [stE]); first | done | omega)
    have g9 : i < 60 → M1 869 (60 * f + i) = M 869 (60 * f + i) := fun hi => F 869 _ (by (try dsimp only [stE]); first | done | omega)
    refine at_iload dx_105_89 rfl ?_
    refine at_const (x := 60) dx_105_90 rfl ?_
    refine at_cgeR dx_105_91 ri (by decide) (fun c91 => ?_) (fun c91 => ?_)
    · skip
      refine at_vretV dx_105_126 ?_
      refine ⟨F, ?_, fun j h1 h2 => e2 j h1 (by omega)⟩
      refine Prod.ext e1 ?_
      show (List.range 60).map (fun j : Nat => M1 869 (60 * t + j)) = (List.range 60).map (fun j : Nat => M 869 (60 * f + j))
      apply List.map_congr_left
      intro j hj
      have := List.mem_range.mp hj
      exact e3 j (by omega) (by omega)
    · skip
      refine at_aload dx_105_92 rfl ?_
      refine at_getR dx_105_93 lc_856 rfl lt_856_11 ?_
      refine at_const (x := 60) dx_105_94 rfl ?_
      refine at_iload dx_105_95 rfl ?_
      refine at_mulR dx_105_96 (by constructor <;> omega) (fun r96 => ?_)
      refine at_iload dx_105_97 rfl ?_
      refine at_addR dx_105_98 (by constructor <;> omega) (fun r98 => ?_)
      refine at_aload dx_105_99 rfl ?_
      refine at_getR dx_105_100 lc_856 rfl lt_856_11 ?_
      refine at_const (x := 60) dx_105_101 rfl ?_
      refine at_iload dx_105_102 rfl ?_
      refine at_mulR dx_105_103 (by constructor <;> omega) (fun r103 => ?_)
      refine at_iload dx_105_104 rfl ?_
      refine at_addR dx_105_105 (by constructor <;> omega) (fun r105 => ?_)
      refine at_aldI dx_105_106 lc_868 ln_868 (by first | omega | (simp (disch := omega) only [um_eq, um_k, um_j]; omega)) (by first | omega | (simp (disch := omega) only [um_eq, um_k, um_j]; omega)) (fun r106 => ?_)
      refine at_astI dx_105_107 lc_868 ln_868 (by first | omega | (simp (disch := omega) only [um_eq, um_k, um_j]; omega)) (by first | omega | (simp (disch := omega) only [um_eq, um_k, um_j]; omega)) r106 ?_
      refine at_aload dx_105_108 rfl ?_
      refine at_getR dx_105_109 lc_856 rfl lt_856_12 ?_
      refine at_const (x := 60) dx_105_110 rfl ?_
      refine at_iload dx_105_111 rfl ?_
      refine at_mulR dx_105_112 (by constructor <;> omega) (fun r112 => ?_)
      refine at_iload dx_105_113 rfl ?_
      refine at_addR dx_105_114 (by constructor <;> omega) (fun r114 => ?_)
      refine at_aload dx_105_115 rfl ?_
      refine at_getR dx_105_116 lc_856 rfl lt_856_12 ?_
      refine at_const (x := 60) dx_105_117 rfl ?_
      refine at_iload dx_105_118 rfl ?_
      refine at_mulR dx_105_119 (by constructor <;> omega) (fun r119 => ?_)
      refine at_iload dx_105_120 rfl ?_
      refine at_addR dx_105_121 (by constructor <;> omega) (fun r121 => ?_)
      refine at_aldI dx_105_122 lc_869 ln_869 (by first | omega | (simp (disch := omega) only [um_eq, um_k, um_j]; omega)) (by first | omega | (simp (disch := omega) only [um_eq, um_k, um_j]; omega)) (fun r122 => ?_)
      refine at_astI dx_105_123 lc_869 ln_869 (by first | omega | (simp (disch := omega) only [um_eq, um_k, um_j]; omega)) (by first | omega | (simp (disch := omega) only [um_eq, um_k, um_j]; omega)) r122 ?_
      refine at_iincR (y := 1) dx_105_124 rfl rfl (by constructor <;> omega) (fun r124 => ?_)
      refine at_goto dx_105_125 ?_
      refine ih _ (by omega) _ _ r124 (by omega) rfl (fe_ums (fe_ums F (by (try dsimp only [stE]); first | done | omega)) (by (try dsimp only [stE]); first | done | omega)) ?_ (fun j h1 h2 => ?_) (fun j h1 h2 => ?_)
      · rw [← e1]; unfold mv; dsimp only
        simp (disch := omega) only [um_k]
      · rw [um_k (by decide)]
        by_cases ej : j = i
        · subst ej; rw [um_eq, g8 (by omega)]
        · rw [um_j (by omega)]; exact e2 j h1 (by omega)
      · by_cases ej : j = i
        · subst ej; rw [um_eq, um_k (by decide), g9 (by omega)]
        · rw [um_j (by omega), um_k (by decide)]; exact e3 j h1 (by omega)
  refine at_aload dx_105_0 rfl ?_
  refine at_getR dx_105_1 lc_856 rfl lt_856_4 ?_
  refine at_iload dx_105_2 rfl ?_
  refine at_aload dx_105_3 rfl ?_
  refine at_getR dx_105_4 lc_856 rfl lt_856_4 ?_
  refine at_iload dx_105_5 rfl ?_
  refine at_aldZ dx_105_6 lc_861 ln_861 (by first | omega | (simp (disch := omega) only [um_eq, um_k, um_j]; omega)) (by first | omega | (simp (disch := omega) only [um_eq, um_k, um_j]; omega)) (fun r6 => ?_)
  refine at_astZ dx_105_7 lc_861 ln_861 (by first | omega | (simp (disch := omega) only [um_eq, um_k, um_j]; omega)) (by first | omega | (simp (disch := omega) only [um_eq, um_k, um_j]; omega)) (hb1 f hf.1) ?_
  refine at_aload dx_105_8 rfl ?_
  refine at_getR dx_105_9 lc_856 rfl lt_856_5 ?_
  refine at_iload dx_105_10 rfl ?_
  refine at_aload dx_105_11 rfl ?_
  refine at_getR dx_105_12 lc_856 rfl lt_856_5 ?_
  refine at_iload dx_105_13 rfl ?_
  refine at_aldZ dx_105_14 lc_862 ln_862 (by first | omega | (simp (disch := omega) only [um_eq, um_k, um_j]; omega)) (by first | omega | (simp (disch := omega) only [um_eq, um_k, um_j]; omega)) (fun r14 => ?_)
  simp (disch := omega) only [um_k, um_j] at r14 ⊢
  refine at_astZ dx_105_15 lc_862 ln_862 (by first | omega | (simp (disch := omega) only [um_eq, um_k, um_j]; omega)) (by first | omega | (simp (disch := omega) only [um_eq, um_k, um_j]; omega)) (hb2 f hf.1) ?_
  refine at_aload dx_105_16 rfl ?_
  refine at_getR dx_105_17 lc_856 rfl lt_856_6 ?_
  refine at_iload dx_105_18 rfl ?_
  refine at_aload dx_105_19 rfl ?_
  refine at_getR dx_105_20 lc_856 rfl lt_856_6 ?_
  refine at_iload dx_105_21 rfl ?_
  refine at_aldI dx_105_22 lc_863 ln_863 (by first | omega | (simp (disch := omega) only [um_eq, um_k, um_j]; omega)) (by first | omega | (simp (disch := omega) only [um_eq, um_k, um_j]; omega)) (fun r22 => ?_)
  simp (disch := omega) only [um_k, um_j] at r22 ⊢
  refine at_astI dx_105_23 lc_863 ln_863 (by first | omega | (simp (disch := omega) only [um_eq, um_k, um_j]; omega)) (by first | omega | (simp (disch := omega) only [um_eq, um_k, um_j]; omega)) r22 ?_
  refine at_aload dx_105_24 rfl ?_
  refine at_getR dx_105_25 lc_856 rfl lt_856_7 ?_
  refine at_iload dx_105_26 rfl ?_
  refine at_aload dx_105_27 rfl ?_
  refine at_getR dx_105_28 lc_856 rfl lt_856_7 ?_
  refine at_iload dx_105_29 rfl ?_
  refine at_aldI dx_105_30 lc_864 ln_864 (by first | omega | (simp (disch := omega) only [um_eq, um_k, um_j]; omega)) (by first | omega | (simp (disch := omega) only [um_eq, um_k, um_j]; omega)) (fun r30 => ?_)
  simp (disch := omega) only [um_k, um_j] at r30 ⊢
  refine at_astI dx_105_31 lc_864 ln_864 (by first | omega | (simp (disch := omega) only [um_eq, um_k, um_j]; omega)) (by first | omega | (simp (disch := omega) only [um_eq, um_k, um_j]; omega)) r30 ?_
  refine at_const (x := 0) dx_105_32 rfl ?_
  refine at_istore dx_105_33 ?_
  refine at_iload dx_105_34 rfl ?_
  refine at_const (x := 2) dx_105_35 rfl ?_
  refine at_cgeR dx_105_36 (by decide) (by decide) (fun c => absurd c (by decide)) (fun _ => ?_)
  refine at_aload dx_105_37 rfl ?_
  refine at_getR dx_105_38 lc_856 rfl lt_856_8 ?_
  refine at_const (x := 2) dx_105_39 rfl ?_
  refine at_iload dx_105_40 rfl ?_
  refine at_mulR dx_105_41 (by constructor <;> omega) (fun r41 => ?_)
  refine at_iload dx_105_42 rfl ?_
  refine at_addR dx_105_43 (by constructor <;> omega) (fun r43 => ?_)
  refine at_aload dx_105_44 rfl ?_
  refine at_getR dx_105_45 lc_856 rfl lt_856_8 ?_
  refine at_const (x := 2) dx_105_46 rfl ?_
  refine at_iload dx_105_47 rfl ?_
  refine at_mulR dx_105_48 (by constructor <;> omega) (fun r48 => ?_)
  refine at_iload dx_105_49 rfl ?_
  refine at_addR dx_105_50 (by constructor <;> omega) (fun r50 => ?_)
  refine at_aldI dx_105_51 lc_865 ln_865 (by first | omega | (simp (disch := omega) only [um_eq, um_k, um_j]; omega)) (by first | omega | (simp (disch := omega) only [um_eq, um_k, um_j]; omega)) (fun r51 => ?_)
  simp (disch := omega) only [um_k, um_j] at r51 ⊢
  refine at_astI dx_105_52 lc_865 ln_865 (by first | omega | (simp (disch := omega) only [um_eq, um_k, um_j]; omega)) (by first | omega | (simp (disch := omega) only [um_eq, um_k, um_j]; omega)) r51 ?_
  refine at_aload dx_105_53 rfl ?_
  refine at_getR dx_105_54 lc_856 rfl lt_856_9 ?_
  refine at_const (x := 2) dx_105_55 rfl ?_
  refine at_iload dx_105_56 rfl ?_
  refine at_mulR dx_105_57 (by constructor <;> omega) (fun r57 => ?_)
  refine at_iload dx_105_58 rfl ?_
  refine at_addR dx_105_59 (by constructor <;> omega) (fun r59 => ?_)
  refine at_aload dx_105_60 rfl ?_
  refine at_getR dx_105_61 lc_856 rfl lt_856_9 ?_
  refine at_const (x := 2) dx_105_62 rfl ?_
  refine at_iload dx_105_63 rfl ?_
  refine at_mulR dx_105_64 (by constructor <;> omega) (fun r64 => ?_)
  refine at_iload dx_105_65 rfl ?_
  refine at_addR dx_105_66 (by constructor <;> omega) (fun r66 => ?_)
  refine at_aldI dx_105_67 lc_866 ln_866 (by first | omega | (simp (disch := omega) only [um_eq, um_k, um_j]; omega)) (by first | omega | (simp (disch := omega) only [um_eq, um_k, um_j]; omega)) (fun r67 => ?_)
  simp (disch := omega) only [um_k, um_j] at r67 ⊢
  refine at_astI dx_105_68 lc_866 ln_866 (by first | omega | (simp (disch := omega) only [um_eq, um_k, um_j]; omega)) (by first | omega | (simp (disch := omega) only [um_eq, um_k, um_j]; omega)) r67 ?_
  refine at_aload dx_105_69 rfl ?_
  refine at_getR dx_105_70 lc_856 rfl lt_856_10 ?_
  refine at_const (x := 2) dx_105_71 rfl ?_
  refine at_iload dx_105_72 rfl ?_
  refine at_mulR dx_105_73 (by constructor <;> omega) (fun r73 => ?_)
  refine at_iload dx_105_74 rfl ?_
  refine at_addR dx_105_75 (by constructor <;> omega) (fun r75 => ?_)
  refine at_aload dx_105_76 rfl ?_
  refine at_getR dx_105_77 lc_856 rfl lt_856_10 ?_
  refine at_const (x := 2) dx_105_78 rfl ?_
  refine at_iload dx_105_79 rfl ?_
  refine at_mulR dx_105_80 (by constructor <;> omega) (fun r80 => ?_)
  refine at_iload dx_105_81 rfl ?_
  refine at_addR dx_105_82 (by constructor <;> omega) (fun r82 => ?_)
  refine at_aldI dx_105_83 lc_867 ln_867 (by first | omega | (simp (disch := omega) only [um_eq, um_k, um_j]; omega)) (by first | omega | (simp (disch := omega) only [um_eq, um_k, um_j]; omega)) (fun r83 => ?_)
  simp (disch := omega) only [um_k, um_j] at r83 ⊢
  refine at_astI dx_105_84 lc_867 ln_867 (by first | omega | (simp (disch := omega) only [um_eq, um_k, um_j]; omega)) (by first | omega | (simp (disch := omega) only [um_eq, um_k, um_j]; omega)) r83 ?_
  refine at_iincC (y := 1) (z := 1) dx_105_85 rfl rfl (by decide +kernel) ?_
  refine at_goto dx_105_86 ?_
  refine at_iload dx_105_34 rfl ?_
  refine at_const (x := 2) dx_105_35 rfl ?_
  refine at_cgeR dx_105_36 (by decide) (by decide) (fun c => absurd c (by decide)) (fun _ => ?_)
  refine at_aload dx_105_37 rfl ?_
  refine at_getR dx_105_38 lc_856 rfl lt_856_8 ?_
  refine at_const (x := 2) dx_105_39 rfl ?_
  refine at_iload dx_105_40 rfl ?_
  refine at_mulR dx_105_41 (by constructor <;> omega) (fun r41 => ?_)
  refine at_iload dx_105_42 rfl ?_
  refine at_addR dx_105_43 (by constructor <;> omega) (fun r43 => ?_)
  refine at_aload dx_105_44 rfl ?_
  refine at_getR dx_105_45 lc_856 rfl lt_856_8 ?_
  refine at_const (x := 2) dx_105_46 rfl ?_
  refine at_iload dx_105_47 rfl ?_
  refine at_mulR dx_105_48 (by constructor <;> omega) (fun r48 => ?_)
  refine at_iload dx_105_49 rfl ?_
  refine at_addR dx_105_50 (by constructor <;> omega) (fun r50 => ?_)
  refine at_aldI dx_105_51 lc_865 ln_865 (by first | omega | (simp (disch := omega) only [um_eq, um_k, um_j]; omega)) (by first | omega | (simp (disch := omega) only [um_eq, um_k, um_j]; omega)) (fun r51 => ?_)
  simp (disch := omega) only [um_k, um_j] at r51 ⊢
  refine at_astI dx_105_52 lc_865 ln_865 (by first | omega | (simp (disch := omega) only [um_eq, um_k, um_j]; omega)) (by first | omega | (simp (disch := omega) only [um_eq, um_k, um_j]; omega)) r51 ?_
  refine at_aload dx_105_53 rfl ?_
  refine at_getR dx_105_54 lc_856 rfl lt_856_9 ?_
  refine at_const (x := 2) dx_105_55 rfl ?_
  refine at_iload dx_105_56 rfl ?_
  refine at_mulR dx_105_57 (by constructor <;> omega) (fun r57 => ?_)
  refine at_iload dx_105_58 rfl ?_
  refine at_addR dx_105_59 (by constructor <;> omega) (fun r59 => ?_)
  refine at_aload dx_105_60 rfl ?_
  refine at_getR dx_105_61 lc_856 rfl lt_856_9 ?_
  refine at_const (x := 2) dx_105_62 rfl ?_
  refine at_iload dx_105_63 rfl ?_
  refine at_mulR dx_105_64 (by constructor <;> omega) (fun r64 => ?_)
  refine at_iload dx_105_65 rfl ?_
  refine at_addR dx_105_66 (by constructor <;> omega) (fun r66 => ?_)
  refine at_aldI dx_105_67 lc_866 ln_866 (by first | omega | (simp (disch := omega) only [um_eq, um_k, um_j]; omega)) (by first | omega | (simp (disch := omega) only [um_eq, um_k, um_j]; omega)) (fun r67 => ?_)
  simp (disch := omega) only [um_k, um_j] at r67 ⊢
  refine at_astI dx_105_68 lc_866 ln_866 (by first | omega | (simp (disch := omega) only [um_eq, um_k, um_j]; omega)) (by first | omega | (simp (disch := omega) only [um_eq, um_k, um_j]; omega)) r67 ?_
  refine at_aload dx_105_69 rfl ?_
  refine at_getR dx_105_70 lc_856 rfl lt_856_10 ?_
  refine at_const (x := 2) dx_105_71 rfl ?_
  refine at_iload dx_105_72 rfl ?_
  refine at_mulR dx_105_73 (by constructor <;> omega) (fun r73 => ?_)
  refine at_iload dx_105_74 rfl ?_
  refine at_addR dx_105_75 (by constructor <;> omega) (fun r75 => ?_)
  refine at_aload dx_105_76 rfl ?_
  refine at_getR dx_105_77 lc_856 rfl lt_856_10 ?_
  refine at_const (x := 2) dx_105_78 rfl ?_
  refine at_iload dx_105_79 rfl ?_
  refine at_mulR dx_105_80 (by constructor <;> omega) (fun r80 => ?_)
  refine at_iload dx_105_81 rfl ?_
  refine at_addR dx_105_82 (by constructor <;> omega) (fun r82 => ?_)
  refine at_aldI dx_105_83 lc_867 ln_867 (by first | omega | (simp (disch := omega) only [um_eq, um_k, um_j]; omega)) (by first | omega | (simp (disch := omega) only [um_eq, um_k, um_j]; omega)) (fun r83 => ?_)
  simp (disch := omega) only [um_k, um_j] at r83 ⊢
  refine at_astI dx_105_84 lc_867 ln_867 (by first | omega | (simp (disch := omega) only [um_eq, um_k, um_j]; omega)) (by first | omega | (simp (disch := omega) only [um_eq, um_k, um_j]; omega)) r83 ?_
  refine at_iincC (y := 1) (z := 2) dx_105_85 rfl rfl (by decide +kernel) ?_
  refine at_goto dx_105_86 ?_
  refine at_iload dx_105_34 rfl ?_
  refine at_const (x := 2) dx_105_35 rfl ?_
  refine at_cgeR dx_105_36 (by decide) (by decide) (fun _ => ?_) (fun c => absurd c (by decide))
  refine at_const (x := 0) dx_105_87 rfl ?_
  refine at_istore dx_105_88 ?_
  refine lp _ 0 _ (by decide) (by decide) rfl (by (repeat (first | exact fe_rf | refine fe_ums ?_ (by (try dsimp only); first | done | omega)))) ?_ (fun j h1 h2 => by omega) (fun j h1 h2 => by omega)
  unfold mv; dsimp only
  simp (disch := omega) only [um_eq, um_k, um_j, Int.add_zero]

set_option maxRecDepth 100000 in
set_option maxHeartbeats 4000000 in
theorem m_adds {X : scr} {M : mem} {s r t : Int} (rs : inR s) (rr : inR r) (rt : inR t) (hs : 0 ≤ s ∧ s ≤ 100) (hr : 0 ≤ r ∧ r ≤ 1) (hp : (0 ≤ M 867 (2 * s) ∧ M 867 (2 * s) ≤ 100) ∧ (0 ≤ M 867 (2 * s + 1) ∧ M 867 (2 * s + 1) ≤ 100)) : At X 0 106 0 [vr 856, vi s, vi r, vi t] [] M (qV (fun M' => M' = um (if M 867 (2 * s) + M 867 (2 * s + 1) < 60 then um M 869 (60 * s + (M 867 (2 * s) + M 867 (2 * s + 1))) t else M) 867 (2 * s + r) (M 867 (2 * s + r) + 1))) := by
  have hpr : 0 ≤ M 867 (2 * s + r) ∧ M 867 (2 * s + r) ≤ 100 := by
    rcases (show r = 0 ∨ r = 1 by omega) with rfl | rfl
    · rw [Int.add_zero]; exact hp.1
    · exact hp.2
  refine at_aload dx_106_0 rfl ?_
  refine at_getR dx_106_1 lc_856 rfl lt_856_10 ?_
  refine at_const (x := 2) dx_106_2 rfl ?_
  refine at_iload dx_106_3 rfl ?_
  refine at_mulR dx_106_4 (by (first | (constructor <;> omega) | (simp (disch := omega) only [um_k]; constructor <;> omega))) (fun r4 => ?_)
  refine at_aldI dx_106_5 lc_867 ln_867 (by first | omega | (simp (disch := omega) only [um_eq, um_k, um_j]; omega)) (by first | omega | (simp (disch := omega) only [um_eq, um_k, um_j]; omega)) (fun r5 => ?_)
  refine at_aload dx_106_6 rfl ?_
  refine at_getR dx_106_7 lc_856 rfl lt_856_10 ?_
  refine at_const (x := 2) dx_106_8 rfl ?_
  refine at_iload dx_106_9 rfl ?_
  refine at_mulR dx_106_10 (by (first | (constructor <;> omega) | (simp (disch := omega) only [um_k]; constructor <;> omega))) (fun r10 => ?_)
  refine at_const (x := 1) dx_106_11 rfl ?_
  refine at_addR dx_106_12 (by (first | (constructor <;> omega) | (simp (disch := omega) only [um_k]; constructor <;> omega))) (fun r12 => ?_)
  refine at_aldI dx_106_13 lc_867 ln_867 (by first | omega | (simp (disch := omega) only [um_eq, um_k, um_j]; omega)) (by first | omega | (simp (disch := omega) only [um_eq, um_k, um_j]; omega)) (fun r13 => ?_)
  refine at_addR dx_106_14 (by (first | (constructor <;> omega) | (simp (disch := omega) only [um_k]; constructor <;> omega))) (fun r14 => ?_)
  refine at_istore dx_106_15 ?_
  refine at_iload dx_106_16 rfl ?_
  refine at_const (x := 60) dx_106_17 rfl ?_
  refine at_cgeR dx_106_18 r14 (by decide) (fun c18 => ?_) (fun c18 => ?_)
  · skip
    refine at_aload dx_106_28 rfl ?_
    refine at_getR dx_106_29 lc_856 rfl lt_856_10 ?_
    refine at_const (x := 2) dx_106_30 rfl ?_
    refine at_iload dx_106_31 rfl ?_
    refine at_mulR dx_106_32 (by (first | (constructor <;> omega) | (simp (disch := omega) only [um_k]; constructor <;> omega))) (fun r32 => ?_)
    refine at_iload dx_106_33 rfl ?_
    refine at_addR dx_106_34 (by (first | (constructor <;> omega) | (simp (disch := omega) only [um_k]; constructor <;> omega))) (fun r34 => ?_)
    refine at_dup2 dx_106_35 rfl rfl ?_
    refine at_aldI dx_106_36 lc_867 ln_867 (by first | omega | (simp (disch := omega) only [um_eq, um_k, um_j]; omega)) (by first | omega | (simp (disch := omega) only [um_eq, um_k, um_j]; omega)) (fun r36 => ?_)
    refine at_const (x := 1) dx_106_37 rfl ?_
    refine at_addR dx_106_38 (by (first | (constructor <;> omega) | (simp (disch := omega) only [um_k]; constructor <;> omega))) (fun r38 => ?_)
    refine at_astI dx_106_39 lc_867 ln_867 (by first | omega | (simp (disch := omega) only [um_eq, um_k, um_j]; omega)) (by first | omega | (simp (disch := omega) only [um_eq, um_k, um_j]; omega)) r38 ?_
    refine at_vretV dx_106_40 ?_
    first | (rw [if_pos (by omega)]; simp (disch := omega) only [um_k]; done) | (rw [if_neg (by omega)]; done) | rw [if_pos (by omega)]
  · skip
    refine at_aload dx_106_19 rfl ?_
    refine at_getR dx_106_20 lc_856 rfl lt_856_12 ?_
    refine at_const (x := 60) dx_106_21 rfl ?_
    refine at_iload dx_106_22 rfl ?_
    refine at_mulR dx_106_23 (by (first | (constructor <;> omega) | (simp (disch := omega) only [um_k]; constructor <;> omega))) (fun r23 => ?_)
    refine at_iload dx_106_24 rfl ?_
    refine at_addR dx_106_25 (by (first | (constructor <;> omega) | (simp (disch := omega) only [um_k]; constructor <;> omega))) (fun r25 => ?_)
    refine at_iload dx_106_26 rfl ?_
    refine at_astI dx_106_27 lc_869 ln_869 (by first | omega | (simp (disch := omega) only [um_eq, um_k, um_j]; omega)) (by first | omega | (simp (disch := omega) only [um_eq, um_k, um_j]; omega)) rt ?_
    refine at_aload dx_106_28 rfl ?_
    refine at_getR dx_106_29 lc_856 rfl lt_856_10 ?_
    refine at_const (x := 2) dx_106_30 rfl ?_
    refine at_iload dx_106_31 rfl ?_
    refine at_mulR dx_106_32 (by (first | (constructor <;> omega) | (simp (disch := omega) only [um_k]; constructor <;> omega))) (fun r32 => ?_)
    refine at_iload dx_106_33 rfl ?_
    refine at_addR dx_106_34 (by (first | (constructor <;> omega) | (simp (disch := omega) only [um_k]; constructor <;> omega))) (fun r34 => ?_)
    refine at_dup2 dx_106_35 rfl rfl ?_
    refine at_aldI dx_106_36 lc_867 ln_867 (by first | omega | (simp (disch := omega) only [um_eq, um_k, um_j]; omega)) (by first | omega | (simp (disch := omega) only [um_eq, um_k, um_j]; omega)) (fun r36 => ?_)
    refine at_const (x := 1) dx_106_37 rfl ?_
    refine at_addR dx_106_38 (by (first | (constructor <;> omega) | (simp (disch := omega) only [um_k]; constructor <;> omega))) (fun r38 => ?_)
    refine at_astI dx_106_39 lc_867 ln_867 (by first | omega | (simp (disch := omega) only [um_eq, um_k, um_j]; omega)) (by first | omega | (simp (disch := omega) only [um_eq, um_k, um_j]; omega)) r38 ?_
    refine at_vretV dx_106_40 ?_
    first | (rw [if_pos (by omega)]; simp (disch := omega) only [um_k]; done) | (rw [if_neg (by omega)]; done) | rw [if_pos (by omega)]

set_option maxRecDepth 100000 in
set_option maxHeartbeats 4000000 in
theorem m_looksAt {X : scr} {M : mem} {d : Int} (rd : inR d) (hd : 0 ≤ d ∧ d ≤ 3) (hl : 0 ≤ M 860 d ∧ M 860 d ≤ 60) : At X 0 107 0 [vr 856, vi d] [] M (qV (fun M' => frE (fun q j => q = 877 ∨ (q = 856 ∧ j = 23)) M M' ∧ M' 856 23 = M 860 d ∧ wk M' = dc M d)) := by
  have lp : ∀ (n : Nat) (i : Int) (M1 : mem) (ri : inR i) (h0 : 0 ≤ i ∧ i ≤ M 860 d) (hn : (M 860 d - i).toNat = n) (F : frE (fun q j => q = 877 ∨ (q = 856 ∧ j = 23)) M M1) (e1 : M1 856 23 = M 860 d) (e2 : ∀ j : Int, 0 ≤ j → j < i → M1 877 j = M 859 (60 * d + j)), At X 0 107 8 [vr 856, vi d, vi i] [] M1 (qV (fun M' => frE (fun q j => q = 877 ∨ (q = 856 ∧ j = 23)) M M' ∧ M' 856 23 = M 860 d ∧ wk M' = dc M d)) := by
    intro n
    induction n using Nat.strongRecOn with
    | ind n ih =>
    intro i M1 ri h0 hn F e1 e2
    have g : M1 859 (60 * d + i) = M 859 (60 * d + i) := F 859 _ (by (try dsimp only [stE]); first | done | omega)
    refine at_iload dx_107_8 rfl ?_
    refine at_aload dx_107_9 rfl ?_
    refine at_getI 23 dx_107_10 lc_856 rfl rfl (fun r10 => ?_)
    refine at_cgeR dx_107_11 ri r10 (fun c11 => ?_) (fun c11 => ?_)
    · skip
      refine at_vretV dx_107_26 ?_
      refine ⟨F, e1, ?_⟩
      unfold wk dc; rw [e1]
      apply List.map_congr_left
      intro j hj
      have := List.mem_range.mp hj
      exact e2 j (by omega) (by omega)
    · skip
      refine at_aload dx_107_12 rfl ?_
      refine at_getR dx_107_13 lc_856 rfl lt_856_22 ?_
      refine at_iload dx_107_14 rfl ?_
      refine at_aload dx_107_15 rfl ?_
      refine at_getR dx_107_16 lc_856 rfl lt_856_2 ?_
      refine at_const (x := 60) dx_107_17 rfl ?_
      refine at_iload dx_107_18 rfl ?_
      refine at_mulR dx_107_19 (by constructor <;> omega) (fun r19 => ?_)
      refine at_iload dx_107_20 rfl ?_
      refine at_addR dx_107_21 (by constructor <;> omega) (fun r21 => ?_)
      refine at_aldI dx_107_22 lc_859 ln_859 (by first | omega | (simp (disch := omega) only [um_eq, um_k, um_j]; omega)) (by first | omega | (simp (disch := omega) only [um_eq, um_k, um_j]; omega)) (fun r22 => ?_)
      refine at_astI dx_107_23 lc_877 ln_877 (by first | omega | (simp (disch := omega) only [um_eq, um_k, um_j]; omega)) (by first | omega | (simp (disch := omega) only [um_eq, um_k, um_j]; omega)) r22 ?_
      refine at_iincR (y := 1) dx_107_24 rfl rfl (by constructor <;> omega) (fun r24 => ?_)
      refine at_goto dx_107_25 ?_
      refine ih _ (by omega) _ _ r24 (by omega) rfl (fe_ums F (by (try dsimp only [stE]); first | done | omega)) (by rw [um_k (by decide)]; exact e1) (fun j h1 h2 => ?_)
      by_cases ej : j = i
      · subst ej; rw [um_eq, g]
      · rw [um_j ej]; exact e2 j h1 (by omega)
  refine at_aload dx_107_0 rfl ?_
  refine at_aload dx_107_1 rfl ?_
  refine at_getR dx_107_2 lc_856 rfl lt_856_3 ?_
  refine at_iload dx_107_3 rfl ?_
  refine at_aldI dx_107_4 lc_860 ln_860 (by first | omega | (simp (disch := omega) only [um_eq, um_k, um_j]; omega)) (by first | omega | (simp (disch := omega) only [um_eq, um_k, um_j]; omega)) (fun r4 => ?_)
  refine at_putI 23 dx_107_5 lc_856 rfl rfl r4 ?_
  refine at_const (x := 0) dx_107_6 rfl ?_
  refine at_istore dx_107_7 ?_
  exact lp _ 0 _ (by decide) (by omega) rfl (by (repeat (first | exact fe_rf | refine fe_ums ?_ (by (try dsimp only); first | done | omega)))) (um_eq _ _ _ _) (fun j h1 h2 => by omega)

set_option maxRecDepth 100000 in
set_option maxHeartbeats 4000000 in
theorem m_keeps {X : scr} {M : mem} {d : Int} (rd : inR d) (hd : 0 ≤ d ∧ d ≤ 3) (hl : 0 ≤ M 856 23 ∧ M 856 23 ≤ 60) : At X 0 108 0 [vr 856, vi d] [] M (qV (fun M' => frE (fun q j => (q = 860 ∧ j = d) ∨ (q = 859 ∧ 60 * d ≤ j ∧ j < 60 * d + 60)) M M' ∧ M' 860 d = M 856 23 ∧ dc M' d = wk M)) := by
  have lp : ∀ (n : Nat) (i : Int) (M1 : mem) (ri : inR i) (h0 : 0 ≤ i ∧ i ≤ M 856 23) (hn : (M 856 23 - i).toNat = n) (F : frE (fun q j => (q = 860 ∧ j = d) ∨ (q = 859 ∧ 60 * d ≤ j ∧ j < 60 * d + 60)) M M1) (e1 : M1 860 d = M 856 23) (e2 : ∀ j : Int, 0 ≤ j → j < i → M1 859 (60 * d + j) = M 877 j), At X 0 108 8 [vr 856, vi d, vi i] [] M1 (qV (fun M' => frE (fun q j => (q = 860 ∧ j = d) ∨ (q = 859 ∧ 60 * d ≤ j ∧ j < 60 * d + 60)) M M' ∧ M' 860 d = M 856 23 ∧ dc M' d = wk M)) := by
    intro n
    induction n using Nat.strongRecOn with
    | ind n ih =>
    intro i M1 ri h0 hn F e1 e2
    have g : M1 877 i = M 877 i := F 877 _ (by (try dsimp only [stE]); first | done | omega)
    have g2 : M1 856 23 = M 856 23 := F 856 _ (by (try dsimp only [stE]); first | done | omega)
    refine at_iload dx_108_8 rfl ?_
    refine at_aload dx_108_9 rfl ?_
    refine at_getI 23 dx_108_10 lc_856 rfl rfl (fun r10 => ?_)
    refine at_cgeR dx_108_11 ri r10 (fun c11 => ?_) (fun c11 => ?_)
    · skip
      refine at_vretV dx_108_26 ?_
      refine ⟨F, e1, ?_⟩
      unfold wk dc; rw [e1]
      apply List.map_congr_left
      intro j hj
      have := List.mem_range.mp hj
      exact e2 j (by omega) (by omega)
    · skip
      refine at_aload dx_108_12 rfl ?_
      refine at_getR dx_108_13 lc_856 rfl lt_856_2 ?_
      refine at_const (x := 60) dx_108_14 rfl ?_
      refine at_iload dx_108_15 rfl ?_
      refine at_mulR dx_108_16 (by constructor <;> omega) (fun r16 => ?_)
      refine at_iload dx_108_17 rfl ?_
      refine at_addR dx_108_18 (by constructor <;> omega) (fun r18 => ?_)
      refine at_aload dx_108_19 rfl ?_
      refine at_getR dx_108_20 lc_856 rfl lt_856_22 ?_
      refine at_iload dx_108_21 rfl ?_
      refine at_aldI dx_108_22 lc_877 ln_877 (by first | omega | (simp (disch := omega) only [um_eq, um_k, um_j]; omega)) (by first | omega | (simp (disch := omega) only [um_eq, um_k, um_j]; omega)) (fun r22 => ?_)
      refine at_astI dx_108_23 lc_859 ln_859 (by first | omega | (simp (disch := omega) only [um_eq, um_k, um_j]; omega)) (by first | omega | (simp (disch := omega) only [um_eq, um_k, um_j]; omega)) r22 ?_
      refine at_iincR (y := 1) dx_108_24 rfl rfl (by constructor <;> omega) (fun r24 => ?_)
      refine at_goto dx_108_25 ?_
      refine ih _ (by omega) _ _ r24 (by omega) rfl (fe_ums F (by (try dsimp only [stE]); first | done | omega)) (by rw [um_k (by decide)]; exact e1) (fun j h1 h2 => ?_)
      by_cases ej : j = i
      · subst ej; rw [um_eq, g]
      · rw [um_j (by omega)]; exact e2 j h1 (by omega)
  refine at_aload dx_108_0 rfl ?_
  refine at_getR dx_108_1 lc_856 rfl lt_856_3 ?_
  refine at_iload dx_108_2 rfl ?_
  refine at_aload dx_108_3 rfl ?_
  refine at_getI 23 dx_108_4 lc_856 rfl rfl (fun r4 => ?_)
  refine at_astI dx_108_5 lc_860 ln_860 (by first | omega | (simp (disch := omega) only [um_eq, um_k, um_j]; omega)) (by first | omega | (simp (disch := omega) only [um_eq, um_k, um_j]; omega)) r4 ?_
  refine at_const (x := 0) dx_108_6 rfl ?_
  refine at_istore dx_108_7 ?_
  exact lp _ 0 _ (by decide) (by omega) rfl (by (repeat (first | exact fe_rf | refine fe_ums ?_ (by (try dsimp only); first | done | omega)))) (um_eq _ _ _ _) (fun j h1 h2 => by omega)

set_option maxRecDepth 100000 in
set_option maxHeartbeats 4000000 in
theorem m_tokenOf {X : scr} {M : mem} {d p : Int} (rd : inR d) (rp : inR p) (hd : 0 ≤ d ∧ d ≤ 3) (hp : 0 ≤ p ∧ p < 60) : At X 0 129 0 [vr 856, vi d, vi p] [] M (qI (fun x M' => M' = M ∧ x = M 859 (60 * d + p))) := by
  refine at_aload dx_129_0 rfl ?_
  refine at_getR dx_129_1 lc_856 rfl lt_856_2 ?_
  refine at_const (x := 60) dx_129_2 rfl ?_
  refine at_iload dx_129_3 rfl ?_
  refine at_mulR dx_129_4 (by constructor <;> omega) (fun r4 => ?_)
  refine at_iload dx_129_5 rfl ?_
  refine at_addR dx_129_6 (by constructor <;> omega) (fun r6 => ?_)
  refine at_aldI dx_129_7 lc_859 ln_859 (by first | omega | (simp (disch := omega) only [um_eq, um_k, um_j]; omega)) (by first | omega | (simp (disch := omega) only [um_eq, um_k, um_j]; omega)) (fun r7 => ?_)
  refine at_iretI dx_129_8 r7 ?_
  exact ⟨rfl, rfl⟩

set_option maxRecDepth 100000 in
set_option maxHeartbeats 4000000 in
theorem m_opensAt {X : scr} {M : mem} {d p : Int} (rd : inR d) (rp : inR p) (hd : 0 ≤ d ∧ d ≤ 3) (hp : 0 ≤ p) (hl : M 860 d ≤ 60) : At X 0 130 0 [vr 856, vi d, vi p] [] M (qI (fun x M' => M' = M ∧ x = if p < M 860 d ∧ 1 ≤ M 859 (60 * d + p) ∧ M 859 (60 * d + p) ≤ 5 then 1 else 0)) := by
  refine at_iload dx_130_0 rfl ?_
  refine at_aload dx_130_1 rfl ?_
  refine at_getR dx_130_2 lc_856 rfl lt_856_3 ?_
  refine at_iload dx_130_3 rfl ?_
  refine at_aldI dx_130_4 lc_860 ln_860 (by first | omega | (simp (disch := omega) only [um_eq, um_k, um_j]; omega)) (by first | omega | (simp (disch := omega) only [um_eq, um_k, um_j]; omega)) (fun r4 => ?_)
  refine at_cgeR dx_130_5 rp r4 (fun c5 => ?_) (fun c5 => ?_)
  · skip
    refine at_const (x := 0) dx_130_14 rfl ?_
    refine at_zretI dx_130_15 (Or.inl rfl) ?_
    refine ⟨rfl, ?_⟩; rw [if_neg (fun hh => by first | omega | (rw [if_pos (by omega)] at h10; omega))]
  · skip
    refine at_aload dx_130_6 rfl ?_
    refine at_iload dx_130_7 rfl ?_
    refine at_iload dx_130_8 rfl ?_
    refine at_callVI dx_130_9 rfl lc_856 rfl (m_tokenOf rd rp (by omega) (by omega)) ?_
    rintro x9 M9 r9 ⟨e9, h9⟩; replace e9 := e9.symm; subst e9
    refine at_callSI dx_130_10 rfl rfl (m_opens r9) ?_
    rintro x10 M9 r10 ⟨e9, h10⟩; replace e9 := e9.symm; subst e9
    refine at_zeqR dx_130_11 r10 (fun c11 => ?_) (fun c11 => ?_)
    · skip
      refine at_const (x := 0) dx_130_14 rfl ?_
      refine at_zretI dx_130_15 (Or.inl rfl) ?_
      refine ⟨rfl, ?_⟩; rw [if_neg (fun hh => by first | omega | (rw [if_pos (by omega)] at h10; omega))]
    · skip
      refine at_const (x := 1) dx_130_12 rfl ?_
      refine at_goto dx_130_13 ?_
      refine at_zretI dx_130_15 (Or.inr rfl) ?_
      refine ⟨rfl, ?_⟩; split at h10 <;> first | omega | rw [if_pos (by omega)]

set_option maxRecDepth 100000 in
set_option maxHeartbeats 4000000 in
theorem m_place {X : scr} {M : mem} {c k : Int} (rc : inR c) (rk : inR k) (hc : 0 ≤ c ∧ c ≤ 3) (hk : 0 ≤ k ∧ k ≤ 20) : At X 0 121 0 [vi c, vi k] [] M (qI (fun x M' => M' = M ∧ x = 60 + 10 * c + k)) := by
  refine at_const (x := 60) dx_121_0 rfl ?_
  refine at_const (x := 10) dx_121_1 rfl ?_
  refine at_iload dx_121_2 rfl ?_
  refine at_mulR dx_121_3 (by constructor <;> omega) (fun r3 => ?_)
  refine at_addR dx_121_4 (by constructor <;> omega) (fun r4 => ?_)
  refine at_iload dx_121_5 rfl ?_
  refine at_addR dx_121_6 (by constructor <;> omega) (fun r6 => ?_)
  refine at_iretI dx_121_7 r6 ?_
  exact ⟨rfl, rfl⟩

set_option maxRecDepth 100000 in
set_option maxHeartbeats 4000000 in
theorem m_startOf {X : scr} {M : mem} {s z r : Int} (rs : inR s) (rz : inR z) (rr : inR r) (hs : 0 ≤ s ∧ s ≤ 100) (hr : 0 ≤ r ∧ r ≤ 1) (hN : sN M s) : At X 0 114 0 [vr 856, vi s, vi z, vi r] [] M (qI (fun x M' => M' = M ∧ x = M 865 (2 * s + r) + if z ≠ 0 ∧ r = 1 then M 867 (2 * s) - M 866 (2 * s) else 0)) := by
  have hpr : 0 ≤ M 865 (2 * s + r) ∧ M 865 (2 * s + r) ≤ 200 := by
    rcases (show r = 0 ∨ r = 1 by omega) with rfl | rfl
    · rw [Int.add_zero]; exact hN.1
    · exact hN.2.1
  obtain ⟨n1, n2, n3, n4, n5, n6⟩ := hN
  refine at_aload dx_114_0 rfl ?_
  refine at_getR dx_114_1 lc_856 rfl lt_856_8 ?_
  refine at_const (x := 2) dx_114_2 rfl ?_
  refine at_iload dx_114_3 rfl ?_
  refine at_mulR dx_114_4 (by constructor <;> omega) (fun r4 => ?_)
  refine at_iload dx_114_5 rfl ?_
  refine at_addR dx_114_6 (by constructor <;> omega) (fun r6 => ?_)
  refine at_aldI dx_114_7 lc_865 ln_865 (by first | omega | (simp (disch := omega) only [um_eq, um_k, um_j]; omega)) (by first | omega | (simp (disch := omega) only [um_eq, um_k, um_j]; omega)) (fun r7 => ?_)
  refine at_iload dx_114_8 rfl ?_
  refine at_zeqR dx_114_9 rz (fun c9 => ?_) (fun c9 => ?_)
  · skip
    refine at_const (x := 0) dx_114_27 rfl ?_
    refine at_addR dx_114_28 (by constructor <;> omega) (fun r28 => ?_)
    refine at_iretI dx_114_29 r28 ?_
    first | (rw [if_pos (by omega)]; exact ⟨rfl, rfl⟩) | (rw [if_neg (by omega)]; exact ⟨rfl, rfl⟩)
  · skip
    refine at_iload dx_114_10 rfl ?_
    refine at_const (x := 1) dx_114_11 rfl ?_
    refine at_cneR dx_114_12 rr (by decide) (fun c12 => ?_) (fun c12 => ?_)
    · skip
      refine at_const (x := 0) dx_114_27 rfl ?_
      refine at_addR dx_114_28 (by constructor <;> omega) (fun r28 => ?_)
      refine at_iretI dx_114_29 r28 ?_
      first | (rw [if_pos (by omega)]; exact ⟨rfl, rfl⟩) | (rw [if_neg (by omega)]; exact ⟨rfl, rfl⟩)
    · skip
      refine at_aload dx_114_13 rfl ?_
      refine at_getR dx_114_14 lc_856 rfl lt_856_10 ?_
      refine at_const (x := 2) dx_114_15 rfl ?_
      refine at_iload dx_114_16 rfl ?_
      refine at_mulR dx_114_17 (by constructor <;> omega) (fun r17 => ?_)
      refine at_aldI dx_114_18 lc_867 ln_867 (by first | omega | (simp (disch := omega) only [um_eq, um_k, um_j]; omega)) (by first | omega | (simp (disch := omega) only [um_eq, um_k, um_j]; omega)) (fun r18 => ?_)
      refine at_aload dx_114_19 rfl ?_
      refine at_getR dx_114_20 lc_856 rfl lt_856_9 ?_
      refine at_const (x := 2) dx_114_21 rfl ?_
      refine at_iload dx_114_22 rfl ?_
      refine at_mulR dx_114_23 (by constructor <;> omega) (fun r23 => ?_)
      refine at_aldI dx_114_24 lc_866 ln_866 (by first | omega | (simp (disch := omega) only [um_eq, um_k, um_j]; omega)) (by first | omega | (simp (disch := omega) only [um_eq, um_k, um_j]; omega)) (fun r24 => ?_)
      refine at_subR dx_114_25 (by constructor <;> omega) (fun r25 => ?_)
      refine at_goto dx_114_26 ?_
      refine at_addR dx_114_28 (by constructor <;> omega) (fun r28 => ?_)
      refine at_iretI dx_114_29 r28 ?_
      first | (rw [if_pos (by omega)]; exact ⟨rfl, rfl⟩) | (rw [if_neg (by omega)]; exact ⟨rfl, rfl⟩)

set_option maxRecDepth 100000 in
set_option maxHeartbeats 4000000 in
theorem m_takesOf {X : scr} {M : mem} {s z r : Int} (rs : inR s) (rz : inR z) (rr : inR r) (hs : 0 ≤ s ∧ s ≤ 100) (hr : 0 ≤ r ∧ r ≤ 1) : At X 0 115 0 [vr 856, vi s, vi z, vi r] [] M (qI (fun x M' => M' = M ∧ x = if z ≠ 0 then M 867 (2 * s + r) else M 866 (2 * s + r))) := by
  refine at_iload dx_115_0 rfl ?_
  refine at_zeqR dx_115_1 rz (fun c1 => ?_) (fun c1 => ?_)
  · skip
    refine at_aload dx_115_11 rfl ?_
    refine at_getR dx_115_12 lc_856 rfl lt_856_9 ?_
    refine at_const (x := 2) dx_115_13 rfl ?_
    refine at_iload dx_115_14 rfl ?_
    refine at_mulR dx_115_15 (by constructor <;> omega) (fun r15 => ?_)
    refine at_iload dx_115_16 rfl ?_
    refine at_addR dx_115_17 (by constructor <;> omega) (fun r17 => ?_)
    refine at_aldI dx_115_18 lc_866 ln_866 (by first | omega | (simp (disch := omega) only [um_eq, um_k, um_j]; omega)) (by first | omega | (simp (disch := omega) only [um_eq, um_k, um_j]; omega)) (fun r18 => ?_)
    refine at_iretI dx_115_19 r18 ?_
    first | (rw [if_pos (by omega)]; exact ⟨rfl, rfl⟩) | (rw [if_neg (by omega)]; exact ⟨rfl, rfl⟩)
  · skip
    refine at_aload dx_115_2 rfl ?_
    refine at_getR dx_115_3 lc_856 rfl lt_856_10 ?_
    refine at_const (x := 2) dx_115_4 rfl ?_
    refine at_iload dx_115_5 rfl ?_
    refine at_mulR dx_115_6 (by constructor <;> omega) (fun r6 => ?_)
    refine at_iload dx_115_7 rfl ?_
    refine at_addR dx_115_8 (by constructor <;> omega) (fun r8 => ?_)
    refine at_aldI dx_115_9 lc_867 ln_867 (by first | omega | (simp (disch := omega) only [um_eq, um_k, um_j]; omega)) (by first | omega | (simp (disch := omega) only [um_eq, um_k, um_j]; omega)) (fun r9 => ?_)
    refine at_goto dx_115_10 ?_
    refine at_iretI dx_115_19 r9 ?_
    first | (rw [if_pos (by omega)]; exact ⟨rfl, rfl⟩) | (rw [if_neg (by omega)]; exact ⟨rfl, rfl⟩)

set_option maxRecDepth 100000 in
set_option maxHeartbeats 4000000 in
theorem m_enters {X : scr} {M : mem} {s z : Int} (rs : inR s) (rz : inR z) (hz : z = 0 ∨ z = 1) (hr : 0 ≤ M 856 24 ∧ M 856 24 < 84) : At X 0 120 0 [vr 856, vi s, vi z] [] M (qV (fun M' => M' = um (um (um (um M 878 (M 856 24) s) 879 (M 856 24) z) 880 (M 856 24) (-1)) 856 24 (M 856 24 + 1))) := by
  refine at_aload dx_120_0 rfl ?_
  refine at_getR dx_120_1 lc_856 rfl lt_856_25 ?_
  refine at_aload dx_120_2 rfl ?_
  refine at_getI 24 dx_120_3 lc_856 rfl rfl (fun r3 => ?_)
  refine at_iload dx_120_4 rfl ?_
  refine at_astI dx_120_5 lc_878 ln_878 (by first | omega | (simp (disch := omega) only [um_eq, um_k, um_j]; omega)) (by first | omega | (simp (disch := omega) only [um_eq, um_k, um_j]; omega)) rs ?_
  refine at_aload dx_120_6 rfl ?_
  refine at_getR dx_120_7 lc_856 rfl lt_856_26 ?_
  refine at_aload dx_120_8 rfl ?_
  refine at_getI 24 dx_120_9 lc_856 rfl rfl (fun r9 => ?_)
  simp (disch := omega) only [um_k] at r9 ⊢
  refine at_iload dx_120_10 rfl ?_
  refine at_astZ dx_120_11 lc_879 ln_879 (by first | omega | (simp (disch := omega) only [um_eq, um_k, um_j]; omega)) (by first | omega | (simp (disch := omega) only [um_eq, um_k, um_j]; omega)) hz ?_
  refine at_aload dx_120_12 rfl ?_
  refine at_getR dx_120_13 lc_856 rfl lt_856_27 ?_
  refine at_aload dx_120_14 rfl ?_
  refine at_getI 24 dx_120_15 lc_856 rfl rfl (fun r15 => ?_)
  simp (disch := omega) only [um_k] at r15 ⊢
  refine at_const (x := -1) dx_120_16 rfl ?_
  refine at_astI dx_120_17 lc_880 ln_880 (by first | omega | (simp (disch := omega) only [um_eq, um_k, um_j]; omega)) (by first | omega | (simp (disch := omega) only [um_eq, um_k, um_j]; omega)) (by decide) ?_
  refine at_aload dx_120_18 rfl ?_
  refine at_dup dx_120_19 rfl ?_
  refine at_getI 24 dx_120_20 lc_856 rfl rfl (fun r20 => ?_)
  simp (disch := omega) only [um_k] at r20 ⊢
  refine at_const (x := 1) dx_120_21 rfl ?_
  refine at_addR dx_120_22 (by constructor <;> omega) (fun r22 => ?_)
  refine at_putI 24 dx_120_23 lc_856 rfl rfl r22 ?_
  refine at_vretV dx_120_24 ?_
  exact rfl
