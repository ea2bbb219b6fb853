/-! ===== the reference: inverses ===== -/
set_option maxRecDepth 100000 in
set_option maxHeartbeats 4000000 in
theorem m_inverts {X : scr} {M : mem} {s : Int} (rs : inR s) {n : Int} (hs : 0 ≤ s ∧ s ≤ 99) (hv : okW (mv M s) n) (hn60 : 0 ≤ n ∧ n ≤ 60) : At X 0 144 0 [vr 856, vi s] [] M (qV (fun M' => frE (stE 100) M M' ∧ PSi M' (lenW (mv M s) n) ∧ ((0 ≤ M' 867 200 ∧ M' 867 200 ≤ 60) ∧ 0 ≤ M' 867 201 ∧ M' 867 201 ≤ 60) ∧ (M' 861 100 ≠ 0 → (M' 863 100 = 0 ∨ M' 863 100 = 1) ∧ M' 866 200 = 0 ∧ M' 866 201 = 0 ∧ M' 867 200 = 0 ∧ M' 867 201 = 0) ∧ (M' 861 100 = 0 → M' 864 100 = 1 → M' 867 201 = 0 ∧ M' 866 201 = 0 ∧ M' 865 201 = 0))) := by
  have hu := okW_u hv
  have hN := okW_N hv hn60.2
  have l2 : ∀ (n9 : Nat) (k : Int) (M1 : mem) (rk : inR k) (hk : 0 ≤ k ∧ k ≤ 60) (hn : (60 - k).toNat = n9) (F : frE (stE 100) M M1) (w : PSi M1 (lenW (mv M s) n) ∧ ((0 ≤ M1 867 200 ∧ M1 867 200 ≤ 60) ∧ 0 ≤ M1 867 201 ∧ M1 867 201 ≤ 60) ∧ (M1 861 100 ≠ 0 → (M1 863 100 = 0 ∨ M1 863 100 = 1) ∧ M1 866 200 = 0 ∧ M1 866 201 = 0 ∧ M1 867 200 = 0 ∧ M1 867 201 = 0) ∧ (M1 861 100 = 0 → M1 864 100 = 1 → M1 867 201 = 0 ∧ M1 866 201 = 0 ∧ M1 865 201 = 0)), At X 0 144 72 [vr 856, vi s, vi k] [] M1 (qV (fun M' => frE (stE 100) M M' ∧ PSi M' (lenW (mv M s) n) ∧ ((0 ≤ M' 867 200 ∧ M' 867 200 ≤ 60) ∧ 0 ≤ M' 867 201 ∧ M' 867 201 ≤ 60) ∧ (M' 861 100 ≠ 0 → (M' 863 100 = 0 ∨ M' 863 100 = 1) ∧ M' 866 200 = 0 ∧ M' 866 201 = 0 ∧ M' 867 200 = 0 ∧ M' 867 201 = 0) ∧ (M' 861 100 = 0 → M' 864 100 = 1 → M' 867 201 = 0 ∧ M' 866 201 = 0 ∧ M' 865 201 = 0))) := by
    intro n9
    induction n9 using Nat.strongRecOn with
    | ind n9 ih =>
    intro k M1 rk hk hn F w
    refine at_iload dx_144_72 rfl ?_
    refine at_const (x := 60) dx_144_73 rfl ?_
    refine at_cgeR dx_144_74 rk (by decide) (fun c74 => ?_) (fun c74 => ?_)
    · skip
      refine at_vretV dx_144_91 ?_
      exact ⟨F, w⟩
    · skip
      refine at_aload dx_144_75 rfl ?_
      refine at_getR dx_144_76 lc_856 rfl lt_856_12 ?_
      refine at_const (x := 6000) dx_144_77 rfl ?_
      refine at_iload dx_144_78 rfl ?_
      refine at_addR dx_144_79 (by constructor <;> omega) (fun r79 => ?_)
      refine at_aload dx_144_80 rfl ?_
      refine at_getR dx_144_81 lc_856 rfl lt_856_11 ?_
      refine at_const (x := 60) dx_144_82 rfl ?_
      refine at_iload dx_144_83 rfl ?_
      refine at_mulR dx_144_84 (by constructor <;> omega) (fun r84 => ?_)
      refine at_iload dx_144_85 rfl ?_
      refine at_addR dx_144_86 (by constructor <;> omega) (fun r86 => ?_)
      refine at_aldI dx_144_87 lc_868 ln_868 (by first | omega | (simp (disch := omega) only [um_eq, um_k, um_j]; omega)) (by first | omega | (simp (disch := omega) only [um_eq, um_k, um_j]; omega)) (fun r87 => ?_)
      refine at_astI dx_144_88 lc_869 ln_869 (by first | omega | (simp (disch := omega) only [um_eq, um_k, um_j]; omega)) (by first | omega | (simp (disch := omega) only [um_eq, um_k, um_j]; omega)) r87 ?_
      refine at_iincR (y := 1) dx_144_89 rfl rfl (by constructor <;> omega) (fun r89 => ?_)
      refine at_goto dx_144_90 ?_
      exact ih _ (by omega) _ _ r89 (by omega) rfl (fe_ums F (by (try dsimp only [stE]); first | done | omega)) (by simp (disch := omega) only [um_k]; exact w)
  have l1 : ∀ (n9 : Nat) (k : Int) (M1 : mem) (rk : inR k) (hk : 0 ≤ k ∧ k ≤ 2) (hn : (2 - k).toNat = n9) (F : frE (stE 100) M M1) (v1 : M1 861 100 = M 861 s ∧ M1 863 100 = M 863 s ∧ M1 864 100 = M 864 s) (w0 : (0 < k → M 861 s = 0 ∧ M1 865 200 = M 865 (2 * s) ∧ M1 866 200 = M 867 (2 * s) ∧ M1 867 200 = M 866 (2 * s)) ∧ (k ≤ 0 → M1 865 200 = M 865 (2 * s) ∧ M1 866 200 = M 866 (2 * s) ∧ M1 867 200 = M 867 (2 * s))) (w1 : (1 < k → M 864 s = 2 ∧ M1 865 201 = M 865 (2 * s + 1) + (M 867 (2 * s) - M 866 (2 * s)) ∧ M1 866 201 = M 867 (2 * s + 1) ∧ M1 867 201 = M 866 (2 * s + 1)) ∧ (k ≤ 1 → M1 865 201 = M 865 (2 * s + 1) ∧ M1 866 201 = M 866 (2 * s + 1) ∧ M1 867 201 = M 867 (2 * s + 1))), At X 0 144 18 [vr 856, vi s, vi k] [] M1 (qV (fun M' => frE (stE 100) M M' ∧ PSi M' (lenW (mv M s) n) ∧ ((0 ≤ M' 867 200 ∧ M' 867 200 ≤ 60) ∧ 0 ≤ M' 867 201 ∧ M' 867 201 ≤ 60) ∧ (M' 861 100 ≠ 0 → (M' 863 100 = 0 ∨ M' 863 100 = 1) ∧ M' 866 200 = 0 ∧ M' 866 201 = 0 ∧ M' 867 200 = 0 ∧ M' 867 201 = 0) ∧ (M' 861 100 = 0 → M' 864 100 = 1 → M' 867 201 = 0 ∧ M' 866 201 = 0 ∧ M' 865 201 = 0))) := by
    intro n9
    induction n9 using Nat.strongRecOn with
    | ind n9 ih =>
    intro k M1 rk hk hn F v1 w0 w1
    have g : ∀ (q : Nat) (j : Int), ¬ stE 100 q j → M1 q j = M q j := F
    have g4 : M1 864 s = M 864 s := g _ _ (by (try dsimp only [stE]); first | done | omega)
    have g1 : M1 861 s = M 861 s := g _ _ (by (try dsimp only [stE]); first | done | omega)
    have g8651 : M1 865 (2 * s + 1) = M 865 (2 * s + 1) := g _ _ (by (try dsimp only [stE]); first | done | omega)
    have g8661 : M1 866 (2 * s + 1) = M 866 (2 * s + 1) := g _ _ (by (try dsimp only [stE]); first | done | omega)
    have g8671 : M1 867 (2 * s + 1) = M 867 (2 * s + 1) := g _ _ (by (try dsimp only [stE]); first | done | omega)
    have g8650 : M1 865 (2 * s) = M 865 (2 * s) := g _ _ (by (try dsimp only [stE]); first | done | omega)
    have g8660 : M1 866 (2 * s) = M 866 (2 * s) := g _ _ (by (try dsimp only [stE]); first | done | omega)
    have g8670 : M1 867 (2 * s) = M 867 (2 * s) := g _ _ (by (try dsimp only [stE]); first | done | omega)
    have hN1 : sN M1 s := by unfold sN at hN ⊢; omega
    refine at_iload dx_144_18 rfl ?_
    refine at_aload dx_144_19 rfl ?_
    refine at_getR dx_144_20 lc_856 rfl lt_856_7 ?_
    refine at_iload dx_144_21 rfl ?_
    refine at_aldI dx_144_22 lc_864 ln_864 (by first | omega | (simp (disch := omega) only [um_eq, um_k, um_j]; omega)) (by first | omega | (simp (disch := omega) only [um_eq, um_k, um_j]; omega)) (fun r22 => ?_)
    refine at_cgeR dx_144_23 rk r22 (fun c23 => ?_) (fun c23 => ?_)
    · skip
      refine at_const (x := 0) dx_144_70 rfl ?_
      refine at_istore dx_144_71 ?_
      refine l2 _ 0 _ (by decide) (by decide) rfl F ?_
      rw [lenW_mv]
      unfold PSi
      omega
    · skip
      refine at_aload dx_144_24 rfl ?_
      refine at_getR dx_144_25 lc_856 rfl lt_856_4 ?_
      refine at_iload dx_144_26 rfl ?_
      refine at_aldZ dx_144_27 lc_861 ln_861 (by first | omega | (simp (disch := omega) only [um_eq, um_k, um_j]; omega)) (by first | omega | (simp (disch := omega) only [um_eq, um_k, um_j]; omega)) (fun r27 => ?_)
      refine at_zneR dx_144_28 r27 (fun c28 => ?_) (fun c28 => ?_)
      · skip
        refine at_const (x := 0) dx_144_70 rfl ?_
        refine at_istore dx_144_71 ?_
        refine l2 _ 0 _ (by decide) (by decide) rfl F ?_
        rw [lenW_mv]
        unfold PSi
        omega
      · skip
        refine at_aload dx_144_29 rfl ?_
        refine at_getR dx_144_30 lc_856 rfl lt_856_8 ?_
        refine at_const (x := 200) dx_144_31 rfl ?_
        refine at_iload dx_144_32 rfl ?_
        refine at_addR dx_144_33 (by constructor <;> omega) (fun r33 => ?_)
        refine at_aload dx_144_34 rfl ?_
        refine at_iload dx_144_35 rfl ?_
        refine at_const (x := 1) dx_144_36 rfl ?_
        refine at_iload dx_144_37 rfl ?_
        refine at_callVI dx_144_38 rfl lc_856 rfl (m_startOf rs (by decide) rk (by omega) (by omega) hN1) ?_
        rintro x38 M9 r38 ⟨e9, h38⟩; replace e9 := e9.symm; subst e9
        refine at_astI dx_144_39 lc_865 ln_865 (by first | omega | (simp (disch := omega) only [um_eq, um_k, um_j]; omega)) (by first | omega | (simp (disch := omega) only [um_eq, um_k, um_j]; omega)) r38 ?_
        refine at_aload dx_144_40 rfl ?_
        refine at_getR dx_144_41 lc_856 rfl lt_856_9 ?_
        refine at_const (x := 200) dx_144_42 rfl ?_
        refine at_iload dx_144_43 rfl ?_
        refine at_addR dx_144_44 (by constructor <;> omega) (fun r44 => ?_)
        refine at_aload dx_144_45 rfl ?_
        refine at_getR dx_144_46 lc_856 rfl lt_856_10 ?_
        refine at_const (x := 2) dx_144_47 rfl ?_
        refine at_iload dx_144_48 rfl ?_
        refine at_mulR dx_144_49 (by constructor <;> omega) (fun r49 => ?_)
        refine at_iload dx_144_50 rfl ?_
        refine at_addR dx_144_51 (by constructor <;> omega) (fun r51 => ?_)
        refine at_aldI dx_144_52 lc_867 ln_867 (by first | omega | (simp (disch := omega) only [um_eq, um_k, um_j]; omega)) (by first | omega | (simp (disch := omega) only [um_eq, um_k, um_j]; omega)) (fun r52 => ?_)
        refine at_astI dx_144_53 lc_866 ln_866 (by first | omega | (simp (disch := omega) only [um_eq, um_k, um_j]; omega)) (by first | omega | (simp (disch := omega) only [um_eq, um_k, um_j]; omega)) r52 ?_
        refine at_aload dx_144_54 rfl ?_
        refine at_getR dx_144_55 lc_856 rfl lt_856_10 ?_
        refine at_const (x := 200) dx_144_56 rfl ?_
        refine at_iload dx_144_57 rfl ?_
        refine at_addR dx_144_58 (by constructor <;> omega) (fun r58 => ?_)
        refine at_aload dx_144_59 rfl ?_
        refine at_getR dx_144_60 lc_856 rfl lt_856_9 ?_
        refine at_const (x := 2) dx_144_61 rfl ?_
        refine at_iload dx_144_62 rfl ?_
        refine at_mulR dx_144_63 (by constructor <;> omega) (fun r63 => ?_)
        refine at_iload dx_144_64 rfl ?_
        refine at_addR dx_144_65 (by constructor <;> omega) (fun r65 => ?_)
        refine at_aldI dx_144_66 lc_866 ln_866 (by first | omega | (simp (disch := omega) only [um_eq, um_k, um_j]; omega)) (by first | omega | (simp (disch := omega) only [um_eq, um_k, um_j]; omega)) (fun r66 => ?_)
        refine at_astI dx_144_67 lc_867 ln_867 (by first | omega | (simp (disch := omega) only [um_eq, um_k, um_j]; omega)) (by first | omega | (simp (disch := omega) only [um_eq, um_k, um_j]; omega)) r66 ?_
        refine at_iincR (y := 1) dx_144_68 rfl rfl (by constructor <;> omega) (fun r68 => ?_)
        refine at_goto dx_144_69 ?_
        have hk01 : k = 0 ∨ k = 1 := by omega
        refine ih _ (by omega) _ _ r68 (by omega) rfl (fe_ums (fe_ums (fe_ums F (by (try dsimp only [stE]); first | done | omega)) (by (try dsimp only [stE]); first | done | omega)) (by (try dsimp only [stE]); first | done | omega)) ?_ ?_ ?_
        · simp (disch := omega) only [um_k]; exact v1
        · rcases hk01 with e | e <;> subst e <;> simp at h38 w0 w1 <;> simp (disch := omega) only [um_eq, um_k, um_j, Int.add_zero, Int.reduceAdd] <;> omega
        · rcases hk01 with e | e <;> subst e <;> simp at h38 w0 w1 <;> simp (disch := omega) only [um_eq, um_k, um_j, Int.add_zero, Int.reduceAdd] <;> omega
  refine at_aload dx_144_0 rfl ?_
  refine at_iload dx_144_1 rfl ?_
  refine at_const (x := 100) dx_144_2 rfl ?_
  refine at_callVV dx_144_3 rfl lc_856 rfl (m_copies rs (t := 100) (by decide) (by omega) (by decide) (by omega)) ?_
  rintro M3 ⟨F3, V3, -⟩
  have V4 := congrArg Prod.fst V3
  unfold mv at V4
  simp only [List.cons.injEq] at V4
  obtain ⟨y1, y2, y3, y4, y5, y6, y7, y8, y9, y10, -⟩ := V4
  have g3 : ∀ (q : Nat) (j : Int), ¬ stE 100 q j → M3 q j = M q j := F3
  replace y5 : M3 865 200 = _ := y5
  replace y6 : M3 865 201 = _ := y6
  replace y7 : M3 866 200 = _ := y7
  replace y8 : M3 866 201 = _ := y8
  replace y9 : M3 867 200 = _ := y9
  replace y10 : M3 867 201 = _ := y10
  refine at_aload dx_144_4 rfl ?_
  refine at_getR dx_144_5 lc_856 rfl lt_856_5 ?_
  refine at_const (x := 100) dx_144_6 rfl ?_
  refine at_aload dx_144_7 rfl ?_
  refine at_getR dx_144_8 lc_856 rfl lt_856_5 ?_
  refine at_iload dx_144_9 rfl ?_
  refine at_aldZ dx_144_10 lc_862 ln_862 (by first | omega | (simp (disch := omega) only [um_eq, um_k, um_j]; omega)) (by first | omega | (simp (disch := omega) only [um_eq, um_k, um_j]; omega)) (fun r10 => ?_)
  refine at_zneR dx_144_11 r10 (fun c11 => ?_) (fun c11 => ?_)
  · skip
    refine at_const (x := 0) dx_144_14 rfl ?_
    refine at_astZ dx_144_15 lc_862 ln_862 (by decide) (by decide) (by first | exact Or.inl rfl | exact Or.inr rfl) ?_
    refine at_const (x := 0) dx_144_16 rfl ?_
    refine at_istore dx_144_17 ?_
    refine l1 _ 0 _ (by decide) (by decide) rfl (fe_ums F3 (by (try dsimp only [stE]); first | done | omega)) ?_ ⟨fun h => by omega, fun _ => ?_⟩ ⟨fun h => by omega, fun _ => ?_⟩ <;> simp (disch := omega) only [um_k]
    · exact ⟨y1, y3, y4⟩
    · exact ⟨y5, y7, y9⟩
    · exact ⟨y6, y8, y10⟩
  · skip
    refine at_const (x := 1) dx_144_12 rfl ?_
    refine at_goto dx_144_13 ?_
    refine at_astZ dx_144_15 lc_862 ln_862 (by decide) (by decide) (by first | exact Or.inl rfl | exact Or.inr rfl) ?_
    refine at_const (x := 0) dx_144_16 rfl ?_
    refine at_istore dx_144_17 ?_
    refine l1 _ 0 _ (by decide) (by decide) rfl (fe_ums F3 (by (try dsimp only [stE]); first | done | omega)) ?_ ⟨fun h => by omega, fun _ => ?_⟩ ⟨fun h => by omega, fun _ => ?_⟩ <;> simp (disch := omega) only [um_k]
    · exact ⟨y1, y3, y4⟩
    · exact ⟨y5, y7, y9⟩
    · exact ⟨y6, y8, y10⟩
