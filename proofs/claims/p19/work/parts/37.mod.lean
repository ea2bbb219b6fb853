/-! ===== the reference: a step mapped ===== -/
abbrev FSx (q : Nat) (j : Int) : Prop := (q = 856 ∧ j = 28) ∨ ((q = 865 ∨ q = 866) ∧ (j = 200 ∨ j = 201))
theorem RowOK_x {M M' : mem} {Ln : Int → Int} (hR : RowOK M Ln) (h : frE FSx M M') : RowOK M' Ln := RowOK_fe hR h (fun q j e => by dsimp only [FSx, stE] at e ⊢; omega)
abbrev PSx (M M' : mem) (L : Int) : Prop := (M 861 100 ≠ 0 ∧ 0 ≤ M' 865 200 ∧ M' 865 200 < M' 865 201 ∧ M' 865 201 ≤ L) ∨ (M 861 100 = 0 ∧ 0 ≤ M' 865 200 ∧ 0 ≤ M' 866 200 ∧ M' 865 200 + M' 866 200 ≤ L ∧ (M 864 100 = 2 → M' 865 200 + M' 866 200 ≤ M' 865 201 ∧ 0 ≤ M' 866 201 ∧ M' 865 201 + M' 866 201 ≤ L))
abbrev PSi (M : mem) (L : Int) : Prop := (M 861 100 ≠ 0 ∧ (0 ≤ M 865 200 ∧ M 865 200 ≤ L) ∧ 0 ≤ M 865 201 ∧ M 865 201 ≤ L) ∨ (M 861 100 = 0 ∧ (M 864 100 = 1 ∨ M 864 100 = 2) ∧ (0 ≤ M 865 200 ∧ 0 ≤ M 866 200 ∧ M 865 200 + M 866 200 ≤ L) ∧ (M 864 100 = 2 → 0 ≤ M 865 201 ∧ 0 ≤ M 866 201 ∧ M 865 201 + M 866 201 ≤ L))
set_option maxRecDepth 100000 in
set_option maxHeartbeats 4000000 in
theorem m_mapsStep {X : scr} {M : mem} {f : Int} (rf : inR f) {Ln : Int → Int} (hR : RowOK M Ln) (hf : 0 ≤ f ∧ f ≤ M 856 24) (hL : Ln f ≤ 60) (hLR : Ln (M 856 24) ≤ 60) (hS : PSi M (Ln f)) : At X 0 118 0 [vr 856, vi f, vi 100] [] M (qI (fun x M' => frE FSx M M' ∧ (x = 0 ∨ x = 1) ∧ (M 861 100 = 0 → M 864 100 = 1 → M' 865 201 = M 865 201 ∧ M' 866 201 = M 866 201) ∧ (M 861 100 ≠ 0 → M' 866 200 = M 866 200 ∧ M' 866 201 = M 866 201) ∧ (x = 1 → PSx M M' (Ln (M 856 24))))) := by
  have lp : ∀ (n9 : Nat) (z k : Int) (M1 : mem) (rz : inR z) (rk : inR k) (hz : z = 0 ∨ z = 1) (him : M 861 100 = 0) (hk : 0 ≤ k ∧ k ≤ M 864 100) (hn : (M 864 100 - k).toNat = n9) (F : frE FSx M M1) (w1 : ∀ r : Int, 0 ≤ r → r < k → 0 ≤ M1 865 (200 + r) ∧ 0 ≤ M1 866 (200 + r) ∧ M1 865 (200 + r) + M1 866 (200 + r) ≤ Ln (M 856 24)) (w2 : ∀ r : Int, k ≤ r → M1 865 (200 + r) = M 865 (200 + r) ∧ M1 866 (200 + r) = M 866 (200 + r)), At X 0 118 56 [vr 856, vi f, vi 100, vi z, vi k] [] M1 (qI (fun x M' => frE FSx M M' ∧ (x = 0 ∨ x = 1) ∧ (M 861 100 = 0 → M 864 100 = 1 → M' 865 201 = M 865 201 ∧ M' 866 201 = M 866 201) ∧ (M 861 100 ≠ 0 → M' 866 200 = M 866 200 ∧ M' 866 201 = M 866 201) ∧ (x = 1 → PSx M M' (Ln (M 856 24))))) := by
    intro n9
    induction n9 using Nat.strongRecOn with
    | ind n9 ih =>
    intro z k M1 rz rk hz him hk hn F w1 w2
    unfold PSi at hS
    have e4 : M1 864 100 = M 864 100 := F 864 100 (by (try dsimp only [stE, FSx]); first | done | omega)
    have hrg : M 864 100 = 1 ∨ M 864 100 = 2 := by omega
    have G70 : frE FSx M (um M1 856 28 0) := fe_ums F (by (try dsimp only [stE, FSx]); first | done | omega)
    have hkk : k < M 864 100 → 0 ≤ M1 865 (200 + k) ∧ 0 ≤ M1 866 (200 + k) ∧ M1 865 (200 + k) + M1 866 (200 + k) ≤ Ln f := fun hh => by
      have h9 := w2 k (Int.le_refl _)
      rcases (show k = 0 ∨ k = 1 by omega) with e | e <;> subst e <;> simp at h9 ⊢ <;> omega
    refine at_iload dx_118_56 rfl ?_
    refine at_aload dx_118_57 rfl ?_
    refine at_getR dx_118_58 lc_856 rfl lt_856_7 ?_
    refine at_iload dx_118_59 rfl ?_
    refine at_aldI dx_118_60 lc_864 ln_864 (by decide) (by decide) (fun r60 => ?_)
    refine at_cgeR dx_118_61 rk r60 (fun c61 => ?_) (fun c61 => ?_)
    · skip
      refine at_iload dx_118_130 rfl ?_
      refine at_zeqR dx_118_131 rz (fun c131 => ?_) (fun c131 => ?_)
      · skip
        refine at_const (x := 0) dx_118_162 rfl ?_
        refine at_zretI dx_118_163 (Or.inl rfl) ?_
        have hkr : k = M 864 100 := by omega
        have e201 : M 861 100 = 0 → M 864 100 = 1 → M1 865 201 = M 865 201 ∧ M1 866 201 = M 866 201 := fun _ h => w2 1 (by omega)
        first
        | exact ⟨F, Or.inl rfl, e201, fun e => absurd him e, fun e => absurd e (by decide)⟩
        | (refine ⟨F, Or.inr rfl, e201, fun e => absurd him e, fun _ => Or.inr ⟨him, ?_⟩⟩
           have h0 := w1 0 (by decide) (by omega)
           have h1 := fun (h : M 864 100 = 2) => w1 1 (by decide) (by omega)
           simp only [Int.add_zero] at h0
           refine ⟨h0.1, h0.2.1, h0.2.2, fun h2 => ?_⟩
           have h3 := h1 h2
           have e201' : (200 : Int) + 1 = 201 := rfl
           rw [e201'] at h3
           exact ⟨by omega, h3.2.1, h3.2.2⟩)
      · skip
        have hw0 := w1 0 (by decide) (by omega)
        simp only [Int.add_zero] at hw0
        refine at_aload dx_118_132 rfl ?_
        refine at_getR dx_118_133 lc_856 rfl lt_856_7 ?_
        refine at_iload dx_118_134 rfl ?_
        refine at_aldI dx_118_135 lc_864 ln_864 (by decide) (by decide) (fun r135 => ?_)
        refine at_const (x := 2) dx_118_136 rfl ?_
        refine at_cltR dx_118_137 r135 (by decide) (fun c137 => ?_) (fun c137 => ?_)
        · skip
          refine at_const (x := 1) dx_118_160 rfl ?_
          refine at_goto dx_118_161 ?_
          refine at_zretI dx_118_163 (Or.inr rfl) ?_
          have hkr : k = M 864 100 := by omega
          have e201 : M 861 100 = 0 → M 864 100 = 1 → M1 865 201 = M 865 201 ∧ M1 866 201 = M 866 201 := fun _ h => w2 1 (by omega)
          first
          | exact ⟨F, Or.inl rfl, e201, fun e => absurd him e, fun e => absurd e (by decide)⟩
          | (refine ⟨F, Or.inr rfl, e201, fun e => absurd him e, fun _ => Or.inr ⟨him, ?_⟩⟩
             have h0 := w1 0 (by decide) (by omega)
             have h1 := fun (h : M 864 100 = 2) => w1 1 (by decide) (by omega)
             simp only [Int.add_zero] at h0
             refine ⟨h0.1, h0.2.1, h0.2.2, fun h2 => ?_⟩
             have h3 := h1 h2
             have e201' : (200 : Int) + 1 = 201 := rfl
             rw [e201'] at h3
             exact ⟨by omega, h3.2.1, h3.2.2⟩)
        · skip
          refine at_aload dx_118_138 rfl ?_
          refine at_getR dx_118_139 lc_856 rfl lt_856_8 ?_
          refine at_const (x := 2) dx_118_140 rfl ?_
          refine at_iload dx_118_141 rfl ?_
          refine at_mulC (z := 200) dx_118_142 (by decide +kernel) ?_
          refine at_const (x := 1) dx_118_143 rfl ?_
          refine at_addC (z := 201) dx_118_144 (by decide +kernel) ?_
          refine at_aldI dx_118_145 lc_865 ln_865 (by decide) (by decide) (fun r145 => ?_)
          refine at_aload dx_118_146 rfl ?_
          refine at_getR dx_118_147 lc_856 rfl lt_856_8 ?_
          refine at_const (x := 2) dx_118_148 rfl ?_
          refine at_iload dx_118_149 rfl ?_
          refine at_mulC (z := 200) dx_118_150 (by decide +kernel) ?_
          refine at_aldI dx_118_151 lc_865 ln_865 (by decide) (by decide) (fun r151 => ?_)
          refine at_aload dx_118_152 rfl ?_
          refine at_getR dx_118_153 lc_856 rfl lt_856_9 ?_
          refine at_const (x := 2) dx_118_154 rfl ?_
          refine at_iload dx_118_155 rfl ?_
          refine at_mulC (z := 200) dx_118_156 (by decide +kernel) ?_
          refine at_aldI dx_118_157 lc_866 ln_866 (by decide) (by decide) (fun r157 => ?_)
          refine at_addR dx_118_158 (by constructor <;> omega) (fun r158 => ?_)
          refine at_cltR dx_118_159 r145 r158 (fun c159 => ?_) (fun c159 => ?_)
          · skip
            refine at_const (x := 0) dx_118_162 rfl ?_
            refine at_zretI dx_118_163 (Or.inl rfl) ?_
            have hkr : k = M 864 100 := by omega
            have e201 : M 861 100 = 0 → M 864 100 = 1 → M1 865 201 = M 865 201 ∧ M1 866 201 = M 866 201 := fun _ h => w2 1 (by omega)
            first
            | exact ⟨F, Or.inl rfl, e201, fun e => absurd him e, fun e => absurd e (by decide)⟩
            | (refine ⟨F, Or.inr rfl, e201, fun e => absurd him e, fun _ => Or.inr ⟨him, ?_⟩⟩
               have h0 := w1 0 (by decide) (by omega)
               have h1 := fun (h : M 864 100 = 2) => w1 1 (by decide) (by omega)
               simp only [Int.add_zero] at h0
               refine ⟨h0.1, h0.2.1, h0.2.2, fun h2 => ?_⟩
               have h3 := h1 h2
               have e201' : (200 : Int) + 1 = 201 := rfl
               rw [e201'] at h3
               exact ⟨by omega, h3.2.1, h3.2.2⟩)
          · skip
            refine at_const (x := 1) dx_118_160 rfl ?_
            refine at_goto dx_118_161 ?_
            refine at_zretI dx_118_163 (Or.inr rfl) ?_
            have hkr : k = M 864 100 := by omega
            have e201 : M 861 100 = 0 → M 864 100 = 1 → M1 865 201 = M 865 201 ∧ M1 866 201 = M 866 201 := fun _ h => w2 1 (by omega)
            first
            | exact ⟨F, Or.inl rfl, e201, fun e => absurd him e, fun e => absurd e (by decide)⟩
            | (refine ⟨F, Or.inr rfl, e201, fun e => absurd him e, fun _ => Or.inr ⟨him, ?_⟩⟩
               have h0 := w1 0 (by decide) (by omega)
               have h1 := fun (h : M 864 100 = 2) => w1 1 (by decide) (by omega)
               simp only [Int.add_zero] at h0
               refine ⟨h0.1, h0.2.1, h0.2.2, fun h2 => ?_⟩
               have h3 := h1 h2
               have e201' : (200 : Int) + 1 = 201 := rfl
               rw [e201'] at h3
               exact ⟨by omega, h3.2.1, h3.2.2⟩)
    · skip
      refine at_const (x := 2) dx_118_62 rfl ?_
      refine at_iload dx_118_63 rfl ?_
      refine at_mulC (z := 200) dx_118_64 (by decide +kernel) ?_
      refine at_iload dx_118_65 rfl ?_
      refine at_addR dx_118_66 (by constructor <;> omega) (fun r66 => ?_)
      refine at_istore dx_118_67 ?_
      refine at_aload dx_118_68 rfl ?_
      refine at_const (x := 0) dx_118_69 rfl ?_
      refine at_putZ 28 dx_118_70 lc_856 rfl rfl (Or.inl rfl) ?_
      have hk9 := hkk (by omega)
      refine at_aload dx_118_71 rfl ?_
      refine at_iload dx_118_72 rfl ?_
      refine at_aload dx_118_73 rfl ?_
      refine at_getR dx_118_74 lc_856 rfl lt_856_8 ?_
      refine at_iload dx_118_75 rfl ?_
      refine at_aldI dx_118_76 lc_865 ln_865 (by first | omega | (simp (disch := omega) only [um_eq, um_k, um_j]; omega)) (by first | omega | (simp (disch := omega) only [um_eq, um_k, um_j]; omega)) (fun r76 => ?_)
      refine at_const (x := 1) dx_118_77 rfl ?_
      refine at_callVI dx_118_78 rfl lc_856 rfl (m_mapsThrough rf r76 (by decide) (RowOK_x hR G70) (by rw [G70 856 24 (by (try dsimp only [stE, FSx]); first | done | omega)]; exact hf) (by simp (disch := omega) only [um_k]; omega) hL) ?_
      rintro x78 M78 r78 ⟨f78, q78⟩
      have G78 : frE FSx M M78 := fe_tr G70 (fe_le f78 (fun q j h => by (try dsimp only [stE, FSx] at h ⊢); first | done | omega))
      rw [G70 856 24 (by (try dsimp only [stE, FSx]); first | done | omega)] at q78
      have G83 : frE FSx M (um M78 856 28 0) := fe_ums G78 (by (try dsimp only [stE, FSx]); first | done | omega)
      have v5 : M78 865 (200 + k) = M1 865 (200 + k) := by rw [f78 865 _ (by (try dsimp only [stE, FSx]); first | done | omega), um_k (by decide)]
      have v6 : M78 866 (200 + k) = M1 866 (200 + k) := by rw [f78 866 _ (by (try dsimp only [stE, FSx]); first | done | omega), um_k (by decide)]
      have v4 : M78 864 100 = M1 864 100 := by rw [f78 864 _ (by (try dsimp only [stE, FSx]); first | done | omega), um_k (by decide)]
      refine at_istore dx_118_79 ?_
      refine at_aload dx_118_80 rfl ?_
      refine at_getI 28 dx_118_81 lc_856 rfl rfl (fun r81 => ?_)
      refine at_istore dx_118_82 ?_
      refine at_aload dx_118_83 rfl ?_
      refine at_const (x := 0) dx_118_84 rfl ?_
      refine at_putZ 28 dx_118_85 lc_856 rfl rfl (Or.inl rfl) ?_
      refine at_aload dx_118_86 rfl ?_
      refine at_iload dx_118_87 rfl ?_
      refine at_aload dx_118_88 rfl ?_
      refine at_getR dx_118_89 lc_856 rfl lt_856_8 ?_
      refine at_iload dx_118_90 rfl ?_
      refine at_aldI dx_118_91 lc_865 ln_865 (by first | omega | (simp (disch := omega) only [um_eq, um_k, um_j]; omega)) (by first | omega | (simp (disch := omega) only [um_eq, um_k, um_j]; omega)) (fun r91 => ?_)
      refine at_aload dx_118_92 rfl ?_
      refine at_getR dx_118_93 lc_856 rfl lt_856_9 ?_
      refine at_iload dx_118_94 rfl ?_
      refine at_aldI dx_118_95 lc_866 ln_866 (by first | omega | (simp (disch := omega) only [um_eq, um_k, um_j]; omega)) (by first | omega | (simp (disch := omega) only [um_eq, um_k, um_j]; omega)) (fun r95 => ?_)
      refine at_addR dx_118_96 (by simp (disch := omega) only [um_k]; constructor <;> omega) (fun r96 => ?_)
      refine at_const (x := 0) dx_118_97 rfl ?_
      refine at_callVI dx_118_98 rfl lc_856 rfl (m_mapsThrough rf r96 (by decide) (RowOK_x hR G83) (by rw [G83 856 24 (by (try dsimp only [stE, FSx]); first | done | omega)]; exact hf) (by simp (disch := omega) only [um_k]; omega) hL) ?_
      rintro x98 M98 r98 ⟨f98, q98⟩
      have G98 : frE FSx M M98 := fe_tr G83 (fe_le f98 (fun q j h => by (try dsimp only [stE, FSx] at h ⊢); first | done | omega))
      rw [G83 856 24 (by (try dsimp only [stE, FSx]); first | done | omega)] at q98
      have w5 : ∀ j, M98 865 j = M1 865 j := fun j => by rw [f98 865 j (by (try dsimp only [stE, FSx]); first | done | omega), um_k (by decide), f78 865 j (by (try dsimp only [stE, FSx]); first | done | omega), um_k (by decide)]
      have w6 : ∀ j, M98 866 j = M1 866 j := fun j => by rw [f98 866 j (by (try dsimp only [stE, FSx]); first | done | omega), um_k (by decide), f78 866 j (by (try dsimp only [stE, FSx]); first | done | omega), um_k (by decide)]
      have w4 : M98 864 100 = M1 864 100 := by rw [f98 864 _ (by (try dsimp only [stE, FSx]); first | done | omega), um_k (by decide), v4]
      refine at_istore dx_118_99 ?_
      refine at_iload dx_118_100 rfl ?_
      refine at_zeqR dx_118_101 rz (fun c101 => ?_) (fun c101 => ?_)
      · skip
        refine at_const (x := 0) dx_118_109 rfl ?_
        refine at_istore dx_118_110 ?_
        refine at_aload dx_118_111 rfl ?_
        refine at_getR dx_118_112 lc_856 rfl lt_856_8 ?_
        refine at_iload dx_118_113 rfl ?_
        refine at_iload dx_118_114 rfl ?_
        refine at_astI dx_118_115 lc_865 ln_865 (by first | omega | (simp (disch := omega) only [um_eq, um_k, um_j]; omega)) (by first | omega | (simp (disch := omega) only [um_eq, um_k, um_j]; omega)) r78 ?_
        refine at_aload dx_118_116 rfl ?_
        refine at_getR dx_118_117 lc_856 rfl lt_856_9 ?_
        refine at_iload dx_118_118 rfl ?_
        refine at_iload dx_118_119 rfl ?_
        refine at_iload dx_118_120 rfl ?_
        refine at_cleR dx_118_121 r98 r78 (fun c121 => ?_) (fun c121 => ?_)
        · skip
          refine at_const (x := 0) dx_118_126 rfl ?_
          refine at_astI dx_118_127 lc_866 ln_866 (by first | omega | (simp (disch := omega) only [um_eq, um_k, um_j]; omega)) (by first | omega | (simp (disch := omega) only [um_eq, um_k, um_j]; omega)) (by decide) ?_
          refine at_iincR (y := 1) dx_118_128 rfl rfl (by constructor <;> omega) (fun r128 => ?_)
          refine at_goto dx_118_129 ?_
          refine at_wk (ls := [vr 856, vi _, vi _, vi _, vi _]) ⟨Or.inl rfl, Or.inl rfl, Or.inl rfl, Or.inl rfl, Or.inl rfl, trivial⟩ ?_
          refine ih _ (by omega) _ _ _ (by decide) r128 (by first | exact Or.inl rfl | exact Or.inr rfl) him (by omega) rfl (fe_ums (fe_ums G98 (by (try dsimp only [stE, FSx]); first | done | omega)) (by (try dsimp only [stE, FSx]); first | done | omega)) (fun r h1 h2 => ?_) (fun r h1 => ?_)
          · by_cases er : r = k
            · subst er
              simp (disch := omega) only [um_eq, um_k]
              omega
            · have h9 := w1 r h1 (by omega)
              simp (disch := omega) only [um_k, um_j]
              rw [w5, w6]; exact h9
          · have h9 := w2 r (by omega)
            simp (disch := omega) only [um_k, um_j]
            rw [w5, w6]; exact h9
        · skip
          refine at_iload dx_118_122 rfl ?_
          refine at_iload dx_118_123 rfl ?_
          refine at_subR dx_118_124 (by constructor <;> omega) (fun r124 => ?_)
          refine at_goto dx_118_125 ?_
          refine at_astI dx_118_127 lc_866 ln_866 (by first | omega | (simp (disch := omega) only [um_eq, um_k, um_j]; omega)) (by first | omega | (simp (disch := omega) only [um_eq, um_k, um_j]; omega)) r124 ?_
          refine at_iincR (y := 1) dx_118_128 rfl rfl (by constructor <;> omega) (fun r128 => ?_)
          refine at_goto dx_118_129 ?_
          refine at_wk (ls := [vr 856, vi _, vi _, vi _, vi _]) ⟨Or.inl rfl, Or.inl rfl, Or.inl rfl, Or.inl rfl, Or.inl rfl, trivial⟩ ?_
          refine ih _ (by omega) _ _ _ (by decide) r128 (by first | exact Or.inl rfl | exact Or.inr rfl) him (by omega) rfl (fe_ums (fe_ums G98 (by (try dsimp only [stE, FSx]); first | done | omega)) (by (try dsimp only [stE, FSx]); first | done | omega)) (fun r h1 h2 => ?_) (fun r h1 => ?_)
          · by_cases er : r = k
            · subst er
              simp (disch := omega) only [um_eq, um_k]
              omega
            · have h9 := w1 r h1 (by omega)
              simp (disch := omega) only [um_k, um_j]
              rw [w5, w6]; exact h9
          · have h9 := w2 r (by omega)
            simp (disch := omega) only [um_k, um_j]
            rw [w5, w6]; exact h9
      · skip
        refine at_iload dx_118_102 rfl ?_
        refine at_zeqR dx_118_103 r81 (fun c103 => ?_) (fun c103 => ?_)
        · skip
          refine at_const (x := 1) dx_118_107 rfl ?_
          refine at_goto dx_118_108 ?_
          refine at_istore dx_118_110 ?_
          refine at_aload dx_118_111 rfl ?_
          refine at_getR dx_118_112 lc_856 rfl lt_856_8 ?_
          refine at_iload dx_118_113 rfl ?_
          refine at_iload dx_118_114 rfl ?_
          refine at_astI dx_118_115 lc_865 ln_865 (by first | omega | (simp (disch := omega) only [um_eq, um_k, um_j]; omega)) (by first | omega | (simp (disch := omega) only [um_eq, um_k, um_j]; omega)) r78 ?_
          refine at_aload dx_118_116 rfl ?_
          refine at_getR dx_118_117 lc_856 rfl lt_856_9 ?_
          refine at_iload dx_118_118 rfl ?_
          refine at_iload dx_118_119 rfl ?_
          refine at_iload dx_118_120 rfl ?_
          refine at_cleR dx_118_121 r98 r78 (fun c121 => ?_) (fun c121 => ?_)
          · skip
            refine at_const (x := 0) dx_118_126 rfl ?_
            refine at_astI dx_118_127 lc_866 ln_866 (by first | omega | (simp (disch := omega) only [um_eq, um_k, um_j]; omega)) (by first | omega | (simp (disch := omega) only [um_eq, um_k, um_j]; omega)) (by decide) ?_
            refine at_iincR (y := 1) dx_118_128 rfl rfl (by constructor <;> omega) (fun r128 => ?_)
            refine at_goto dx_118_129 ?_
            refine at_wk (ls := [vr 856, vi _, vi _, vi _, vi _]) ⟨Or.inl rfl, Or.inl rfl, Or.inl rfl, Or.inl rfl, Or.inl rfl, trivial⟩ ?_
            refine ih _ (by omega) _ _ _ (by decide) r128 (by first | exact Or.inl rfl | exact Or.inr rfl) him (by omega) rfl (fe_ums (fe_ums G98 (by (try dsimp only [stE, FSx]); first | done | omega)) (by (try dsimp only [stE, FSx]); first | done | omega)) (fun r h1 h2 => ?_) (fun r h1 => ?_)
            · by_cases er : r = k
              · subst er
                simp (disch := omega) only [um_eq, um_k]
                omega
              · have h9 := w1 r h1 (by omega)
                simp (disch := omega) only [um_k, um_j]
                rw [w5, w6]; exact h9
            · have h9 := w2 r (by omega)
              simp (disch := omega) only [um_k, um_j]
              rw [w5, w6]; exact h9
          · skip
            refine at_iload dx_118_122 rfl ?_
            refine at_iload dx_118_123 rfl ?_
            refine at_subR dx_118_124 (by constructor <;> omega) (fun r124 => ?_)
            refine at_goto dx_118_125 ?_
            refine at_astI dx_118_127 lc_866 ln_866 (by first | omega | (simp (disch := omega) only [um_eq, um_k, um_j]; omega)) (by first | omega | (simp (disch := omega) only [um_eq, um_k, um_j]; omega)) r124 ?_
            refine at_iincR (y := 1) dx_118_128 rfl rfl (by constructor <;> omega) (fun r128 => ?_)
            refine at_goto dx_118_129 ?_
            refine at_wk (ls := [vr 856, vi _, vi _, vi _, vi _]) ⟨Or.inl rfl, Or.inl rfl, Or.inl rfl, Or.inl rfl, Or.inl rfl, trivial⟩ ?_
            refine ih _ (by omega) _ _ _ (by decide) r128 (by first | exact Or.inl rfl | exact Or.inr rfl) him (by omega) rfl (fe_ums (fe_ums G98 (by (try dsimp only [stE, FSx]); first | done | omega)) (by (try dsimp only [stE, FSx]); first | done | omega)) (fun r h1 h2 => ?_) (fun r h1 => ?_)
            · by_cases er : r = k
              · subst er
                simp (disch := omega) only [um_eq, um_k]
                omega
              · have h9 := w1 r h1 (by omega)
                simp (disch := omega) only [um_k, um_j]
                rw [w5, w6]; exact h9
            · have h9 := w2 r (by omega)
              simp (disch := omega) only [um_k, um_j]
              rw [w5, w6]; exact h9
        · skip
          refine at_aload dx_118_104 rfl ?_
          refine at_getI 28 dx_118_105 lc_856 rfl rfl (fun r105 => ?_)
          refine at_zneR dx_118_106 r105 (fun c106 => ?_) (fun c106 => ?_)
          · skip
            refine at_const (x := 0) dx_118_109 rfl ?_
            refine at_istore dx_118_110 ?_
            refine at_aload dx_118_111 rfl ?_
            refine at_getR dx_118_112 lc_856 rfl lt_856_8 ?_
            refine at_iload dx_118_113 rfl ?_
            refine at_iload dx_118_114 rfl ?_
            refine at_astI dx_118_115 lc_865 ln_865 (by first | omega | (simp (disch := omega) only [um_eq, um_k, um_j]; omega)) (by first | omega | (simp (disch := omega) only [um_eq, um_k, um_j]; omega)) r78 ?_
            refine at_aload dx_118_116 rfl ?_
            refine at_getR dx_118_117 lc_856 rfl lt_856_9 ?_
            refine at_iload dx_118_118 rfl ?_
            refine at_iload dx_118_119 rfl ?_
            refine at_iload dx_118_120 rfl ?_
            refine at_cleR dx_118_121 r98 r78 (fun c121 => ?_) (fun c121 => ?_)
            · skip
              refine at_const (x := 0) dx_118_126 rfl ?_
              refine at_astI dx_118_127 lc_866 ln_866 (by first | omega | (simp (disch := omega) only [um_eq, um_k, um_j]; omega)) (by first | omega | (simp (disch := omega) only [um_eq, um_k, um_j]; omega)) (by decide) ?_
              refine at_iincR (y := 1) dx_118_128 rfl rfl (by constructor <;> omega) (fun r128 => ?_)
              refine at_goto dx_118_129 ?_
              refine at_wk (ls := [vr 856, vi _, vi _, vi _, vi _]) ⟨Or.inl rfl, Or.inl rfl, Or.inl rfl, Or.inl rfl, Or.inl rfl, trivial⟩ ?_
              refine ih _ (by omega) _ _ _ (by decide) r128 (by first | exact Or.inl rfl | exact Or.inr rfl) him (by omega) rfl (fe_ums (fe_ums G98 (by (try dsimp only [stE, FSx]); first | done | omega)) (by (try dsimp only [stE, FSx]); first | done | omega)) (fun r h1 h2 => ?_) (fun r h1 => ?_)
              · by_cases er : r = k
                · subst er
                  simp (disch := omega) only [um_eq, um_k]
                  omega
                · have h9 := w1 r h1 (by omega)
                  simp (disch := omega) only [um_k, um_j]
                  rw [w5, w6]; exact h9
              · have h9 := w2 r (by omega)
                simp (disch := omega) only [um_k, um_j]
                rw [w5, w6]; exact h9
            · skip
              refine at_iload dx_118_122 rfl ?_
              refine at_iload dx_118_123 rfl ?_
              refine at_subR dx_118_124 (by constructor <;> omega) (fun r124 => ?_)
              refine at_goto dx_118_125 ?_
              refine at_astI dx_118_127 lc_866 ln_866 (by first | omega | (simp (disch := omega) only [um_eq, um_k, um_j]; omega)) (by first | omega | (simp (disch := omega) only [um_eq, um_k, um_j]; omega)) r124 ?_
              refine at_iincR (y := 1) dx_118_128 rfl rfl (by constructor <;> omega) (fun r128 => ?_)
              refine at_goto dx_118_129 ?_
              refine at_wk (ls := [vr 856, vi _, vi _, vi _, vi _]) ⟨Or.inl rfl, Or.inl rfl, Or.inl rfl, Or.inl rfl, Or.inl rfl, trivial⟩ ?_
              refine ih _ (by omega) _ _ _ (by decide) r128 (by first | exact Or.inl rfl | exact Or.inr rfl) him (by omega) rfl (fe_ums (fe_ums G98 (by (try dsimp only [stE, FSx]); first | done | omega)) (by (try dsimp only [stE, FSx]); first | done | omega)) (fun r h1 h2 => ?_) (fun r h1 => ?_)
              · by_cases er : r = k
                · subst er
                  simp (disch := omega) only [um_eq, um_k]
                  omega
                · have h9 := w1 r h1 (by omega)
                  simp (disch := omega) only [um_k, um_j]
                  rw [w5, w6]; exact h9
              · have h9 := w2 r (by omega)
                simp (disch := omega) only [um_k, um_j]
                rw [w5, w6]; exact h9
          · skip
            refine at_const (x := 1) dx_118_107 rfl ?_
            refine at_goto dx_118_108 ?_
            refine at_istore dx_118_110 ?_
            refine at_aload dx_118_111 rfl ?_
            refine at_getR dx_118_112 lc_856 rfl lt_856_8 ?_
            refine at_iload dx_118_113 rfl ?_
            refine at_iload dx_118_114 rfl ?_
            refine at_astI dx_118_115 lc_865 ln_865 (by first | omega | (simp (disch := omega) only [um_eq, um_k, um_j]; omega)) (by first | omega | (simp (disch := omega) only [um_eq, um_k, um_j]; omega)) r78 ?_
            refine at_aload dx_118_116 rfl ?_
            refine at_getR dx_118_117 lc_856 rfl lt_856_9 ?_
            refine at_iload dx_118_118 rfl ?_
            refine at_iload dx_118_119 rfl ?_
            refine at_iload dx_118_120 rfl ?_
            refine at_cleR dx_118_121 r98 r78 (fun c121 => ?_) (fun c121 => ?_)
            · skip
              refine at_const (x := 0) dx_118_126 rfl ?_
              refine at_astI dx_118_127 lc_866 ln_866 (by first | omega | (simp (disch := omega) only [um_eq, um_k, um_j]; omega)) (by first | omega | (simp (disch := omega) only [um_eq, um_k, um_j]; omega)) (by decide) ?_
              refine at_iincR (y := 1) dx_118_128 rfl rfl (by constructor <;> omega) (fun r128 => ?_)
              refine at_goto dx_118_129 ?_
              refine at_wk (ls := [vr 856, vi _, vi _, vi _, vi _]) ⟨Or.inl rfl, Or.inl rfl, Or.inl rfl, Or.inl rfl, Or.inl rfl, trivial⟩ ?_
              refine ih _ (by omega) _ _ _ (by decide) r128 (by first | exact Or.inl rfl | exact Or.inr rfl) him (by omega) rfl (fe_ums (fe_ums G98 (by (try dsimp only [stE, FSx]); first | done | omega)) (by (try dsimp only [stE, FSx]); first | done | omega)) (fun r h1 h2 => ?_) (fun r h1 => ?_)
              · by_cases er : r = k
                · subst er
                  simp (disch := omega) only [um_eq, um_k]
                  omega
                · have h9 := w1 r h1 (by omega)
                  simp (disch := omega) only [um_k, um_j]
                  rw [w5, w6]; exact h9
              · have h9 := w2 r (by omega)
                simp (disch := omega) only [um_k, um_j]
                rw [w5, w6]; exact h9
            · skip
              refine at_iload dx_118_122 rfl ?_
              refine at_iload dx_118_123 rfl ?_
              refine at_subR dx_118_124 (by constructor <;> omega) (fun r124 => ?_)
              refine at_goto dx_118_125 ?_
              refine at_astI dx_118_127 lc_866 ln_866 (by first | omega | (simp (disch := omega) only [um_eq, um_k, um_j]; omega)) (by first | omega | (simp (disch := omega) only [um_eq, um_k, um_j]; omega)) r124 ?_
              refine at_iincR (y := 1) dx_118_128 rfl rfl (by constructor <;> omega) (fun r128 => ?_)
              refine at_goto dx_118_129 ?_
              refine at_wk (ls := [vr 856, vi _, vi _, vi _, vi _]) ⟨Or.inl rfl, Or.inl rfl, Or.inl rfl, Or.inl rfl, Or.inl rfl, trivial⟩ ?_
              refine ih _ (by omega) _ _ _ (by decide) r128 (by first | exact Or.inl rfl | exact Or.inr rfl) him (by omega) rfl (fe_ums (fe_ums G98 (by (try dsimp only [stE, FSx]); first | done | omega)) (by (try dsimp only [stE, FSx]); first | done | omega)) (fun r h1 h2 => ?_) (fun r h1 => ?_)
              · by_cases er : r = k
                · subst er
                  simp (disch := omega) only [um_eq, um_k]
                  omega
                · have h9 := w1 r h1 (by omega)
                  simp (disch := omega) only [um_k, um_j]
                  rw [w5, w6]; exact h9
              · have h9 := w2 r (by omega)
                simp (disch := omega) only [um_k, um_j]
                rw [w5, w6]; exact h9
  refine at_aload dx_118_0 rfl ?_
  refine at_getR dx_118_1 lc_856 rfl lt_856_4 ?_
  refine at_iload dx_118_2 rfl ?_
  refine at_aldZ dx_118_3 lc_861 ln_861 (by decide) (by decide) (fun r3 => ?_)
  refine at_zeqR dx_118_4 r3 (fun c4 => ?_) (fun c4 => ?_)
  · skip
    refine at_const (x := 1) dx_118_52 rfl ?_
    refine at_istore dx_118_53 ?_
    refine at_const (x := 0) dx_118_54 rfl ?_
    refine at_istore dx_118_55 ?_
    exact lp _ 1 0 _ (by decide) (by decide) (Or.inr rfl) c4 (by unfold PSi at hS; omega) rfl fe_rf (fun r h1 h2 => by omega) (fun r h => ⟨rfl, rfl⟩)
  · skip
    unfold PSi at hS
    refine at_aload dx_118_5 rfl ?_
    refine at_iload dx_118_6 rfl ?_
    refine at_aload dx_118_7 rfl ?_
    refine at_getR dx_118_8 lc_856 rfl lt_856_8 ?_
    refine at_const (x := 2) dx_118_9 rfl ?_
    refine at_iload dx_118_10 rfl ?_
    refine at_mulC (z := 200) dx_118_11 (by decide +kernel) ?_
    refine at_aldI dx_118_12 lc_865 ln_865 (by decide) (by decide) (fun r12 => ?_)
    refine at_const (x := 1) dx_118_13 rfl ?_
    refine at_callVI dx_118_14 rfl lc_856 rfl (m_mapsThrough rf r12 (by decide) hR hf (by omega) hL) ?_
    rintro x14 M14 r14 ⟨f14, q14⟩
    have G14 : frE FSx M M14 := fe_le f14 (fun q j h => by (try dsimp only [stE, FSx] at h ⊢); first | done | omega)
    refine at_istore dx_118_15 ?_
    refine at_aload dx_118_16 rfl ?_
    refine at_iload dx_118_17 rfl ?_
    refine at_aload dx_118_18 rfl ?_
    refine at_getR dx_118_19 lc_856 rfl lt_856_8 ?_
    refine at_const (x := 2) dx_118_20 rfl ?_
    refine at_iload dx_118_21 rfl ?_
    refine at_mulC (z := 200) dx_118_22 (by decide +kernel) ?_
    refine at_const (x := 1) dx_118_23 rfl ?_
    refine at_addC (z := 201) dx_118_24 (by decide +kernel) ?_
    refine at_aldI dx_118_25 lc_865 ln_865 (by decide) (by decide) (fun r25 => ?_)
    refine at_const (x := 0) dx_118_26 rfl ?_
    refine at_callVI dx_118_27 rfl lc_856 rfl (m_mapsThrough rf r25 (by decide) (RowOK_x hR G14) (by rw [G14 856 24 (by (try dsimp only [stE, FSx]); first | done | omega)]; exact hf) (by rw [f14 865 201 (by (try dsimp only [stE, FSx]); first | done | omega)]; omega) hL) ?_
    rintro x27 M27 r27 ⟨f27, q27⟩
    have G27 : frE FSx M M27 := fe_tr G14 (fe_le f27 (fun q j h => by (try dsimp only [stE, FSx] at h ⊢); first | done | omega))
    rw [G14 856 24 (by (try dsimp only [stE, FSx]); first | done | omega)] at q27
    refine at_istore dx_118_28 ?_
    refine at_aload dx_118_29 rfl ?_
    refine at_getR dx_118_30 lc_856 rfl lt_856_8 ?_
    refine at_const (x := 2) dx_118_31 rfl ?_
    refine at_iload dx_118_32 rfl ?_
    refine at_mulC (z := 200) dx_118_33 (by decide +kernel) ?_
    refine at_iload dx_118_34 rfl ?_
    have rr35 := q14
    refine at_astI dx_118_35 lc_865 ln_865 (by decide) (by decide) r14 ?_
    refine at_aload dx_118_36 rfl ?_
    refine at_getR dx_118_37 lc_856 rfl lt_856_8 ?_
    refine at_const (x := 2) dx_118_38 rfl ?_
    refine at_iload dx_118_39 rfl ?_
    refine at_mulC (z := 200) dx_118_40 (by decide +kernel) ?_
    refine at_const (x := 1) dx_118_41 rfl ?_
    refine at_addC (z := 201) dx_118_42 (by decide +kernel) ?_
    refine at_iload dx_118_43 rfl ?_
    refine at_astI dx_118_44 lc_865 ln_865 (by decide) (by decide) r27 ?_
    refine at_iload dx_118_45 rfl ?_
    refine at_iload dx_118_46 rfl ?_
    refine at_cleR dx_118_47 r27 r14 (fun c47 => ?_) (fun c47 => ?_)
    · skip
      refine at_const (x := 0) dx_118_50 rfl ?_
      refine at_zretI dx_118_51 (Or.inl rfl) ?_
      have h66 : ∀ j : Int, um (um M27 865 200 x14) 865 201 x27 866 j = M 866 j := fun j => by rw [um_k (by decide), um_k (by decide), f27 866 j (by (try dsimp only [stE, FSx]); first | done | omega), f14 866 j (by (try dsimp only [stE, FSx]); first | done | omega)]
      first
      | (refine ⟨fe_ums (fe_ums G27 (by (try dsimp only [stE, FSx]); first | done | omega)) (by (try dsimp only [stE, FSx]); first | done | omega), Or.inl rfl, fun e => absurd e (by omega), fun _ => ⟨h66 200, h66 201⟩, fun e => absurd e (by decide)⟩)
      | (refine ⟨fe_ums (fe_ums G27 (by (try dsimp only [stE, FSx]); first | done | omega)) (by (try dsimp only [stE, FSx]); first | done | omega), Or.inr rfl, fun e => absurd e (by omega), fun _ => ⟨h66 200, h66 201⟩, fun _ => Or.inl ⟨c4, ?_⟩⟩
         simp (disch := omega) only [um_eq, um_k, um_j]; omega)
    · skip
      refine at_const (x := 1) dx_118_48 rfl ?_
      refine at_goto dx_118_49 ?_
      refine at_zretI dx_118_51 (Or.inr rfl) ?_
      have h66 : ∀ j : Int, um (um M27 865 200 x14) 865 201 x27 866 j = M 866 j := fun j => by rw [um_k (by decide), um_k (by decide), f27 866 j (by (try dsimp only [stE, FSx]); first | done | omega), f14 866 j (by (try dsimp only [stE, FSx]); first | done | omega)]
      first
      | (refine ⟨fe_ums (fe_ums G27 (by (try dsimp only [stE, FSx]); first | done | omega)) (by (try dsimp only [stE, FSx]); first | done | omega), Or.inl rfl, fun e => absurd e (by omega), fun _ => ⟨h66 200, h66 201⟩, fun e => absurd e (by decide)⟩)
      | (refine ⟨fe_ums (fe_ums G27 (by (try dsimp only [stE, FSx]); first | done | omega)) (by (try dsimp only [stE, FSx]); first | done | omega), Or.inr rfl, fun e => absurd e (by omega), fun _ => ⟨h66 200, h66 201⟩, fun _ => Or.inl ⟨c4, ?_⟩⟩
         simp (disch := omega) only [um_eq, um_k, um_j]; omega)
