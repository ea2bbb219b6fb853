/-! ===== the reference: a step mapped ===== -/
abbrev FSx (q : Nat) (j : Int) : Prop := (q = 856 ∧ j = 28) ∨ ((q = 865 ∨ q = 866) ∧ (j = 200 ∨ j = 201))
theorem RowOK_x {M M' : mem} {Ln : Int → Int} (hR : RowOK M Ln) (h : frE FSx M M') : RowOK M' Ln := RowOK_fe hR h (fun q j e => by dsimp only [FSx, stE] at e ⊢; omega)
abbrev PSx (M M' : mem) (L : Int) : Prop := (M 861 100 ≠ 0 ∧ 0 ≤ M' 865 200 ∧ M' 865 200 < M' 865 201 ∧ M' 865 201 ≤ L) ∨ (M 861 100 = 0 ∧ 0 ≤ M' 865 200 ∧ 0 ≤ M' 866 200 ∧ M' 865 200 + M' 866 200 ≤ L ∧ (M 864 100 = 2 → M' 865 200 + M' 866 200 ≤ M' 865 201 ∧ 0 ≤ M' 866 201 ∧ M' 865 201 + M' 866 201 ≤ L))
abbrev PSi (M : mem) (L : Int) : Prop := (M 861 100 ≠ 0 ∧ (0 ≤ M 865 200 ∧ M 865 200 ≤ L) ∧ 0 ≤ M 865 201 ∧ M 865 201 ≤ L) ∨ (M 861 100 = 0 ∧ (M 864 100 = 1 ∨ M 864 100 = 2) ∧ (0 ≤ M 865 200 ∧ 0 ≤ M 866 200 ∧ M 865 200 + M 866 200 ≤ L) ∧ (M 864 100 = 2 → 0 ≤ M 865 201 ∧ 0 ≤ M 866 201 ∧ M 865 201 + M 866 201 ≤ L))
set_option maxRecDepth 100000 in
set_option maxHeartbeats 4000000 in
theorem m_mapsStep {X : scr} {M : mem} {f : Int} (rf : inR f) {Ln : Int → Int} (hR : RowOK M Ln) (hf : 0 ≤ f ∧ f ≤ M 856 24) (hL : Ln f ≤ 60) (hLR : Ln (M 856 24) ≤ 60) (hS : PSi M (Ln f)) : At X 0 119 0 [vr 856, vi f, vi 100] [] M (qI (fun x M' => frE FSx M M' ∧ (x = 0 ∨ x = 1) ∧ (M 861 100 = 0 → M 864 100 = 1 → M' 865 201 = M 865 201 ∧ M' 866 201 = M 866 201) ∧ (M 861 100 ≠ 0 → M' 866 200 = M 866 200 ∧ M' 866 201 = M 866 201) ∧ (x = 1 → PSx M M' (Ln (M 856 24))))) := by
  have lp : ∀ (n9 : Nat) (z k : Int) (M1 : mem) (rz : inR z) (rk : inR k) (hz : z = 0 ∨ z = 1) (him : M 861 100 = 0) (hk : 0 ≤ k ∧ k ≤ M 864 100) (hn : (M 864 100 - k).toNat = n9) (F : frE FSx M M1) (w1 : ∀ r : Int, 0 ≤ r → r < k → 0 ≤ M1 865 (200 + r) ∧ 0 ≤ M1 866 (200 + r) ∧ M1 865 (200 + r) + M1 866 (200 + r) ≤ Ln (M 856 24)) (w2 : ∀ r : Int, k ≤ r → M1 865 (200 + r) = M 865 (200 + r) ∧ M1 866 (200 + r) = M 866 (200 + r)), At X 0 119 56 [vr 856, vi f, vi 100, vi z, vi k] [] M1 (qI (fun x M' => frE FSx M M' ∧ (x = 0 ∨ x = 1) ∧ (M 861 100 = 0 → M 864 100 = 1 → M' 865 201 = M 865 201 ∧ M' 866 201 = M 866 201) ∧ (M 861 100 ≠ 0 → M' 866 200 = M 866 200 ∧ M' 866 201 = M 866 201) ∧ (x = 1 → PSx M M' (Ln (M 856 24))))) := by
    intro n9
    induction n9 using Nat.strongRecOn with
    | ind n9 ih =>
    intro z k M1 rz rk hz him hk hn F w1 w2
    unfold PSi at hS
    have e4 : M1 864 100 = M 864 100 := F 864 100 (by (try dsimp only [stE, FSx]); first | done | omega)
    have hrg : M 864 100 = 1 ∨ M 864 100 = 2 := by omega
    have G70 : frE FSx M (um M1 856 28 0) := fe_ums F (by (try dsimp only [stE, FSx]); first | done | omega)
    have hkk : k < M 864 100 → 0 ≤ M1 865 (200 + k) ∧ 0 ≤ M1 866 (200 + k) ∧ M1 865 (200 + k) + M1 866 (200 + k) ≤ Ln f := fun hh => by
      have h9 := w2 k (Int.le_refl _)
      rcases (show k = 0 ∨ k = 1 by omega) with e | e <;> subst e <;> simp at h9 ⊢ <;> omega
    refine at_iload dx_119_56 rfl ?_
    refine at_aload dx_119_57 rfl ?_
    refine at_getR dx_119_58 lc_856 rfl lt_856_7 ?_
    refine at_iload dx_119_59 rfl ?_
    refine at_aldI dx_119_60 lc_864 ln_864 (by decide) (by decide) (fun r60 => ?_)
    refine at_cgeR dx_119_61 rk r60 (fun c61 => ?_) (fun c61 => ?_)
    · skip
      refine at_iload dx_119_130 rfl ?_
      refine at_zeqR dx_119_131 rz (fun c131 => ?_) (fun c131 => ?_)
      · skip
        refine at_const (x := 0) dx_119_162 rfl ?_
        refine at_zretI dx_119_163 (Or.inl rfl) ?_
        have hkr : k = M 864 100 := by omega
        have e201 : M 861 100 = 0 → M 864 100 = 1 → M1 865 201 = M 865 201 ∧ M1 866 201 = M 866 201 := fun _ h => w2 1 (by omega)
        first
        | exact ⟨F, Or.inl rfl, e201, fun e => absurd him e, fun e => absurd e (by decide)⟩
        | (refine ⟨F, Or.inr rfl, e201, fun e => absurd him e, fun _ => Or.inr ⟨him, ?_⟩⟩
           have h0 := w1 0 (by decide) (by omega)
           have h1 := fun (h : M 864 100 = 2) => w1 1 (by decide) (by omega)
           simp only [Int.add_zero] at h0
           refine ⟨h0.1, h0.2.1, h0.2.2, fun h2 => ?_⟩
           have h3 := h1 h2
           have e201' : (200 : Int) + 1 = 201 := rfl
           rw [e201'] at h3
           exact ⟨by omega, h3.2.1, h3.2.2⟩)
      · skip
        have hw0 := w1 0 (by decide) (by omega)
        simp only [Int.add_zero] at hw0
        refine at_aload dx_119_132 rfl ?_
        refine at_getR dx_119_133 lc_856 rfl lt_856_7 ?_
        refine at_iload dx_119_134 rfl ?_
        refine at_aldI dx_119_135 lc_864 ln_864 (by decide) (by decide) (fun r135 => ?_)
        refine at_const (x := 2) dx_119_136 rfl ?_
        refine at_cltR dx_119_137 r135 (by decide) (fun c137 => ?_) (fun c137 => ?_)
        · skip
          refine at_const (x := 1) dx_119_160 rfl ?_
          refine at_goto dx_119_161 ?_
          refine at_zretI dx_119_163 (Or.inr rfl) ?_
          have hkr : k = M 864 100 := by omega
          have e201 : M 861 100 = 0 → M 864 100 = 1 → M1 865 201 = M 865 201 ∧ M1 866 201 = M 866 201 := fun _ h => w2 1 (by omega)
          first
          | exact ⟨F, Or.inl rfl, e201, fun e => absurd him e, fun e => absurd e (by decide)⟩
          | (refine ⟨F, Or.inr rfl, e201, fun e => absurd him e, fun _ => Or.inr ⟨him, ?_⟩⟩
             have h0 := w1 0 (by decide) (by omega)
             have h1 := fun (h : M 864 100 = 2) => w1 1 (by decide) (by omega)
             simp only [Int.add_zero] at h0
             refine ⟨h0.1, h0.2.1, h0.2.2, fun h2 => ?_⟩
             have h3 := h1 h2
             have e201' : (200 : Int) + 1 = 201 := rfl
             rw [e201'] at h3
             exact ⟨by omega, h3.2.1, h3.2.2⟩)
        · skip
          refine at_aload dx_119_138 rfl ?_
          refine at_getR dx_119_139 lc_856 rfl lt_856_8 ?_
          refine at_const (x := 2) dx_119_140 rfl ?_
          refine at_iload dx_119_141 rfl ?_
          refine at_mulC (z := 200) dx_119_142 (by decide +kernel) ?_
          refine at_const (x := 1) dx_119_143 rfl ?_
          refine at_addC (z := 201) dx_119_144 (by decide +kernel) ?_
          refine at_aldI dx_119_145 lc_865 ln_865 (by decide) (by decide) (fun r145 => ?_)
          refine at_aload dx_119_146 rfl ?_
          refine at_getR dx_119_147 lc_856 rfl lt_856_8 ?_
          refine at_const (x := 2) dx_119_148 rfl ?_
          refine at_iload dx_119_149 rfl ?_
          refine at_mulC (z := 200) dx_119_150 (by decide +kernel) ?_
          refine at_aldI dx_119_151 lc_865 ln_865 (by decide) (by decide) (fun r151 => ?_)
          refine at_aload dx_119_152 rfl ?_
          refine at_getR dx_119_153 lc_856 rfl lt_856_9 ?_
          refine at_const (x := 2) dx_119_154 rfl ?_
          refine at_iload dx_119_155 rfl ?_
          refine at_mulC (z := 200) dx_119_156 (by decide +kernel) ?_
          refine at_aldI dx_119_157 lc_866 ln_866 (by decide) (by decide) (fun r157 => ?_)
          refine at_addR dx_119_158 (by constructor <;> omega) (fun r158 => ?_)
          refine at_cltR dx_119_159 r145 r158 (fun c159 => ?_) (fun c159 => ?_)
          · skip
            refine at_const (x := 0) dx_119_162 rfl ?_
            refine at_zretI dx_119_163 (Or.inl rfl) ?_
            have hkr : k = M 864 100 := by omega
            have e201 : M 861 100 = 0 → M 864 100 = 1 → M1 865 201 = M 865 201 ∧ M1 866 201 = M 866 201 := fun _ h => w2 1 (by omega)
            first
            | exact ⟨F, Or.inl rfl, e201, fun e => absurd him e, fun e => absurd e (by decide)⟩
            | (refine ⟨F, Or.inr rfl, e201, fun e => absurd him e, fun _ => Or.inr ⟨him, ?_⟩⟩
               have h0 := w1 0 (by decide) (by omega)
               have h1 := fun (h : M 864 100 = 2) => w1 1 (by decide) (by omega)
               simp only [Int.add_zero] at h0
               refine ⟨h0.1, h0.2.1, h0.2.2, fun h2 => ?_⟩
               have h3 := h1 h2
               have e201' : (200 : Int) + 1 = 201 := rfl
               rw [e201'] at h3
               exact ⟨by omega, h3.2.1, h3.2.2⟩)
          · skip
            refine at_const (x := 1) dx_119_160 rfl ?_
            refine at_goto dx_119_161 ?_
            refine at_zretI dx_119_163 (Or.inr rfl) ?_
            have hkr : k = M 864 100 := by omega
            have e201 : M 861 100 = 0 → M 864 100 = 1 → M1 865 201 = M 865 201 ∧ M1 866 201 = M 866 201 := fun _ h => w2 1 (by omega)
            first
            | exact ⟨F, Or.inl rfl, e201, fun e => absurd him e, fun e => absurd e (by decide)⟩
            | (refine ⟨F, Or.inr rfl, e201, fun e => absurd him e, fun _ => Or.inr ⟨him, ?_⟩⟩
               have h0 := w1 0 (by decide) (by omega)
               have h1 := fun (h : M 864 100 = 2) => w1 1 (by decide) (by omega)
               simp only [Int.add_zero] at h0
               refine ⟨h0.1, h0.2.1, h0.2.2, fun h2 => ?_⟩
               have h3 := h1 h2
               have e201' : (200 : Int) + 1 = 201 := rfl
               rw [e201'] at h3
               exact ⟨by omega, h3.2.1, h3.2.2⟩)
    · skip
      refine at_const (x := 2) dx_119_62 rfl ?_
      refine at_iload dx_119_63 rfl ?_
      refine at_mulC (z := 200) dx_119_64 (by decide +kernel) ?_
      refine at_iload dx_119_65 rfl ?_
      refine at_addR dx_119_66 (by constructor <;> omega) (fun r66 => ?_)
      refine at_istore dx_119_67 ?_
      refine at_aload dx_119_68 rfl ?_
      refine at_const (x := 0) dx_119_69 rfl ?_
      refine at_putZ 28 dx_119_70 lc_856 rfl rfl (Or.inl rfl) ?_
      have hk9 := hkk (by omega)
      refine at_aload dx_119_71 rfl ?_
      refine at_iload dx_119_72 rfl ?_
      refine at_aload dx_119_73 rfl ?_
      refine at_getR dx_119_74 lc_856 rfl lt_856_8 ?_
      refine at_iload dx_119_75 rfl ?_
      refine at_aldI dx_119_76 lc_865 ln_865 (by first | omega | (simp (disch := omega) only [um_eq, um_k, um_j]; omega)) (by first | omega | (simp (disch := omega) only [um_eq, um_k, um_j]; omega)) (fun r76 => ?_)
      refine at_const (x := 1) dx_119_77 rfl ?_
      refine at_callVI dx_119_78 rfl lc_856 rfl (m_mapsThrough rf r76 (by decide) (RowOK_x hR G70) (by rw [G70 856 24 (by (try dsimp only [stE, FSx]); first | done | omega)]; exact hf) (by simp (disch := omega) only [um_k]; omega) hL) ?_
      rintro x78 M78 r78 ⟨f78, q78⟩
      have G78 : frE FSx M M78 := fe_tr G70 (fe_le f78 (fun q j h => by (try dsimp only [stE, FSx] at h ⊢); first | done | omega))
      rw [G70 856 24 (by (try dsimp only [stE, FSx]); first | done | omega)] at q78
      have G83 : frE FSx M (um M78 856 28 0) := fe_ums G78 (by (try dsimp only [stE, FSx]); first | done | omega)
      have v5 : M78 865 (200 + k) = M1 865 (200 + k) := by rw [f78 865 _ (by (try dsimp only [stE, FSx]); first | done | omega), um_k (by decide)]
      have v6 : M78 866 (200 + k) = M1 866 (200 + k) := by rw [f78 866 _ (by (try dsimp only [stE, FSx]); first | done | omega), um_k (by decide)]
      have v4 : M78 864 100 = M1 864 100 := by rw [f78 864 _ (by (try dsimp only [stE, FSx]); first | done | omega), um_k (by decide)]
      refine at_istore dx_119_79 ?_
      refine at_aload dx_119_80 rfl ?_
      refine at_getI 28 dx_119_81 lc_856 rfl rfl (fun r81 => ?_)
      refine at_istore dx_119_82 ?_
      refine at_aload dx_119_83 rfl ?_
      refine at_const (x := 0) dx_119_84 rfl ?_
      refine at_putZ 28 dx_119_85 lc_856 rfl rfl (Or.inl rfl) ?_
      refine at_aload dx_119_86 rfl ?_
      refine at_iload dx_119_87 rfl ?_
      refine at_aload dx_119_88 rfl ?_
      refine at_getR dx_119_89 lc_856 rfl lt_856_8 ?_
      refine at_iload dx_119_90 rfl ?_
      refine at_aldI dx_119_91 lc_865 ln_865 (by first | omega | (simp (disch := omega) only [um_eq, um_k, um_j]; omega)) (by first | omega | (simp (disch := omega) only [um_eq, um_k, um_j]; omega)) (fun r91 => ?_)
      refine at_aload dx_119_92 rfl ?_
      refine at_getR dx_119_93 lc_856 rfl lt_856_9 ?_
      refine at_iload dx_119_94 rfl ?_
      refine at_aldI dx_119_95 lc_866 ln_866 (by first | omega | (simp (disch := omega) only [um_eq, um_k, um_j]; omega)) (by first | omega | (simp (disch := omega) only [um_eq, um_k, um_j]; omega)) (fun r95 => ?_)
      refine at_addR dx_119_96 (by simp (disch := omega) only [um_k]; constructor <;> omega) (fun r96 => ?_)
      refine at_const (x := 0) dx_119_97 rfl ?_
      refine at_callVI dx_119_98 rfl lc_856 rfl (m_mapsThrough rf r96 (by decide) (RowOK_x hR G83) (by rw [G83 856 24 (by (try dsimp only [stE, FSx]); first | done | omega)]; exact hf) (by simp (disch := omega) only [um_k]; omega) hL) ?_
      rintro x98 M98 r98 ⟨f98, q98⟩
      have G98 : frE FSx M M98 := fe_tr G83 (fe_le f98 (fun q j h => by (try dsimp only [stE, FSx] at h ⊢); first | done | omega))
      rw [G83 856 24 (by (try dsimp only [stE, FSx]); first | done | omega)] at q98
      have w5 : ∀ j, M98 865 j = M1 865 j := fun j => by rw [f98 865 j (by (try dsimp only [stE, FSx]); first | done | omega), um_k (by decide), f78 865 j (by (try dsimp only [stE, FSx]); first | done | omega), um_k (by decide)]
      have w6 : ∀ j, M98 866 j = M1 866 j := fun j => by rw [f98 866 j (by (try dsimp only [stE, FSx]); first | done | omega), um_k (by decide), f78 866 j (by (try dsimp only [stE, FSx]); first | done | omega), um_k (by decide)]
      have w4 : M98 864 100 = M1 864 100 := by rw [f98 864 _ (by (try dsimp only [stE, FSx]); first | done | omega), um_k (by decide), v4]
      refine at_istore dx_119_99 ?_
      refine at_iload dx_119_100 rfl ?_
      refine at_zeqR dx_119_101 rz (fun c101 => ?_) (fun c101 => ?_)
      · skip
        refine at_const (x := 0) dx_119_109 rfl ?_
        refine at_istore dx_119_110 ?_
        refine at_aload dx_119_111 rfl ?_
        refine at_getR dx_119_112 lc_856 rfl lt_856_8 ?_
        refine at_iload dx_119_113 rfl ?_
        refine at_iload dx_119_114 rfl ?_
        refine at_astI dx_119_115 lc_865 ln_865 (by first | omega | (simp (disch := omega) only [um_eq, um_k, um_j]; omega)) (by first | omega | (simp (disch := omega) only [um_eq, um_k, um_j]; omega)) r78 ?_
        refine at_aload dx_119_116 rfl ?_
        refine at_getR dx_119_117 lc_856 rfl lt_856_9 ?_
        refine at_iload dx_119_118 rfl ?_
        refine at_iload dx_119_119 rfl ?_
        refine at_iload dx_119_120 rfl ?_
        refine at_cleR dx_119_121 r98 r78 (fun c121 => ?_) (fun c121 => ?_)
        · skip
          refine at_const (x := 0) dx_119_126 rfl ?_
          refine at_astI dx_119_127 lc_866 ln_866 (by first | omega | (simp (disch := omega) only [um_eq, um_k, um_j]; omega)) (by first | omega | (simp (disch := omega) only [um_eq, um_k, um_j]; omega)) (by decide) ?_
          refine at_iincR (y := 1) dx_119_128 rfl rfl (by constructor <;> omega) (fun r128 => ?_)
          refine at_goto dx_119_129 ?_
          refine at_wk (ls := [vr 856, vi _, vi _, vi _, vi _]) ⟨Or.inl rfl, Or.inl rfl, Or.inl rfl, Or.inl rfl, Or.inl rfl, trivial⟩ ?_
          refine ih _ (by omega) _ _ _ (by decide) r128 (by first | exact Or.inl rfl | exact Or.inr rfl) him (by omega) rfl (fe_ums (fe_ums G98 (by (try dsimp only [stE, FSx]); first | done | omega)) (by (try dsimp only [stE, FSx]); first | done | omega)) (fun r h1 h2 => ?_) (fun r h1 => ?_)
          · by_cases er : r = k
            · subst er
              simp (disch := omega) only [um_eq, um_k]
              omega
            · have h9 := w1 r h1 (by omega)
              simp (disch := omega) only [um_k, um_j]
              rw [w5, w6]; exact h9
          · have h9 := w2 r (by omega)
            simp (disch := omega) only [um_k, um_j]
            rw [w5, w6]; exact h9
        · skip
          refine at_iload dx_119_122 rfl ?_
          refine at_iload dx_119_123 rfl ?_
          refine at_subR dx_119_124 (by constructor <;> omega) (fun r124 => ?_)
          refine at_goto dx_119_125 ?_
          refine at_astI dx_119_127 lc_866 ln_866 (by first | omega | (simp (disch := omega) only [um_eq, um_k, um_j]; omega)) (by first | omega | (simp (disch := omega) only [um_eq, um_k, um_j]; omega)) r124 ?_
          refine at_iincR (y := 1) dx_119_128 rfl rfl (by constructor <;> omega) (fun r128 => ?_)
          refine at_goto dx_119_129 ?_
          refine at_wk (ls := [vr 856, vi _, vi _, vi _, vi _]) ⟨Or.inl rfl, Or.inl rfl, Or.inl rfl, Or.inl rfl, Or.inl rfl, trivial⟩ ?_
          refine ih _ (by omega) _ _ _ (by decide) r128 (by first | exact Or.inl rfl | exact Or.inr rfl) him (by omega) rfl (fe_ums (fe_ums G98 (by (try dsimp only [stE, FSx]); first | done | omega)) (by (try dsimp only [stE, FSx]); first | done | omega)) (fun r h1 h2 => ?_) (fun r h1 => ?_)
          · by_cases er : r = k
            · subst er
              simp (disch := omega) only [um_eq, um_k]
              omega
            · have h9 := w1 r h1 (by omega)
              simp (disch := omega) only [um_k, um_j]
              rw [w5, w6]; exact h9
          · have h9 := w2 r (by omega)
            simp (disch := omega) only [um_k, um_j]
            rw [w5, w6]; exact h9
      · skip
        refine at_iload dx_119_102 rfl ?_
        refine at_zeqR dx_119_103 r81 (fun c103 => ?_) (fun c103 => ?_)
        · skip
          refine at_const (x := 1) dx_119_107 rfl ?_
          refine at_goto dx_119_108 ?_
          refine at_istore dx_119_110 ?_
          refine at_aload dx_119_111 rfl ?_
          refine at_getR dx_119_112 lc_856 rfl lt_856_8 ?_
          refine at_iload dx_119_113 rfl ?_
          refine at_iload dx_119_114 rfl ?_
          refine at_astI dx_119_115 lc_865 ln_865 (by first | omega | (simp (disch := omega) only [um_eq, um_k, um_j]; omega)) (by first | omega | (simp (disch := omega) only [um_eq, um_k, um_j]; omega)) r78 ?_
          refine at_aload dx_119_116 rfl ?_
          refine at_getR dx_119_117 lc_856 rfl lt_856_9 ?_
          refine at_iload dx_119_118 rfl ?_
          refine at_iload dx_119_119 rfl ?_
          refine at_iload dx_119_120 rfl ?_
          refine at_cleR dx_119_121 r98 r78 (fun c121 => ?_) (fun c121 => ?_)
          · skip
            refine at_const (x := 0) dx_119_126 rfl ?_
            refine at_astI dx_119_127 lc_866 ln_866 (by first | omega | (simp (disch := omega) only [um_eq, um_k, um_j]; omega)) (by first | omega | (simp (disch := omega) only [um_eq, um_k, um_j]; omega)) (by decide) ?_
            refine at_iincR (y := 1) dx_119_128 rfl rfl (by constructor <;> omega) (fun r128 => ?_)
            refine at_goto dx_119_129 ?_
            refine at_wk (ls := [vr 856, vi _, vi _, vi _, vi _]) ⟨Or.inl rfl, Or.inl rfl, Or.inl rfl, Or.inl rfl, Or.inl rfl, trivial⟩ ?_
            refine ih _ (by omega) _ _ _ (by decide) r128 (by first | exact Or.inl rfl | exact Or.inr rfl) him (by omega) rfl (fe_ums (fe_ums G98 (by (try dsimp only [stE, FSx]); first | done | omega)) (by (try dsimp only [stE, FSx]); first | done | omega)) (fun r h1 h2 => ?_) (fun r h1 => ?_)
            · by_cases er : r = k
              · subst er
                simp (disch := omega) only [um_eq, um_k]
                omega
              · have h9 := w1 r h1 (by omega)
                simp (disch := omega) only [um_k, um_j]
                rw [w5, w6]; exact h9
            · have h9 := w2 r (by omega)
              simp (disch := omega) only [um_k, um_j]
              rw [w5, w6]; exact h9
          · skip
            refine at_iload dx_119_122 rfl ?_
            refine at_iload dx_119_123 rfl ?_
            refine at_subR dx_119_124 (by constructor <;> omega) (fun r124 => ?_)
            refine at_goto dx_119_125 ?_
            refine at_astI dx_119_127 lc_866 ln_866 (by first | omega | (simp (disch := omega) only [um_eq, um_k, um_j]; omega)) (by first | omega | (simp (disch := omega) only [um_eq, um_k, um_j]; omega)) r124 ?_
            refine at_iincR (y := 1) dx_119_128 rfl rfl (by constructor <;> omega) (fun r128 => ?_)
            refine at_goto dx_119_129 ?_
            refine at_wk (ls := [vr 856, vi _, vi _, vi _, vi _]) ⟨Or.inl rfl, Or.inl rfl, Or.inl rfl, Or.inl rfl, Or.inl rfl, trivial⟩ ?_
            refine ih _ (by omega) _ _ _ (by decide) r128 (by first | exact Or.inl rfl | exact Or.inr rfl) him (by omega) rfl (fe_ums (fe_ums G98 (by (try dsimp only [stE, FSx]); first | done | omega)) (by (try dsimp only [stE, FSx]); first | done | omega)) (fun r h1 h2 => ?_) (fun r h1 => ?_)
            · by_cases er : r = k
              · subst er
                simp (disch := omega) only [um_eq, um_k]
                omega
              · have h9 := w1 r h1 (by omega)
                simp (disch := omega) only [um_k, um_j]
                rw [w5, w6]; exact h9
            · have h9 := w2 r (by omega)
              simp (disch := omega) only [um_k, um_j]
              rw [w5, w6]; exact h9
        · skip
          refine at_aload dx_119_104 rfl ?_
          refine at_getI 28 dx_119_105 lc_856 rfl rfl (fun r105 => ?_)
          refine at_zneR dx_119_106 r105 (fun c106 => ?_) (fun c106 => ?_)
          · skip
            refine at_const (x := 0) dx_119_109 rfl ?_
            refine at_istore dx_119_110 ?_
            refine at_aload dx_119_111 rfl ?_
            refine at_getR dx_119_112 lc_856 rfl lt_856_8 ?_
            refine at_iload dx_119_113 rfl ?_
            refine at_iload dx_119_114 rfl ?_
            refine at_astI dx_119_115 lc_865 ln_865 (by first | omega | (simp (disch := omega) only [um_eq, um_k, um_j]; omega)) (by first | omega | (simp (disch := omega) only [um_eq, um_k, um_j]; omega)) r78 ?_
            refine at_aload dx_119_116 rfl ?_
            refine at_getR dx_119_117 lc_856 rfl lt_856_9 ?_
            refine at_iload dx_119_118 rfl ?_
            refine at_iload dx_119_119 rfl ?_
            refine at_iload dx_119_120 rfl ?_
            refine at_cleR dx_119_121 r98 r78 (fun c121 => ?_) (fun c121 => ?_)
            · skip
              refine at_const (x := 0) dx_119_126 rfl ?_
              refine at_astI dx_119_127 lc_866 ln_866 (by first | omega | (simp (disch := omega) only [um_eq, um_k, um_j]; omega)) (by first | omega | (simp (disch := omega) only [um_eq, um_k, um_j]; omega)) (by decide) ?_
              refine at_iincR (y := 1) dx_119_128 rfl rfl (by constructor <;> omega) (fun r128 => ?_)
              refine at_goto dx_119_129 ?_
              refine at_wk (ls := [vr 856, vi _, vi _, vi _, vi _]) ⟨Or.inl rfl, Or.inl rfl, Or.inl rfl, Or.inl rfl, Or.inl rfl, trivial⟩ ?_
              refine ih _ (by omega) _ _ _ (by decide) r128 (by first | exact Or.inl rfl | exact Or.inr rfl) him (by omega) rfl (fe_ums (fe_ums G98 (by (try dsimp only [stE, FSx]); first | done | omega)) (by (try dsimp only [stE, FSx]); first | done | omega)) (fun r h1 h2 => ?_) (fun r h1 => ?_)
              · by_cases er : r = k
                · subst er
                  simp (disch := omega) only [um_eq, um_k]
                  omega
                · have h9 := w1 r h1 (by omega)
                  simp (disch := omega) only [um_k, um_j]
                  rw [w5, w6]; exact h9
              · have h9 := w2 r (by omega)
                simp (disch := omega) only [um_k, um_j]
                rw [w5, w6]; exact h9
            · skip
              refine at_iload dx_119_122 rfl ?_
              refine at_iload dx_119_123 rfl ?_
              refine at_subR dx_119_124 (by constructor <;> omega) (fun r124 => ?_)
              refine at_goto dx_119_125 ?_
              refine at_astI dx_119_127 lc_866 ln_866 (by first | omega | (simp (disch := omega) only [um_eq, um_k, um_j]; omega)) (by first | omega | (simp (disch := omega) only [um_eq, um_k, um_j]; omega)) r124 ?_
              refine at_iincR (y := 1) dx_119_128 rfl rfl (by constructor <;> omega) (fun r128 => ?_)
              refine at_goto dx_119_129 ?_
              refine at_wk (ls := [vr 856, vi _, vi _, vi _, vi _]) ⟨Or.inl rfl, Or.inl rfl, Or.inl rfl, Or.inl rfl, Or.inl rfl, trivial⟩ ?_
              refine ih _ (by omega) _ _ _ (by decide) r128 (by first | exact Or.inl rfl | exact Or.inr rfl) him (by omega) rfl (fe_ums (fe_ums G98 (by (try dsimp only [stE, FSx]); first | done | omega)) (by (try dsimp only [stE, FSx]); first | done | omega)) (fun r h1 h2 => ?_) (fun r h1 => ?_)
              · by_cases er : r = k
                · subst er
                  simp (disch := omega) only [um_eq, um_k]
                  omega
                · have h9 := w1 r h1 (by omega)
                  simp (disch := omega) only [um_k, um_j]
                  rw [w5, w6]; exact h9
              · have h9 := w2 r (by omega)
                simp (disch := omega) only [um_k, um_j]
                rw [w5, w6]; exact h9
          · skip
            refine at_const (x := 1) dx_119_107 rfl ?_
            refine at_goto dx_119_108 ?_
            refine at_istore dx_119_110 ?_
            refine at_aload dx_119_111 rfl ?_
            refine at_getR dx_119_112 lc_856 rfl lt_856_8 ?_
            refine at_iload dx_119_113 rfl ?_
            refine at_iload dx_119_114 rfl ?_
            refine at_astI dx_119_115 lc_865 ln_865 (by first | omega | (simp (disch := omega) only [um_eq, um_k, um_j]; omega)) (by first | omega | (simp (disch := omega) only [um_eq, um_k, um_j]; omega)) r78 ?_
            refine at_aload dx_119_116 rfl ?_
            refine at_getR dx_119_117 lc_856 rfl lt_856_9 ?_
            refine at_iload dx_119_118 rfl ?_
            refine at_iload dx_119_119 rfl ?_
            refine at_iload dx_119_120 rfl ?_
            refine at_cleR dx_119_121 r98 r78 (fun c121 => ?_) (fun c121 => ?_)
            · skip
              refine at_const (x := 0) dx_119_126 rfl ?_
              refine at_astI dx_119_127 lc_866 ln_866 (by first | omega | (simp (disch := omega) only [um_eq, um_k, um_j]; omega)) (by first | omega | (simp (disch := omega) only [um_eq, um_k, um_j]; omega)) (by decide) ?_
              refine at_iincR (y := 1) dx_119_128 rfl rfl (by constructor <;> omega) (fun r128 => ?_)
              refine at_goto dx_119_129 ?_
              refine at_wk (ls := [vr 856, vi _, vi _, vi _, vi _]) ⟨Or.inl rfl, Or.inl rfl, Or.inl rfl, Or.inl rfl, Or.inl rfl, trivial⟩ ?_
              refine ih _ (by omega) _ _ _ (by decide) r128 (by first | exact Or.inl rfl | exact Or.inr rfl) him (by omega) rfl (fe_ums (fe_ums G98 (by (try dsimp only [stE, FSx]); first | done | omega)) (by (try dsimp only [stE, FSx]); first | done | omega)) (fun r h1 h2 => ?_) (fun r h1 => ?_)
              · by_cases er : r = k
                · subst er
                  simp (disch := omega) only [um_eq, um_k]
                  omega
                · have h9 := w1 r h1 (by omega)
                  simp (disch := omega) only [um_k, um_j]
                  rw [w5, w6]; exact h9
              · have h9 := w2 r (by omega)
                simp (disch := omega) only [um_k, um_j]
                rw [w5, w6]; exact h9
            · skip
              refine at_iload dx_119_122 rfl ?_
              refine at_iload dx_119_123 rfl ?_
              refine at_subR dx_119_124 (by constructor <;> omega) (fun r124 => ?_)
              refine at_goto dx_119_125 ?_
              refine at_astI dx_119_127 lc_866 ln_866 (by first | omega | (simp (disch := omega) only [um_eq, um_k, um_j]; omega)) (by first | omega | (simp (disch := omega) only [um_eq, um_k, um_j]; omega)) r124 ?_
              refine at_iincR (y := 1) dx_119_128 rfl rfl (by constructor <;> omega) (fun r128 => ?_)
              refine at_goto dx_119_129 ?_
              refine at_wk (ls := [vr 856, vi _, vi _, vi _, vi _]) ⟨Or.inl rfl, Or.inl rfl, Or.inl rfl, Or.inl rfl, Or.inl rfl, trivial⟩ ?_
              refine ih _ (by omega) _ _ _ (by decide) r128 (by first | exact Or.inl rfl | exact Or.inr rfl) him (by omega) rfl (fe_ums (fe_ums G98 (by (try dsimp only [stE, FSx]); first | done | omega)) (by (try dsimp only [stE, FSx]); first | done | omega)) (fun r h1 h2 => ?_) (fun r h1 => ?_)
              · by_cases er : r = k
                · subst er
                  simp (disch := omega) only [um_eq, um_k]
                  omega
                · have h9 := w1 r h1 (by omega)
                  simp (disch := omega) only [um_k, um_j]
                  rw [w5, w6]; exact h9
              · have h9 := w2 r (by omega)
                simp (disch := omega) only [um_k, um_j]
                rw [w5, w6]; exact h9
  refine at_aload dx_119_0 rfl ?_
  refine at_getR dx_119_1 lc_856 rfl lt_856_4 ?_
  refine at_iload dx_119_2 rfl ?_
  refine at_aldZ dx_119_3 lc_861 ln_861 (by decide) (by decide) (fun r3 => ?_)
  refine at_zeqR dx_119_4 r3 (fun c4 => ?_) (fun c4 => ?_)
  · skip
    refine at_const (x := 1) dx_119_52 rfl ?_
    refine at_istore dx_119_53 ?_
    refine at_const (x := 0) dx_119_54 rfl ?_
    refine at_istore dx_119_55 ?_
    exact lp _ 1 0 _ (by decide) (by decide) (Or.inr rfl) c4 (by unfold PSi at hS; omega) rfl fe_rf (fun r h1 h2 => by omega) (fun r h => ⟨rfl, rfl⟩)
  · skip
    unfold PSi at hS
    refine at_aload dx_119_5 rfl ?_
    refine at_iload dx_119_6 rfl ?_
    refine at_aload dx_119_7 rfl ?_
    refine at_getR dx_119_8 lc_856 rfl lt_856_8 ?_
    refine at_const (x := 2) dx_119_9 rfl ?_
    refine at_iload dx_119_10 rfl ?_
    refine at_mulC (z := 200) dx_119_11 (by decide +kernel) ?_
    refine at_aldI dx_119_12 lc_865 ln_865 (by decide) (by decide) (fun r12 => ?_)
    refine at_const (x := 1) dx_119_13 rfl ?_
    refine at_callVI dx_119_14 rfl lc_856 rfl (m_mapsThrough rf r12 (by decide) hR hf (by omega) hL) ?_
    rintro x14 M14 r14 ⟨f14, q14⟩
    have G14 : frE FSx M M14 := fe_le f14 (fun q j h => by (try dsimp only [stE, FSx] at h ⊢); first | done | omega)
    refine at_istore dx_119_15 ?_
    refine at_aload dx_119_16 rfl ?_
    refine at_iload dx_119_17 rfl ?_
    refine at_aload dx_119_18 rfl ?_
    refine at_getR dx_119_19 lc_856 rfl lt_856_8 ?_
    refine at_const (x := 2) dx_119_20 rfl ?_
    refine at_iload dx_119_21 rfl ?_
    refine at_mulC (z := 200) dx_119_22 (by decide +kernel) ?_
    refine at_const (x := 1) dx_119_23 rfl ?_
    refine at_addC (z := 201) dx_119_24 (by decide +kernel) ?_
    refine at_aldI dx_119_25 lc_865 ln_865 (by decide) (by decide) (fun r25 => ?_)
    refine at_const (x := 0) dx_119_26 rfl ?_
    refine at_callVI dx_119_27 rfl lc_856 rfl (m_mapsThrough rf r25 (by decide) (RowOK_x hR G14) (by rw [G14 856 24 (by (try dsimp only [stE, FSx]); first | done | omega)]; exact hf) (by rw [f14 865 201 (by (try dsimp only [stE, FSx]); first | done | omega)]; omega) hL) ?_
    rintro x27 M27 r27 ⟨f27, q27⟩
    have G27 : frE FSx M M27 := fe_tr G14 (fe_le f27 (fun q j h => by (try dsimp only [stE, FSx] at h ⊢); first | done | omega))
    rw [G14 856 24 (by (try dsimp only [stE, FSx]); first | done | omega)] at q27
    refine at_istore dx_119_28 ?_
    refine at_aload dx_119_29 rfl ?_
    refine at_getR dx_119_30 lc_856 rfl lt_856_8 ?_
    refine at_const (x := 2) dx_119_31 rfl ?_
    refine at_iload dx_119_32 rfl ?_
    refine at_mulC (z := 200) dx_119_33 (by decide +kernel) ?_
    refine at_iload dx_119_34 rfl ?_
    have rr35 := q14
    refine at_astI dx_119_35 lc_865 ln_865 (by decide) (by decide) r14 ?_
    refine at_aload dx_119_36 rfl ?_
    refine at_getR dx_119_37 lc_856 rfl lt_856_8 ?_
    refine at_const (x := 2) dx_119_38 rfl ?_
    refine at_iload dx_119_39 rfl ?_
    refine at_mulC (z := 200) dx_119_40 (by decide +kernel) ?_
    refine at_const (x := 1) dx_119_41 rfl ?_
    refine at_addC (z := 201) dx_119_42 (by decide +kernel) ?_
    refine at_iload dx_119_43 rfl ?_
    refine at_astI dx_119_44 lc_865 ln_865 (by decide) (by decide) r27 ?_
    refine at_iload dx_119_45 rfl ?_
    refine at_iload dx_119_46 rfl ?_
    refine at_cleR dx_119_47 r27 r14 (fun c47 => ?_) (fun c47 => ?_)
    · skip
      refine at_const (x := 0) dx_119_50 rfl ?_
      refine at_zretI dx_119_51 (Or.inl rfl) ?_
      have h66 : ∀ j : Int, um (um M27 865 200 x14) 865 201 x27 866 j = M 866 j := fun j => by rw [um_k (by decide), um_k (by decide), f27 866 j (by (try dsimp only [stE, FSx]); first | done | omega), f14 866 j (by (try dsimp only [stE, FSx]); first | done | omega)]
      first
      | (refine ⟨fe_ums (fe_ums G27 (by (try dsimp only [stE, FSx]); first | done | omega)) (by (try dsimp only [stE, FSx]); first | done | omega), Or.inl rfl, fun e => absurd e (by omega), fun _ => ⟨h66 200, h66 201⟩, fun e => absurd e (by decide)⟩)
      | (refine ⟨fe_ums (fe_ums G27 (by (try dsimp only [stE, FSx]); first | done | omega)) (by (try dsimp only [stE, FSx]); first | done | omega), Or.inr rfl, fun e => absurd e (by omega), fun _ => ⟨h66 200, h66 201⟩, fun _ => Or.inl ⟨c4, ?_⟩⟩
         simp (disch := omega) only [um_eq, um_k, um_j]; omega)
    · skip
      refine at_const (x := 1) dx_119_48 rfl ?_
      refine at_goto dx_119_49 ?_
      refine at_zretI dx_119_51 (Or.inr rfl) ?_
      have h66 : ∀ j : Int, um (um M27 865 200 x14) 865 201 x27 866 j = M 866 j := fun j => by rw [um_k (by decide), um_k (by decide), f27 866 j (by (try dsimp only [stE, FSx]); first | done | omega), f14 866 j (by (try dsimp only [stE, FSx]); first | done | omega)]
      first
      | (refine ⟨fe_ums (fe_ums G27 (by (try dsimp only [stE, FSx]); first | done | omega)) (by (try dsimp only [stE, FSx]); first | done | omega), Or.inl rfl, fun e => absurd e (by omega), fun _ => ⟨h66 200, h66 201⟩, fun e => absurd e (by decide)⟩)
      | (refine ⟨fe_ums (fe_ums G27 (by (try dsimp only [stE, FSx]); first | done | omega)) (by (try dsimp only [stE, FSx]); first | done | omega), Or.inr rfl, fun e => absurd e (by omega), fun _ => ⟨h66 200, h66 201⟩, fun _ => Or.inl ⟨c4, ?_⟩⟩
         simp (disch := omega) only [um_eq, um_k, um_j]; omega)
