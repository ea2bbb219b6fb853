/-! ===== the reference: pasting, building, taking back ===== -/
set_option maxRecDepth 100000 in
set_option maxHeartbeats 4000000 in
theorem m_canPaste {X : scr} {M : mem} {c a f t y : Int} (rc : inR c) (ra : inR a) (rf : inR f) (rt : inR t) (ry : inR y) (hM : MI M) (hc : 0 ≤ c ∧ c ≤ 2) (ha : 0 ≤ a ∧ a ≤ M 860 c) (hft : 0 ≤ f ∧ t ≤ 60) (hy : 0 ≤ y ∧ y ≤ 5) : At X 0 138 0 [vr 856, vi c, vi a, vi f, vi t, vi y] [] M (qI (fun x M' => frE sqE M M' ∧ (x = 0 ∨ x = 1) ∧ (x = 1 → ready M' c))) := by
  have F : frE sqE M M := fe_rf
  have hS := hM.1 c hc.1 (by omega)
  have lp : ∀ (n9 : Nat) (k : Int) (M1 : mem) (rk : inR k) (hk : f ≤ k ∧ k ≤ t) (hn : (t - k).toNat = n9) (F : frE sqE M M1) (u1 : M1 861 100 = 0 ∧ M1 864 100 = 1 ∧ (M1 865 200 = a ∧ M1 865 201 = 0) ∧ (M1 866 200 = 0 ∧ M1 866 201 = 0) ∧ M1 867 201 = 0 ∧ M1 860 c = M 860 c) (u2 : 0 ≤ M1 867 200 ∧ M1 867 200 ≤ 1 + (k - f)), At X 0 138 18 [vr 856, vi c, vi a, vi f, vi t, vi y, vi k] [] M1 (qI (fun x M' => frE sqE M M' ∧ (x = 0 ∨ x = 1) ∧ (x = 1 → ready M' c))) := by
    intro n9
    induction n9 using Nat.strongRecOn with
    | ind n9 ih =>
    intro k M1 rk hk hn F u1 u2
    refine at_iload dx_138_18 rfl ?_
    refine at_iload dx_138_19 rfl ?_
    refine at_cgeR dx_138_20 rk rt (fun c20 => ?_) (fun c20 => ?_)
    · skip
      refine at_iload dx_138_35 rfl ?_
      refine at_zleR dx_138_36 ry (fun c36 => ?_) (fun c36 => ?_)
      · skip
        refine at_aload dx_138_42 rfl ?_
        refine at_iload dx_138_43 rfl ?_
        refine at_callVI dx_138_44 rfl lc_856 rfl (m_canEdit2 rc hc (MI_sq hM F) (okX100.mpr (by omega))) ?_
        rintro x44 M44 r44 ⟨f44, b44, w44⟩
        replace F : frE sqE M _ := fe_tr F (fe_le f44 (fun q j h => sq_C h))
        refine at_zretI dx_138_45 b44 ?_
        exact ⟨F, b44, w44⟩
      · skip
        refine at_aload dx_138_37 rfl ?_
        refine at_const (x := 100) dx_138_38 rfl ?_
        refine at_const (x := 0) dx_138_39 rfl ?_
        refine at_const (x := 0) dx_138_40 rfl ?_
        refine at_callVV dx_138_41 rfl lc_856 rfl (m_adds0 (by decide) (by omega)) ?_
        rintro M41 ⟨f41, q41, a41, b41⟩
        replace F : frE sqE M _ := fe_tr F (fe_le f41 (fun q j h => sq_T (by (try dsimp only [stE] at h); omega)))
        have z41 := f41 860 c (by (try dsimp only); omega)
        refine at_aload dx_138_42 rfl ?_
        refine at_iload dx_138_43 rfl ?_
        refine at_callVI dx_138_44 rfl lc_856 rfl (m_canEdit2 rc hc (MI_sq hM F) (okX100.mpr (by omega))) ?_
        rintro x44 M44 r44 ⟨f44, b44, w44⟩
        replace F : frE sqE M _ := fe_tr F (fe_le f44 (fun q j h => sq_C h))
        refine at_zretI dx_138_45 b44 ?_
        exact ⟨F, b44, w44⟩
    · skip
      refine at_aload dx_138_21 rfl ?_
      refine at_const (x := 100) dx_138_22 rfl ?_
      refine at_const (x := 0) dx_138_23 rfl ?_
      refine at_aload dx_138_24 rfl ?_
      refine at_getR dx_138_25 lc_856 rfl lt_856_17 ?_
      refine at_const (x := 60) dx_138_26 rfl ?_
      refine at_iload dx_138_27 rfl ?_
      refine at_mulR dx_138_28 (by constructor <;> omega) (fun r28 => ?_)
      refine at_iload dx_138_29 rfl ?_
      refine at_addR dx_138_30 (by constructor <;> omega) (fun r30 => ?_)
      refine at_aldI dx_138_31 lc_873 ln_873 (by first | omega | (simp (disch := omega) only [um_eq, um_k, um_j]; omega)) (by first | omega | (simp (disch := omega) only [um_eq, um_k, um_j]; omega)) (fun r31 => ?_)
      refine at_callVV dx_138_32 rfl lc_856 rfl (m_adds0 r31 (by omega)) ?_
      rintro M32 ⟨f32, q32, a32, b32⟩
      replace F : frE sqE M _ := fe_tr F (fe_le f32 (fun q j h => sq_T (by (try dsimp only [stE] at h); omega)))
      have z32 := f32 860 c (by (try dsimp only); omega)
      refine at_iincR (y := 1) dx_138_33 rfl rfl (by constructor <;> omega) (fun r33 => ?_)
      refine at_goto dx_138_34 ?_
      exact ih _ (by omega) _ _ r33 (by omega) rfl F (by omega) (by omega)
  refine at_iload dx_138_0 rfl ?_
  refine at_iload dx_138_1 rfl ?_
  refine at_cgtR dx_138_2 rt rf (fun c2 => ?_) (fun c2 => ?_)
  · skip
    refine at_aload dx_138_5 rfl ?_
    refine at_iload dx_138_6 rfl ?_
    refine at_const (x := 0) dx_138_7 rfl ?_
    refine at_callVV dx_138_8 rfl lc_856 rfl (m_tries ra (by decide)) ?_
    rintro M8 ⟨f8, t8a, t8b, t8c, t8d, t8e⟩
    replace F : frE sqE M _ := fe_tr F (fe_le f8 (fun q j h => sq_T (by (try dsimp only [stE] at h); omega)))
    have z8 := f8 860 c (by (try dsimp only); omega)
    refine at_iload dx_138_9 rfl ?_
    refine at_zleR dx_138_10 ry (fun c10 => ?_) (fun c10 => ?_)
    · skip
      refine at_iload dx_138_16 rfl ?_
      refine at_istore dx_138_17 ?_
      first | exact lp _ _ _ rf (by omega) rfl F (by omega) (by omega)
    · skip
      refine at_aload dx_138_11 rfl ?_
      refine at_const (x := 100) dx_138_12 rfl ?_
      refine at_const (x := 0) dx_138_13 rfl ?_
      refine at_iload dx_138_14 rfl ?_
      refine at_callVV dx_138_15 rfl lc_856 rfl (m_adds0 ry (by omega)) ?_
      rintro M15 ⟨f15, q15, a15, b15⟩
      replace F : frE sqE M _ := fe_tr F (fe_le f15 (fun q j h => sq_T (by (try dsimp only [stE] at h); omega)))
      have z15 := f15 860 c (by (try dsimp only); omega)
      refine at_iload dx_138_16 rfl ?_
      refine at_istore dx_138_17 ?_
      first | exact lp _ _ _ rf (by omega) rfl F (by omega) (by omega)
  · skip
    refine at_const (x := 0) dx_138_3 rfl ?_
    refine at_zretI dx_138_4 (Or.inl rfl) ?_
    exact ⟨F, Or.inl rfl, fun e => absurd e (by decide)⟩

set_option maxRecDepth 100000 in
set_option maxHeartbeats 4000000 in
theorem m_isNode {X : scr} {M : mem} {c f t : Int} (rc : inR c) (rf : inR f) (rt : inR t) (hc : 0 ≤ c ∧ c ≤ 2) (hft : 0 ≤ f ∧ t ≤ 60) : At X 0 139 0 [vr 856, vi c, vi f, vi t] [] M (qI (fun x M' => M' = M ∧ (x = 0 ∨ x = 1) ∧ (x = 1 → f < t))) := by
  have lp : ∀ (n9 : Nat) (d b k : Int) (rd : inR d) (rb : inR b) (rk : inR k) (hb : b = 0 ∨ (b = 1 ∧ f < t)) (hk : f ≤ k) (hn : (t - k).toNat = n9), At X 0 139 21 [vr 856, vi c, vi f, vi t, vi d, vi b, vi k] [] M (qI (fun x M' => M' = M ∧ (x = 0 ∨ x = 1) ∧ (x = 1 → f < t))) := by
    intro n9
    induction n9 using Nat.strongRecOn with
    | ind n9 ih =>
    intro d b k rd rb rk hb hk hn
    refine at_iload dx_139_21 rfl ?_
    refine at_iload dx_139_22 rfl ?_
    refine at_cgeR dx_139_23 rk rt (fun c23 => ?_) (fun c23 => ?_)
    · skip
      refine at_iload dx_139_61 rfl ?_
      refine at_zretI dx_139_62 (by omega) ?_
      exact ⟨rfl, by omega, fun e => by omega⟩
    · skip
      refine at_iload dx_139_24 rfl ?_
      refine at_zeqR dx_139_25 rb (fun c25 => ?_) (fun c25 => ?_)
      · skip
        refine at_iload dx_139_61 rfl ?_
        refine at_zretI dx_139_62 (by omega) ?_
        exact ⟨rfl, by omega, fun e => by omega⟩
      · skip
        refine at_aload dx_139_26 rfl ?_
        refine at_getR dx_139_27 lc_856 rfl lt_856_17 ?_
        refine at_const (x := 60) dx_139_28 rfl ?_
        refine at_iload dx_139_29 rfl ?_
        refine at_mulR dx_139_30 (by constructor <;> omega) (fun r30 => ?_)
        refine at_iload dx_139_31 rfl ?_
        refine at_addR dx_139_32 (by constructor <;> omega) (fun r32 => ?_)
        refine at_aldI dx_139_33 lc_873 ln_873 (by first | omega | (simp (disch := omega) only [um_eq, um_k, um_j]; omega)) (by first | omega | (simp (disch := omega) only [um_eq, um_k, um_j]; omega)) (fun r33 => ?_)
        refine at_istore dx_139_34 ?_
        refine at_iload dx_139_35 rfl ?_
        refine at_iload dx_139_36 rfl ?_
        refine at_zneR dx_139_37 r33 (fun c37 => ?_) (fun c37 => ?_)
        · skip
          refine at_iload dx_139_40 rfl ?_
          refine at_callSI dx_139_41 rfl rfl (m_opens r33) ?_
          rintro x41 M9 r41 ⟨e9, h41⟩; replace e9 := e9.symm; subst e9; replace h41 := ite01 h41
          refine at_zeqR dx_139_42 r41 (fun c42 => ?_) (fun c42 => ?_)
          · skip
            refine at_const (x := 0) dx_139_45 rfl ?_
            refine at_addW dx_139_46 ?_
            refine at_istore dx_139_47 ?_
            refine at_iload dx_139_48 rfl ?_
            refine at_zgtR dx_139_49 (inR_wr _) (fun c49 => ?_) (fun c49 => ?_)
            · skip
              refine at_const (x := 1) dx_139_55 rfl ?_
              refine at_goto dx_139_56 ?_
              refine at_istore dx_139_58 ?_
              refine at_iincR (y := 1) dx_139_59 rfl rfl (by constructor <;> omega) (fun r59 => ?_)
              refine at_goto dx_139_60 ?_
              refine at_wk (ls := [vr 856, vi _, vi _, vi _, vi _, vi _, vi _]) ⟨Or.inl rfl, Or.inl rfl, Or.inl rfl, Or.inl rfl, Or.inl rfl, Or.inl rfl, Or.inl rfl, trivial⟩ ?_
              exact ih _ (by omega) _ _ _ (inR_wr _) (by decide) r59 (by omega) (by omega) rfl
            · skip
              refine at_iload dx_139_50 rfl ?_
              refine at_iload dx_139_51 rfl ?_
              refine at_const (x := 1) dx_139_52 rfl ?_
              refine at_subR dx_139_53 (by constructor <;> omega) (fun r53 => ?_)
              refine at_cneR dx_139_54 rk r53 (fun c54 => ?_) (fun c54 => ?_)
              · skip
                refine at_const (x := 0) dx_139_57 rfl ?_
                refine at_istore dx_139_58 ?_
                refine at_iincR (y := 1) dx_139_59 rfl rfl (by constructor <;> omega) (fun r59 => ?_)
                refine at_goto dx_139_60 ?_
                refine at_wk (ls := [vr 856, vi _, vi _, vi _, vi _, vi _, vi _]) ⟨Or.inl rfl, Or.inl rfl, Or.inl rfl, Or.inl rfl, Or.inl rfl, Or.inl rfl, Or.inl rfl, trivial⟩ ?_
                exact ih _ (by omega) _ _ _ (inR_wr _) (by decide) r59 (by omega) (by omega) rfl
              · skip
                refine at_const (x := 1) dx_139_55 rfl ?_
                refine at_goto dx_139_56 ?_
                refine at_istore dx_139_58 ?_
                refine at_iincR (y := 1) dx_139_59 rfl rfl (by constructor <;> omega) (fun r59 => ?_)
                refine at_goto dx_139_60 ?_
                refine at_wk (ls := [vr 856, vi _, vi _, vi _, vi _, vi _, vi _]) ⟨Or.inl rfl, Or.inl rfl, Or.inl rfl, Or.inl rfl, Or.inl rfl, Or.inl rfl, Or.inl rfl, trivial⟩ ?_
                exact ih _ (by omega) _ _ _ (inR_wr _) (by decide) r59 (by omega) (by omega) rfl
          · skip
            refine at_const (x := 1) dx_139_43 rfl ?_
            refine at_goto dx_139_44 ?_
            refine at_addW dx_139_46 ?_
            refine at_istore dx_139_47 ?_
            refine at_iload dx_139_48 rfl ?_
            refine at_zgtR dx_139_49 (inR_wr _) (fun c49 => ?_) (fun c49 => ?_)
            · skip
              refine at_const (x := 1) dx_139_55 rfl ?_
              refine at_goto dx_139_56 ?_
              refine at_istore dx_139_58 ?_
              refine at_iincR (y := 1) dx_139_59 rfl rfl (by constructor <;> omega) (fun r59 => ?_)
              refine at_goto dx_139_60 ?_
              refine at_wk (ls := [vr 856, vi _, vi _, vi _, vi _, vi _, vi _]) ⟨Or.inl rfl, Or.inl rfl, Or.inl rfl, Or.inl rfl, Or.inl rfl, Or.inl rfl, Or.inl rfl, trivial⟩ ?_
              exact ih _ (by omega) _ _ _ (inR_wr _) (by decide) r59 (by omega) (by omega) rfl
            · skip
              refine at_iload dx_139_50 rfl ?_
              refine at_iload dx_139_51 rfl ?_
              refine at_const (x := 1) dx_139_52 rfl ?_
              refine at_subR dx_139_53 (by constructor <;> omega) (fun r53 => ?_)
              refine at_cneR dx_139_54 rk r53 (fun c54 => ?_) (fun c54 => ?_)
              · skip
                refine at_const (x := 0) dx_139_57 rfl ?_
                refine at_istore dx_139_58 ?_
                refine at_iincR (y := 1) dx_139_59 rfl rfl (by constructor <;> omega) (fun r59 => ?_)
                refine at_goto dx_139_60 ?_
                refine at_wk (ls := [vr 856, vi _, vi _, vi _, vi _, vi _, vi _]) ⟨Or.inl rfl, Or.inl rfl, Or.inl rfl, Or.inl rfl, Or.inl rfl, Or.inl rfl, Or.inl rfl, trivial⟩ ?_
                exact ih _ (by omega) _ _ _ (inR_wr _) (by decide) r59 (by omega) (by omega) rfl
              · skip
                refine at_const (x := 1) dx_139_55 rfl ?_
                refine at_goto dx_139_56 ?_
                refine at_istore dx_139_58 ?_
                refine at_iincR (y := 1) dx_139_59 rfl rfl (by constructor <;> omega) (fun r59 => ?_)
                refine at_goto dx_139_60 ?_
                refine at_wk (ls := [vr 856, vi _, vi _, vi _, vi _, vi _, vi _]) ⟨Or.inl rfl, Or.inl rfl, Or.inl rfl, Or.inl rfl, Or.inl rfl, Or.inl rfl, Or.inl rfl, trivial⟩ ?_
                exact ih _ (by omega) _ _ _ (inR_wr _) (by decide) r59 (by omega) (by omega) rfl
        · skip
          refine at_const (x := -1) dx_139_38 rfl ?_
          refine at_goto dx_139_39 ?_
          refine at_addW dx_139_46 ?_
          refine at_istore dx_139_47 ?_
          refine at_iload dx_139_48 rfl ?_
          refine at_zgtR dx_139_49 (inR_wr _) (fun c49 => ?_) (fun c49 => ?_)
          · skip
            refine at_const (x := 1) dx_139_55 rfl ?_
            refine at_goto dx_139_56 ?_
            refine at_istore dx_139_58 ?_
            refine at_iincR (y := 1) dx_139_59 rfl rfl (by constructor <;> omega) (fun r59 => ?_)
            refine at_goto dx_139_60 ?_
            refine at_wk (ls := [vr 856, vi _, vi _, vi _, vi _, vi _, vi _]) ⟨Or.inl rfl, Or.inl rfl, Or.inl rfl, Or.inl rfl, Or.inl rfl, Or.inl rfl, Or.inl rfl, trivial⟩ ?_
            exact ih _ (by omega) _ _ _ (inR_wr _) (by decide) r59 (by omega) (by omega) rfl
          · skip
            refine at_iload dx_139_50 rfl ?_
            refine at_iload dx_139_51 rfl ?_
            refine at_const (x := 1) dx_139_52 rfl ?_
            refine at_subR dx_139_53 (by constructor <;> omega) (fun r53 => ?_)
            refine at_cneR dx_139_54 rk r53 (fun c54 => ?_) (fun c54 => ?_)
            · skip
              refine at_const (x := 0) dx_139_57 rfl ?_
              refine at_istore dx_139_58 ?_
              refine at_iincR (y := 1) dx_139_59 rfl rfl (by constructor <;> omega) (fun r59 => ?_)
              refine at_goto dx_139_60 ?_
              refine at_wk (ls := [vr 856, vi _, vi _, vi _, vi _, vi _, vi _]) ⟨Or.inl rfl, Or.inl rfl, Or.inl rfl, Or.inl rfl, Or.inl rfl, Or.inl rfl, Or.inl rfl, trivial⟩ ?_
              exact ih _ (by omega) _ _ _ (inR_wr _) (by decide) r59 (by omega) (by omega) rfl
            · skip
              refine at_const (x := 1) dx_139_55 rfl ?_
              refine at_goto dx_139_56 ?_
              refine at_istore dx_139_58 ?_
              refine at_iincR (y := 1) dx_139_59 rfl rfl (by constructor <;> omega) (fun r59 => ?_)
              refine at_goto dx_139_60 ?_
              refine at_wk (ls := [vr 856, vi _, vi _, vi _, vi _, vi _, vi _]) ⟨Or.inl rfl, Or.inl rfl, Or.inl rfl, Or.inl rfl, Or.inl rfl, Or.inl rfl, Or.inl rfl, trivial⟩ ?_
              exact ih _ (by omega) _ _ _ (inR_wr _) (by decide) r59 (by omega) (by omega) rfl
  refine at_const (x := 0) dx_139_0 rfl ?_
  refine at_istore dx_139_1 ?_
  refine at_iload dx_139_2 rfl ?_
  refine at_iload dx_139_3 rfl ?_
  refine at_cleR dx_139_4 rt rf (fun c4 => ?_) (fun c4 => ?_)
  · skip
    refine at_const (x := 0) dx_139_17 rfl ?_
    refine at_istore dx_139_18 ?_
    refine at_iload dx_139_19 rfl ?_
    refine at_istore dx_139_20 ?_
    exact lp _ 0 _ _ (by decide) (by decide) rf (by omega) (by omega) rfl
  · skip
    refine at_aload dx_139_5 rfl ?_
    refine at_getR dx_139_6 lc_856 rfl lt_856_17 ?_
    refine at_const (x := 60) dx_139_7 rfl ?_
    refine at_iload dx_139_8 rfl ?_
    refine at_mulR dx_139_9 (by constructor <;> omega) (fun r9 => ?_)
    refine at_iload dx_139_10 rfl ?_
    refine at_addR dx_139_11 (by constructor <;> omega) (fun r11 => ?_)
    refine at_aldI dx_139_12 lc_873 ln_873 (by first | omega | (simp (disch := omega) only [um_eq, um_k, um_j]; omega)) (by first | omega | (simp (disch := omega) only [um_eq, um_k, um_j]; omega)) (fun r12 => ?_)
    refine at_callSI dx_139_13 rfl rfl (m_opens r12) ?_
    rintro x13 M9 r13 ⟨e9, h13⟩; replace e9 := e9.symm; subst e9; replace h13 := ite01 h13
    refine at_zeqR dx_139_14 r13 (fun c14 => ?_) (fun c14 => ?_)
    · skip
      refine at_const (x := 0) dx_139_17 rfl ?_
      refine at_istore dx_139_18 ?_
      refine at_iload dx_139_19 rfl ?_
      refine at_istore dx_139_20 ?_
      exact lp _ 0 _ _ (by decide) (by decide) rf (by omega) (by omega) rfl
    · skip
      refine at_const (x := 1) dx_139_15 rfl ?_
      refine at_goto dx_139_16 ?_
      refine at_istore dx_139_18 ?_
      refine at_iload dx_139_19 rfl ?_
      refine at_istore dx_139_20 ?_
      exact lp _ 0 _ _ (by decide) (by decide) rf (by omega) (by omega) rfl

set_option maxRecDepth 100000 in
set_option maxHeartbeats 4000000 in
theorem m_pastes {X : scr} {M : mem} {c a : Int} (rc : inR c) (ra : inR a) (hM : MI M) (hc : 0 ≤ c ∧ c ≤ 2) (ha : 0 ≤ a ∧ a ≤ M 860 c) : At X 0 140 0 [vr 856, vi c, vi a] [] M (qI (fun x M' => frE sqE M M' ∧ (x = 0 ∨ x = 1) ∧ (x = 1 → ready M' c))) := by
  have F : frE sqE M M := fe_rf
  have hmc := hM.2.2.2.2 c hc.1 hc.2
  unfold MC at hmc
  have g74 : ∀ (Mx : mem), frE sqE M Mx → Mx 874 c = M 874 c := fun Mx h => h 874 c (by (try dsimp only [sqE]); omega)
  have l2 : ∀ (n9 : Nat) (f t z y : Int) (M1 : mem) (rf : inR f) (rt : inR t) (rz : inR z) (ry : inR y) (hz : z = 0 ∨ z = 1) (hy : 1 ≤ y ∧ y ≤ 6) (hn : (6 - y).toNat = n9) (F : frE sqE M M1) (hw : z = 1 → ready M1 c), At X 0 140 36 [vr 856, vi c, vi a, vi f, vi t, vi z, vi y] [] M1 (qI (fun x M' => frE sqE M M' ∧ (x = 0 ∨ x = 1) ∧ (x = 1 → ready M' c))) := by
    intro n9
    induction n9 using Nat.strongRecOn with
    | ind n9 ih =>
    intro f t z y M1 rf rt rz ry hz hy hn F hw
    have g := g74 M1 F
    refine at_iload dx_140_36 rfl ?_
    refine at_const (x := 6) dx_140_37 rfl ?_
    refine at_cgeR dx_140_38 ry (by decide) (fun c38 => ?_) (fun c38 => ?_)
    · skip
      refine at_iload dx_140_54 rfl ?_
      refine at_zretI dx_140_55 hz ?_
      exact ⟨F, hz, hw⟩
    · skip
      refine at_iload dx_140_39 rfl ?_
      refine at_zneR dx_140_40 rz (fun c40 => ?_) (fun c40 => ?_)
      · skip
        refine at_iload dx_140_54 rfl ?_
        refine at_zretI dx_140_55 hz ?_
        exact ⟨F, hz, hw⟩
      · skip
        skip
        refine at_aload dx_140_41 rfl ?_
        refine at_iload dx_140_42 rfl ?_
        refine at_iload dx_140_43 rfl ?_
        refine at_const (x := 0) dx_140_44 rfl ?_
        refine at_aload dx_140_45 rfl ?_
        refine at_getR dx_140_46 lc_856 rfl lt_856_18 ?_
        refine at_iload dx_140_47 rfl ?_
        refine at_aldI dx_140_48 lc_874 ln_874 (by first | omega | (simp (disch := omega) only [um_eq, um_k, um_j]; omega)) (by first | omega | (simp (disch := omega) only [um_eq, um_k, um_j]; omega)) (fun r48 => ?_)
        refine at_iload dx_140_49 rfl ?_
        refine at_callVI dx_140_50 rfl lc_856 rfl (m_canPaste rc ra (by decide) r48 ry (MI_sq hM F) hc (by rw [F 860 c (by (try dsimp only [sqE]); omega)]; exact ha) (by omega) (by omega)) ?_
        rintro x50 M50 r50 ⟨f50, b50, w50⟩
        replace F : frE sqE M _ := fe_tr F f50
        refine at_istore dx_140_51 ?_
        refine at_iincR (y := 1) dx_140_52 rfl rfl (by constructor <;> omega) (fun r52 => ?_)
        refine at_goto dx_140_53 ?_
        exact ih _ (by omega) _ _ _ _ _ rf rt r50 r52 b50 (by omega) rfl F w50
  have l1 : ∀ (n9 : Nat) (f t z : Int) (M1 : mem) (rf : inR f) (rt : inR t) (rz : inR z) (hz : z = 0 ∨ z = 1) (hft : 0 ≤ f ∧ t ≤ 60) (hn : (t - f).toNat = n9) (F : frE sqE M M1) (hw : z = 1 → ready M1 c), At X 0 140 15 [vr 856, vi c, vi a, vi f, vi t, vi z] [] M1 (qI (fun x M' => frE sqE M M' ∧ (x = 0 ∨ x = 1) ∧ (x = 1 → ready M' c))) := by
    intro n9
    induction n9 using Nat.strongRecOn with
    | ind n9 ih =>
    intro f t z M1 rf rt rz hz hft hn F hw
    refine at_iload dx_140_15 rfl ?_
    refine at_zneR dx_140_16 rz (fun c16 => ?_) (fun c16 => ?_)
    · skip
      refine at_const (x := 1) dx_140_34 rfl ?_
      refine at_istore dx_140_35 ?_
      exact l2 _ _ _ _ 1 _ rf rt rz (by decide) hz (by decide) rfl F hw
    · skip
      refine at_aload dx_140_17 rfl ?_
      refine at_iload dx_140_18 rfl ?_
      refine at_iload dx_140_19 rfl ?_
      refine at_iload dx_140_20 rfl ?_
      refine at_callVI dx_140_21 rfl lc_856 rfl (m_isNode rc rf rt hc hft) ?_
      rintro x21 M9 r21 ⟨e9, b21, w21⟩; replace e9 := e9.symm; subst e9
      refine at_zeqR dx_140_22 r21 (fun c22 => ?_) (fun c22 => ?_)
      · skip
        refine at_const (x := 1) dx_140_34 rfl ?_
        refine at_istore dx_140_35 ?_
        exact l2 _ _ _ _ 1 _ rf rt rz (by decide) hz (by decide) rfl F hw
      · skip
        have hlt := w21 (by omega)
        refine at_iincR (y := 1) dx_140_23 rfl rfl (by constructor <;> omega) (fun r23 => ?_)
        refine at_iincR (y := -1) dx_140_24 rfl rfl (by constructor <;> omega) (fun r24 => ?_)
        refine at_aload dx_140_25 rfl ?_
        refine at_iload dx_140_26 rfl ?_
        refine at_iload dx_140_27 rfl ?_
        refine at_iload dx_140_28 rfl ?_
        refine at_iload dx_140_29 rfl ?_
        refine at_const (x := 0) dx_140_30 rfl ?_
        refine at_callVI dx_140_31 rfl lc_856 rfl (m_canPaste rc ra r23 r24 (by decide) (MI_sq hM F) hc (by rw [F 860 c (by (try dsimp only [sqE]); omega)]; exact ha) (by omega) (by omega)) ?_
        rintro x31 M31 r31 ⟨f31, b31, w31⟩
        replace F : frE sqE M _ := fe_tr F f31
        refine at_istore dx_140_32 ?_
        refine at_goto dx_140_33 ?_
        exact ih _ (by omega) _ _ _ _ r23 r24 r31 b31 (by omega) rfl F w31
  refine at_const (x := 0) dx_140_0 rfl ?_
  refine at_istore dx_140_1 ?_
  refine at_aload dx_140_2 rfl ?_
  refine at_getR dx_140_3 lc_856 rfl lt_856_18 ?_
  refine at_iload dx_140_4 rfl ?_
  refine at_aldI dx_140_5 lc_874 ln_874 (by first | omega | (simp (disch := omega) only [um_eq, um_k, um_j]; omega)) (by first | omega | (simp (disch := omega) only [um_eq, um_k, um_j]; omega)) (fun r5 => ?_)
  refine at_istore dx_140_6 ?_
  refine at_aload dx_140_7 rfl ?_
  refine at_iload dx_140_8 rfl ?_
  refine at_iload dx_140_9 rfl ?_
  refine at_iload dx_140_10 rfl ?_
  refine at_iload dx_140_11 rfl ?_
  refine at_const (x := 0) dx_140_12 rfl ?_
  refine at_callVI dx_140_13 rfl lc_856 rfl (m_canPaste rc ra (by decide) r5 (by decide) (MI_sq hM F) hc (by rw [F 860 c (by (try dsimp only [sqE]); omega)]; exact ha) (by omega) (by omega)) ?_
  rintro x13 M13 r13 ⟨f13, b13, w13⟩
  replace F : frE sqE M _ := fe_tr F f13
  refine at_istore dx_140_14 ?_
  exact l1 _ 0 _ _ _ (by decide) r5 r13 b13 (by omega) rfl F w13

set_option maxRecDepth 100000 in
set_option maxHeartbeats 4000000 in
theorem r_paste {X : scr} {M : mem} {c p : Int} (rc : inR c) (rp : inR p) (hM : MI M) : At X 0 141 0 [vr 856, vi c, vi p] [] M (qI (fun x M' => MI M' ∧ fr hi M M')) := by
  have F : frE sqE M M := fe_rf
  have hS := fun h1 h2 => hM.1 c h1 h2
  refine at_iload dx_141_0 rfl ?_
  refine at_callSI dx_141_1 rfl rfl (m_isClient rc) ?_
  rintro x1 M9 r1 ⟨e9, h1⟩; replace e9 := e9.symm; subst e9; replace h1 := ite01 h1
  refine at_zeqR dx_141_2 r1 (fun c2 => ?_) (fun c2 => ?_)
  · skip
    refine at_const (x := 0) dx_141_10 rfl ?_
    refine at_istore dx_141_11 ?_
    refine at_aload dx_141_12 rfl ?_
    refine at_iload dx_141_13 rfl ?_
    refine at_zneR dx_141_14 (by decide) (fun c => absurd c (by decide)) (fun _ => ?_)
    refine at_const (x := 1) dx_141_15 rfl ?_
    refine at_goto dx_141_16 ?_
    refine at_callVI dx_141_30 rfl lc_856 rfl (m_fails2 (by decide)) ?_
    rintro x30 M30 r30 ⟨f30, h30⟩; replace h30 := ite01 h30
    replace F : frE sqE M _ := fe_tr F (fe_le f30 (fun q j h => Or.inl ⟨h.1, by rw [h.2]; decide, by rw [h.2]; decide⟩))
    obtain rfl : x30 = 1 := by omega
    refine at_zeqR dx_141_31 (by decide) (fun c => absurd c (by decide)) (fun _ => ?_)
    refine at_const (x := 0) dx_141_32 rfl ?_
    refine at_iretI dx_141_33 (by decide) ?_
    first | exact ⟨k1, k2⟩ | exact ⟨MI_sq hM F, fe_fr F (fun q j h => sq_hi h)⟩
  · skip
    refine at_aload dx_141_3 rfl ?_
    refine at_iload dx_141_4 rfl ?_
    refine at_iload dx_141_5 rfl ?_
    refine at_callVI dx_141_6 rfl lc_856 rfl (m_isPlace rc rp) ?_
    rintro x6 M9 r6 ⟨e9, h6⟩; replace e9 := e9.symm; subst e9; replace h6 := ite01 h6
    refine at_zeqR dx_141_7 r6 (fun c7 => ?_) (fun c7 => ?_)
    · skip
      refine at_const (x := 0) dx_141_10 rfl ?_
      refine at_istore dx_141_11 ?_
      refine at_aload dx_141_12 rfl ?_
      refine at_iload dx_141_13 rfl ?_
      refine at_zneR dx_141_14 (by decide) (fun c => absurd c (by decide)) (fun _ => ?_)
      refine at_const (x := 1) dx_141_15 rfl ?_
      refine at_goto dx_141_16 ?_
      refine at_callVI dx_141_30 rfl lc_856 rfl (m_fails2 (by decide)) ?_
      rintro x30 M30 r30 ⟨f30, h30⟩; replace h30 := ite01 h30
      replace F : frE sqE M _ := fe_tr F (fe_le f30 (fun q j h => Or.inl ⟨h.1, by rw [h.2]; decide, by rw [h.2]; decide⟩))
      obtain rfl : x30 = 1 := by omega
      refine at_zeqR dx_141_31 (by decide) (fun c => absurd c (by decide)) (fun _ => ?_)
      refine at_const (x := 0) dx_141_32 rfl ?_
      refine at_iretI dx_141_33 (by decide) ?_
      first | exact ⟨k1, k2⟩ | exact ⟨MI_sq hM F, fe_fr F (fun q j h => sq_hi h)⟩
    · skip
      refine at_const (x := 1) dx_141_8 rfl ?_
      refine at_goto dx_141_9 ?_
      refine at_istore dx_141_11 ?_
      refine at_aload dx_141_12 rfl ?_
      refine at_iload dx_141_13 rfl ?_
      refine at_zneR dx_141_14 (by decide) (fun _ => ?_) (fun c => absurd c (by decide))
      refine at_aload dx_141_17 rfl ?_
      refine at_getR dx_141_18 lc_856 rfl lt_856_18 ?_
      refine at_iload dx_141_19 rfl ?_
      refine at_aldI dx_141_20 lc_874 ln_874 (by first | omega | (simp (disch := omega) only [um_eq, um_k, um_j]; omega)) (by first | omega | (simp (disch := omega) only [um_eq, um_k, um_j]; omega)) (fun r20 => ?_)
      refine at_zleR dx_141_21 r20 (fun c21 => ?_) (fun c21 => ?_)
      · skip
        refine at_const (x := 2) dx_141_29 rfl ?_
        refine at_callVI dx_141_30 rfl lc_856 rfl (m_fails2 (by decide)) ?_
        rintro x30 M30 r30 ⟨f30, h30⟩; replace h30 := ite01 h30
        replace F : frE sqE M _ := fe_tr F (fe_le f30 (fun q j h => Or.inl ⟨h.1, by rw [h.2]; decide, by rw [h.2]; decide⟩))
        obtain rfl : x30 = 1 := by omega
        refine at_zeqR dx_141_31 (by decide) (fun c => absurd c (by decide)) (fun _ => ?_)
        refine at_const (x := 0) dx_141_32 rfl ?_
        refine at_iretI dx_141_33 (by decide) ?_
        first | exact ⟨k1, k2⟩ | exact ⟨MI_sq hM F, fe_fr F (fun q j h => sq_hi h)⟩
      · skip
        refine at_aload dx_141_22 rfl ?_
        refine at_iload dx_141_23 rfl ?_
        refine at_iload dx_141_24 rfl ?_
        refine at_callVI dx_141_25 rfl lc_856 rfl (m_pastes rc rp hM (by omega) (by omega)) ?_
        rintro x25 M25 r25 ⟨f25, b25, hrd⟩
        replace F : frE sqE M _ := f25
        refine at_zeqR dx_141_26 r25 (fun c26 => ?_) (fun c26 => ?_)
        · skip
          refine at_const (x := 2) dx_141_29 rfl ?_
          refine at_callVI dx_141_30 rfl lc_856 rfl (m_fails2 (by decide)) ?_
          rintro x30 M30 r30 ⟨f30, h30⟩; replace h30 := ite01 h30
          replace F : frE sqE M _ := fe_tr F (fe_le f30 (fun q j h => Or.inl ⟨h.1, by rw [h.2]; decide, by rw [h.2]; decide⟩))
          obtain rfl : x30 = 1 := by omega
          refine at_zeqR dx_141_31 (by decide) (fun c => absurd c (by decide)) (fun _ => ?_)
          refine at_const (x := 0) dx_141_32 rfl ?_
          refine at_iretI dx_141_33 (by decide) ?_
          first | exact ⟨k1, k2⟩ | exact ⟨MI_sq hM F, fe_fr F (fun q j h => sq_hi h)⟩
        · skip
          refine at_const (x := 0) dx_141_27 rfl ?_
          refine at_goto dx_141_28 ?_
          refine at_callVI dx_141_30 rfl lc_856 rfl (m_fails2 (by decide)) ?_
          rintro x30 M30 r30 ⟨f30, h30⟩; replace h30 := ite01 h30
          replace F : frE sqE M _ := fe_tr F (fe_le f30 (fun q j h => Or.inl ⟨h.1, by rw [h.2]; decide, by rw [h.2]; decide⟩))
          obtain rfl : x30 = 0 := by omega
          refine at_zeqR dx_141_31 (by decide) (fun _ => ?_) (fun c => absurd c (by decide))
          refine at_aload dx_141_34 rfl ?_
          refine at_iload dx_141_35 rfl ?_
          refine at_callVV dx_141_36 rfl lc_856 rfl (m_edits2 rc (by omega) (MI_sq hM F) (ready_fe (hrd (by omega)) (by omega) (by rw [f25 860 c (by (try dsimp only [sqE]); omega)]; have := hM.1 c (by omega) (by omega); omega) f30 (fun q j h => Or.inl ⟨h.1, by rw [h.2]; decide⟩))) ?_
          rintro M36 ⟨k1, k2⟩
          replace k2 := fr_tr (fe_fr F (fun q j h => sq_hi h)) k2
          refine at_aload dx_141_37 rfl ?_
          refine at_getR dx_141_38 lc_856 rfl lt_856_10 ?_
          refine at_const (x := 200) dx_141_39 rfl ?_
          refine at_aldI dx_141_40 lc_867 ln_867 (by decide) (by decide) (fun r40 => ?_)
          refine at_iretI dx_141_41 r40 ?_
          first | exact ⟨k1, k2⟩ | exact ⟨MI_sq hM F, fe_fr F (fun q j h => sq_hi h)⟩

set_option maxRecDepth 100000 in
set_option maxHeartbeats 4000000 in
theorem m_builds {X : scr} {M : mem} {n : Int} (rn : inR n) {b : List Int} (hn0 : 0 ≤ n ∧ n ≤ 60) (hb : RunW (lgW M n) [1, 0] b) : At X 0 142 0 [vr 856, vi n] [] M (qV (fun M' => frE (fun q j => q = 877 ∨ (q = 856 ∧ j = 23) ∨ q = 868) M M' ∧ (0 ≤ M' 856 23 ∧ M' 856 23 ≤ 60) ∧ wk M' = b)) := by
  have lp : ∀ (n9 : Nat) (k : Int) (M1 : mem) (rk : inR k) (hk : 0 ≤ k ∧ k ≤ n) (hn : (n - k).toNat = n9) (F : frE (fun q j => q = 877 ∨ (q = 856 ∧ j = 23) ∨ q = 868) M M1) (hl : 0 ≤ M1 856 23 ∧ M1 856 23 ≤ 60) (w : RunW (lgW M k) [1, 0] (wk M1)), At X 0 142 4 [vr 856, vi n, vi k] [] M1 (qV (fun M' => frE (fun q j => q = 877 ∨ (q = 856 ∧ j = 23) ∨ q = 868) M M' ∧ (0 ≤ M' 856 23 ∧ M' 856 23 ≤ 60) ∧ wk M' = b)) := by
    intro n9
    induction n9 using Nat.strongRecOn with
    | ind n9 ih =>
    intro k M1 rk hk hn F hl w
    have nx := fun (h : k < n) => RunW_next (f := fun i : Int => mv M i) hk.1 h hb w
    have el : ((wk M1).length : Int) = M1 856 23 := by rw [wk_len]; omega
    have em : k < 100 → mv M1 k = mv M k := fun h => mv_fe F (fun q j e h8 hq => by (try dsimp only [stE] at e hq); omega)
    refine at_iload dx_142_4 rfl ?_
    refine at_iload dx_142_5 rfl ?_
    refine at_cgeR dx_142_6 rk rn (fun c6 => ?_) (fun c6 => ?_)
    · skip
      refine at_vretV dx_142_12 ?_
      have hkn : k = n := by omega
      subst hkn
      exact ⟨F, hl, RunW_det _ _ _ _ w hb⟩
    · skip
      refine at_aload dx_142_7 rfl ?_
      refine at_iload dx_142_8 rfl ?_
      refine at_callVV dx_142_9 rfl lc_856 rfl (m_does rk (by omega) hl (by rw [em (by omega), ← el]; exact (nx (by omega)).1)) ?_
      rintro M9 ⟨F9, l9, w9⟩
      have f9 : frE (fun q j => q = 877 ∨ (q = 856 ∧ j = 23) ∨ q = 868) M1 M9 := fe_le F9 (fun q j h => by (try dsimp only at h ⊢); omega)
      refine at_iincR (y := 1) dx_142_10 rfl rfl (by constructor <;> omega) (fun r10 => ?_)
      refine at_goto dx_142_11 ?_
      obtain ⟨n1, n2, n3⟩ := nx (by omega)
      exact ih _ (by omega) (k + 1) _ r10 (by omega) rfl (fe_tr F f9) l9 (by rw [w9, em (by omega)]; exact n3)
  refine at_aload dx_142_0 rfl ?_
  refine at_callVV dx_142_1 rfl lc_856 rfl (m_begins) ?_
  rintro M1 ⟨F1, l1, w1⟩
  have f1 : frE (fun q j => q = 877 ∨ (q = 856 ∧ j = 23) ∨ q = 868) M M1 := fe_le F1 (fun q j h => by (try dsimp only at h ⊢); omega)
  refine at_const (x := 0) dx_142_2 rfl ?_
  refine at_istore dx_142_3 ?_
  exact lp _ 0 _ (by decide) (by omega) rfl f1 (by omega) (by rw [w1]; rfl)
