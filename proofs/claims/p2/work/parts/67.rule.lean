/-! ===== the reference's rule ===== -/
noncomputable def NoPm (M : mem) : Prop := ∀ y : Int, 0 ≤ y → y < 3 → M 871 y = 0
noncomputable def CanM (M : mem) (t e a b : Int) : Prop := M 856 13 = 0 ∧ NoPm M ∧ acc (updI (M 857) (3 * t + e) a) (updI (M 858) (3 * t + e) b) [1, 0]
abbrev w2E (q : Nat) (j : Int) : Prop := wE q j ∨ q = 857 ∨ q = 858
theorem w2_sq {q : Nat} {j : Int} (h : w2E q j) : sqE q j := by
  rcases h with h | h
  · exact wE_sq h
  · exact Or.inr (Or.inl h)
theorem fe_um31 {M M1 : mem} {n : Int} (e : M1 = um M 856 31 n) : frE (fun q j => q = 856 ∧ j = 31) M M1 := by rw [e]; exact fe_um ⟨rfl, rfl⟩
theorem fe_um78 {M M1 : mem} {i a b : Int} (e : M1 = um (um M 857 i a) 858 i b) : frE (fun q _ => q = 857 ∨ q = 858) M M1 := by rw [e]; exact fe_ums (fe_um (Or.inl rfl)) (Or.inr rfl)
theorem NoPm_of {M : mem} (h0 : M 871 0 = 0) (h1 : M 871 1 = 0) (h2 : M 871 2 = 0) : NoPm M := fun y a b => by
  rcases (show y = 0 ∨ y = 1 ∨ y = 2 by omega) with rfl | rfl | rfl
  · exact h0
  · exact h1
  · exact h2
theorem NoPm_no {M : mem} (h : NoPm M) : M 871 0 = 0 ∧ M 871 1 = 0 ∧ M 871 2 = 0 := ⟨h 0 (by decide) (by decide), h 1 (by decide) (by decide), h 2 (by decide) (by decide)⟩
set_option maxRecDepth 100000 in
set_option maxHeartbeats 4000000 in
theorem y_rule {X : scr} {M : mem} {t e a b : Int} (rt : inR t) (re : inR e) (ra : inR a) (rb : inR b) (hM : MI M) (hG : GR (M 857) (M 858)) : At X 0 103 0 [vr 856, vi t, vi e, vi a, vi b] [] M (qV (fun M' => MI M' ∧ frE w2E M M' ∧ ((M' 856 31 = 1 ∧ ¬ RTy t ∧ M' 857 = M 857 ∧ M' 858 = M 858) ∨ (M' 856 31 = 2 ∧ RTy t ∧ ¬ RAr e a b ∧ M' 857 = M 857 ∧ M' 858 = M 858) ∨ (M' 856 31 = 3 ∧ RTy t ∧ RAr e a b ∧ ¬ CanM M t e a b ∧ M' 857 = M 857 ∧ M' 858 = M 858) ∨ (M' 856 31 = 0 ∧ RTy t ∧ RAr e a b ∧ CanM M t e a b ∧ M' 857 = updI (M 857) (3 * t + e) a ∧ M' 858 = updI (M 858) (3 * t + e) b)))) := by
  have F : frE w2E M M := fe_rf
  have s7 : M 857 = M 857 := rfl
  have s8 : M 858 = M 858 := rfl
  have k0 := hM.2.2.2.2 0 (by decide) (by decide)
  have k1 := hM.2.2.2.2 1 (by decide) (by decide)
  have k2 := hM.2.2.2.2 2 (by decide) (by decide)
  unfold MC at k0 k1 k2
  refine at_iload dx_103_0 rfl ?_
  refine at_const (x := 0) dx_103_1 rfl ?_
  refine at_const (x := 5) dx_103_2 rfl ?_
  refine at_callSI dx_103_3 rfl rfl (m_isIn rt (by decide) (by decide)) ?_
  rintro x3 M9 r3 ⟨e9, h3⟩; replace e9 := e9.symm; subst e9; replace h3 := ite01 h3
  refine at_istore dx_103_4 ?_
  refine at_iload dx_103_5 rfl ?_
  refine at_const (x := 0) dx_103_6 rfl ?_
  refine at_const (x := 2) dx_103_7 rfl ?_
  refine at_callSI dx_103_8 rfl rfl (m_isIn re (by decide) (by decide)) ?_
  rintro x8 M9 r8 ⟨e9, h8⟩; replace e9 := e9.symm; subst e9; replace h8 := ite01 h8
  refine at_zeqR dx_103_9 r8 (fun c9 => ?_) (fun c9 => ?_)
  · skip
    refine at_const (x := 0) dx_103_26 rfl ?_
    refine at_istore dx_103_27 ?_
    refine at_iload dx_103_28 rfl ?_
    refine at_zeqR dx_103_29 r3 (fun c29 => ?_) (fun c29 => ?_)
    · skip
      refine at_const (x := 0) dx_103_38 rfl ?_
      refine at_istore dx_103_39 ?_
      refine at_aload dx_103_40 rfl ?_
      refine at_getR dx_103_41 lc_856 rfl lt_856_0 ?_
      refine at_iload dx_103_42 rfl ?_
      refine at_aldI dx_103_43 lc_857 ln_857 (by omega) (by omega) (fun r43 => ?_)
      refine at_istore dx_103_44 ?_
      refine at_aload dx_103_45 rfl ?_
      refine at_getR dx_103_46 lc_856 rfl lt_856_1 ?_
      refine at_iload dx_103_47 rfl ?_
      refine at_aldI dx_103_48 lc_858 ln_858 (by omega) (by omega) (fun r48 => ?_)
      refine at_istore dx_103_49 ?_
      refine at_aload dx_103_50 rfl ?_
      refine at_getI 13 dx_103_51 lc_856 rfl rfl (fun r51 => ?_)
      refine at_zneR dx_103_52 r51 (fun c52 => ?_) (fun c52 => ?_)
      · skip
        refine at_const (x := 0) dx_103_70 rfl ?_
        refine at_istore dx_103_71 ?_
        refine at_iload dx_103_72 rfl ?_
        refine at_zeqR dx_103_73 r3 (fun c73 => ?_) (fun c73 => ?_)
        · skip
          refine at_aload dx_103_97 rfl ?_
          refine at_iload dx_103_98 rfl ?_
          refine at_zneR dx_103_99 r3 (fun c99 => ?_) (fun c99 => ?_)
          · skip
            refine at_iload dx_103_102 rfl ?_
            refine at_zneR dx_103_103 (by decide) (fun c => absurd c (by decide)) (fun _ => ?_)
            refine at_const (x := 2) dx_103_104 rfl ?_
            refine at_goto dx_103_105 ?_
            refine at_callVI dx_103_111 rfl lc_856 rfl (m_fails (by decide)) ?_
            rintro x111 M111 r111 ⟨e111, h111⟩
            have f111 := fe_um31 e111
            replace F : frE w2E M _ := fe_tr F (fe_le f111 (fun q j h => Or.inl (by obtain ⟨rfl, rfl⟩ := h; exact wE_31)))
            replace s7 : M111 857 = _ := (funext (fun j => f111 857 j (by (try dsimp only); omega))).trans s7
            replace s8 : M111 858 = _ := (funext (fun j => f111 858 j (by (try dsimp only); omega))).trans s8
            refine at_pop dx_103_112 rfl ?_
            refine at_vretV dx_103_113 ?_
            have m31 := congrFun (congrFun e111 856) 31
            rw [um_eq] at m31
            refine ⟨MI_sq hM (fe_le F (fun q j h => w2_sq h)), F, ?_⟩
            first
            | (exfalso; omega)
            | exact Or.inl ⟨m31, by omega, s7, s8⟩
            | exact Or.inr (Or.inl ⟨m31, by omega, by first | omega | (intro h; have := ev_rem (a := a) h.2.1.1 h.2.1.2.1; omega), s7, s8⟩)
            | (have hra : RAr e a b := by have := ev_rem (a := a) (by omega) (by omega); omega
               first
               | exact Or.inr (Or.inr (Or.inr ⟨m31, by omega, hra, ⟨by omega, NoPm_of (by omega) (by omega) (by omega), (z87.mp (by omega)).2⟩, s7, s8⟩))
               | exact Or.inr (Or.inr (Or.inl ⟨m31, by omega, hra, fun h => by have := h.1; have := NoPm_no h.2.1; first | omega | (have := z87.mpr ⟨by decide, h.2.2⟩; omega), s7, s8⟩)))
          · skip
            refine at_const (x := 1) dx_103_100 rfl ?_
            refine at_goto dx_103_101 ?_
            refine at_callVI dx_103_111 rfl lc_856 rfl (m_fails (by decide)) ?_
            rintro x111 M111 r111 ⟨e111, h111⟩
            have f111 := fe_um31 e111
            replace F : frE w2E M _ := fe_tr F (fe_le f111 (fun q j h => Or.inl (by obtain ⟨rfl, rfl⟩ := h; exact wE_31)))
            replace s7 : M111 857 = _ := (funext (fun j => f111 857 j (by (try dsimp only); omega))).trans s7
            replace s8 : M111 858 = _ := (funext (fun j => f111 858 j (by (try dsimp only); omega))).trans s8
            refine at_pop dx_103_112 rfl ?_
            refine at_vretV dx_103_113 ?_
            have m31 := congrFun (congrFun e111 856) 31
            rw [um_eq] at m31
            refine ⟨MI_sq hM (fe_le F (fun q j h => w2_sq h)), F, ?_⟩
            first
            | (exfalso; omega)
            | exact Or.inl ⟨m31, by omega, s7, s8⟩
            | exact Or.inr (Or.inl ⟨m31, by omega, by first | omega | (intro h; have := ev_rem (a := a) h.2.1.1 h.2.1.2.1; omega), s7, s8⟩)
            | (have hra : RAr e a b := by have := ev_rem (a := a) (by omega) (by omega); omega
               first
               | exact Or.inr (Or.inr (Or.inr ⟨m31, by omega, hra, ⟨by omega, NoPm_of (by omega) (by omega) (by omega), (z87.mp (by omega)).2⟩, s7, s8⟩))
               | exact Or.inr (Or.inr (Or.inl ⟨m31, by omega, hra, fun h => by have := h.1; have := NoPm_no h.2.1; first | omega | (have := z87.mpr ⟨by decide, h.2.2⟩; omega), s7, s8⟩)))
        · skip
          refine at_iload dx_103_74 rfl ?_
          refine at_zeqR dx_103_75 (by decide) (fun _ => ?_) (fun c => absurd c (by decide))
          refine at_aload dx_103_97 rfl ?_
          refine at_iload dx_103_98 rfl ?_
          refine at_zneR dx_103_99 r3 (fun c99 => ?_) (fun c99 => ?_)
          · skip
            refine at_iload dx_103_102 rfl ?_
            refine at_zneR dx_103_103 (by decide) (fun c => absurd c (by decide)) (fun _ => ?_)
            refine at_const (x := 2) dx_103_104 rfl ?_
            refine at_goto dx_103_105 ?_
            refine at_callVI dx_103_111 rfl lc_856 rfl (m_fails (by decide)) ?_
            rintro x111 M111 r111 ⟨e111, h111⟩
            have f111 := fe_um31 e111
            replace F : frE w2E M _ := fe_tr F (fe_le f111 (fun q j h => Or.inl (by obtain ⟨rfl, rfl⟩ := h; exact wE_31)))
            replace s7 : M111 857 = _ := (funext (fun j => f111 857 j (by (try dsimp only); omega))).trans s7
            replace s8 : M111 858 = _ := (funext (fun j => f111 858 j (by (try dsimp only); omega))).trans s8
            refine at_pop dx_103_112 rfl ?_
            refine at_vretV dx_103_113 ?_
            have m31 := congrFun (congrFun e111 856) 31
            rw [um_eq] at m31
            refine ⟨MI_sq hM (fe_le F (fun q j h => w2_sq h)), F, ?_⟩
            first
            | (exfalso; omega)
            | exact Or.inl ⟨m31, by omega, s7, s8⟩
            | exact Or.inr (Or.inl ⟨m31, by omega, by first | omega | (intro h; have := ev_rem (a := a) h.2.1.1 h.2.1.2.1; omega), s7, s8⟩)
            | (have hra : RAr e a b := by have := ev_rem (a := a) (by omega) (by omega); omega
               first
               | exact Or.inr (Or.inr (Or.inr ⟨m31, by omega, hra, ⟨by omega, NoPm_of (by omega) (by omega) (by omega), (z87.mp (by omega)).2⟩, s7, s8⟩))
               | exact Or.inr (Or.inr (Or.inl ⟨m31, by omega, hra, fun h => by have := h.1; have := NoPm_no h.2.1; first | omega | (have := z87.mpr ⟨by decide, h.2.2⟩; omega), s7, s8⟩)))
          · skip
            refine at_const (x := 1) dx_103_100 rfl ?_
            refine at_goto dx_103_101 ?_
            refine at_callVI dx_103_111 rfl lc_856 rfl (m_fails (by decide)) ?_
            rintro x111 M111 r111 ⟨e111, h111⟩
            have f111 := fe_um31 e111
            replace F : frE w2E M _ := fe_tr F (fe_le f111 (fun q j h => Or.inl (by obtain ⟨rfl, rfl⟩ := h; exact wE_31)))
            replace s7 : M111 857 = _ := (funext (fun j => f111 857 j (by (try dsimp only); omega))).trans s7
            replace s8 : M111 858 = _ := (funext (fun j => f111 858 j (by (try dsimp only); omega))).trans s8
            refine at_pop dx_103_112 rfl ?_
            refine at_vretV dx_103_113 ?_
            have m31 := congrFun (congrFun e111 856) 31
            rw [um_eq] at m31
            refine ⟨MI_sq hM (fe_le F (fun q j h => w2_sq h)), F, ?_⟩
            first
            | (exfalso; omega)
            | exact Or.inl ⟨m31, by omega, s7, s8⟩
            | exact Or.inr (Or.inl ⟨m31, by omega, by first | omega | (intro h; have := ev_rem (a := a) h.2.1.1 h.2.1.2.1; omega), s7, s8⟩)
            | (have hra : RAr e a b := by have := ev_rem (a := a) (by omega) (by omega); omega
               first
               | exact Or.inr (Or.inr (Or.inr ⟨m31, by omega, hra, ⟨by omega, NoPm_of (by omega) (by omega) (by omega), (z87.mp (by omega)).2⟩, s7, s8⟩))
               | exact Or.inr (Or.inr (Or.inl ⟨m31, by omega, hra, fun h => by have := h.1; have := NoPm_no h.2.1; first | omega | (have := z87.mpr ⟨by decide, h.2.2⟩; omega), s7, s8⟩)))
      · skip
        refine at_aload dx_103_53 rfl ?_
        refine at_getR dx_103_54 lc_856 rfl lt_856_15 ?_
        refine at_const (x := 0) dx_103_55 rfl ?_
        refine at_aldI dx_103_56 lc_871 ln_871 (by decide) (by decide) (fun r56 => ?_)
        refine at_aload dx_103_57 rfl ?_
        refine at_getR dx_103_58 lc_856 rfl lt_856_15 ?_
        refine at_const (x := 1) dx_103_59 rfl ?_
        refine at_aldI dx_103_60 lc_871 ln_871 (by decide) (by decide) (fun r60 => ?_)
        refine at_addR dx_103_61 (by constructor <;> omega) (fun r61 => ?_)
        refine at_aload dx_103_62 rfl ?_
        refine at_getR dx_103_63 lc_856 rfl lt_856_15 ?_
        refine at_const (x := 2) dx_103_64 rfl ?_
        refine at_aldI dx_103_65 lc_871 ln_871 (by decide) (by decide) (fun r65 => ?_)
        refine at_addR dx_103_66 (by constructor <;> omega) (fun r66 => ?_)
        refine at_zneR dx_103_67 r66 (fun c67 => ?_) (fun c67 => ?_)
        · skip
          refine at_const (x := 0) dx_103_70 rfl ?_
          refine at_istore dx_103_71 ?_
          refine at_iload dx_103_72 rfl ?_
          refine at_zeqR dx_103_73 r3 (fun c73 => ?_) (fun c73 => ?_)
          · skip
            refine at_aload dx_103_97 rfl ?_
            refine at_iload dx_103_98 rfl ?_
            refine at_zneR dx_103_99 r3 (fun c99 => ?_) (fun c99 => ?_)
            · skip
              refine at_iload dx_103_102 rfl ?_
              refine at_zneR dx_103_103 (by decide) (fun c => absurd c (by decide)) (fun _ => ?_)
              refine at_const (x := 2) dx_103_104 rfl ?_
              refine at_goto dx_103_105 ?_
              refine at_callVI dx_103_111 rfl lc_856 rfl (m_fails (by decide)) ?_
              rintro x111 M111 r111 ⟨e111, h111⟩
              have f111 := fe_um31 e111
              replace F : frE w2E M _ := fe_tr F (fe_le f111 (fun q j h => Or.inl (by obtain ⟨rfl, rfl⟩ := h; exact wE_31)))
              replace s7 : M111 857 = _ := (funext (fun j => f111 857 j (by (try dsimp only); omega))).trans s7
              replace s8 : M111 858 = _ := (funext (fun j => f111 858 j (by (try dsimp only); omega))).trans s8
              refine at_pop dx_103_112 rfl ?_
              refine at_vretV dx_103_113 ?_
              have m31 := congrFun (congrFun e111 856) 31
              rw [um_eq] at m31
              refine ⟨MI_sq hM (fe_le F (fun q j h => w2_sq h)), F, ?_⟩
              first
              | (exfalso; omega)
              | exact Or.inl ⟨m31, by omega, s7, s8⟩
              | exact Or.inr (Or.inl ⟨m31, by omega, by first | omega | (intro h; have := ev_rem (a := a) h.2.1.1 h.2.1.2.1; omega), s7, s8⟩)
              | (have hra : RAr e a b := by have := ev_rem (a := a) (by omega) (by omega); omega
                 first
                 | exact Or.inr (Or.inr (Or.inr ⟨m31, by omega, hra, ⟨by omega, NoPm_of (by omega) (by omega) (by omega), (z87.mp (by omega)).2⟩, s7, s8⟩))
                 | exact Or.inr (Or.inr (Or.inl ⟨m31, by omega, hra, fun h => by have := h.1; have := NoPm_no h.2.1; first | omega | (have := z87.mpr ⟨by decide, h.2.2⟩; omega), s7, s8⟩)))
            · skip
              refine at_const (x := 1) dx_103_100 rfl ?_
              refine at_goto dx_103_101 ?_
              refine at_callVI dx_103_111 rfl lc_856 rfl (m_fails (by decide)) ?_
              rintro x111 M111 r111 ⟨e111, h111⟩
              have f111 := fe_um31 e111
              replace F : frE w2E M _ := fe_tr F (fe_le f111 (fun q j h => Or.inl (by obtain ⟨rfl, rfl⟩ := h; exact wE_31)))
              replace s7 : M111 857 = _ := (funext (fun j => f111 857 j (by (try dsimp only); omega))).trans s7
              replace s8 : M111 858 = _ := (funext (fun j => f111 858 j (by (try dsimp only); omega))).trans s8
              refine at_pop dx_103_112 rfl ?_
              refine at_vretV dx_103_113 ?_
              have m31 := congrFun (congrFun e111 856) 31
              rw [um_eq] at m31
              refine ⟨MI_sq hM (fe_le F (fun q j h => w2_sq h)), F, ?_⟩
              first
              | (exfalso; omega)
              | exact Or.inl ⟨m31, by omega, s7, s8⟩
              | exact Or.inr (Or.inl ⟨m31, by omega, by first | omega | (intro h; have := ev_rem (a := a) h.2.1.1 h.2.1.2.1; omega), s7, s8⟩)
              | (have hra : RAr e a b := by have := ev_rem (a := a) (by omega) (by omega); omega
                 first
                 | exact Or.inr (Or.inr (Or.inr ⟨m31, by omega, hra, ⟨by omega, NoPm_of (by omega) (by omega) (by omega), (z87.mp (by omega)).2⟩, s7, s8⟩))
                 | exact Or.inr (Or.inr (Or.inl ⟨m31, by omega, hra, fun h => by have := h.1; have := NoPm_no h.2.1; first | omega | (have := z87.mpr ⟨by decide, h.2.2⟩; omega), s7, s8⟩)))
          · skip
            refine at_iload dx_103_74 rfl ?_
            refine at_zeqR dx_103_75 (by decide) (fun _ => ?_) (fun c => absurd c (by decide))
            refine at_aload dx_103_97 rfl ?_
            refine at_iload dx_103_98 rfl ?_
            refine at_zneR dx_103_99 r3 (fun c99 => ?_) (fun c99 => ?_)
            · skip
              refine at_iload dx_103_102 rfl ?_
              refine at_zneR dx_103_103 (by decide) (fun c => absurd c (by decide)) (fun _ => ?_)
              refine at_const (x := 2) dx_103_104 rfl ?_
              refine at_goto dx_103_105 ?_
              refine at_callVI dx_103_111 rfl lc_856 rfl (m_fails (by decide)) ?_
              rintro x111 M111 r111 ⟨e111, h111⟩
              have f111 := fe_um31 e111
              replace F : frE w2E M _ := fe_tr F (fe_le f111 (fun q j h => Or.inl (by obtain ⟨rfl, rfl⟩ := h; exact wE_31)))
              replace s7 : M111 857 = _ := (funext (fun j => f111 857 j (by (try dsimp only); omega))).trans s7
              replace s8 : M111 858 = _ := (funext (fun j => f111 858 j (by (try dsimp only); omega))).trans s8
              refine at_pop dx_103_112 rfl ?_
              refine at_vretV dx_103_113 ?_
              have m31 := congrFun (congrFun e111 856) 31
              rw [um_eq] at m31
              refine ⟨MI_sq hM (fe_le F (fun q j h => w2_sq h)), F, ?_⟩
              first
              | (exfalso; omega)
              | exact Or.inl ⟨m31, by omega, s7, s8⟩
              | exact Or.inr (Or.inl ⟨m31, by omega, by first | omega | (intro h; have := ev_rem (a := a) h.2.1.1 h.2.1.2.1; omega), s7, s8⟩)
              | (have hra : RAr e a b := by have := ev_rem (a := a) (by omega) (by omega); omega
                 first
                 | exact Or.inr (Or.inr (Or.inr ⟨m31, by omega, hra, ⟨by omega, NoPm_of (by omega) (by omega) (by omega), (z87.mp (by omega)).2⟩, s7, s8⟩))
                 | exact Or.inr (Or.inr (Or.inl ⟨m31, by omega, hra, fun h => by have := h.1; have := NoPm_no h.2.1; first | omega | (have := z87.mpr ⟨by decide, h.2.2⟩; omega), s7, s8⟩)))
            · skip
              refine at_const (x := 1) dx_103_100 rfl ?_
              refine at_goto dx_103_101 ?_
              refine at_callVI dx_103_111 rfl lc_856 rfl (m_fails (by decide)) ?_
              rintro x111 M111 r111 ⟨e111, h111⟩
              have f111 := fe_um31 e111
              replace F : frE w2E M _ := fe_tr F (fe_le f111 (fun q j h => Or.inl (by obtain ⟨rfl, rfl⟩ := h; exact wE_31)))
              replace s7 : M111 857 = _ := (funext (fun j => f111 857 j (by (try dsimp only); omega))).trans s7
              replace s8 : M111 858 = _ := (funext (fun j => f111 858 j (by (try dsimp only); omega))).trans s8
              refine at_pop dx_103_112 rfl ?_
              refine at_vretV dx_103_113 ?_
              have m31 := congrFun (congrFun e111 856) 31
              rw [um_eq] at m31
              refine ⟨MI_sq hM (fe_le F (fun q j h => w2_sq h)), F, ?_⟩
              first
              | (exfalso; omega)
              | exact Or.inl ⟨m31, by omega, s7, s8⟩
              | exact Or.inr (Or.inl ⟨m31, by omega, by first | omega | (intro h; have := ev_rem (a := a) h.2.1.1 h.2.1.2.1; omega), s7, s8⟩)
              | (have hra : RAr e a b := by have := ev_rem (a := a) (by omega) (by omega); omega
                 first
                 | exact Or.inr (Or.inr (Or.inr ⟨m31, by omega, hra, ⟨by omega, NoPm_of (by omega) (by omega) (by omega), (z87.mp (by omega)).2⟩, s7, s8⟩))
                 | exact Or.inr (Or.inr (Or.inl ⟨m31, by omega, hra, fun h => by have := h.1; have := NoPm_no h.2.1; first | omega | (have := z87.mpr ⟨by decide, h.2.2⟩; omega), s7, s8⟩)))
        · skip
          refine at_const (x := 1) dx_103_68 rfl ?_
          refine at_goto dx_103_69 ?_
          refine at_istore dx_103_71 ?_
          refine at_iload dx_103_72 rfl ?_
          refine at_zeqR dx_103_73 r3 (fun c73 => ?_) (fun c73 => ?_)
          · skip
            refine at_aload dx_103_97 rfl ?_
            refine at_iload dx_103_98 rfl ?_
            refine at_zneR dx_103_99 r3 (fun c99 => ?_) (fun c99 => ?_)
            · skip
              refine at_iload dx_103_102 rfl ?_
              refine at_zneR dx_103_103 (by decide) (fun c => absurd c (by decide)) (fun _ => ?_)
              refine at_const (x := 2) dx_103_104 rfl ?_
              refine at_goto dx_103_105 ?_
              refine at_callVI dx_103_111 rfl lc_856 rfl (m_fails (by decide)) ?_
              rintro x111 M111 r111 ⟨e111, h111⟩
              have f111 := fe_um31 e111
              replace F : frE w2E M _ := fe_tr F (fe_le f111 (fun q j h => Or.inl (by obtain ⟨rfl, rfl⟩ := h; exact wE_31)))
              replace s7 : M111 857 = _ := (funext (fun j => f111 857 j (by (try dsimp only); omega))).trans s7
              replace s8 : M111 858 = _ := (funext (fun j => f111 858 j (by (try dsimp only); omega))).trans s8
              refine at_pop dx_103_112 rfl ?_
              refine at_vretV dx_103_113 ?_
              have m31 := congrFun (congrFun e111 856) 31
              rw [um_eq] at m31
              refine ⟨MI_sq hM (fe_le F (fun q j h => w2_sq h)), F, ?_⟩
              first
              | (exfalso; omega)
              | exact Or.inl ⟨m31, by omega, s7, s8⟩
              | exact Or.inr (Or.inl ⟨m31, by omega, by first | omega | (intro h; have := ev_rem (a := a) h.2.1.1 h.2.1.2.1; omega), s7, s8⟩)
              | (have hra : RAr e a b := by have := ev_rem (a := a) (by omega) (by omega); omega
                 first
                 | exact Or.inr (Or.inr (Or.inr ⟨m31, by omega, hra, ⟨by omega, NoPm_of (by omega) (by omega) (by omega), (z87.mp (by omega)).2⟩, s7, s8⟩))
                 | exact Or.inr (Or.inr (Or.inl ⟨m31, by omega, hra, fun h => by have := h.1; have := NoPm_no h.2.1; first | omega | (have := z87.mpr ⟨by decide, h.2.2⟩; omega), s7, s8⟩)))
            · skip
              refine at_const (x := 1) dx_103_100 rfl ?_
              refine at_goto dx_103_101 ?_
              refine at_callVI dx_103_111 rfl lc_856 rfl (m_fails (by decide)) ?_
              rintro x111 M111 r111 ⟨e111, h111⟩
              have f111 := fe_um31 e111
              replace F : frE w2E M _ := fe_tr F (fe_le f111 (fun q j h => Or.inl (by obtain ⟨rfl, rfl⟩ := h; exact wE_31)))
              replace s7 : M111 857 = _ := (funext (fun j => f111 857 j (by (try dsimp only); omega))).trans s7
              replace s8 : M111 858 = _ := (funext (fun j => f111 858 j (by (try dsimp only); omega))).trans s8
              refine at_pop dx_103_112 rfl ?_
              refine at_vretV dx_103_113 ?_
              have m31 := congrFun (congrFun e111 856) 31
              rw [um_eq] at m31
              refine ⟨MI_sq hM (fe_le F (fun q j h => w2_sq h)), F, ?_⟩
              first
              | (exfalso; omega)
              | exact Or.inl ⟨m31, by omega, s7, s8⟩
              | exact Or.inr (Or.inl ⟨m31, by omega, by first | omega | (intro h; have := ev_rem (a := a) h.2.1.1 h.2.1.2.1; omega), s7, s8⟩)
              | (have hra : RAr e a b := by have := ev_rem (a := a) (by omega) (by omega); omega
                 first
                 | exact Or.inr (Or.inr (Or.inr ⟨m31, by omega, hra, ⟨by omega, NoPm_of (by omega) (by omega) (by omega), (z87.mp (by omega)).2⟩, s7, s8⟩))
                 | exact Or.inr (Or.inr (Or.inl ⟨m31, by omega, hra, fun h => by have := h.1; have := NoPm_no h.2.1; first | omega | (have := z87.mpr ⟨by decide, h.2.2⟩; omega), s7, s8⟩)))
          · skip
            refine at_iload dx_103_74 rfl ?_
            refine at_zeqR dx_103_75 (by decide) (fun _ => ?_) (fun c => absurd c (by decide))
            refine at_aload dx_103_97 rfl ?_
            refine at_iload dx_103_98 rfl ?_
            refine at_zneR dx_103_99 r3 (fun c99 => ?_) (fun c99 => ?_)
            · skip
              refine at_iload dx_103_102 rfl ?_
              refine at_zneR dx_103_103 (by decide) (fun c => absurd c (by decide)) (fun _ => ?_)
              refine at_const (x := 2) dx_103_104 rfl ?_
              refine at_goto dx_103_105 ?_
              refine at_callVI dx_103_111 rfl lc_856 rfl (m_fails (by decide)) ?_
              rintro x111 M111 r111 ⟨e111, h111⟩
              have f111 := fe_um31 e111
              replace F : frE w2E M _ := fe_tr F (fe_le f111 (fun q j h => Or.inl (by obtain ⟨rfl, rfl⟩ := h; exact wE_31)))
              replace s7 : M111 857 = _ := (funext (fun j => f111 857 j (by (try dsimp only); omega))).trans s7
              replace s8 : M111 858 = _ := (funext (fun j => f111 858 j (by (try dsimp only); omega))).trans s8
              refine at_pop dx_103_112 rfl ?_
              refine at_vretV dx_103_113 ?_
              have m31 := congrFun (congrFun e111 856) 31
              rw [um_eq] at m31
              refine ⟨MI_sq hM (fe_le F (fun q j h => w2_sq h)), F, ?_⟩
              first
              | (exfalso; omega)
              | exact Or.inl ⟨m31, by omega, s7, s8⟩
              | exact Or.inr (Or.inl ⟨m31, by omega, by first | omega | (intro h; have := ev_rem (a := a) h.2.1.1 h.2.1.2.1; omega), s7, s8⟩)
              | (have hra : RAr e a b := by have := ev_rem (a := a) (by omega) (by omega); omega
                 first
                 | exact Or.inr (Or.inr (Or.inr ⟨m31, by omega, hra, ⟨by omega, NoPm_of (by omega) (by omega) (by omega), (z87.mp (by omega)).2⟩, s7, s8⟩))
                 | exact Or.inr (Or.inr (Or.inl ⟨m31, by omega, hra, fun h => by have := h.1; have := NoPm_no h.2.1; first | omega | (have := z87.mpr ⟨by decide, h.2.2⟩; omega), s7, s8⟩)))
            · skip
              refine at_const (x := 1) dx_103_100 rfl ?_
              refine at_goto dx_103_101 ?_
              refine at_callVI dx_103_111 rfl lc_856 rfl (m_fails (by decide)) ?_
              rintro x111 M111 r111 ⟨e111, h111⟩
              have f111 := fe_um31 e111
              replace F : frE w2E M _ := fe_tr F (fe_le f111 (fun q j h => Or.inl (by obtain ⟨rfl, rfl⟩ := h; exact wE_31)))
              replace s7 : M111 857 = _ := (funext (fun j => f111 857 j (by (try dsimp only); omega))).trans s7
              replace s8 : M111 858 = _ := (funext (fun j => f111 858 j (by (try dsimp only); omega))).trans s8
              refine at_pop dx_103_112 rfl ?_
              refine at_vretV dx_103_113 ?_
              have m31 := congrFun (congrFun e111 856) 31
              rw [um_eq] at m31
              refine ⟨MI_sq hM (fe_le F (fun q j h => w2_sq h)), F, ?_⟩
              first
              | (exfalso; omega)
              | exact Or.inl ⟨m31, by omega, s7, s8⟩
              | exact Or.inr (Or.inl ⟨m31, by omega, by first | omega | (intro h; have := ev_rem (a := a) h.2.1.1 h.2.1.2.1; omega), s7, s8⟩)
              | (have hra : RAr e a b := by have := ev_rem (a := a) (by omega) (by omega); omega
                 first
                 | exact Or.inr (Or.inr (Or.inr ⟨m31, by omega, hra, ⟨by omega, NoPm_of (by omega) (by omega) (by omega), (z87.mp (by omega)).2⟩, s7, s8⟩))
                 | exact Or.inr (Or.inr (Or.inl ⟨m31, by omega, hra, fun h => by have := h.1; have := NoPm_no h.2.1; first | omega | (have := z87.mpr ⟨by decide, h.2.2⟩; omega), s7, s8⟩)))
    · skip
      refine at_iload dx_103_30 rfl ?_
      refine at_zeqR dx_103_31 (by decide) (fun _ => ?_) (fun c => absurd c (by decide))
      refine at_const (x := 0) dx_103_38 rfl ?_
      refine at_istore dx_103_39 ?_
      refine at_aload dx_103_40 rfl ?_
      refine at_getR dx_103_41 lc_856 rfl lt_856_0 ?_
      refine at_iload dx_103_42 rfl ?_
      refine at_aldI dx_103_43 lc_857 ln_857 (by omega) (by omega) (fun r43 => ?_)
      refine at_istore dx_103_44 ?_
      refine at_aload dx_103_45 rfl ?_
      refine at_getR dx_103_46 lc_856 rfl lt_856_1 ?_
      refine at_iload dx_103_47 rfl ?_
      refine at_aldI dx_103_48 lc_858 ln_858 (by omega) (by omega) (fun r48 => ?_)
      refine at_istore dx_103_49 ?_
      refine at_aload dx_103_50 rfl ?_
      refine at_getI 13 dx_103_51 lc_856 rfl rfl (fun r51 => ?_)
      refine at_zneR dx_103_52 r51 (fun c52 => ?_) (fun c52 => ?_)
      · skip
        refine at_const (x := 0) dx_103_70 rfl ?_
        refine at_istore dx_103_71 ?_
        refine at_iload dx_103_72 rfl ?_
        refine at_zeqR dx_103_73 r3 (fun c73 => ?_) (fun c73 => ?_)
        · skip
          refine at_aload dx_103_97 rfl ?_
          refine at_iload dx_103_98 rfl ?_
          refine at_zneR dx_103_99 r3 (fun c99 => ?_) (fun c99 => ?_)
          · skip
            refine at_iload dx_103_102 rfl ?_
            refine at_zneR dx_103_103 (by decide) (fun c => absurd c (by decide)) (fun _ => ?_)
            refine at_const (x := 2) dx_103_104 rfl ?_
            refine at_goto dx_103_105 ?_
            refine at_callVI dx_103_111 rfl lc_856 rfl (m_fails (by decide)) ?_
            rintro x111 M111 r111 ⟨e111, h111⟩
            have f111 := fe_um31 e111
            replace F : frE w2E M _ := fe_tr F (fe_le f111 (fun q j h => Or.inl (by obtain ⟨rfl, rfl⟩ := h; exact wE_31)))
            replace s7 : M111 857 = _ := (funext (fun j => f111 857 j (by (try dsimp only); omega))).trans s7
            replace s8 : M111 858 = _ := (funext (fun j => f111 858 j (by (try dsimp only); omega))).trans s8
            refine at_pop dx_103_112 rfl ?_
            refine at_vretV dx_103_113 ?_
            have m31 := congrFun (congrFun e111 856) 31
            rw [um_eq] at m31
            refine ⟨MI_sq hM (fe_le F (fun q j h => w2_sq h)), F, ?_⟩
            first
            | (exfalso; omega)
            | exact Or.inl ⟨m31, by omega, s7, s8⟩
            | exact Or.inr (Or.inl ⟨m31, by omega, by first | omega | (intro h; have := ev_rem (a := a) h.2.1.1 h.2.1.2.1; omega), s7, s8⟩)
            | (have hra : RAr e a b := by have := ev_rem (a := a) (by omega) (by omega); omega
               first
               | exact Or.inr (Or.inr (Or.inr ⟨m31, by omega, hra, ⟨by omega, NoPm_of (by omega) (by omega) (by omega), (z87.mp (by omega)).2⟩, s7, s8⟩))
               | exact Or.inr (Or.inr (Or.inl ⟨m31, by omega, hra, fun h => by have := h.1; have := NoPm_no h.2.1; first | omega | (have := z87.mpr ⟨by decide, h.2.2⟩; omega), s7, s8⟩)))
          · skip
            refine at_const (x := 1) dx_103_100 rfl ?_
            refine at_goto dx_103_101 ?_
            refine at_callVI dx_103_111 rfl lc_856 rfl (m_fails (by decide)) ?_
            rintro x111 M111 r111 ⟨e111, h111⟩
            have f111 := fe_um31 e111
            replace F : frE w2E M _ := fe_tr F (fe_le f111 (fun q j h => Or.inl (by obtain ⟨rfl, rfl⟩ := h; exact wE_31)))
            replace s7 : M111 857 = _ := (funext (fun j => f111 857 j (by (try dsimp only); omega))).trans s7
            replace s8 : M111 858 = _ := (funext (fun j => f111 858 j (by (try dsimp only); omega))).trans s8
            refine at_pop dx_103_112 rfl ?_
            refine at_vretV dx_103_113 ?_
            have m31 := congrFun (congrFun e111 856) 31
            rw [um_eq] at m31
            refine ⟨MI_sq hM (fe_le F (fun q j h => w2_sq h)), F, ?_⟩
            first
            | (exfalso; omega)
            | exact Or.inl ⟨m31, by omega, s7, s8⟩
            | exact Or.inr (Or.inl ⟨m31, by omega, by first | omega | (intro h; have := ev_rem (a := a) h.2.1.1 h.2.1.2.1; omega), s7, s8⟩)
            | (have hra : RAr e a b := by have := ev_rem (a := a) (by omega) (by omega); omega
               first
               | exact Or.inr (Or.inr (Or.inr ⟨m31, by omega, hra, ⟨by omega, NoPm_of (by omega) (by omega) (by omega), (z87.mp (by omega)).2⟩, s7, s8⟩))
               | exact Or.inr (Or.inr (Or.inl ⟨m31, by omega, hra, fun h => by have := h.1; have := NoPm_no h.2.1; first | omega | (have := z87.mpr ⟨by decide, h.2.2⟩; omega), s7, s8⟩)))
        · skip
          refine at_iload dx_103_74 rfl ?_
          refine at_zeqR dx_103_75 (by decide) (fun _ => ?_) (fun c => absurd c (by decide))
          refine at_aload dx_103_97 rfl ?_
          refine at_iload dx_103_98 rfl ?_
          refine at_zneR dx_103_99 r3 (fun c99 => ?_) (fun c99 => ?_)
          · skip
            refine at_iload dx_103_102 rfl ?_
            refine at_zneR dx_103_103 (by decide) (fun c => absurd c (by decide)) (fun _ => ?_)
            refine at_const (x := 2) dx_103_104 rfl ?_
            refine at_goto dx_103_105 ?_
            refine at_callVI dx_103_111 rfl lc_856 rfl (m_fails (by decide)) ?_
            rintro x111 M111 r111 ⟨e111, h111⟩
            have f111 := fe_um31 e111
            replace F : frE w2E M _ := fe_tr F (fe_le f111 (fun q j h => Or.inl (by obtain ⟨rfl, rfl⟩ := h; exact wE_31)))
            replace s7 : M111 857 = _ := (funext (fun j => f111 857 j (by (try dsimp only); omega))).trans s7
            replace s8 : M111 858 = _ := (funext (fun j => f111 858 j (by (try dsimp only); omega))).trans s8
            refine at_pop dx_103_112 rfl ?_
            refine at_vretV dx_103_113 ?_
            have m31 := congrFun (congrFun e111 856) 31
            rw [um_eq] at m31
            refine ⟨MI_sq hM (fe_le F (fun q j h => w2_sq h)), F, ?_⟩
            first
            | (exfalso; omega)
            | exact Or.inl ⟨m31, by omega, s7, s8⟩
            | exact Or.inr (Or.inl ⟨m31, by omega, by first | omega | (intro h; have := ev_rem (a := a) h.2.1.1 h.2.1.2.1; omega), s7, s8⟩)
            | (have hra : RAr e a b := by have := ev_rem (a := a) (by omega) (by omega); omega
               first
               | exact Or.inr (Or.inr (Or.inr ⟨m31, by omega, hra, ⟨by omega, NoPm_of (by omega) (by omega) (by omega), (z87.mp (by omega)).2⟩, s7, s8⟩))
               | exact Or.inr (Or.inr (Or.inl ⟨m31, by omega, hra, fun h => by have := h.1; have := NoPm_no h.2.1; first | omega | (have := z87.mpr ⟨by decide, h.2.2⟩; omega), s7, s8⟩)))
          · skip
            refine at_const (x := 1) dx_103_100 rfl ?_
            refine at_goto dx_103_101 ?_
            refine at_callVI dx_103_111 rfl lc_856 rfl (m_fails (by decide)) ?_
            rintro x111 M111 r111 ⟨e111, h111⟩
            have f111 := fe_um31 e111
            replace F : frE w2E M _ := fe_tr F (fe_le f111 (fun q j h => Or.inl (by obtain ⟨rfl, rfl⟩ := h; exact wE_31)))
            replace s7 : M111 857 = _ := (funext (fun j => f111 857 j (by (try dsimp only); omega))).trans s7
            replace s8 : M111 858 = _ := (funext (fun j => f111 858 j (by (try dsimp only); omega))).trans s8
            refine at_pop dx_103_112 rfl ?_
            refine at_vretV dx_103_113 ?_
            have m31 := congrFun (congrFun e111 856) 31
            rw [um_eq] at m31
            refine ⟨MI_sq hM (fe_le F (fun q j h => w2_sq h)), F, ?_⟩
            first
            | (exfalso; omega)
            | exact Or.inl ⟨m31, by omega, s7, s8⟩
            | exact Or.inr (Or.inl ⟨m31, by omega, by first | omega | (intro h; have := ev_rem (a := a) h.2.1.1 h.2.1.2.1; omega), s7, s8⟩)
            | (have hra : RAr e a b := by have := ev_rem (a := a) (by omega) (by omega); omega
               first
               | exact Or.inr (Or.inr (Or.inr ⟨m31, by omega, hra, ⟨by omega, NoPm_of (by omega) (by omega) (by omega), (z87.mp (by omega)).2⟩, s7, s8⟩))
               | exact Or.inr (Or.inr (Or.inl ⟨m31, by omega, hra, fun h => by have := h.1; have := NoPm_no h.2.1; first | omega | (have := z87.mpr ⟨by decide, h.2.2⟩; omega), s7, s8⟩)))
      · skip
        refine at_aload dx_103_53 rfl ?_
        refine at_getR dx_103_54 lc_856 rfl lt_856_15 ?_
        refine at_const (x := 0) dx_103_55 rfl ?_
        refine at_aldI dx_103_56 lc_871 ln_871 (by decide) (by decide) (fun r56 => ?_)
        refine at_aload dx_103_57 rfl ?_
        refine at_getR dx_103_58 lc_856 rfl lt_856_15 ?_
        refine at_const (x := 1) dx_103_59 rfl ?_
        refine at_aldI dx_103_60 lc_871 ln_871 (by decide) (by decide) (fun r60 => ?_)
        refine at_addR dx_103_61 (by constructor <;> omega) (fun r61 => ?_)
        refine at_aload dx_103_62 rfl ?_
        refine at_getR dx_103_63 lc_856 rfl lt_856_15 ?_
        refine at_const (x := 2) dx_103_64 rfl ?_
        refine at_aldI dx_103_65 lc_871 ln_871 (by decide) (by decide) (fun r65 => ?_)
        refine at_addR dx_103_66 (by constructor <;> omega) (fun r66 => ?_)
        refine at_zneR dx_103_67 r66 (fun c67 => ?_) (fun c67 => ?_)
        · skip
          refine at_const (x := 0) dx_103_70 rfl ?_
          refine at_istore dx_103_71 ?_
          refine at_iload dx_103_72 rfl ?_
          refine at_zeqR dx_103_73 r3 (fun c73 => ?_) (fun c73 => ?_)
          · skip
            refine at_aload dx_103_97 rfl ?_
            refine at_iload dx_103_98 rfl ?_
            refine at_zneR dx_103_99 r3 (fun c99 => ?_) (fun c99 => ?_)
            · skip
              refine at_iload dx_103_102 rfl ?_
              refine at_zneR dx_103_103 (by decide) (fun c => absurd c (by decide)) (fun _ => ?_)
              refine at_const (x := 2) dx_103_104 rfl ?_
              refine at_goto dx_103_105 ?_
              refine at_callVI dx_103_111 rfl lc_856 rfl (m_fails (by decide)) ?_
              rintro x111 M111 r111 ⟨e111, h111⟩
              have f111 := fe_um31 e111
              replace F : frE w2E M _ := fe_tr F (fe_le f111 (fun q j h => Or.inl (by obtain ⟨rfl, rfl⟩ := h; exact wE_31)))
              replace s7 : M111 857 = _ := (funext (fun j => f111 857 j (by (try dsimp only); omega))).trans s7
              replace s8 : M111 858 = _ := (funext (fun j => f111 858 j (by (try dsimp only); omega))).trans s8
              refine at_pop dx_103_112 rfl ?_
              refine at_vretV dx_103_113 ?_
              have m31 := congrFun (congrFun e111 856) 31
              rw [um_eq] at m31
              refine ⟨MI_sq hM (fe_le F (fun q j h => w2_sq h)), F, ?_⟩
              first
              | (exfalso; omega)
              | exact Or.inl ⟨m31, by omega, s7, s8⟩
              | exact Or.inr (Or.inl ⟨m31, by omega, by first | omega | (intro h; have := ev_rem (a := a) h.2.1.1 h.2.1.2.1; omega), s7, s8⟩)
              | (have hra : RAr e a b := by have := ev_rem (a := a) (by omega) (by omega); omega
                 first
                 | exact Or.inr (Or.inr (Or.inr ⟨m31, by omega, hra, ⟨by omega, NoPm_of (by omega) (by omega) (by omega), (z87.mp (by omega)).2⟩, s7, s8⟩))
                 | exact Or.inr (Or.inr (Or.inl ⟨m31, by omega, hra, fun h => by have := h.1; have := NoPm_no h.2.1; first | omega | (have := z87.mpr ⟨by decide, h.2.2⟩; omega), s7, s8⟩)))
            · skip
              refine at_const (x := 1) dx_103_100 rfl ?_
              refine at_goto dx_103_101 ?_
              refine at_callVI dx_103_111 rfl lc_856 rfl (m_fails (by decide)) ?_
              rintro x111 M111 r111 ⟨e111, h111⟩
              have f111 := fe_um31 e111
              replace F : frE w2E M _ := fe_tr F (fe_le f111 (fun q j h => Or.inl (by obtain ⟨rfl, rfl⟩ := h; exact wE_31)))
              replace s7 : M111 857 = _ := (funext (fun j => f111 857 j (by (try dsimp only); omega))).trans s7
              replace s8 : M111 858 = _ := (funext (fun j => f111 858 j (by (try dsimp only); omega))).trans s8
              refine at_pop dx_103_112 rfl ?_
              refine at_vretV dx_103_113 ?_
              have m31 := congrFun (congrFun e111 856) 31
              rw [um_eq] at m31
              refine ⟨MI_sq hM (fe_le F (fun q j h => w2_sq h)), F, ?_⟩
              first
              | (exfalso; omega)
              | exact Or.inl ⟨m31, by omega, s7, s8⟩
              | exact Or.inr (Or.inl ⟨m31, by omega, by first | omega | (intro h; have := ev_rem (a := a) h.2.1.1 h.2.1.2.1; omega), s7, s8⟩)
              | (have hra : RAr e a b := by have := ev_rem (a := a) (by omega) (by omega); omega
                 first
                 | exact Or.inr (Or.inr (Or.inr ⟨m31, by omega, hra, ⟨by omega, NoPm_of (by omega) (by omega) (by omega), (z87.mp (by omega)).2⟩, s7, s8⟩))
                 | exact Or.inr (Or.inr (Or.inl ⟨m31, by omega, hra, fun h => by have := h.1; have := NoPm_no h.2.1; first | omega | (have := z87.mpr ⟨by decide, h.2.2⟩; omega), s7, s8⟩)))
          · skip
            refine at_iload dx_103_74 rfl ?_
            refine at_zeqR dx_103_75 (by decide) (fun _ => ?_) (fun c => absurd c (by decide))
            refine at_aload dx_103_97 rfl ?_
            refine at_iload dx_103_98 rfl ?_
            refine at_zneR dx_103_99 r3 (fun c99 => ?_) (fun c99 => ?_)
            · skip
              refine at_iload dx_103_102 rfl ?_
              refine at_zneR dx_103_103 (by decide) (fun c => absurd c (by decide)) (fun _ => ?_)
              refine at_const (x := 2) dx_103_104 rfl ?_
              refine at_goto dx_103_105 ?_
              refine at_callVI dx_103_111 rfl lc_856 rfl (m_fails (by decide)) ?_
              rintro x111 M111 r111 ⟨e111, h111⟩
              have f111 := fe_um31 e111
              replace F : frE w2E M _ := fe_tr F (fe_le f111 (fun q j h => Or.inl (by obtain ⟨rfl, rfl⟩ := h; exact wE_31)))
              replace s7 : M111 857 = _ := (funext (fun j => f111 857 j (by (try dsimp only); omega))).trans s7
              replace s8 : M111 858 = _ := (funext (fun j => f111 858 j (by (try dsimp only); omega))).trans s8
              refine at_pop dx_103_112 rfl ?_
              refine at_vretV dx_103_113 ?_
              have m31 := congrFun (congrFun e111 856) 31
              rw [um_eq] at m31
              refine ⟨MI_sq hM (fe_le F (fun q j h => w2_sq h)), F, ?_⟩
              first
              | (exfalso; omega)
              | exact Or.inl ⟨m31, by omega, s7, s8⟩
              | exact Or.inr (Or.inl ⟨m31, by omega, by first | omega | (intro h; have := ev_rem (a := a) h.2.1.1 h.2.1.2.1; omega), s7, s8⟩)
              | (have hra : RAr e a b := by have := ev_rem (a := a) (by omega) (by omega); omega
                 first
                 | exact Or.inr (Or.inr (Or.inr ⟨m31, by omega, hra, ⟨by omega, NoPm_of (by omega) (by omega) (by omega), (z87.mp (by omega)).2⟩, s7, s8⟩))
                 | exact Or.inr (Or.inr (Or.inl ⟨m31, by omega, hra, fun h => by have := h.1; have := NoPm_no h.2.1; first | omega | (have := z87.mpr ⟨by decide, h.2.2⟩; omega), s7, s8⟩)))
            · skip
              refine at_const (x := 1) dx_103_100 rfl ?_
              refine at_goto dx_103_101 ?_
              refine at_callVI dx_103_111 rfl lc_856 rfl (m_fails (by decide)) ?_
              rintro x111 M111 r111 ⟨e111, h111⟩
              have f111 := fe_um31 e111
              replace F : frE w2E M _ := fe_tr F (fe_le f111 (fun q j h => Or.inl (by obtain ⟨rfl, rfl⟩ := h; exact wE_31)))
              replace s7 : M111 857 = _ := (funext (fun j => f111 857 j (by (try dsimp only); omega))).trans s7
              replace s8 : M111 858 = _ := (funext (fun j => f111 858 j (by (try dsimp only); omega))).trans s8
              refine at_pop dx_103_112 rfl ?_
              refine at_vretV dx_103_113 ?_
              have m31 := congrFun (congrFun e111 856) 31
              rw [um_eq] at m31
              refine ⟨MI_sq hM (fe_le F (fun q j h => w2_sq h)), F, ?_⟩
              first
              | (exfalso; omega)
              | exact Or.inl ⟨m31, by omega, s7, s8⟩
              | exact Or.inr (Or.inl ⟨m31, by omega, by first | omega | (intro h; have := ev_rem (a := a) h.2.1.1 h.2.1.2.1; omega), s7, s8⟩)
              | (have hra : RAr e a b := by have := ev_rem (a := a) (by omega) (by omega); omega
                 first
                 | exact Or.inr (Or.inr (Or.inr ⟨m31, by omega, hra, ⟨by omega, NoPm_of (by omega) (by omega) (by omega), (z87.mp (by omega)).2⟩, s7, s8⟩))
                 | exact Or.inr (Or.inr (Or.inl ⟨m31, by omega, hra, fun h => by have := h.1; have := NoPm_no h.2.1; first | omega | (have := z87.mpr ⟨by decide, h.2.2⟩; omega), s7, s8⟩)))
        · skip
          refine at_const (x := 1) dx_103_68 rfl ?_
          refine at_goto dx_103_69 ?_
          refine at_istore dx_103_71 ?_
          refine at_iload dx_103_72 rfl ?_
          refine at_zeqR dx_103_73 r3 (fun c73 => ?_) (fun c73 => ?_)
          · skip
            refine at_aload dx_103_97 rfl ?_
            refine at_iload dx_103_98 rfl ?_
            refine at_zneR dx_103_99 r3 (fun c99 => ?_) (fun c99 => ?_)
            · skip
              refine at_iload dx_103_102 rfl ?_
              refine at_zneR dx_103_103 (by decide) (fun c => absurd c (by decide)) (fun _ => ?_)
              refine at_const (x := 2) dx_103_104 rfl ?_
              refine at_goto dx_103_105 ?_
              refine at_callVI dx_103_111 rfl lc_856 rfl (m_fails (by decide)) ?_
              rintro x111 M111 r111 ⟨e111, h111⟩
              have f111 := fe_um31 e111
              replace F : frE w2E M _ := fe_tr F (fe_le f111 (fun q j h => Or.inl (by obtain ⟨rfl, rfl⟩ := h; exact wE_31)))
              replace s7 : M111 857 = _ := (funext (fun j => f111 857 j (by (try dsimp only); omega))).trans s7
              replace s8 : M111 858 = _ := (funext (fun j => f111 858 j (by (try dsimp only); omega))).trans s8
              refine at_pop dx_103_112 rfl ?_
              refine at_vretV dx_103_113 ?_
              have m31 := congrFun (congrFun e111 856) 31
              rw [um_eq] at m31
              refine ⟨MI_sq hM (fe_le F (fun q j h => w2_sq h)), F, ?_⟩
              first
              | (exfalso; omega)
              | exact Or.inl ⟨m31, by omega, s7, s8⟩
              | exact Or.inr (Or.inl ⟨m31, by omega, by first | omega | (intro h; have := ev_rem (a := a) h.2.1.1 h.2.1.2.1; omega), s7, s8⟩)
              | (have hra : RAr e a b := by have := ev_rem (a := a) (by omega) (by omega); omega
                 first
                 | exact Or.inr (Or.inr (Or.inr ⟨m31, by omega, hra, ⟨by omega, NoPm_of (by omega) (by omega) (by omega), (z87.mp (by omega)).2⟩, s7, s8⟩))
                 | exact Or.inr (Or.inr (Or.inl ⟨m31, by omega, hra, fun h => by have := h.1; have := NoPm_no h.2.1; first | omega | (have := z87.mpr ⟨by decide, h.2.2⟩; omega), s7, s8⟩)))
            · skip
              refine at_const (x := 1) dx_103_100 rfl ?_
              refine at_goto dx_103_101 ?_
              refine at_callVI dx_103_111 rfl lc_856 rfl (m_fails (by decide)) ?_
              rintro x111 M111 r111 ⟨e111, h111⟩
              have f111 := fe_um31 e111
              replace F : frE w2E M _ := fe_tr F (fe_le f111 (fun q j h => Or.inl (by obtain ⟨rfl, rfl⟩ := h; exact wE_31)))
              replace s7 : M111 857 = _ := (funext (fun j => f111 857 j (by (try dsimp only); omega))).trans s7
              replace s8 : M111 858 = _ := (funext (fun j => f111 858 j (by (try dsimp only); omega))).trans s8
              refine at_pop dx_103_112 rfl ?_
              refine at_vretV dx_103_113 ?_
              have m31 := congrFun (congrFun e111 856) 31
              rw [um_eq] at m31
              refine ⟨MI_sq hM (fe_le F (fun q j h => w2_sq h)), F, ?_⟩
              first
              | (exfalso; omega)
              | exact Or.inl ⟨m31, by omega, s7, s8⟩
              | exact Or.inr (Or.inl ⟨m31, by omega, by first | omega | (intro h; have := ev_rem (a := a) h.2.1.1 h.2.1.2.1; omega), s7, s8⟩)
              | (have hra : RAr e a b := by have := ev_rem (a := a) (by omega) (by omega); omega
                 first
                 | exact Or.inr (Or.inr (Or.inr ⟨m31, by omega, hra, ⟨by omega, NoPm_of (by omega) (by omega) (by omega), (z87.mp (by omega)).2⟩, s7, s8⟩))
                 | exact Or.inr (Or.inr (Or.inl ⟨m31, by omega, hra, fun h => by have := h.1; have := NoPm_no h.2.1; first | omega | (have := z87.mpr ⟨by decide, h.2.2⟩; omega), s7, s8⟩)))
          · skip
            refine at_iload dx_103_74 rfl ?_
            refine at_zeqR dx_103_75 (by decide) (fun _ => ?_) (fun c => absurd c (by decide))
            refine at_aload dx_103_97 rfl ?_
            refine at_iload dx_103_98 rfl ?_
            refine at_zneR dx_103_99 r3 (fun c99 => ?_) (fun c99 => ?_)
            · skip
              refine at_iload dx_103_102 rfl ?_
              refine at_zneR dx_103_103 (by decide) (fun c => absurd c (by decide)) (fun _ => ?_)
              refine at_const (x := 2) dx_103_104 rfl ?_
              refine at_goto dx_103_105 ?_
              refine at_callVI dx_103_111 rfl lc_856 rfl (m_fails (by decide)) ?_
              rintro x111 M111 r111 ⟨e111, h111⟩
              have f111 := fe_um31 e111
              replace F : frE w2E M _ := fe_tr F (fe_le f111 (fun q j h => Or.inl (by obtain ⟨rfl, rfl⟩ := h; exact wE_31)))
              replace s7 : M111 857 = _ := (funext (fun j => f111 857 j (by (try dsimp only); omega))).trans s7
              replace s8 : M111 858 = _ := (funext (fun j => f111 858 j (by (try dsimp only); omega))).trans s8
              refine at_pop dx_103_112 rfl ?_
              refine at_vretV dx_103_113 ?_
              have m31 := congrFun (congrFun e111 856) 31
              rw [um_eq] at m31
              refine ⟨MI_sq hM (fe_le F (fun q j h => w2_sq h)), F, ?_⟩
              first
              | (exfalso; omega)
              | exact Or.inl ⟨m31, by omega, s7, s8⟩
              | exact Or.inr (Or.inl ⟨m31, by omega, by first | omega | (intro h; have := ev_rem (a := a) h.2.1.1 h.2.1.2.1; omega), s7, s8⟩)
              | (have hra : RAr e a b := by have := ev_rem (a := a) (by omega) (by omega); omega
                 first
                 | exact Or.inr (Or.inr (Or.inr ⟨m31, by omega, hra, ⟨by omega, NoPm_of (by omega) (by omega) (by omega), (z87.mp (by omega)).2⟩, s7, s8⟩))
                 | exact Or.inr (Or.inr (Or.inl ⟨m31, by omega, hra, fun h => by have := h.1; have := NoPm_no h.2.1; first | omega | (have := z87.mpr ⟨by decide, h.2.2⟩; omega), s7, s8⟩)))
            · skip
              refine at_const (x := 1) dx_103_100 rfl ?_
              refine at_goto dx_103_101 ?_
              refine at_callVI dx_103_111 rfl lc_856 rfl (m_fails (by decide)) ?_
              rintro x111 M111 r111 ⟨e111, h111⟩
              have f111 := fe_um31 e111
              replace F : frE w2E M _ := fe_tr F (fe_le f111 (fun q j h => Or.inl (by obtain ⟨rfl, rfl⟩ := h; exact wE_31)))
              replace s7 : M111 857 = _ := (funext (fun j => f111 857 j (by (try dsimp only); omega))).trans s7
              replace s8 : M111 858 = _ := (funext (fun j => f111 858 j (by (try dsimp only); omega))).trans s8
              refine at_pop dx_103_112 rfl ?_
              refine at_vretV dx_103_113 ?_
              have m31 := congrFun (congrFun e111 856) 31
              rw [um_eq] at m31
              refine ⟨MI_sq hM (fe_le F (fun q j h => w2_sq h)), F, ?_⟩
              first
              | (exfalso; omega)
              | exact Or.inl ⟨m31, by omega, s7, s8⟩
              | exact Or.inr (Or.inl ⟨m31, by omega, by first | omega | (intro h; have := ev_rem (a := a) h.2.1.1 h.2.1.2.1; omega), s7, s8⟩)
              | (have hra : RAr e a b := by have := ev_rem (a := a) (by omega) (by omega); omega
                 first
                 | exact Or.inr (Or.inr (Or.inr ⟨m31, by omega, hra, ⟨by omega, NoPm_of (by omega) (by omega) (by omega), (z87.mp (by omega)).2⟩, s7, s8⟩))
                 | exact Or.inr (Or.inr (Or.inl ⟨m31, by omega, hra, fun h => by have := h.1; have := NoPm_no h.2.1; first | omega | (have := z87.mpr ⟨by decide, h.2.2⟩; omega), s7, s8⟩)))
  · skip
    refine at_iload dx_103_10 rfl ?_
    refine at_const (x := 0) dx_103_11 rfl ?_
    refine at_const (x := 126) dx_103_12 rfl ?_
    refine at_callSI dx_103_13 rfl rfl (m_isIn ra (by decide) (by decide)) ?_
    rintro x13 M9 r13 ⟨e9, h13⟩; replace e9 := e9.symm; subst e9; replace h13 := ite01 h13
    refine at_zeqR dx_103_14 r13 (fun c14 => ?_) (fun c14 => ?_)
    · skip
      refine at_const (x := 0) dx_103_26 rfl ?_
      refine at_istore dx_103_27 ?_
      refine at_iload dx_103_28 rfl ?_
      refine at_zeqR dx_103_29 r3 (fun c29 => ?_) (fun c29 => ?_)
      · skip
        refine at_const (x := 0) dx_103_38 rfl ?_
        refine at_istore dx_103_39 ?_
        refine at_aload dx_103_40 rfl ?_
        refine at_getR dx_103_41 lc_856 rfl lt_856_0 ?_
        refine at_iload dx_103_42 rfl ?_
        refine at_aldI dx_103_43 lc_857 ln_857 (by omega) (by omega) (fun r43 => ?_)
        refine at_istore dx_103_44 ?_
        refine at_aload dx_103_45 rfl ?_
        refine at_getR dx_103_46 lc_856 rfl lt_856_1 ?_
        refine at_iload dx_103_47 rfl ?_
        refine at_aldI dx_103_48 lc_858 ln_858 (by omega) (by omega) (fun r48 => ?_)
        refine at_istore dx_103_49 ?_
        refine at_aload dx_103_50 rfl ?_
        refine at_getI 13 dx_103_51 lc_856 rfl rfl (fun r51 => ?_)
        refine at_zneR dx_103_52 r51 (fun c52 => ?_) (fun c52 => ?_)
        · skip
          refine at_const (x := 0) dx_103_70 rfl ?_
          refine at_istore dx_103_71 ?_
          refine at_iload dx_103_72 rfl ?_
          refine at_zeqR dx_103_73 r3 (fun c73 => ?_) (fun c73 => ?_)
          · skip
            refine at_aload dx_103_97 rfl ?_
            refine at_iload dx_103_98 rfl ?_
            refine at_zneR dx_103_99 r3 (fun c99 => ?_) (fun c99 => ?_)
            · skip
              refine at_iload dx_103_102 rfl ?_
              refine at_zneR dx_103_103 (by decide) (fun c => absurd c (by decide)) (fun _ => ?_)
              refine at_const (x := 2) dx_103_104 rfl ?_
              refine at_goto dx_103_105 ?_
              refine at_callVI dx_103_111 rfl lc_856 rfl (m_fails (by decide)) ?_
              rintro x111 M111 r111 ⟨e111, h111⟩
              have f111 := fe_um31 e111
              replace F : frE w2E M _ := fe_tr F (fe_le f111 (fun q j h => Or.inl (by obtain ⟨rfl, rfl⟩ := h; exact wE_31)))
              replace s7 : M111 857 = _ := (funext (fun j => f111 857 j (by (try dsimp only); omega))).trans s7
              replace s8 : M111 858 = _ := (funext (fun j => f111 858 j (by (try dsimp only); omega))).trans s8
              refine at_pop dx_103_112 rfl ?_
              refine at_vretV dx_103_113 ?_
              have m31 := congrFun (congrFun e111 856) 31
              rw [um_eq] at m31
              refine ⟨MI_sq hM (fe_le F (fun q j h => w2_sq h)), F, ?_⟩
              first
              | (exfalso; omega)
              | exact Or.inl ⟨m31, by omega, s7, s8⟩
              | exact Or.inr (Or.inl ⟨m31, by omega, by first | omega | (intro h; have := ev_rem (a := a) h.2.1.1 h.2.1.2.1; omega), s7, s8⟩)
              | (have hra : RAr e a b := by have := ev_rem (a := a) (by omega) (by omega); omega
                 first
                 | exact Or.inr (Or.inr (Or.inr ⟨m31, by omega, hra, ⟨by omega, NoPm_of (by omega) (by omega) (by omega), (z87.mp (by omega)).2⟩, s7, s8⟩))
                 | exact Or.inr (Or.inr (Or.inl ⟨m31, by omega, hra, fun h => by have := h.1; have := NoPm_no h.2.1; first | omega | (have := z87.mpr ⟨by decide, h.2.2⟩; omega), s7, s8⟩)))
            · skip
              refine at_const (x := 1) dx_103_100 rfl ?_
              refine at_goto dx_103_101 ?_
              refine at_callVI dx_103_111 rfl lc_856 rfl (m_fails (by decide)) ?_
              rintro x111 M111 r111 ⟨e111, h111⟩
              have f111 := fe_um31 e111
              replace F : frE w2E M _ := fe_tr F (fe_le f111 (fun q j h => Or.inl (by obtain ⟨rfl, rfl⟩ := h; exact wE_31)))
              replace s7 : M111 857 = _ := (funext (fun j => f111 857 j (by (try dsimp only); omega))).trans s7
              replace s8 : M111 858 = _ := (funext (fun j => f111 858 j (by (try dsimp only); omega))).trans s8
              refine at_pop dx_103_112 rfl ?_
              refine at_vretV dx_103_113 ?_
              have m31 := congrFun (congrFun e111 856) 31
              rw [um_eq] at m31
              refine ⟨MI_sq hM (fe_le F (fun q j h => w2_sq h)), F, ?_⟩
              first
              | (exfalso; omega)
              | exact Or.inl ⟨m31, by omega, s7, s8⟩
              | exact Or.inr (Or.inl ⟨m31, by omega, by first | omega | (intro h; have := ev_rem (a := a) h.2.1.1 h.2.1.2.1; omega), s7, s8⟩)
              | (have hra : RAr e a b := by have := ev_rem (a := a) (by omega) (by omega); omega
                 first
                 | exact Or.inr (Or.inr (Or.inr ⟨m31, by omega, hra, ⟨by omega, NoPm_of (by omega) (by omega) (by omega), (z87.mp (by omega)).2⟩, s7, s8⟩))
                 | exact Or.inr (Or.inr (Or.inl ⟨m31, by omega, hra, fun h => by have := h.1; have := NoPm_no h.2.1; first | omega | (have := z87.mpr ⟨by decide, h.2.2⟩; omega), s7, s8⟩)))
          · skip
            refine at_iload dx_103_74 rfl ?_
            refine at_zeqR dx_103_75 (by decide) (fun _ => ?_) (fun c => absurd c (by decide))
            refine at_aload dx_103_97 rfl ?_
            refine at_iload dx_103_98 rfl ?_
            refine at_zneR dx_103_99 r3 (fun c99 => ?_) (fun c99 => ?_)
            · skip
              refine at_iload dx_103_102 rfl ?_
              refine at_zneR dx_103_103 (by decide) (fun c => absurd c (by decide)) (fun _ => ?_)
              refine at_const (x := 2) dx_103_104 rfl ?_
              refine at_goto dx_103_105 ?_
              refine at_callVI dx_103_111 rfl lc_856 rfl (m_fails (by decide)) ?_
              rintro x111 M111 r111 ⟨e111, h111⟩
              have f111 := fe_um31 e111
              replace F : frE w2E M _ := fe_tr F (fe_le f111 (fun q j h => Or.inl (by obtain ⟨rfl, rfl⟩ := h; exact wE_31)))
              replace s7 : M111 857 = _ := (funext (fun j => f111 857 j (by (try dsimp only); omega))).trans s7
              replace s8 : M111 858 = _ := (funext (fun j => f111 858 j (by (try dsimp only); omega))).trans s8
              refine at_pop dx_103_112 rfl ?_
              refine at_vretV dx_103_113 ?_
              have m31 := congrFun (congrFun e111 856) 31
              rw [um_eq] at m31
              refine ⟨MI_sq hM (fe_le F (fun q j h => w2_sq h)), F, ?_⟩
              first
              | (exfalso; omega)
              | exact Or.inl ⟨m31, by omega, s7, s8⟩
              | exact Or.inr (Or.inl ⟨m31, by omega, by first | omega | (intro h; have := ev_rem (a := a) h.2.1.1 h.2.1.2.1; omega), s7, s8⟩)
              | (have hra : RAr e a b := by have := ev_rem (a := a) (by omega) (by omega); omega
                 first
                 | exact Or.inr (Or.inr (Or.inr ⟨m31, by omega, hra, ⟨by omega, NoPm_of (by omega) (by omega) (by omega), (z87.mp (by omega)).2⟩, s7, s8⟩))
                 | exact Or.inr (Or.inr (Or.inl ⟨m31, by omega, hra, fun h => by have := h.1; have := NoPm_no h.2.1; first | omega | (have := z87.mpr ⟨by decide, h.2.2⟩; omega), s7, s8⟩)))
            · skip
              refine at_const (x := 1) dx_103_100 rfl ?_
              refine at_goto dx_103_101 ?_
              refine at_callVI dx_103_111 rfl lc_856 rfl (m_fails (by decide)) ?_
              rintro x111 M111 r111 ⟨e111, h111⟩
              have f111 := fe_um31 e111
              replace F : frE w2E M _ := fe_tr F (fe_le f111 (fun q j h => Or.inl (by obtain ⟨rfl, rfl⟩ := h; exact wE_31)))
              replace s7 : M111 857 = _ := (funext (fun j => f111 857 j (by (try dsimp only); omega))).trans s7
              replace s8 : M111 858 = _ := (funext (fun j => f111 858 j (by (try dsimp only); omega))).trans s8
              refine at_pop dx_103_112 rfl ?_
              refine at_vretV dx_103_113 ?_
              have m31 := congrFun (congrFun e111 856) 31
              rw [um_eq] at m31
              refine ⟨MI_sq hM (fe_le F (fun q j h => w2_sq h)), F, ?_⟩
              first
              | (exfalso; omega)
              | exact Or.inl ⟨m31, by omega, s7, s8⟩
              | exact Or.inr (Or.inl ⟨m31, by omega, by first | omega | (intro h; have := ev_rem (a := a) h.2.1.1 h.2.1.2.1; omega), s7, s8⟩)
              | (have hra : RAr e a b := by have := ev_rem (a := a) (by omega) (by omega); omega
                 first
                 | exact Or.inr (Or.inr (Or.inr ⟨m31, by omega, hra, ⟨by omega, NoPm_of (by omega) (by omega) (by omega), (z87.mp (by omega)).2⟩, s7, s8⟩))
                 | exact Or.inr (Or.inr (Or.inl ⟨m31, by omega, hra, fun h => by have := h.1; have := NoPm_no h.2.1; first | omega | (have := z87.mpr ⟨by decide, h.2.2⟩; omega), s7, s8⟩)))
        · skip
          refine at_aload dx_103_53 rfl ?_
          refine at_getR dx_103_54 lc_856 rfl lt_856_15 ?_
          refine at_const (x := 0) dx_103_55 rfl ?_
          refine at_aldI dx_103_56 lc_871 ln_871 (by decide) (by decide) (fun r56 => ?_)
          refine at_aload dx_103_57 rfl ?_
          refine at_getR dx_103_58 lc_856 rfl lt_856_15 ?_
          refine at_const (x := 1) dx_103_59 rfl ?_
          refine at_aldI dx_103_60 lc_871 ln_871 (by decide) (by decide) (fun r60 => ?_)
          refine at_addR dx_103_61 (by constructor <;> omega) (fun r61 => ?_)
          refine at_aload dx_103_62 rfl ?_
          refine at_getR dx_103_63 lc_856 rfl lt_856_15 ?_
          refine at_const (x := 2) dx_103_64 rfl ?_
          refine at_aldI dx_103_65 lc_871 ln_871 (by decide) (by decide) (fun r65 => ?_)
          refine at_addR dx_103_66 (by constructor <;> omega) (fun r66 => ?_)
          refine at_zneR dx_103_67 r66 (fun c67 => ?_) (fun c67 => ?_)
          · skip
            refine at_const (x := 0) dx_103_70 rfl ?_
            refine at_istore dx_103_71 ?_
            refine at_iload dx_103_72 rfl ?_
            refine at_zeqR dx_103_73 r3 (fun c73 => ?_) (fun c73 => ?_)
            · skip
              refine at_aload dx_103_97 rfl ?_
              refine at_iload dx_103_98 rfl ?_
              refine at_zneR dx_103_99 r3 (fun c99 => ?_) (fun c99 => ?_)
              · skip
                refine at_iload dx_103_102 rfl ?_
                refine at_zneR dx_103_103 (by decide) (fun c => absurd c (by decide)) (fun _ => ?_)
                refine at_const (x := 2) dx_103_104 rfl ?_
                refine at_goto dx_103_105 ?_
                refine at_callVI dx_103_111 rfl lc_856 rfl (m_fails (by decide)) ?_
                rintro x111 M111 r111 ⟨e111, h111⟩
                have f111 := fe_um31 e111
                replace F : frE w2E M _ := fe_tr F (fe_le f111 (fun q j h => Or.inl (by obtain ⟨rfl, rfl⟩ := h; exact wE_31)))
                replace s7 : M111 857 = _ := (funext (fun j => f111 857 j (by (try dsimp only); omega))).trans s7
                replace s8 : M111 858 = _ := (funext (fun j => f111 858 j (by (try dsimp only); omega))).trans s8
                refine at_pop dx_103_112 rfl ?_
                refine at_vretV dx_103_113 ?_
                have m31 := congrFun (congrFun e111 856) 31
                rw [um_eq] at m31
                refine ⟨MI_sq hM (fe_le F (fun q j h => w2_sq h)), F, ?_⟩
                first
                | (exfalso; omega)
                | exact Or.inl ⟨m31, by omega, s7, s8⟩
                | exact Or.inr (Or.inl ⟨m31, by omega, by first | omega | (intro h; have := ev_rem (a := a) h.2.1.1 h.2.1.2.1; omega), s7, s8⟩)
                | (have hra : RAr e a b := by have := ev_rem (a := a) (by omega) (by omega); omega
                   first
                   | exact Or.inr (Or.inr (Or.inr ⟨m31, by omega, hra, ⟨by omega, NoPm_of (by omega) (by omega) (by omega), (z87.mp (by omega)).2⟩, s7, s8⟩))
                   | exact Or.inr (Or.inr (Or.inl ⟨m31, by omega, hra, fun h => by have := h.1; have := NoPm_no h.2.1; first | omega | (have := z87.mpr ⟨by decide, h.2.2⟩; omega), s7, s8⟩)))
              · skip
                refine at_const (x := 1) dx_103_100 rfl ?_
                refine at_goto dx_103_101 ?_
                refine at_callVI dx_103_111 rfl lc_856 rfl (m_fails (by decide)) ?_
                rintro x111 M111 r111 ⟨e111, h111⟩
                have f111 := fe_um31 e111
                replace F : frE w2E M _ := fe_tr F (fe_le f111 (fun q j h => Or.inl (by obtain ⟨rfl, rfl⟩ := h; exact wE_31)))
                replace s7 : M111 857 = _ := (funext (fun j => f111 857 j (by (try dsimp only); omega))).trans s7
                replace s8 : M111 858 = _ := (funext (fun j => f111 858 j (by (try dsimp only); omega))).trans s8
                refine at_pop dx_103_112 rfl ?_
                refine at_vretV dx_103_113 ?_
                have m31 := congrFun (congrFun e111 856) 31
                rw [um_eq] at m31
                refine ⟨MI_sq hM (fe_le F (fun q j h => w2_sq h)), F, ?_⟩
                first
                | (exfalso; omega)
                | exact Or.inl ⟨m31, by omega, s7, s8⟩
                | exact Or.inr (Or.inl ⟨m31, by omega, by first | omega | (intro h; have := ev_rem (a := a) h.2.1.1 h.2.1.2.1; omega), s7, s8⟩)
                | (have hra : RAr e a b := by have := ev_rem (a := a) (by omega) (by omega); omega
                   first
                   | exact Or.inr (Or.inr (Or.inr ⟨m31, by omega, hra, ⟨by omega, NoPm_of (by omega) (by omega) (by omega), (z87.mp (by omega)).2⟩, s7, s8⟩))
                   | exact Or.inr (Or.inr (Or.inl ⟨m31, by omega, hra, fun h => by have := h.1; have := NoPm_no h.2.1; first | omega | (have := z87.mpr ⟨by decide, h.2.2⟩; omega), s7, s8⟩)))
            · skip
              refine at_iload dx_103_74 rfl ?_
              refine at_zeqR dx_103_75 (by decide) (fun _ => ?_) (fun c => absurd c (by decide))
              refine at_aload dx_103_97 rfl ?_
              refine at_iload dx_103_98 rfl ?_
              refine at_zneR dx_103_99 r3 (fun c99 => ?_) (fun c99 => ?_)
              · skip
                refine at_iload dx_103_102 rfl ?_
                refine at_zneR dx_103_103 (by decide) (fun c => absurd c (by decide)) (fun _ => ?_)
                refine at_const (x := 2) dx_103_104 rfl ?_
                refine at_goto dx_103_105 ?_
                refine at_callVI dx_103_111 rfl lc_856 rfl (m_fails (by decide)) ?_
                rintro x111 M111 r111 ⟨e111, h111⟩
                have f111 := fe_um31 e111
                replace F : frE w2E M _ := fe_tr F (fe_le f111 (fun q j h => Or.inl (by obtain ⟨rfl, rfl⟩ := h; exact wE_31)))
                replace s7 : M111 857 = _ := (funext (fun j => f111 857 j (by (try dsimp only); omega))).trans s7
                replace s8 : M111 858 = _ := (funext (fun j => f111 858 j (by (try dsimp only); omega))).trans s8
                refine at_pop dx_103_112 rfl ?_
                refine at_vretV dx_103_113 ?_
                have m31 := congrFun (congrFun e111 856) 31
                rw [um_eq] at m31
                refine ⟨MI_sq hM (fe_le F (fun q j h => w2_sq h)), F, ?_⟩
                first
                | (exfalso; omega)
                | exact Or.inl ⟨m31, by omega, s7, s8⟩
                | exact Or.inr (Or.inl ⟨m31, by omega, by first | omega | (intro h; have := ev_rem (a := a) h.2.1.1 h.2.1.2.1; omega), s7, s8⟩)
                | (have hra : RAr e a b := by have := ev_rem (a := a) (by omega) (by omega); omega
                   first
                   | exact Or.inr (Or.inr (Or.inr ⟨m31, by omega, hra, ⟨by omega, NoPm_of (by omega) (by omega) (by omega), (z87.mp (by omega)).2⟩, s7, s8⟩))
                   | exact Or.inr (Or.inr (Or.inl ⟨m31, by omega, hra, fun h => by have := h.1; have := NoPm_no h.2.1; first | omega | (have := z87.mpr ⟨by decide, h.2.2⟩; omega), s7, s8⟩)))
              · skip
                refine at_const (x := 1) dx_103_100 rfl ?_
                refine at_goto dx_103_101 ?_
                refine at_callVI dx_103_111 rfl lc_856 rfl (m_fails (by decide)) ?_
                rintro x111 M111 r111 ⟨e111, h111⟩
                have f111 := fe_um31 e111
                replace F : frE w2E M _ := fe_tr F (fe_le f111 (fun q j h => Or.inl (by obtain ⟨rfl, rfl⟩ := h; exact wE_31)))
                replace s7 : M111 857 = _ := (funext (fun j => f111 857 j (by (try dsimp only); omega))).trans s7
                replace s8 : M111 858 = _ := (funext (fun j => f111 858 j (by (try dsimp only); omega))).trans s8
                refine at_pop dx_103_112 rfl ?_
                refine at_vretV dx_103_113 ?_
                have m31 := congrFun (congrFun e111 856) 31
                rw [um_eq] at m31
                refine ⟨MI_sq hM (fe_le F (fun q j h => w2_sq h)), F, ?_⟩
                first
                | (exfalso; omega)
                | exact Or.inl ⟨m31, by omega, s7, s8⟩
                | exact Or.inr (Or.inl ⟨m31, by omega, by first | omega | (intro h; have := ev_rem (a := a) h.2.1.1 h.2.1.2.1; omega), s7, s8⟩)
                | (have hra : RAr e a b := by have := ev_rem (a := a) (by omega) (by omega); omega
                   first
                   | exact Or.inr (Or.inr (Or.inr ⟨m31, by omega, hra, ⟨by omega, NoPm_of (by omega) (by omega) (by omega), (z87.mp (by omega)).2⟩, s7, s8⟩))
                   | exact Or.inr (Or.inr (Or.inl ⟨m31, by omega, hra, fun h => by have := h.1; have := NoPm_no h.2.1; first | omega | (have := z87.mpr ⟨by decide, h.2.2⟩; omega), s7, s8⟩)))
          · skip
            refine at_const (x := 1) dx_103_68 rfl ?_
            refine at_goto dx_103_69 ?_
            refine at_istore dx_103_71 ?_
            refine at_iload dx_103_72 rfl ?_
            refine at_zeqR dx_103_73 r3 (fun c73 => ?_) (fun c73 => ?_)
            · skip
              refine at_aload dx_103_97 rfl ?_
              refine at_iload dx_103_98 rfl ?_
              refine at_zneR dx_103_99 r3 (fun c99 => ?_) (fun c99 => ?_)
              · skip
                refine at_iload dx_103_102 rfl ?_
                refine at_zneR dx_103_103 (by decide) (fun c => absurd c (by decide)) (fun _ => ?_)
                refine at_const (x := 2) dx_103_104 rfl ?_
                refine at_goto dx_103_105 ?_
                refine at_callVI dx_103_111 rfl lc_856 rfl (m_fails (by decide)) ?_
                rintro x111 M111 r111 ⟨e111, h111⟩
                have f111 := fe_um31 e111
                replace F : frE w2E M _ := fe_tr F (fe_le f111 (fun q j h => Or.inl (by obtain ⟨rfl, rfl⟩ := h; exact wE_31)))
                replace s7 : M111 857 = _ := (funext (fun j => f111 857 j (by (try dsimp only); omega))).trans s7
                replace s8 : M111 858 = _ := (funext (fun j => f111 858 j (by (try dsimp only); omega))).trans s8
                refine at_pop dx_103_112 rfl ?_
                refine at_vretV dx_103_113 ?_
                have m31 := congrFun (congrFun e111 856) 31
                rw [um_eq] at m31
                refine ⟨MI_sq hM (fe_le F (fun q j h => w2_sq h)), F, ?_⟩
                first
                | (exfalso; omega)
                | exact Or.inl ⟨m31, by omega, s7, s8⟩
                | exact Or.inr (Or.inl ⟨m31, by omega, by first | omega | (intro h; have := ev_rem (a := a) h.2.1.1 h.2.1.2.1; omega), s7, s8⟩)
                | (have hra : RAr e a b := by have := ev_rem (a := a) (by omega) (by omega); omega
                   first
                   | exact Or.inr (Or.inr (Or.inr ⟨m31, by omega, hra, ⟨by omega, NoPm_of (by omega) (by omega) (by omega), (z87.mp (by omega)).2⟩, s7, s8⟩))
                   | exact Or.inr (Or.inr (Or.inl ⟨m31, by omega, hra, fun h => by have := h.1; have := NoPm_no h.2.1; first | omega | (have := z87.mpr ⟨by decide, h.2.2⟩; omega), s7, s8⟩)))
              · skip
                refine at_const (x := 1) dx_103_100 rfl ?_
                refine at_goto dx_103_101 ?_
                refine at_callVI dx_103_111 rfl lc_856 rfl (m_fails (by decide)) ?_
                rintro x111 M111 r111 ⟨e111, h111⟩
                have f111 := fe_um31 e111
                replace F : frE w2E M _ := fe_tr F (fe_le f111 (fun q j h => Or.inl (by obtain ⟨rfl, rfl⟩ := h; exact wE_31)))
                replace s7 : M111 857 = _ := (funext (fun j => f111 857 j (by (try dsimp only); omega))).trans s7
                replace s8 : M111 858 = _ := (funext (fun j => f111 858 j (by (try dsimp only); omega))).trans s8
                refine at_pop dx_103_112 rfl ?_
                refine at_vretV dx_103_113 ?_
                have m31 := congrFun (congrFun e111 856) 31
                rw [um_eq] at m31
                refine ⟨MI_sq hM (fe_le F (fun q j h => w2_sq h)), F, ?_⟩
                first
                | (exfalso; omega)
                | exact Or.inl ⟨m31, by omega, s7, s8⟩
                | exact Or.inr (Or.inl ⟨m31, by omega, by first | omega | (intro h; have := ev_rem (a := a) h.2.1.1 h.2.1.2.1; omega), s7, s8⟩)
                | (have hra : RAr e a b := by have := ev_rem (a := a) (by omega) (by omega); omega
                   first
                   | exact Or.inr (Or.inr (Or.inr ⟨m31, by omega, hra, ⟨by omega, NoPm_of (by omega) (by omega) (by omega), (z87.mp (by omega)).2⟩, s7, s8⟩))
                   | exact Or.inr (Or.inr (Or.inl ⟨m31, by omega, hra, fun h => by have := h.1; have := NoPm_no h.2.1; first | omega | (have := z87.mpr ⟨by decide, h.2.2⟩; omega), s7, s8⟩)))
            · skip
              refine at_iload dx_103_74 rfl ?_
              refine at_zeqR dx_103_75 (by decide) (fun _ => ?_) (fun c => absurd c (by decide))
              refine at_aload dx_103_97 rfl ?_
              refine at_iload dx_103_98 rfl ?_
              refine at_zneR dx_103_99 r3 (fun c99 => ?_) (fun c99 => ?_)
              · skip
                refine at_iload dx_103_102 rfl ?_
                refine at_zneR dx_103_103 (by decide) (fun c => absurd c (by decide)) (fun _ => ?_)
                refine at_const (x := 2) dx_103_104 rfl ?_
                refine at_goto dx_103_105 ?_
                refine at_callVI dx_103_111 rfl lc_856 rfl (m_fails (by decide)) ?_
                rintro x111 M111 r111 ⟨e111, h111⟩
                have f111 := fe_um31 e111
                replace F : frE w2E M _ := fe_tr F (fe_le f111 (fun q j h => Or.inl (by obtain ⟨rfl, rfl⟩ := h; exact wE_31)))
                replace s7 : M111 857 = _ := (funext (fun j => f111 857 j (by (try dsimp only); omega))).trans s7
                replace s8 : M111 858 = _ := (funext (fun j => f111 858 j (by (try dsimp only); omega))).trans s8
                refine at_pop dx_103_112 rfl ?_
                refine at_vretV dx_103_113 ?_
                have m31 := congrFun (congrFun e111 856) 31
                rw [um_eq] at m31
                refine ⟨MI_sq hM (fe_le F (fun q j h => w2_sq h)), F, ?_⟩
                first
                | (exfalso; omega)
                | exact Or.inl ⟨m31, by omega, s7, s8⟩
                | exact Or.inr (Or.inl ⟨m31, by omega, by first | omega | (intro h; have := ev_rem (a := a) h.2.1.1 h.2.1.2.1; omega), s7, s8⟩)
                | (have hra : RAr e a b := by have := ev_rem (a := a) (by omega) (by omega); omega
                   first
                   | exact Or.inr (Or.inr (Or.inr ⟨m31, by omega, hra, ⟨by omega, NoPm_of (by omega) (by omega) (by omega), (z87.mp (by omega)).2⟩, s7, s8⟩))
                   | exact Or.inr (Or.inr (Or.inl ⟨m31, by omega, hra, fun h => by have := h.1; have := NoPm_no h.2.1; first | omega | (have := z87.mpr ⟨by decide, h.2.2⟩; omega), s7, s8⟩)))
              · skip
                refine at_const (x := 1) dx_103_100 rfl ?_
                refine at_goto dx_103_101 ?_
                refine at_callVI dx_103_111 rfl lc_856 rfl (m_fails (by decide)) ?_
                rintro x111 M111 r111 ⟨e111, h111⟩
                have f111 := fe_um31 e111
                replace F : frE w2E M _ := fe_tr F (fe_le f111 (fun q j h => Or.inl (by obtain ⟨rfl, rfl⟩ := h; exact wE_31)))
                replace s7 : M111 857 = _ := (funext (fun j => f111 857 j (by (try dsimp only); omega))).trans s7
                replace s8 : M111 858 = _ := (funext (fun j => f111 858 j (by (try dsimp only); omega))).trans s8
                refine at_pop dx_103_112 rfl ?_
                refine at_vretV dx_103_113 ?_
                have m31 := congrFun (congrFun e111 856) 31
                rw [um_eq] at m31
                refine ⟨MI_sq hM (fe_le F (fun q j h => w2_sq h)), F, ?_⟩
                first
                | (exfalso; omega)
                | exact Or.inl ⟨m31, by omega, s7, s8⟩
                | exact Or.inr (Or.inl ⟨m31, by omega, by first | omega | (intro h; have := ev_rem (a := a) h.2.1.1 h.2.1.2.1; omega), s7, s8⟩)
                | (have hra : RAr e a b := by have := ev_rem (a := a) (by omega) (by omega); omega
                   first
                   | exact Or.inr (Or.inr (Or.inr ⟨m31, by omega, hra, ⟨by omega, NoPm_of (by omega) (by omega) (by omega), (z87.mp (by omega)).2⟩, s7, s8⟩))
                   | exact Or.inr (Or.inr (Or.inl ⟨m31, by omega, hra, fun h => by have := h.1; have := NoPm_no h.2.1; first | omega | (have := z87.mpr ⟨by decide, h.2.2⟩; omega), s7, s8⟩)))
      · skip
        refine at_iload dx_103_30 rfl ?_
        refine at_zeqR dx_103_31 (by decide) (fun _ => ?_) (fun c => absurd c (by decide))
        refine at_const (x := 0) dx_103_38 rfl ?_
        refine at_istore dx_103_39 ?_
        refine at_aload dx_103_40 rfl ?_
        refine at_getR dx_103_41 lc_856 rfl lt_856_0 ?_
        refine at_iload dx_103_42 rfl ?_
        refine at_aldI dx_103_43 lc_857 ln_857 (by omega) (by omega) (fun r43 => ?_)
        refine at_istore dx_103_44 ?_
        refine at_aload dx_103_45 rfl ?_
        refine at_getR dx_103_46 lc_856 rfl lt_856_1 ?_
        refine at_iload dx_103_47 rfl ?_
        refine at_aldI dx_103_48 lc_858 ln_858 (by omega) (by omega) (fun r48 => ?_)
        refine at_istore dx_103_49 ?_
        refine at_aload dx_103_50 rfl ?_
        refine at_getI 13 dx_103_51 lc_856 rfl rfl (fun r51 => ?_)
        refine at_zneR dx_103_52 r51 (fun c52 => ?_) (fun c52 => ?_)
        · skip
          refine at_const (x := 0) dx_103_70 rfl ?_
          refine at_istore dx_103_71 ?_
          refine at_iload dx_103_72 rfl ?_
          refine at_zeqR dx_103_73 r3 (fun c73 => ?_) (fun c73 => ?_)
          · skip
            refine at_aload dx_103_97 rfl ?_
            refine at_iload dx_103_98 rfl ?_
            refine at_zneR dx_103_99 r3 (fun c99 => ?_) (fun c99 => ?_)
            · skip
              refine at_iload dx_103_102 rfl ?_
              refine at_zneR dx_103_103 (by decide) (fun c => absurd c (by decide)) (fun _ => ?_)
              refine at_const (x := 2) dx_103_104 rfl ?_
              refine at_goto dx_103_105 ?_
              refine at_callVI dx_103_111 rfl lc_856 rfl (m_fails (by decide)) ?_
              rintro x111 M111 r111 ⟨e111, h111⟩
              have f111 := fe_um31 e111
              replace F : frE w2E M _ := fe_tr F (fe_le f111 (fun q j h => Or.inl (by obtain ⟨rfl, rfl⟩ := h; exact wE_31)))
              replace s7 : M111 857 = _ := (funext (fun j => f111 857 j (by (try dsimp only); omega))).trans s7
              replace s8 : M111 858 = _ := (funext (fun j => f111 858 j (by (try dsimp only); omega))).trans s8
              refine at_pop dx_103_112 rfl ?_
              refine at_vretV dx_103_113 ?_
              have m31 := congrFun (congrFun e111 856) 31
              rw [um_eq] at m31
              refine ⟨MI_sq hM (fe_le F (fun q j h => w2_sq h)), F, ?_⟩
              first
              | (exfalso; omega)
              | exact Or.inl ⟨m31, by omega, s7, s8⟩
              | exact Or.inr (Or.inl ⟨m31, by omega, by first | omega | (intro h; have := ev_rem (a := a) h.2.1.1 h.2.1.2.1; omega), s7, s8⟩)
              | (have hra : RAr e a b := by have := ev_rem (a := a) (by omega) (by omega); omega
                 first
                 | exact Or.inr (Or.inr (Or.inr ⟨m31, by omega, hra, ⟨by omega, NoPm_of (by omega) (by omega) (by omega), (z87.mp (by omega)).2⟩, s7, s8⟩))
                 | exact Or.inr (Or.inr (Or.inl ⟨m31, by omega, hra, fun h => by have := h.1; have := NoPm_no h.2.1; first | omega | (have := z87.mpr ⟨by decide, h.2.2⟩; omega), s7, s8⟩)))
            · skip
              refine at_const (x := 1) dx_103_100 rfl ?_
              refine at_goto dx_103_101 ?_
              refine at_callVI dx_103_111 rfl lc_856 rfl (m_fails (by decide)) ?_
              rintro x111 M111 r111 ⟨e111, h111⟩
              have f111 := fe_um31 e111
              replace F : frE w2E M _ := fe_tr F (fe_le f111 (fun q j h => Or.inl (by obtain ⟨rfl, rfl⟩ := h; exact wE_31)))
              replace s7 : M111 857 = _ := (funext (fun j => f111 857 j (by (try dsimp only); omega))).trans s7
              replace s8 : M111 858 = _ := (funext (fun j => f111 858 j (by (try dsimp only); omega))).trans s8
              refine at_pop dx_103_112 rfl ?_
              refine at_vretV dx_103_113 ?_
              have m31 := congrFun (congrFun e111 856) 31
              rw [um_eq] at m31
              refine ⟨MI_sq hM (fe_le F (fun q j h => w2_sq h)), F, ?_⟩
              first
              | (exfalso; omega)
              | exact Or.inl ⟨m31, by omega, s7, s8⟩
              | exact Or.inr (Or.inl ⟨m31, by omega, by first | omega | (intro h; have := ev_rem (a := a) h.2.1.1 h.2.1.2.1; omega), s7, s8⟩)
              | (have hra : RAr e a b := by have := ev_rem (a := a) (by omega) (by omega); omega
                 first
                 | exact Or.inr (Or.inr (Or.inr ⟨m31, by omega, hra, ⟨by omega, NoPm_of (by omega) (by omega) (by omega), (z87.mp (by omega)).2⟩, s7, s8⟩))
                 | exact Or.inr (Or.inr (Or.inl ⟨m31, by omega, hra, fun h => by have := h.1; have := NoPm_no h.2.1; first | omega | (have := z87.mpr ⟨by decide, h.2.2⟩; omega), s7, s8⟩)))
          · skip
            refine at_iload dx_103_74 rfl ?_
            refine at_zeqR dx_103_75 (by decide) (fun _ => ?_) (fun c => absurd c (by decide))
            refine at_aload dx_103_97 rfl ?_
            refine at_iload dx_103_98 rfl ?_
            refine at_zneR dx_103_99 r3 (fun c99 => ?_) (fun c99 => ?_)
            · skip
              refine at_iload dx_103_102 rfl ?_
              refine at_zneR dx_103_103 (by decide) (fun c => absurd c (by decide)) (fun _ => ?_)
              refine at_const (x := 2) dx_103_104 rfl ?_
              refine at_goto dx_103_105 ?_
              refine at_callVI dx_103_111 rfl lc_856 rfl (m_fails (by decide)) ?_
              rintro x111 M111 r111 ⟨e111, h111⟩
              have f111 := fe_um31 e111
              replace F : frE w2E M _ := fe_tr F (fe_le f111 (fun q j h => Or.inl (by obtain ⟨rfl, rfl⟩ := h; exact wE_31)))
              replace s7 : M111 857 = _ := (funext (fun j => f111 857 j (by (try dsimp only); omega))).trans s7
              replace s8 : M111 858 = _ := (funext (fun j => f111 858 j (by (try dsimp only); omega))).trans s8
              refine at_pop dx_103_112 rfl ?_
              refine at_vretV dx_103_113 ?_
              have m31 := congrFun (congrFun e111 856) 31
              rw [um_eq] at m31
              refine ⟨MI_sq hM (fe_le F (fun q j h => w2_sq h)), F, ?_⟩
              first
              | (exfalso; omega)
              | exact Or.inl ⟨m31, by omega, s7, s8⟩
              | exact Or.inr (Or.inl ⟨m31, by omega, by first | omega | (intro h; have := ev_rem (a := a) h.2.1.1 h.2.1.2.1; omega), s7, s8⟩)
              | (have hra : RAr e a b := by have := ev_rem (a := a) (by omega) (by omega); omega
                 first
                 | exact Or.inr (Or.inr (Or.inr ⟨m31, by omega, hra, ⟨by omega, NoPm_of (by omega) (by omega) (by omega), (z87.mp (by omega)).2⟩, s7, s8⟩))
                 | exact Or.inr (Or.inr (Or.inl ⟨m31, by omega, hra, fun h => by have := h.1; have := NoPm_no h.2.1; first | omega | (have := z87.mpr ⟨by decide, h.2.2⟩; omega), s7, s8⟩)))
            · skip
              refine at_const (x := 1) dx_103_100 rfl ?_
              refine at_goto dx_103_101 ?_
              refine at_callVI dx_103_111 rfl lc_856 rfl (m_fails (by decide)) ?_
              rintro x111 M111 r111 ⟨e111, h111⟩
              have f111 := fe_um31 e111
              replace F : frE w2E M _ := fe_tr F (fe_le f111 (fun q j h => Or.inl (by obtain ⟨rfl, rfl⟩ := h; exact wE_31)))
              replace s7 : M111 857 = _ := (funext (fun j => f111 857 j (by (try dsimp only); omega))).trans s7
              replace s8 : M111 858 = _ := (funext (fun j => f111 858 j (by (try dsimp only); omega))).trans s8
              refine at_pop dx_103_112 rfl ?_
              refine at_vretV dx_103_113 ?_
              have m31 := congrFun (congrFun e111 856) 31
              rw [um_eq] at m31
              refine ⟨MI_sq hM (fe_le F (fun q j h => w2_sq h)), F, ?_⟩
              first
              | (exfalso; omega)
              | exact Or.inl ⟨m31, by omega, s7, s8⟩
              | exact Or.inr (Or.inl ⟨m31, by omega, by first | omega | (intro h; have := ev_rem (a := a) h.2.1.1 h.2.1.2.1; omega), s7, s8⟩)
              | (have hra : RAr e a b := by have := ev_rem (a := a) (by omega) (by omega); omega
                 first
                 | exact Or.inr (Or.inr (Or.inr ⟨m31, by omega, hra, ⟨by omega, NoPm_of (by omega) (by omega) (by omega), (z87.mp (by omega)).2⟩, s7, s8⟩))
                 | exact Or.inr (Or.inr (Or.inl ⟨m31, by omega, hra, fun h => by have := h.1; have := NoPm_no h.2.1; first | omega | (have := z87.mpr ⟨by decide, h.2.2⟩; omega), s7, s8⟩)))
        · skip
          refine at_aload dx_103_53 rfl ?_
          refine at_getR dx_103_54 lc_856 rfl lt_856_15 ?_
          refine at_const (x := 0) dx_103_55 rfl ?_
          refine at_aldI dx_103_56 lc_871 ln_871 (by decide) (by decide) (fun r56 => ?_)
          refine at_aload dx_103_57 rfl ?_
          refine at_getR dx_103_58 lc_856 rfl lt_856_15 ?_
          refine at_const (x := 1) dx_103_59 rfl ?_
          refine at_aldI dx_103_60 lc_871 ln_871 (by decide) (by decide) (fun r60 => ?_)
          refine at_addR dx_103_61 (by constructor <;> omega) (fun r61 => ?_)
          refine at_aload dx_103_62 rfl ?_
          refine at_getR dx_103_63 lc_856 rfl lt_856_15 ?_
          refine at_const (x := 2) dx_103_64 rfl ?_
          refine at_aldI dx_103_65 lc_871 ln_871 (by decide) (by decide) (fun r65 => ?_)
          refine at_addR dx_103_66 (by constructor <;> omega) (fun r66 => ?_)
          refine at_zneR dx_103_67 r66 (fun c67 => ?_) (fun c67 => ?_)
          · skip
            refine at_const (x := 0) dx_103_70 rfl ?_
            refine at_istore dx_103_71 ?_
            refine at_iload dx_103_72 rfl ?_
            refine at_zeqR dx_103_73 r3 (fun c73 => ?_) (fun c73 => ?_)
            · skip
              refine at_aload dx_103_97 rfl ?_
              refine at_iload dx_103_98 rfl ?_
              refine at_zneR dx_103_99 r3 (fun c99 => ?_) (fun c99 => ?_)
              · skip
                refine at_iload dx_103_102 rfl ?_
                refine at_zneR dx_103_103 (by decide) (fun c => absurd c (by decide)) (fun _ => ?_)
                refine at_const (x := 2) dx_103_104 rfl ?_
                refine at_goto dx_103_105 ?_
                refine at_callVI dx_103_111 rfl lc_856 rfl (m_fails (by decide)) ?_
                rintro x111 M111 r111 ⟨e111, h111⟩
                have f111 := fe_um31 e111
                replace F : frE w2E M _ := fe_tr F (fe_le f111 (fun q j h => Or.inl (by obtain ⟨rfl, rfl⟩ := h; exact wE_31)))
                replace s7 : M111 857 = _ := (funext (fun j => f111 857 j (by (try dsimp only); omega))).trans s7
                replace s8 : M111 858 = _ := (funext (fun j => f111 858 j (by (try dsimp only); omega))).trans s8
                refine at_pop dx_103_112 rfl ?_
                refine at_vretV dx_103_113 ?_
                have m31 := congrFun (congrFun e111 856) 31
                rw [um_eq] at m31
                refine ⟨MI_sq hM (fe_le F (fun q j h => w2_sq h)), F, ?_⟩
                first
                | (exfalso; omega)
                | exact Or.inl ⟨m31, by omega, s7, s8⟩
                | exact Or.inr (Or.inl ⟨m31, by omega, by first | omega | (intro h; have := ev_rem (a := a) h.2.1.1 h.2.1.2.1; omega), s7, s8⟩)
                | (have hra : RAr e a b := by have := ev_rem (a := a) (by omega) (by omega); omega
                   first
                   | exact Or.inr (Or.inr (Or.inr ⟨m31, by omega, hra, ⟨by omega, NoPm_of (by omega) (by omega) (by omega), (z87.mp (by omega)).2⟩, s7, s8⟩))
                   | exact Or.inr (Or.inr (Or.inl ⟨m31, by omega, hra, fun h => by have := h.1; have := NoPm_no h.2.1; first | omega | (have := z87.mpr ⟨by decide, h.2.2⟩; omega), s7, s8⟩)))
              · skip
                refine at_const (x := 1) dx_103_100 rfl ?_
                refine at_goto dx_103_101 ?_
                refine at_callVI dx_103_111 rfl lc_856 rfl (m_fails (by decide)) ?_
                rintro x111 M111 r111 ⟨e111, h111⟩
                have f111 := fe_um31 e111
                replace F : frE w2E M _ := fe_tr F (fe_le f111 (fun q j h => Or.inl (by obtain ⟨rfl, rfl⟩ := h; exact wE_31)))
                replace s7 : M111 857 = _ := (funext (fun j => f111 857 j (by (try dsimp only); omega))).trans s7
                replace s8 : M111 858 = _ := (funext (fun j => f111 858 j (by (try dsimp only); omega))).trans s8
                refine at_pop dx_103_112 rfl ?_
                refine at_vretV dx_103_113 ?_
                have m31 := congrFun (congrFun e111 856) 31
                rw [um_eq] at m31
                refine ⟨MI_sq hM (fe_le F (fun q j h => w2_sq h)), F, ?_⟩
                first
                | (exfalso; omega)
                | exact Or.inl ⟨m31, by omega, s7, s8⟩
                | exact Or.inr (Or.inl ⟨m31, by omega, by first | omega | (intro h; have := ev_rem (a := a) h.2.1.1 h.2.1.2.1; omega), s7, s8⟩)
                | (have hra : RAr e a b := by have := ev_rem (a := a) (by omega) (by omega); omega
                   first
                   | exact Or.inr (Or.inr (Or.inr ⟨m31, by omega, hra, ⟨by omega, NoPm_of (by omega) (by omega) (by omega), (z87.mp (by omega)).2⟩, s7, s8⟩))
                   | exact Or.inr (Or.inr (Or.inl ⟨m31, by omega, hra, fun h => by have := h.1; have := NoPm_no h.2.1; first | omega | (have := z87.mpr ⟨by decide, h.2.2⟩; omega), s7, s8⟩)))
            · skip
              refine at_iload dx_103_74 rfl ?_
              refine at_zeqR dx_103_75 (by decide) (fun _ => ?_) (fun c => absurd c (by decide))
              refine at_aload dx_103_97 rfl ?_
              refine at_iload dx_103_98 rfl ?_
              refine at_zneR dx_103_99 r3 (fun c99 => ?_) (fun c99 => ?_)
              · skip
                refine at_iload dx_103_102 rfl ?_
                refine at_zneR dx_103_103 (by decide) (fun c => absurd c (by decide)) (fun _ => ?_)
                refine at_const (x := 2) dx_103_104 rfl ?_
                refine at_goto dx_103_105 ?_
                refine at_callVI dx_103_111 rfl lc_856 rfl (m_fails (by decide)) ?_
                rintro x111 M111 r111 ⟨e111, h111⟩
                have f111 := fe_um31 e111
                replace F : frE w2E M _ := fe_tr F (fe_le f111 (fun q j h => Or.inl (by obtain ⟨rfl, rfl⟩ := h; exact wE_31)))
                replace s7 : M111 857 = _ := (funext (fun j => f111 857 j (by (try dsimp only); omega))).trans s7
                replace s8 : M111 858 = _ := (funext (fun j => f111 858 j (by (try dsimp only); omega))).trans s8
                refine at_pop dx_103_112 rfl ?_
                refine at_vretV dx_103_113 ?_
                have m31 := congrFun (congrFun e111 856) 31
                rw [um_eq] at m31
                refine ⟨MI_sq hM (fe_le F (fun q j h => w2_sq h)), F, ?_⟩
                first
                | (exfalso; omega)
                | exact Or.inl ⟨m31, by omega, s7, s8⟩
                | exact Or.inr (Or.inl ⟨m31, by omega, by first | omega | (intro h; have := ev_rem (a := a) h.2.1.1 h.2.1.2.1; omega), s7, s8⟩)
                | (have hra : RAr e a b := by have := ev_rem (a := a) (by omega) (by omega); omega
                   first
                   | exact Or.inr (Or.inr (Or.inr ⟨m31, by omega, hra, ⟨by omega, NoPm_of (by omega) (by omega) (by omega), (z87.mp (by omega)).2⟩, s7, s8⟩))
                   | exact Or.inr (Or.inr (Or.inl ⟨m31, by omega, hra, fun h => by have := h.1; have := NoPm_no h.2.1; first | omega | (have := z87.mpr ⟨by decide, h.2.2⟩; omega), s7, s8⟩)))
              · skip
                refine at_const (x := 1) dx_103_100 rfl ?_
                refine at_goto dx_103_101 ?_
                refine at_callVI dx_103_111 rfl lc_856 rfl (m_fails (by decide)) ?_
                rintro x111 M111 r111 ⟨e111, h111⟩
                have f111 := fe_um31 e111
                replace F : frE w2E M _ := fe_tr F (fe_le f111 (fun q j h => Or.inl (by obtain ⟨rfl, rfl⟩ := h; exact wE_31)))
                replace s7 : M111 857 = _ := (funext (fun j => f111 857 j (by (try dsimp only); omega))).trans s7
                replace s8 : M111 858 = _ := (funext (fun j => f111 858 j (by (try dsimp only); omega))).trans s8
                refine at_pop dx_103_112 rfl ?_
                refine at_vretV dx_103_113 ?_
                have m31 := congrFun (congrFun e111 856) 31
                rw [um_eq] at m31
                refine ⟨MI_sq hM (fe_le F (fun q j h => w2_sq h)), F, ?_⟩
                first
                | (exfalso; omega)
                | exact Or.inl ⟨m31, by omega, s7, s8⟩
                | exact Or.inr (Or.inl ⟨m31, by omega, by first | omega | (intro h; have := ev_rem (a := a) h.2.1.1 h.2.1.2.1; omega), s7, s8⟩)
                | (have hra : RAr e a b := by have := ev_rem (a := a) (by omega) (by omega); omega
                   first
                   | exact Or.inr (Or.inr (Or.inr ⟨m31, by omega, hra, ⟨by omega, NoPm_of (by omega) (by omega) (by omega), (z87.mp (by omega)).2⟩, s7, s8⟩))
                   | exact Or.inr (Or.inr (Or.inl ⟨m31, by omega, hra, fun h => by have := h.1; have := NoPm_no h.2.1; first | omega | (have := z87.mpr ⟨by decide, h.2.2⟩; omega), s7, s8⟩)))
          · skip
            refine at_const (x := 1) dx_103_68 rfl ?_
            refine at_goto dx_103_69 ?_
            refine at_istore dx_103_71 ?_
            refine at_iload dx_103_72 rfl ?_
            refine at_zeqR dx_103_73 r3 (fun c73 => ?_) (fun c73 => ?_)
            · skip
              refine at_aload dx_103_97 rfl ?_
              refine at_iload dx_103_98 rfl ?_
              refine at_zneR dx_103_99 r3 (fun c99 => ?_) (fun c99 => ?_)
              · skip
                refine at_iload dx_103_102 rfl ?_
                refine at_zneR dx_103_103 (by decide) (fun c => absurd c (by decide)) (fun _ => ?_)
                refine at_const (x := 2) dx_103_104 rfl ?_
                refine at_goto dx_103_105 ?_
                refine at_callVI dx_103_111 rfl lc_856 rfl (m_fails (by decide)) ?_
                rintro x111 M111 r111 ⟨e111, h111⟩
                have f111 := fe_um31 e111
                replace F : frE w2E M _ := fe_tr F (fe_le f111 (fun q j h => Or.inl (by obtain ⟨rfl, rfl⟩ := h; exact wE_31)))
                replace s7 : M111 857 = _ := (funext (fun j => f111 857 j (by (try dsimp only); omega))).trans s7
                replace s8 : M111 858 = _ := (funext (fun j => f111 858 j (by (try dsimp only); omega))).trans s8
                refine at_pop dx_103_112 rfl ?_
                refine at_vretV dx_103_113 ?_
                have m31 := congrFun (congrFun e111 856) 31
                rw [um_eq] at m31
                refine ⟨MI_sq hM (fe_le F (fun q j h => w2_sq h)), F, ?_⟩
                first
                | (exfalso; omega)
                | exact Or.inl ⟨m31, by omega, s7, s8⟩
                | exact Or.inr (Or.inl ⟨m31, by omega, by first | omega | (intro h; have := ev_rem (a := a) h.2.1.1 h.2.1.2.1; omega), s7, s8⟩)
                | (have hra : RAr e a b := by have := ev_rem (a := a) (by omega) (by omega); omega
                   first
                   | exact Or.inr (Or.inr (Or.inr ⟨m31, by omega, hra, ⟨by omega, NoPm_of (by omega) (by omega) (by omega), (z87.mp (by omega)).2⟩, s7, s8⟩))
                   | exact Or.inr (Or.inr (Or.inl ⟨m31, by omega, hra, fun h => by have := h.1; have := NoPm_no h.2.1; first | omega | (have := z87.mpr ⟨by decide, h.2.2⟩; omega), s7, s8⟩)))
              · skip
                refine at_const (x := 1) dx_103_100 rfl ?_
                refine at_goto dx_103_101 ?_
                refine at_callVI dx_103_111 rfl lc_856 rfl (m_fails (by decide)) ?_
                rintro x111 M111 r111 ⟨e111, h111⟩
                have f111 := fe_um31 e111
                replace F : frE w2E M _ := fe_tr F (fe_le f111 (fun q j h => Or.inl (by obtain ⟨rfl, rfl⟩ := h; exact wE_31)))
                replace s7 : M111 857 = _ := (funext (fun j => f111 857 j (by (try dsimp only); omega))).trans s7
                replace s8 : M111 858 = _ := (funext (fun j => f111 858 j (by (try dsimp only); omega))).trans s8
                refine at_pop dx_103_112 rfl ?_
                refine at_vretV dx_103_113 ?_
                have m31 := congrFun (congrFun e111 856) 31
                rw [um_eq] at m31
                refine ⟨MI_sq hM (fe_le F (fun q j h => w2_sq h)), F, ?_⟩
                first
                | (exfalso; omega)
                | exact Or.inl ⟨m31, by omega, s7, s8⟩
                | exact Or.inr (Or.inl ⟨m31, by omega, by first | omega | (intro h; have := ev_rem (a := a) h.2.1.1 h.2.1.2.1; omega), s7, s8⟩)
                | (have hra : RAr e a b := by have := ev_rem (a := a) (by omega) (by omega); omega
                   first
                   | exact Or.inr (Or.inr (Or.inr ⟨m31, by omega, hra, ⟨by omega, NoPm_of (by omega) (by omega) (by omega), (z87.mp (by omega)).2⟩, s7, s8⟩))
                   | exact Or.inr (Or.inr (Or.inl ⟨m31, by omega, hra, fun h => by have := h.1; have := NoPm_no h.2.1; first | omega | (have := z87.mpr ⟨by decide, h.2.2⟩; omega), s7, s8⟩)))
            · skip
              refine at_iload dx_103_74 rfl ?_
              refine at_zeqR dx_103_75 (by decide) (fun _ => ?_) (fun c => absurd c (by decide))
              refine at_aload dx_103_97 rfl ?_
              refine at_iload dx_103_98 rfl ?_
              refine at_zneR dx_103_99 r3 (fun c99 => ?_) (fun c99 => ?_)
              · skip
                refine at_iload dx_103_102 rfl ?_
                refine at_zneR dx_103_103 (by decide) (fun c => absurd c (by decide)) (fun _ => ?_)
                refine at_const (x := 2) dx_103_104 rfl ?_
                refine at_goto dx_103_105 ?_
                refine at_callVI dx_103_111 rfl lc_856 rfl (m_fails (by decide)) ?_
                rintro x111 M111 r111 ⟨e111, h111⟩
                have f111 := fe_um31 e111
                replace F : frE w2E M _ := fe_tr F (fe_le f111 (fun q j h => Or.inl (by obtain ⟨rfl, rfl⟩ := h; exact wE_31)))
                replace s7 : M111 857 = _ := (funext (fun j => f111 857 j (by (try dsimp only); omega))).trans s7
                replace s8 : M111 858 = _ := (funext (fun j => f111 858 j (by (try dsimp only); omega))).trans s8
                refine at_pop dx_103_112 rfl ?_
                refine at_vretV dx_103_113 ?_
                have m31 := congrFun (congrFun e111 856) 31
                rw [um_eq] at m31
                refine ⟨MI_sq hM (fe_le F (fun q j h => w2_sq h)), F, ?_⟩
                first
                | (exfalso; omega)
                | exact Or.inl ⟨m31, by omega, s7, s8⟩
                | exact Or.inr (Or.inl ⟨m31, by omega, by first | omega | (intro h; have := ev_rem (a := a) h.2.1.1 h.2.1.2.1; omega), s7, s8⟩)
                | (have hra : RAr e a b := by have := ev_rem (a := a) (by omega) (by omega); omega
                   first
                   | exact Or.inr (Or.inr (Or.inr ⟨m31, by omega, hra, ⟨by omega, NoPm_of (by omega) (by omega) (by omega), (z87.mp (by omega)).2⟩, s7, s8⟩))
                   | exact Or.inr (Or.inr (Or.inl ⟨m31, by omega, hra, fun h => by have := h.1; have := NoPm_no h.2.1; first | omega | (have := z87.mpr ⟨by decide, h.2.2⟩; omega), s7, s8⟩)))
              · skip
                refine at_const (x := 1) dx_103_100 rfl ?_
                refine at_goto dx_103_101 ?_
                refine at_callVI dx_103_111 rfl lc_856 rfl (m_fails (by decide)) ?_
                rintro x111 M111 r111 ⟨e111, h111⟩
                have f111 := fe_um31 e111
                replace F : frE w2E M _ := fe_tr F (fe_le f111 (fun q j h => Or.inl (by obtain ⟨rfl, rfl⟩ := h; exact wE_31)))
                replace s7 : M111 857 = _ := (funext (fun j => f111 857 j (by (try dsimp only); omega))).trans s7
                replace s8 : M111 858 = _ := (funext (fun j => f111 858 j (by (try dsimp only); omega))).trans s8
                refine at_pop dx_103_112 rfl ?_
                refine at_vretV dx_103_113 ?_
                have m31 := congrFun (congrFun e111 856) 31
                rw [um_eq] at m31
                refine ⟨MI_sq hM (fe_le F (fun q j h => w2_sq h)), F, ?_⟩
                first
                | (exfalso; omega)
                | exact Or.inl ⟨m31, by omega, s7, s8⟩
                | exact Or.inr (Or.inl ⟨m31, by omega, by first | omega | (intro h; have := ev_rem (a := a) h.2.1.1 h.2.1.2.1; omega), s7, s8⟩)
                | (have hra : RAr e a b := by have := ev_rem (a := a) (by omega) (by omega); omega
                   first
                   | exact Or.inr (Or.inr (Or.inr ⟨m31, by omega, hra, ⟨by omega, NoPm_of (by omega) (by omega) (by omega), (z87.mp (by omega)).2⟩, s7, s8⟩))
                   | exact Or.inr (Or.inr (Or.inl ⟨m31, by omega, hra, fun h => by have := h.1; have := NoPm_no h.2.1; first | omega | (have := z87.mpr ⟨by decide, h.2.2⟩; omega), s7, s8⟩)))
    · skip
      refine at_iload dx_103_15 rfl ?_
      refine at_const (x := 2) dx_103_16 rfl ?_
      refine at_rem dx_103_17 (by decide) ?_
      refine at_zneR dx_103_18 (inR_rem _ _) (fun c18 => ?_) (fun c18 => ?_)
      · skip
        refine at_const (x := 0) dx_103_26 rfl ?_
        refine at_istore dx_103_27 ?_
        refine at_iload dx_103_28 rfl ?_
        refine at_zeqR dx_103_29 r3 (fun c29 => ?_) (fun c29 => ?_)
        · skip
          refine at_const (x := 0) dx_103_38 rfl ?_
          refine at_istore dx_103_39 ?_
          refine at_aload dx_103_40 rfl ?_
          refine at_getR dx_103_41 lc_856 rfl lt_856_0 ?_
          refine at_iload dx_103_42 rfl ?_
          refine at_aldI dx_103_43 lc_857 ln_857 (by omega) (by omega) (fun r43 => ?_)
          refine at_istore dx_103_44 ?_
          refine at_aload dx_103_45 rfl ?_
          refine at_getR dx_103_46 lc_856 rfl lt_856_1 ?_
          refine at_iload dx_103_47 rfl ?_
          refine at_aldI dx_103_48 lc_858 ln_858 (by omega) (by omega) (fun r48 => ?_)
          refine at_istore dx_103_49 ?_
          refine at_aload dx_103_50 rfl ?_
          refine at_getI 13 dx_103_51 lc_856 rfl rfl (fun r51 => ?_)
          refine at_zneR dx_103_52 r51 (fun c52 => ?_) (fun c52 => ?_)
          · skip
            refine at_const (x := 0) dx_103_70 rfl ?_
            refine at_istore dx_103_71 ?_
            refine at_iload dx_103_72 rfl ?_
            refine at_zeqR dx_103_73 r3 (fun c73 => ?_) (fun c73 => ?_)
            · skip
              refine at_aload dx_103_97 rfl ?_
              refine at_iload dx_103_98 rfl ?_
              refine at_zneR dx_103_99 r3 (fun c99 => ?_) (fun c99 => ?_)
              · skip
                refine at_iload dx_103_102 rfl ?_
                refine at_zneR dx_103_103 (by decide) (fun c => absurd c (by decide)) (fun _ => ?_)
                refine at_const (x := 2) dx_103_104 rfl ?_
                refine at_goto dx_103_105 ?_
                refine at_callVI dx_103_111 rfl lc_856 rfl (m_fails (by decide)) ?_
                rintro x111 M111 r111 ⟨e111, h111⟩
                have f111 := fe_um31 e111
                replace F : frE w2E M _ := fe_tr F (fe_le f111 (fun q j h => Or.inl (by obtain ⟨rfl, rfl⟩ := h; exact wE_31)))
                replace s7 : M111 857 = _ := (funext (fun j => f111 857 j (by (try dsimp only); omega))).trans s7
                replace s8 : M111 858 = _ := (funext (fun j => f111 858 j (by (try dsimp only); omega))).trans s8
                refine at_pop dx_103_112 rfl ?_
                refine at_vretV dx_103_113 ?_
                have m31 := congrFun (congrFun e111 856) 31
                rw [um_eq] at m31
                refine ⟨MI_sq hM (fe_le F (fun q j h => w2_sq h)), F, ?_⟩
                first
                | (exfalso; omega)
                | exact Or.inl ⟨m31, by omega, s7, s8⟩
                | exact Or.inr (Or.inl ⟨m31, by omega, by first | omega | (intro h; have := ev_rem (a := a) h.2.1.1 h.2.1.2.1; omega), s7, s8⟩)
                | (have hra : RAr e a b := by have := ev_rem (a := a) (by omega) (by omega); omega
                   first
                   | exact Or.inr (Or.inr (Or.inr ⟨m31, by omega, hra, ⟨by omega, NoPm_of (by omega) (by omega) (by omega), (z87.mp (by omega)).2⟩, s7, s8⟩))
                   | exact Or.inr (Or.inr (Or.inl ⟨m31, by omega, hra, fun h => by have := h.1; have := NoPm_no h.2.1; first | omega | (have := z87.mpr ⟨by decide, h.2.2⟩; omega), s7, s8⟩)))
              · skip
                refine at_const (x := 1) dx_103_100 rfl ?_
                refine at_goto dx_103_101 ?_
                refine at_callVI dx_103_111 rfl lc_856 rfl (m_fails (by decide)) ?_
                rintro x111 M111 r111 ⟨e111, h111⟩
                have f111 := fe_um31 e111
                replace F : frE w2E M _ := fe_tr F (fe_le f111 (fun q j h => Or.inl (by obtain ⟨rfl, rfl⟩ := h; exact wE_31)))
                replace s7 : M111 857 = _ := (funext (fun j => f111 857 j (by (try dsimp only); omega))).trans s7
                replace s8 : M111 858 = _ := (funext (fun j => f111 858 j (by (try dsimp only); omega))).trans s8
                refine at_pop dx_103_112 rfl ?_
                refine at_vretV dx_103_113 ?_
                have m31 := congrFun (congrFun e111 856) 31
                rw [um_eq] at m31
                refine ⟨MI_sq hM (fe_le F (fun q j h => w2_sq h)), F, ?_⟩
                first
                | (exfalso; omega)
                | exact Or.inl ⟨m31, by omega, s7, s8⟩
                | exact Or.inr (Or.inl ⟨m31, by omega, by first | omega | (intro h; have := ev_rem (a := a) h.2.1.1 h.2.1.2.1; omega), s7, s8⟩)
                | (have hra : RAr e a b := by have := ev_rem (a := a) (by omega) (by omega); omega
                   first
                   | exact Or.inr (Or.inr (Or.inr ⟨m31, by omega, hra, ⟨by omega, NoPm_of (by omega) (by omega) (by omega), (z87.mp (by omega)).2⟩, s7, s8⟩))
                   | exact Or.inr (Or.inr (Or.inl ⟨m31, by omega, hra, fun h => by have := h.1; have := NoPm_no h.2.1; first | omega | (have := z87.mpr ⟨by decide, h.2.2⟩; omega), s7, s8⟩)))
            · skip
              refine at_iload dx_103_74 rfl ?_
              refine at_zeqR dx_103_75 (by decide) (fun _ => ?_) (fun c => absurd c (by decide))
              refine at_aload dx_103_97 rfl ?_
              refine at_iload dx_103_98 rfl ?_
              refine at_zneR dx_103_99 r3 (fun c99 => ?_) (fun c99 => ?_)
              · skip
                refine at_iload dx_103_102 rfl ?_
                refine at_zneR dx_103_103 (by decide) (fun c => absurd c (by decide)) (fun _ => ?_)
                refine at_const (x := 2) dx_103_104 rfl ?_
                refine at_goto dx_103_105 ?_
                refine at_callVI dx_103_111 rfl lc_856 rfl (m_fails (by decide)) ?_
                rintro x111 M111 r111 ⟨e111, h111⟩
                have f111 := fe_um31 e111
                replace F : frE w2E M _ := fe_tr F (fe_le f111 (fun q j h => Or.inl (by obtain ⟨rfl, rfl⟩ := h; exact wE_31)))
                replace s7 : M111 857 = _ := (funext (fun j => f111 857 j (by (try dsimp only); omega))).trans s7
                replace s8 : M111 858 = _ := (funext (fun j => f111 858 j (by (try dsimp only); omega))).trans s8
                refine at_pop dx_103_112 rfl ?_
                refine at_vretV dx_103_113 ?_
                have m31 := congrFun (congrFun e111 856) 31
                rw [um_eq] at m31
                refine ⟨MI_sq hM (fe_le F (fun q j h => w2_sq h)), F, ?_⟩
                first
                | (exfalso; omega)
                | exact Or.inl ⟨m31, by omega, s7, s8⟩
                | exact Or.inr (Or.inl ⟨m31, by omega, by first | omega | (intro h; have := ev_rem (a := a) h.2.1.1 h.2.1.2.1; omega), s7, s8⟩)
                | (have hra : RAr e a b := by have := ev_rem (a := a) (by omega) (by omega); omega
                   first
                   | exact Or.inr (Or.inr (Or.inr ⟨m31, by omega, hra, ⟨by omega, NoPm_of (by omega) (by omega) (by omega), (z87.mp (by omega)).2⟩, s7, s8⟩))
                   | exact Or.inr (Or.inr (Or.inl ⟨m31, by omega, hra, fun h => by have := h.1; have := NoPm_no h.2.1; first | omega | (have := z87.mpr ⟨by decide, h.2.2⟩; omega), s7, s8⟩)))
              · skip
                refine at_const (x := 1) dx_103_100 rfl ?_
                refine at_goto dx_103_101 ?_
                refine at_callVI dx_103_111 rfl lc_856 rfl (m_fails (by decide)) ?_
                rintro x111 M111 r111 ⟨e111, h111⟩
                have f111 := fe_um31 e111
                replace F : frE w2E M _ := fe_tr F (fe_le f111 (fun q j h => Or.inl (by obtain ⟨rfl, rfl⟩ := h; exact wE_31)))
                replace s7 : M111 857 = _ := (funext (fun j => f111 857 j (by (try dsimp only); omega))).trans s7
                replace s8 : M111 858 = _ := (funext (fun j => f111 858 j (by (try dsimp only); omega))).trans s8
                refine at_pop dx_103_112 rfl ?_
                refine at_vretV dx_103_113 ?_
                have m31 := congrFun (congrFun e111 856) 31
                rw [um_eq] at m31
                refine ⟨MI_sq hM (fe_le F (fun q j h => w2_sq h)), F, ?_⟩
                first
                | (exfalso; omega)
                | exact Or.inl ⟨m31, by omega, s7, s8⟩
                | exact Or.inr (Or.inl ⟨m31, by omega, by first | omega | (intro h; have := ev_rem (a := a) h.2.1.1 h.2.1.2.1; omega), s7, s8⟩)
                | (have hra : RAr e a b := by have := ev_rem (a := a) (by omega) (by omega); omega
                   first
                   | exact Or.inr (Or.inr (Or.inr ⟨m31, by omega, hra, ⟨by omega, NoPm_of (by omega) (by omega) (by omega), (z87.mp (by omega)).2⟩, s7, s8⟩))
                   | exact Or.inr (Or.inr (Or.inl ⟨m31, by omega, hra, fun h => by have := h.1; have := NoPm_no h.2.1; first | omega | (have := z87.mpr ⟨by decide, h.2.2⟩; omega), s7, s8⟩)))
          · skip
            refine at_aload dx_103_53 rfl ?_
            refine at_getR dx_103_54 lc_856 rfl lt_856_15 ?_
            refine at_const (x := 0) dx_103_55 rfl ?_
            refine at_aldI dx_103_56 lc_871 ln_871 (by decide) (by decide) (fun r56 => ?_)
            refine at_aload dx_103_57 rfl ?_
            refine at_getR dx_103_58 lc_856 rfl lt_856_15 ?_
            refine at_const (x := 1) dx_103_59 rfl ?_
            refine at_aldI dx_103_60 lc_871 ln_871 (by decide) (by decide) (fun r60 => ?_)
            refine at_addR dx_103_61 (by constructor <;> omega) (fun r61 => ?_)
            refine at_aload dx_103_62 rfl ?_
            refine at_getR dx_103_63 lc_856 rfl lt_856_15 ?_
            refine at_const (x := 2) dx_103_64 rfl ?_
            refine at_aldI dx_103_65 lc_871 ln_871 (by decide) (by decide) (fun r65 => ?_)
            refine at_addR dx_103_66 (by constructor <;> omega) (fun r66 => ?_)
            refine at_zneR dx_103_67 r66 (fun c67 => ?_) (fun c67 => ?_)
            · skip
              refine at_const (x := 0) dx_103_70 rfl ?_
              refine at_istore dx_103_71 ?_
              refine at_iload dx_103_72 rfl ?_
              refine at_zeqR dx_103_73 r3 (fun c73 => ?_) (fun c73 => ?_)
              · skip
                refine at_aload dx_103_97 rfl ?_
                refine at_iload dx_103_98 rfl ?_
                refine at_zneR dx_103_99 r3 (fun c99 => ?_) (fun c99 => ?_)
                · skip
                  refine at_iload dx_103_102 rfl ?_
                  refine at_zneR dx_103_103 (by decide) (fun c => absurd c (by decide)) (fun _ => ?_)
                  refine at_const (x := 2) dx_103_104 rfl ?_
                  refine at_goto dx_103_105 ?_
                  refine at_callVI dx_103_111 rfl lc_856 rfl (m_fails (by decide)) ?_
                  rintro x111 M111 r111 ⟨e111, h111⟩
                  have f111 := fe_um31 e111
                  replace F : frE w2E M _ := fe_tr F (fe_le f111 (fun q j h => Or.inl (by obtain ⟨rfl, rfl⟩ := h; exact wE_31)))
                  replace s7 : M111 857 = _ := (funext (fun j => f111 857 j (by (try dsimp only); omega))).trans s7
                  replace s8 : M111 858 = _ := (funext (fun j => f111 858 j (by (try dsimp only); omega))).trans s8
                  refine at_pop dx_103_112 rfl ?_
                  refine at_vretV dx_103_113 ?_
                  have m31 := congrFun (congrFun e111 856) 31
                  rw [um_eq] at m31
                  refine ⟨MI_sq hM (fe_le F (fun q j h => w2_sq h)), F, ?_⟩
                  first
                  | (exfalso; omega)
                  | exact Or.inl ⟨m31, by omega, s7, s8⟩
                  | exact Or.inr (Or.inl ⟨m31, by omega, by first | omega | (intro h; have := ev_rem (a := a) h.2.1.1 h.2.1.2.1; omega), s7, s8⟩)
                  | (have hra : RAr e a b := by have := ev_rem (a := a) (by omega) (by omega); omega
                     first
                     | exact Or.inr (Or.inr (Or.inr ⟨m31, by omega, hra, ⟨by omega, NoPm_of (by omega) (by omega) (by omega), (z87.mp (by omega)).2⟩, s7, s8⟩))
                     | exact Or.inr (Or.inr (Or.inl ⟨m31, by omega, hra, fun h => by have := h.1; have := NoPm_no h.2.1; first | omega | (have := z87.mpr ⟨by decide, h.2.2⟩; omega), s7, s8⟩)))
                · skip
                  refine at_const (x := 1) dx_103_100 rfl ?_
                  refine at_goto dx_103_101 ?_
                  refine at_callVI dx_103_111 rfl lc_856 rfl (m_fails (by decide)) ?_
                  rintro x111 M111 r111 ⟨e111, h111⟩
                  have f111 := fe_um31 e111
                  replace F : frE w2E M _ := fe_tr F (fe_le f111 (fun q j h => Or.inl (by obtain ⟨rfl, rfl⟩ := h; exact wE_31)))
                  replace s7 : M111 857 = _ := (funext (fun j => f111 857 j (by (try dsimp only); omega))).trans s7
                  replace s8 : M111 858 = _ := (funext (fun j => f111 858 j (by (try dsimp only); omega))).trans s8
                  refine at_pop dx_103_112 rfl ?_
                  refine at_vretV dx_103_113 ?_
                  have m31 := congrFun (congrFun e111 856) 31
                  rw [um_eq] at m31
                  refine ⟨MI_sq hM (fe_le F (fun q j h => w2_sq h)), F, ?_⟩
                  first
                  | (exfalso; omega)
                  | exact Or.inl ⟨m31, by omega, s7, s8⟩
                  | exact Or.inr (Or.inl ⟨m31, by omega, by first | omega | (intro h; have := ev_rem (a := a) h.2.1.1 h.2.1.2.1; omega), s7, s8⟩)
                  | (have hra : RAr e a b := by have := ev_rem (a := a) (by omega) (by omega); omega
                     first
                     | exact Or.inr (Or.inr (Or.inr ⟨m31, by omega, hra, ⟨by omega, NoPm_of (by omega) (by omega) (by omega), (z87.mp (by omega)).2⟩, s7, s8⟩))
                     | exact Or.inr (Or.inr (Or.inl ⟨m31, by omega, hra, fun h => by have := h.1; have := NoPm_no h.2.1; first | omega | (have := z87.mpr ⟨by decide, h.2.2⟩; omega), s7, s8⟩)))
              · skip
                refine at_iload dx_103_74 rfl ?_
                refine at_zeqR dx_103_75 (by decide) (fun _ => ?_) (fun c => absurd c (by decide))
                refine at_aload dx_103_97 rfl ?_
                refine at_iload dx_103_98 rfl ?_
                refine at_zneR dx_103_99 r3 (fun c99 => ?_) (fun c99 => ?_)
                · skip
                  refine at_iload dx_103_102 rfl ?_
                  refine at_zneR dx_103_103 (by decide) (fun c => absurd c (by decide)) (fun _ => ?_)
                  refine at_const (x := 2) dx_103_104 rfl ?_
                  refine at_goto dx_103_105 ?_
                  refine at_callVI dx_103_111 rfl lc_856 rfl (m_fails (by decide)) ?_
                  rintro x111 M111 r111 ⟨e111, h111⟩
                  have f111 := fe_um31 e111
                  replace F : frE w2E M _ := fe_tr F (fe_le f111 (fun q j h => Or.inl (by obtain ⟨rfl, rfl⟩ := h; exact wE_31)))
                  replace s7 : M111 857 = _ := (funext (fun j => f111 857 j (by (try dsimp only); omega))).trans s7
                  replace s8 : M111 858 = _ := (funext (fun j => f111 858 j (by (try dsimp only); omega))).trans s8
                  refine at_pop dx_103_112 rfl ?_
                  refine at_vretV dx_103_113 ?_
                  have m31 := congrFun (congrFun e111 856) 31
                  rw [um_eq] at m31
                  refine ⟨MI_sq hM (fe_le F (fun q j h => w2_sq h)), F, ?_⟩
                  first
                  | (exfalso; omega)
                  | exact Or.inl ⟨m31, by omega, s7, s8⟩
                  | exact Or.inr (Or.inl ⟨m31, by omega, by first | omega | (intro h; have := ev_rem (a := a) h.2.1.1 h.2.1.2.1; omega), s7, s8⟩)
                  | (have hra : RAr e a b := by have := ev_rem (a := a) (by omega) (by omega); omega
                     first
                     | exact Or.inr (Or.inr (Or.inr ⟨m31, by omega, hra, ⟨by omega, NoPm_of (by omega) (by omega) (by omega), (z87.mp (by omega)).2⟩, s7, s8⟩))
                     | exact Or.inr (Or.inr (Or.inl ⟨m31, by omega, hra, fun h => by have := h.1; have := NoPm_no h.2.1; first | omega | (have := z87.mpr ⟨by decide, h.2.2⟩; omega), s7, s8⟩)))
                · skip
                  refine at_const (x := 1) dx_103_100 rfl ?_
                  refine at_goto dx_103_101 ?_
                  refine at_callVI dx_103_111 rfl lc_856 rfl (m_fails (by decide)) ?_
                  rintro x111 M111 r111 ⟨e111, h111⟩
                  have f111 := fe_um31 e111
                  replace F : frE w2E M _ := fe_tr F (fe_le f111 (fun q j h => Or.inl (by obtain ⟨rfl, rfl⟩ := h; exact wE_31)))
                  replace s7 : M111 857 = _ := (funext (fun j => f111 857 j (by (try dsimp only); omega))).trans s7
                  replace s8 : M111 858 = _ := (funext (fun j => f111 858 j (by (try dsimp only); omega))).trans s8
                  refine at_pop dx_103_112 rfl ?_
                  refine at_vretV dx_103_113 ?_
                  have m31 := congrFun (congrFun e111 856) 31
                  rw [um_eq] at m31
                  refine ⟨MI_sq hM (fe_le F (fun q j h => w2_sq h)), F, ?_⟩
                  first
                  | (exfalso; omega)
                  | exact Or.inl ⟨m31, by omega, s7, s8⟩
                  | exact Or.inr (Or.inl ⟨m31, by omega, by first | omega | (intro h; have := ev_rem (a := a) h.2.1.1 h.2.1.2.1; omega), s7, s8⟩)
                  | (have hra : RAr e a b := by have := ev_rem (a := a) (by omega) (by omega); omega
                     first
                     | exact Or.inr (Or.inr (Or.inr ⟨m31, by omega, hra, ⟨by omega, NoPm_of (by omega) (by omega) (by omega), (z87.mp (by omega)).2⟩, s7, s8⟩))
                     | exact Or.inr (Or.inr (Or.inl ⟨m31, by omega, hra, fun h => by have := h.1; have := NoPm_no h.2.1; first | omega | (have := z87.mpr ⟨by decide, h.2.2⟩; omega), s7, s8⟩)))
            · skip
              refine at_const (x := 1) dx_103_68 rfl ?_
              refine at_goto dx_103_69 ?_
              refine at_istore dx_103_71 ?_
              refine at_iload dx_103_72 rfl ?_
              refine at_zeqR dx_103_73 r3 (fun c73 => ?_) (fun c73 => ?_)
              · skip
                refine at_aload dx_103_97 rfl ?_
                refine at_iload dx_103_98 rfl ?_
                refine at_zneR dx_103_99 r3 (fun c99 => ?_) (fun c99 => ?_)
                · skip
                  refine at_iload dx_103_102 rfl ?_
                  refine at_zneR dx_103_103 (by decide) (fun c => absurd c (by decide)) (fun _ => ?_)
                  refine at_const (x := 2) dx_103_104 rfl ?_
                  refine at_goto dx_103_105 ?_
                  refine at_callVI dx_103_111 rfl lc_856 rfl (m_fails (by decide)) ?_
                  rintro x111 M111 r111 ⟨e111, h111⟩
                  have f111 := fe_um31 e111
                  replace F : frE w2E M _ := fe_tr F (fe_le f111 (fun q j h => Or.inl (by obtain ⟨rfl, rfl⟩ := h; exact wE_31)))
                  replace s7 : M111 857 = _ := (funext (fun j => f111 857 j (by (try dsimp only); omega))).trans s7
                  replace s8 : M111 858 = _ := (funext (fun j => f111 858 j (by (try dsimp only); omega))).trans s8
                  refine at_pop dx_103_112 rfl ?_
                  refine at_vretV dx_103_113 ?_
                  have m31 := congrFun (congrFun e111 856) 31
                  rw [um_eq] at m31
                  refine ⟨MI_sq hM (fe_le F (fun q j h => w2_sq h)), F, ?_⟩
                  first
                  | (exfalso; omega)
                  | exact Or.inl ⟨m31, by omega, s7, s8⟩
                  | exact Or.inr (Or.inl ⟨m31, by omega, by first | omega | (intro h; have := ev_rem (a := a) h.2.1.1 h.2.1.2.1; omega), s7, s8⟩)
                  | (have hra : RAr e a b := by have := ev_rem (a := a) (by omega) (by omega); omega
                     first
                     | exact Or.inr (Or.inr (Or.inr ⟨m31, by omega, hra, ⟨by omega, NoPm_of (by omega) (by omega) (by omega), (z87.mp (by omega)).2⟩, s7, s8⟩))
                     | exact Or.inr (Or.inr (Or.inl ⟨m31, by omega, hra, fun h => by have := h.1; have := NoPm_no h.2.1; first | omega | (have := z87.mpr ⟨by decide, h.2.2⟩; omega), s7, s8⟩)))
                · skip
                  refine at_const (x := 1) dx_103_100 rfl ?_
                  refine at_goto dx_103_101 ?_
                  refine at_callVI dx_103_111 rfl lc_856 rfl (m_fails (by decide)) ?_
                  rintro x111 M111 r111 ⟨e111, h111⟩
                  have f111 := fe_um31 e111
                  replace F : frE w2E M _ := fe_tr F (fe_le f111 (fun q j h => Or.inl (by obtain ⟨rfl, rfl⟩ := h; exact wE_31)))
                  replace s7 : M111 857 = _ := (funext (fun j => f111 857 j (by (try dsimp only); omega))).trans s7
                  replace s8 : M111 858 = _ := (funext (fun j => f111 858 j (by (try dsimp only); omega))).trans s8
                  refine at_pop dx_103_112 rfl ?_
                  refine at_vretV dx_103_113 ?_
                  have m31 := congrFun (congrFun e111 856) 31
                  rw [um_eq] at m31
                  refine ⟨MI_sq hM (fe_le F (fun q j h => w2_sq h)), F, ?_⟩
                  first
                  | (exfalso; omega)
                  | exact Or.inl ⟨m31, by omega, s7, s8⟩
                  | exact Or.inr (Or.inl ⟨m31, by omega, by first | omega | (intro h; have := ev_rem (a := a) h.2.1.1 h.2.1.2.1; omega), s7, s8⟩)
                  | (have hra : RAr e a b := by have := ev_rem (a := a) (by omega) (by omega); omega
                     first
                     | exact Or.inr (Or.inr (Or.inr ⟨m31, by omega, hra, ⟨by omega, NoPm_of (by omega) (by omega) (by omega), (z87.mp (by omega)).2⟩, s7, s8⟩))
                     | exact Or.inr (Or.inr (Or.inl ⟨m31, by omega, hra, fun h => by have := h.1; have := NoPm_no h.2.1; first | omega | (have := z87.mpr ⟨by decide, h.2.2⟩; omega), s7, s8⟩)))
              · skip
                refine at_iload dx_103_74 rfl ?_
                refine at_zeqR dx_103_75 (by decide) (fun _ => ?_) (fun c => absurd c (by decide))
                refine at_aload dx_103_97 rfl ?_
                refine at_iload dx_103_98 rfl ?_
                refine at_zneR dx_103_99 r3 (fun c99 => ?_) (fun c99 => ?_)
                · skip
                  refine at_iload dx_103_102 rfl ?_
                  refine at_zneR dx_103_103 (by decide) (fun c => absurd c (by decide)) (fun _ => ?_)
                  refine at_const (x := 2) dx_103_104 rfl ?_
                  refine at_goto dx_103_105 ?_
                  refine at_callVI dx_103_111 rfl lc_856 rfl (m_fails (by decide)) ?_
                  rintro x111 M111 r111 ⟨e111, h111⟩
                  have f111 := fe_um31 e111
                  replace F : frE w2E M _ := fe_tr F (fe_le f111 (fun q j h => Or.inl (by obtain ⟨rfl, rfl⟩ := h; exact wE_31)))
                  replace s7 : M111 857 = _ := (funext (fun j => f111 857 j (by (try dsimp only); omega))).trans s7
                  replace s8 : M111 858 = _ := (funext (fun j => f111 858 j (by (try dsimp only); omega))).trans s8
                  refine at_pop dx_103_112 rfl ?_
                  refine at_vretV dx_103_113 ?_
                  have m31 := congrFun (congrFun e111 856) 31
                  rw [um_eq] at m31
                  refine ⟨MI_sq hM (fe_le F (fun q j h => w2_sq h)), F, ?_⟩
                  first
                  | (exfalso; omega)
                  | exact Or.inl ⟨m31, by omega, s7, s8⟩
                  | exact Or.inr (Or.inl ⟨m31, by omega, by first | omega | (intro h; have := ev_rem (a := a) h.2.1.1 h.2.1.2.1; omega), s7, s8⟩)
                  | (have hra : RAr e a b := by have := ev_rem (a := a) (by omega) (by omega); omega
                     first
                     | exact Or.inr (Or.inr (Or.inr ⟨m31, by omega, hra, ⟨by omega, NoPm_of (by omega) (by omega) (by omega), (z87.mp (by omega)).2⟩, s7, s8⟩))
                     | exact Or.inr (Or.inr (Or.inl ⟨m31, by omega, hra, fun h => by have := h.1; have := NoPm_no h.2.1; first | omega | (have := z87.mpr ⟨by decide, h.2.2⟩; omega), s7, s8⟩)))
                · skip
                  refine at_const (x := 1) dx_103_100 rfl ?_
                  refine at_goto dx_103_101 ?_
                  refine at_callVI dx_103_111 rfl lc_856 rfl (m_fails (by decide)) ?_
                  rintro x111 M111 r111 ⟨e111, h111⟩
                  have f111 := fe_um31 e111
                  replace F : frE w2E M _ := fe_tr F (fe_le f111 (fun q j h => Or.inl (by obtain ⟨rfl, rfl⟩ := h; exact wE_31)))
                  replace s7 : M111 857 = _ := (funext (fun j => f111 857 j (by (try dsimp only); omega))).trans s7
                  replace s8 : M111 858 = _ := (funext (fun j => f111 858 j (by (try dsimp only); omega))).trans s8
                  refine at_pop dx_103_112 rfl ?_
                  refine at_vretV dx_103_113 ?_
                  have m31 := congrFun (congrFun e111 856) 31
                  rw [um_eq] at m31
                  refine ⟨MI_sq hM (fe_le F (fun q j h => w2_sq h)), F, ?_⟩
                  first
                  | (exfalso; omega)
                  | exact Or.inl ⟨m31, by omega, s7, s8⟩
                  | exact Or.inr (Or.inl ⟨m31, by omega, by first | omega | (intro h; have := ev_rem (a := a) h.2.1.1 h.2.1.2.1; omega), s7, s8⟩)
                  | (have hra : RAr e a b := by have := ev_rem (a := a) (by omega) (by omega); omega
                     first
                     | exact Or.inr (Or.inr (Or.inr ⟨m31, by omega, hra, ⟨by omega, NoPm_of (by omega) (by omega) (by omega), (z87.mp (by omega)).2⟩, s7, s8⟩))
                     | exact Or.inr (Or.inr (Or.inl ⟨m31, by omega, hra, fun h => by have := h.1; have := NoPm_no h.2.1; first | omega | (have := z87.mpr ⟨by decide, h.2.2⟩; omega), s7, s8⟩)))
        · skip
          refine at_iload dx_103_30 rfl ?_
          refine at_zeqR dx_103_31 (by decide) (fun _ => ?_) (fun c => absurd c (by decide))
          refine at_const (x := 0) dx_103_38 rfl ?_
          refine at_istore dx_103_39 ?_
          refine at_aload dx_103_40 rfl ?_
          refine at_getR dx_103_41 lc_856 rfl lt_856_0 ?_
          refine at_iload dx_103_42 rfl ?_
          refine at_aldI dx_103_43 lc_857 ln_857 (by omega) (by omega) (fun r43 => ?_)
          refine at_istore dx_103_44 ?_
          refine at_aload dx_103_45 rfl ?_
          refine at_getR dx_103_46 lc_856 rfl lt_856_1 ?_
          refine at_iload dx_103_47 rfl ?_
          refine at_aldI dx_103_48 lc_858 ln_858 (by omega) (by omega) (fun r48 => ?_)
          refine at_istore dx_103_49 ?_
          refine at_aload dx_103_50 rfl ?_
          refine at_getI 13 dx_103_51 lc_856 rfl rfl (fun r51 => ?_)
          refine at_zneR dx_103_52 r51 (fun c52 => ?_) (fun c52 => ?_)
          · skip
            refine at_const (x := 0) dx_103_70 rfl ?_
            refine at_istore dx_103_71 ?_
            refine at_iload dx_103_72 rfl ?_
            refine at_zeqR dx_103_73 r3 (fun c73 => ?_) (fun c73 => ?_)
            · skip
              refine at_aload dx_103_97 rfl ?_
              refine at_iload dx_103_98 rfl ?_
              refine at_zneR dx_103_99 r3 (fun c99 => ?_) (fun c99 => ?_)
              · skip
                refine at_iload dx_103_102 rfl ?_
                refine at_zneR dx_103_103 (by decide) (fun c => absurd c (by decide)) (fun _ => ?_)
                refine at_const (x := 2) dx_103_104 rfl ?_
                refine at_goto dx_103_105 ?_
                refine at_callVI dx_103_111 rfl lc_856 rfl (m_fails (by decide)) ?_
                rintro x111 M111 r111 ⟨e111, h111⟩
                have f111 := fe_um31 e111
                replace F : frE w2E M _ := fe_tr F (fe_le f111 (fun q j h => Or.inl (by obtain ⟨rfl, rfl⟩ := h; exact wE_31)))
                replace s7 : M111 857 = _ := (funext (fun j => f111 857 j (by (try dsimp only); omega))).trans s7
                replace s8 : M111 858 = _ := (funext (fun j => f111 858 j (by (try dsimp only); omega))).trans s8
                refine at_pop dx_103_112 rfl ?_
                refine at_vretV dx_103_113 ?_
                have m31 := congrFun (congrFun e111 856) 31
                rw [um_eq] at m31
                refine ⟨MI_sq hM (fe_le F (fun q j h => w2_sq h)), F, ?_⟩
                first
                | (exfalso; omega)
                | exact Or.inl ⟨m31, by omega, s7, s8⟩
                | exact Or.inr (Or.inl ⟨m31, by omega, by first | omega | (intro h; have := ev_rem (a := a) h.2.1.1 h.2.1.2.1; omega), s7, s8⟩)
                | (have hra : RAr e a b := by have := ev_rem (a := a) (by omega) (by omega); omega
                   first
                   | exact Or.inr (Or.inr (Or.inr ⟨m31, by omega, hra, ⟨by omega, NoPm_of (by omega) (by omega) (by omega), (z87.mp (by omega)).2⟩, s7, s8⟩))
                   | exact Or.inr (Or.inr (Or.inl ⟨m31, by omega, hra, fun h => by have := h.1; have := NoPm_no h.2.1; first | omega | (have := z87.mpr ⟨by decide, h.2.2⟩; omega), s7, s8⟩)))
              · skip
                refine at_const (x := 1) dx_103_100 rfl ?_
                refine at_goto dx_103_101 ?_
                refine at_callVI dx_103_111 rfl lc_856 rfl (m_fails (by decide)) ?_
                rintro x111 M111 r111 ⟨e111, h111⟩
                have f111 := fe_um31 e111
                replace F : frE w2E M _ := fe_tr F (fe_le f111 (fun q j h => Or.inl (by obtain ⟨rfl, rfl⟩ := h; exact wE_31)))
                replace s7 : M111 857 = _ := (funext (fun j => f111 857 j (by (try dsimp only); omega))).trans s7
                replace s8 : M111 858 = _ := (funext (fun j => f111 858 j (by (try dsimp only); omega))).trans s8
                refine at_pop dx_103_112 rfl ?_
                refine at_vretV dx_103_113 ?_
                have m31 := congrFun (congrFun e111 856) 31
                rw [um_eq] at m31
                refine ⟨MI_sq hM (fe_le F (fun q j h => w2_sq h)), F, ?_⟩
                first
                | (exfalso; omega)
                | exact Or.inl ⟨m31, by omega, s7, s8⟩
                | exact Or.inr (Or.inl ⟨m31, by omega, by first | omega | (intro h; have := ev_rem (a := a) h.2.1.1 h.2.1.2.1; omega), s7, s8⟩)
                | (have hra : RAr e a b := by have := ev_rem (a := a) (by omega) (by omega); omega
                   first
                   | exact Or.inr (Or.inr (Or.inr ⟨m31, by omega, hra, ⟨by omega, NoPm_of (by omega) (by omega) (by omega), (z87.mp (by omega)).2⟩, s7, s8⟩))
                   | exact Or.inr (Or.inr (Or.inl ⟨m31, by omega, hra, fun h => by have := h.1; have := NoPm_no h.2.1; first | omega | (have := z87.mpr ⟨by decide, h.2.2⟩; omega), s7, s8⟩)))
            · skip
              refine at_iload dx_103_74 rfl ?_
              refine at_zeqR dx_103_75 (by decide) (fun _ => ?_) (fun c => absurd c (by decide))
              refine at_aload dx_103_97 rfl ?_
              refine at_iload dx_103_98 rfl ?_
              refine at_zneR dx_103_99 r3 (fun c99 => ?_) (fun c99 => ?_)
              · skip
                refine at_iload dx_103_102 rfl ?_
                refine at_zneR dx_103_103 (by decide) (fun c => absurd c (by decide)) (fun _ => ?_)
                refine at_const (x := 2) dx_103_104 rfl ?_
                refine at_goto dx_103_105 ?_
                refine at_callVI dx_103_111 rfl lc_856 rfl (m_fails (by decide)) ?_
                rintro x111 M111 r111 ⟨e111, h111⟩
                have f111 := fe_um31 e111
                replace F : frE w2E M _ := fe_tr F (fe_le f111 (fun q j h => Or.inl (by obtain ⟨rfl, rfl⟩ := h; exact wE_31)))
                replace s7 : M111 857 = _ := (funext (fun j => f111 857 j (by (try dsimp only); omega))).trans s7
                replace s8 : M111 858 = _ := (funext (fun j => f111 858 j (by (try dsimp only); omega))).trans s8
                refine at_pop dx_103_112 rfl ?_
                refine at_vretV dx_103_113 ?_
                have m31 := congrFun (congrFun e111 856) 31
                rw [um_eq] at m31
                refine ⟨MI_sq hM (fe_le F (fun q j h => w2_sq h)), F, ?_⟩
                first
                | (exfalso; omega)
                | exact Or.inl ⟨m31, by omega, s7, s8⟩
                | exact Or.inr (Or.inl ⟨m31, by omega, by first | omega | (intro h; have := ev_rem (a := a) h.2.1.1 h.2.1.2.1; omega), s7, s8⟩)
                | (have hra : RAr e a b := by have := ev_rem (a := a) (by omega) (by omega); omega
                   first
                   | exact Or.inr (Or.inr (Or.inr ⟨m31, by omega, hra, ⟨by omega, NoPm_of (by omega) (by omega) (by omega), (z87.mp (by omega)).2⟩, s7, s8⟩))
                   | exact Or.inr (Or.inr (Or.inl ⟨m31, by omega, hra, fun h => by have := h.1; have := NoPm_no h.2.1; first | omega | (have := z87.mpr ⟨by decide, h.2.2⟩; omega), s7, s8⟩)))
              · skip
                refine at_const (x := 1) dx_103_100 rfl ?_
                refine at_goto dx_103_101 ?_
                refine at_callVI dx_103_111 rfl lc_856 rfl (m_fails (by decide)) ?_
                rintro x111 M111 r111 ⟨e111, h111⟩
                have f111 := fe_um31 e111
                replace F : frE w2E M _ := fe_tr F (fe_le f111 (fun q j h => Or.inl (by obtain ⟨rfl, rfl⟩ := h; exact wE_31)))
                replace s7 : M111 857 = _ := (funext (fun j => f111 857 j (by (try dsimp only); omega))).trans s7
                replace s8 : M111 858 = _ := (funext (fun j => f111 858 j (by (try dsimp only); omega))).trans s8
                refine at_pop dx_103_112 rfl ?_
                refine at_vretV dx_103_113 ?_
                have m31 := congrFun (congrFun e111 856) 31
                rw [um_eq] at m31
                refine ⟨MI_sq hM (fe_le F (fun q j h => w2_sq h)), F, ?_⟩
                first
                | (exfalso; omega)
                | exact Or.inl ⟨m31, by omega, s7, s8⟩
                | exact Or.inr (Or.inl ⟨m31, by omega, by first | omega | (intro h; have := ev_rem (a := a) h.2.1.1 h.2.1.2.1; omega), s7, s8⟩)
                | (have hra : RAr e a b := by have := ev_rem (a := a) (by omega) (by omega); omega
                   first
                   | exact Or.inr (Or.inr (Or.inr ⟨m31, by omega, hra, ⟨by omega, NoPm_of (by omega) (by omega) (by omega), (z87.mp (by omega)).2⟩, s7, s8⟩))
                   | exact Or.inr (Or.inr (Or.inl ⟨m31, by omega, hra, fun h => by have := h.1; have := NoPm_no h.2.1; first | omega | (have := z87.mpr ⟨by decide, h.2.2⟩; omega), s7, s8⟩)))
          · skip
            refine at_aload dx_103_53 rfl ?_
            refine at_getR dx_103_54 lc_856 rfl lt_856_15 ?_
            refine at_const (x := 0) dx_103_55 rfl ?_
            refine at_aldI dx_103_56 lc_871 ln_871 (by decide) (by decide) (fun r56 => ?_)
            refine at_aload dx_103_57 rfl ?_
            refine at_getR dx_103_58 lc_856 rfl lt_856_15 ?_
            refine at_const (x := 1) dx_103_59 rfl ?_
            refine at_aldI dx_103_60 lc_871 ln_871 (by decide) (by decide) (fun r60 => ?_)
            refine at_addR dx_103_61 (by constructor <;> omega) (fun r61 => ?_)
            refine at_aload dx_103_62 rfl ?_
            refine at_getR dx_103_63 lc_856 rfl lt_856_15 ?_
            refine at_const (x := 2) dx_103_64 rfl ?_
            refine at_aldI dx_103_65 lc_871 ln_871 (by decide) (by decide) (fun r65 => ?_)
            refine at_addR dx_103_66 (by constructor <;> omega) (fun r66 => ?_)
            refine at_zneR dx_103_67 r66 (fun c67 => ?_) (fun c67 => ?_)
            · skip
              refine at_const (x := 0) dx_103_70 rfl ?_
              refine at_istore dx_103_71 ?_
              refine at_iload dx_103_72 rfl ?_
              refine at_zeqR dx_103_73 r3 (fun c73 => ?_) (fun c73 => ?_)
              · skip
                refine at_aload dx_103_97 rfl ?_
                refine at_iload dx_103_98 rfl ?_
                refine at_zneR dx_103_99 r3 (fun c99 => ?_) (fun c99 => ?_)
                · skip
                  refine at_iload dx_103_102 rfl ?_
                  refine at_zneR dx_103_103 (by decide) (fun c => absurd c (by decide)) (fun _ => ?_)
                  refine at_const (x := 2) dx_103_104 rfl ?_
                  refine at_goto dx_103_105 ?_
                  refine at_callVI dx_103_111 rfl lc_856 rfl (m_fails (by decide)) ?_
                  rintro x111 M111 r111 ⟨e111, h111⟩
                  have f111 := fe_um31 e111
                  replace F : frE w2E M _ := fe_tr F (fe_le f111 (fun q j h => Or.inl (by obtain ⟨rfl, rfl⟩ := h; exact wE_31)))
                  replace s7 : M111 857 = _ := (funext (fun j => f111 857 j (by (try dsimp only); omega))).trans s7
                  replace s8 : M111 858 = _ := (funext (fun j => f111 858 j (by (try dsimp only); omega))).trans s8
                  refine at_pop dx_103_112 rfl ?_
                  refine at_vretV dx_103_113 ?_
                  have m31 := congrFun (congrFun e111 856) 31
                  rw [um_eq] at m31
                  refine ⟨MI_sq hM (fe_le F (fun q j h => w2_sq h)), F, ?_⟩
                  first
                  | (exfalso; omega)
                  | exact Or.inl ⟨m31, by omega, s7, s8⟩
                  | exact Or.inr (Or.inl ⟨m31, by omega, by first | omega | (intro h; have := ev_rem (a := a) h.2.1.1 h.2.1.2.1; omega), s7, s8⟩)
                  | (have hra : RAr e a b := by have := ev_rem (a := a) (by omega) (by omega); omega
                     first
                     | exact Or.inr (Or.inr (Or.inr ⟨m31, by omega, hra, ⟨by omega, NoPm_of (by omega) (by omega) (by omega), (z87.mp (by omega)).2⟩, s7, s8⟩))
                     | exact Or.inr (Or.inr (Or.inl ⟨m31, by omega, hra, fun h => by have := h.1; have := NoPm_no h.2.1; first | omega | (have := z87.mpr ⟨by decide, h.2.2⟩; omega), s7, s8⟩)))
                · skip
                  refine at_const (x := 1) dx_103_100 rfl ?_
                  refine at_goto dx_103_101 ?_
                  refine at_callVI dx_103_111 rfl lc_856 rfl (m_fails (by decide)) ?_
                  rintro x111 M111 r111 ⟨e111, h111⟩
                  have f111 := fe_um31 e111
                  replace F : frE w2E M _ := fe_tr F (fe_le f111 (fun q j h => Or.inl (by obtain ⟨rfl, rfl⟩ := h; exact wE_31)))
                  replace s7 : M111 857 = _ := (funext (fun j => f111 857 j (by (try dsimp only); omega))).trans s7
                  replace s8 : M111 858 = _ := (funext (fun j => f111 858 j (by (try dsimp only); omega))).trans s8
                  refine at_pop dx_103_112 rfl ?_
                  refine at_vretV dx_103_113 ?_
                  have m31 := congrFun (congrFun e111 856) 31
                  rw [um_eq] at m31
                  refine ⟨MI_sq hM (fe_le F (fun q j h => w2_sq h)), F, ?_⟩
                  first
                  | (exfalso; omega)
                  | exact Or.inl ⟨m31, by omega, s7, s8⟩
                  | exact Or.inr (Or.inl ⟨m31, by omega, by first | omega | (intro h; have := ev_rem (a := a) h.2.1.1 h.2.1.2.1; omega), s7, s8⟩)
                  | (have hra : RAr e a b := by have := ev_rem (a := a) (by omega) (by omega); omega
                     first
                     | exact Or.inr (Or.inr (Or.inr ⟨m31, by omega, hra, ⟨by omega, NoPm_of (by omega) (by omega) (by omega), (z87.mp (by omega)).2⟩, s7, s8⟩))
                     | exact Or.inr (Or.inr (Or.inl ⟨m31, by omega, hra, fun h => by have := h.1; have := NoPm_no h.2.1; first | omega | (have := z87.mpr ⟨by decide, h.2.2⟩; omega), s7, s8⟩)))
              · skip
                refine at_iload dx_103_74 rfl ?_
                refine at_zeqR dx_103_75 (by decide) (fun _ => ?_) (fun c => absurd c (by decide))
                refine at_aload dx_103_97 rfl ?_
                refine at_iload dx_103_98 rfl ?_
                refine at_zneR dx_103_99 r3 (fun c99 => ?_) (fun c99 => ?_)
                · skip
                  refine at_iload dx_103_102 rfl ?_
                  refine at_zneR dx_103_103 (by decide) (fun c => absurd c (by decide)) (fun _ => ?_)
                  refine at_const (x := 2) dx_103_104 rfl ?_
                  refine at_goto dx_103_105 ?_
                  refine at_callVI dx_103_111 rfl lc_856 rfl (m_fails (by decide)) ?_
                  rintro x111 M111 r111 ⟨e111, h111⟩
                  have f111 := fe_um31 e111
                  replace F : frE w2E M _ := fe_tr F (fe_le f111 (fun q j h => Or.inl (by obtain ⟨rfl, rfl⟩ := h; exact wE_31)))
                  replace s7 : M111 857 = _ := (funext (fun j => f111 857 j (by (try dsimp only); omega))).trans s7
                  replace s8 : M111 858 = _ := (funext (fun j => f111 858 j (by (try dsimp only); omega))).trans s8
                  refine at_pop dx_103_112 rfl ?_
                  refine at_vretV dx_103_113 ?_
                  have m31 := congrFun (congrFun e111 856) 31
                  rw [um_eq] at m31
                  refine ⟨MI_sq hM (fe_le F (fun q j h => w2_sq h)), F, ?_⟩
                  first
                  | (exfalso; omega)
                  | exact Or.inl ⟨m31, by omega, s7, s8⟩
                  | exact Or.inr (Or.inl ⟨m31, by omega, by first | omega | (intro h; have := ev_rem (a := a) h.2.1.1 h.2.1.2.1; omega), s7, s8⟩)
                  | (have hra : RAr e a b := by have := ev_rem (a := a) (by omega) (by omega); omega
                     first
                     | exact Or.inr (Or.inr (Or.inr ⟨m31, by omega, hra, ⟨by omega, NoPm_of (by omega) (by omega) (by omega), (z87.mp (by omega)).2⟩, s7, s8⟩))
                     | exact Or.inr (Or.inr (Or.inl ⟨m31, by omega, hra, fun h => by have := h.1; have := NoPm_no h.2.1; first | omega | (have := z87.mpr ⟨by decide, h.2.2⟩; omega), s7, s8⟩)))
                · skip
                  refine at_const (x := 1) dx_103_100 rfl ?_
                  refine at_goto dx_103_101 ?_
                  refine at_callVI dx_103_111 rfl lc_856 rfl (m_fails (by decide)) ?_
                  rintro x111 M111 r111 ⟨e111, h111⟩
                  have f111 := fe_um31 e111
                  replace F : frE w2E M _ := fe_tr F (fe_le f111 (fun q j h => Or.inl (by obtain ⟨rfl, rfl⟩ := h; exact wE_31)))
                  replace s7 : M111 857 = _ := (funext (fun j => f111 857 j (by (try dsimp only); omega))).trans s7
                  replace s8 : M111 858 = _ := (funext (fun j => f111 858 j (by (try dsimp only); omega))).trans s8
                  refine at_pop dx_103_112 rfl ?_
                  refine at_vretV dx_103_113 ?_
                  have m31 := congrFun (congrFun e111 856) 31
                  rw [um_eq] at m31
                  refine ⟨MI_sq hM (fe_le F (fun q j h => w2_sq h)), F, ?_⟩
                  first
                  | (exfalso; omega)
                  | exact Or.inl ⟨m31, by omega, s7, s8⟩
                  | exact Or.inr (Or.inl ⟨m31, by omega, by first | omega | (intro h; have := ev_rem (a := a) h.2.1.1 h.2.1.2.1; omega), s7, s8⟩)
                  | (have hra : RAr e a b := by have := ev_rem (a := a) (by omega) (by omega); omega
                     first
                     | exact Or.inr (Or.inr (Or.inr ⟨m31, by omega, hra, ⟨by omega, NoPm_of (by omega) (by omega) (by omega), (z87.mp (by omega)).2⟩, s7, s8⟩))
                     | exact Or.inr (Or.inr (Or.inl ⟨m31, by omega, hra, fun h => by have := h.1; have := NoPm_no h.2.1; first | omega | (have := z87.mpr ⟨by decide, h.2.2⟩; omega), s7, s8⟩)))
            · skip
              refine at_const (x := 1) dx_103_68 rfl ?_
              refine at_goto dx_103_69 ?_
              refine at_istore dx_103_71 ?_
              refine at_iload dx_103_72 rfl ?_
              refine at_zeqR dx_103_73 r3 (fun c73 => ?_) (fun c73 => ?_)
              · skip
                refine at_aload dx_103_97 rfl ?_
                refine at_iload dx_103_98 rfl ?_
                refine at_zneR dx_103_99 r3 (fun c99 => ?_) (fun c99 => ?_)
                · skip
                  refine at_iload dx_103_102 rfl ?_
                  refine at_zneR dx_103_103 (by decide) (fun c => absurd c (by decide)) (fun _ => ?_)
                  refine at_const (x := 2) dx_103_104 rfl ?_
                  refine at_goto dx_103_105 ?_
                  refine at_callVI dx_103_111 rfl lc_856 rfl (m_fails (by decide)) ?_
                  rintro x111 M111 r111 ⟨e111, h111⟩
                  have f111 := fe_um31 e111
                  replace F : frE w2E M _ := fe_tr F (fe_le f111 (fun q j h => Or.inl (by obtain ⟨rfl, rfl⟩ := h; exact wE_31)))
                  replace s7 : M111 857 = _ := (funext (fun j => f111 857 j (by (try dsimp only); omega))).trans s7
                  replace s8 : M111 858 = _ := (funext (fun j => f111 858 j (by (try dsimp only); omega))).trans s8
                  refine at_pop dx_103_112 rfl ?_
                  refine at_vretV dx_103_113 ?_
                  have m31 := congrFun (congrFun e111 856) 31
                  rw [um_eq] at m31
                  refine ⟨MI_sq hM (fe_le F (fun q j h => w2_sq h)), F, ?_⟩
                  first
                  | (exfalso; omega)
                  | exact Or.inl ⟨m31, by omega, s7, s8⟩
                  | exact Or.inr (Or.inl ⟨m31, by omega, by first | omega | (intro h; have := ev_rem (a := a) h.2.1.1 h.2.1.2.1; omega), s7, s8⟩)
                  | (have hra : RAr e a b := by have := ev_rem (a := a) (by omega) (by omega); omega
                     first
                     | exact Or.inr (Or.inr (Or.inr ⟨m31, by omega, hra, ⟨by omega, NoPm_of (by omega) (by omega) (by omega), (z87.mp (by omega)).2⟩, s7, s8⟩))
                     | exact Or.inr (Or.inr (Or.inl ⟨m31, by omega, hra, fun h => by have := h.1; have := NoPm_no h.2.1; first | omega | (have := z87.mpr ⟨by decide, h.2.2⟩; omega), s7, s8⟩)))
                · skip
                  refine at_const (x := 1) dx_103_100 rfl ?_
                  refine at_goto dx_103_101 ?_
                  refine at_callVI dx_103_111 rfl lc_856 rfl (m_fails (by decide)) ?_
                  rintro x111 M111 r111 ⟨e111, h111⟩
                  have f111 := fe_um31 e111
                  replace F : frE w2E M _ := fe_tr F (fe_le f111 (fun q j h => Or.inl (by obtain ⟨rfl, rfl⟩ := h; exact wE_31)))
                  replace s7 : M111 857 = _ := (funext (fun j => f111 857 j (by (try dsimp only); omega))).trans s7
                  replace s8 : M111 858 = _ := (funext (fun j => f111 858 j (by (try dsimp only); omega))).trans s8
                  refine at_pop dx_103_112 rfl ?_
                  refine at_vretV dx_103_113 ?_
                  have m31 := congrFun (congrFun e111 856) 31
                  rw [um_eq] at m31
                  refine ⟨MI_sq hM (fe_le F (fun q j h => w2_sq h)), F, ?_⟩
                  first
                  | (exfalso; omega)
                  | exact Or.inl ⟨m31, by omega, s7, s8⟩
                  | exact Or.inr (Or.inl ⟨m31, by omega, by first | omega | (intro h; have := ev_rem (a := a) h.2.1.1 h.2.1.2.1; omega), s7, s8⟩)
                  | (have hra : RAr e a b := by have := ev_rem (a := a) (by omega) (by omega); omega
                     first
                     | exact Or.inr (Or.inr (Or.inr ⟨m31, by omega, hra, ⟨by omega, NoPm_of (by omega) (by omega) (by omega), (z87.mp (by omega)).2⟩, s7, s8⟩))
                     | exact Or.inr (Or.inr (Or.inl ⟨m31, by omega, hra, fun h => by have := h.1; have := NoPm_no h.2.1; first | omega | (have := z87.mpr ⟨by decide, h.2.2⟩; omega), s7, s8⟩)))
              · skip
                refine at_iload dx_103_74 rfl ?_
                refine at_zeqR dx_103_75 (by decide) (fun _ => ?_) (fun c => absurd c (by decide))
                refine at_aload dx_103_97 rfl ?_
                refine at_iload dx_103_98 rfl ?_
                refine at_zneR dx_103_99 r3 (fun c99 => ?_) (fun c99 => ?_)
                · skip
                  refine at_iload dx_103_102 rfl ?_
                  refine at_zneR dx_103_103 (by decide) (fun c => absurd c (by decide)) (fun _ => ?_)
                  refine at_const (x := 2) dx_103_104 rfl ?_
                  refine at_goto dx_103_105 ?_
                  refine at_callVI dx_103_111 rfl lc_856 rfl (m_fails (by decide)) ?_
                  rintro x111 M111 r111 ⟨e111, h111⟩
                  have f111 := fe_um31 e111
                  replace F : frE w2E M _ := fe_tr F (fe_le f111 (fun q j h => Or.inl (by obtain ⟨rfl, rfl⟩ := h; exact wE_31)))
                  replace s7 : M111 857 = _ := (funext (fun j => f111 857 j (by (try dsimp only); omega))).trans s7
                  replace s8 : M111 858 = _ := (funext (fun j => f111 858 j (by (try dsimp only); omega))).trans s8
                  refine at_pop dx_103_112 rfl ?_
                  refine at_vretV dx_103_113 ?_
                  have m31 := congrFun (congrFun e111 856) 31
                  rw [um_eq] at m31
                  refine ⟨MI_sq hM (fe_le F (fun q j h => w2_sq h)), F, ?_⟩
                  first
                  | (exfalso; omega)
                  | exact Or.inl ⟨m31, by omega, s7, s8⟩
                  | exact Or.inr (Or.inl ⟨m31, by omega, by first | omega | (intro h; have := ev_rem (a := a) h.2.1.1 h.2.1.2.1; omega), s7, s8⟩)
                  | (have hra : RAr e a b := by have := ev_rem (a := a) (by omega) (by omega); omega
                     first
                     | exact Or.inr (Or.inr (Or.inr ⟨m31, by omega, hra, ⟨by omega, NoPm_of (by omega) (by omega) (by omega), (z87.mp (by omega)).2⟩, s7, s8⟩))
                     | exact Or.inr (Or.inr (Or.inl ⟨m31, by omega, hra, fun h => by have := h.1; have := NoPm_no h.2.1; first | omega | (have := z87.mpr ⟨by decide, h.2.2⟩; omega), s7, s8⟩)))
                · skip
                  refine at_const (x := 1) dx_103_100 rfl ?_
                  refine at_goto dx_103_101 ?_
                  refine at_callVI dx_103_111 rfl lc_856 rfl (m_fails (by decide)) ?_
                  rintro x111 M111 r111 ⟨e111, h111⟩
                  have f111 := fe_um31 e111
                  replace F : frE w2E M _ := fe_tr F (fe_le f111 (fun q j h => Or.inl (by obtain ⟨rfl, rfl⟩ := h; exact wE_31)))
                  replace s7 : M111 857 = _ := (funext (fun j => f111 857 j (by (try dsimp only); omega))).trans s7
                  replace s8 : M111 858 = _ := (funext (fun j => f111 858 j (by (try dsimp only); omega))).trans s8
                  refine at_pop dx_103_112 rfl ?_
                  refine at_vretV dx_103_113 ?_
                  have m31 := congrFun (congrFun e111 856) 31
                  rw [um_eq] at m31
                  refine ⟨MI_sq hM (fe_le F (fun q j h => w2_sq h)), F, ?_⟩
                  first
                  | (exfalso; omega)
                  | exact Or.inl ⟨m31, by omega, s7, s8⟩
                  | exact Or.inr (Or.inl ⟨m31, by omega, by first | omega | (intro h; have := ev_rem (a := a) h.2.1.1 h.2.1.2.1; omega), s7, s8⟩)
                  | (have hra : RAr e a b := by have := ev_rem (a := a) (by omega) (by omega); omega
                     first
                     | exact Or.inr (Or.inr (Or.inr ⟨m31, by omega, hra, ⟨by omega, NoPm_of (by omega) (by omega) (by omega), (z87.mp (by omega)).2⟩, s7, s8⟩))
                     | exact Or.inr (Or.inr (Or.inl ⟨m31, by omega, hra, fun h => by have := h.1; have := NoPm_no h.2.1; first | omega | (have := z87.mpr ⟨by decide, h.2.2⟩; omega), s7, s8⟩)))
      · skip
        refine at_iload dx_103_19 rfl ?_
        refine at_const (x := 0) dx_103_20 rfl ?_
        refine at_const (x := 3) dx_103_21 rfl ?_
        refine at_callSI dx_103_22 rfl rfl (m_isIn rb (by decide) (by decide)) ?_
        rintro x22 M9 r22 ⟨e9, h22⟩; replace e9 := e9.symm; subst e9; replace h22 := ite01 h22
        refine at_zeqR dx_103_23 r22 (fun c23 => ?_) (fun c23 => ?_)
        · skip
          refine at_const (x := 0) dx_103_26 rfl ?_
          refine at_istore dx_103_27 ?_
          refine at_iload dx_103_28 rfl ?_
          refine at_zeqR dx_103_29 r3 (fun c29 => ?_) (fun c29 => ?_)
          · skip
            refine at_const (x := 0) dx_103_38 rfl ?_
            refine at_istore dx_103_39 ?_
            refine at_aload dx_103_40 rfl ?_
            refine at_getR dx_103_41 lc_856 rfl lt_856_0 ?_
            refine at_iload dx_103_42 rfl ?_
            refine at_aldI dx_103_43 lc_857 ln_857 (by omega) (by omega) (fun r43 => ?_)
            refine at_istore dx_103_44 ?_
            refine at_aload dx_103_45 rfl ?_
            refine at_getR dx_103_46 lc_856 rfl lt_856_1 ?_
            refine at_iload dx_103_47 rfl ?_
            refine at_aldI dx_103_48 lc_858 ln_858 (by omega) (by omega) (fun r48 => ?_)
            refine at_istore dx_103_49 ?_
            refine at_aload dx_103_50 rfl ?_
            refine at_getI 13 dx_103_51 lc_856 rfl rfl (fun r51 => ?_)
            refine at_zneR dx_103_52 r51 (fun c52 => ?_) (fun c52 => ?_)
            · skip
              refine at_const (x := 0) dx_103_70 rfl ?_
              refine at_istore dx_103_71 ?_
              refine at_iload dx_103_72 rfl ?_
              refine at_zeqR dx_103_73 r3 (fun c73 => ?_) (fun c73 => ?_)
              · skip
                refine at_aload dx_103_97 rfl ?_
                refine at_iload dx_103_98 rfl ?_
                refine at_zneR dx_103_99 r3 (fun c99 => ?_) (fun c99 => ?_)
                · skip
                  refine at_iload dx_103_102 rfl ?_
                  refine at_zneR dx_103_103 (by decide) (fun c => absurd c (by decide)) (fun _ => ?_)
                  refine at_const (x := 2) dx_103_104 rfl ?_
                  refine at_goto dx_103_105 ?_
                  refine at_callVI dx_103_111 rfl lc_856 rfl (m_fails (by decide)) ?_
                  rintro x111 M111 r111 ⟨e111, h111⟩
                  have f111 := fe_um31 e111
                  replace F : frE w2E M _ := fe_tr F (fe_le f111 (fun q j h => Or.inl (by obtain ⟨rfl, rfl⟩ := h; exact wE_31)))
                  replace s7 : M111 857 = _ := (funext (fun j => f111 857 j (by (try dsimp only); omega))).trans s7
                  replace s8 : M111 858 = _ := (funext (fun j => f111 858 j (by (try dsimp only); omega))).trans s8
                  refine at_pop dx_103_112 rfl ?_
                  refine at_vretV dx_103_113 ?_
                  have m31 := congrFun (congrFun e111 856) 31
                  rw [um_eq] at m31
                  refine ⟨MI_sq hM (fe_le F (fun q j h => w2_sq h)), F, ?_⟩
                  first
                  | (exfalso; omega)
                  | exact Or.inl ⟨m31, by omega, s7, s8⟩
                  | exact Or.inr (Or.inl ⟨m31, by omega, by first | omega | (intro h; have := ev_rem (a := a) h.2.1.1 h.2.1.2.1; omega), s7, s8⟩)
                  | (have hra : RAr e a b := by have := ev_rem (a := a) (by omega) (by omega); omega
                     first
                     | exact Or.inr (Or.inr (Or.inr ⟨m31, by omega, hra, ⟨by omega, NoPm_of (by omega) (by omega) (by omega), (z87.mp (by omega)).2⟩, s7, s8⟩))
                     | exact Or.inr (Or.inr (Or.inl ⟨m31, by omega, hra, fun h => by have := h.1; have := NoPm_no h.2.1; first | omega | (have := z87.mpr ⟨by decide, h.2.2⟩; omega), s7, s8⟩)))
                · skip
                  refine at_const (x := 1) dx_103_100 rfl ?_
                  refine at_goto dx_103_101 ?_
                  refine at_callVI dx_103_111 rfl lc_856 rfl (m_fails (by decide)) ?_
                  rintro x111 M111 r111 ⟨e111, h111⟩
                  have f111 := fe_um31 e111
                  replace F : frE w2E M _ := fe_tr F (fe_le f111 (fun q j h => Or.inl (by obtain ⟨rfl, rfl⟩ := h; exact wE_31)))
                  replace s7 : M111 857 = _ := (funext (fun j => f111 857 j (by (try dsimp only); omega))).trans s7
                  replace s8 : M111 858 = _ := (funext (fun j => f111 858 j (by (try dsimp only); omega))).trans s8
                  refine at_pop dx_103_112 rfl ?_
                  refine at_vretV dx_103_113 ?_
                  have m31 := congrFun (congrFun e111 856) 31
                  rw [um_eq] at m31
                  refine ⟨MI_sq hM (fe_le F (fun q j h => w2_sq h)), F, ?_⟩
                  first
                  | (exfalso; omega)
                  | exact Or.inl ⟨m31, by omega, s7, s8⟩
                  | exact Or.inr (Or.inl ⟨m31, by omega, by first | omega | (intro h; have := ev_rem (a := a) h.2.1.1 h.2.1.2.1; omega), s7, s8⟩)
                  | (have hra : RAr e a b := by have := ev_rem (a := a) (by omega) (by omega); omega
                     first
                     | exact Or.inr (Or.inr (Or.inr ⟨m31, by omega, hra, ⟨by omega, NoPm_of (by omega) (by omega) (by omega), (z87.mp (by omega)).2⟩, s7, s8⟩))
                     | exact Or.inr (Or.inr (Or.inl ⟨m31, by omega, hra, fun h => by have := h.1; have := NoPm_no h.2.1; first | omega | (have := z87.mpr ⟨by decide, h.2.2⟩; omega), s7, s8⟩)))
              · skip
                refine at_iload dx_103_74 rfl ?_
                refine at_zeqR dx_103_75 (by decide) (fun _ => ?_) (fun c => absurd c (by decide))
                refine at_aload dx_103_97 rfl ?_
                refine at_iload dx_103_98 rfl ?_
                refine at_zneR dx_103_99 r3 (fun c99 => ?_) (fun c99 => ?_)
                · skip
                  refine at_iload dx_103_102 rfl ?_
                  refine at_zneR dx_103_103 (by decide) (fun c => absurd c (by decide)) (fun _ => ?_)
                  refine at_const (x := 2) dx_103_104 rfl ?_
                  refine at_goto dx_103_105 ?_
                  refine at_callVI dx_103_111 rfl lc_856 rfl (m_fails (by decide)) ?_
                  rintro x111 M111 r111 ⟨e111, h111⟩
                  have f111 := fe_um31 e111
                  replace F : frE w2E M _ := fe_tr F (fe_le f111 (fun q j h => Or.inl (by obtain ⟨rfl, rfl⟩ := h; exact wE_31)))
                  replace s7 : M111 857 = _ := (funext (fun j => f111 857 j (by (try dsimp only); omega))).trans s7
                  replace s8 : M111 858 = _ := (funext (fun j => f111 858 j (by (try dsimp only); omega))).trans s8
                  refine at_pop dx_103_112 rfl ?_
                  refine at_vretV dx_103_113 ?_
                  have m31 := congrFun (congrFun e111 856) 31
                  rw [um_eq] at m31
                  refine ⟨MI_sq hM (fe_le F (fun q j h => w2_sq h)), F, ?_⟩
                  first
                  | (exfalso; omega)
                  | exact Or.inl ⟨m31, by omega, s7, s8⟩
                  | exact Or.inr (Or.inl ⟨m31, by omega, by first | omega | (intro h; have := ev_rem (a := a) h.2.1.1 h.2.1.2.1; omega), s7, s8⟩)
                  | (have hra : RAr e a b := by have := ev_rem (a := a) (by omega) (by omega); omega
                     first
                     | exact Or.inr (Or.inr (Or.inr ⟨m31, by omega, hra, ⟨by omega, NoPm_of (by omega) (by omega) (by omega), (z87.mp (by omega)).2⟩, s7, s8⟩))
                     | exact Or.inr (Or.inr (Or.inl ⟨m31, by omega, hra, fun h => by have := h.1; have := NoPm_no h.2.1; first | omega | (have := z87.mpr ⟨by decide, h.2.2⟩; omega), s7, s8⟩)))
                · skip
                  refine at_const (x := 1) dx_103_100 rfl ?_
                  refine at_goto dx_103_101 ?_
                  refine at_callVI dx_103_111 rfl lc_856 rfl (m_fails (by decide)) ?_
                  rintro x111 M111 r111 ⟨e111, h111⟩
                  have f111 := fe_um31 e111
                  replace F : frE w2E M _ := fe_tr F (fe_le f111 (fun q j h => Or.inl (by obtain ⟨rfl, rfl⟩ := h; exact wE_31)))
                  replace s7 : M111 857 = _ := (funext (fun j => f111 857 j (by (try dsimp only); omega))).trans s7
                  replace s8 : M111 858 = _ := (funext (fun j => f111 858 j (by (try dsimp only); omega))).trans s8
                  refine at_pop dx_103_112 rfl ?_
                  refine at_vretV dx_103_113 ?_
                  have m31 := congrFun (congrFun e111 856) 31
                  rw [um_eq] at m31
                  refine ⟨MI_sq hM (fe_le F (fun q j h => w2_sq h)), F, ?_⟩
                  first
                  | (exfalso; omega)
                  | exact Or.inl ⟨m31, by omega, s7, s8⟩
                  | exact Or.inr (Or.inl ⟨m31, by omega, by first | omega | (intro h; have := ev_rem (a := a) h.2.1.1 h.2.1.2.1; omega), s7, s8⟩)
                  | (have hra : RAr e a b := by have := ev_rem (a := a) (by omega) (by omega); omega
                     first
                     | exact Or.inr (Or.inr (Or.inr ⟨m31, by omega, hra, ⟨by omega, NoPm_of (by omega) (by omega) (by omega), (z87.mp (by omega)).2⟩, s7, s8⟩))
                     | exact Or.inr (Or.inr (Or.inl ⟨m31, by omega, hra, fun h => by have := h.1; have := NoPm_no h.2.1; first | omega | (have := z87.mpr ⟨by decide, h.2.2⟩; omega), s7, s8⟩)))
            · skip
              refine at_aload dx_103_53 rfl ?_
              refine at_getR dx_103_54 lc_856 rfl lt_856_15 ?_
              refine at_const (x := 0) dx_103_55 rfl ?_
              refine at_aldI dx_103_56 lc_871 ln_871 (by decide) (by decide) (fun r56 => ?_)
              refine at_aload dx_103_57 rfl ?_
              refine at_getR dx_103_58 lc_856 rfl lt_856_15 ?_
              refine at_const (x := 1) dx_103_59 rfl ?_
              refine at_aldI dx_103_60 lc_871 ln_871 (by decide) (by decide) (fun r60 => ?_)
              refine at_addR dx_103_61 (by constructor <;> omega) (fun r61 => ?_)
              refine at_aload dx_103_62 rfl ?_
              refine at_getR dx_103_63 lc_856 rfl lt_856_15 ?_
              refine at_const (x := 2) dx_103_64 rfl ?_
              refine at_aldI dx_103_65 lc_871 ln_871 (by decide) (by decide) (fun r65 => ?_)
              refine at_addR dx_103_66 (by constructor <;> omega) (fun r66 => ?_)
              refine at_zneR dx_103_67 r66 (fun c67 => ?_) (fun c67 => ?_)
              · skip
                refine at_const (x := 0) dx_103_70 rfl ?_
                refine at_istore dx_103_71 ?_
                refine at_iload dx_103_72 rfl ?_
                refine at_zeqR dx_103_73 r3 (fun c73 => ?_) (fun c73 => ?_)
                · skip
                  refine at_aload dx_103_97 rfl ?_
                  refine at_iload dx_103_98 rfl ?_
                  refine at_zneR dx_103_99 r3 (fun c99 => ?_) (fun c99 => ?_)
                  · skip
                    refine at_iload dx_103_102 rfl ?_
                    refine at_zneR dx_103_103 (by decide) (fun c => absurd c (by decide)) (fun _ => ?_)
                    refine at_const (x := 2) dx_103_104 rfl ?_
                    refine at_goto dx_103_105 ?_
                    refine at_callVI dx_103_111 rfl lc_856 rfl (m_fails (by decide)) ?_
                    rintro x111 M111 r111 ⟨e111, h111⟩
                    have f111 := fe_um31 e111
                    replace F : frE w2E M _ := fe_tr F (fe_le f111 (fun q j h => Or.inl (by obtain ⟨rfl, rfl⟩ := h; exact wE_31)))
                    replace s7 : M111 857 = _ := (funext (fun j => f111 857 j (by (try dsimp only); omega))).trans s7
                    replace s8 : M111 858 = _ := (funext (fun j => f111 858 j (by (try dsimp only); omega))).trans s8
                    refine at_pop dx_103_112 rfl ?_
                    refine at_vretV dx_103_113 ?_
                    have m31 := congrFun (congrFun e111 856) 31
                    rw [um_eq] at m31
                    refine ⟨MI_sq hM (fe_le F (fun q j h => w2_sq h)), F, ?_⟩
                    first
                    | (exfalso; omega)
                    | exact Or.inl ⟨m31, by omega, s7, s8⟩
                    | exact Or.inr (Or.inl ⟨m31, by omega, by first | omega | (intro h; have := ev_rem (a := a) h.2.1.1 h.2.1.2.1; omega), s7, s8⟩)
                    | (have hra : RAr e a b := by have := ev_rem (a := a) (by omega) (by omega); omega
                       first
                       | exact Or.inr (Or.inr (Or.inr ⟨m31, by omega, hra, ⟨by omega, NoPm_of (by omega) (by omega) (by omega), (z87.mp (by omega)).2⟩, s7, s8⟩))
                       | exact Or.inr (Or.inr (Or.inl ⟨m31, by omega, hra, fun h => by have := h.1; have := NoPm_no h.2.1; first | omega | (have := z87.mpr ⟨by decide, h.2.2⟩; omega), s7, s8⟩)))
                  · skip
                    refine at_const (x := 1) dx_103_100 rfl ?_
                    refine at_goto dx_103_101 ?_
                    refine at_callVI dx_103_111 rfl lc_856 rfl (m_fails (by decide)) ?_
                    rintro x111 M111 r111 ⟨e111, h111⟩
                    have f111 := fe_um31 e111
                    replace F : frE w2E M _ := fe_tr F (fe_le f111 (fun q j h => Or.inl (by obtain ⟨rfl, rfl⟩ := h; exact wE_31)))
                    replace s7 : M111 857 = _ := (funext (fun j => f111 857 j (by (try dsimp only); omega))).trans s7
                    replace s8 : M111 858 = _ := (funext (fun j => f111 858 j (by (try dsimp only); omega))).trans s8
                    refine at_pop dx_103_112 rfl ?_
                    refine at_vretV dx_103_113 ?_
                    have m31 := congrFun (congrFun e111 856) 31
                    rw [um_eq] at m31
                    refine ⟨MI_sq hM (fe_le F (fun q j h => w2_sq h)), F, ?_⟩
                    first
                    | (exfalso; omega)
                    | exact Or.inl ⟨m31, by omega, s7, s8⟩
                    | exact Or.inr (Or.inl ⟨m31, by omega, by first | omega | (intro h; have := ev_rem (a := a) h.2.1.1 h.2.1.2.1; omega), s7, s8⟩)
                    | (have hra : RAr e a b := by have := ev_rem (a := a) (by omega) (by omega); omega
                       first
                       | exact Or.inr (Or.inr (Or.inr ⟨m31, by omega, hra, ⟨by omega, NoPm_of (by omega) (by omega) (by omega), (z87.mp (by omega)).2⟩, s7, s8⟩))
                       | exact Or.inr (Or.inr (Or.inl ⟨m31, by omega, hra, fun h => by have := h.1; have := NoPm_no h.2.1; first | omega | (have := z87.mpr ⟨by decide, h.2.2⟩; omega), s7, s8⟩)))
                · skip
                  refine at_iload dx_103_74 rfl ?_
                  refine at_zeqR dx_103_75 (by decide) (fun _ => ?_) (fun c => absurd c (by decide))
                  refine at_aload dx_103_97 rfl ?_
                  refine at_iload dx_103_98 rfl ?_
                  refine at_zneR dx_103_99 r3 (fun c99 => ?_) (fun c99 => ?_)
                  · skip
                    refine at_iload dx_103_102 rfl ?_
                    refine at_zneR dx_103_103 (by decide) (fun c => absurd c (by decide)) (fun _ => ?_)
                    refine at_const (x := 2) dx_103_104 rfl ?_
                    refine at_goto dx_103_105 ?_
                    refine at_callVI dx_103_111 rfl lc_856 rfl (m_fails (by decide)) ?_
                    rintro x111 M111 r111 ⟨e111, h111⟩
                    have f111 := fe_um31 e111
                    replace F : frE w2E M _ := fe_tr F (fe_le f111 (fun q j h => Or.inl (by obtain ⟨rfl, rfl⟩ := h; exact wE_31)))
                    replace s7 : M111 857 = _ := (funext (fun j => f111 857 j (by (try dsimp only); omega))).trans s7
                    replace s8 : M111 858 = _ := (funext (fun j => f111 858 j (by (try dsimp only); omega))).trans s8
                    refine at_pop dx_103_112 rfl ?_
                    refine at_vretV dx_103_113 ?_
                    have m31 := congrFun (congrFun e111 856) 31
                    rw [um_eq] at m31
                    refine ⟨MI_sq hM (fe_le F (fun q j h => w2_sq h)), F, ?_⟩
                    first
                    | (exfalso; omega)
                    | exact Or.inl ⟨m31, by omega, s7, s8⟩
                    | exact Or.inr (Or.inl ⟨m31, by omega, by first | omega | (intro h; have := ev_rem (a := a) h.2.1.1 h.2.1.2.1; omega), s7, s8⟩)
                    | (have hra : RAr e a b := by have := ev_rem (a := a) (by omega) (by omega); omega
                       first
                       | exact Or.inr (Or.inr (Or.inr ⟨m31, by omega, hra, ⟨by omega, NoPm_of (by omega) (by omega) (by omega), (z87.mp (by omega)).2⟩, s7, s8⟩))
                       | exact Or.inr (Or.inr (Or.inl ⟨m31, by omega, hra, fun h => by have := h.1; have := NoPm_no h.2.1; first | omega | (have := z87.mpr ⟨by decide, h.2.2⟩; omega), s7, s8⟩)))
                  · skip
                    refine at_const (x := 1) dx_103_100 rfl ?_
                    refine at_goto dx_103_101 ?_
                    refine at_callVI dx_103_111 rfl lc_856 rfl (m_fails (by decide)) ?_
                    rintro x111 M111 r111 ⟨e111, h111⟩
                    have f111 := fe_um31 e111
                    replace F : frE w2E M _ := fe_tr F (fe_le f111 (fun q j h => Or.inl (by obtain ⟨rfl, rfl⟩ := h; exact wE_31)))
                    replace s7 : M111 857 = _ := (funext (fun j => f111 857 j (by (try dsimp only); omega))).trans s7
                    replace s8 : M111 858 = _ := (funext (fun j => f111 858 j (by (try dsimp only); omega))).trans s8
                    refine at_pop dx_103_112 rfl ?_
                    refine at_vretV dx_103_113 ?_
                    have m31 := congrFun (congrFun e111 856) 31
                    rw [um_eq] at m31
                    refine ⟨MI_sq hM (fe_le F (fun q j h => w2_sq h)), F, ?_⟩
                    first
                    | (exfalso; omega)
                    | exact Or.inl ⟨m31, by omega, s7, s8⟩
                    | exact Or.inr (Or.inl ⟨m31, by omega, by first | omega | (intro h; have := ev_rem (a := a) h.2.1.1 h.2.1.2.1; omega), s7, s8⟩)
                    | (have hra : RAr e a b := by have := ev_rem (a := a) (by omega) (by omega); omega
                       first
                       | exact Or.inr (Or.inr (Or.inr ⟨m31, by omega, hra, ⟨by omega, NoPm_of (by omega) (by omega) (by omega), (z87.mp (by omega)).2⟩, s7, s8⟩))
                       | exact Or.inr (Or.inr (Or.inl ⟨m31, by omega, hra, fun h => by have := h.1; have := NoPm_no h.2.1; first | omega | (have := z87.mpr ⟨by decide, h.2.2⟩; omega), s7, s8⟩)))
              · skip
                refine at_const (x := 1) dx_103_68 rfl ?_
                refine at_goto dx_103_69 ?_
                refine at_istore dx_103_71 ?_
                refine at_iload dx_103_72 rfl ?_
                refine at_zeqR dx_103_73 r3 (fun c73 => ?_) (fun c73 => ?_)
                · skip
                  refine at_aload dx_103_97 rfl ?_
                  refine at_iload dx_103_98 rfl ?_
                  refine at_zneR dx_103_99 r3 (fun c99 => ?_) (fun c99 => ?_)
                  · skip
                    refine at_iload dx_103_102 rfl ?_
                    refine at_zneR dx_103_103 (by decide) (fun c => absurd c (by decide)) (fun _ => ?_)
                    refine at_const (x := 2) dx_103_104 rfl ?_
                    refine at_goto dx_103_105 ?_
                    refine at_callVI dx_103_111 rfl lc_856 rfl (m_fails (by decide)) ?_
                    rintro x111 M111 r111 ⟨e111, h111⟩
                    have f111 := fe_um31 e111
                    replace F : frE w2E M _ := fe_tr F (fe_le f111 (fun q j h => Or.inl (by obtain ⟨rfl, rfl⟩ := h; exact wE_31)))
                    replace s7 : M111 857 = _ := (funext (fun j => f111 857 j (by (try dsimp only); omega))).trans s7
                    replace s8 : M111 858 = _ := (funext (fun j => f111 858 j (by (try dsimp only); omega))).trans s8
                    refine at_pop dx_103_112 rfl ?_
                    refine at_vretV dx_103_113 ?_
                    have m31 := congrFun (congrFun e111 856) 31
                    rw [um_eq] at m31
                    refine ⟨MI_sq hM (fe_le F (fun q j h => w2_sq h)), F, ?_⟩
                    first
                    | (exfalso; omega)
                    | exact Or.inl ⟨m31, by omega, s7, s8⟩
                    | exact Or.inr (Or.inl ⟨m31, by omega, by first | omega | (intro h; have := ev_rem (a := a) h.2.1.1 h.2.1.2.1; omega), s7, s8⟩)
                    | (have hra : RAr e a b := by have := ev_rem (a := a) (by omega) (by omega); omega
                       first
                       | exact Or.inr (Or.inr (Or.inr ⟨m31, by omega, hra, ⟨by omega, NoPm_of (by omega) (by omega) (by omega), (z87.mp (by omega)).2⟩, s7, s8⟩))
                       | exact Or.inr (Or.inr (Or.inl ⟨m31, by omega, hra, fun h => by have := h.1; have := NoPm_no h.2.1; first | omega | (have := z87.mpr ⟨by decide, h.2.2⟩; omega), s7, s8⟩)))
                  · skip
                    refine at_const (x := 1) dx_103_100 rfl ?_
                    refine at_goto dx_103_101 ?_
                    refine at_callVI dx_103_111 rfl lc_856 rfl (m_fails (by decide)) ?_
                    rintro x111 M111 r111 ⟨e111, h111⟩
                    have f111 := fe_um31 e111
                    replace F : frE w2E M _ := fe_tr F (fe_le f111 (fun q j h => Or.inl (by obtain ⟨rfl, rfl⟩ := h; exact wE_31)))
                    replace s7 : M111 857 = _ := (funext (fun j => f111 857 j (by (try dsimp only); omega))).trans s7
                    replace s8 : M111 858 = _ := (funext (fun j => f111 858 j (by (try dsimp only); omega))).trans s8
                    refine at_pop dx_103_112 rfl ?_
                    refine at_vretV dx_103_113 ?_
                    have m31 := congrFun (congrFun e111 856) 31
                    rw [um_eq] at m31
                    refine ⟨MI_sq hM (fe_le F (fun q j h => w2_sq h)), F, ?_⟩
                    first
                    | (exfalso; omega)
                    | exact Or.inl ⟨m31, by omega, s7, s8⟩
                    | exact Or.inr (Or.inl ⟨m31, by omega, by first | omega | (intro h; have := ev_rem (a := a) h.2.1.1 h.2.1.2.1; omega), s7, s8⟩)
                    | (have hra : RAr e a b := by have := ev_rem (a := a) (by omega) (by omega); omega
                       first
                       | exact Or.inr (Or.inr (Or.inr ⟨m31, by omega, hra, ⟨by omega, NoPm_of (by omega) (by omega) (by omega), (z87.mp (by omega)).2⟩, s7, s8⟩))
                       | exact Or.inr (Or.inr (Or.inl ⟨m31, by omega, hra, fun h => by have := h.1; have := NoPm_no h.2.1; first | omega | (have := z87.mpr ⟨by decide, h.2.2⟩; omega), s7, s8⟩)))
                · skip
                  refine at_iload dx_103_74 rfl ?_
                  refine at_zeqR dx_103_75 (by decide) (fun _ => ?_) (fun c => absurd c (by decide))
                  refine at_aload dx_103_97 rfl ?_
                  refine at_iload dx_103_98 rfl ?_
                  refine at_zneR dx_103_99 r3 (fun c99 => ?_) (fun c99 => ?_)
                  · skip
                    refine at_iload dx_103_102 rfl ?_
                    refine at_zneR dx_103_103 (by decide) (fun c => absurd c (by decide)) (fun _ => ?_)
                    refine at_const (x := 2) dx_103_104 rfl ?_
                    refine at_goto dx_103_105 ?_
                    refine at_callVI dx_103_111 rfl lc_856 rfl (m_fails (by decide)) ?_
                    rintro x111 M111 r111 ⟨e111, h111⟩
                    have f111 := fe_um31 e111
                    replace F : frE w2E M _ := fe_tr F (fe_le f111 (fun q j h => Or.inl (by obtain ⟨rfl, rfl⟩ := h; exact wE_31)))
                    replace s7 : M111 857 = _ := (funext (fun j => f111 857 j (by (try dsimp only); omega))).trans s7
                    replace s8 : M111 858 = _ := (funext (fun j => f111 858 j (by (try dsimp only); omega))).trans s8
                    refine at_pop dx_103_112 rfl ?_
                    refine at_vretV dx_103_113 ?_
                    have m31 := congrFun (congrFun e111 856) 31
                    rw [um_eq] at m31
                    refine ⟨MI_sq hM (fe_le F (fun q j h => w2_sq h)), F, ?_⟩
                    first
                    | (exfalso; omega)
                    | exact Or.inl ⟨m31, by omega, s7, s8⟩
                    | exact Or.inr (Or.inl ⟨m31, by omega, by first | omega | (intro h; have := ev_rem (a := a) h.2.1.1 h.2.1.2.1; omega), s7, s8⟩)
                    | (have hra : RAr e a b := by have := ev_rem (a := a) (by omega) (by omega); omega
                       first
                       | exact Or.inr (Or.inr (Or.inr ⟨m31, by omega, hra, ⟨by omega, NoPm_of (by omega) (by omega) (by omega), (z87.mp (by omega)).2⟩, s7, s8⟩))
                       | exact Or.inr (Or.inr (Or.inl ⟨m31, by omega, hra, fun h => by have := h.1; have := NoPm_no h.2.1; first | omega | (have := z87.mpr ⟨by decide, h.2.2⟩; omega), s7, s8⟩)))
                  · skip
                    refine at_const (x := 1) dx_103_100 rfl ?_
                    refine at_goto dx_103_101 ?_
                    refine at_callVI dx_103_111 rfl lc_856 rfl (m_fails (by decide)) ?_
                    rintro x111 M111 r111 ⟨e111, h111⟩
                    have f111 := fe_um31 e111
                    replace F : frE w2E M _ := fe_tr F (fe_le f111 (fun q j h => Or.inl (by obtain ⟨rfl, rfl⟩ := h; exact wE_31)))
                    replace s7 : M111 857 = _ := (funext (fun j => f111 857 j (by (try dsimp only); omega))).trans s7
                    replace s8 : M111 858 = _ := (funext (fun j => f111 858 j (by (try dsimp only); omega))).trans s8
                    refine at_pop dx_103_112 rfl ?_
                    refine at_vretV dx_103_113 ?_
                    have m31 := congrFun (congrFun e111 856) 31
                    rw [um_eq] at m31
                    refine ⟨MI_sq hM (fe_le F (fun q j h => w2_sq h)), F, ?_⟩
                    first
                    | (exfalso; omega)
                    | exact Or.inl ⟨m31, by omega, s7, s8⟩
                    | exact Or.inr (Or.inl ⟨m31, by omega, by first | omega | (intro h; have := ev_rem (a := a) h.2.1.1 h.2.1.2.1; omega), s7, s8⟩)
                    | (have hra : RAr e a b := by have := ev_rem (a := a) (by omega) (by omega); omega
                       first
                       | exact Or.inr (Or.inr (Or.inr ⟨m31, by omega, hra, ⟨by omega, NoPm_of (by omega) (by omega) (by omega), (z87.mp (by omega)).2⟩, s7, s8⟩))
                       | exact Or.inr (Or.inr (Or.inl ⟨m31, by omega, hra, fun h => by have := h.1; have := NoPm_no h.2.1; first | omega | (have := z87.mpr ⟨by decide, h.2.2⟩; omega), s7, s8⟩)))
          · skip
            refine at_iload dx_103_30 rfl ?_
            refine at_zeqR dx_103_31 (by decide) (fun _ => ?_) (fun c => absurd c (by decide))
            refine at_const (x := 0) dx_103_38 rfl ?_
            refine at_istore dx_103_39 ?_
            refine at_aload dx_103_40 rfl ?_
            refine at_getR dx_103_41 lc_856 rfl lt_856_0 ?_
            refine at_iload dx_103_42 rfl ?_
            refine at_aldI dx_103_43 lc_857 ln_857 (by omega) (by omega) (fun r43 => ?_)
            refine at_istore dx_103_44 ?_
            refine at_aload dx_103_45 rfl ?_
            refine at_getR dx_103_46 lc_856 rfl lt_856_1 ?_
            refine at_iload dx_103_47 rfl ?_
            refine at_aldI dx_103_48 lc_858 ln_858 (by omega) (by omega) (fun r48 => ?_)
            refine at_istore dx_103_49 ?_
            refine at_aload dx_103_50 rfl ?_
            refine at_getI 13 dx_103_51 lc_856 rfl rfl (fun r51 => ?_)
            refine at_zneR dx_103_52 r51 (fun c52 => ?_) (fun c52 => ?_)
            · skip
              refine at_const (x := 0) dx_103_70 rfl ?_
              refine at_istore dx_103_71 ?_
              refine at_iload dx_103_72 rfl ?_
              refine at_zeqR dx_103_73 r3 (fun c73 => ?_) (fun c73 => ?_)
              · skip
                refine at_aload dx_103_97 rfl ?_
                refine at_iload dx_103_98 rfl ?_
                refine at_zneR dx_103_99 r3 (fun c99 => ?_) (fun c99 => ?_)
                · skip
                  refine at_iload dx_103_102 rfl ?_
                  refine at_zneR dx_103_103 (by decide) (fun c => absurd c (by decide)) (fun _ => ?_)
                  refine at_const (x := 2) dx_103_104 rfl ?_
                  refine at_goto dx_103_105 ?_
                  refine at_callVI dx_103_111 rfl lc_856 rfl (m_fails (by decide)) ?_
                  rintro x111 M111 r111 ⟨e111, h111⟩
                  have f111 := fe_um31 e111
                  replace F : frE w2E M _ := fe_tr F (fe_le f111 (fun q j h => Or.inl (by obtain ⟨rfl, rfl⟩ := h; exact wE_31)))
                  replace s7 : M111 857 = _ := (funext (fun j => f111 857 j (by (try dsimp only); omega))).trans s7
                  replace s8 : M111 858 = _ := (funext (fun j => f111 858 j (by (try dsimp only); omega))).trans s8
                  refine at_pop dx_103_112 rfl ?_
                  refine at_vretV dx_103_113 ?_
                  have m31 := congrFun (congrFun e111 856) 31
                  rw [um_eq] at m31
                  refine ⟨MI_sq hM (fe_le F (fun q j h => w2_sq h)), F, ?_⟩
                  first
                  | (exfalso; omega)
                  | exact Or.inl ⟨m31, by omega, s7, s8⟩
                  | exact Or.inr (Or.inl ⟨m31, by omega, by first | omega | (intro h; have := ev_rem (a := a) h.2.1.1 h.2.1.2.1; omega), s7, s8⟩)
                  | (have hra : RAr e a b := by have := ev_rem (a := a) (by omega) (by omega); omega
                     first
                     | exact Or.inr (Or.inr (Or.inr ⟨m31, by omega, hra, ⟨by omega, NoPm_of (by omega) (by omega) (by omega), (z87.mp (by omega)).2⟩, s7, s8⟩))
                     | exact Or.inr (Or.inr (Or.inl ⟨m31, by omega, hra, fun h => by have := h.1; have := NoPm_no h.2.1; first | omega | (have := z87.mpr ⟨by decide, h.2.2⟩; omega), s7, s8⟩)))
                · skip
                  refine at_const (x := 1) dx_103_100 rfl ?_
                  refine at_goto dx_103_101 ?_
                  refine at_callVI dx_103_111 rfl lc_856 rfl (m_fails (by decide)) ?_
                  rintro x111 M111 r111 ⟨e111, h111⟩
                  have f111 := fe_um31 e111
                  replace F : frE w2E M _ := fe_tr F (fe_le f111 (fun q j h => Or.inl (by obtain ⟨rfl, rfl⟩ := h; exact wE_31)))
                  replace s7 : M111 857 = _ := (funext (fun j => f111 857 j (by (try dsimp only); omega))).trans s7
                  replace s8 : M111 858 = _ := (funext (fun j => f111 858 j (by (try dsimp only); omega))).trans s8
                  refine at_pop dx_103_112 rfl ?_
                  refine at_vretV dx_103_113 ?_
                  have m31 := congrFun (congrFun e111 856) 31
                  rw [um_eq] at m31
                  refine ⟨MI_sq hM (fe_le F (fun q j h => w2_sq h)), F, ?_⟩
                  first
                  | (exfalso; omega)
                  | exact Or.inl ⟨m31, by omega, s7, s8⟩
                  | exact Or.inr (Or.inl ⟨m31, by omega, by first | omega | (intro h; have := ev_rem (a := a) h.2.1.1 h.2.1.2.1; omega), s7, s8⟩)
                  | (have hra : RAr e a b := by have := ev_rem (a := a) (by omega) (by omega); omega
                     first
                     | exact Or.inr (Or.inr (Or.inr ⟨m31, by omega, hra, ⟨by omega, NoPm_of (by omega) (by omega) (by omega), (z87.mp (by omega)).2⟩, s7, s8⟩))
                     | exact Or.inr (Or.inr (Or.inl ⟨m31, by omega, hra, fun h => by have := h.1; have := NoPm_no h.2.1; first | omega | (have := z87.mpr ⟨by decide, h.2.2⟩; omega), s7, s8⟩)))
              · skip
                refine at_iload dx_103_74 rfl ?_
                refine at_zeqR dx_103_75 (by decide) (fun _ => ?_) (fun c => absurd c (by decide))
                refine at_aload dx_103_97 rfl ?_
                refine at_iload dx_103_98 rfl ?_
                refine at_zneR dx_103_99 r3 (fun c99 => ?_) (fun c99 => ?_)
                · skip
                  refine at_iload dx_103_102 rfl ?_
                  refine at_zneR dx_103_103 (by decide) (fun c => absurd c (by decide)) (fun _ => ?_)
                  refine at_const (x := 2) dx_103_104 rfl ?_
                  refine at_goto dx_103_105 ?_
                  refine at_callVI dx_103_111 rfl lc_856 rfl (m_fails (by decide)) ?_
                  rintro x111 M111 r111 ⟨e111, h111⟩
                  have f111 := fe_um31 e111
                  replace F : frE w2E M _ := fe_tr F (fe_le f111 (fun q j h => Or.inl (by obtain ⟨rfl, rfl⟩ := h; exact wE_31)))
                  replace s7 : M111 857 = _ := (funext (fun j => f111 857 j (by (try dsimp only); omega))).trans s7
                  replace s8 : M111 858 = _ := (funext (fun j => f111 858 j (by (try dsimp only); omega))).trans s8
                  refine at_pop dx_103_112 rfl ?_
                  refine at_vretV dx_103_113 ?_
                  have m31 := congrFun (congrFun e111 856) 31
                  rw [um_eq] at m31
                  refine ⟨MI_sq hM (fe_le F (fun q j h => w2_sq h)), F, ?_⟩
                  first
                  | (exfalso; omega)
                  | exact Or.inl ⟨m31, by omega, s7, s8⟩
                  | exact Or.inr (Or.inl ⟨m31, by omega, by first | omega | (intro h; have := ev_rem (a := a) h.2.1.1 h.2.1.2.1; omega), s7, s8⟩)
                  | (have hra : RAr e a b := by have := ev_rem (a := a) (by omega) (by omega); omega
                     first
                     | exact Or.inr (Or.inr (Or.inr ⟨m31, by omega, hra, ⟨by omega, NoPm_of (by omega) (by omega) (by omega), (z87.mp (by omega)).2⟩, s7, s8⟩))
                     | exact Or.inr (Or.inr (Or.inl ⟨m31, by omega, hra, fun h => by have := h.1; have := NoPm_no h.2.1; first | omega | (have := z87.mpr ⟨by decide, h.2.2⟩; omega), s7, s8⟩)))
                · skip
                  refine at_const (x := 1) dx_103_100 rfl ?_
                  refine at_goto dx_103_101 ?_
                  refine at_callVI dx_103_111 rfl lc_856 rfl (m_fails (by decide)) ?_
                  rintro x111 M111 r111 ⟨e111, h111⟩
                  have f111 := fe_um31 e111
                  replace F : frE w2E M _ := fe_tr F (fe_le f111 (fun q j h => Or.inl (by obtain ⟨rfl, rfl⟩ := h; exact wE_31)))
                  replace s7 : M111 857 = _ := (funext (fun j => f111 857 j (by (try dsimp only); omega))).trans s7
                  replace s8 : M111 858 = _ := (funext (fun j => f111 858 j (by (try dsimp only); omega))).trans s8
                  refine at_pop dx_103_112 rfl ?_
                  refine at_vretV dx_103_113 ?_
                  have m31 := congrFun (congrFun e111 856) 31
                  rw [um_eq] at m31
                  refine ⟨MI_sq hM (fe_le F (fun q j h => w2_sq h)), F, ?_⟩
                  first
                  | (exfalso; omega)
                  | exact Or.inl ⟨m31, by omega, s7, s8⟩
                  | exact Or.inr (Or.inl ⟨m31, by omega, by first | omega | (intro h; have := ev_rem (a := a) h.2.1.1 h.2.1.2.1; omega), s7, s8⟩)
                  | (have hra : RAr e a b := by have := ev_rem (a := a) (by omega) (by omega); omega
                     first
                     | exact Or.inr (Or.inr (Or.inr ⟨m31, by omega, hra, ⟨by omega, NoPm_of (by omega) (by omega) (by omega), (z87.mp (by omega)).2⟩, s7, s8⟩))
                     | exact Or.inr (Or.inr (Or.inl ⟨m31, by omega, hra, fun h => by have := h.1; have := NoPm_no h.2.1; first | omega | (have := z87.mpr ⟨by decide, h.2.2⟩; omega), s7, s8⟩)))
            · skip
              refine at_aload dx_103_53 rfl ?_
              refine at_getR dx_103_54 lc_856 rfl lt_856_15 ?_
              refine at_const (x := 0) dx_103_55 rfl ?_
              refine at_aldI dx_103_56 lc_871 ln_871 (by decide) (by decide) (fun r56 => ?_)
              refine at_aload dx_103_57 rfl ?_
              refine at_getR dx_103_58 lc_856 rfl lt_856_15 ?_
              refine at_const (x := 1) dx_103_59 rfl ?_
              refine at_aldI dx_103_60 lc_871 ln_871 (by decide) (by decide) (fun r60 => ?_)
              refine at_addR dx_103_61 (by constructor <;> omega) (fun r61 => ?_)
              refine at_aload dx_103_62 rfl ?_
              refine at_getR dx_103_63 lc_856 rfl lt_856_15 ?_
              refine at_const (x := 2) dx_103_64 rfl ?_
              refine at_aldI dx_103_65 lc_871 ln_871 (by decide) (by decide) (fun r65 => ?_)
              refine at_addR dx_103_66 (by constructor <;> omega) (fun r66 => ?_)
              refine at_zneR dx_103_67 r66 (fun c67 => ?_) (fun c67 => ?_)
              · skip
                refine at_const (x := 0) dx_103_70 rfl ?_
                refine at_istore dx_103_71 ?_
                refine at_iload dx_103_72 rfl ?_
                refine at_zeqR dx_103_73 r3 (fun c73 => ?_) (fun c73 => ?_)
                · skip
                  refine at_aload dx_103_97 rfl ?_
                  refine at_iload dx_103_98 rfl ?_
                  refine at_zneR dx_103_99 r3 (fun c99 => ?_) (fun c99 => ?_)
                  · skip
                    refine at_iload dx_103_102 rfl ?_
                    refine at_zneR dx_103_103 (by decide) (fun c => absurd c (by decide)) (fun _ => ?_)
                    refine at_const (x := 2) dx_103_104 rfl ?_
                    refine at_goto dx_103_105 ?_
                    refine at_callVI dx_103_111 rfl lc_856 rfl (m_fails (by decide)) ?_
                    rintro x111 M111 r111 ⟨e111, h111⟩
                    have f111 := fe_um31 e111
                    replace F : frE w2E M _ := fe_tr F (fe_le f111 (fun q j h => Or.inl (by obtain ⟨rfl, rfl⟩ := h; exact wE_31)))
                    replace s7 : M111 857 = _ := (funext (fun j => f111 857 j (by (try dsimp only); omega))).trans s7
                    replace s8 : M111 858 = _ := (funext (fun j => f111 858 j (by (try dsimp only); omega))).trans s8
                    refine at_pop dx_103_112 rfl ?_
                    refine at_vretV dx_103_113 ?_
                    have m31 := congrFun (congrFun e111 856) 31
                    rw [um_eq] at m31
                    refine ⟨MI_sq hM (fe_le F (fun q j h => w2_sq h)), F, ?_⟩
                    first
                    | (exfalso; omega)
                    | exact Or.inl ⟨m31, by omega, s7, s8⟩
                    | exact Or.inr (Or.inl ⟨m31, by omega, by first | omega | (intro h; have := ev_rem (a := a) h.2.1.1 h.2.1.2.1; omega), s7, s8⟩)
                    | (have hra : RAr e a b := by have := ev_rem (a := a) (by omega) (by omega); omega
                       first
                       | exact Or.inr (Or.inr (Or.inr ⟨m31, by omega, hra, ⟨by omega, NoPm_of (by omega) (by omega) (by omega), (z87.mp (by omega)).2⟩, s7, s8⟩))
                       | exact Or.inr (Or.inr (Or.inl ⟨m31, by omega, hra, fun h => by have := h.1; have := NoPm_no h.2.1; first | omega | (have := z87.mpr ⟨by decide, h.2.2⟩; omega), s7, s8⟩)))
                  · skip
                    refine at_const (x := 1) dx_103_100 rfl ?_
                    refine at_goto dx_103_101 ?_
                    refine at_callVI dx_103_111 rfl lc_856 rfl (m_fails (by decide)) ?_
                    rintro x111 M111 r111 ⟨e111, h111⟩
                    have f111 := fe_um31 e111
                    replace F : frE w2E M _ := fe_tr F (fe_le f111 (fun q j h => Or.inl (by obtain ⟨rfl, rfl⟩ := h; exact wE_31)))
                    replace s7 : M111 857 = _ := (funext (fun j => f111 857 j (by (try dsimp only); omega))).trans s7
                    replace s8 : M111 858 = _ := (funext (fun j => f111 858 j (by (try dsimp only); omega))).trans s8
                    refine at_pop dx_103_112 rfl ?_
                    refine at_vretV dx_103_113 ?_
                    have m31 := congrFun (congrFun e111 856) 31
                    rw [um_eq] at m31
                    refine ⟨MI_sq hM (fe_le F (fun q j h => w2_sq h)), F, ?_⟩
                    first
                    | (exfalso; omega)
                    | exact Or.inl ⟨m31, by omega, s7, s8⟩
                    | exact Or.inr (Or.inl ⟨m31, by omega, by first | omega | (intro h; have := ev_rem (a := a) h.2.1.1 h.2.1.2.1; omega), s7, s8⟩)
                    | (have hra : RAr e a b := by have := ev_rem (a := a) (by omega) (by omega); omega
                       first
                       | exact Or.inr (Or.inr (Or.inr ⟨m31, by omega, hra, ⟨by omega, NoPm_of (by omega) (by omega) (by omega), (z87.mp (by omega)).2⟩, s7, s8⟩))
                       | exact Or.inr (Or.inr (Or.inl ⟨m31, by omega, hra, fun h => by have := h.1; have := NoPm_no h.2.1; first | omega | (have := z87.mpr ⟨by decide, h.2.2⟩; omega), s7, s8⟩)))
                · skip
                  refine at_iload dx_103_74 rfl ?_
                  refine at_zeqR dx_103_75 (by decide) (fun _ => ?_) (fun c => absurd c (by decide))
                  refine at_aload dx_103_97 rfl ?_
                  refine at_iload dx_103_98 rfl ?_
                  refine at_zneR dx_103_99 r3 (fun c99 => ?_) (fun c99 => ?_)
                  · skip
                    refine at_iload dx_103_102 rfl ?_
                    refine at_zneR dx_103_103 (by decide) (fun c => absurd c (by decide)) (fun _ => ?_)
                    refine at_const (x := 2) dx_103_104 rfl ?_
                    refine at_goto dx_103_105 ?_
                    refine at_callVI dx_103_111 rfl lc_856 rfl (m_fails (by decide)) ?_
                    rintro x111 M111 r111 ⟨e111, h111⟩
                    have f111 := fe_um31 e111
                    replace F : frE w2E M _ := fe_tr F (fe_le f111 (fun q j h => Or.inl (by obtain ⟨rfl, rfl⟩ := h; exact wE_31)))
                    replace s7 : M111 857 = _ := (funext (fun j => f111 857 j (by (try dsimp only); omega))).trans s7
                    replace s8 : M111 858 = _ := (funext (fun j => f111 858 j (by (try dsimp only); omega))).trans s8
                    refine at_pop dx_103_112 rfl ?_
                    refine at_vretV dx_103_113 ?_
                    have m31 := congrFun (congrFun e111 856) 31
                    rw [um_eq] at m31
                    refine ⟨MI_sq hM (fe_le F (fun q j h => w2_sq h)), F, ?_⟩
                    first
                    | (exfalso; omega)
                    | exact Or.inl ⟨m31, by omega, s7, s8⟩
                    | exact Or.inr (Or.inl ⟨m31, by omega, by first | omega | (intro h; have := ev_rem (a := a) h.2.1.1 h.2.1.2.1; omega), s7, s8⟩)
                    | (have hra : RAr e a b := by have := ev_rem (a := a) (by omega) (by omega); omega
                       first
                       | exact Or.inr (Or.inr (Or.inr ⟨m31, by omega, hra, ⟨by omega, NoPm_of (by omega) (by omega) (by omega), (z87.mp (by omega)).2⟩, s7, s8⟩))
                       | exact Or.inr (Or.inr (Or.inl ⟨m31, by omega, hra, fun h => by have := h.1; have := NoPm_no h.2.1; first | omega | (have := z87.mpr ⟨by decide, h.2.2⟩; omega), s7, s8⟩)))
                  · skip
                    refine at_const (x := 1) dx_103_100 rfl ?_
                    refine at_goto dx_103_101 ?_
                    refine at_callVI dx_103_111 rfl lc_856 rfl (m_fails (by decide)) ?_
                    rintro x111 M111 r111 ⟨e111, h111⟩
                    have f111 := fe_um31 e111
                    replace F : frE w2E M _ := fe_tr F (fe_le f111 (fun q j h => Or.inl (by obtain ⟨rfl, rfl⟩ := h; exact wE_31)))
                    replace s7 : M111 857 = _ := (funext (fun j => f111 857 j (by (try dsimp only); omega))).trans s7
                    replace s8 : M111 858 = _ := (funext (fun j => f111 858 j (by (try dsimp only); omega))).trans s8
                    refine at_pop dx_103_112 rfl ?_
                    refine at_vretV dx_103_113 ?_
                    have m31 := congrFun (congrFun e111 856) 31
                    rw [um_eq] at m31
                    refine ⟨MI_sq hM (fe_le F (fun q j h => w2_sq h)), F, ?_⟩
                    first
                    | (exfalso; omega)
                    | exact Or.inl ⟨m31, by omega, s7, s8⟩
                    | exact Or.inr (Or.inl ⟨m31, by omega, by first | omega | (intro h; have := ev_rem (a := a) h.2.1.1 h.2.1.2.1; omega), s7, s8⟩)
                    | (have hra : RAr e a b := by have := ev_rem (a := a) (by omega) (by omega); omega
                       first
                       | exact Or.inr (Or.inr (Or.inr ⟨m31, by omega, hra, ⟨by omega, NoPm_of (by omega) (by omega) (by omega), (z87.mp (by omega)).2⟩, s7, s8⟩))
                       | exact Or.inr (Or.inr (Or.inl ⟨m31, by omega, hra, fun h => by have := h.1; have := NoPm_no h.2.1; first | omega | (have := z87.mpr ⟨by decide, h.2.2⟩; omega), s7, s8⟩)))
              · skip
                refine at_const (x := 1) dx_103_68 rfl ?_
                refine at_goto dx_103_69 ?_
                refine at_istore dx_103_71 ?_
                refine at_iload dx_103_72 rfl ?_
                refine at_zeqR dx_103_73 r3 (fun c73 => ?_) (fun c73 => ?_)
                · skip
                  refine at_aload dx_103_97 rfl ?_
                  refine at_iload dx_103_98 rfl ?_
                  refine at_zneR dx_103_99 r3 (fun c99 => ?_) (fun c99 => ?_)
                  · skip
                    refine at_iload dx_103_102 rfl ?_
                    refine at_zneR dx_103_103 (by decide) (fun c => absurd c (by decide)) (fun _ => ?_)
                    refine at_const (x := 2) dx_103_104 rfl ?_
                    refine at_goto dx_103_105 ?_
                    refine at_callVI dx_103_111 rfl lc_856 rfl (m_fails (by decide)) ?_
                    rintro x111 M111 r111 ⟨e111, h111⟩
                    have f111 := fe_um31 e111
                    replace F : frE w2E M _ := fe_tr F (fe_le f111 (fun q j h => Or.inl (by obtain ⟨rfl, rfl⟩ := h; exact wE_31)))
                    replace s7 : M111 857 = _ := (funext (fun j => f111 857 j (by (try dsimp only); omega))).trans s7
                    replace s8 : M111 858 = _ := (funext (fun j => f111 858 j (by (try dsimp only); omega))).trans s8
                    refine at_pop dx_103_112 rfl ?_
                    refine at_vretV dx_103_113 ?_
                    have m31 := congrFun (congrFun e111 856) 31
                    rw [um_eq] at m31
                    refine ⟨MI_sq hM (fe_le F (fun q j h => w2_sq h)), F, ?_⟩
                    first
                    | (exfalso; omega)
                    | exact Or.inl ⟨m31, by omega, s7, s8⟩
                    | exact Or.inr (Or.inl ⟨m31, by omega, by first | omega | (intro h; have := ev_rem (a := a) h.2.1.1 h.2.1.2.1; omega), s7, s8⟩)
                    | (have hra : RAr e a b := by have := ev_rem (a := a) (by omega) (by omega); omega
                       first
                       | exact Or.inr (Or.inr (Or.inr ⟨m31, by omega, hra, ⟨by omega, NoPm_of (by omega) (by omega) (by omega), (z87.mp (by omega)).2⟩, s7, s8⟩))
                       | exact Or.inr (Or.inr (Or.inl ⟨m31, by omega, hra, fun h => by have := h.1; have := NoPm_no h.2.1; first | omega | (have := z87.mpr ⟨by decide, h.2.2⟩; omega), s7, s8⟩)))
                  · skip
                    refine at_const (x := 1) dx_103_100 rfl ?_
                    refine at_goto dx_103_101 ?_
                    refine at_callVI dx_103_111 rfl lc_856 rfl (m_fails (by decide)) ?_
                    rintro x111 M111 r111 ⟨e111, h111⟩
                    have f111 := fe_um31 e111
                    replace F : frE w2E M _ := fe_tr F (fe_le f111 (fun q j h => Or.inl (by obtain ⟨rfl, rfl⟩ := h; exact wE_31)))
                    replace s7 : M111 857 = _ := (funext (fun j => f111 857 j (by (try dsimp only); omega))).trans s7
                    replace s8 : M111 858 = _ := (funext (fun j => f111 858 j (by (try dsimp only); omega))).trans s8
                    refine at_pop dx_103_112 rfl ?_
                    refine at_vretV dx_103_113 ?_
                    have m31 := congrFun (congrFun e111 856) 31
                    rw [um_eq] at m31
                    refine ⟨MI_sq hM (fe_le F (fun q j h => w2_sq h)), F, ?_⟩
                    first
                    | (exfalso; omega)
                    | exact Or.inl ⟨m31, by omega, s7, s8⟩
                    | exact Or.inr (Or.inl ⟨m31, by omega, by first | omega | (intro h; have := ev_rem (a := a) h.2.1.1 h.2.1.2.1; omega), s7, s8⟩)
                    | (have hra : RAr e a b := by have := ev_rem (a := a) (by omega) (by omega); omega
                       first
                       | exact Or.inr (Or.inr (Or.inr ⟨m31, by omega, hra, ⟨by omega, NoPm_of (by omega) (by omega) (by omega), (z87.mp (by omega)).2⟩, s7, s8⟩))
                       | exact Or.inr (Or.inr (Or.inl ⟨m31, by omega, hra, fun h => by have := h.1; have := NoPm_no h.2.1; first | omega | (have := z87.mpr ⟨by decide, h.2.2⟩; omega), s7, s8⟩)))
                · skip
                  refine at_iload dx_103_74 rfl ?_
                  refine at_zeqR dx_103_75 (by decide) (fun _ => ?_) (fun c => absurd c (by decide))
                  refine at_aload dx_103_97 rfl ?_
                  refine at_iload dx_103_98 rfl ?_
                  refine at_zneR dx_103_99 r3 (fun c99 => ?_) (fun c99 => ?_)
                  · skip
                    refine at_iload dx_103_102 rfl ?_
                    refine at_zneR dx_103_103 (by decide) (fun c => absurd c (by decide)) (fun _ => ?_)
                    refine at_const (x := 2) dx_103_104 rfl ?_
                    refine at_goto dx_103_105 ?_
                    refine at_callVI dx_103_111 rfl lc_856 rfl (m_fails (by decide)) ?_
                    rintro x111 M111 r111 ⟨e111, h111⟩
                    have f111 := fe_um31 e111
                    replace F : frE w2E M _ := fe_tr F (fe_le f111 (fun q j h => Or.inl (by obtain ⟨rfl, rfl⟩ := h; exact wE_31)))
                    replace s7 : M111 857 = _ := (funext (fun j => f111 857 j (by (try dsimp only); omega))).trans s7
                    replace s8 : M111 858 = _ := (funext (fun j => f111 858 j (by (try dsimp only); omega))).trans s8
                    refine at_pop dx_103_112 rfl ?_
                    refine at_vretV dx_103_113 ?_
                    have m31 := congrFun (congrFun e111 856) 31
                    rw [um_eq] at m31
                    refine ⟨MI_sq hM (fe_le F (fun q j h => w2_sq h)), F, ?_⟩
                    first
                    | (exfalso; omega)
                    | exact Or.inl ⟨m31, by omega, s7, s8⟩
                    | exact Or.inr (Or.inl ⟨m31, by omega, by first | omega | (intro h; have := ev_rem (a := a) h.2.1.1 h.2.1.2.1; omega), s7, s8⟩)
                    | (have hra : RAr e a b := by have := ev_rem (a := a) (by omega) (by omega); omega
                       first
                       | exact Or.inr (Or.inr (Or.inr ⟨m31, by omega, hra, ⟨by omega, NoPm_of (by omega) (by omega) (by omega), (z87.mp (by omega)).2⟩, s7, s8⟩))
                       | exact Or.inr (Or.inr (Or.inl ⟨m31, by omega, hra, fun h => by have := h.1; have := NoPm_no h.2.1; first | omega | (have := z87.mpr ⟨by decide, h.2.2⟩; omega), s7, s8⟩)))
                  · skip
                    refine at_const (x := 1) dx_103_100 rfl ?_
                    refine at_goto dx_103_101 ?_
                    refine at_callVI dx_103_111 rfl lc_856 rfl (m_fails (by decide)) ?_
                    rintro x111 M111 r111 ⟨e111, h111⟩
                    have f111 := fe_um31 e111
                    replace F : frE w2E M _ := fe_tr F (fe_le f111 (fun q j h => Or.inl (by obtain ⟨rfl, rfl⟩ := h; exact wE_31)))
                    replace s7 : M111 857 = _ := (funext (fun j => f111 857 j (by (try dsimp only); omega))).trans s7
                    replace s8 : M111 858 = _ := (funext (fun j => f111 858 j (by (try dsimp only); omega))).trans s8
                    refine at_pop dx_103_112 rfl ?_
                    refine at_vretV dx_103_113 ?_
                    have m31 := congrFun (congrFun e111 856) 31
                    rw [um_eq] at m31
                    refine ⟨MI_sq hM (fe_le F (fun q j h => w2_sq h)), F, ?_⟩
                    first
                    | (exfalso; omega)
                    | exact Or.inl ⟨m31, by omega, s7, s8⟩
                    | exact Or.inr (Or.inl ⟨m31, by omega, by first | omega | (intro h; have := ev_rem (a := a) h.2.1.1 h.2.1.2.1; omega), s7, s8⟩)
                    | (have hra : RAr e a b := by have := ev_rem (a := a) (by omega) (by omega); omega
                       first
                       | exact Or.inr (Or.inr (Or.inr ⟨m31, by omega, hra, ⟨by omega, NoPm_of (by omega) (by omega) (by omega), (z87.mp (by omega)).2⟩, s7, s8⟩))
                       | exact Or.inr (Or.inr (Or.inl ⟨m31, by omega, hra, fun h => by have := h.1; have := NoPm_no h.2.1; first | omega | (have := z87.mpr ⟨by decide, h.2.2⟩; omega), s7, s8⟩)))
        · skip
          refine at_const (x := 1) dx_103_24 rfl ?_
          refine at_goto dx_103_25 ?_
          refine at_istore dx_103_27 ?_
          refine at_iload dx_103_28 rfl ?_
          refine at_zeqR dx_103_29 r3 (fun c29 => ?_) (fun c29 => ?_)
          · skip
            refine at_const (x := 0) dx_103_38 rfl ?_
            refine at_istore dx_103_39 ?_
            refine at_aload dx_103_40 rfl ?_
            refine at_getR dx_103_41 lc_856 rfl lt_856_0 ?_
            refine at_iload dx_103_42 rfl ?_
            refine at_aldI dx_103_43 lc_857 ln_857 (by omega) (by omega) (fun r43 => ?_)
            refine at_istore dx_103_44 ?_
            refine at_aload dx_103_45 rfl ?_
            refine at_getR dx_103_46 lc_856 rfl lt_856_1 ?_
            refine at_iload dx_103_47 rfl ?_
            refine at_aldI dx_103_48 lc_858 ln_858 (by omega) (by omega) (fun r48 => ?_)
            refine at_istore dx_103_49 ?_
            refine at_aload dx_103_50 rfl ?_
            refine at_getI 13 dx_103_51 lc_856 rfl rfl (fun r51 => ?_)
            refine at_zneR dx_103_52 r51 (fun c52 => ?_) (fun c52 => ?_)
            · skip
              refine at_const (x := 0) dx_103_70 rfl ?_
              refine at_istore dx_103_71 ?_
              refine at_iload dx_103_72 rfl ?_
              refine at_zeqR dx_103_73 r3 (fun c73 => ?_) (fun c73 => ?_)
              · skip
                refine at_aload dx_103_97 rfl ?_
                refine at_iload dx_103_98 rfl ?_
                refine at_zneR dx_103_99 r3 (fun c99 => ?_) (fun c99 => ?_)
                · skip
                  refine at_iload dx_103_102 rfl ?_
                  refine at_zneR dx_103_103 (by decide) (fun _ => ?_) (fun c => absurd c (by decide))
                  refine at_iload dx_103_106 rfl ?_
                  refine at_zeqR dx_103_107 (by decide) (fun _ => ?_) (fun c => absurd c (by decide))
                  refine at_const (x := 3) dx_103_110 rfl ?_
                  refine at_callVI dx_103_111 rfl lc_856 rfl (m_fails (by decide)) ?_
                  rintro x111 M111 r111 ⟨e111, h111⟩
                  have f111 := fe_um31 e111
                  replace F : frE w2E M _ := fe_tr F (fe_le f111 (fun q j h => Or.inl (by obtain ⟨rfl, rfl⟩ := h; exact wE_31)))
                  replace s7 : M111 857 = _ := (funext (fun j => f111 857 j (by (try dsimp only); omega))).trans s7
                  replace s8 : M111 858 = _ := (funext (fun j => f111 858 j (by (try dsimp only); omega))).trans s8
                  refine at_pop dx_103_112 rfl ?_
                  refine at_vretV dx_103_113 ?_
                  have m31 := congrFun (congrFun e111 856) 31
                  rw [um_eq] at m31
                  refine ⟨MI_sq hM (fe_le F (fun q j h => w2_sq h)), F, ?_⟩
                  first
                  | (exfalso; omega)
                  | exact Or.inl ⟨m31, by omega, s7, s8⟩
                  | exact Or.inr (Or.inl ⟨m31, by omega, by first | omega | (intro h; have := ev_rem (a := a) h.2.1.1 h.2.1.2.1; omega), s7, s8⟩)
                  | (have hra : RAr e a b := by have := ev_rem (a := a) (by omega) (by omega); omega
                     first
                     | exact Or.inr (Or.inr (Or.inr ⟨m31, by omega, hra, ⟨by omega, NoPm_of (by omega) (by omega) (by omega), (z87.mp (by omega)).2⟩, s7, s8⟩))
                     | exact Or.inr (Or.inr (Or.inl ⟨m31, by omega, hra, fun h => by have := h.1; have := NoPm_no h.2.1; first | omega | (have := z87.mpr ⟨by decide, h.2.2⟩; omega), s7, s8⟩)))
                · skip
                  refine at_const (x := 1) dx_103_100 rfl ?_
                  refine at_goto dx_103_101 ?_
                  refine at_callVI dx_103_111 rfl lc_856 rfl (m_fails (by decide)) ?_
                  rintro x111 M111 r111 ⟨e111, h111⟩
                  have f111 := fe_um31 e111
                  replace F : frE w2E M _ := fe_tr F (fe_le f111 (fun q j h => Or.inl (by obtain ⟨rfl, rfl⟩ := h; exact wE_31)))
                  replace s7 : M111 857 = _ := (funext (fun j => f111 857 j (by (try dsimp only); omega))).trans s7
                  replace s8 : M111 858 = _ := (funext (fun j => f111 858 j (by (try dsimp only); omega))).trans s8
                  refine at_pop dx_103_112 rfl ?_
                  refine at_vretV dx_103_113 ?_
                  have m31 := congrFun (congrFun e111 856) 31
                  rw [um_eq] at m31
                  refine ⟨MI_sq hM (fe_le F (fun q j h => w2_sq h)), F, ?_⟩
                  first
                  | (exfalso; omega)
                  | exact Or.inl ⟨m31, by omega, s7, s8⟩
                  | exact Or.inr (Or.inl ⟨m31, by omega, by first | omega | (intro h; have := ev_rem (a := a) h.2.1.1 h.2.1.2.1; omega), s7, s8⟩)
                  | (have hra : RAr e a b := by have := ev_rem (a := a) (by omega) (by omega); omega
                     first
                     | exact Or.inr (Or.inr (Or.inr ⟨m31, by omega, hra, ⟨by omega, NoPm_of (by omega) (by omega) (by omega), (z87.mp (by omega)).2⟩, s7, s8⟩))
                     | exact Or.inr (Or.inr (Or.inl ⟨m31, by omega, hra, fun h => by have := h.1; have := NoPm_no h.2.1; first | omega | (have := z87.mpr ⟨by decide, h.2.2⟩; omega), s7, s8⟩)))
              · skip
                refine at_iload dx_103_74 rfl ?_
                refine at_zeqR dx_103_75 (by decide) (fun c => absurd c (by decide)) (fun _ => ?_)
                refine at_iload dx_103_76 rfl ?_
                refine at_zeqR dx_103_77 (by decide) (fun _ => ?_) (fun c => absurd c (by decide))
                refine at_aload dx_103_97 rfl ?_
                refine at_iload dx_103_98 rfl ?_
                refine at_zneR dx_103_99 r3 (fun c99 => ?_) (fun c99 => ?_)
                · skip
                  refine at_iload dx_103_102 rfl ?_
                  refine at_zneR dx_103_103 (by decide) (fun _ => ?_) (fun c => absurd c (by decide))
                  refine at_iload dx_103_106 rfl ?_
                  refine at_zeqR dx_103_107 (by decide) (fun _ => ?_) (fun c => absurd c (by decide))
                  refine at_const (x := 3) dx_103_110 rfl ?_
                  refine at_callVI dx_103_111 rfl lc_856 rfl (m_fails (by decide)) ?_
                  rintro x111 M111 r111 ⟨e111, h111⟩
                  have f111 := fe_um31 e111
                  replace F : frE w2E M _ := fe_tr F (fe_le f111 (fun q j h => Or.inl (by obtain ⟨rfl, rfl⟩ := h; exact wE_31)))
                  replace s7 : M111 857 = _ := (funext (fun j => f111 857 j (by (try dsimp only); omega))).trans s7
                  replace s8 : M111 858 = _ := (funext (fun j => f111 858 j (by (try dsimp only); omega))).trans s8
                  refine at_pop dx_103_112 rfl ?_
                  refine at_vretV dx_103_113 ?_
                  have m31 := congrFun (congrFun e111 856) 31
                  rw [um_eq] at m31
                  refine ⟨MI_sq hM (fe_le F (fun q j h => w2_sq h)), F, ?_⟩
                  first
                  | (exfalso; omega)
                  | exact Or.inl ⟨m31, by omega, s7, s8⟩
                  | exact Or.inr (Or.inl ⟨m31, by omega, by first | omega | (intro h; have := ev_rem (a := a) h.2.1.1 h.2.1.2.1; omega), s7, s8⟩)
                  | (have hra : RAr e a b := by have := ev_rem (a := a) (by omega) (by omega); omega
                     first
                     | exact Or.inr (Or.inr (Or.inr ⟨m31, by omega, hra, ⟨by omega, NoPm_of (by omega) (by omega) (by omega), (z87.mp (by omega)).2⟩, s7, s8⟩))
                     | exact Or.inr (Or.inr (Or.inl ⟨m31, by omega, hra, fun h => by have := h.1; have := NoPm_no h.2.1; first | omega | (have := z87.mpr ⟨by decide, h.2.2⟩; omega), s7, s8⟩)))
                · skip
                  refine at_const (x := 1) dx_103_100 rfl ?_
                  refine at_goto dx_103_101 ?_
                  refine at_callVI dx_103_111 rfl lc_856 rfl (m_fails (by decide)) ?_
                  rintro x111 M111 r111 ⟨e111, h111⟩
                  have f111 := fe_um31 e111
                  replace F : frE w2E M _ := fe_tr F (fe_le f111 (fun q j h => Or.inl (by obtain ⟨rfl, rfl⟩ := h; exact wE_31)))
                  replace s7 : M111 857 = _ := (funext (fun j => f111 857 j (by (try dsimp only); omega))).trans s7
                  replace s8 : M111 858 = _ := (funext (fun j => f111 858 j (by (try dsimp only); omega))).trans s8
                  refine at_pop dx_103_112 rfl ?_
                  refine at_vretV dx_103_113 ?_
                  have m31 := congrFun (congrFun e111 856) 31
                  rw [um_eq] at m31
                  refine ⟨MI_sq hM (fe_le F (fun q j h => w2_sq h)), F, ?_⟩
                  first
                  | (exfalso; omega)
                  | exact Or.inl ⟨m31, by omega, s7, s8⟩
                  | exact Or.inr (Or.inl ⟨m31, by omega, by first | omega | (intro h; have := ev_rem (a := a) h.2.1.1 h.2.1.2.1; omega), s7, s8⟩)
                  | (have hra : RAr e a b := by have := ev_rem (a := a) (by omega) (by omega); omega
                     first
                     | exact Or.inr (Or.inr (Or.inr ⟨m31, by omega, hra, ⟨by omega, NoPm_of (by omega) (by omega) (by omega), (z87.mp (by omega)).2⟩, s7, s8⟩))
                     | exact Or.inr (Or.inr (Or.inl ⟨m31, by omega, hra, fun h => by have := h.1; have := NoPm_no h.2.1; first | omega | (have := z87.mpr ⟨by decide, h.2.2⟩; omega), s7, s8⟩)))
            · skip
              refine at_aload dx_103_53 rfl ?_
              refine at_getR dx_103_54 lc_856 rfl lt_856_15 ?_
              refine at_const (x := 0) dx_103_55 rfl ?_
              refine at_aldI dx_103_56 lc_871 ln_871 (by decide) (by decide) (fun r56 => ?_)
              refine at_aload dx_103_57 rfl ?_
              refine at_getR dx_103_58 lc_856 rfl lt_856_15 ?_
              refine at_const (x := 1) dx_103_59 rfl ?_
              refine at_aldI dx_103_60 lc_871 ln_871 (by decide) (by decide) (fun r60 => ?_)
              refine at_addR dx_103_61 (by constructor <;> omega) (fun r61 => ?_)
              refine at_aload dx_103_62 rfl ?_
              refine at_getR dx_103_63 lc_856 rfl lt_856_15 ?_
              refine at_const (x := 2) dx_103_64 rfl ?_
              refine at_aldI dx_103_65 lc_871 ln_871 (by decide) (by decide) (fun r65 => ?_)
              refine at_addR dx_103_66 (by constructor <;> omega) (fun r66 => ?_)
              refine at_zneR dx_103_67 r66 (fun c67 => ?_) (fun c67 => ?_)
              · skip
                refine at_const (x := 0) dx_103_70 rfl ?_
                refine at_istore dx_103_71 ?_
                refine at_iload dx_103_72 rfl ?_
                refine at_zeqR dx_103_73 r3 (fun c73 => ?_) (fun c73 => ?_)
                · skip
                  refine at_aload dx_103_97 rfl ?_
                  refine at_iload dx_103_98 rfl ?_
                  refine at_zneR dx_103_99 r3 (fun c99 => ?_) (fun c99 => ?_)
                  · skip
                    refine at_iload dx_103_102 rfl ?_
                    refine at_zneR dx_103_103 (by decide) (fun _ => ?_) (fun c => absurd c (by decide))
                    refine at_iload dx_103_106 rfl ?_
                    refine at_zeqR dx_103_107 (by decide) (fun _ => ?_) (fun c => absurd c (by decide))
                    refine at_const (x := 3) dx_103_110 rfl ?_
                    refine at_callVI dx_103_111 rfl lc_856 rfl (m_fails (by decide)) ?_
                    rintro x111 M111 r111 ⟨e111, h111⟩
                    have f111 := fe_um31 e111
                    replace F : frE w2E M _ := fe_tr F (fe_le f111 (fun q j h => Or.inl (by obtain ⟨rfl, rfl⟩ := h; exact wE_31)))
                    replace s7 : M111 857 = _ := (funext (fun j => f111 857 j (by (try dsimp only); omega))).trans s7
                    replace s8 : M111 858 = _ := (funext (fun j => f111 858 j (by (try dsimp only); omega))).trans s8
                    refine at_pop dx_103_112 rfl ?_
                    refine at_vretV dx_103_113 ?_
                    have m31 := congrFun (congrFun e111 856) 31
                    rw [um_eq] at m31
                    refine ⟨MI_sq hM (fe_le F (fun q j h => w2_sq h)), F, ?_⟩
                    first
                    | (exfalso; omega)
                    | exact Or.inl ⟨m31, by omega, s7, s8⟩
                    | exact Or.inr (Or.inl ⟨m31, by omega, by first | omega | (intro h; have := ev_rem (a := a) h.2.1.1 h.2.1.2.1; omega), s7, s8⟩)
                    | (have hra : RAr e a b := by have := ev_rem (a := a) (by omega) (by omega); omega
                       first
                       | exact Or.inr (Or.inr (Or.inr ⟨m31, by omega, hra, ⟨by omega, NoPm_of (by omega) (by omega) (by omega), (z87.mp (by omega)).2⟩, s7, s8⟩))
                       | exact Or.inr (Or.inr (Or.inl ⟨m31, by omega, hra, fun h => by have := h.1; have := NoPm_no h.2.1; first | omega | (have := z87.mpr ⟨by decide, h.2.2⟩; omega), s7, s8⟩)))
                  · skip
                    refine at_const (x := 1) dx_103_100 rfl ?_
                    refine at_goto dx_103_101 ?_
                    refine at_callVI dx_103_111 rfl lc_856 rfl (m_fails (by decide)) ?_
                    rintro x111 M111 r111 ⟨e111, h111⟩
                    have f111 := fe_um31 e111
                    replace F : frE w2E M _ := fe_tr F (fe_le f111 (fun q j h => Or.inl (by obtain ⟨rfl, rfl⟩ := h; exact wE_31)))
                    replace s7 : M111 857 = _ := (funext (fun j => f111 857 j (by (try dsimp only); omega))).trans s7
                    replace s8 : M111 858 = _ := (funext (fun j => f111 858 j (by (try dsimp only); omega))).trans s8
                    refine at_pop dx_103_112 rfl ?_
                    refine at_vretV dx_103_113 ?_
                    have m31 := congrFun (congrFun e111 856) 31
                    rw [um_eq] at m31
                    refine ⟨MI_sq hM (fe_le F (fun q j h => w2_sq h)), F, ?_⟩
                    first
                    | (exfalso; omega)
                    | exact Or.inl ⟨m31, by omega, s7, s8⟩
                    | exact Or.inr (Or.inl ⟨m31, by omega, by first | omega | (intro h; have := ev_rem (a := a) h.2.1.1 h.2.1.2.1; omega), s7, s8⟩)
                    | (have hra : RAr e a b := by have := ev_rem (a := a) (by omega) (by omega); omega
                       first
                       | exact Or.inr (Or.inr (Or.inr ⟨m31, by omega, hra, ⟨by omega, NoPm_of (by omega) (by omega) (by omega), (z87.mp (by omega)).2⟩, s7, s8⟩))
                       | exact Or.inr (Or.inr (Or.inl ⟨m31, by omega, hra, fun h => by have := h.1; have := NoPm_no h.2.1; first | omega | (have := z87.mpr ⟨by decide, h.2.2⟩; omega), s7, s8⟩)))
                · skip
                  refine at_iload dx_103_74 rfl ?_
                  refine at_zeqR dx_103_75 (by decide) (fun c => absurd c (by decide)) (fun _ => ?_)
                  refine at_iload dx_103_76 rfl ?_
                  refine at_zeqR dx_103_77 (by decide) (fun _ => ?_) (fun c => absurd c (by decide))
                  refine at_aload dx_103_97 rfl ?_
                  refine at_iload dx_103_98 rfl ?_
                  refine at_zneR dx_103_99 r3 (fun c99 => ?_) (fun c99 => ?_)
                  · skip
                    refine at_iload dx_103_102 rfl ?_
                    refine at_zneR dx_103_103 (by decide) (fun _ => ?_) (fun c => absurd c (by decide))
                    refine at_iload dx_103_106 rfl ?_
                    refine at_zeqR dx_103_107 (by decide) (fun _ => ?_) (fun c => absurd c (by decide))
                    refine at_const (x := 3) dx_103_110 rfl ?_
                    refine at_callVI dx_103_111 rfl lc_856 rfl (m_fails (by decide)) ?_
                    rintro x111 M111 r111 ⟨e111, h111⟩
                    have f111 := fe_um31 e111
                    replace F : frE w2E M _ := fe_tr F (fe_le f111 (fun q j h => Or.inl (by obtain ⟨rfl, rfl⟩ := h; exact wE_31)))
                    replace s7 : M111 857 = _ := (funext (fun j => f111 857 j (by (try dsimp only); omega))).trans s7
                    replace s8 : M111 858 = _ := (funext (fun j => f111 858 j (by (try dsimp only); omega))).trans s8
                    refine at_pop dx_103_112 rfl ?_
                    refine at_vretV dx_103_113 ?_
                    have m31 := congrFun (congrFun e111 856) 31
                    rw [um_eq] at m31
                    refine ⟨MI_sq hM (fe_le F (fun q j h => w2_sq h)), F, ?_⟩
                    first
                    | (exfalso; omega)
                    | exact Or.inl ⟨m31, by omega, s7, s8⟩
                    | exact Or.inr (Or.inl ⟨m31, by omega, by first | omega | (intro h; have := ev_rem (a := a) h.2.1.1 h.2.1.2.1; omega), s7, s8⟩)
                    | (have hra : RAr e a b := by have := ev_rem (a := a) (by omega) (by omega); omega
                       first
                       | exact Or.inr (Or.inr (Or.inr ⟨m31, by omega, hra, ⟨by omega, NoPm_of (by omega) (by omega) (by omega), (z87.mp (by omega)).2⟩, s7, s8⟩))
                       | exact Or.inr (Or.inr (Or.inl ⟨m31, by omega, hra, fun h => by have := h.1; have := NoPm_no h.2.1; first | omega | (have := z87.mpr ⟨by decide, h.2.2⟩; omega), s7, s8⟩)))
                  · skip
                    refine at_const (x := 1) dx_103_100 rfl ?_
                    refine at_goto dx_103_101 ?_
                    refine at_callVI dx_103_111 rfl lc_856 rfl (m_fails (by decide)) ?_
                    rintro x111 M111 r111 ⟨e111, h111⟩
                    have f111 := fe_um31 e111
                    replace F : frE w2E M _ := fe_tr F (fe_le f111 (fun q j h => Or.inl (by obtain ⟨rfl, rfl⟩ := h; exact wE_31)))
                    replace s7 : M111 857 = _ := (funext (fun j => f111 857 j (by (try dsimp only); omega))).trans s7
                    replace s8 : M111 858 = _ := (funext (fun j => f111 858 j (by (try dsimp only); omega))).trans s8
                    refine at_pop dx_103_112 rfl ?_
                    refine at_vretV dx_103_113 ?_
                    have m31 := congrFun (congrFun e111 856) 31
                    rw [um_eq] at m31
                    refine ⟨MI_sq hM (fe_le F (fun q j h => w2_sq h)), F, ?_⟩
                    first
                    | (exfalso; omega)
                    | exact Or.inl ⟨m31, by omega, s7, s8⟩
                    | exact Or.inr (Or.inl ⟨m31, by omega, by first | omega | (intro h; have := ev_rem (a := a) h.2.1.1 h.2.1.2.1; omega), s7, s8⟩)
                    | (have hra : RAr e a b := by have := ev_rem (a := a) (by omega) (by omega); omega
                       first
                       | exact Or.inr (Or.inr (Or.inr ⟨m31, by omega, hra, ⟨by omega, NoPm_of (by omega) (by omega) (by omega), (z87.mp (by omega)).2⟩, s7, s8⟩))
                       | exact Or.inr (Or.inr (Or.inl ⟨m31, by omega, hra, fun h => by have := h.1; have := NoPm_no h.2.1; first | omega | (have := z87.mpr ⟨by decide, h.2.2⟩; omega), s7, s8⟩)))
              · skip
                refine at_const (x := 1) dx_103_68 rfl ?_
                refine at_goto dx_103_69 ?_
                refine at_istore dx_103_71 ?_
                refine at_iload dx_103_72 rfl ?_
                refine at_zeqR dx_103_73 r3 (fun c73 => ?_) (fun c73 => ?_)
                · skip
                  refine at_aload dx_103_97 rfl ?_
                  refine at_iload dx_103_98 rfl ?_
                  refine at_zneR dx_103_99 r3 (fun c99 => ?_) (fun c99 => ?_)
                  · skip
                    refine at_iload dx_103_102 rfl ?_
                    refine at_zneR dx_103_103 (by decide) (fun _ => ?_) (fun c => absurd c (by decide))
                    refine at_iload dx_103_106 rfl ?_
                    refine at_zeqR dx_103_107 (by decide) (fun c => absurd c (by decide)) (fun _ => ?_)
                    refine at_const (x := 0) dx_103_108 rfl ?_
                    refine at_goto dx_103_109 ?_
                    refine at_callVI dx_103_111 rfl lc_856 rfl (m_fails (by decide)) ?_
                    rintro x111 M111 r111 ⟨e111, h111⟩
                    have f111 := fe_um31 e111
                    replace F : frE w2E M _ := fe_tr F (fe_le f111 (fun q j h => Or.inl (by obtain ⟨rfl, rfl⟩ := h; exact wE_31)))
                    replace s7 : M111 857 = _ := (funext (fun j => f111 857 j (by (try dsimp only); omega))).trans s7
                    replace s8 : M111 858 = _ := (funext (fun j => f111 858 j (by (try dsimp only); omega))).trans s8
                    refine at_pop dx_103_112 rfl ?_
                    refine at_vretV dx_103_113 ?_
                    have m31 := congrFun (congrFun e111 856) 31
                    rw [um_eq] at m31
                    refine ⟨MI_sq hM (fe_le F (fun q j h => w2_sq h)), F, ?_⟩
                    first
                    | (exfalso; omega)
                    | exact Or.inl ⟨m31, by omega, s7, s8⟩
                    | exact Or.inr (Or.inl ⟨m31, by omega, by first | omega | (intro h; have := ev_rem (a := a) h.2.1.1 h.2.1.2.1; omega), s7, s8⟩)
                    | (have hra : RAr e a b := by have := ev_rem (a := a) (by omega) (by omega); omega
                       first
                       | exact Or.inr (Or.inr (Or.inr ⟨m31, by omega, hra, ⟨by omega, NoPm_of (by omega) (by omega) (by omega), (z87.mp (by omega)).2⟩, s7, s8⟩))
                       | exact Or.inr (Or.inr (Or.inl ⟨m31, by omega, hra, fun h => by have := h.1; have := NoPm_no h.2.1; first | omega | (have := z87.mpr ⟨by decide, h.2.2⟩; omega), s7, s8⟩)))
                  · skip
                    refine at_const (x := 1) dx_103_100 rfl ?_
                    refine at_goto dx_103_101 ?_
                    refine at_callVI dx_103_111 rfl lc_856 rfl (m_fails (by decide)) ?_
                    rintro x111 M111 r111 ⟨e111, h111⟩
                    have f111 := fe_um31 e111
                    replace F : frE w2E M _ := fe_tr F (fe_le f111 (fun q j h => Or.inl (by obtain ⟨rfl, rfl⟩ := h; exact wE_31)))
                    replace s7 : M111 857 = _ := (funext (fun j => f111 857 j (by (try dsimp only); omega))).trans s7
                    replace s8 : M111 858 = _ := (funext (fun j => f111 858 j (by (try dsimp only); omega))).trans s8
                    refine at_pop dx_103_112 rfl ?_
                    refine at_vretV dx_103_113 ?_
                    have m31 := congrFun (congrFun e111 856) 31
                    rw [um_eq] at m31
                    refine ⟨MI_sq hM (fe_le F (fun q j h => w2_sq h)), F, ?_⟩
                    first
                    | (exfalso; omega)
                    | exact Or.inl ⟨m31, by omega, s7, s8⟩
                    | exact Or.inr (Or.inl ⟨m31, by omega, by first | omega | (intro h; have := ev_rem (a := a) h.2.1.1 h.2.1.2.1; omega), s7, s8⟩)
                    | (have hra : RAr e a b := by have := ev_rem (a := a) (by omega) (by omega); omega
                       first
                       | exact Or.inr (Or.inr (Or.inr ⟨m31, by omega, hra, ⟨by omega, NoPm_of (by omega) (by omega) (by omega), (z87.mp (by omega)).2⟩, s7, s8⟩))
                       | exact Or.inr (Or.inr (Or.inl ⟨m31, by omega, hra, fun h => by have := h.1; have := NoPm_no h.2.1; first | omega | (have := z87.mpr ⟨by decide, h.2.2⟩; omega), s7, s8⟩)))
                · skip
                  refine at_iload dx_103_74 rfl ?_
                  refine at_zeqR dx_103_75 (by decide) (fun c => absurd c (by decide)) (fun _ => ?_)
                  refine at_iload dx_103_76 rfl ?_
                  refine at_zeqR dx_103_77 (by decide) (fun c => absurd c (by decide)) (fun _ => ?_)
                  refine at_aload dx_103_78 rfl ?_
                  refine at_iload dx_103_79 rfl ?_
                  refine at_iload dx_103_80 rfl ?_
                  refine at_iload dx_103_81 rfl ?_
                  refine at_iload dx_103_82 rfl ?_
                  exfalso; omega
          · skip
            refine at_iload dx_103_30 rfl ?_
            refine at_zeqR dx_103_31 (by decide) (fun c => absurd c (by decide)) (fun _ => ?_)
            refine at_const (x := 3) dx_103_32 rfl ?_
            refine at_iload dx_103_33 rfl ?_
            refine at_mulR dx_103_34 (by constructor <;> omega) (fun r34 => ?_)
            refine at_iload dx_103_35 rfl ?_
            refine at_addR dx_103_36 (by constructor <;> omega) (fun r36 => ?_)
            refine at_goto dx_103_37 ?_
            refine at_istore dx_103_39 ?_
            refine at_aload dx_103_40 rfl ?_
            refine at_getR dx_103_41 lc_856 rfl lt_856_0 ?_
            refine at_iload dx_103_42 rfl ?_
            refine at_aldI dx_103_43 lc_857 ln_857 (by omega) (by omega) (fun r43 => ?_)
            refine at_istore dx_103_44 ?_
            refine at_aload dx_103_45 rfl ?_
            refine at_getR dx_103_46 lc_856 rfl lt_856_1 ?_
            refine at_iload dx_103_47 rfl ?_
            refine at_aldI dx_103_48 lc_858 ln_858 (by omega) (by omega) (fun r48 => ?_)
            refine at_istore dx_103_49 ?_
            refine at_aload dx_103_50 rfl ?_
            refine at_getI 13 dx_103_51 lc_856 rfl rfl (fun r51 => ?_)
            refine at_zneR dx_103_52 r51 (fun c52 => ?_) (fun c52 => ?_)
            · skip
              refine at_const (x := 0) dx_103_70 rfl ?_
              refine at_istore dx_103_71 ?_
              refine at_iload dx_103_72 rfl ?_
              refine at_zeqR dx_103_73 r3 (fun c73 => ?_) (fun c73 => ?_)
              · skip
                refine at_aload dx_103_97 rfl ?_
                refine at_iload dx_103_98 rfl ?_
                refine at_zneR dx_103_99 r3 (fun c99 => ?_) (fun c99 => ?_)
                · skip
                  refine at_iload dx_103_102 rfl ?_
                  refine at_zneR dx_103_103 (by decide) (fun _ => ?_) (fun c => absurd c (by decide))
                  refine at_iload dx_103_106 rfl ?_
                  refine at_zeqR dx_103_107 (by decide) (fun _ => ?_) (fun c => absurd c (by decide))
                  refine at_const (x := 3) dx_103_110 rfl ?_
                  refine at_callVI dx_103_111 rfl lc_856 rfl (m_fails (by decide)) ?_
                  rintro x111 M111 r111 ⟨e111, h111⟩
                  have f111 := fe_um31 e111
                  replace F : frE w2E M _ := fe_tr F (fe_le f111 (fun q j h => Or.inl (by obtain ⟨rfl, rfl⟩ := h; exact wE_31)))
                  replace s7 : M111 857 = _ := (funext (fun j => f111 857 j (by (try dsimp only); omega))).trans s7
                  replace s8 : M111 858 = _ := (funext (fun j => f111 858 j (by (try dsimp only); omega))).trans s8
                  refine at_pop dx_103_112 rfl ?_
                  refine at_vretV dx_103_113 ?_
                  have m31 := congrFun (congrFun e111 856) 31
                  rw [um_eq] at m31
                  refine ⟨MI_sq hM (fe_le F (fun q j h => w2_sq h)), F, ?_⟩
                  first
                  | (exfalso; omega)
                  | exact Or.inl ⟨m31, by omega, s7, s8⟩
                  | exact Or.inr (Or.inl ⟨m31, by omega, by first | omega | (intro h; have := ev_rem (a := a) h.2.1.1 h.2.1.2.1; omega), s7, s8⟩)
                  | (have hra : RAr e a b := by have := ev_rem (a := a) (by omega) (by omega); omega
                     first
                     | exact Or.inr (Or.inr (Or.inr ⟨m31, by omega, hra, ⟨by omega, NoPm_of (by omega) (by omega) (by omega), (z87.mp (by omega)).2⟩, s7, s8⟩))
                     | exact Or.inr (Or.inr (Or.inl ⟨m31, by omega, hra, fun h => by have := h.1; have := NoPm_no h.2.1; first | omega | (have := z87.mpr ⟨by decide, h.2.2⟩; omega), s7, s8⟩)))
                · skip
                  refine at_const (x := 1) dx_103_100 rfl ?_
                  refine at_goto dx_103_101 ?_
                  refine at_callVI dx_103_111 rfl lc_856 rfl (m_fails (by decide)) ?_
                  rintro x111 M111 r111 ⟨e111, h111⟩
                  have f111 := fe_um31 e111
                  replace F : frE w2E M _ := fe_tr F (fe_le f111 (fun q j h => Or.inl (by obtain ⟨rfl, rfl⟩ := h; exact wE_31)))
                  replace s7 : M111 857 = _ := (funext (fun j => f111 857 j (by (try dsimp only); omega))).trans s7
                  replace s8 : M111 858 = _ := (funext (fun j => f111 858 j (by (try dsimp only); omega))).trans s8
                  refine at_pop dx_103_112 rfl ?_
                  refine at_vretV dx_103_113 ?_
                  have m31 := congrFun (congrFun e111 856) 31
                  rw [um_eq] at m31
                  refine ⟨MI_sq hM (fe_le F (fun q j h => w2_sq h)), F, ?_⟩
                  first
                  | (exfalso; omega)
                  | exact Or.inl ⟨m31, by omega, s7, s8⟩
                  | exact Or.inr (Or.inl ⟨m31, by omega, by first | omega | (intro h; have := ev_rem (a := a) h.2.1.1 h.2.1.2.1; omega), s7, s8⟩)
                  | (have hra : RAr e a b := by have := ev_rem (a := a) (by omega) (by omega); omega
                     first
                     | exact Or.inr (Or.inr (Or.inr ⟨m31, by omega, hra, ⟨by omega, NoPm_of (by omega) (by omega) (by omega), (z87.mp (by omega)).2⟩, s7, s8⟩))
                     | exact Or.inr (Or.inr (Or.inl ⟨m31, by omega, hra, fun h => by have := h.1; have := NoPm_no h.2.1; first | omega | (have := z87.mpr ⟨by decide, h.2.2⟩; omega), s7, s8⟩)))
              · skip
                refine at_iload dx_103_74 rfl ?_
                refine at_zeqR dx_103_75 (by decide) (fun c => absurd c (by decide)) (fun _ => ?_)
                refine at_iload dx_103_76 rfl ?_
                refine at_zeqR dx_103_77 (by decide) (fun _ => ?_) (fun c => absurd c (by decide))
                refine at_aload dx_103_97 rfl ?_
                refine at_iload dx_103_98 rfl ?_
                refine at_zneR dx_103_99 r3 (fun c99 => ?_) (fun c99 => ?_)
                · skip
                  refine at_iload dx_103_102 rfl ?_
                  refine at_zneR dx_103_103 (by decide) (fun _ => ?_) (fun c => absurd c (by decide))
                  refine at_iload dx_103_106 rfl ?_
                  refine at_zeqR dx_103_107 (by decide) (fun _ => ?_) (fun c => absurd c (by decide))
                  refine at_const (x := 3) dx_103_110 rfl ?_
                  refine at_callVI dx_103_111 rfl lc_856 rfl (m_fails (by decide)) ?_
                  rintro x111 M111 r111 ⟨e111, h111⟩
                  have f111 := fe_um31 e111
                  replace F : frE w2E M _ := fe_tr F (fe_le f111 (fun q j h => Or.inl (by obtain ⟨rfl, rfl⟩ := h; exact wE_31)))
                  replace s7 : M111 857 = _ := (funext (fun j => f111 857 j (by (try dsimp only); omega))).trans s7
                  replace s8 : M111 858 = _ := (funext (fun j => f111 858 j (by (try dsimp only); omega))).trans s8
                  refine at_pop dx_103_112 rfl ?_
                  refine at_vretV dx_103_113 ?_
                  have m31 := congrFun (congrFun e111 856) 31
                  rw [um_eq] at m31
                  refine ⟨MI_sq hM (fe_le F (fun q j h => w2_sq h)), F, ?_⟩
                  first
                  | (exfalso; omega)
                  | exact Or.inl ⟨m31, by omega, s7, s8⟩
                  | exact Or.inr (Or.inl ⟨m31, by omega, by first | omega | (intro h; have := ev_rem (a := a) h.2.1.1 h.2.1.2.1; omega), s7, s8⟩)
                  | (have hra : RAr e a b := by have := ev_rem (a := a) (by omega) (by omega); omega
                     first
                     | exact Or.inr (Or.inr (Or.inr ⟨m31, by omega, hra, ⟨by omega, NoPm_of (by omega) (by omega) (by omega), (z87.mp (by omega)).2⟩, s7, s8⟩))
                     | exact Or.inr (Or.inr (Or.inl ⟨m31, by omega, hra, fun h => by have := h.1; have := NoPm_no h.2.1; first | omega | (have := z87.mpr ⟨by decide, h.2.2⟩; omega), s7, s8⟩)))
                · skip
                  refine at_const (x := 1) dx_103_100 rfl ?_
                  refine at_goto dx_103_101 ?_
                  refine at_callVI dx_103_111 rfl lc_856 rfl (m_fails (by decide)) ?_
                  rintro x111 M111 r111 ⟨e111, h111⟩
                  have f111 := fe_um31 e111
                  replace F : frE w2E M _ := fe_tr F (fe_le f111 (fun q j h => Or.inl (by obtain ⟨rfl, rfl⟩ := h; exact wE_31)))
                  replace s7 : M111 857 = _ := (funext (fun j => f111 857 j (by (try dsimp only); omega))).trans s7
                  replace s8 : M111 858 = _ := (funext (fun j => f111 858 j (by (try dsimp only); omega))).trans s8
                  refine at_pop dx_103_112 rfl ?_
                  refine at_vretV dx_103_113 ?_
                  have m31 := congrFun (congrFun e111 856) 31
                  rw [um_eq] at m31
                  refine ⟨MI_sq hM (fe_le F (fun q j h => w2_sq h)), F, ?_⟩
                  first
                  | (exfalso; omega)
                  | exact Or.inl ⟨m31, by omega, s7, s8⟩
                  | exact Or.inr (Or.inl ⟨m31, by omega, by first | omega | (intro h; have := ev_rem (a := a) h.2.1.1 h.2.1.2.1; omega), s7, s8⟩)
                  | (have hra : RAr e a b := by have := ev_rem (a := a) (by omega) (by omega); omega
                     first
                     | exact Or.inr (Or.inr (Or.inr ⟨m31, by omega, hra, ⟨by omega, NoPm_of (by omega) (by omega) (by omega), (z87.mp (by omega)).2⟩, s7, s8⟩))
                     | exact Or.inr (Or.inr (Or.inl ⟨m31, by omega, hra, fun h => by have := h.1; have := NoPm_no h.2.1; first | omega | (have := z87.mpr ⟨by decide, h.2.2⟩; omega), s7, s8⟩)))
            · skip
              refine at_aload dx_103_53 rfl ?_
              refine at_getR dx_103_54 lc_856 rfl lt_856_15 ?_
              refine at_const (x := 0) dx_103_55 rfl ?_
              refine at_aldI dx_103_56 lc_871 ln_871 (by decide) (by decide) (fun r56 => ?_)
              refine at_aload dx_103_57 rfl ?_
              refine at_getR dx_103_58 lc_856 rfl lt_856_15 ?_
              refine at_const (x := 1) dx_103_59 rfl ?_
              refine at_aldI dx_103_60 lc_871 ln_871 (by decide) (by decide) (fun r60 => ?_)
              refine at_addR dx_103_61 (by constructor <;> omega) (fun r61 => ?_)
              refine at_aload dx_103_62 rfl ?_
              refine at_getR dx_103_63 lc_856 rfl lt_856_15 ?_
              refine at_const (x := 2) dx_103_64 rfl ?_
              refine at_aldI dx_103_65 lc_871 ln_871 (by decide) (by decide) (fun r65 => ?_)
              refine at_addR dx_103_66 (by constructor <;> omega) (fun r66 => ?_)
              refine at_zneR dx_103_67 r66 (fun c67 => ?_) (fun c67 => ?_)
              · skip
                refine at_const (x := 0) dx_103_70 rfl ?_
                refine at_istore dx_103_71 ?_
                refine at_iload dx_103_72 rfl ?_
                refine at_zeqR dx_103_73 r3 (fun c73 => ?_) (fun c73 => ?_)
                · skip
                  refine at_aload dx_103_97 rfl ?_
                  refine at_iload dx_103_98 rfl ?_
                  refine at_zneR dx_103_99 r3 (fun c99 => ?_) (fun c99 => ?_)
                  · skip
                    refine at_iload dx_103_102 rfl ?_
                    refine at_zneR dx_103_103 (by decide) (fun _ => ?_) (fun c => absurd c (by decide))
                    refine at_iload dx_103_106 rfl ?_
                    refine at_zeqR dx_103_107 (by decide) (fun _ => ?_) (fun c => absurd c (by decide))
                    refine at_const (x := 3) dx_103_110 rfl ?_
                    refine at_callVI dx_103_111 rfl lc_856 rfl (m_fails (by decide)) ?_
                    rintro x111 M111 r111 ⟨e111, h111⟩
                    have f111 := fe_um31 e111
                    replace F : frE w2E M _ := fe_tr F (fe_le f111 (fun q j h => Or.inl (by obtain ⟨rfl, rfl⟩ := h; exact wE_31)))
                    replace s7 : M111 857 = _ := (funext (fun j => f111 857 j (by (try dsimp only); omega))).trans s7
                    replace s8 : M111 858 = _ := (funext (fun j => f111 858 j (by (try dsimp only); omega))).trans s8
                    refine at_pop dx_103_112 rfl ?_
                    refine at_vretV dx_103_113 ?_
                    have m31 := congrFun (congrFun e111 856) 31
                    rw [um_eq] at m31
                    refine ⟨MI_sq hM (fe_le F (fun q j h => w2_sq h)), F, ?_⟩
                    first
                    | (exfalso; omega)
                    | exact Or.inl ⟨m31, by omega, s7, s8⟩
                    | exact Or.inr (Or.inl ⟨m31, by omega, by first | omega | (intro h; have := ev_rem (a := a) h.2.1.1 h.2.1.2.1; omega), s7, s8⟩)
                    | (have hra : RAr e a b := by have := ev_rem (a := a) (by omega) (by omega); omega
                       first
                       | exact Or.inr (Or.inr (Or.inr ⟨m31, by omega, hra, ⟨by omega, NoPm_of (by omega) (by omega) (by omega), (z87.mp (by omega)).2⟩, s7, s8⟩))
                       | exact Or.inr (Or.inr (Or.inl ⟨m31, by omega, hra, fun h => by have := h.1; have := NoPm_no h.2.1; first | omega | (have := z87.mpr ⟨by decide, h.2.2⟩; omega), s7, s8⟩)))
                  · skip
                    refine at_const (x := 1) dx_103_100 rfl ?_
                    refine at_goto dx_103_101 ?_
                    refine at_callVI dx_103_111 rfl lc_856 rfl (m_fails (by decide)) ?_
                    rintro x111 M111 r111 ⟨e111, h111⟩
                    have f111 := fe_um31 e111
                    replace F : frE w2E M _ := fe_tr F (fe_le f111 (fun q j h => Or.inl (by obtain ⟨rfl, rfl⟩ := h; exact wE_31)))
                    replace s7 : M111 857 = _ := (funext (fun j => f111 857 j (by (try dsimp only); omega))).trans s7
                    replace s8 : M111 858 = _ := (funext (fun j => f111 858 j (by (try dsimp only); omega))).trans s8
                    refine at_pop dx_103_112 rfl ?_
                    refine at_vretV dx_103_113 ?_
                    have m31 := congrFun (congrFun e111 856) 31
                    rw [um_eq] at m31
                    refine ⟨MI_sq hM (fe_le F (fun q j h => w2_sq h)), F, ?_⟩
                    first
                    | (exfalso; omega)
                    | exact Or.inl ⟨m31, by omega, s7, s8⟩
                    | exact Or.inr (Or.inl ⟨m31, by omega, by first | omega | (intro h; have := ev_rem (a := a) h.2.1.1 h.2.1.2.1; omega), s7, s8⟩)
                    | (have hra : RAr e a b := by have := ev_rem (a := a) (by omega) (by omega); omega
                       first
                       | exact Or.inr (Or.inr (Or.inr ⟨m31, by omega, hra, ⟨by omega, NoPm_of (by omega) (by omega) (by omega), (z87.mp (by omega)).2⟩, s7, s8⟩))
                       | exact Or.inr (Or.inr (Or.inl ⟨m31, by omega, hra, fun h => by have := h.1; have := NoPm_no h.2.1; first | omega | (have := z87.mpr ⟨by decide, h.2.2⟩; omega), s7, s8⟩)))
                · skip
                  refine at_iload dx_103_74 rfl ?_
                  refine at_zeqR dx_103_75 (by decide) (fun c => absurd c (by decide)) (fun _ => ?_)
                  refine at_iload dx_103_76 rfl ?_
                  refine at_zeqR dx_103_77 (by decide) (fun _ => ?_) (fun c => absurd c (by decide))
                  refine at_aload dx_103_97 rfl ?_
                  refine at_iload dx_103_98 rfl ?_
                  refine at_zneR dx_103_99 r3 (fun c99 => ?_) (fun c99 => ?_)
                  · skip
                    refine at_iload dx_103_102 rfl ?_
                    refine at_zneR dx_103_103 (by decide) (fun _ => ?_) (fun c => absurd c (by decide))
                    refine at_iload dx_103_106 rfl ?_
                    refine at_zeqR dx_103_107 (by decide) (fun _ => ?_) (fun c => absurd c (by decide))
                    refine at_const (x := 3) dx_103_110 rfl ?_
                    refine at_callVI dx_103_111 rfl lc_856 rfl (m_fails (by decide)) ?_
                    rintro x111 M111 r111 ⟨e111, h111⟩
                    have f111 := fe_um31 e111
                    replace F : frE w2E M _ := fe_tr F (fe_le f111 (fun q j h => Or.inl (by obtain ⟨rfl, rfl⟩ := h; exact wE_31)))
                    replace s7 : M111 857 = _ := (funext (fun j => f111 857 j (by (try dsimp only); omega))).trans s7
                    replace s8 : M111 858 = _ := (funext (fun j => f111 858 j (by (try dsimp only); omega))).trans s8
                    refine at_pop dx_103_112 rfl ?_
                    refine at_vretV dx_103_113 ?_
                    have m31 := congrFun (congrFun e111 856) 31
                    rw [um_eq] at m31
                    refine ⟨MI_sq hM (fe_le F (fun q j h => w2_sq h)), F, ?_⟩
                    first
                    | (exfalso; omega)
                    | exact Or.inl ⟨m31, by omega, s7, s8⟩
                    | exact Or.inr (Or.inl ⟨m31, by omega, by first | omega | (intro h; have := ev_rem (a := a) h.2.1.1 h.2.1.2.1; omega), s7, s8⟩)
                    | (have hra : RAr e a b := by have := ev_rem (a := a) (by omega) (by omega); omega
                       first
                       | exact Or.inr (Or.inr (Or.inr ⟨m31, by omega, hra, ⟨by omega, NoPm_of (by omega) (by omega) (by omega), (z87.mp (by omega)).2⟩, s7, s8⟩))
                       | exact Or.inr (Or.inr (Or.inl ⟨m31, by omega, hra, fun h => by have := h.1; have := NoPm_no h.2.1; first | omega | (have := z87.mpr ⟨by decide, h.2.2⟩; omega), s7, s8⟩)))
                  · skip
                    refine at_const (x := 1) dx_103_100 rfl ?_
                    refine at_goto dx_103_101 ?_
                    refine at_callVI dx_103_111 rfl lc_856 rfl (m_fails (by decide)) ?_
                    rintro x111 M111 r111 ⟨e111, h111⟩
                    have f111 := fe_um31 e111
                    replace F : frE w2E M _ := fe_tr F (fe_le f111 (fun q j h => Or.inl (by obtain ⟨rfl, rfl⟩ := h; exact wE_31)))
                    replace s7 : M111 857 = _ := (funext (fun j => f111 857 j (by (try dsimp only); omega))).trans s7
                    replace s8 : M111 858 = _ := (funext (fun j => f111 858 j (by (try dsimp only); omega))).trans s8
                    refine at_pop dx_103_112 rfl ?_
                    refine at_vretV dx_103_113 ?_
                    have m31 := congrFun (congrFun e111 856) 31
                    rw [um_eq] at m31
                    refine ⟨MI_sq hM (fe_le F (fun q j h => w2_sq h)), F, ?_⟩
                    first
                    | (exfalso; omega)
                    | exact Or.inl ⟨m31, by omega, s7, s8⟩
                    | exact Or.inr (Or.inl ⟨m31, by omega, by first | omega | (intro h; have := ev_rem (a := a) h.2.1.1 h.2.1.2.1; omega), s7, s8⟩)
                    | (have hra : RAr e a b := by have := ev_rem (a := a) (by omega) (by omega); omega
                       first
                       | exact Or.inr (Or.inr (Or.inr ⟨m31, by omega, hra, ⟨by omega, NoPm_of (by omega) (by omega) (by omega), (z87.mp (by omega)).2⟩, s7, s8⟩))
                       | exact Or.inr (Or.inr (Or.inl ⟨m31, by omega, hra, fun h => by have := h.1; have := NoPm_no h.2.1; first | omega | (have := z87.mpr ⟨by decide, h.2.2⟩; omega), s7, s8⟩)))
              · skip
                refine at_const (x := 1) dx_103_68 rfl ?_
                refine at_goto dx_103_69 ?_
                refine at_istore dx_103_71 ?_
                refine at_iload dx_103_72 rfl ?_
                refine at_zeqR dx_103_73 r3 (fun c73 => ?_) (fun c73 => ?_)
                · skip
                  refine at_aload dx_103_97 rfl ?_
                  refine at_iload dx_103_98 rfl ?_
                  refine at_zneR dx_103_99 r3 (fun c99 => ?_) (fun c99 => ?_)
                  · skip
                    refine at_iload dx_103_102 rfl ?_
                    refine at_zneR dx_103_103 (by decide) (fun _ => ?_) (fun c => absurd c (by decide))
                    refine at_iload dx_103_106 rfl ?_
                    refine at_zeqR dx_103_107 (by decide) (fun c => absurd c (by decide)) (fun _ => ?_)
                    refine at_const (x := 0) dx_103_108 rfl ?_
                    refine at_goto dx_103_109 ?_
                    refine at_callVI dx_103_111 rfl lc_856 rfl (m_fails (by decide)) ?_
                    rintro x111 M111 r111 ⟨e111, h111⟩
                    have f111 := fe_um31 e111
                    replace F : frE w2E M _ := fe_tr F (fe_le f111 (fun q j h => Or.inl (by obtain ⟨rfl, rfl⟩ := h; exact wE_31)))
                    replace s7 : M111 857 = _ := (funext (fun j => f111 857 j (by (try dsimp only); omega))).trans s7
                    replace s8 : M111 858 = _ := (funext (fun j => f111 858 j (by (try dsimp only); omega))).trans s8
                    refine at_pop dx_103_112 rfl ?_
                    refine at_vretV dx_103_113 ?_
                    have m31 := congrFun (congrFun e111 856) 31
                    rw [um_eq] at m31
                    refine ⟨MI_sq hM (fe_le F (fun q j h => w2_sq h)), F, ?_⟩
                    first
                    | (exfalso; omega)
                    | exact Or.inl ⟨m31, by omega, s7, s8⟩
                    | exact Or.inr (Or.inl ⟨m31, by omega, by first | omega | (intro h; have := ev_rem (a := a) h.2.1.1 h.2.1.2.1; omega), s7, s8⟩)
                    | (have hra : RAr e a b := by have := ev_rem (a := a) (by omega) (by omega); omega
                       first
                       | exact Or.inr (Or.inr (Or.inr ⟨m31, by omega, hra, ⟨by omega, NoPm_of (by omega) (by omega) (by omega), (z87.mp (by omega)).2⟩, s7, s8⟩))
                       | exact Or.inr (Or.inr (Or.inl ⟨m31, by omega, hra, fun h => by have := h.1; have := NoPm_no h.2.1; first | omega | (have := z87.mpr ⟨by decide, h.2.2⟩; omega), s7, s8⟩)))
                  · skip
                    refine at_const (x := 1) dx_103_100 rfl ?_
                    refine at_goto dx_103_101 ?_
                    refine at_callVI dx_103_111 rfl lc_856 rfl (m_fails (by decide)) ?_
                    rintro x111 M111 r111 ⟨e111, h111⟩
                    have f111 := fe_um31 e111
                    replace F : frE w2E M _ := fe_tr F (fe_le f111 (fun q j h => Or.inl (by obtain ⟨rfl, rfl⟩ := h; exact wE_31)))
                    replace s7 : M111 857 = _ := (funext (fun j => f111 857 j (by (try dsimp only); omega))).trans s7
                    replace s8 : M111 858 = _ := (funext (fun j => f111 858 j (by (try dsimp only); omega))).trans s8
                    refine at_pop dx_103_112 rfl ?_
                    refine at_vretV dx_103_113 ?_
                    have m31 := congrFun (congrFun e111 856) 31
                    rw [um_eq] at m31
                    refine ⟨MI_sq hM (fe_le F (fun q j h => w2_sq h)), F, ?_⟩
                    first
                    | (exfalso; omega)
                    | exact Or.inl ⟨m31, by omega, s7, s8⟩
                    | exact Or.inr (Or.inl ⟨m31, by omega, by first | omega | (intro h; have := ev_rem (a := a) h.2.1.1 h.2.1.2.1; omega), s7, s8⟩)
                    | (have hra : RAr e a b := by have := ev_rem (a := a) (by omega) (by omega); omega
                       first
                       | exact Or.inr (Or.inr (Or.inr ⟨m31, by omega, hra, ⟨by omega, NoPm_of (by omega) (by omega) (by omega), (z87.mp (by omega)).2⟩, s7, s8⟩))
                       | exact Or.inr (Or.inr (Or.inl ⟨m31, by omega, hra, fun h => by have := h.1; have := NoPm_no h.2.1; first | omega | (have := z87.mpr ⟨by decide, h.2.2⟩; omega), s7, s8⟩)))
                · skip
                  refine at_iload dx_103_74 rfl ?_
                  refine at_zeqR dx_103_75 (by decide) (fun c => absurd c (by decide)) (fun _ => ?_)
                  refine at_iload dx_103_76 rfl ?_
                  refine at_zeqR dx_103_77 (by decide) (fun c => absurd c (by decide)) (fun _ => ?_)
                  refine at_aload dx_103_78 rfl ?_
                  refine at_iload dx_103_79 rfl ?_
                  refine at_iload dx_103_80 rfl ?_
                  refine at_iload dx_103_81 rfl ?_
                  refine at_iload dx_103_82 rfl ?_
                  refine at_callVV dx_103_83 rfl lc_856 rfl (m_sets rt re ra rb (by omega) (by omega)) ?_
                  rintro M83 e83
                  have f83 := fe_um78 e83
                  replace F : frE w2E M _ := fe_tr F (fe_le f83 (fun q j h => Or.inr h))
                  have t83a : M83 857 = updI (M 857) (3 * t + e) a := by rw [e83, show (um (um M 857 (3 * t + e) a) 858 (3 * t + e) b) 857 = (um M 857 (3 * t + e) a) 857 from funext (fun j => um_k (by decide)), um_updI]
                  have t83b : M83 858 = updI (M 858) (3 * t + e) b := by rw [e83, um_updI, show (um M 857 (3 * t + e) a) 858 = M 858 from funext (fun j => um_k (by decide))]
                  replace s7 : M83 857 = updI (M 857) (3 * t + e) a := t83a
                  replace s8 : M83 858 = updI (M 858) (3 * t + e) b := t83b
                  refine at_aload dx_103_84 rfl ?_
                  refine at_callVV dx_103_85 rfl lc_856 rfl (m_begins) ?_
                  rintro M85 ⟨f85, l85, w85⟩
                  replace F : frE w2E M _ := fe_tr F (fe_le f85 (fun q j h => Or.inl (wE_C (by (try dsimp only at h); omega))))
                  replace s7 : M85 857 = _ := (funext (fun j => f85 857 j (by (try dsimp only); omega))).trans s7
                  replace s8 : M85 858 = _ := (funext (fun j => f85 858 j (by (try dsimp only); omega))).trans s8
                  refine at_aload dx_103_86 rfl ?_
                  refine at_callVI dx_103_87 rfl lc_856 rfl (x_isValid (by omega) (by rw [s7, s8]; exact GR_updI hG (by omega) (by omega))) ?_
                  rintro x87 M87 r87 ⟨f87, b87, -, z87⟩
                  rw [s7, s8, w85, l85] at z87
                  replace F : frE w2E M _ := fe_tr F (fe_le f87 (fun q j h => Or.inl (wE_C (by (try dsimp only at h); omega))))
                  replace s7 : M87 857 = _ := (funext (fun j => f87 857 j (by (try dsimp only); omega))).trans s7
                  replace s8 : M87 858 = _ := (funext (fun j => f87 858 j (by (try dsimp only); omega))).trans s8
                  refine at_istore dx_103_88 ?_
                  refine at_iload dx_103_89 rfl ?_
                  refine at_zneR dx_103_90 r87 (fun c90 => ?_) (fun c90 => ?_)
                  · skip
                    refine at_aload dx_103_97 rfl ?_
                    refine at_iload dx_103_98 rfl ?_
                    refine at_zneR dx_103_99 r3 (fun c99 => ?_) (fun c99 => ?_)
                    · skip
                      refine at_iload dx_103_102 rfl ?_
                      refine at_zneR dx_103_103 (by decide) (fun _ => ?_) (fun c => absurd c (by decide))
                      refine at_iload dx_103_106 rfl ?_
                      refine at_zeqR dx_103_107 r87 (fun c107 => ?_) (fun c107 => ?_)
                      · skip
                        refine at_const (x := 3) dx_103_110 rfl ?_
                        refine at_callVI dx_103_111 rfl lc_856 rfl (m_fails (by decide)) ?_
                        rintro x111 M111 r111 ⟨e111, h111⟩
                        have f111 := fe_um31 e111
                        replace F : frE w2E M _ := fe_tr F (fe_le f111 (fun q j h => Or.inl (by obtain ⟨rfl, rfl⟩ := h; exact wE_31)))
                        replace s7 : M111 857 = _ := (funext (fun j => f111 857 j (by (try dsimp only); omega))).trans s7
                        replace s8 : M111 858 = _ := (funext (fun j => f111 858 j (by (try dsimp only); omega))).trans s8
                        refine at_pop dx_103_112 rfl ?_
                        refine at_vretV dx_103_113 ?_
                        have m31 := congrFun (congrFun e111 856) 31
                        rw [um_eq] at m31
                        refine ⟨MI_sq hM (fe_le F (fun q j h => w2_sq h)), F, ?_⟩
                        first
                        | (exfalso; omega)
                        | exact Or.inl ⟨m31, by omega, s7, s8⟩
                        | exact Or.inr (Or.inl ⟨m31, by omega, by first | omega | (intro h; have := ev_rem (a := a) h.2.1.1 h.2.1.2.1; omega), s7, s8⟩)
                        | (have hra : RAr e a b := by have := ev_rem (a := a) (by omega) (by omega); omega
                           first
                           | exact Or.inr (Or.inr (Or.inr ⟨m31, by omega, hra, ⟨by omega, NoPm_of (by omega) (by omega) (by omega), (z87.mp (by omega)).2⟩, s7, s8⟩))
                           | exact Or.inr (Or.inr (Or.inl ⟨m31, by omega, hra, fun h => by have := h.1; have := NoPm_no h.2.1; first | omega | (have := z87.mpr ⟨by decide, h.2.2⟩; omega), s7, s8⟩)))
                      · skip
                        refine at_const (x := 0) dx_103_108 rfl ?_
                        refine at_goto dx_103_109 ?_
                        refine at_callVI dx_103_111 rfl lc_856 rfl (m_fails (by decide)) ?_
                        rintro x111 M111 r111 ⟨e111, h111⟩
                        have f111 := fe_um31 e111
                        replace F : frE w2E M _ := fe_tr F (fe_le f111 (fun q j h => Or.inl (by obtain ⟨rfl, rfl⟩ := h; exact wE_31)))
                        replace s7 : M111 857 = _ := (funext (fun j => f111 857 j (by (try dsimp only); omega))).trans s7
                        replace s8 : M111 858 = _ := (funext (fun j => f111 858 j (by (try dsimp only); omega))).trans s8
                        refine at_pop dx_103_112 rfl ?_
                        refine at_vretV dx_103_113 ?_
                        have m31 := congrFun (congrFun e111 856) 31
                        rw [um_eq] at m31
                        refine ⟨MI_sq hM (fe_le F (fun q j h => w2_sq h)), F, ?_⟩
                        first
                        | (exfalso; omega)
                        | exact Or.inl ⟨m31, by omega, s7, s8⟩
                        | exact Or.inr (Or.inl ⟨m31, by omega, by first | omega | (intro h; have := ev_rem (a := a) h.2.1.1 h.2.1.2.1; omega), s7, s8⟩)
                        | (have hra : RAr e a b := by have := ev_rem (a := a) (by omega) (by omega); omega
                           first
                           | exact Or.inr (Or.inr (Or.inr ⟨m31, by omega, hra, ⟨by omega, NoPm_of (by omega) (by omega) (by omega), (z87.mp (by omega)).2⟩, s7, s8⟩))
                           | exact Or.inr (Or.inr (Or.inl ⟨m31, by omega, hra, fun h => by have := h.1; have := NoPm_no h.2.1; first | omega | (have := z87.mpr ⟨by decide, h.2.2⟩; omega), s7, s8⟩)))
                    · skip
                      refine at_const (x := 1) dx_103_100 rfl ?_
                      refine at_goto dx_103_101 ?_
                      refine at_callVI dx_103_111 rfl lc_856 rfl (m_fails (by decide)) ?_
                      rintro x111 M111 r111 ⟨e111, h111⟩
                      have f111 := fe_um31 e111
                      replace F : frE w2E M _ := fe_tr F (fe_le f111 (fun q j h => Or.inl (by obtain ⟨rfl, rfl⟩ := h; exact wE_31)))
                      replace s7 : M111 857 = _ := (funext (fun j => f111 857 j (by (try dsimp only); omega))).trans s7
                      replace s8 : M111 858 = _ := (funext (fun j => f111 858 j (by (try dsimp only); omega))).trans s8
                      refine at_pop dx_103_112 rfl ?_
                      refine at_vretV dx_103_113 ?_
                      have m31 := congrFun (congrFun e111 856) 31
                      rw [um_eq] at m31
                      refine ⟨MI_sq hM (fe_le F (fun q j h => w2_sq h)), F, ?_⟩
                      first
                      | (exfalso; omega)
                      | exact Or.inl ⟨m31, by omega, s7, s8⟩
                      | exact Or.inr (Or.inl ⟨m31, by omega, by first | omega | (intro h; have := ev_rem (a := a) h.2.1.1 h.2.1.2.1; omega), s7, s8⟩)
                      | (have hra : RAr e a b := by have := ev_rem (a := a) (by omega) (by omega); omega
                         first
                         | exact Or.inr (Or.inr (Or.inr ⟨m31, by omega, hra, ⟨by omega, NoPm_of (by omega) (by omega) (by omega), (z87.mp (by omega)).2⟩, s7, s8⟩))
                         | exact Or.inr (Or.inr (Or.inl ⟨m31, by omega, hra, fun h => by have := h.1; have := NoPm_no h.2.1; first | omega | (have := z87.mpr ⟨by decide, h.2.2⟩; omega), s7, s8⟩)))
                  · skip
                    refine at_aload dx_103_91 rfl ?_
                    refine at_iload dx_103_92 rfl ?_
                    refine at_iload dx_103_93 rfl ?_
                    refine at_iload dx_103_94 rfl ?_
                    refine at_iload dx_103_95 rfl ?_
                    refine at_callVV dx_103_96 rfl lc_856 rfl (m_sets rt re r43 r48 (by omega) (by omega)) ?_
                    rintro M96 e96
                    have f96 := fe_um78 e96
                    replace F : frE w2E M _ := fe_tr F (fe_le f96 (fun q j h => Or.inr h))
                    have t96a : M96 857 = updI (M87 857) (3 * t + e) (M 857 (3 * t + e)) := by rw [e96, show (um (um M87 857 (3 * t + e) (M 857 (3 * t + e))) 858 (3 * t + e) (M 858 (3 * t + e))) 857 = (um M87 857 (3 * t + e) (M 857 (3 * t + e))) 857 from funext (fun j => um_k (by decide)), um_updI]
                    have t96b : M96 858 = updI (M87 858) (3 * t + e) (M 858 (3 * t + e)) := by rw [e96, um_updI, show (um M87 857 (3 * t + e) (M 857 (3 * t + e))) 858 = M87 858 from funext (fun j => um_k (by decide))]
                    replace s7 : M96 857 = M 857 := by rw [t96a, s7, updI_back]
                    replace s8 : M96 858 = M 858 := by rw [t96b, s8, updI_back]
                    refine at_aload dx_103_97 rfl ?_
                    refine at_iload dx_103_98 rfl ?_
                    refine at_zneR dx_103_99 r3 (fun c99 => ?_) (fun c99 => ?_)
                    · skip
                      refine at_iload dx_103_102 rfl ?_
                      refine at_zneR dx_103_103 (by decide) (fun _ => ?_) (fun c => absurd c (by decide))
                      refine at_iload dx_103_106 rfl ?_
                      refine at_zeqR dx_103_107 r87 (fun c107 => ?_) (fun c107 => ?_)
                      · skip
                        refine at_const (x := 3) dx_103_110 rfl ?_
                        refine at_callVI dx_103_111 rfl lc_856 rfl (m_fails (by decide)) ?_
                        rintro x111 M111 r111 ⟨e111, h111⟩
                        have f111 := fe_um31 e111
                        replace F : frE w2E M _ := fe_tr F (fe_le f111 (fun q j h => Or.inl (by obtain ⟨rfl, rfl⟩ := h; exact wE_31)))
                        replace s7 : M111 857 = _ := (funext (fun j => f111 857 j (by (try dsimp only); omega))).trans s7
                        replace s8 : M111 858 = _ := (funext (fun j => f111 858 j (by (try dsimp only); omega))).trans s8
                        refine at_pop dx_103_112 rfl ?_
                        refine at_vretV dx_103_113 ?_
                        have m31 := congrFun (congrFun e111 856) 31
                        rw [um_eq] at m31
                        refine ⟨MI_sq hM (fe_le F (fun q j h => w2_sq h)), F, ?_⟩
                        first
                        | (exfalso; omega)
                        | exact Or.inl ⟨m31, by omega, s7, s8⟩
                        | exact Or.inr (Or.inl ⟨m31, by omega, by first | omega | (intro h; have := ev_rem (a := a) h.2.1.1 h.2.1.2.1; omega), s7, s8⟩)
                        | (have hra : RAr e a b := by have := ev_rem (a := a) (by omega) (by omega); omega
                           first
                           | exact Or.inr (Or.inr (Or.inr ⟨m31, by omega, hra, ⟨by omega, NoPm_of (by omega) (by omega) (by omega), (z87.mp (by omega)).2⟩, s7, s8⟩))
                           | exact Or.inr (Or.inr (Or.inl ⟨m31, by omega, hra, fun h => by have := h.1; have := NoPm_no h.2.1; first | omega | (have := z87.mpr ⟨by decide, h.2.2⟩; omega), s7, s8⟩)))
                      · skip
                        refine at_const (x := 0) dx_103_108 rfl ?_
                        refine at_goto dx_103_109 ?_
                        refine at_callVI dx_103_111 rfl lc_856 rfl (m_fails (by decide)) ?_
                        rintro x111 M111 r111 ⟨e111, h111⟩
                        have f111 := fe_um31 e111
                        replace F : frE w2E M _ := fe_tr F (fe_le f111 (fun q j h => Or.inl (by obtain ⟨rfl, rfl⟩ := h; exact wE_31)))
                        replace s7 : M111 857 = _ := (funext (fun j => f111 857 j (by (try dsimp only); omega))).trans s7
                        replace s8 : M111 858 = _ := (funext (fun j => f111 858 j (by (try dsimp only); omega))).trans s8
                        refine at_pop dx_103_112 rfl ?_
                        refine at_vretV dx_103_113 ?_
                        have m31 := congrFun (congrFun e111 856) 31
                        rw [um_eq] at m31
                        refine ⟨MI_sq hM (fe_le F (fun q j h => w2_sq h)), F, ?_⟩
                        first
                        | (exfalso; omega)
                        | exact Or.inl ⟨m31, by omega, s7, s8⟩
                        | exact Or.inr (Or.inl ⟨m31, by omega, by first | omega | (intro h; have := ev_rem (a := a) h.2.1.1 h.2.1.2.1; omega), s7, s8⟩)
                        | (have hra : RAr e a b := by have := ev_rem (a := a) (by omega) (by omega); omega
                           first
                           | exact Or.inr (Or.inr (Or.inr ⟨m31, by omega, hra, ⟨by omega, NoPm_of (by omega) (by omega) (by omega), (z87.mp (by omega)).2⟩, s7, s8⟩))
                           | exact Or.inr (Or.inr (Or.inl ⟨m31, by omega, hra, fun h => by have := h.1; have := NoPm_no h.2.1; first | omega | (have := z87.mpr ⟨by decide, h.2.2⟩; omega), s7, s8⟩)))
                    · skip
                      refine at_const (x := 1) dx_103_100 rfl ?_
                      refine at_goto dx_103_101 ?_
                      refine at_callVI dx_103_111 rfl lc_856 rfl (m_fails (by decide)) ?_
                      rintro x111 M111 r111 ⟨e111, h111⟩
                      have f111 := fe_um31 e111
                      replace F : frE w2E M _ := fe_tr F (fe_le f111 (fun q j h => Or.inl (by obtain ⟨rfl, rfl⟩ := h; exact wE_31)))
                      replace s7 : M111 857 = _ := (funext (fun j => f111 857 j (by (try dsimp only); omega))).trans s7
                      replace s8 : M111 858 = _ := (funext (fun j => f111 858 j (by (try dsimp only); omega))).trans s8
                      refine at_pop dx_103_112 rfl ?_
                      refine at_vretV dx_103_113 ?_
                      have m31 := congrFun (congrFun e111 856) 31
                      rw [um_eq] at m31
                      refine ⟨MI_sq hM (fe_le F (fun q j h => w2_sq h)), F, ?_⟩
                      first
                      | (exfalso; omega)
                      | exact Or.inl ⟨m31, by omega, s7, s8⟩
                      | exact Or.inr (Or.inl ⟨m31, by omega, by first | omega | (intro h; have := ev_rem (a := a) h.2.1.1 h.2.1.2.1; omega), s7, s8⟩)
                      | (have hra : RAr e a b := by have := ev_rem (a := a) (by omega) (by omega); omega
                         first
                         | exact Or.inr (Or.inr (Or.inr ⟨m31, by omega, hra, ⟨by omega, NoPm_of (by omega) (by omega) (by omega), (z87.mp (by omega)).2⟩, s7, s8⟩))
                         | exact Or.inr (Or.inr (Or.inl ⟨m31, by omega, hra, fun h => by have := h.1; have := NoPm_no h.2.1; first | omega | (have := z87.mpr ⟨by decide, h.2.2⟩; omega), s7, s8⟩)))
