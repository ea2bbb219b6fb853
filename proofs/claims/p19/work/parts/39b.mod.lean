/-! ===== the reference: its calls ===== -/
set_option maxRecDepth 100000 in
set_option maxHeartbeats 4000000 in
theorem r_type {X : scr} {M : mem} {c p l : Int} (rc : inR c) (rp : inR p) (rl : inR l) (hM : MI M) : At X 0 124 0 [vr 856, vi c, vi p, vi l] [] M (qI (fun x M' => MI M' ∧ fr hi M M')) := by
  have F : frE sqE M M := fe_rf
  have hS := fun h1 h2 => hM.1 c h1 h2
  refine at_iload dx_124_0 rfl ?_
  refine at_callSI dx_124_1 rfl rfl (m_isClient rc) ?_
  rintro x1 M9 r1 ⟨e9, h1⟩; replace e9 := e9.symm; subst e9; replace h1 := ite01 h1
  refine at_zeqR dx_124_2 r1 (fun c2 => ?_) (fun c2 => ?_)
  · skip
    refine at_const (x := 0) dx_124_15 rfl ?_
    refine at_istore dx_124_16 ?_
    refine at_iload dx_124_17 rfl ?_
    refine at_zeqR dx_124_18 (by decide) (fun _ => ?_) (fun c => absurd c (by decide))
    refine at_aload dx_124_32 rfl ?_
    refine at_iload dx_124_33 rfl ?_
    refine at_zneR dx_124_34 (by decide) (fun c => absurd c (by decide)) (fun _ => ?_)
    refine at_const (x := 1) dx_124_35 rfl ?_
    refine at_goto dx_124_36 ?_
    refine at_callVI dx_124_44 rfl lc_856 rfl (m_fails2 (by decide)) ?_
    rintro x44 M44 r44 ⟨f44, h44⟩; replace h44 := ite01 h44
    replace F : frE sqE M _ := fe_tr F (fe_le f44 (fun q j h => Or.inl ⟨h.1, by rw [h.2]; decide, by rw [h.2]; decide⟩))
    have z44 := f44 860 c (by (try dsimp only); omega)
    obtain rfl : x44 = 1 := by omega
    refine at_zeqR dx_124_45 (by decide) (fun c => absurd c (by decide)) (fun _ => ?_)
    refine at_const (x := 0) dx_124_46 rfl ?_
    refine at_iretI dx_124_47 (by decide) ?_
    first | exact ⟨k1, k2⟩ | exact ⟨MI_sq hM F, fe_fr F (fun q j h => sq_hi h)⟩
  · skip
    refine at_aload dx_124_3 rfl ?_
    refine at_iload dx_124_4 rfl ?_
    refine at_iload dx_124_5 rfl ?_
    refine at_callVI dx_124_6 rfl lc_856 rfl (m_isPlace rc rp) ?_
    rintro x6 M9 r6 ⟨e9, h6⟩; replace e9 := e9.symm; subst e9; replace h6 := ite01 h6
    refine at_zeqR dx_124_7 r6 (fun c7 => ?_) (fun c7 => ?_)
    · skip
      refine at_const (x := 0) dx_124_15 rfl ?_
      refine at_istore dx_124_16 ?_
      refine at_iload dx_124_17 rfl ?_
      refine at_zeqR dx_124_18 (by decide) (fun _ => ?_) (fun c => absurd c (by decide))
      refine at_aload dx_124_32 rfl ?_
      refine at_iload dx_124_33 rfl ?_
      refine at_zneR dx_124_34 (by decide) (fun c => absurd c (by decide)) (fun _ => ?_)
      refine at_const (x := 1) dx_124_35 rfl ?_
      refine at_goto dx_124_36 ?_
      refine at_callVI dx_124_44 rfl lc_856 rfl (m_fails2 (by decide)) ?_
      rintro x44 M44 r44 ⟨f44, h44⟩; replace h44 := ite01 h44
      replace F : frE sqE M _ := fe_tr F (fe_le f44 (fun q j h => Or.inl ⟨h.1, by rw [h.2]; decide, by rw [h.2]; decide⟩))
      have z44 := f44 860 c (by (try dsimp only); omega)
      obtain rfl : x44 = 1 := by omega
      refine at_zeqR dx_124_45 (by decide) (fun c => absurd c (by decide)) (fun _ => ?_)
      refine at_const (x := 0) dx_124_46 rfl ?_
      refine at_iretI dx_124_47 (by decide) ?_
      first | exact ⟨k1, k2⟩ | exact ⟨MI_sq hM F, fe_fr F (fun q j h => sq_hi h)⟩
    · skip
      refine at_iload dx_124_8 rfl ?_
      refine at_const (x := 0) dx_124_9 rfl ?_
      refine at_const (x := 25) dx_124_10 rfl ?_
      refine at_callSI dx_124_11 rfl rfl (m_isIn rl (by decide) (by decide)) ?_
      rintro x11 M9 r11 ⟨e9, h11⟩; replace e9 := e9.symm; subst e9; replace h11 := ite01 h11
      refine at_zeqR dx_124_12 r11 (fun c12 => ?_) (fun c12 => ?_)
      · skip
        refine at_const (x := 0) dx_124_15 rfl ?_
        refine at_istore dx_124_16 ?_
        refine at_iload dx_124_17 rfl ?_
        refine at_zeqR dx_124_18 (by decide) (fun _ => ?_) (fun c => absurd c (by decide))
        refine at_aload dx_124_32 rfl ?_
        refine at_iload dx_124_33 rfl ?_
        refine at_zneR dx_124_34 (by decide) (fun c => absurd c (by decide)) (fun _ => ?_)
        refine at_const (x := 1) dx_124_35 rfl ?_
        refine at_goto dx_124_36 ?_
        refine at_callVI dx_124_44 rfl lc_856 rfl (m_fails2 (by decide)) ?_
        rintro x44 M44 r44 ⟨f44, h44⟩; replace h44 := ite01 h44
        replace F : frE sqE M _ := fe_tr F (fe_le f44 (fun q j h => Or.inl ⟨h.1, by rw [h.2]; decide, by rw [h.2]; decide⟩))
        have z44 := f44 860 c (by (try dsimp only); omega)
        obtain rfl : x44 = 1 := by omega
        refine at_zeqR dx_124_45 (by decide) (fun c => absurd c (by decide)) (fun _ => ?_)
        refine at_const (x := 0) dx_124_46 rfl ?_
        refine at_iretI dx_124_47 (by decide) ?_
        first | exact ⟨k1, k2⟩ | exact ⟨MI_sq hM F, fe_fr F (fun q j h => sq_hi h)⟩
      · skip
        refine at_const (x := 1) dx_124_13 rfl ?_
        refine at_goto dx_124_14 ?_
        refine at_istore dx_124_16 ?_
        refine at_iload dx_124_17 rfl ?_
        refine at_zeqR dx_124_18 (by decide) (fun c => absurd c (by decide)) (fun _ => ?_)
        refine at_aload dx_124_19 rfl ?_
        refine at_iload dx_124_20 rfl ?_
        refine at_const (x := 0) dx_124_21 rfl ?_
        refine at_callVV dx_124_22 rfl lc_856 rfl (m_tries rp (by decide)) ?_
        rintro M22 ⟨f22, t22a, t22b, t22c, t22d, t22e⟩
        replace F : frE sqE M _ := fe_tr F (fe_le f22 (fun q j h => sq_T (by (try dsimp only [stE] at h); omega)))
        have z22 := f22 860 c (by (try dsimp only); omega)
        refine at_aload dx_124_23 rfl ?_
        refine at_const (x := 100) dx_124_24 rfl ?_
        refine at_const (x := 0) dx_124_25 rfl ?_
        refine at_const (x := 100) dx_124_26 rfl ?_
        refine at_const (x := 4) dx_124_27 rfl ?_
        refine at_iload dx_124_28 rfl ?_
        refine at_mulR dx_124_29 (by constructor <;> omega) (fun r29 => ?_)
        refine at_addR dx_124_30 (by constructor <;> omega) (fun r30 => ?_)
        refine at_callVV dx_124_31 rfl lc_856 rfl (m_adds0 r30 (by omega)) ?_
        rintro M31 ⟨f31, q31, a31, b31⟩
        replace F : frE sqE M _ := fe_tr F (fe_le f31 (fun q j h => sq_T (by (try dsimp only [stE] at h); omega)))
        have z31 := f31 860 c (by (try dsimp only); omega)
        refine at_aload dx_124_32 rfl ?_
        refine at_iload dx_124_33 rfl ?_
        refine at_zneR dx_124_34 (by decide) (fun _ => ?_) (fun c => absurd c (by decide))
        refine at_aload dx_124_37 rfl ?_
        refine at_iload dx_124_38 rfl ?_
        refine at_callVI dx_124_39 rfl lc_856 rfl (m_canEdit2 rc (by omega) (MI_sq hM F) (okX100.mpr (by omega))) ?_
        rintro x39 M39 r39 ⟨f39, b39, w39⟩
        replace F : frE sqE M _ := fe_tr F (fe_le f39 (fun q j h => sq_C h))
        have z39 := f39 860 c (by (try dsimp only); omega)
        have hrd := w39
        refine at_zeqR dx_124_40 r39 (fun c40 => ?_) (fun c40 => ?_)
        · skip
          refine at_const (x := 2) dx_124_43 rfl ?_
          refine at_callVI dx_124_44 rfl lc_856 rfl (m_fails2 (by decide)) ?_
          rintro x44 M44 r44 ⟨f44, h44⟩; replace h44 := ite01 h44
          replace F : frE sqE M _ := fe_tr F (fe_le f44 (fun q j h => Or.inl ⟨h.1, by rw [h.2]; decide, by rw [h.2]; decide⟩))
          have z44 := f44 860 c (by (try dsimp only); omega)
          obtain rfl : x44 = 1 := by omega
          refine at_zeqR dx_124_45 (by decide) (fun c => absurd c (by decide)) (fun _ => ?_)
          refine at_const (x := 0) dx_124_46 rfl ?_
          refine at_iretI dx_124_47 (by decide) ?_
          first | exact ⟨k1, k2⟩ | exact ⟨MI_sq hM F, fe_fr F (fun q j h => sq_hi h)⟩
        · skip
          refine at_const (x := 0) dx_124_41 rfl ?_
          refine at_goto dx_124_42 ?_
          refine at_callVI dx_124_44 rfl lc_856 rfl (m_fails2 (by decide)) ?_
          rintro x44 M44 r44 ⟨f44, h44⟩; replace h44 := ite01 h44
          replace F : frE sqE M _ := fe_tr F (fe_le f44 (fun q j h => Or.inl ⟨h.1, by rw [h.2]; decide, by rw [h.2]; decide⟩))
          have z44 := f44 860 c (by (try dsimp only); omega)
          obtain rfl : x44 = 0 := by omega
          refine at_zeqR dx_124_45 (by decide) (fun _ => ?_) (fun c => absurd c (by decide))
          refine at_aload dx_124_48 rfl ?_
          refine at_iload dx_124_49 rfl ?_
          refine at_callVV dx_124_50 rfl lc_856 rfl (m_edits2 rc (by omega) (MI_sq hM F) (ready_fe (hrd (by omega)) (by omega) (by omega) f44 (fun q j h => Or.inl ⟨h.1, by rw [h.2]; decide⟩))) ?_
          rintro M50 ⟨k1, k2⟩
          replace k2 := fr_tr (fe_fr F (fun q j h => sq_hi h)) k2
          have k3 := k1.1 c (by omega) (by omega)
          refine at_aload dx_124_51 rfl ?_
          refine at_getR dx_124_52 lc_856 rfl lt_856_3 ?_
          refine at_iload dx_124_53 rfl ?_
          refine at_aldI dx_124_54 lc_860 ln_860 (by first | omega | (simp (disch := omega) only [um_eq, um_k, um_j]; omega)) (by first | omega | (simp (disch := omega) only [um_eq, um_k, um_j]; omega)) (fun r54 => ?_)
          refine at_iretI dx_124_55 r54 ?_
          first | exact ⟨k1, k2⟩ | exact ⟨MI_sq hM F, fe_fr F (fun q j h => sq_hi h)⟩

set_option maxRecDepth 100000 in
set_option maxHeartbeats 4000000 in
theorem r_erase {X : scr} {M : mem} {c f t : Int} (rc : inR c) (rf : inR f) (rt : inR t) (hM : MI M) : At X 0 125 0 [vr 856, vi c, vi f, vi t] [] M (qI (fun x M' => MI M' ∧ fr hi M M')) := by
  have F : frE sqE M M := fe_rf
  have hS := fun h1 h2 => hM.1 c h1 h2
  refine at_iload dx_125_0 rfl ?_
  refine at_callSI dx_125_1 rfl rfl (m_isClient rc) ?_
  rintro x1 M9 r1 ⟨e9, h1⟩; replace e9 := e9.symm; subst e9; replace h1 := ite01 h1
  refine at_zeqR dx_125_2 r1 (fun c2 => ?_) (fun c2 => ?_)
  · skip
    refine at_const (x := 0) dx_125_15 rfl ?_
    refine at_istore dx_125_16 ?_
    refine at_iload dx_125_17 rfl ?_
    refine at_zeqR dx_125_18 (by decide) (fun _ => ?_) (fun c => absurd c (by decide))
    refine at_aload dx_125_28 rfl ?_
    refine at_iload dx_125_29 rfl ?_
    refine at_zneR dx_125_30 (by decide) (fun c => absurd c (by decide)) (fun _ => ?_)
    refine at_const (x := 1) dx_125_31 rfl ?_
    refine at_goto dx_125_32 ?_
    refine at_callVI dx_125_45 rfl lc_856 rfl (m_fails2 (by decide)) ?_
    rintro x45 M45 r45 ⟨f45, h45⟩; replace h45 := ite01 h45
    replace F : frE sqE M _ := fe_tr F (fe_le f45 (fun q j h => Or.inl ⟨h.1, by rw [h.2]; decide, by rw [h.2]; decide⟩))
    have z45 := f45 860 c (by (try dsimp only); omega)
    obtain rfl : x45 = 1 := by omega
    refine at_zeqR dx_125_46 (by decide) (fun c => absurd c (by decide)) (fun _ => ?_)
    refine at_const (x := 0) dx_125_47 rfl ?_
    refine at_iretI dx_125_48 (by decide) ?_
    first | exact ⟨k1, k2⟩ | exact ⟨MI_sq hM F, fe_fr F (fun q j h => sq_hi h)⟩
  · skip
    refine at_aload dx_125_3 rfl ?_
    refine at_iload dx_125_4 rfl ?_
    refine at_iload dx_125_5 rfl ?_
    refine at_callVI dx_125_6 rfl lc_856 rfl (m_isPlace rc rf) ?_
    rintro x6 M9 r6 ⟨e9, h6⟩; replace e9 := e9.symm; subst e9; replace h6 := ite01 h6
    refine at_zeqR dx_125_7 r6 (fun c7 => ?_) (fun c7 => ?_)
    · skip
      refine at_const (x := 0) dx_125_15 rfl ?_
      refine at_istore dx_125_16 ?_
      refine at_iload dx_125_17 rfl ?_
      refine at_zeqR dx_125_18 (by decide) (fun _ => ?_) (fun c => absurd c (by decide))
      refine at_aload dx_125_28 rfl ?_
      refine at_iload dx_125_29 rfl ?_
      refine at_zneR dx_125_30 (by decide) (fun c => absurd c (by decide)) (fun _ => ?_)
      refine at_const (x := 1) dx_125_31 rfl ?_
      refine at_goto dx_125_32 ?_
      refine at_callVI dx_125_45 rfl lc_856 rfl (m_fails2 (by decide)) ?_
      rintro x45 M45 r45 ⟨f45, h45⟩; replace h45 := ite01 h45
      replace F : frE sqE M _ := fe_tr F (fe_le f45 (fun q j h => Or.inl ⟨h.1, by rw [h.2]; decide, by rw [h.2]; decide⟩))
      have z45 := f45 860 c (by (try dsimp only); omega)
      obtain rfl : x45 = 1 := by omega
      refine at_zeqR dx_125_46 (by decide) (fun c => absurd c (by decide)) (fun _ => ?_)
      refine at_const (x := 0) dx_125_47 rfl ?_
      refine at_iretI dx_125_48 (by decide) ?_
      first | exact ⟨k1, k2⟩ | exact ⟨MI_sq hM F, fe_fr F (fun q j h => sq_hi h)⟩
    · skip
      refine at_aload dx_125_8 rfl ?_
      refine at_iload dx_125_9 rfl ?_
      refine at_iload dx_125_10 rfl ?_
      refine at_callVI dx_125_11 rfl lc_856 rfl (m_isPlace rc rt) ?_
      rintro x11 M9 r11 ⟨e9, h11⟩; replace e9 := e9.symm; subst e9; replace h11 := ite01 h11
      refine at_zeqR dx_125_12 r11 (fun c12 => ?_) (fun c12 => ?_)
      · skip
        refine at_const (x := 0) dx_125_15 rfl ?_
        refine at_istore dx_125_16 ?_
        refine at_iload dx_125_17 rfl ?_
        refine at_zeqR dx_125_18 (by decide) (fun _ => ?_) (fun c => absurd c (by decide))
        refine at_aload dx_125_28 rfl ?_
        refine at_iload dx_125_29 rfl ?_
        refine at_zneR dx_125_30 (by decide) (fun c => absurd c (by decide)) (fun _ => ?_)
        refine at_const (x := 1) dx_125_31 rfl ?_
        refine at_goto dx_125_32 ?_
        refine at_callVI dx_125_45 rfl lc_856 rfl (m_fails2 (by decide)) ?_
        rintro x45 M45 r45 ⟨f45, h45⟩; replace h45 := ite01 h45
        replace F : frE sqE M _ := fe_tr F (fe_le f45 (fun q j h => Or.inl ⟨h.1, by rw [h.2]; decide, by rw [h.2]; decide⟩))
        have z45 := f45 860 c (by (try dsimp only); omega)
        obtain rfl : x45 = 1 := by omega
        refine at_zeqR dx_125_46 (by decide) (fun c => absurd c (by decide)) (fun _ => ?_)
        refine at_const (x := 0) dx_125_47 rfl ?_
        refine at_iretI dx_125_48 (by decide) ?_
        first | exact ⟨k1, k2⟩ | exact ⟨MI_sq hM F, fe_fr F (fun q j h => sq_hi h)⟩
      · skip
        refine at_const (x := 1) dx_125_13 rfl ?_
        refine at_goto dx_125_14 ?_
        refine at_istore dx_125_16 ?_
        refine at_iload dx_125_17 rfl ?_
        refine at_zeqR dx_125_18 (by decide) (fun c => absurd c (by decide)) (fun _ => ?_)
        refine at_iload dx_125_19 rfl ?_
        refine at_iload dx_125_20 rfl ?_
        refine at_cleR dx_125_21 rt rf (fun c21 => ?_) (fun c21 => ?_)
        · skip
          refine at_aload dx_125_28 rfl ?_
          refine at_iload dx_125_29 rfl ?_
          refine at_zneR dx_125_30 (by decide) (fun _ => ?_) (fun c => absurd c (by decide))
          refine at_iload dx_125_33 rfl ?_
          refine at_iload dx_125_34 rfl ?_
          refine at_cgtR dx_125_35 rt rf (fun c35 => ?_) (fun c35 => ?_)
          · skip
            refine at_aload dx_125_38 rfl ?_
            refine at_iload dx_125_39 rfl ?_
            refine at_callVI dx_125_40 rfl lc_856 rfl (m_canEdit2 rc (by omega) (MI_sq hM F) (okX100.mpr (by omega))) ?_
            rintro x40 M40 r40 ⟨f40, b40, w40⟩
            replace F : frE sqE M _ := fe_tr F (fe_le f40 (fun q j h => sq_C h))
            have z40 := f40 860 c (by (try dsimp only); omega)
            have hrd := w40
            refine at_zeqR dx_125_41 r40 (fun c41 => ?_) (fun c41 => ?_)
            · skip
              refine at_const (x := 3) dx_125_44 rfl ?_
              refine at_callVI dx_125_45 rfl lc_856 rfl (m_fails2 (by decide)) ?_
              rintro x45 M45 r45 ⟨f45, h45⟩; replace h45 := ite01 h45
              replace F : frE sqE M _ := fe_tr F (fe_le f45 (fun q j h => Or.inl ⟨h.1, by rw [h.2]; decide, by rw [h.2]; decide⟩))
              have z45 := f45 860 c (by (try dsimp only); omega)
              obtain rfl : x45 = 1 := by omega
              refine at_zeqR dx_125_46 (by decide) (fun c => absurd c (by decide)) (fun _ => ?_)
              refine at_const (x := 0) dx_125_47 rfl ?_
              refine at_iretI dx_125_48 (by decide) ?_
              first | exact ⟨k1, k2⟩ | exact ⟨MI_sq hM F, fe_fr F (fun q j h => sq_hi h)⟩
            · skip
              refine at_const (x := 0) dx_125_42 rfl ?_
              refine at_goto dx_125_43 ?_
              refine at_callVI dx_125_45 rfl lc_856 rfl (m_fails2 (by decide)) ?_
              rintro x45 M45 r45 ⟨f45, h45⟩; replace h45 := ite01 h45
              replace F : frE sqE M _ := fe_tr F (fe_le f45 (fun q j h => Or.inl ⟨h.1, by rw [h.2]; decide, by rw [h.2]; decide⟩))
              have z45 := f45 860 c (by (try dsimp only); omega)
              obtain rfl : x45 = 0 := by omega
              refine at_zeqR dx_125_46 (by decide) (fun _ => ?_) (fun c => absurd c (by decide))
              refine at_aload dx_125_49 rfl ?_
              refine at_iload dx_125_50 rfl ?_
              refine at_callVV dx_125_51 rfl lc_856 rfl (m_edits2 rc (by omega) (MI_sq hM F) (ready_fe (hrd (by omega)) (by omega) (by omega) f45 (fun q j h => Or.inl ⟨h.1, by rw [h.2]; decide⟩))) ?_
              rintro M51 ⟨k1, k2⟩
              replace k2 := fr_tr (fe_fr F (fun q j h => sq_hi h)) k2
              have k3 := k1.1 c (by omega) (by omega)
              refine at_aload dx_125_52 rfl ?_
              refine at_getR dx_125_53 lc_856 rfl lt_856_3 ?_
              refine at_iload dx_125_54 rfl ?_
              refine at_aldI dx_125_55 lc_860 ln_860 (by first | omega | (simp (disch := omega) only [um_eq, um_k, um_j]; omega)) (by first | omega | (simp (disch := omega) only [um_eq, um_k, um_j]; omega)) (fun r55 => ?_)
              refine at_iretI dx_125_56 r55 ?_
              first | exact ⟨k1, k2⟩ | exact ⟨MI_sq hM F, fe_fr F (fun q j h => sq_hi h)⟩
          · skip
            refine at_const (x := 2) dx_125_36 rfl ?_
            refine at_goto dx_125_37 ?_
            refine at_callVI dx_125_45 rfl lc_856 rfl (m_fails2 (by decide)) ?_
            rintro x45 M45 r45 ⟨f45, h45⟩; replace h45 := ite01 h45
            replace F : frE sqE M _ := fe_tr F (fe_le f45 (fun q j h => Or.inl ⟨h.1, by rw [h.2]; decide, by rw [h.2]; decide⟩))
            have z45 := f45 860 c (by (try dsimp only); omega)
            obtain rfl : x45 = 1 := by omega
            refine at_zeqR dx_125_46 (by decide) (fun c => absurd c (by decide)) (fun _ => ?_)
            refine at_const (x := 0) dx_125_47 rfl ?_
            refine at_iretI dx_125_48 (by decide) ?_
            first | exact ⟨k1, k2⟩ | exact ⟨MI_sq hM F, fe_fr F (fun q j h => sq_hi h)⟩
        · skip
          refine at_aload dx_125_22 rfl ?_
          refine at_iload dx_125_23 rfl ?_
          refine at_iload dx_125_24 rfl ?_
          refine at_iload dx_125_25 rfl ?_
          refine at_subR dx_125_26 (by constructor <;> omega) (fun r26 => ?_)
          refine at_callVV dx_125_27 rfl lc_856 rfl (m_tries rf r26) ?_
          rintro M27 ⟨f27, t27a, t27b, t27c, t27d, t27e⟩
          replace F : frE sqE M _ := fe_tr F (fe_le f27 (fun q j h => sq_T (by (try dsimp only [stE] at h); omega)))
          have z27 := f27 860 c (by (try dsimp only); omega)
          refine at_aload dx_125_28 rfl ?_
          refine at_iload dx_125_29 rfl ?_
          refine at_zneR dx_125_30 (by decide) (fun _ => ?_) (fun c => absurd c (by decide))
          refine at_iload dx_125_33 rfl ?_
          refine at_iload dx_125_34 rfl ?_
          refine at_cgtR dx_125_35 rt rf (fun c35 => ?_) (fun c35 => ?_)
          · skip
            refine at_aload dx_125_38 rfl ?_
            refine at_iload dx_125_39 rfl ?_
            refine at_callVI dx_125_40 rfl lc_856 rfl (m_canEdit2 rc (by omega) (MI_sq hM F) (okX100.mpr (by omega))) ?_
            rintro x40 M40 r40 ⟨f40, b40, w40⟩
            replace F : frE sqE M _ := fe_tr F (fe_le f40 (fun q j h => sq_C h))
            have z40 := f40 860 c (by (try dsimp only); omega)
            have hrd := w40
            refine at_zeqR dx_125_41 r40 (fun c41 => ?_) (fun c41 => ?_)
            · skip
              refine at_const (x := 3) dx_125_44 rfl ?_
              refine at_callVI dx_125_45 rfl lc_856 rfl (m_fails2 (by decide)) ?_
              rintro x45 M45 r45 ⟨f45, h45⟩; replace h45 := ite01 h45
              replace F : frE sqE M _ := fe_tr F (fe_le f45 (fun q j h => Or.inl ⟨h.1, by rw [h.2]; decide, by rw [h.2]; decide⟩))
              have z45 := f45 860 c (by (try dsimp only); omega)
              obtain rfl : x45 = 1 := by omega
              refine at_zeqR dx_125_46 (by decide) (fun c => absurd c (by decide)) (fun _ => ?_)
              refine at_const (x := 0) dx_125_47 rfl ?_
              refine at_iretI dx_125_48 (by decide) ?_
              first | exact ⟨k1, k2⟩ | exact ⟨MI_sq hM F, fe_fr F (fun q j h => sq_hi h)⟩
            · skip
              refine at_const (x := 0) dx_125_42 rfl ?_
              refine at_goto dx_125_43 ?_
              refine at_callVI dx_125_45 rfl lc_856 rfl (m_fails2 (by decide)) ?_
              rintro x45 M45 r45 ⟨f45, h45⟩; replace h45 := ite01 h45
              replace F : frE sqE M _ := fe_tr F (fe_le f45 (fun q j h => Or.inl ⟨h.1, by rw [h.2]; decide, by rw [h.2]; decide⟩))
              have z45 := f45 860 c (by (try dsimp only); omega)
              obtain rfl : x45 = 0 := by omega
              refine at_zeqR dx_125_46 (by decide) (fun _ => ?_) (fun c => absurd c (by decide))
              refine at_aload dx_125_49 rfl ?_
              refine at_iload dx_125_50 rfl ?_
              refine at_callVV dx_125_51 rfl lc_856 rfl (m_edits2 rc (by omega) (MI_sq hM F) (ready_fe (hrd (by omega)) (by omega) (by omega) f45 (fun q j h => Or.inl ⟨h.1, by rw [h.2]; decide⟩))) ?_
              rintro M51 ⟨k1, k2⟩
              replace k2 := fr_tr (fe_fr F (fun q j h => sq_hi h)) k2
              have k3 := k1.1 c (by omega) (by omega)
              refine at_aload dx_125_52 rfl ?_
              refine at_getR dx_125_53 lc_856 rfl lt_856_3 ?_
              refine at_iload dx_125_54 rfl ?_
              refine at_aldI dx_125_55 lc_860 ln_860 (by first | omega | (simp (disch := omega) only [um_eq, um_k, um_j]; omega)) (by first | omega | (simp (disch := omega) only [um_eq, um_k, um_j]; omega)) (fun r55 => ?_)
              refine at_iretI dx_125_56 r55 ?_
              first | exact ⟨k1, k2⟩ | exact ⟨MI_sq hM F, fe_fr F (fun q j h => sq_hi h)⟩
          · skip
            refine at_const (x := 2) dx_125_36 rfl ?_
            refine at_goto dx_125_37 ?_
            refine at_callVI dx_125_45 rfl lc_856 rfl (m_fails2 (by decide)) ?_
            rintro x45 M45 r45 ⟨f45, h45⟩; replace h45 := ite01 h45
            replace F : frE sqE M _ := fe_tr F (fe_le f45 (fun q j h => Or.inl ⟨h.1, by rw [h.2]; decide, by rw [h.2]; decide⟩))
            have z45 := f45 860 c (by (try dsimp only); omega)
            obtain rfl : x45 = 1 := by omega
            refine at_zeqR dx_125_46 (by decide) (fun c => absurd c (by decide)) (fun _ => ?_)
            refine at_const (x := 0) dx_125_47 rfl ?_
            refine at_iretI dx_125_48 (by decide) ?_
            first | exact ⟨k1, k2⟩ | exact ⟨MI_sq hM F, fe_fr F (fun q j h => sq_hi h)⟩

set_option maxRecDepth 100000 in
set_option maxHeartbeats 4000000 in
theorem r_setType {X : scr} {M : mem} {c p y : Int} (rc : inR c) (rp : inR p) (ry : inR y) (hM : MI M) : At X 0 134 0 [vr 856, vi c, vi p, vi y] [] M (qI (fun x M' => MI M' ∧ fr hi M M')) := by
  have F : frE sqE M M := fe_rf
  have hS := fun h1 h2 => hM.1 c h1 h2
  refine at_iload dx_134_0 rfl ?_
  refine at_callSI dx_134_1 rfl rfl (m_isClient rc) ?_
  rintro x1 M9 r1 ⟨e9, h1⟩; replace e9 := e9.symm; subst e9; replace h1 := ite01 h1
  refine at_zeqR dx_134_2 r1 (fun c2 => ?_) (fun c2 => ?_)
  · skip
    refine at_const (x := 0) dx_134_13 rfl ?_
    refine at_istore dx_134_14 ?_
    refine at_iload dx_134_15 rfl ?_
    refine at_zeqR dx_134_16 (by decide) (fun _ => ?_) (fun c => absurd c (by decide))
    refine at_const (x := 0) dx_134_30 rfl ?_
    refine at_istore dx_134_31 ?_
    refine at_iload dx_134_32 rfl ?_
    refine at_zeqR dx_134_33 (by decide) (fun _ => ?_) (fun c => absurd c (by decide))
    refine at_const (x := 0) dx_134_39 rfl ?_
    refine at_istore dx_134_40 ?_
    refine at_iload dx_134_41 rfl ?_
    refine at_zeqR dx_134_42 (by decide) (fun _ => ?_) (fun c => absurd c (by decide))
    refine at_aload dx_134_52 rfl ?_
    refine at_iload dx_134_53 rfl ?_
    refine at_zneR dx_134_54 (by decide) (fun c => absurd c (by decide)) (fun _ => ?_)
    refine at_const (x := 1) dx_134_55 rfl ?_
    refine at_goto dx_134_56 ?_
    refine at_callVI dx_134_66 rfl lc_856 rfl (m_fails2 (by decide)) ?_
    rintro x66 M66 r66 ⟨f66, h66⟩; replace h66 := ite01 h66
    replace F : frE sqE M _ := fe_tr F (fe_le f66 (fun q j h => Or.inl ⟨h.1, by rw [h.2]; decide, by rw [h.2]; decide⟩))
    have z66 := f66 860 c (by (try dsimp only); omega)
    obtain rfl : x66 = 1 := by omega
    refine at_zeqR dx_134_67 (by decide) (fun c => absurd c (by decide)) (fun _ => ?_)
    refine at_const (x := 0) dx_134_68 rfl ?_
    refine at_iretI dx_134_69 (by decide) ?_
    first | exact ⟨k1, k2⟩ | exact ⟨MI_sq hM F, fe_fr F (fun q j h => sq_hi h)⟩
  · skip
    refine at_aload dx_134_3 rfl ?_
    refine at_iload dx_134_4 rfl ?_
    refine at_iload dx_134_5 rfl ?_
    refine at_callVI dx_134_6 rfl lc_856 rfl (m_isPlace rc rp) ?_
    rintro x6 M9 r6 ⟨e9, h6⟩; replace e9 := e9.symm; subst e9; replace h6 := ite01 h6
    refine at_zeqR dx_134_7 r6 (fun c7 => ?_) (fun c7 => ?_)
    · skip
      refine at_const (x := 0) dx_134_13 rfl ?_
      refine at_istore dx_134_14 ?_
      refine at_iload dx_134_15 rfl ?_
      refine at_zeqR dx_134_16 (by decide) (fun _ => ?_) (fun c => absurd c (by decide))
      refine at_const (x := 0) dx_134_30 rfl ?_
      refine at_istore dx_134_31 ?_
      refine at_iload dx_134_32 rfl ?_
      refine at_zeqR dx_134_33 (by decide) (fun _ => ?_) (fun c => absurd c (by decide))
      refine at_const (x := 0) dx_134_39 rfl ?_
      refine at_istore dx_134_40 ?_
      refine at_iload dx_134_41 rfl ?_
      refine at_zeqR dx_134_42 (by decide) (fun _ => ?_) (fun c => absurd c (by decide))
      refine at_aload dx_134_52 rfl ?_
      refine at_iload dx_134_53 rfl ?_
      refine at_zneR dx_134_54 (by decide) (fun c => absurd c (by decide)) (fun _ => ?_)
      refine at_const (x := 1) dx_134_55 rfl ?_
      refine at_goto dx_134_56 ?_
      refine at_callVI dx_134_66 rfl lc_856 rfl (m_fails2 (by decide)) ?_
      rintro x66 M66 r66 ⟨f66, h66⟩; replace h66 := ite01 h66
      replace F : frE sqE M _ := fe_tr F (fe_le f66 (fun q j h => Or.inl ⟨h.1, by rw [h.2]; decide, by rw [h.2]; decide⟩))
      have z66 := f66 860 c (by (try dsimp only); omega)
      obtain rfl : x66 = 1 := by omega
      refine at_zeqR dx_134_67 (by decide) (fun c => absurd c (by decide)) (fun _ => ?_)
      refine at_const (x := 0) dx_134_68 rfl ?_
      refine at_iretI dx_134_69 (by decide) ?_
      first | exact ⟨k1, k2⟩ | exact ⟨MI_sq hM F, fe_fr F (fun q j h => sq_hi h)⟩
    · skip
      refine at_iload dx_134_8 rfl ?_
      refine at_callSI dx_134_9 rfl rfl (m_opens ry) ?_
      rintro x9 M9 r9 ⟨e9, h9⟩; replace e9 := e9.symm; subst e9; replace h9 := ite01 h9
      refine at_zeqR dx_134_10 r9 (fun c10 => ?_) (fun c10 => ?_)
      · skip
        refine at_const (x := 0) dx_134_13 rfl ?_
        refine at_istore dx_134_14 ?_
        refine at_iload dx_134_15 rfl ?_
        refine at_zeqR dx_134_16 (by decide) (fun _ => ?_) (fun c => absurd c (by decide))
        refine at_const (x := 0) dx_134_30 rfl ?_
        refine at_istore dx_134_31 ?_
        refine at_iload dx_134_32 rfl ?_
        refine at_zeqR dx_134_33 (by decide) (fun _ => ?_) (fun c => absurd c (by decide))
        refine at_const (x := 0) dx_134_39 rfl ?_
        refine at_istore dx_134_40 ?_
        refine at_iload dx_134_41 rfl ?_
        refine at_zeqR dx_134_42 (by decide) (fun _ => ?_) (fun c => absurd c (by decide))
        refine at_aload dx_134_52 rfl ?_
        refine at_iload dx_134_53 rfl ?_
        refine at_zneR dx_134_54 (by decide) (fun c => absurd c (by decide)) (fun _ => ?_)
        refine at_const (x := 1) dx_134_55 rfl ?_
        refine at_goto dx_134_56 ?_
        refine at_callVI dx_134_66 rfl lc_856 rfl (m_fails2 (by decide)) ?_
        rintro x66 M66 r66 ⟨f66, h66⟩; replace h66 := ite01 h66
        replace F : frE sqE M _ := fe_tr F (fe_le f66 (fun q j h => Or.inl ⟨h.1, by rw [h.2]; decide, by rw [h.2]; decide⟩))
        have z66 := f66 860 c (by (try dsimp only); omega)
        obtain rfl : x66 = 1 := by omega
        refine at_zeqR dx_134_67 (by decide) (fun c => absurd c (by decide)) (fun _ => ?_)
        refine at_const (x := 0) dx_134_68 rfl ?_
        refine at_iretI dx_134_69 (by decide) ?_
        first | exact ⟨k1, k2⟩ | exact ⟨MI_sq hM F, fe_fr F (fun q j h => sq_hi h)⟩
      · skip
        refine at_const (x := 1) dx_134_11 rfl ?_
        refine at_goto dx_134_12 ?_
        refine at_istore dx_134_14 ?_
        refine at_iload dx_134_15 rfl ?_
        refine at_zeqR dx_134_16 (by decide) (fun c => absurd c (by decide)) (fun _ => ?_)
        refine at_aload dx_134_17 rfl ?_
        refine at_iload dx_134_18 rfl ?_
        refine at_iload dx_134_19 rfl ?_
        refine at_callVI dx_134_20 rfl lc_856 rfl (m_opensAt rc rp (by omega) (by omega) (by have := hM.1 c (by omega) (by omega); omega)) ?_
        rintro x20 M9 r20 ⟨e9, h20⟩; replace e9 := e9.symm; subst e9; replace h20 := ite01 h20
        refine at_zeqR dx_134_21 r20 (fun c21 => ?_) (fun c21 => ?_)
        · skip
          refine at_const (x := 0) dx_134_30 rfl ?_
          refine at_istore dx_134_31 ?_
          refine at_iload dx_134_32 rfl ?_
          refine at_zeqR dx_134_33 (by decide) (fun _ => ?_) (fun c => absurd c (by decide))
          refine at_const (x := 0) dx_134_39 rfl ?_
          refine at_istore dx_134_40 ?_
          refine at_iload dx_134_41 rfl ?_
          refine at_zeqR dx_134_42 (by decide) (fun _ => ?_) (fun c => absurd c (by decide))
          refine at_aload dx_134_52 rfl ?_
          refine at_iload dx_134_53 rfl ?_
          refine at_zneR dx_134_54 (by decide) (fun _ => ?_) (fun c => absurd c (by decide))
          refine at_iload dx_134_57 rfl ?_
          refine at_zeqR dx_134_58 (by decide) (fun _ => ?_) (fun c => absurd c (by decide))
          refine at_const (x := 2) dx_134_65 rfl ?_
          refine at_callVI dx_134_66 rfl lc_856 rfl (m_fails2 (by decide)) ?_
          rintro x66 M66 r66 ⟨f66, h66⟩; replace h66 := ite01 h66
          replace F : frE sqE M _ := fe_tr F (fe_le f66 (fun q j h => Or.inl ⟨h.1, by rw [h.2]; decide, by rw [h.2]; decide⟩))
          have z66 := f66 860 c (by (try dsimp only); omega)
          obtain rfl : x66 = 1 := by omega
          refine at_zeqR dx_134_67 (by decide) (fun c => absurd c (by decide)) (fun _ => ?_)
          refine at_const (x := 0) dx_134_68 rfl ?_
          refine at_iretI dx_134_69 (by decide) ?_
          first | exact ⟨k1, k2⟩ | exact ⟨MI_sq hM F, fe_fr F (fun q j h => sq_hi h)⟩
        · skip
          refine at_aload dx_134_22 rfl ?_
          refine at_iload dx_134_23 rfl ?_
          refine at_iload dx_134_24 rfl ?_
          refine at_callVI dx_134_25 rfl lc_856 rfl (m_tokenOf rc rp (by omega) (by have := hM.1 c (by omega) (by omega); omega)) ?_
          rintro x25 M9 r25 ⟨e9, h25⟩; replace e9 := e9.symm; subst e9
          refine at_iload dx_134_26 rfl ?_
          refine at_ceqR dx_134_27 r25 ry (fun c27 => ?_) (fun c27 => ?_)
          · skip
            refine at_const (x := 0) dx_134_30 rfl ?_
            refine at_istore dx_134_31 ?_
            refine at_iload dx_134_32 rfl ?_
            refine at_zeqR dx_134_33 (by decide) (fun _ => ?_) (fun c => absurd c (by decide))
            refine at_const (x := 0) dx_134_39 rfl ?_
            refine at_istore dx_134_40 ?_
            refine at_iload dx_134_41 rfl ?_
            refine at_zeqR dx_134_42 (by decide) (fun _ => ?_) (fun c => absurd c (by decide))
            refine at_aload dx_134_52 rfl ?_
            refine at_iload dx_134_53 rfl ?_
            refine at_zneR dx_134_54 (by decide) (fun _ => ?_) (fun c => absurd c (by decide))
            refine at_iload dx_134_57 rfl ?_
            refine at_zeqR dx_134_58 (by decide) (fun _ => ?_) (fun c => absurd c (by decide))
            refine at_const (x := 2) dx_134_65 rfl ?_
            refine at_callVI dx_134_66 rfl lc_856 rfl (m_fails2 (by decide)) ?_
            rintro x66 M66 r66 ⟨f66, h66⟩; replace h66 := ite01 h66
            replace F : frE sqE M _ := fe_tr F (fe_le f66 (fun q j h => Or.inl ⟨h.1, by rw [h.2]; decide, by rw [h.2]; decide⟩))
            have z66 := f66 860 c (by (try dsimp only); omega)
            obtain rfl : x66 = 1 := by omega
            refine at_zeqR dx_134_67 (by decide) (fun c => absurd c (by decide)) (fun _ => ?_)
            refine at_const (x := 0) dx_134_68 rfl ?_
            refine at_iretI dx_134_69 (by decide) ?_
            first | exact ⟨k1, k2⟩ | exact ⟨MI_sq hM F, fe_fr F (fun q j h => sq_hi h)⟩
          · skip
            refine at_const (x := 1) dx_134_28 rfl ?_
            refine at_goto dx_134_29 ?_
            refine at_istore dx_134_31 ?_
            refine at_iload dx_134_32 rfl ?_
            refine at_zeqR dx_134_33 (by decide) (fun c => absurd c (by decide)) (fun _ => ?_)
            refine at_aload dx_134_34 rfl ?_
            refine at_iload dx_134_35 rfl ?_
            refine at_iload dx_134_36 rfl ?_
            refine at_callVI dx_134_37 rfl lc_856 rfl (m_tokenOf rc rp (by omega) (by have := hM.1 c (by omega) (by omega); omega)) ?_
            rintro x37 M9 r37 ⟨e9, h37⟩; replace e9 := e9.symm; subst e9
            refine at_goto dx_134_38 ?_
            refine at_istore dx_134_40 ?_
            refine at_iload dx_134_41 rfl ?_
            refine at_zeqR dx_134_42 (by decide) (fun c => absurd c (by decide)) (fun _ => ?_)
            refine at_aload dx_134_43 rfl ?_
            refine at_iload dx_134_44 rfl ?_
            refine at_const (x := 1) dx_134_45 rfl ?_
            refine at_callVV dx_134_46 rfl lc_856 rfl (m_tries rp (by decide)) ?_
            rintro M46 ⟨f46, t46a, t46b, t46c, t46d, t46e⟩
            replace F : frE sqE M _ := fe_tr F (fe_le f46 (fun q j h => sq_T (by (try dsimp only [stE] at h); omega)))
            have z46 := f46 860 c (by (try dsimp only); omega)
            refine at_aload dx_134_47 rfl ?_
            refine at_const (x := 100) dx_134_48 rfl ?_
            refine at_const (x := 0) dx_134_49 rfl ?_
            refine at_iload dx_134_50 rfl ?_
            refine at_callVV dx_134_51 rfl lc_856 rfl (m_adds0 ry (by omega)) ?_
            rintro M51 ⟨f51, q51, a51, b51⟩
            replace F : frE sqE M _ := fe_tr F (fe_le f51 (fun q j h => sq_T (by (try dsimp only [stE] at h); omega)))
            have z51 := f51 860 c (by (try dsimp only); omega)
            refine at_aload dx_134_52 rfl ?_
            refine at_iload dx_134_53 rfl ?_
            refine at_zneR dx_134_54 (by decide) (fun _ => ?_) (fun c => absurd c (by decide))
            refine at_iload dx_134_57 rfl ?_
            refine at_zeqR dx_134_58 (by decide) (fun c => absurd c (by decide)) (fun _ => ?_)
            refine at_aload dx_134_59 rfl ?_
            refine at_iload dx_134_60 rfl ?_
            refine at_callVI dx_134_61 rfl lc_856 rfl (m_canEdit2 rc (by omega) (MI_sq hM F) (okX100.mpr (by omega))) ?_
            rintro x61 M61 r61 ⟨f61, b61, w61⟩
            replace F : frE sqE M _ := fe_tr F (fe_le f61 (fun q j h => sq_C h))
            have z61 := f61 860 c (by (try dsimp only); omega)
            have hrd := w61
            refine at_zeqR dx_134_62 r61 (fun c62 => ?_) (fun c62 => ?_)
            · skip
              refine at_const (x := 2) dx_134_65 rfl ?_
              refine at_callVI dx_134_66 rfl lc_856 rfl (m_fails2 (by decide)) ?_
              rintro x66 M66 r66 ⟨f66, h66⟩; replace h66 := ite01 h66
              replace F : frE sqE M _ := fe_tr F (fe_le f66 (fun q j h => Or.inl ⟨h.1, by rw [h.2]; decide, by rw [h.2]; decide⟩))
              have z66 := f66 860 c (by (try dsimp only); omega)
              obtain rfl : x66 = 1 := by omega
              refine at_zeqR dx_134_67 (by decide) (fun c => absurd c (by decide)) (fun _ => ?_)
              refine at_const (x := 0) dx_134_68 rfl ?_
              refine at_iretI dx_134_69 (by decide) ?_
              first | exact ⟨k1, k2⟩ | exact ⟨MI_sq hM F, fe_fr F (fun q j h => sq_hi h)⟩
            · skip
              refine at_const (x := 0) dx_134_63 rfl ?_
              refine at_goto dx_134_64 ?_
              refine at_callVI dx_134_66 rfl lc_856 rfl (m_fails2 (by decide)) ?_
              rintro x66 M66 r66 ⟨f66, h66⟩; replace h66 := ite01 h66
              replace F : frE sqE M _ := fe_tr F (fe_le f66 (fun q j h => Or.inl ⟨h.1, by rw [h.2]; decide, by rw [h.2]; decide⟩))
              have z66 := f66 860 c (by (try dsimp only); omega)
              obtain rfl : x66 = 0 := by omega
              refine at_zeqR dx_134_67 (by decide) (fun _ => ?_) (fun c => absurd c (by decide))
              refine at_aload dx_134_70 rfl ?_
              refine at_iload dx_134_71 rfl ?_
              refine at_callVV dx_134_72 rfl lc_856 rfl (m_edits2 rc (by omega) (MI_sq hM F) (ready_fe (hrd (by omega)) (by omega) (by omega) f66 (fun q j h => Or.inl ⟨h.1, by rw [h.2]; decide⟩))) ?_
              rintro M72 ⟨k1, k2⟩
              replace k2 := fr_tr (fe_fr F (fun q j h => sq_hi h)) k2
              have k3 := k1.1 c (by omega) (by omega)
              refine at_iload dx_134_73 rfl ?_
              refine at_iretI dx_134_74 r37 ?_
              first | exact ⟨k1, k2⟩ | exact ⟨MI_sq hM F, fe_fr F (fun q j h => sq_hi h)⟩
