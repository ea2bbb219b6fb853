/-! ===== the reference: its calls ===== -/
set_option maxRecDepth 100000 in
set_option maxHeartbeats 4000000 in
theorem r_type {X : scr} {M : mem} {c p l : Int} (rc : inR c) (rp : inR p) (rl : inR l) (hM : MI M) : At X 0 125 0 [vr 856, vi c, vi p, vi l] [] M (qI (fun x M' => MI M' ∧ fr hi M M')) := by
  have F : frE sqE M M := fe_rf
  have hS := fun h1 h2 => hM.1 c h1 h2
  refine at_iload dx_125_0 rfl ?_
  refine at_callSI dx_125_1 rfl rfl (m_isClient rc) ?_
  rintro x1 M9 r1 ⟨e9, h1⟩; replace e9 := e9.symm; subst e9; replace h1 := ite01 h1
  refine at_zeqR dx_125_2 r1 (fun c2 => ?_) (fun c2 => ?_)
  · skip
    refine at_const (x := 0) dx_125_15 rfl ?_
    refine at_istore dx_125_16 ?_
    refine at_iload dx_125_17 rfl ?_
    refine at_zeqR dx_125_18 (by decide) (fun _ => ?_) (fun c => absurd c (by decide))
    refine at_aload dx_125_32 rfl ?_
    refine at_iload dx_125_33 rfl ?_
    refine at_zneR dx_125_34 (by decide) (fun c => absurd c (by decide)) (fun _ => ?_)
    refine at_const (x := 1) dx_125_35 rfl ?_
    refine at_goto dx_125_36 ?_
    refine at_callVI dx_125_44 rfl lc_856 rfl (m_fails2 (by decide)) ?_
    rintro x44 M44 r44 ⟨f44, h44⟩; replace h44 := ite01 h44
    replace F : frE sqE M _ := fe_tr F (fe_le f44 (fun q j h => Or.inl ⟨h.1, by rw [h.2]; decide, by rw [h.2]; decide⟩))
    have z44 := f44 860 c (by (try dsimp only); omega)
    obtain rfl : x44 = 1 := by omega
    refine at_zeqR dx_125_45 (by decide) (fun c => absurd c (by decide)) (fun _ => ?_)
    refine at_const (x := 0) dx_125_46 rfl ?_
    refine at_iretI dx_125_47 (by decide) ?_
    first | exact ⟨k1, k2⟩ | exact ⟨MI_sq hM F, fe_fr F (fun q j h => sq_hi h)⟩
  · skip
    refine at_aload dx_125_3 rfl ?_
    refine at_iload dx_125_4 rfl ?_
    refine at_iload dx_125_5 rfl ?_
    refine at_callVI dx_125_6 rfl lc_856 rfl (m_isPlace rc rp) ?_
    rintro x6 M9 r6 ⟨e9, h6⟩; replace e9 := e9.symm; subst e9; replace h6 := ite01 h6
    refine at_zeqR dx_125_7 r6 (fun c7 => ?_) (fun c7 => ?_)
    · skip
      refine at_const (x := 0) dx_125_15 rfl ?_
      refine at_istore dx_125_16 ?_
      refine at_iload dx_125_17 rfl ?_
      refine at_zeqR dx_125_18 (by decide) (fun _ => ?_) (fun c => absurd c (by decide))
      refine at_aload dx_125_32 rfl ?_
      refine at_iload dx_125_33 rfl ?_
      refine at_zneR dx_125_34 (by decide) (fun c => absurd c (by decide)) (fun _ => ?_)
      refine at_const (x := 1) dx_125_35 rfl ?_
      refine at_goto dx_125_36 ?_
      refine at_callVI dx_125_44 rfl lc_856 rfl (m_fails2 (by decide)) ?_
      rintro x44 M44 r44 ⟨f44, h44⟩; replace h44 := ite01 h44
      replace F : frE sqE M _ := fe_tr F (fe_le f44 (fun q j h => Or.inl ⟨h.1, by rw [h.2]; decide, by rw [h.2]; decide⟩))
      have z44 := f44 860 c (by (try dsimp only); omega)
      obtain rfl : x44 = 1 := by omega
      refine at_zeqR dx_125_45 (by decide) (fun c => absurd c (by decide)) (fun _ => ?_)
      refine at_const (x := 0) dx_125_46 rfl ?_
      refine at_iretI dx_125_47 (by decide) ?_
      first | exact ⟨k1, k2⟩ | exact ⟨MI_sq hM F, fe_fr F (fun q j h => sq_hi h)⟩
    · skip
      refine at_iload dx_125_8 rfl ?_
      refine at_const (x := 0) dx_125_9 rfl ?_
      refine at_const (x := 25) dx_125_10 rfl ?_
      refine at_callSI dx_125_11 rfl rfl (m_isIn rl (by decide) (by decide)) ?_
      rintro x11 M9 r11 ⟨e9, h11⟩; replace e9 := e9.symm; subst e9; replace h11 := ite01 h11
      refine at_zeqR dx_125_12 r11 (fun c12 => ?_) (fun c12 => ?_)
      · skip
        refine at_const (x := 0) dx_125_15 rfl ?_
        refine at_istore dx_125_16 ?_
        refine at_iload dx_125_17 rfl ?_
        refine at_zeqR dx_125_18 (by decide) (fun _ => ?_) (fun c => absurd c (by decide))
        refine at_aload dx_125_32 rfl ?_
        refine at_iload dx_125_33 rfl ?_
        refine at_zneR dx_125_34 (by decide) (fun c => absurd c (by decide)) (fun _ => ?_)
        refine at_const (x := 1) dx_125_35 rfl ?_
        refine at_goto dx_125_36 ?_
        refine at_callVI dx_125_44 rfl lc_856 rfl (m_fails2 (by decide)) ?_
        rintro x44 M44 r44 ⟨f44, h44⟩; replace h44 := ite01 h44
        replace F : frE sqE M _ := fe_tr F (fe_le f44 (fun q j h => Or.inl ⟨h.1, by rw [h.2]; decide, by rw [h.2]; decide⟩))
        have z44 := f44 860 c (by (try dsimp only); omega)
        obtain rfl : x44 = 1 := by omega
        refine at_zeqR dx_125_45 (by decide) (fun c => absurd c (by decide)) (fun _ => ?_)
        refine at_const (x := 0) dx_125_46 rfl ?_
        refine at_iretI dx_125_47 (by decide) ?_
        first | exact ⟨k1, k2⟩ | exact ⟨MI_sq hM F, fe_fr F (fun q j h => sq_hi h)⟩
      · skip
        refine at_const (x := 1) dx_125_13 rfl ?_
        refine at_goto dx_125_14 ?_
        refine at_istore dx_125_16 ?_
        refine at_iload dx_125_17 rfl ?_
        refine at_zeqR dx_125_18 (by decide) (fun c => absurd c (by decide)) (fun _ => ?_)
        refine at_aload dx_125_19 rfl ?_
        refine at_iload dx_125_20 rfl ?_
        refine at_const (x := 0) dx_125_21 rfl ?_
        refine at_callVV dx_125_22 rfl lc_856 rfl (m_tries rp (by decide)) ?_
        rintro M22 ⟨f22, t22a, t22b, t22c, t22d, t22e⟩
        replace F : frE sqE M _ := fe_tr F (fe_le f22 (fun q j h => sq_T (by (try dsimp only [stE] at h); omega)))
        have z22 := f22 860 c (by (try dsimp only); omega)
        refine at_aload dx_125_23 rfl ?_
        refine at_const (x := 100) dx_125_24 rfl ?_
        refine at_const (x := 0) dx_125_25 rfl ?_
        refine at_const (x := 100) dx_125_26 rfl ?_
        refine at_const (x := 4) dx_125_27 rfl ?_
        refine at_iload dx_125_28 rfl ?_
        refine at_mulR dx_125_29 (by constructor <;> omega) (fun r29 => ?_)
        refine at_addR dx_125_30 (by constructor <;> omega) (fun r30 => ?_)
        refine at_callVV dx_125_31 rfl lc_856 rfl (m_adds0 r30 (by omega)) ?_
        rintro M31 ⟨f31, q31, a31, b31⟩
        replace F : frE sqE M _ := fe_tr F (fe_le f31 (fun q j h => sq_T (by (try dsimp only [stE] at h); omega)))
        have z31 := f31 860 c (by (try dsimp only); omega)
        refine at_aload dx_125_32 rfl ?_
        refine at_iload dx_125_33 rfl ?_
        refine at_zneR dx_125_34 (by decide) (fun _ => ?_) (fun c => absurd c (by decide))
        refine at_aload dx_125_37 rfl ?_
        refine at_iload dx_125_38 rfl ?_
        refine at_callVI dx_125_39 rfl lc_856 rfl (m_canEdit2 rc (by omega) (MI_sq hM F) (okX100.mpr (by omega))) ?_
        rintro x39 M39 r39 ⟨f39, b39, w39⟩
        replace F : frE sqE M _ := fe_tr F (fe_le f39 (fun q j h => sq_C h))
        have z39 := f39 860 c (by (try dsimp only); omega)
        have hrd := w39
        refine at_zeqR dx_125_40 r39 (fun c40 => ?_) (fun c40 => ?_)
        · skip
          refine at_const (x := 2) dx_125_43 rfl ?_
          refine at_callVI dx_125_44 rfl lc_856 rfl (m_fails2 (by decide)) ?_
          rintro x44 M44 r44 ⟨f44, h44⟩; replace h44 := ite01 h44
          replace F : frE sqE M _ := fe_tr F (fe_le f44 (fun q j h => Or.inl ⟨h.1, by rw [h.2]; decide, by rw [h.2]; decide⟩))
          have z44 := f44 860 c (by (try dsimp only); omega)
          obtain rfl : x44 = 1 := by omega
          refine at_zeqR dx_125_45 (by decide) (fun c => absurd c (by decide)) (fun _ => ?_)
          refine at_const (x := 0) dx_125_46 rfl ?_
          refine at_iretI dx_125_47 (by decide) ?_
          first | exact ⟨k1, k2⟩ | exact ⟨MI_sq hM F, fe_fr F (fun q j h => sq_hi h)⟩
        · skip
          refine at_const (x := 0) dx_125_41 rfl ?_
          refine at_goto dx_125_42 ?_
          refine at_callVI dx_125_44 rfl lc_856 rfl (m_fails2 (by decide)) ?_
          rintro x44 M44 r44 ⟨f44, h44⟩; replace h44 := ite01 h44
          replace F : frE sqE M _ := fe_tr F (fe_le f44 (fun q j h => Or.inl ⟨h.1, by rw [h.2]; decide, by rw [h.2]; decide⟩))
          have z44 := f44 860 c (by (try dsimp only); omega)
          obtain rfl : x44 = 0 := by omega
          refine at_zeqR dx_125_45 (by decide) (fun _ => ?_) (fun c => absurd c (by decide))
          refine at_aload dx_125_48 rfl ?_
          refine at_iload dx_125_49 rfl ?_
          refine at_callVV dx_125_50 rfl lc_856 rfl (m_edits2 rc (by omega) (MI_sq hM F) (ready_fe (hrd (by omega)) (by omega) (by omega) f44 (fun q j h => Or.inl ⟨h.1, by rw [h.2]; decide⟩))) ?_
          rintro M50 ⟨k1, k2⟩
          replace k2 := fr_tr (fe_fr F (fun q j h => sq_hi h)) k2
          have k3 := k1.1 c (by omega) (by omega)
          refine at_aload dx_125_51 rfl ?_
          refine at_getR dx_125_52 lc_856 rfl lt_856_3 ?_
          refine at_iload dx_125_53 rfl ?_
          refine at_aldI dx_125_54 lc_860 ln_860 (by first | omega | (simp (disch := omega) only [um_eq, um_k, um_j]; omega)) (by first | omega | (simp (disch := omega) only [um_eq, um_k, um_j]; omega)) (fun r54 => ?_)
          refine at_iretI dx_125_55 r54 ?_
          first | exact ⟨k1, k2⟩ | exact ⟨MI_sq hM F, fe_fr F (fun q j h => sq_hi h)⟩

set_option maxRecDepth 100000 in
set_option maxHeartbeats 4000000 in
theorem r_erase {X : scr} {M : mem} {c f t : Int} (rc : inR c) (rf : inR f) (rt : inR t) (hM : MI M) : At X 0 126 0 [vr 856, vi c, vi f, vi t] [] M (qI (fun x M' => MI M' ∧ fr hi M M')) := by
  have F : frE sqE M M := fe_rf
  have hS := fun h1 h2 => hM.1 c h1 h2
  refine at_iload dx_126_0 rfl ?_
  refine at_callSI dx_126_1 rfl rfl (m_isClient rc) ?_
  rintro x1 M9 r1 ⟨e9, h1⟩; replace e9 := e9.symm; subst e9; replace h1 := ite01 h1
  refine at_zeqR dx_126_2 r1 (fun c2 => ?_) (fun c2 => ?_)
  · skip
    refine at_const (x := 0) dx_126_15 rfl ?_
    refine at_istore dx_126_16 ?_
    refine at_iload dx_126_17 rfl ?_
    refine at_zeqR dx_126_18 (by decide) (fun _ => ?_) (fun c => absurd c (by decide))
    refine at_aload dx_126_28 rfl ?_
    refine at_iload dx_126_29 rfl ?_
    refine at_zneR dx_126_30 (by decide) (fun c => absurd c (by decide)) (fun _ => ?_)
    refine at_const (x := 1) dx_126_31 rfl ?_
    refine at_goto dx_126_32 ?_
    refine at_callVI dx_126_45 rfl lc_856 rfl (m_fails2 (by decide)) ?_
    rintro x45 M45 r45 ⟨f45, h45⟩; replace h45 := ite01 h45
    replace F : frE sqE M _ := fe_tr F (fe_le f45 (fun q j h => Or.inl ⟨h.1, by rw [h.2]; decide, by rw [h.2]; decide⟩))
    have z45 := f45 860 c (by (try dsimp only); omega)
    obtain rfl : x45 = 1 := by omega
    refine at_zeqR dx_126_46 (by decide) (fun c => absurd c (by decide)) (fun _ => ?_)
    refine at_const (x := 0) dx_126_47 rfl ?_
    refine at_iretI dx_126_48 (by decide) ?_
    first | exact ⟨k1, k2⟩ | exact ⟨MI_sq hM F, fe_fr F (fun q j h => sq_hi h)⟩
  · skip
    refine at_aload dx_126_3 rfl ?_
    refine at_iload dx_126_4 rfl ?_
    refine at_iload dx_126_5 rfl ?_
    refine at_callVI dx_126_6 rfl lc_856 rfl (m_isPlace rc rf) ?_
    rintro x6 M9 r6 ⟨e9, h6⟩; replace e9 := e9.symm; subst e9; replace h6 := ite01 h6
    refine at_zeqR dx_126_7 r6 (fun c7 => ?_) (fun c7 => ?_)
    · skip
      refine at_const (x := 0) dx_126_15 rfl ?_
      refine at_istore dx_126_16 ?_
      refine at_iload dx_126_17 rfl ?_
      refine at_zeqR dx_126_18 (by decide) (fun _ => ?_) (fun c => absurd c (by decide))
      refine at_aload dx_126_28 rfl ?_
      refine at_iload dx_126_29 rfl ?_
      refine at_zneR dx_126_30 (by decide) (fun c => absurd c (by decide)) (fun _ => ?_)
      refine at_const (x := 1) dx_126_31 rfl ?_
      refine at_goto dx_126_32 ?_
      refine at_callVI dx_126_45 rfl lc_856 rfl (m_fails2 (by decide)) ?_
      rintro x45 M45 r45 ⟨f45, h45⟩; replace h45 := ite01 h45
      replace F : frE sqE M _ := fe_tr F (fe_le f45 (fun q j h => Or.inl ⟨h.1, by rw [h.2]; decide, by rw [h.2]; decide⟩))
      have z45 := f45 860 c (by (try dsimp only); omega)
      obtain rfl : x45 = 1 := by omega
      refine at_zeqR dx_126_46 (by decide) (fun c => absurd c (by decide)) (fun _ => ?_)
      refine at_const (x := 0) dx_126_47 rfl ?_
      refine at_iretI dx_126_48 (by decide) ?_
      first | exact ⟨k1, k2⟩ | exact ⟨MI_sq hM F, fe_fr F (fun q j h => sq_hi h)⟩
    · skip
      refine at_aload dx_126_8 rfl ?_
      refine at_iload dx_126_9 rfl ?_
      refine at_iload dx_126_10 rfl ?_
      refine at_callVI dx_126_11 rfl lc_856 rfl (m_isPlace rc rt) ?_
      rintro x11 M9 r11 ⟨e9, h11⟩; replace e9 := e9.symm; subst e9; replace h11 := ite01 h11
      refine at_zeqR dx_126_12 r11 (fun c12 => ?_) (fun c12 => ?_)
      · skip
        refine at_const (x := 0) dx_126_15 rfl ?_
        refine at_istore dx_126_16 ?_
        refine at_iload dx_126_17 rfl ?_
        refine at_zeqR dx_126_18 (by decide) (fun _ => ?_) (fun c => absurd c (by decide))
        refine at_aload dx_126_28 rfl ?_
        refine at_iload dx_126_29 rfl ?_
        refine at_zneR dx_126_30 (by decide) (fun c => absurd c (by decide)) (fun _ => ?_)
        refine at_const (x := 1) dx_126_31 rfl ?_
        refine at_goto dx_126_32 ?_
        refine at_callVI dx_126_45 rfl lc_856 rfl (m_fails2 (by decide)) ?_
        rintro x45 M45 r45 ⟨f45, h45⟩; replace h45 := ite01 h45
        replace F : frE sqE M _ := fe_tr F (fe_le f45 (fun q j h => Or.inl ⟨h.1, by rw [h.2]; decide, by rw [h.2]; decide⟩))
        have z45 := f45 860 c (by (try dsimp only); omega)
        obtain rfl : x45 = 1 := by omega
        refine at_zeqR dx_126_46 (by decide) (fun c => absurd c (by decide)) (fun _ => ?_)
        refine at_const (x := 0) dx_126_47 rfl ?_
        refine at_iretI dx_126_48 (by decide) ?_
        first | exact ⟨k1, k2⟩ | exact ⟨MI_sq hM F, fe_fr F (fun q j h => sq_hi h)⟩
      · skip
        refine at_const (x := 1) dx_126_13 rfl ?_
        refine at_goto dx_126_14 ?_
        refine at_istore dx_126_16 ?_
        refine at_iload dx_126_17 rfl ?_
        refine at_zeqR dx_126_18 (by decide) (fun c => absurd c (by decide)) (fun _ => ?_)
        refine at_iload dx_126_19 rfl ?_
        refine at_iload dx_126_20 rfl ?_
        refine at_cleR dx_126_21 rt rf (fun c21 => ?_) (fun c21 => ?_)
        · skip
          refine at_aload dx_126_28 rfl ?_
          refine at_iload dx_126_29 rfl ?_
          refine at_zneR dx_126_30 (by decide) (fun _ => ?_) (fun c => absurd c (by decide))
          refine at_iload dx_126_33 rfl ?_
          refine at_iload dx_126_34 rfl ?_
          refine at_cgtR dx_126_35 rt rf (fun c35 => ?_) (fun c35 => ?_)
          · skip
            refine at_aload dx_126_38 rfl ?_
            refine at_iload dx_126_39 rfl ?_
            refine at_callVI dx_126_40 rfl lc_856 rfl (m_canEdit2 rc (by omega) (MI_sq hM F) (okX100.mpr (by omega))) ?_
            rintro x40 M40 r40 ⟨f40, b40, w40⟩
            replace F : frE sqE M _ := fe_tr F (fe_le f40 (fun q j h => sq_C h))
            have z40 := f40 860 c (by (try dsimp only); omega)
            have hrd := w40
            refine at_zeqR dx_126_41 r40 (fun c41 => ?_) (fun c41 => ?_)
            · skip
              refine at_const (x := 3) dx_126_44 rfl ?_
              refine at_callVI dx_126_45 rfl lc_856 rfl (m_fails2 (by decide)) ?_
              rintro x45 M45 r45 ⟨f45, h45⟩; replace h45 := ite01 h45
              replace F : frE sqE M _ := fe_tr F (fe_le f45 (fun q j h => Or.inl ⟨h.1, by rw [h.2]; decide, by rw [h.2]; decide⟩))
              have z45 := f45 860 c (by (try dsimp only); omega)
              obtain rfl : x45 = 1 := by omega
              refine at_zeqR dx_126_46 (by decide) (fun c => absurd c (by decide)) (fun _ => ?_)
              refine at_const (x := 0) dx_126_47 rfl ?_
              refine at_iretI dx_126_48 (by decide) ?_
              first | exact ⟨k1, k2⟩ | exact ⟨MI_sq hM F, fe_fr F (fun q j h => sq_hi h)⟩
            · skip
              refine at_const (x := 0) dx_126_42 rfl ?_
              refine at_goto dx_126_43 ?_
              refine at_callVI dx_126_45 rfl lc_856 rfl (m_fails2 (by decide)) ?_
              rintro x45 M45 r45 ⟨f45, h45⟩; replace h45 := ite01 h45
              replace F : frE sqE M _ := fe_tr F (fe_le f45 (fun q j h => Or.inl ⟨h.1, by rw [h.2]; decide, by rw [h.2]; decide⟩))
              have z45 := f45 860 c (by (try dsimp only); omega)
              obtain rfl : x45 = 0 := by omega
              refine at_zeqR dx_126_46 (by decide) (fun _ => ?_) (fun c => absurd c (by decide))
              refine at_aload dx_126_49 rfl ?_
              refine at_iload dx_126_50 rfl ?_
              refine at_callVV dx_126_51 rfl lc_856 rfl (m_edits2 rc (by omega) (MI_sq hM F) (ready_fe (hrd (by omega)) (by omega) (by omega) f45 (fun q j h => Or.inl ⟨h.1, by rw [h.2]; decide⟩))) ?_
              rintro M51 ⟨k1, k2⟩
              replace k2 := fr_tr (fe_fr F (fun q j h => sq_hi h)) k2
              have k3 := k1.1 c (by omega) (by omega)
              refine at_aload dx_126_52 rfl ?_
              refine at_getR dx_126_53 lc_856 rfl lt_856_3 ?_
              refine at_iload dx_126_54 rfl ?_
              refine at_aldI dx_126_55 lc_860 ln_860 (by first | omega | (simp (disch := omega) only [um_eq, um_k, um_j]; omega)) (by first | omega | (simp (disch := omega) only [um_eq, um_k, um_j]; omega)) (fun r55 => ?_)
              refine at_iretI dx_126_56 r55 ?_
              first | exact ⟨k1, k2⟩ | exact ⟨MI_sq hM F, fe_fr F (fun q j h => sq_hi h)⟩
          · skip
            refine at_const (x := 2) dx_126_36 rfl ?_
            refine at_goto dx_126_37 ?_
            refine at_callVI dx_126_45 rfl lc_856 rfl (m_fails2 (by decide)) ?_
            rintro x45 M45 r45 ⟨f45, h45⟩; replace h45 := ite01 h45
            replace F : frE sqE M _ := fe_tr F (fe_le f45 (fun q j h => Or.inl ⟨h.1, by rw [h.2]; decide, by rw [h.2]; decide⟩))
            have z45 := f45 860 c (by (try dsimp only); omega)
            obtain rfl : x45 = 1 := by omega
            refine at_zeqR dx_126_46 (by decide) (fun c => absurd c (by decide)) (fun _ => ?_)
            refine at_const (x := 0) dx_126_47 rfl ?_
            refine at_iretI dx_126_48 (by decide) ?_
            first | exact ⟨k1, k2⟩ | exact ⟨MI_sq hM F, fe_fr F (fun q j h => sq_hi h)⟩
        · skip
          refine at_aload dx_126_22 rfl ?_
          refine at_iload dx_126_23 rfl ?_
          refine at_iload dx_126_24 rfl ?_
          refine at_iload dx_126_25 rfl ?_
          refine at_subR dx_126_26 (by constructor <;> omega) (fun r26 => ?_)
          refine at_callVV dx_126_27 rfl lc_856 rfl (m_tries rf r26) ?_
          rintro M27 ⟨f27, t27a, t27b, t27c, t27d, t27e⟩
          replace F : frE sqE M _ := fe_tr F (fe_le f27 (fun q j h => sq_T (by (try dsimp only [stE] at h); omega)))
          have z27 := f27 860 c (by (try dsimp only); omega)
          refine at_aload dx_126_28 rfl ?_
          refine at_iload dx_126_29 rfl ?_
          refine at_zneR dx_126_30 (by decide) (fun _ => ?_) (fun c => absurd c (by decide))
          refine at_iload dx_126_33 rfl ?_
          refine at_iload dx_126_34 rfl ?_
          refine at_cgtR dx_126_35 rt rf (fun c35 => ?_) (fun c35 => ?_)
          · skip
            refine at_aload dx_126_38 rfl ?_
            refine at_iload dx_126_39 rfl ?_
            refine at_callVI dx_126_40 rfl lc_856 rfl (m_canEdit2 rc (by omega) (MI_sq hM F) (okX100.mpr (by omega))) ?_
            rintro x40 M40 r40 ⟨f40, b40, w40⟩
            replace F : frE sqE M _ := fe_tr F (fe_le f40 (fun q j h => sq_C h))
            have z40 := f40 860 c (by (try dsimp only); omega)
            have hrd := w40
            refine at_zeqR dx_126_41 r40 (fun c41 => ?_) (fun c41 => ?_)
            · skip
              refine at_const (x := 3) dx_126_44 rfl ?_
              refine at_callVI dx_126_45 rfl lc_856 rfl (m_fails2 (by decide)) ?_
              rintro x45 M45 r45 ⟨f45, h45⟩; replace h45 := ite01 h45
              replace F : frE sqE M _ := fe_tr F (fe_le f45 (fun q j h => Or.inl ⟨h.1, by rw [h.2]; decide, by rw [h.2]; decide⟩))
              have z45 := f45 860 c (by (try dsimp only); omega)
              obtain rfl : x45 = 1 := by omega
              refine at_zeqR dx_126_46 (by decide) (fun c => absurd c (by decide)) (fun _ => ?_)
              refine at_const (x := 0) dx_126_47 rfl ?_
              refine at_iretI dx_126_48 (by decide) ?_
              first | exact ⟨k1, k2⟩ | exact ⟨MI_sq hM F, fe_fr F (fun q j h => sq_hi h)⟩
            · skip
              refine at_const (x := 0) dx_126_42 rfl ?_
              refine at_goto dx_126_43 ?_
              refine at_callVI dx_126_45 rfl lc_856 rfl (m_fails2 (by decide)) ?_
              rintro x45 M45 r45 ⟨f45, h45⟩; replace h45 := ite01 h45
              replace F : frE sqE M _ := fe_tr F (fe_le f45 (fun q j h => Or.inl ⟨h.1, by rw [h.2]; decide, by rw [h.2]; decide⟩))
              have z45 := f45 860 c (by (try dsimp only); omega)
              obtain rfl : x45 = 0 := by omega
              refine at_zeqR dx_126_46 (by decide) (fun _ => ?_) (fun c => absurd c (by decide))
              refine at_aload dx_126_49 rfl ?_
              refine at_iload dx_126_50 rfl ?_
              refine at_callVV dx_126_51 rfl lc_856 rfl (m_edits2 rc (by omega) (MI_sq hM F) (ready_fe (hrd (by omega)) (by omega) (by omega) f45 (fun q j h => Or.inl ⟨h.1, by rw [h.2]; decide⟩))) ?_
              rintro M51 ⟨k1, k2⟩
              replace k2 := fr_tr (fe_fr F (fun q j h => sq_hi h)) k2
              have k3 := k1.1 c (by omega) (by omega)
              refine at_aload dx_126_52 rfl ?_
              refine at_getR dx_126_53 lc_856 rfl lt_856_3 ?_
              refine at_iload dx_126_54 rfl ?_
              refine at_aldI dx_126_55 lc_860 ln_860 (by first | omega | (simp (disch := omega) only [um_eq, um_k, um_j]; omega)) (by first | omega | (simp (disch := omega) only [um_eq, um_k, um_j]; omega)) (fun r55 => ?_)
              refine at_iretI dx_126_56 r55 ?_
              first | exact ⟨k1, k2⟩ | exact ⟨MI_sq hM F, fe_fr F (fun q j h => sq_hi h)⟩
          · skip
            refine at_const (x := 2) dx_126_36 rfl ?_
            refine at_goto dx_126_37 ?_
            refine at_callVI dx_126_45 rfl lc_856 rfl (m_fails2 (by decide)) ?_
            rintro x45 M45 r45 ⟨f45, h45⟩; replace h45 := ite01 h45
            replace F : frE sqE M _ := fe_tr F (fe_le f45 (fun q j h => Or.inl ⟨h.1, by rw [h.2]; decide, by rw [h.2]; decide⟩))
            have z45 := f45 860 c (by (try dsimp only); omega)
            obtain rfl : x45 = 1 := by omega
            refine at_zeqR dx_126_46 (by decide) (fun c => absurd c (by decide)) (fun _ => ?_)
            refine at_const (x := 0) dx_126_47 rfl ?_
            refine at_iretI dx_126_48 (by decide) ?_
            first | exact ⟨k1, k2⟩ | exact ⟨MI_sq hM F, fe_fr F (fun q j h => sq_hi h)⟩

set_option maxRecDepth 100000 in
set_option maxHeartbeats 4000000 in
theorem r_setType {X : scr} {M : mem} {c p y : Int} (rc : inR c) (rp : inR p) (ry : inR y) (hM : MI M) : At X 0 135 0 [vr 856, vi c, vi p, vi y] [] M (qI (fun x M' => MI M' ∧ fr hi M M')) := by
  have F : frE sqE M M := fe_rf
  have hS := fun h1 h2 => hM.1 c h1 h2
  refine at_iload dx_135_0 rfl ?_
  refine at_callSI dx_135_1 rfl rfl (m_isClient rc) ?_
  rintro x1 M9 r1 ⟨e9, h1⟩; replace e9 := e9.symm; subst e9; replace h1 := ite01 h1
  refine at_zeqR dx_135_2 r1 (fun c2 => ?_) (fun c2 => ?_)
  · skip
    refine at_const (x := 0) dx_135_13 rfl ?_
    refine at_istore dx_135_14 ?_
    refine at_iload dx_135_15 rfl ?_
    refine at_zeqR dx_135_16 (by decide) (fun _ => ?_) (fun c => absurd c (by decide))
    refine at_const (x := 0) dx_135_30 rfl ?_
    refine at_istore dx_135_31 ?_
    refine at_iload dx_135_32 rfl ?_
    refine at_zeqR dx_135_33 (by decide) (fun _ => ?_) (fun c => absurd c (by decide))
    refine at_const (x := 0) dx_135_39 rfl ?_
    refine at_istore dx_135_40 ?_
    refine at_iload dx_135_41 rfl ?_
    refine at_zeqR dx_135_42 (by decide) (fun _ => ?_) (fun c => absurd c (by decide))
    refine at_aload dx_135_52 rfl ?_
    refine at_iload dx_135_53 rfl ?_
    refine at_zneR dx_135_54 (by decide) (fun c => absurd c (by decide)) (fun _ => ?_)
    refine at_const (x := 1) dx_135_55 rfl ?_
    refine at_goto dx_135_56 ?_
    refine at_callVI dx_135_66 rfl lc_856 rfl (m_fails2 (by decide)) ?_
    rintro x66 M66 r66 ⟨f66, h66⟩; replace h66 := ite01 h66
    replace F : frE sqE M _ := fe_tr F (fe_le f66 (fun q j h => Or.inl ⟨h.1, by rw [h.2]; decide, by rw [h.2]; decide⟩))
    have z66 := f66 860 c (by (try dsimp only); omega)
    obtain rfl : x66 = 1 := by omega
    refine at_zeqR dx_135_67 (by decide) (fun c => absurd c (by decide)) (fun _ => ?_)
    refine at_const (x := 0) dx_135_68 rfl ?_
    refine at_iretI dx_135_69 (by decide) ?_
    first | exact ⟨k1, k2⟩ | exact ⟨MI_sq hM F, fe_fr F (fun q j h => sq_hi h)⟩
  · skip
    refine at_aload dx_135_3 rfl ?_
    refine at_iload dx_135_4 rfl ?_
    refine at_iload dx_135_5 rfl ?_
    refine at_callVI dx_135_6 rfl lc_856 rfl (m_isPlace rc rp) ?_
    rintro x6 M9 r6 ⟨e9, h6⟩; replace e9 := e9.symm; subst e9; replace h6 := ite01 h6
    refine at_zeqR dx_135_7 r6 (fun c7 => ?_) (fun c7 => ?_)
    · skip
      refine at_const (x := 0) dx_135_13 rfl ?_
      refine at_istore dx_135_14 ?_
      refine at_iload dx_135_15 rfl ?_
      refine at_zeqR dx_135_16 (by decide) (fun _ => ?_) (fun c => absurd c (by decide))
      refine at_const (x := 0) dx_135_30 rfl ?_
      refine at_istore dx_135_31 ?_
      refine at_iload dx_135_32 rfl ?_
      refine at_zeqR dx_135_33 (by decide) (fun _ => ?_) (fun c => absurd c (by decide))
      refine at_const (x := 0) dx_135_39 rfl ?_
      refine at_istore dx_135_40 ?_
      refine at_iload dx_135_41 rfl ?_
      refine at_zeqR dx_135_42 (by decide) (fun _ => ?_) (fun c => absurd c (by decide))
      refine at_aload dx_135_52 rfl ?_
      refine at_iload dx_135_53 rfl ?_
      refine at_zneR dx_135_54 (by decide) (fun c => absurd c (by decide)) (fun _ => ?_)
      refine at_const (x := 1) dx_135_55 rfl ?_
      refine at_goto dx_135_56 ?_
      refine at_callVI dx_135_66 rfl lc_856 rfl (m_fails2 (by decide)) ?_
      rintro x66 M66 r66 ⟨f66, h66⟩; replace h66 := ite01 h66
      replace F : frE sqE M _ := fe_tr F (fe_le f66 (fun q j h => Or.inl ⟨h.1, by rw [h.2]; decide, by rw [h.2]; decide⟩))
      have z66 := f66 860 c (by (try dsimp only); omega)
      obtain rfl : x66 = 1 := by omega
      refine at_zeqR dx_135_67 (by decide) (fun c => absurd c (by decide)) (fun _ => ?_)
      refine at_const (x := 0) dx_135_68 rfl ?_
      refine at_iretI dx_135_69 (by decide) ?_
      first | exact ⟨k1, k2⟩ | exact ⟨MI_sq hM F, fe_fr F (fun q j h => sq_hi h)⟩
    · skip
      refine at_iload dx_135_8 rfl ?_
      refine at_callSI dx_135_9 rfl rfl (m_opens ry) ?_
      rintro x9 M9 r9 ⟨e9, h9⟩; replace e9 := e9.symm; subst e9; replace h9 := ite01 h9
      refine at_zeqR dx_135_10 r9 (fun c10 => ?_) (fun c10 => ?_)
      · skip
        refine at_const (x := 0) dx_135_13 rfl ?_
        refine at_istore dx_135_14 ?_
        refine at_iload dx_135_15 rfl ?_
        refine at_zeqR dx_135_16 (by decide) (fun _ => ?_) (fun c => absurd c (by decide))
        refine at_const (x := 0) dx_135_30 rfl ?_
        refine at_istore dx_135_31 ?_
        refine at_iload dx_135_32 rfl ?_
        refine at_zeqR dx_135_33 (by decide) (fun _ => ?_) (fun c => absurd c (by decide))
        refine at_const (x := 0) dx_135_39 rfl ?_
        refine at_istore dx_135_40 ?_
        refine at_iload dx_135_41 rfl ?_
        refine at_zeqR dx_135_42 (by decide) (fun _ => ?_) (fun c => absurd c (by decide))
        refine at_aload dx_135_52 rfl ?_
        refine at_iload dx_135_53 rfl ?_
        refine at_zneR dx_135_54 (by decide) (fun c => absurd c (by decide)) (fun _ => ?_)
        refine at_const (x := 1) dx_135_55 rfl ?_
        refine at_goto dx_135_56 ?_
        refine at_callVI dx_135_66 rfl lc_856 rfl (m_fails2 (by decide)) ?_
        rintro x66 M66 r66 ⟨f66, h66⟩; replace h66 := ite01 h66
        replace F : frE sqE M _ := fe_tr F (fe_le f66 (fun q j h => Or.inl ⟨h.1, by rw [h.2]; decide, by rw [h.2]; decide⟩))
        have z66 := f66 860 c (by (try dsimp only); omega)
        obtain rfl : x66 = 1 := by omega
        refine at_zeqR dx_135_67 (by decide) (fun c => absurd c (by decide)) (fun _ => ?_)
        refine at_const (x := 0) dx_135_68 rfl ?_
        refine at_iretI dx_135_69 (by decide) ?_
        first | exact ⟨k1, k2⟩ | exact ⟨MI_sq hM F, fe_fr F (fun q j h => sq_hi h)⟩
      · skip
        refine at_const (x := 1) dx_135_11 rfl ?_
        refine at_goto dx_135_12 ?_
        refine at_istore dx_135_14 ?_
        refine at_iload dx_135_15 rfl ?_
        refine at_zeqR dx_135_16 (by decide) (fun c => absurd c (by decide)) (fun _ => ?_)
        refine at_aload dx_135_17 rfl ?_
        refine at_iload dx_135_18 rfl ?_
        refine at_iload dx_135_19 rfl ?_
        refine at_callVI dx_135_20 rfl lc_856 rfl (m_opensAt rc rp (by omega) (by omega) (by have := hM.1 c (by omega) (by omega); omega)) ?_
        rintro x20 M9 r20 ⟨e9, h20⟩; replace e9 := e9.symm; subst e9; replace h20 := ite01 h20
        refine at_zeqR dx_135_21 r20 (fun c21 => ?_) (fun c21 => ?_)
        · skip
          refine at_const (x := 0) dx_135_30 rfl ?_
          refine at_istore dx_135_31 ?_
          refine at_iload dx_135_32 rfl ?_
          refine at_zeqR dx_135_33 (by decide) (fun _ => ?_) (fun c => absurd c (by decide))
          refine at_const (x := 0) dx_135_39 rfl ?_
          refine at_istore dx_135_40 ?_
          refine at_iload dx_135_41 rfl ?_
          refine at_zeqR dx_135_42 (by decide) (fun _ => ?_) (fun c => absurd c (by decide))
          refine at_aload dx_135_52 rfl ?_
          refine at_iload dx_135_53 rfl ?_
          refine at_zneR dx_135_54 (by decide) (fun _ => ?_) (fun c => absurd c (by decide))
          refine at_iload dx_135_57 rfl ?_
          refine at_zeqR dx_135_58 (by decide) (fun _ => ?_) (fun c => absurd c (by decide))
          refine at_const (x := 2) dx_135_65 rfl ?_
          refine at_callVI dx_135_66 rfl lc_856 rfl (m_fails2 (by decide)) ?_
          rintro x66 M66 r66 ⟨f66, h66⟩; replace h66 := ite01 h66
          replace F : frE sqE M _ := fe_tr F (fe_le f66 (fun q j h => Or.inl ⟨h.1, by rw [h.2]; decide, by rw [h.2]; decide⟩))
          have z66 := f66 860 c (by (try dsimp only); omega)
          obtain rfl : x66 = 1 := by omega
          refine at_zeqR dx_135_67 (by decide) (fun c => absurd c (by decide)) (fun _ => ?_)
          refine at_const (x := 0) dx_135_68 rfl ?_
          refine at_iretI dx_135_69 (by decide) ?_
          first | exact ⟨k1, k2⟩ | exact ⟨MI_sq hM F, fe_fr F (fun q j h => sq_hi h)⟩
        · skip
          refine at_aload dx_135_22 rfl ?_
          refine at_iload dx_135_23 rfl ?_
          refine at_iload dx_135_24 rfl ?_
          refine at_callVI dx_135_25 rfl lc_856 rfl (m_tokenOf rc rp (by omega) (by have := hM.1 c (by omega) (by omega); omega)) ?_
          rintro x25 M9 r25 ⟨e9, h25⟩; replace e9 := e9.symm; subst e9
          refine at_iload dx_135_26 rfl ?_
          refine at_ceqR dx_135_27 r25 ry (fun c27 => ?_) (fun c27 => ?_)
          · skip
            refine at_const (x := 0) dx_135_30 rfl ?_
            refine at_istore dx_135_31 ?_
            refine at_iload dx_135_32 rfl ?_
            refine at_zeqR dx_135_33 (by decide) (fun _ => ?_) (fun c => absurd c (by decide))
            refine at_const (x := 0) dx_135_39 rfl ?_
            refine at_istore dx_135_40 ?_
            refine at_iload dx_135_41 rfl ?_
            refine at_zeqR dx_135_42 (by decide) (fun _ => ?_) (fun c => absurd c (by decide))
            refine at_aload dx_135_52 rfl ?_
            refine at_iload dx_135_53 rfl ?_
            refine at_zneR dx_135_54 (by decide) (fun _ => ?_) (fun c => absurd c (by decide))
            refine at_iload dx_135_57 rfl ?_
            refine at_zeqR dx_135_58 (by decide) (fun _ => ?_) (fun c => absurd c (by decide))
            refine at_const (x := 2) dx_135_65 rfl ?_
            refine at_callVI dx_135_66 rfl lc_856 rfl (m_fails2 (by decide)) ?_
            rintro x66 M66 r66 ⟨f66, h66⟩; replace h66 := ite01 h66
            replace F : frE sqE M _ := fe_tr F (fe_le f66 (fun q j h => Or.inl ⟨h.1, by rw [h.2]; decide, by rw [h.2]; decide⟩))
            have z66 := f66 860 c (by (try dsimp only); omega)
            obtain rfl : x66 = 1 := by omega
            refine at_zeqR dx_135_67 (by decide) (fun c => absurd c (by decide)) (fun _ => ?_)
            refine at_const (x := 0) dx_135_68 rfl ?_
            refine at_iretI dx_135_69 (by decide) ?_
            first | exact ⟨k1, k2⟩ | exact ⟨MI_sq hM F, fe_fr F (fun q j h => sq_hi h)⟩
          · skip
            refine at_const (x := 1) dx_135_28 rfl ?_
            refine at_goto dx_135_29 ?_
            refine at_istore dx_135_31 ?_
            refine at_iload dx_135_32 rfl ?_
            refine at_zeqR dx_135_33 (by decide) (fun c => absurd c (by decide)) (fun _ => ?_)
            refine at_aload dx_135_34 rfl ?_
            refine at_iload dx_135_35 rfl ?_
            refine at_iload dx_135_36 rfl ?_
            refine at_callVI dx_135_37 rfl lc_856 rfl (m_tokenOf rc rp (by omega) (by have := hM.1 c (by omega) (by omega); omega)) ?_
            rintro x37 M9 r37 ⟨e9, h37⟩; replace e9 := e9.symm; subst e9
            refine at_goto dx_135_38 ?_
            refine at_istore dx_135_40 ?_
            refine at_iload dx_135_41 rfl ?_
            refine at_zeqR dx_135_42 (by decide) (fun c => absurd c (by decide)) (fun _ => ?_)
            refine at_aload dx_135_43 rfl ?_
            refine at_iload dx_135_44 rfl ?_
            refine at_const (x := 1) dx_135_45 rfl ?_
            refine at_callVV dx_135_46 rfl lc_856 rfl (m_tries rp (by decide)) ?_
            rintro M46 ⟨f46, t46a, t46b, t46c, t46d, t46e⟩
            replace F : frE sqE M _ := fe_tr F (fe_le f46 (fun q j h => sq_T (by (try dsimp only [stE] at h); omega)))
            have z46 := f46 860 c (by (try dsimp only); omega)
            refine at_aload dx_135_47 rfl ?_
            refine at_const (x := 100) dx_135_48 rfl ?_
            refine at_const (x := 0) dx_135_49 rfl ?_
            refine at_iload dx_135_50 rfl ?_
            refine at_callVV dx_135_51 rfl lc_856 rfl (m_adds0 ry (by omega)) ?_
            rintro M51 ⟨f51, q51, a51, b51⟩
            replace F : frE sqE M _ := fe_tr F (fe_le f51 (fun q j h => sq_T (by (try dsimp only [stE] at h); omega)))
            have z51 := f51 860 c (by (try dsimp only); omega)
            refine at_aload dx_135_52 rfl ?_
            refine at_iload dx_135_53 rfl ?_
            refine at_zneR dx_135_54 (by decide) (fun _ => ?_) (fun c => absurd c (by decide))
            refine at_iload dx_135_57 rfl ?_
            refine at_zeqR dx_135_58 (by decide) (fun c => absurd c (by decide)) (fun _ => ?_)
            refine at_aload dx_135_59 rfl ?_
            refine at_iload dx_135_60 rfl ?_
            refine at_callVI dx_135_61 rfl lc_856 rfl (m_canEdit2 rc (by omega) (MI_sq hM F) (okX100.mpr (by omega))) ?_
            rintro x61 M61 r61 ⟨f61, b61, w61⟩
            replace F : frE sqE M _ := fe_tr F (fe_le f61 (fun q j h => sq_C h))
            have z61 := f61 860 c (by (try dsimp only); omega)
            have hrd := w61
            refine at_zeqR dx_135_62 r61 (fun c62 => ?_) (fun c62 => ?_)
            · skip
              refine at_const (x := 2) dx_135_65 rfl ?_
              refine at_callVI dx_135_66 rfl lc_856 rfl (m_fails2 (by decide)) ?_
              rintro x66 M66 r66 ⟨f66, h66⟩; replace h66 := ite01 h66
              replace F : frE sqE M _ := fe_tr F (fe_le f66 (fun q j h => Or.inl ⟨h.1, by rw [h.2]; decide, by rw [h.2]; decide⟩))
              have z66 := f66 860 c (by (try dsimp only); omega)
              obtain rfl : x66 = 1 := by omega
              refine at_zeqR dx_135_67 (by decide) (fun c => absurd c (by decide)) (fun _ => ?_)
              refine at_const (x := 0) dx_135_68 rfl ?_
              refine at_iretI dx_135_69 (by decide) ?_
              first | exact ⟨k1, k2⟩ | exact ⟨MI_sq hM F, fe_fr F (fun q j h => sq_hi h)⟩
            · skip
              refine at_const (x := 0) dx_135_63 rfl ?_
              refine at_goto dx_135_64 ?_
              refine at_callVI dx_135_66 rfl lc_856 rfl (m_fails2 (by decide)) ?_
              rintro x66 M66 r66 ⟨f66, h66⟩; replace h66 := ite01 h66
              replace F : frE sqE M _ := fe_tr F (fe_le f66 (fun q j h => Or.inl ⟨h.1, by rw [h.2]; decide, by rw [h.2]; decide⟩))
              have z66 := f66 860 c (by (try dsimp only); omega)
              obtain rfl : x66 = 0 := by omega
              refine at_zeqR dx_135_67 (by decide) (fun _ => ?_) (fun c => absurd c (by decide))
              refine at_aload dx_135_70 rfl ?_
              refine at_iload dx_135_71 rfl ?_
              refine at_callVV dx_135_72 rfl lc_856 rfl (m_edits2 rc (by omega) (MI_sq hM F) (ready_fe (hrd (by omega)) (by omega) (by omega) f66 (fun q j h => Or.inl ⟨h.1, by rw [h.2]; decide⟩))) ?_
              rintro M72 ⟨k1, k2⟩
              replace k2 := fr_tr (fe_fr F (fun q j h => sq_hi h)) k2
              have k3 := k1.1 c (by omega) (by omega)
              refine at_iload dx_135_73 rfl ?_
              refine at_iretI dx_135_74 r37 ?_
              first | exact ⟨k1, k2⟩ | exact ⟨MI_sq hM F, fe_fr F (fun q j h => sq_hi h)⟩
