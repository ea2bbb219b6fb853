/-! ===== splitting, wrapping, unwrapping, of the reference ===== -/
set_option maxRecDepth 100000 in
set_option maxHeartbeats 4000000 in
theorem y_split {X : scr} {M : mem} {c p : Int} (rc : inR c) (rp : inR p) (hM : MI M) (hG : GR (M 857) (M 858)) : At X 0 128 0 [vr 856, vi c, vi p] [] M (qI (fun _ M' => OM c (csSplit p) M M')) := by
  have F : frE wE M M := fe_rf
  have hS := fun h1 h2 => hM.1 c h1 h2
  have hdl : 0 ≤ c → c < 3 → ((dc M c).length : Int) = M 860 c := fun h1 h2 => by have := hM.1 c h1 (by omega); rw [dc_len]; omega
  have hat : 0 ≤ c → c < 3 → ∀ q, _ := fun h1 h2 => hat_of (M := M) (c := c) (hM.1 c h1 (by omega)).1
  refine at_iload dx_128_0 rfl ?_
  refine at_callSI dx_128_1 rfl rfl (m_isClient rc) ?_
  rintro x1 M9 r1 ⟨e9, h1⟩; replace e9 := e9.symm; subst e9; replace h1 := ite01 h1
  refine at_zeqR dx_128_2 r1 (fun c2 => ?_) (fun c2 => ?_)
  · skip
    refine at_const (x := 0) dx_128_10 rfl ?_
    refine at_istore dx_128_11 ?_
    refine at_iload dx_128_12 rfl ?_
    refine at_zeqR dx_128_13 (by decide) (fun _ => ?_) (fun c => absurd c (by decide))
    refine at_const (x := 0) dx_128_19 rfl ?_
    refine at_istore dx_128_20 ?_
    refine at_aload dx_128_21 rfl ?_
    refine at_getR dx_128_22 lc_856 rfl lt_856_29 ?_
    refine at_iload dx_128_23 rfl ?_
    refine at_aldI dx_128_24 lc_881 ln_881 (by omega) (by omega) (fun r24 => ?_)
    refine at_istore dx_128_25 ?_
    refine at_iload dx_128_26 rfl ?_
    refine at_zeqR dx_128_27 (by decide) (fun _ => ?_) (fun c => absurd c (by decide))
    refine at_aload dx_128_42 rfl ?_
    refine at_iload dx_128_43 rfl ?_
    refine at_zneR dx_128_44 (by decide) (fun c => absurd c (by decide)) (fun _ => ?_)
    refine at_const (x := 1) dx_128_45 rfl ?_
    refine at_goto dx_128_46 ?_
    refine at_callVI dx_128_56 rfl lc_856 rfl (m_fails2 (by decide)) ?_
    rintro x56 M56 r56 ⟨f56, h56⟩; replace h56 := ite01 h56
    replace F : frE wE M _ := fe_tr F (fe_le f56 (fun q j h => by obtain ⟨rfl, rfl⟩ := h; exact wE_31))
    obtain rfl : x56 = 1 := by omega
    refine at_zeqR dx_128_57 (by decide) (fun c => absurd c (by decide)) (fun _ => ?_)
    refine at_const (x := 0) dx_128_58 rfl ?_
    refine at_iretI dx_128_59 (by decide) ?_
    first
    | exact OM_out hM (by omega) F1 hDW hSM h2D hCS f51 f56 (hcan.mp (by omega)) k1 k2 k3 k4 k5
    | exact OM_no (by omega) (MI_wE hM F) F hCS (fun e => absurd (hcan.mpr e) (by omega))
    | exact OM_nil (MI_wE hM F) F (fun c0 c1 => by show cIf _ _ = []; exact cIf_f (fun hh => by have := hdl c0 c1; first | omega | exact hh.2 (hnil (by omega))))
  · skip
    refine at_aload dx_128_3 rfl ?_
    refine at_iload dx_128_4 rfl ?_
    refine at_iload dx_128_5 rfl ?_
    refine at_callVI dx_128_6 rfl lc_856 rfl (m_isPlace rc rp) ?_
    rintro x6 M9 r6 ⟨e9, h6⟩; replace e9 := e9.symm; subst e9; replace h6 := ite01 h6
    refine at_zeqR dx_128_7 r6 (fun c7 => ?_) (fun c7 => ?_)
    · skip
      refine at_const (x := 0) dx_128_10 rfl ?_
      refine at_istore dx_128_11 ?_
      refine at_iload dx_128_12 rfl ?_
      refine at_zeqR dx_128_13 (by decide) (fun _ => ?_) (fun c => absurd c (by decide))
      refine at_const (x := 0) dx_128_19 rfl ?_
      refine at_istore dx_128_20 ?_
      refine at_aload dx_128_21 rfl ?_
      refine at_getR dx_128_22 lc_856 rfl lt_856_29 ?_
      refine at_iload dx_128_23 rfl ?_
      refine at_aldI dx_128_24 lc_881 ln_881 (by omega) (by omega) (fun r24 => ?_)
      refine at_istore dx_128_25 ?_
      refine at_iload dx_128_26 rfl ?_
      refine at_zeqR dx_128_27 (by decide) (fun _ => ?_) (fun c => absurd c (by decide))
      refine at_aload dx_128_42 rfl ?_
      refine at_iload dx_128_43 rfl ?_
      refine at_zneR dx_128_44 (by decide) (fun c => absurd c (by decide)) (fun _ => ?_)
      refine at_const (x := 1) dx_128_45 rfl ?_
      refine at_goto dx_128_46 ?_
      refine at_callVI dx_128_56 rfl lc_856 rfl (m_fails2 (by decide)) ?_
      rintro x56 M56 r56 ⟨f56, h56⟩; replace h56 := ite01 h56
      replace F : frE wE M _ := fe_tr F (fe_le f56 (fun q j h => by obtain ⟨rfl, rfl⟩ := h; exact wE_31))
      obtain rfl : x56 = 1 := by omega
      refine at_zeqR dx_128_57 (by decide) (fun c => absurd c (by decide)) (fun _ => ?_)
      refine at_const (x := 0) dx_128_58 rfl ?_
      refine at_iretI dx_128_59 (by decide) ?_
      first
      | exact OM_out hM (by omega) F1 hDW hSM h2D hCS f51 f56 (hcan.mp (by omega)) k1 k2 k3 k4 k5
      | exact OM_no (by omega) (MI_wE hM F) F hCS (fun e => absurd (hcan.mpr e) (by omega))
      | exact OM_nil (MI_wE hM F) F (fun c0 c1 => by show cIf _ _ = []; exact cIf_f (fun hh => by have := hdl c0 c1; first | omega | exact hh.2 (hnil (by omega))))
    · skip
      refine at_const (x := 1) dx_128_8 rfl ?_
      refine at_goto dx_128_9 ?_
      refine at_istore dx_128_11 ?_
      refine at_iload dx_128_12 rfl ?_
      refine at_zeqR dx_128_13 (by decide) (fun c => absurd c (by decide)) (fun _ => ?_)
      refine at_aload dx_128_14 rfl ?_
      refine at_iload dx_128_15 rfl ?_
      refine at_iload dx_128_16 rfl ?_
      refine at_callVI dx_128_17 rfl lc_856 rfl (x_depthAt rc rp (by omega) (hM.1 c (by omega) (by omega)) (by have := hM.1 c (by omega) (by omega); omega) (MI_bal hM (by omega))) ?_
      rintro x17 M17 r17 ⟨f17, g17, o17, z17, s17⟩
      replace F : frE wE M _ := fe_tr F (fe_le f17 (fun q j h => wE_C (by (try dsimp only at h); omega)))
      have hnil : x17 ≤ 0 → opn ((dc M c).take p.toNat) = [] := fun e => by rw [← s17, show x17.toNat = 0 by omega]; rfl
      refine at_goto dx_128_18 ?_
      refine at_istore dx_128_20 ?_
      refine at_aload dx_128_21 rfl ?_
      refine at_getR dx_128_22 lc_856 rfl lt_856_29 ?_
      refine at_iload dx_128_23 rfl ?_
      refine at_aldI dx_128_24 lc_881 ln_881 (by omega) (by omega) (fun r24 => ?_)
      refine at_istore dx_128_25 ?_
      refine at_iload dx_128_26 rfl ?_
      refine at_zeqR dx_128_27 (by decide) (fun c => absurd c (by decide)) (fun _ => ?_)
      refine at_aload dx_128_28 rfl ?_
      refine at_iload dx_128_29 rfl ?_
      refine at_const (x := 0) dx_128_30 rfl ?_
      refine at_callVV dx_128_31 rfl lc_856 rfl (x_tries rp (by decide)) ?_
      rintro M31 ⟨f31, d31⟩
      replace F : frE wE M _ := fe_tr F f31
      refine at_aload dx_128_32 rfl ?_
      refine at_const (x := 100) dx_128_33 rfl ?_
      refine at_const (x := 0) dx_128_34 rfl ?_
      refine at_const (x := 0) dx_128_35 rfl ?_
      refine at_callVV dx_128_36 rfl lc_856 rfl (x_adds0 (by decide) d31 (by simp)) ?_
      rintro M36 ⟨f36, d36⟩
      replace F : frE wE M _ := fe_tr F f36
      refine at_aload dx_128_37 rfl ?_
      refine at_const (x := 100) dx_128_38 rfl ?_
      refine at_const (x := 0) dx_128_39 rfl ?_
      refine at_iload dx_128_40 rfl ?_
      refine at_callVV dx_128_41 rfl lc_856 rfl (x_adds0 r24 d36 (by simp)) ?_
      rintro M41 ⟨f41, d41⟩
      replace F : frE wE M _ := fe_tr F f41
      refine at_aload dx_128_42 rfl ?_
      refine at_iload dx_128_43 rfl ?_
      refine at_zneR dx_128_44 (by decide) (fun _ => ?_) (fun c => absurd c (by decide))
      refine at_iload dx_128_47 rfl ?_
      refine at_zleR dx_128_48 r17 (fun c48 => ?_) (fun c48 => ?_)
      · skip
        refine at_const (x := 2) dx_128_55 rfl ?_
        refine at_callVI dx_128_56 rfl lc_856 rfl (m_fails2 (by decide)) ?_
        rintro x56 M56 r56 ⟨f56, h56⟩; replace h56 := ite01 h56
        replace F : frE wE M _ := fe_tr F (fe_le f56 (fun q j h => by obtain ⟨rfl, rfl⟩ := h; exact wE_31))
        obtain rfl : x56 = 1 := by omega
        refine at_zeqR dx_128_57 (by decide) (fun c => absurd c (by decide)) (fun _ => ?_)
        refine at_const (x := 0) dx_128_58 rfl ?_
        refine at_iretI dx_128_59 (by decide) ?_
        first
        | exact OM_out hM (by omega) F1 hDW hSM h2D hCS f51 f56 (hcan.mp (by omega)) k1 k2 k3 k4 k5
        | exact OM_no (by omega) (MI_wE hM F) F hCS (fun e => absurd (hcan.mpr e) (by omega))
        | exact OM_nil (MI_wE hM F) F (fun c0 c1 => by show cIf _ _ = []; exact cIf_f (fun hh => by have := hdl c0 c1; first | omega | exact hh.2 (hnil (by omega))))
      · skip
        refine at_aload dx_128_49 rfl ?_
        refine at_iload dx_128_50 rfl ?_
        have hne : opn ((dc M c).take p.toNat) ≠ [] := fun e => by have h9 := congrArg List.length s17; rw [stkB_len, e] at h9; simp only [List.length_nil] at h9; omega
        have hty : (opn ((dc M c).take p.toNat)).headD 0 = M17 881 x17 := by rw [← s17, stkB_pop (by omega)]; rfl
        refine at_callVI dx_128_51 rfl lc_856 rfl (x_canEdit2 rc (by omega) (MI_wE hM F) (okX100.mpr (by obtain ⟨y1, y2, y3, y4, y5, y6⟩ := d41; have y7 := (wE_c F).1 c; simp only [List.length_append, List.length_cons, List.length_nil] at y5; omega)) (by rw [(wE_c F).2.2.2.1, (wE_c F).2.2.2.2]; exact hG)) ?_
        rintro x51 M51 r51 ⟨f51, b51, hrd, hcn⟩
        have F1 := F
        have hDW : cWD (mv M41 100) (0, ([p, 0], [0, (opn ((dc M c).take p.toNat)).headD 0])) := by rw [hty]; exact RS1_D d41 (Nat.le_of_ble_eq_true rfl)
        have hSM : smD (0, ([p, 0], [0, (opn ((dc M c).take p.toNat)).headD 0])) := ⟨by have := hS (by omega) (by omega); omega, by decide, Nat.le_of_ble_eq_true rfl⟩
        have hCS : (csSplit p) (dc M c) (cpM M c) = [(0, ([p, 0], [0, (opn ((dc M c).take p.toNat)).headD 0]))] := by show cIf _ _ = _; exact cIf_t (⟨by have := hdl (by omega) (by omega); omega, hne⟩)
        have h2D : ((0, ([p, 0], [0, (opn ((dc M c).take p.toNat)).headD 0])) : gD).1 ≠ 2 := by show ¬ ((0 : Nat) = 2); decide
        have hcan := can_iff hM (by omega) F1 hDW hSM h2D hcn
        replace F : frE wE M _ := fe_tr F (fe_le f51 (fun q j h => wE_C h))
        refine at_zeqR dx_128_52 r51 (fun c52 => ?_) (fun c52 => ?_)
        · skip
          refine at_const (x := 2) dx_128_55 rfl ?_
          refine at_callVI dx_128_56 rfl lc_856 rfl (m_fails2 (by decide)) ?_
          rintro x56 M56 r56 ⟨f56, h56⟩; replace h56 := ite01 h56
          replace F : frE wE M _ := fe_tr F (fe_le f56 (fun q j h => by obtain ⟨rfl, rfl⟩ := h; exact wE_31))
          obtain rfl : x56 = 1 := by omega
          refine at_zeqR dx_128_57 (by decide) (fun c => absurd c (by decide)) (fun _ => ?_)
          refine at_const (x := 0) dx_128_58 rfl ?_
          refine at_iretI dx_128_59 (by decide) ?_
          first
          | exact OM_out hM (by omega) F1 hDW hSM h2D hCS f51 f56 (hcan.mp (by omega)) k1 k2 k3 k4 k5
          | exact OM_no (by omega) (MI_wE hM F) F hCS (fun e => absurd (hcan.mpr e) (by omega))
          | exact OM_nil (MI_wE hM F) F (fun c0 c1 => by show cIf _ _ = []; exact cIf_f (fun hh => by have := hdl c0 c1; first | omega | exact hh.2 (hnil (by omega))))
        · skip
          refine at_const (x := 0) dx_128_53 rfl ?_
          refine at_goto dx_128_54 ?_
          refine at_callVI dx_128_56 rfl lc_856 rfl (m_fails2 (by decide)) ?_
          rintro x56 M56 r56 ⟨f56, h56⟩; replace h56 := ite01 h56
          replace F : frE wE M _ := fe_tr F (fe_le f56 (fun q j h => by obtain ⟨rfl, rfl⟩ := h; exact wE_31))
          obtain rfl : x56 = 0 := by omega
          refine at_zeqR dx_128_57 (by decide) (fun _ => ?_) (fun c => absurd c (by decide))
          refine at_aload dx_128_60 rfl ?_
          refine at_iload dx_128_61 rfl ?_
          refine at_callVV dx_128_62 rfl lc_856 rfl (x_edits2 rc (by omega) (MI_wE hM F) (ready_fe (hrd (by omega)) (by omega) (by have := (wE_c F1).1 c; have := hM.1 c (by omega) (by omega); first | omega | (rw [f51 860 c (by omega)]; omega)) f56 (fun q j h => Or.inl ⟨h.1, by rw [h.2]; decide⟩))) ?_
          rintro M62 ⟨k1, k2, k3, k4, k5⟩
          refine at_iload dx_128_63 rfl ?_
          refine at_iretI dx_128_64 r24 ?_
          first
          | exact OM_out hM (by omega) F1 hDW hSM h2D hCS f51 f56 (hcan.mp (by omega)) k1 k2 k3 k4 k5
          | exact OM_no (by omega) (MI_wE hM F) F hCS (fun e => absurd (hcan.mpr e) (by omega))
          | exact OM_nil (MI_wE hM F) F (fun c0 c1 => by show cIf _ _ = []; exact cIf_f (fun hh => by have := hdl c0 c1; first | omega | exact hh.2 (hnil (by omega))))

set_option maxRecDepth 100000 in
set_option maxHeartbeats 4000000 in
theorem y_wrap {X : scr} {M : mem} {c f t y : Int} (rc : inR c) (rf : inR f) (rt : inR t) (ry : inR y) (hM : MI M) (hG : GR (M 857) (M 858)) : At X 0 132 0 [vr 856, vi c, vi f, vi t, vi y] [] M (qI (fun _ M' => OM c (csWrap f t y) M M')) := by
  have F : frE wE M M := fe_rf
  have hS := fun h1 h2 => hM.1 c h1 h2
  have hdl : 0 ≤ c → c < 3 → ((dc M c).length : Int) = M 860 c := fun h1 h2 => by have := hM.1 c h1 (by omega); rw [dc_len]; omega
  have hat : 0 ≤ c → c < 3 → ∀ q, _ := fun h1 h2 => hat_of (M := M) (c := c) (hM.1 c h1 (by omega)).1
  refine at_iload dx_132_0 rfl ?_
  refine at_callSI dx_132_1 rfl rfl (m_isClient rc) ?_
  rintro x1 M9 r1 ⟨e9, h1⟩; replace e9 := e9.symm; subst e9; replace h1 := ite01 h1
  refine at_zeqR dx_132_2 r1 (fun c2 => ?_) (fun c2 => ?_)
  · skip
    refine at_const (x := 0) dx_132_18 rfl ?_
    refine at_istore dx_132_19 ?_
    refine at_iload dx_132_20 rfl ?_
    refine at_zeqR dx_132_21 (by decide) (fun _ => ?_) (fun c => absurd c (by decide))
    refine at_aload dx_132_46 rfl ?_
    refine at_iload dx_132_47 rfl ?_
    refine at_zneR dx_132_48 (by decide) (fun c => absurd c (by decide)) (fun _ => ?_)
    refine at_const (x := 1) dx_132_49 rfl ?_
    refine at_goto dx_132_50 ?_
    refine at_callVI dx_132_63 rfl lc_856 rfl (m_fails2 (by decide)) ?_
    rintro x63 M63 r63 ⟨f63, h63⟩; replace h63 := ite01 h63
    replace F : frE wE M _ := fe_tr F (fe_le f63 (fun q j h => by obtain ⟨rfl, rfl⟩ := h; exact wE_31))
    obtain rfl : x63 = 1 := by omega
    refine at_zeqR dx_132_64 (by decide) (fun c => absurd c (by decide)) (fun _ => ?_)
    refine at_const (x := 0) dx_132_65 rfl ?_
    refine at_iretI dx_132_66 (by decide) ?_
    first
    | exact OM_out hM (by omega) F1 hDW hSM h2D hCS f58 f63 (hcan.mp (by omega)) k1 k2 k3 k4 k5
    | exact OM_no (by omega) (MI_wE hM F) F hCS (fun e => absurd (hcan.mpr e) (by omega))
    | exact OM_nil (MI_wE hM F) F (fun c0 c1 => by show cIf _ _ = []; exact cIf_f (fun hh => by have := hdl c0 c1; omega))
  · skip
    refine at_aload dx_132_3 rfl ?_
    refine at_iload dx_132_4 rfl ?_
    refine at_iload dx_132_5 rfl ?_
    refine at_callVI dx_132_6 rfl lc_856 rfl (m_isPlace rc rf) ?_
    rintro x6 M9 r6 ⟨e9, h6⟩; replace e9 := e9.symm; subst e9; replace h6 := ite01 h6
    refine at_zeqR dx_132_7 r6 (fun c7 => ?_) (fun c7 => ?_)
    · skip
      refine at_const (x := 0) dx_132_18 rfl ?_
      refine at_istore dx_132_19 ?_
      refine at_iload dx_132_20 rfl ?_
      refine at_zeqR dx_132_21 (by decide) (fun _ => ?_) (fun c => absurd c (by decide))
      refine at_aload dx_132_46 rfl ?_
      refine at_iload dx_132_47 rfl ?_
      refine at_zneR dx_132_48 (by decide) (fun c => absurd c (by decide)) (fun _ => ?_)
      refine at_const (x := 1) dx_132_49 rfl ?_
      refine at_goto dx_132_50 ?_
      refine at_callVI dx_132_63 rfl lc_856 rfl (m_fails2 (by decide)) ?_
      rintro x63 M63 r63 ⟨f63, h63⟩; replace h63 := ite01 h63
      replace F : frE wE M _ := fe_tr F (fe_le f63 (fun q j h => by obtain ⟨rfl, rfl⟩ := h; exact wE_31))
      obtain rfl : x63 = 1 := by omega
      refine at_zeqR dx_132_64 (by decide) (fun c => absurd c (by decide)) (fun _ => ?_)
      refine at_const (x := 0) dx_132_65 rfl ?_
      refine at_iretI dx_132_66 (by decide) ?_
      first
      | exact OM_out hM (by omega) F1 hDW hSM h2D hCS f58 f63 (hcan.mp (by omega)) k1 k2 k3 k4 k5
      | exact OM_no (by omega) (MI_wE hM F) F hCS (fun e => absurd (hcan.mpr e) (by omega))
      | exact OM_nil (MI_wE hM F) F (fun c0 c1 => by show cIf _ _ = []; exact cIf_f (fun hh => by have := hdl c0 c1; omega))
    · skip
      refine at_aload dx_132_8 rfl ?_
      refine at_iload dx_132_9 rfl ?_
      refine at_iload dx_132_10 rfl ?_
      refine at_callVI dx_132_11 rfl lc_856 rfl (m_isPlace rc rt) ?_
      rintro x11 M9 r11 ⟨e9, h11⟩; replace e9 := e9.symm; subst e9; replace h11 := ite01 h11
      refine at_zeqR dx_132_12 r11 (fun c12 => ?_) (fun c12 => ?_)
      · skip
        refine at_const (x := 0) dx_132_18 rfl ?_
        refine at_istore dx_132_19 ?_
        refine at_iload dx_132_20 rfl ?_
        refine at_zeqR dx_132_21 (by decide) (fun _ => ?_) (fun c => absurd c (by decide))
        refine at_aload dx_132_46 rfl ?_
        refine at_iload dx_132_47 rfl ?_
        refine at_zneR dx_132_48 (by decide) (fun c => absurd c (by decide)) (fun _ => ?_)
        refine at_const (x := 1) dx_132_49 rfl ?_
        refine at_goto dx_132_50 ?_
        refine at_callVI dx_132_63 rfl lc_856 rfl (m_fails2 (by decide)) ?_
        rintro x63 M63 r63 ⟨f63, h63⟩; replace h63 := ite01 h63
        replace F : frE wE M _ := fe_tr F (fe_le f63 (fun q j h => by obtain ⟨rfl, rfl⟩ := h; exact wE_31))
        obtain rfl : x63 = 1 := by omega
        refine at_zeqR dx_132_64 (by decide) (fun c => absurd c (by decide)) (fun _ => ?_)
        refine at_const (x := 0) dx_132_65 rfl ?_
        refine at_iretI dx_132_66 (by decide) ?_
        first
        | exact OM_out hM (by omega) F1 hDW hSM h2D hCS f58 f63 (hcan.mp (by omega)) k1 k2 k3 k4 k5
        | exact OM_no (by omega) (MI_wE hM F) F hCS (fun e => absurd (hcan.mpr e) (by omega))
        | exact OM_nil (MI_wE hM F) F (fun c0 c1 => by show cIf _ _ = []; exact cIf_f (fun hh => by have := hdl c0 c1; omega))
      · skip
        refine at_iload dx_132_13 rfl ?_
        refine at_callSI dx_132_14 rfl rfl (m_opens ry) ?_
        rintro x14 M9 r14 ⟨e9, h14⟩; replace e9 := e9.symm; subst e9; replace h14 := ite01 h14
        refine at_zeqR dx_132_15 r14 (fun c15 => ?_) (fun c15 => ?_)
        · skip
          refine at_const (x := 0) dx_132_18 rfl ?_
          refine at_istore dx_132_19 ?_
          refine at_iload dx_132_20 rfl ?_
          refine at_zeqR dx_132_21 (by decide) (fun _ => ?_) (fun c => absurd c (by decide))
          refine at_aload dx_132_46 rfl ?_
          refine at_iload dx_132_47 rfl ?_
          refine at_zneR dx_132_48 (by decide) (fun c => absurd c (by decide)) (fun _ => ?_)
          refine at_const (x := 1) dx_132_49 rfl ?_
          refine at_goto dx_132_50 ?_
          refine at_callVI dx_132_63 rfl lc_856 rfl (m_fails2 (by decide)) ?_
          rintro x63 M63 r63 ⟨f63, h63⟩; replace h63 := ite01 h63
          replace F : frE wE M _ := fe_tr F (fe_le f63 (fun q j h => by obtain ⟨rfl, rfl⟩ := h; exact wE_31))
          obtain rfl : x63 = 1 := by omega
          refine at_zeqR dx_132_64 (by decide) (fun c => absurd c (by decide)) (fun _ => ?_)
          refine at_const (x := 0) dx_132_65 rfl ?_
          refine at_iretI dx_132_66 (by decide) ?_
          first
          | exact OM_out hM (by omega) F1 hDW hSM h2D hCS f58 f63 (hcan.mp (by omega)) k1 k2 k3 k4 k5
          | exact OM_no (by omega) (MI_wE hM F) F hCS (fun e => absurd (hcan.mpr e) (by omega))
          | exact OM_nil (MI_wE hM F) F (fun c0 c1 => by show cIf _ _ = []; exact cIf_f (fun hh => by have := hdl c0 c1; omega))
        · skip
          refine at_const (x := 1) dx_132_16 rfl ?_
          refine at_goto dx_132_17 ?_
          refine at_istore dx_132_19 ?_
          refine at_iload dx_132_20 rfl ?_
          refine at_zeqR dx_132_21 (by decide) (fun c => absurd c (by decide)) (fun _ => ?_)
          refine at_aload dx_132_22 rfl ?_
          refine at_const (x := 100) dx_132_23 rfl ?_
          refine at_const (x := 2) dx_132_24 rfl ?_
          refine at_callVV dx_132_25 rfl lc_856 rfl (m_empties100 (by decide)) ?_
          rintro M25 ⟨f25, t25a, t25b, t25c, t25d, t25e⟩
          replace F : frE wE M _ := fe_tr F (fe_le f25 (fun q j h => wE_T (by (try dsimp only at h); omega)))
          refine at_aload dx_132_26 rfl ?_
          refine at_getR dx_132_27 lc_856 rfl lt_856_8 ?_
          refine at_const (x := 200) dx_132_28 rfl ?_
          refine at_iload dx_132_29 rfl ?_
          refine at_astI dx_132_30 lc_865 ln_865 (by decide) (by decide) rf ?_
          refine at_aload dx_132_31 rfl ?_
          refine at_getR dx_132_32 lc_856 rfl lt_856_8 ?_
          refine at_const (x := 201) dx_132_33 rfl ?_
          refine at_iload dx_132_34 rfl ?_
          refine at_astI dx_132_35 lc_865 ln_865 (by decide) (by decide) rt ?_
          refine at_mem (fun Mw hMw => ?_)
          have fw : frE (fun q j => ((861 ≤ q ∧ q ≤ 864) ∧ j = 100) ∨ ((865 ≤ q ∧ q ≤ 867) ∧ (j = 200 ∨ j = 201))) M25 Mw := by rw [hMw]; (repeat (first | exact fe_rf | refine fe_ums ?_ (by (try dsimp only); first | done | omega)))
          replace F : frE wE M _ := fe_tr F (fe_le fw (fun q j h => wE_T (by (try dsimp only at h); omega)))
          have dMw : RS2 Mw f 0 0 t 0 0 [] := by
            refine ⟨?_, ?_, ⟨?_, ?_⟩, ⟨?_, ?_⟩, ⟨?_, ?_, rfl⟩, fun j hj => absurd hj (Nat.not_lt_zero j)⟩ <;> (rw [hMw]; simp (disch := omega) only [um_eq, um_k, um_j]; first | done | omega)
          refine at_aload dx_132_36 rfl ?_
          refine at_const (x := 100) dx_132_37 rfl ?_
          refine at_const (x := 0) dx_132_38 rfl ?_
          refine at_iload dx_132_39 rfl ?_
          refine at_callVV dx_132_40 rfl lc_856 rfl (x_addsW ry (Or.inl rfl) dMw (by decide)) ?_
          rintro M40 ⟨f40, d40⟩
          replace d40 : RS2 M40 f 0 1 t 0 0 [y] := by simpa using d40
          replace F : frE wE M _ := fe_tr F f40
          refine at_aload dx_132_41 rfl ?_
          refine at_const (x := 100) dx_132_42 rfl ?_
          refine at_const (x := 1) dx_132_43 rfl ?_
          refine at_const (x := 0) dx_132_44 rfl ?_
          refine at_callVV dx_132_45 rfl lc_856 rfl (x_addsW (by decide) (Or.inr rfl) d40 (by decide)) ?_
          rintro M45 ⟨f45, d45⟩
          replace d45 : RS2 M45 f 0 1 t 0 1 [y, 0] := by simpa using d45
          replace F : frE wE M _ := fe_tr F f45
          refine at_aload dx_132_46 rfl ?_
          refine at_iload dx_132_47 rfl ?_
          refine at_zneR dx_132_48 (by decide) (fun _ => ?_) (fun c => absurd c (by decide))
          refine at_iload dx_132_51 rfl ?_
          refine at_iload dx_132_52 rfl ?_
          refine at_cgtR dx_132_53 rt rf (fun c53 => ?_) (fun c53 => ?_)
          · skip
            refine at_aload dx_132_56 rfl ?_
            refine at_iload dx_132_57 rfl ?_
            refine at_callVI dx_132_58 rfl lc_856 rfl (x_canEdit2 rc (by omega) (MI_wE hM F) (okX100.mpr (by obtain ⟨y1, y2, y3, y4, y5, y6⟩ := d45; have y7 := (wE_c F).1 c; simp only [List.length_append, List.length_cons, List.length_nil] at y5; omega)) (by rw [(wE_c F).2.2.2.1, (wE_c F).2.2.2.2]; exact hG)) ?_
            rintro x58 M58 r58 ⟨f58, b58, hrd, hcn⟩
            have F1 := F
            have hDW : cWD (mv M45 100) (1, ([f, 0, 1, t, 0, 1], [y, 0])) := RS2_D d45 (Nat.le_of_ble_eq_true rfl)
            have hSM : smD (1, ([f, 0, 1, t, 0, 1], [y, 0])) := ⟨by have := hS (by omega) (by omega); omega, by decide, by have := hS (by omega) (by omega); omega, by decide, ⟨by decide, by decide, by rfl⟩, Nat.le_of_ble_eq_true rfl⟩
            have hCS : (csWrap f t y) (dc M c) (cpM M c) = [(1, ([f, 0, 1, t, 0, 1], [y, 0]))] := by show cIf _ _ = _; exact cIf_t (by have := hdl (by omega) (by omega); omega)
            have h2D : ((1, ([f, 0, 1, t, 0, 1], [y, 0])) : gD).1 ≠ 2 := by show ¬ ((1 : Nat) = 2); decide
            have hcan := can_iff hM (by omega) F1 hDW hSM h2D hcn
            replace F : frE wE M _ := fe_tr F (fe_le f58 (fun q j h => wE_C h))
            refine at_zeqR dx_132_59 r58 (fun c59 => ?_) (fun c59 => ?_)
            · skip
              refine at_const (x := 3) dx_132_62 rfl ?_
              refine at_callVI dx_132_63 rfl lc_856 rfl (m_fails2 (by decide)) ?_
              rintro x63 M63 r63 ⟨f63, h63⟩; replace h63 := ite01 h63
              replace F : frE wE M _ := fe_tr F (fe_le f63 (fun q j h => by obtain ⟨rfl, rfl⟩ := h; exact wE_31))
              obtain rfl : x63 = 1 := by omega
              refine at_zeqR dx_132_64 (by decide) (fun c => absurd c (by decide)) (fun _ => ?_)
              refine at_const (x := 0) dx_132_65 rfl ?_
              refine at_iretI dx_132_66 (by decide) ?_
              first
              | exact OM_out hM (by omega) F1 hDW hSM h2D hCS f58 f63 (hcan.mp (by omega)) k1 k2 k3 k4 k5
              | exact OM_no (by omega) (MI_wE hM F) F hCS (fun e => absurd (hcan.mpr e) (by omega))
              | exact OM_nil (MI_wE hM F) F (fun c0 c1 => by show cIf _ _ = []; exact cIf_f (fun hh => by have := hdl c0 c1; omega))
            · skip
              refine at_const (x := 0) dx_132_60 rfl ?_
              refine at_goto dx_132_61 ?_
              refine at_callVI dx_132_63 rfl lc_856 rfl (m_fails2 (by decide)) ?_
              rintro x63 M63 r63 ⟨f63, h63⟩; replace h63 := ite01 h63
              replace F : frE wE M _ := fe_tr F (fe_le f63 (fun q j h => by obtain ⟨rfl, rfl⟩ := h; exact wE_31))
              obtain rfl : x63 = 0 := by omega
              refine at_zeqR dx_132_64 (by decide) (fun _ => ?_) (fun c => absurd c (by decide))
              refine at_aload dx_132_67 rfl ?_
              refine at_iload dx_132_68 rfl ?_
              refine at_callVV dx_132_69 rfl lc_856 rfl (x_edits2 rc (by omega) (MI_wE hM F) (ready_fe (hrd (by omega)) (by omega) (by have := (wE_c F1).1 c; have := hM.1 c (by omega) (by omega); first | omega | (rw [f58 860 c (by omega)]; omega)) f63 (fun q j h => Or.inl ⟨h.1, by rw [h.2]; decide⟩))) ?_
              rintro M69 ⟨k1, k2, k3, k4, k5⟩
              refine at_aload dx_132_70 rfl ?_
              refine at_getR dx_132_71 lc_856 rfl lt_856_3 ?_
              refine at_iload dx_132_72 rfl ?_
              refine at_aldI dx_132_73 lc_860 ln_860 (by first | omega | (simp (disch := omega) only [um_eq, um_k, um_j]; omega)) (by first | omega | (simp (disch := omega) only [um_eq, um_k, um_j]; omega)) (fun r73 => ?_)
              refine at_iretI dx_132_74 r73 ?_
              first
              | exact OM_out hM (by omega) F1 hDW hSM h2D hCS f58 f63 (hcan.mp (by omega)) k1 k2 k3 k4 k5
              | exact OM_no (by omega) (MI_wE hM F) F hCS (fun e => absurd (hcan.mpr e) (by omega))
              | exact OM_nil (MI_wE hM F) F (fun c0 c1 => by show cIf _ _ = []; exact cIf_f (fun hh => by have := hdl c0 c1; omega))
          · skip
            refine at_const (x := 2) dx_132_54 rfl ?_
            refine at_goto dx_132_55 ?_
            refine at_callVI dx_132_63 rfl lc_856 rfl (m_fails2 (by decide)) ?_
            rintro x63 M63 r63 ⟨f63, h63⟩; replace h63 := ite01 h63
            replace F : frE wE M _ := fe_tr F (fe_le f63 (fun q j h => by obtain ⟨rfl, rfl⟩ := h; exact wE_31))
            obtain rfl : x63 = 1 := by omega
            refine at_zeqR dx_132_64 (by decide) (fun c => absurd c (by decide)) (fun _ => ?_)
            refine at_const (x := 0) dx_132_65 rfl ?_
            refine at_iretI dx_132_66 (by decide) ?_
            first
            | exact OM_out hM (by omega) F1 hDW hSM h2D hCS f58 f63 (hcan.mp (by omega)) k1 k2 k3 k4 k5
            | exact OM_no (by omega) (MI_wE hM F) F hCS (fun e => absurd (hcan.mpr e) (by omega))
            | exact OM_nil (MI_wE hM F) F (fun c0 c1 => by show cIf _ _ = []; exact cIf_f (fun hh => by have := hdl c0 c1; omega))

set_option maxRecDepth 100000 in
set_option maxHeartbeats 4000000 in
theorem y_unwrap {X : scr} {M : mem} {c p : Int} (rc : inR c) (rp : inR p) (hM : MI M) (hG : GR (M 857) (M 858)) : At X 0 134 0 [vr 856, vi c, vi p] [] M (qI (fun _ M' => OM c (csUnwrap p) M M')) := by
  have F : frE wE M M := fe_rf
  have hS := fun h1 h2 => hM.1 c h1 h2
  have hdl : 0 ≤ c → c < 3 → ((dc M c).length : Int) = M 860 c := fun h1 h2 => by have := hM.1 c h1 (by omega); rw [dc_len]; omega
  have hat : 0 ≤ c → c < 3 → ∀ q, _ := fun h1 h2 => hat_of (M := M) (c := c) (hM.1 c h1 (by omega)).1
  refine at_iload dx_134_0 rfl ?_
  refine at_callSI dx_134_1 rfl rfl (m_isClient rc) ?_
  rintro x1 M9 r1 ⟨e9, h1⟩; replace e9 := e9.symm; subst e9; replace h1 := ite01 h1
  refine at_zeqR dx_134_2 r1 (fun c2 => ?_) (fun c2 => ?_)
  · skip
    refine at_const (x := 0) dx_134_10 rfl ?_
    refine at_istore dx_134_11 ?_
    refine at_iload dx_134_12 rfl ?_
    refine at_zeqR dx_134_13 (by decide) (fun _ => ?_) (fun c => absurd c (by decide))
    refine at_const (x := 0) dx_134_21 rfl ?_
    refine at_istore dx_134_22 ?_
    refine at_iload dx_134_23 rfl ?_
    refine at_zeqR dx_134_24 (by decide) (fun _ => ?_) (fun c => absurd c (by decide))
    refine at_const (x := 0) dx_134_30 rfl ?_
    refine at_istore dx_134_31 ?_
    refine at_iload dx_134_32 rfl ?_
    refine at_zeqR dx_134_33 (by decide) (fun _ => ?_) (fun c => absurd c (by decide))
    refine at_aload dx_134_61 rfl ?_
    refine at_iload dx_134_62 rfl ?_
    refine at_zneR dx_134_63 (by decide) (fun c => absurd c (by decide)) (fun _ => ?_)
    refine at_const (x := 1) dx_134_64 rfl ?_
    refine at_goto dx_134_65 ?_
    refine at_callVI dx_134_75 rfl lc_856 rfl (m_fails2 (by decide)) ?_
    rintro x75 M75 r75 ⟨f75, h75⟩; replace h75 := ite01 h75
    replace F : frE wE M _ := fe_tr F (fe_le f75 (fun q j h => by obtain ⟨rfl, rfl⟩ := h; exact wE_31))
    obtain rfl : x75 = 1 := by omega
    refine at_zeqR dx_134_76 (by decide) (fun c => absurd c (by decide)) (fun _ => ?_)
    refine at_const (x := 0) dx_134_77 rfl ?_
    refine at_iretI dx_134_78 (by decide) ?_
    first
    | exact OM_out hM (by omega) F1 hDW hSM h2D hCS f70 f75 (hcan.mp (by omega)) k1 k2 k3 k4 k5
    | exact OM_no (by omega) (MI_wE hM F) F hCS (fun e => absurd (hcan.mpr e) (by omega))
    | exact OM_nil (MI_wE hM F) F (fun c0 c1 => by show cIf _ _ = []; exact cIf_f (fun hh => by have := hdl c0 c1; have := hat c0 c1 p; omega))
  · skip
    refine at_aload dx_134_3 rfl ?_
    refine at_iload dx_134_4 rfl ?_
    refine at_iload dx_134_5 rfl ?_
    refine at_callVI dx_134_6 rfl lc_856 rfl (m_isPlace rc rp) ?_
    rintro x6 M9 r6 ⟨e9, h6⟩; replace e9 := e9.symm; subst e9; replace h6 := ite01 h6
    refine at_zeqR dx_134_7 r6 (fun c7 => ?_) (fun c7 => ?_)
    · skip
      refine at_const (x := 0) dx_134_10 rfl ?_
      refine at_istore dx_134_11 ?_
      refine at_iload dx_134_12 rfl ?_
      refine at_zeqR dx_134_13 (by decide) (fun _ => ?_) (fun c => absurd c (by decide))
      refine at_const (x := 0) dx_134_21 rfl ?_
      refine at_istore dx_134_22 ?_
      refine at_iload dx_134_23 rfl ?_
      refine at_zeqR dx_134_24 (by decide) (fun _ => ?_) (fun c => absurd c (by decide))
      refine at_const (x := 0) dx_134_30 rfl ?_
      refine at_istore dx_134_31 ?_
      refine at_iload dx_134_32 rfl ?_
      refine at_zeqR dx_134_33 (by decide) (fun _ => ?_) (fun c => absurd c (by decide))
      refine at_aload dx_134_61 rfl ?_
      refine at_iload dx_134_62 rfl ?_
      refine at_zneR dx_134_63 (by decide) (fun c => absurd c (by decide)) (fun _ => ?_)
      refine at_const (x := 1) dx_134_64 rfl ?_
      refine at_goto dx_134_65 ?_
      refine at_callVI dx_134_75 rfl lc_856 rfl (m_fails2 (by decide)) ?_
      rintro x75 M75 r75 ⟨f75, h75⟩; replace h75 := ite01 h75
      replace F : frE wE M _ := fe_tr F (fe_le f75 (fun q j h => by obtain ⟨rfl, rfl⟩ := h; exact wE_31))
      obtain rfl : x75 = 1 := by omega
      refine at_zeqR dx_134_76 (by decide) (fun c => absurd c (by decide)) (fun _ => ?_)
      refine at_const (x := 0) dx_134_77 rfl ?_
      refine at_iretI dx_134_78 (by decide) ?_
      first
      | exact OM_out hM (by omega) F1 hDW hSM h2D hCS f70 f75 (hcan.mp (by omega)) k1 k2 k3 k4 k5
      | exact OM_no (by omega) (MI_wE hM F) F hCS (fun e => absurd (hcan.mpr e) (by omega))
      | exact OM_nil (MI_wE hM F) F (fun c0 c1 => by show cIf _ _ = []; exact cIf_f (fun hh => by have := hdl c0 c1; have := hat c0 c1 p; omega))
    · skip
      refine at_const (x := 1) dx_134_8 rfl ?_
      refine at_goto dx_134_9 ?_
      refine at_istore dx_134_11 ?_
      refine at_iload dx_134_12 rfl ?_
      refine at_zeqR dx_134_13 (by decide) (fun c => absurd c (by decide)) (fun _ => ?_)
      refine at_aload dx_134_14 rfl ?_
      refine at_iload dx_134_15 rfl ?_
      refine at_iload dx_134_16 rfl ?_
      refine at_callVI dx_134_17 rfl lc_856 rfl (m_opensAt rc rp (by omega) (by omega) (by have := hM.1 c (by omega) (by omega); omega)) ?_
      rintro x17 M9 r17 ⟨e9, h17⟩; replace e9 := e9.symm; subst e9; replace h17 := ite01 h17
      refine at_zeqR dx_134_18 r17 (fun c18 => ?_) (fun c18 => ?_)
      · skip
        refine at_const (x := 0) dx_134_21 rfl ?_
        refine at_istore dx_134_22 ?_
        refine at_iload dx_134_23 rfl ?_
        refine at_zeqR dx_134_24 (by decide) (fun _ => ?_) (fun c => absurd c (by decide))
        refine at_const (x := 0) dx_134_30 rfl ?_
        refine at_istore dx_134_31 ?_
        refine at_iload dx_134_32 rfl ?_
        refine at_zeqR dx_134_33 (by decide) (fun _ => ?_) (fun c => absurd c (by decide))
        refine at_aload dx_134_61 rfl ?_
        refine at_iload dx_134_62 rfl ?_
        refine at_zneR dx_134_63 (by decide) (fun _ => ?_) (fun c => absurd c (by decide))
        refine at_iload dx_134_66 rfl ?_
        refine at_zeqR dx_134_67 (by decide) (fun _ => ?_) (fun c => absurd c (by decide))
        refine at_const (x := 2) dx_134_74 rfl ?_
        refine at_callVI dx_134_75 rfl lc_856 rfl (m_fails2 (by decide)) ?_
        rintro x75 M75 r75 ⟨f75, h75⟩; replace h75 := ite01 h75
        replace F : frE wE M _ := fe_tr F (fe_le f75 (fun q j h => by obtain ⟨rfl, rfl⟩ := h; exact wE_31))
        obtain rfl : x75 = 1 := by omega
        refine at_zeqR dx_134_76 (by decide) (fun c => absurd c (by decide)) (fun _ => ?_)
        refine at_const (x := 0) dx_134_77 rfl ?_
        refine at_iretI dx_134_78 (by decide) ?_
        first
        | exact OM_out hM (by omega) F1 hDW hSM h2D hCS f70 f75 (hcan.mp (by omega)) k1 k2 k3 k4 k5
        | exact OM_no (by omega) (MI_wE hM F) F hCS (fun e => absurd (hcan.mpr e) (by omega))
        | exact OM_nil (MI_wE hM F) F (fun c0 c1 => by show cIf _ _ = []; exact cIf_f (fun hh => by have := hdl c0 c1; have := hat c0 c1 p; omega))
      · skip
        refine at_const (x := 1) dx_134_19 rfl ?_
        refine at_goto dx_134_20 ?_
        refine at_istore dx_134_22 ?_
        refine at_iload dx_134_23 rfl ?_
        refine at_zeqR dx_134_24 (by decide) (fun c => absurd c (by decide)) (fun _ => ?_)
        refine at_aload dx_134_25 rfl ?_
        refine at_iload dx_134_26 rfl ?_
        refine at_iload dx_134_27 rfl ?_
        refine at_callVI dx_134_28 rfl lc_856 rfl (m_tokenOf rc rp (by omega) (by have := hM.1 c (by omega) (by omega); omega)) ?_
        rintro x28 M9 r28 ⟨e9, h28⟩; replace e9 := e9.symm; subst e9
        refine at_goto dx_134_29 ?_
        refine at_istore dx_134_31 ?_
        refine at_iload dx_134_32 rfl ?_
        refine at_zeqR dx_134_33 (by decide) (fun c => absurd c (by decide)) (fun _ => ?_)
        refine at_aload dx_134_34 rfl ?_
        refine at_const (x := 100) dx_134_35 rfl ?_
        refine at_const (x := 2) dx_134_36 rfl ?_
        refine at_callVV dx_134_37 rfl lc_856 rfl (m_empties100 (by decide)) ?_
        rintro M37 ⟨f37, t37a, t37b, t37c, t37d, t37e⟩
        replace F : frE wE M _ := fe_tr F (fe_le f37 (fun q j h => wE_T (by (try dsimp only at h); omega)))
        refine at_aload dx_134_38 rfl ?_
        refine at_getR dx_134_39 lc_856 rfl lt_856_8 ?_
        refine at_const (x := 200) dx_134_40 rfl ?_
        refine at_iload dx_134_41 rfl ?_
        refine at_astI dx_134_42 lc_865 ln_865 (by decide) (by decide) rp ?_
        refine at_aload dx_134_43 rfl ?_
        refine at_getR dx_134_44 lc_856 rfl lt_856_9 ?_
        refine at_const (x := 200) dx_134_45 rfl ?_
        refine at_const (x := 1) dx_134_46 rfl ?_
        refine at_astI dx_134_47 lc_866 ln_866 (by decide) (by decide) (by decide) ?_
        refine at_mem (fun Mw hMw => ?_)
        have fw : frE (fun q j => ((861 ≤ q ∧ q ≤ 864) ∧ j = 100) ∨ ((865 ≤ q ∧ q ≤ 867) ∧ (j = 200 ∨ j = 201))) M37 Mw := by rw [hMw]; (repeat (first | exact fe_rf | refine fe_ums ?_ (by (try dsimp only); first | done | omega)))
        replace F : frE wE M _ := fe_tr F (fe_le fw (fun q j h => wE_T (by (try dsimp only at h); omega)))
        have gw : Mw 859 (60 * c + p) = M 859 (60 * c + p) := F 859 _ (fun e => by rcases e with e | e | e | e | e | e <;> omega)
        have nw : ∀ q j, (q = 861 ∧ j = 100) ∨ (q = 864 ∧ j = 100) ∨ (q = 867 ∧ (j = 200 ∨ j = 201)) → Mw q j = M37 q j := fun q j hq => by rw [hMw, um_k (by omega), um_k (by omega)]
        have nw5 : Mw 865 200 = p := by rw [hMw]; simp (disch := omega) only [um_eq, um_k, um_j]
        have nw6 : Mw 866 200 = 1 := by rw [hMw]; simp (disch := omega) only [um_eq, um_k, um_j]
        refine at_aload dx_134_48 rfl ?_
        refine at_getR dx_134_49 lc_856 rfl lt_856_8 ?_
        refine at_const (x := 201) dx_134_50 rfl ?_
        refine at_aload dx_134_51 rfl ?_
        refine at_iload dx_134_52 rfl ?_
        refine at_iload dx_134_53 rfl ?_
        refine at_callVI dx_134_54 rfl lc_856 rfl (x_closing rc rp (by omega) (by rw [(wE_c F).1]; exact hM.1 c (by omega) (by omega)) (by rw [(wE_c F).1]; omega) (by rw [gw]; omega) (by rw [(wE_c F).2.2.1]; exact MI_bal hM (by omega))) ?_
        rintro x54 M9 r54 ⟨e9, h54, h54b, h54c⟩; replace e9 := e9.symm; subst e9
        rw [(wE_c F).2.2.1] at h54
        rw [(wE_c F).1] at h54c
        refine at_astI dx_134_55 lc_865 ln_865 (by decide) (by decide) r54 ?_
        refine at_aload dx_134_56 rfl ?_
        refine at_getR dx_134_57 lc_856 rfl lt_856_9 ?_
        refine at_const (x := 201) dx_134_58 rfl ?_
        refine at_const (x := 1) dx_134_59 rfl ?_
        refine at_astI dx_134_60 lc_866 ln_866 (by decide) (by decide) (by decide) ?_
        refine at_mem (fun Mv hMv => ?_)
        have fv : frE (fun q j => ((861 ≤ q ∧ q ≤ 864) ∧ j = 100) ∨ ((865 ≤ q ∧ q ≤ 867) ∧ (j = 200 ∨ j = 201))) Mw Mv := by rw [hMv]; (repeat (first | exact fe_rf | refine fe_ums ?_ (by (try dsimp only); first | done | omega)))
        replace F : frE wE M _ := fe_tr F (fe_le fv (fun q j h => wE_T (by (try dsimp only at h); omega)))
        have dMv : RS2 Mv p 1 0 (fcl ((dc M c).drop p.toNat) 0 p) 1 0 [] := by
          rw [← h54]
          refine ⟨?_, ?_, ⟨?_, ?_⟩, ⟨?_, ?_⟩, ⟨?_, ?_, rfl⟩, fun j hj => absurd hj (Nat.not_lt_zero j)⟩ <;> (rw [hMv]; simp (disch := omega) only [um_eq, um_k, um_j]; first | done | assumption | (rw [nw _ _ (by omega)]; omega))
        refine at_aload dx_134_61 rfl ?_
        refine at_iload dx_134_62 rfl ?_
        refine at_zneR dx_134_63 (by decide) (fun _ => ?_) (fun c => absurd c (by decide))
        refine at_iload dx_134_66 rfl ?_
        refine at_zeqR dx_134_67 (by decide) (fun c => absurd c (by decide)) (fun _ => ?_)
        refine at_aload dx_134_68 rfl ?_
        refine at_iload dx_134_69 rfl ?_
        refine at_callVI dx_134_70 rfl lc_856 rfl (x_canEdit2 rc (by omega) (MI_wE hM F) (okX100.mpr (by obtain ⟨y1, y2, y3, y4, y5, y6⟩ := dMv; have y7 := (wE_c F).1 c; simp only [List.length_append, List.length_cons, List.length_nil] at y5; omega)) (by rw [(wE_c F).2.2.2.1, (wE_c F).2.2.2.2]; exact hG)) ?_
        rintro x70 M70 r70 ⟨f70, b70, hrd, hcn⟩
        have F1 := F
        have hDW : cWD (mv Mv 100) (1, ([p, 1, 0, fcl ((dc M c).drop p.toNat) 0 p, 1, 0], [])) := RS2_D dMv (Nat.le_of_ble_eq_true rfl)
        have hSM : smD (1, ([p, 1, 0, fcl ((dc M c).drop p.toNat) 0 p, 1, 0], [])) := ⟨by have := hS (by omega) (by omega); omega, by decide, by have := hS (by omega) (by omega); omega, by decide, ⟨by decide, by decide, by rfl⟩, Nat.le_of_ble_eq_true rfl⟩
        have hCS : (csUnwrap p) (dc M c) (cpM M c) = [(1, ([p, 1, 0, fcl ((dc M c).drop p.toNat) 0 p, 1, 0], []))] := by show cIf _ _ = _; exact cIf_t (⟨by have := hdl (by omega) (by omega); omega, by have := hat (by omega) (by omega) p; have e : atL (dc M c) p = M 859 (60 * c + p) := (by omega); rw [e]; omega, by omega⟩)
        have h2D : ((1, ([p, 1, 0, fcl ((dc M c).drop p.toNat) 0 p, 1, 0], [])) : gD).1 ≠ 2 := by show ¬ ((1 : Nat) = 2); decide
        have hcan := can_iff hM (by omega) F1 hDW hSM h2D hcn
        replace F : frE wE M _ := fe_tr F (fe_le f70 (fun q j h => wE_C h))
        refine at_zeqR dx_134_71 r70 (fun c71 => ?_) (fun c71 => ?_)
        · skip
          refine at_const (x := 2) dx_134_74 rfl ?_
          refine at_callVI dx_134_75 rfl lc_856 rfl (m_fails2 (by decide)) ?_
          rintro x75 M75 r75 ⟨f75, h75⟩; replace h75 := ite01 h75
          replace F : frE wE M _ := fe_tr F (fe_le f75 (fun q j h => by obtain ⟨rfl, rfl⟩ := h; exact wE_31))
          obtain rfl : x75 = 1 := by omega
          refine at_zeqR dx_134_76 (by decide) (fun c => absurd c (by decide)) (fun _ => ?_)
          refine at_const (x := 0) dx_134_77 rfl ?_
          refine at_iretI dx_134_78 (by decide) ?_
          first
          | exact OM_out hM (by omega) F1 hDW hSM h2D hCS f70 f75 (hcan.mp (by omega)) k1 k2 k3 k4 k5
          | exact OM_no (by omega) (MI_wE hM F) F hCS (fun e => absurd (hcan.mpr e) (by omega))
          | exact OM_nil (MI_wE hM F) F (fun c0 c1 => by show cIf _ _ = []; exact cIf_f (fun hh => by have := hdl c0 c1; have := hat c0 c1 p; omega))
        · skip
          refine at_const (x := 0) dx_134_72 rfl ?_
          refine at_goto dx_134_73 ?_
          refine at_callVI dx_134_75 rfl lc_856 rfl (m_fails2 (by decide)) ?_
          rintro x75 M75 r75 ⟨f75, h75⟩; replace h75 := ite01 h75
          replace F : frE wE M _ := fe_tr F (fe_le f75 (fun q j h => by obtain ⟨rfl, rfl⟩ := h; exact wE_31))
          obtain rfl : x75 = 0 := by omega
          refine at_zeqR dx_134_76 (by decide) (fun _ => ?_) (fun c => absurd c (by decide))
          refine at_aload dx_134_79 rfl ?_
          refine at_iload dx_134_80 rfl ?_
          refine at_callVV dx_134_81 rfl lc_856 rfl (x_edits2 rc (by omega) (MI_wE hM F) (ready_fe (hrd (by omega)) (by omega) (by have := (wE_c F1).1 c; have := hM.1 c (by omega) (by omega); first | omega | (rw [f70 860 c (by omega)]; omega)) f75 (fun q j h => Or.inl ⟨h.1, by rw [h.2]; decide⟩))) ?_
          rintro M81 ⟨k1, k2, k3, k4, k5⟩
          refine at_iload dx_134_82 rfl ?_
          refine at_iretI dx_134_83 r28 ?_
          first
          | exact OM_out hM (by omega) F1 hDW hSM h2D hCS f70 f75 (hcan.mp (by omega)) k1 k2 k3 k4 k5
          | exact OM_no (by omega) (MI_wE hM F) F hCS (fun e => absurd (hcan.mpr e) (by omega))
          | exact OM_nil (MI_wE hM F) F (fun c0 c1 => by show cIf _ _ = []; exact cIf_f (fun hh => by have := hdl c0 c1; have := hat c0 c1 p; omega))
