/-! ===== the reference: its other calls, on ===== -/
set_option maxRecDepth 100000 in
set_option maxHeartbeats 4000000 in
theorem x_canRevert {X : scr} {M : mem} {c s : Int} (rc : inR c) (rs : inR s) (hM : MI M) (hc : 0 ≤ c ∧ c ≤ 2) (hs : 0 ≤ s ∧ s < M 870 c) : At X 0 145 0 [vr 856, vi c, vi s] [] M (qI (fun x M' => frE wE M M' ∧ (x = 0 ∨ x = 1) ∧ (x = 1 → ready M' c))) := by
  have hmc := hM.2.2.2.2 c hc.1 hc.2
  unfold MC at hmc
  obtain ⟨b1, b2, b3, b, b4, b5⟩ := hmc
  have h13 := hM.2.1
  have hrun := cs_run b1.1 b2.1 b4 b5
  have hS := hM.1 c hc.1 (by omega)
  have l2 : ∀ (n9 : Nat) (k r : Int) (M1 : mem) (rk : inR k) (hk : 0 ≤ k ∧ k ≤ M 871 c) (hr : r = M 870 c - s - 1 + k) (hn : (M 871 c - k).toNat = n9) (F : frE FRo M M1) (er : M1 856 24 = r) (w : ∀ j : Int, 0 ≤ j → j < r → M1 878 j = cs M c (s + 1 + j) ∧ M1 879 j = 0 ∧ M1 880 j = -1), At X 0 145 21 [vr 856, vi c, vi s, vi k] [] M1 (qI (fun x M' => frE wE M M' ∧ (x = 0 ∨ x = 1) ∧ (x = 1 → ready M' c))) := by
    intro n
    induction n using Nat.strongRecOn with
    | ind n ih =>
    intro k r M1 rk hk hr hn F er w
    have ev : M1 871 c = M 871 c := F 871 c (by (try dsimp only [FRo, stE]); first | done | omega)
    refine at_iload dx_145_21 rfl ?_
    refine at_aload dx_145_22 rfl ?_
    refine at_getR dx_145_23 lc_856 rfl lt_856_15 ?_
    refine at_iload dx_145_24 rfl ?_
    refine at_aldI dx_145_25 lc_871 ln_871 (by first | omega | (simp (disch := omega) only [um_eq, um_k, um_j]; omega)) (by first | omega | (simp (disch := omega) only [um_eq, um_k, um_j]; omega)) (fun r25 => ?_)
    refine at_cgeR dx_145_26 rk r25 (fun c26 => ?_) (fun c26 => ?_)
    · skip
      have hR : RowOK M1 (fun j => Lc (fun i => mv M (cs M c i)) [1, 0] (s + 1 + j)) := by
        refine ⟨by omega, fun j h0 h1 => ?_⟩
        obtain ⟨q1, q2, q3⟩ := w j h0 (by omega)
        obtain ⟨q4, q5⟩ := Lc_step (g := fun i => mv M (cs M c i)) (i := s + 1 + j) (by decide) hrun (by omega) (by omega)
        have q6 : 0 ≤ cs M c (s + 1 + j) ∧ cs M c (s + 1 + j) ≤ 99 := by unfold cs; split <;> omega
        have q7 : mv M1 (cs M c (s + 1 + j)) = mv M (cs M c (s + 1 + j)) := mv_fe F (fun q j e h8 hq => by (try dsimp only [stE, FRo] at e hq); omega)
        unfold RowK
        rw [q1, q2, q3, q7]
        refine ⟨q6, Lc_r (by decide) hrun (by omega) (by omega), ?_, Or.inl ⟨rfl, q4, ?_⟩, Or.inl rfl⟩
        · dsimp only; rw [show s + 1 + (j + 1) = s + 1 + j + 1 by omega]; exact Lc_r (by decide) hrun (by omega) (by omega)
        · dsimp only; rw [show s + 1 + (j + 1) = s + 1 + j + 1 by omega]; exact q5
      have hcs : cs M c s = s := by unfold cs; rw [if_pos hs.2]
      have hst := Lc_step (g := fun i => mv M (cs M c i)) (i := s) (by decide) hrun hs.1 (by omega)
      have hms : mv M1 s = mv M (cs M c s) := by rw [hcs]; exact mv_fe F (fun q j e h8 hq => by (try dsimp only [stE, FRo] at e hq); omega)
      have hvs : okW (mv M1 s) (Lc (fun i => mv M (cs M c i)) [1, 0] s) := by rw [hms]; exact hst.1
      refine at_aload dx_145_35 rfl ?_
      refine at_iload dx_145_36 rfl ?_
      refine at_callVV dx_145_37 rfl lc_856 rfl (m_inverts (n := Lc (fun i => mv M (cs M c i)) [1, 0] s) rs (by omega) hvs (Lc_r (by decide) hrun hs.1 (by omega))) ?_
      rintro M37 ⟨F37, p37, q37, m37, c37⟩
      have hR37 : RowOK M37 (fun j => Lc (fun i => mv M (cs M c i)) [1, 0] (s + 1 + j)) := RowOK_fe hR F37 (fun q j h => Or.inr (Or.inl h))
      have er37 : M37 856 24 = r := by rw [F37 856 24 (by (try dsimp only [FRo, stE]); first | done | omega), er]
      refine at_aload dx_145_38 rfl ?_
      refine at_const (x := 0) dx_145_39 rfl ?_
      refine at_const (x := 100) dx_145_40 rfl ?_
      refine at_callVI dx_145_41 rfl lc_856 rfl (m_mapsStep (f := 0) (Ln := fun j => Lc (fun i => mv M (cs M c i)) [1, 0] (s + 1 + j)) (by decide) hR37 (by omega) (Lc_r (by decide) hrun (by omega) (by omega)).2 (by rw [er37]; exact (Lc_r (by decide) hrun (by omega) (by omega)).2) (by rw [Int.add_zero, hst.2]; rw [hms] at p37; exact p37)) ?_
      rintro x41 M41 r41 ⟨F41, b41, n41, t41, w41⟩
      rw [er37, show s + 1 + r = M 870 c + M 871 c by omega, Lc_end hrun, show ((dc M c).length : Int) = M 860 c by rw [dc_len]; omega] at w41
      have FS : frE wE M M41 := fe_tr (fe_tr (fe_le F (fun q j h => wE_R h)) (fe_le F37 (fun q j h => wE_S h))) (fe_le F41 (fun q j h => wE_X h))
      have v861100 : M41 861 100 = M37 861 100 := F41 861 100 (by (try dsimp only [FSx]); omega)
      have v863100 : M41 863 100 = M37 863 100 := F41 863 100 (by (try dsimp only [FSx]); omega)
      have v864100 : M41 864 100 = M37 864 100 := F41 864 100 (by (try dsimp only [FSx]); omega)
      have v867200 : M41 867 200 = M37 867 200 := F41 867 200 (by (try dsimp only [FSx]); omega)
      have v867201 : M41 867 201 = M37 867 201 := F41 867 201 (by (try dsimp only [FSx]); omega)
      have v860 : M41 860 c = M 860 c := FS 860 c (by (try dsimp only [wE]); omega)
      refine at_zeqR dx_145_42 r41 (fun c42 => ?_) (fun c42 => ?_)
      · skip
        refine at_const (x := 0) dx_145_49 rfl ?_
        refine at_zretI dx_145_50 (Or.inl rfl) ?_
        first | exact ⟨FT, Or.inr rfl, fun _ => w45 (by omega)⟩ | exact ⟨FT, Or.inl rfl, fun e => absurd e (by decide)⟩ | exact ⟨FS, Or.inl rfl, fun e => absurd e (by decide)⟩
      · skip
        refine at_aload dx_145_43 rfl ?_
        refine at_iload dx_145_44 rfl ?_
        refine at_callVI dx_145_45 rfl lc_856 rfl (m_canEdit2 rc hc (MI_wE hM FS) (okX100.mpr (by have h41 := w41 (by omega); unfold PSx at h41; unfold PSi at p37; omega))) ?_
        rintro x45 M45 r45 ⟨f45, b45, w45⟩
        have FT : frE wE M M45 := fe_tr FS (fe_le f45 (fun q j h => wE_C h))
        refine at_zeqR dx_145_46 r45 (fun c46 => ?_) (fun c46 => ?_)
        · skip
          refine at_const (x := 0) dx_145_49 rfl ?_
          refine at_zretI dx_145_50 (Or.inl rfl) ?_
          first | exact ⟨FT, Or.inr rfl, fun _ => w45 (by omega)⟩ | exact ⟨FT, Or.inl rfl, fun e => absurd e (by decide)⟩ | exact ⟨FS, Or.inl rfl, fun e => absurd e (by decide)⟩
        · skip
          refine at_const (x := 1) dx_145_47 rfl ?_
          refine at_goto dx_145_48 ?_
          refine at_zretI dx_145_50 (Or.inr rfl) ?_
          first | exact ⟨FT, Or.inr rfl, fun _ => w45 (by omega)⟩ | exact ⟨FT, Or.inl rfl, fun e => absurd e (by decide)⟩ | exact ⟨FS, Or.inl rfl, fun e => absurd e (by decide)⟩
    · skip
      refine at_aload dx_145_27 rfl ?_
      refine at_iload dx_145_28 rfl ?_
      refine at_iload dx_145_29 rfl ?_
      refine at_callSI dx_145_30 rfl rfl (m_place rc rk (by omega) (by omega)) ?_
      rintro x30 M9 r30 ⟨e9, h30⟩; replace e9 := e9.symm; subst e9; subst h30
      refine at_const (x := 0) dx_145_31 rfl ?_
      refine at_callVV dx_145_32 rfl lc_856 rfl (m_enters2 r30 (by decide) (Or.inl rfl) (by omega)) ?_
      rintro M32 ⟨f32, e32, x32, y32, z32, o32⟩
      refine at_iincR (y := 1) dx_145_33 rfl rfl (by constructor <;> omega) (fun r33 => ?_)
      refine at_goto dx_145_34 ?_
      refine ih _ (by omega) _ (r + 1) _ r33 (by omega) (by omega) rfl (fe_tr F f32) (by rw [e32, er]) (fun j h1 h2 => by
        by_cases ej : j = M1 856 24
        · subst ej
          refine ⟨?_, y32, z32⟩
          rw [x32]; unfold cs; rw [if_neg (by omega)]; omega
        · obtain ⟨q1, q2, q3⟩ := o32 j ej
          rw [q1, q2, q3]
          exact w j h1 (by omega))
  have l1 : ∀ (n9 : Nat) (k r : Int) (M1 : mem) (rk : inR k) (hk : s + 1 ≤ k ∧ k ≤ M 870 c) (hr : r = k - s - 1) (hn : (M 870 c - k).toNat = n9) (F : frE FRo M M1) (er : M1 856 24 = r) (w : ∀ j : Int, 0 ≤ j → j < r → M1 878 j = cs M c (s + 1 + j) ∧ M1 879 j = 0 ∧ M1 880 j = -1), At X 0 145 7 [vr 856, vi c, vi s, vi k] [] M1 (qI (fun x M' => frE wE M M' ∧ (x = 0 ∨ x = 1) ∧ (x = 1 → ready M' c))) := by
    intro n
    induction n using Nat.strongRecOn with
    | ind n ih =>
    intro k r M1 rk hk hr hn F er w
    have ev : M1 870 c = M 870 c := F 870 c (by (try dsimp only [FRo, stE]); first | done | omega)
    refine at_iload dx_145_7 rfl ?_
    refine at_aload dx_145_8 rfl ?_
    refine at_getR dx_145_9 lc_856 rfl lt_856_14 ?_
    refine at_iload dx_145_10 rfl ?_
    refine at_aldI dx_145_11 lc_870 ln_870 (by first | omega | (simp (disch := omega) only [um_eq, um_k, um_j]; omega)) (by first | omega | (simp (disch := omega) only [um_eq, um_k, um_j]; omega)) (fun r11 => ?_)
    refine at_cgeR dx_145_12 rk r11 (fun c12 => ?_) (fun c12 => ?_)
    · skip
      refine at_const (x := 0) dx_145_19 rfl ?_
      refine at_istore dx_145_20 ?_
      exact l2 _ 0 r _ (by decide) (by omega) (by omega) rfl F er w
    · skip
      refine at_aload dx_145_13 rfl ?_
      refine at_iload dx_145_14 rfl ?_
      refine at_const (x := 0) dx_145_15 rfl ?_
      refine at_callVV dx_145_16 rfl lc_856 rfl (m_enters2 rk (by decide) (Or.inl rfl) (by omega)) ?_
      rintro M16 ⟨f16, e16, x16, y16, z16, o16⟩
      refine at_iincR (y := 1) dx_145_17 rfl rfl (by constructor <;> omega) (fun r17 => ?_)
      refine at_goto dx_145_18 ?_
      refine ih _ (by omega) _ (r + 1) _ r17 (by omega) (by omega) rfl (fe_tr F f16) (by rw [e16, er]) (fun j h1 h2 => by
        by_cases ej : j = M1 856 24
        · subst ej
          refine ⟨?_, y16, z16⟩
          rw [x16]; unfold cs; rw [if_pos (by omega)]; omega
        · obtain ⟨q1, q2, q3⟩ := o16 j ej
          rw [q1, q2, q3]
          exact w j h1 (by omega))
  refine at_aload dx_145_0 rfl ?_
  refine at_const (x := 0) dx_145_1 rfl ?_
  refine at_putI 24 dx_145_2 lc_856 rfl rfl (by decide) ?_
  refine at_iload dx_145_3 rfl ?_
  refine at_const (x := 1) dx_145_4 rfl ?_
  refine at_addR dx_145_5 (by constructor <;> omega) (fun r5 => ?_)
  refine at_istore dx_145_6 ?_
  exact l1 _ _ 0 _ r5 (by omega) (by omega) rfl (fe_um (Or.inl ⟨rfl, rfl⟩)) (um_eq _ _ _ _) (fun j h1 h2 => by omega)

set_option maxRecDepth 100000 in
set_option maxHeartbeats 4000000 in
theorem y_revert {X : scr} {M : mem} {c s : Int} (rc : inR c) (rs : inR s) (hM : MI M) : At X 0 146 0 [vr 856, vi c, vi s] [] M (qI (fun _ M' => KR M M')) := by
  have F : frE wE M M := fe_rf
  have hS := fun h1 h2 => hM.1 c h1 h2
  have hmc := fun h1 h2 => (hM.2.2.2.2 c h1 h2).1
  have h13 := hM.2.1
  refine at_iload dx_146_0 rfl ?_
  refine at_callSI dx_146_1 rfl rfl (m_isClient rc) ?_
  rintro x1 M9 r1 ⟨e9, h1⟩; replace e9 := e9.symm; subst e9; replace h1 := ite01 h1
  refine at_zeqR dx_146_2 r1 (fun c2 => ?_) (fun c2 => ?_)
  · skip
    refine at_const (x := 0) dx_146_15 rfl ?_
    refine at_istore dx_146_16 ?_
    refine at_aload dx_146_17 rfl ?_
    refine at_iload dx_146_18 rfl ?_
    refine at_zneR dx_146_19 (by decide) (fun c => absurd c (by decide)) (fun _ => ?_)
    refine at_const (x := 1) dx_146_20 rfl ?_
    refine at_goto dx_146_21 ?_
    refine at_callVI dx_146_30 rfl lc_856 rfl (m_fails2 (by decide)) ?_
    rintro x30 M30 r30 ⟨f30, h30⟩; replace h30 := ite01 h30
    replace F : frE wE M _ := fe_tr F (fe_le f30 (fun q j h => by obtain ⟨rfl, rfl⟩ := h; exact wE_31))
    obtain rfl : x30 = 1 := by omega
    refine at_zeqR dx_146_31 (by decide) (fun c => absurd c (by decide)) (fun _ => ?_)
    refine at_const (x := 0) dx_146_32 rfl ?_
    refine at_iretI dx_146_33 (by decide) ?_
    first | exact ⟨KM_ed F k1 k2, fun e => by have := hmc (by omega) (by omega); omega⟩ | exact KR_w (MI_wE hM F) F
  · skip
    refine at_iload dx_146_3 rfl ?_
    refine at_const (x := 0) dx_146_4 rfl ?_
    refine at_aload dx_146_5 rfl ?_
    refine at_getR dx_146_6 lc_856 rfl lt_856_14 ?_
    refine at_iload dx_146_7 rfl ?_
    refine at_aldI dx_146_8 lc_870 ln_870 (by first | omega | (simp (disch := omega) only [um_eq, um_k, um_j]; omega)) (by first | omega | (simp (disch := omega) only [um_eq, um_k, um_j]; omega)) (fun r8 => ?_)
    refine at_const (x := 1) dx_146_9 rfl ?_
    refine at_subR dx_146_10 (by (have := hmc (by omega) (by omega); constructor <;> omega)) (fun r10 => ?_)
    refine at_callSI dx_146_11 rfl rfl (m_isIn rs (by decide) r10) ?_
    rintro x11 M9 r11 ⟨e9, h11⟩; replace e9 := e9.symm; subst e9; replace h11 := ite01 h11
    refine at_zeqR dx_146_12 r11 (fun c12 => ?_) (fun c12 => ?_)
    · skip
      refine at_const (x := 0) dx_146_15 rfl ?_
      refine at_istore dx_146_16 ?_
      refine at_aload dx_146_17 rfl ?_
      refine at_iload dx_146_18 rfl ?_
      refine at_zneR dx_146_19 (by decide) (fun c => absurd c (by decide)) (fun _ => ?_)
      refine at_const (x := 1) dx_146_20 rfl ?_
      refine at_goto dx_146_21 ?_
      refine at_callVI dx_146_30 rfl lc_856 rfl (m_fails2 (by decide)) ?_
      rintro x30 M30 r30 ⟨f30, h30⟩; replace h30 := ite01 h30
      replace F : frE wE M _ := fe_tr F (fe_le f30 (fun q j h => by obtain ⟨rfl, rfl⟩ := h; exact wE_31))
      obtain rfl : x30 = 1 := by omega
      refine at_zeqR dx_146_31 (by decide) (fun c => absurd c (by decide)) (fun _ => ?_)
      refine at_const (x := 0) dx_146_32 rfl ?_
      refine at_iretI dx_146_33 (by decide) ?_
      first | exact ⟨KM_ed F k1 k2, fun e => by have := hmc (by omega) (by omega); omega⟩ | exact KR_w (MI_wE hM F) F
    · skip
      refine at_const (x := 1) dx_146_13 rfl ?_
      refine at_goto dx_146_14 ?_
      refine at_istore dx_146_16 ?_
      refine at_aload dx_146_17 rfl ?_
      refine at_iload dx_146_18 rfl ?_
      refine at_zneR dx_146_19 (by decide) (fun _ => ?_) (fun c => absurd c (by decide))
      refine at_aload dx_146_22 rfl ?_
      refine at_iload dx_146_23 rfl ?_
      refine at_iload dx_146_24 rfl ?_
      refine at_callVI dx_146_25 rfl lc_856 rfl (x_canRevert rc rs hM (by omega) (by omega)) ?_
      rintro x25 M25 r25 ⟨f25, b25, hrd⟩
      replace F : frE wE M _ := f25
      refine at_zeqR dx_146_26 r25 (fun c26 => ?_) (fun c26 => ?_)
      · skip
        refine at_const (x := 2) dx_146_29 rfl ?_
        refine at_callVI dx_146_30 rfl lc_856 rfl (m_fails2 (by decide)) ?_
        rintro x30 M30 r30 ⟨f30, h30⟩; replace h30 := ite01 h30
        replace F : frE wE M _ := fe_tr F (fe_le f30 (fun q j h => by obtain ⟨rfl, rfl⟩ := h; exact wE_31))
        obtain rfl : x30 = 1 := by omega
        refine at_zeqR dx_146_31 (by decide) (fun c => absurd c (by decide)) (fun _ => ?_)
        refine at_const (x := 0) dx_146_32 rfl ?_
        refine at_iretI dx_146_33 (by decide) ?_
        first | exact ⟨KM_ed F k1 k2, fun e => by have := hmc (by omega) (by omega); omega⟩ | exact KR_w (MI_wE hM F) F
      · skip
        refine at_const (x := 0) dx_146_27 rfl ?_
        refine at_goto dx_146_28 ?_
        refine at_callVI dx_146_30 rfl lc_856 rfl (m_fails2 (by decide)) ?_
        rintro x30 M30 r30 ⟨f30, h30⟩; replace h30 := ite01 h30
        replace F : frE wE M _ := fe_tr F (fe_le f30 (fun q j h => by obtain ⟨rfl, rfl⟩ := h; exact wE_31))
        obtain rfl : x30 = 0 := by omega
        refine at_zeqR dx_146_31 (by decide) (fun _ => ?_) (fun c => absurd c (by decide))
        refine at_aload dx_146_34 rfl ?_
        refine at_iload dx_146_35 rfl ?_
        refine at_callVV dx_146_36 rfl lc_856 rfl (x_edits2 rc (by omega) (MI_wE hM F) (ready_fe (hrd (by omega)) (by omega) (by rw [(wE_c f25).1]; have := hM.1 c (by omega) (by omega); omega) f30 (fun q j h => Or.inl ⟨h.1, by rw [h.2]; decide⟩))) ?_
        rintro M36 ⟨k1, k2, -⟩
        refine at_aload dx_146_37 rfl ?_
        refine at_getR dx_146_38 lc_856 rfl lt_856_3 ?_
        refine at_iload dx_146_39 rfl ?_
        refine at_aldI dx_146_40 lc_860 ln_860 (by first | omega | (simp (disch := omega) only [um_eq, um_k, um_j]; omega)) (by first | omega | (simp (disch := omega) only [um_eq, um_k, um_j]; omega)) (fun r40 => ?_)
        refine at_iretI dx_146_41 r40 ?_
        first | exact ⟨KM_ed F k1 k2, fun e => by have := hmc (by omega) (by omega); omega⟩ | exact KR_w (MI_wE hM F) F

