/-! ===== the reference: its other calls, with what they leave as it was ===== -/
abbrev kE (q : Nat) (j : Int) : Prop := 856 ≤ q ∧ (q = 856 → j ≠ 13) ∧ q ≠ 857 ∧ q ≠ 858 ∧ q ≠ 873 ∧ q ≠ 874
abbrev KM (M M' : mem) : Prop := MI M' ∧ frE kE M M'
abbrev KR (M M' : mem) : Prop := KM M M' ∧ (M 856 13 = 0 → frE wE M M')
theorem kE_w {q : Nat} {j : Int} (h : wE q j) : kE q j := by
  rcases h with ⟨h1, h2⟩ | ⟨h1, h2⟩ | ⟨h1, h2⟩ | h | ⟨h1, h2⟩ | h
  · exact ⟨by omega, fun _ => by omega, by omega, by omega, by omega, by omega⟩
  · exact ⟨by omega, fun _ => by omega, by omega, by omega, by omega, by omega⟩
  · exact ⟨by omega, fun _ => by omega, by omega, by omega, by omega, by omega⟩
  · exact ⟨by omega, fun _ => by omega, by omega, by omega, by omega, by omega⟩
  · exact ⟨by omega, fun _ => by omega, by omega, by omega, by omega, by omega⟩
  · exact ⟨by omega, fun _ => by omega, by omega, by omega, by omega, by omega⟩
theorem kE_st {s : Int} {q : Nat} {j : Int} (h : stE s q j) : kE q j := by
  rcases h with ⟨h1, h2⟩ | ⟨h1, h2⟩ | ⟨h1, h2⟩
  · exact ⟨by omega, fun _ => by omega, by omega, by omega, by omega, by omega⟩
  · exact ⟨by omega, fun _ => by omega, by omega, by omega, by omega, by omega⟩
  · exact ⟨by omega, fun _ => by omega, by omega, by omega, by omega, by omega⟩
theorem kE_of {q : Nat} {j : Int} (h1 : 859 ≤ q) (h2 : q ≠ 873) (h3 : q ≠ 874) : kE q j := ⟨by omega, fun _ => by omega, by omega, by omega, h2, h3⟩
theorem kE_ed {c s : Int} {q : Nat} {j : Int} (h : (q = 859 ∧ 60 * c ≤ j ∧ j < 60 * c + 60) ∨ ((q = 860 ∨ q = 871) ∧ j = c) ∨ stE s q j) : kE q j := by
  rcases h with h | h | h
  · exact kE_of (by omega) (by omega) (by omega)
  · exact kE_of (by omega) (by omega) (by omega)
  · exact kE_st h
theorem kE_p {c n : Int} {q : Nat} {j : Int} (h : pE c n q j) : kE q j := by
  rcases h with h | h
  · exact kE_w h
  · exact kE_ed h
theorem KM_w {M M' : mem} (hM' : MI M') (F : frE wE M M') : KM M M' := ⟨hM', fe_le F (fun q j h => kE_w h)⟩
theorem KR_w {M M' : mem} (hM' : MI M') (F : frE wE M M') : KR M M' := ⟨KM_w hM' F, fun _ => F⟩
theorem KM_OM {M M' : mem} {c : Int} {cs : cfn} (h : OM c cs M M') : KM M M' := by
  rcases h with ⟨-, -, h | h⟩ | ⟨-, h1, h2⟩
  · obtain ⟨h1, -, D, -, -, h2, -⟩ := h
    exact ⟨h1, fe_le h2 (fun q j h => kE_p h)⟩
  · exact KM_w h.1 h.2.1
  · exact KM_w h1 h2
theorem KM_ed {M M1 M' : mem} {c s : Int} (F : frE wE M M1) (k1 : MI M') (k2 : frE (fun q j => (q = 859 ∧ 60 * c ≤ j ∧ j < 60 * c + 60) ∨ ((q = 860 ∨ q = 871) ∧ j = c) ∨ stE s q j) M1 M') : KM M M' := ⟨k1, fe_tr (fe_le F (fun q j h => kE_w h)) (fe_le k2 (fun q j h => kE_ed h))⟩
theorem KM_hi {M M' : mem} (h : KM M M') : fr hi M M' := fe_fr h.2 (fun q j h => h.1)
theorem wE_R {q : Nat} {j : Int} (h : FRo q j) : wE q j := by
  rcases h with ⟨h1, h2⟩ | h
  · exact Or.inl ⟨h1, by omega⟩
  · exact Or.inr (Or.inr (Or.inr (Or.inr (Or.inr (by omega)))))
theorem wE_X {q : Nat} {j : Int} (h : FSx q j) : wE q j := by
  rcases h with ⟨h1, h2⟩ | ⟨h1, h2⟩
  · exact Or.inl ⟨h1, by omega⟩
  · exact Or.inr (Or.inr (Or.inl ⟨by omega, by omega⟩))
theorem wE_S {q : Nat} {j : Int} (h : stE 100 q j) : wE q j := wE_T (by
  rcases h with ⟨h1, h2⟩ | ⟨h1, h2⟩ | ⟨h1, h2, h3⟩
  · exact Or.inl ⟨h1, by omega⟩
  · exact Or.inr (Or.inl ⟨h1, by omega⟩)
  · rcases (show q = 868 ∨ q = 869 by omega) with h9 | h9
    · exact Or.inr (Or.inr (Or.inl h9))
    · exact Or.inr (Or.inr (Or.inr ⟨h9, by omega⟩)))
theorem kE_B {c : Int} {x : Nat} {j : Int} (h : FBx c x j) : kE x j := by
  rcases h with h | ⟨h1, h2⟩ | ⟨h1, h2⟩ | ⟨h1, h2⟩ | h | ⟨h1, h2⟩ | h | h | h | h | ⟨h1, h2⟩ | ⟨h1, h2⟩
  · exact kE_w (wE_R h)
  · exact ⟨by omega, fun _ => by omega, by omega, by omega, by omega, by omega⟩
  · exact kE_of (by omega) (by omega) (by omega)
  · exact kE_of (by omega) (by omega) (by omega)
  · exact kE_of (by omega) (by omega) (by omega)
  · exact kE_of (by omega) (by omega) (by omega)
  · exact kE_of (by omega) (by omega) (by omega)
  · exact kE_of (by omega) (by omega) (by omega)
  · exact kE_of (by omega) (by omega) (by omega)
  · exact kE_of (by omega) (by omega) (by omega)
  · exact kE_of (by omega) (by omega) (by omega)
  · exact kE_of (by omega) (by omega) (by omega)
theorem kE_P {c : Int} {x : Nat} {j : Int} (h : FPx c x j) : kE x j := by
  rcases h with ⟨h1, h2⟩ | ⟨h1, h2⟩ | h | ⟨h1, h2⟩
  · exact kE_of (by omega) (by omega) (by omega)
  · exact kE_of (by omega) (by omega) (by omega)
  · exact kE_of (by omega) (by omega) (by omega)
  · exact kE_of (by omega) (by omega) (by omega)
theorem rebased2 {M M0 M1 MF : mem} {c q : Int} (hM : MI M) (hc : 0 ≤ c ∧ c ≤ 2) (hq : 0 ≤ q ∧ q ≤ M 871 c) (F0 : frE (FBx c) M M0) (hS : 0 ≤ M0 860 c ∧ M0 860 c ≤ 60) (hrun : RunW (kpV M0 q) (dc M 3) (dc M0 c)) (F1 : frE (FPx c) M0 M1) (hw : ∀ j : Int, 0 ≤ j → j < q → mv M1 (60 + 10 * c + j) = mv M0 (90 + j))
    (e : MF = um (um M1 871 c q) 870 c (M 856 13)) : KM M MF := by
  refine ⟨(rebased hM hc hq F0 hS hrun F1 hw e).1, ?_⟩
  rw [e]
  exact fe_ums (fe_ums (fe_tr (fe_le F0 (fun q j h => kE_B h)) (fe_le F1 (fun q j h => kE_P h))) (kE_of (by decide) (by decide) (by decide))) (kE_of (by decide) (by decide) (by decide))

set_option maxRecDepth 100000 in
set_option maxHeartbeats 4000000 in
theorem y_size {X : scr} {M : mem} {c : Int} (rc : inR c) (hM : MI M) : At X 0 155 0 [vr 856, vi c] [] M (qI (fun _ M' => MI M' ∧ frE wE M M')) := by
  have F : frE wE M M := fe_rf
  have hS := fun h1 h2 => hM.1 c h1 h2
  refine at_aload dx_155_0 rfl ?_
  refine at_iload dx_155_1 rfl ?_
  refine at_const (x := 0) dx_155_2 rfl ?_
  refine at_const (x := 3) dx_155_3 rfl ?_
  refine at_callSI dx_155_4 rfl rfl (m_isIn rc (by decide) (by decide)) ?_
  rintro x4 M9 r4 ⟨e9, h4⟩; replace e9 := e9.symm; subst e9; replace h4 := ite01 h4
  refine at_zeqR dx_155_5 r4 (fun c5 => ?_) (fun c5 => ?_)
  · skip
    refine at_const (x := 1) dx_155_8 rfl ?_
    refine at_callVI dx_155_9 rfl lc_856 rfl (m_fails2 (by decide)) ?_
    rintro x9 M9 r9 ⟨f9, h9⟩; replace h9 := ite01 h9
    replace F : frE wE M _ := fe_tr F (fe_le f9 (fun q j h => by obtain ⟨rfl, rfl⟩ := h; exact wE_31))
    obtain rfl : x9 = 1 := by omega
    have z9 := (wE_c F).1 c
    refine at_zeqR dx_155_10 (by decide) (fun c => absurd c (by decide)) (fun _ => ?_)
    refine at_const (x := 0) dx_155_11 rfl ?_
    refine at_goto dx_155_12 ?_
    refine at_iretI dx_155_17 (by decide) ?_
    exact ⟨MI_wE hM F, F⟩
  · skip
    refine at_const (x := 0) dx_155_6 rfl ?_
    refine at_goto dx_155_7 ?_
    refine at_callVI dx_155_9 rfl lc_856 rfl (m_fails2 (by decide)) ?_
    rintro x9 M9 r9 ⟨f9, h9⟩; replace h9 := ite01 h9
    replace F : frE wE M _ := fe_tr F (fe_le f9 (fun q j h => by obtain ⟨rfl, rfl⟩ := h; exact wE_31))
    obtain rfl : x9 = 0 := by omega
    have z9 := (wE_c F).1 c
    refine at_zeqR dx_155_10 (by decide) (fun _ => ?_) (fun c => absurd c (by decide))
    refine at_aload dx_155_13 rfl ?_
    refine at_getR dx_155_14 lc_856 rfl lt_856_3 ?_
    refine at_iload dx_155_15 rfl ?_
    refine at_aldI dx_155_16 lc_860 ln_860 (by omega) (by omega) (fun r16 => ?_)
    refine at_iretI dx_155_17 r16 ?_
    exact ⟨MI_wE hM F, F⟩

set_option maxRecDepth 100000 in
set_option maxHeartbeats 4000000 in
theorem y_token {X : scr} {M : mem} {c p : Int} (rc : inR c) (rp : inR p) (hM : MI M) : At X 0 156 0 [vr 856, vi c, vi p] [] M (qI (fun _ M' => MI M' ∧ frE wE M M')) := by
  have F : frE wE M M := fe_rf
  have hS := fun h1 h2 => hM.1 c h1 h2
  refine at_aload dx_156_0 rfl ?_
  refine at_iload dx_156_1 rfl ?_
  refine at_iload dx_156_2 rfl ?_
  refine at_callVI dx_156_3 rfl lc_856 rfl (m_isPlace rc rp) ?_
  rintro x3 M9 r3 ⟨e9, h3⟩; replace e9 := e9.symm; subst e9; replace h3 := ite01 h3
  refine at_zeqR dx_156_4 r3 (fun c4 => ?_) (fun c4 => ?_)
  · skip
    refine at_const (x := 0) dx_156_13 rfl ?_
    refine at_istore dx_156_14 ?_
    refine at_aload dx_156_15 rfl ?_
    refine at_iload dx_156_16 rfl ?_
    refine at_zeqR dx_156_17 (by decide) (fun _ => ?_) (fun c => absurd c (by decide))
    refine at_const (x := 1) dx_156_20 rfl ?_
    refine at_callVI dx_156_21 rfl lc_856 rfl (m_fails2 (by decide)) ?_
    rintro x21 M21 r21 ⟨f21, h21⟩; replace h21 := ite01 h21
    replace F : frE wE M _ := fe_tr F (fe_le f21 (fun q j h => by obtain ⟨rfl, rfl⟩ := h; exact wE_31))
    obtain rfl : x21 = 1 := by omega
    have z21 := (wE_c F).1 c
    refine at_zeqR dx_156_22 (by decide) (fun c => absurd c (by decide)) (fun _ => ?_)
    refine at_const (x := 0) dx_156_23 rfl ?_
    refine at_goto dx_156_24 ?_
    refine at_iretI dx_156_29 (by decide) ?_
    exact ⟨MI_wE hM F, F⟩
  · skip
    refine at_iload dx_156_5 rfl ?_
    refine at_aload dx_156_6 rfl ?_
    refine at_getR dx_156_7 lc_856 rfl lt_856_3 ?_
    refine at_iload dx_156_8 rfl ?_
    refine at_aldI dx_156_9 lc_860 ln_860 (by first | omega | (simp (disch := omega) only [um_eq, um_k, um_j]; omega)) (by first | omega | (simp (disch := omega) only [um_eq, um_k, um_j]; omega)) (fun r9 => ?_)
    refine at_cgeR dx_156_10 rp r9 (fun c10 => ?_) (fun c10 => ?_)
    · skip
      refine at_const (x := 0) dx_156_13 rfl ?_
      refine at_istore dx_156_14 ?_
      refine at_aload dx_156_15 rfl ?_
      refine at_iload dx_156_16 rfl ?_
      refine at_zeqR dx_156_17 (by decide) (fun _ => ?_) (fun c => absurd c (by decide))
      refine at_const (x := 1) dx_156_20 rfl ?_
      refine at_callVI dx_156_21 rfl lc_856 rfl (m_fails2 (by decide)) ?_
      rintro x21 M21 r21 ⟨f21, h21⟩; replace h21 := ite01 h21
      replace F : frE wE M _ := fe_tr F (fe_le f21 (fun q j h => by obtain ⟨rfl, rfl⟩ := h; exact wE_31))
      obtain rfl : x21 = 1 := by omega
      have z21 := (wE_c F).1 c
      refine at_zeqR dx_156_22 (by decide) (fun c => absurd c (by decide)) (fun _ => ?_)
      refine at_const (x := 0) dx_156_23 rfl ?_
      refine at_goto dx_156_24 ?_
      refine at_iretI dx_156_29 (by decide) ?_
      exact ⟨MI_wE hM F, F⟩
    · skip
      refine at_const (x := 1) dx_156_11 rfl ?_
      refine at_goto dx_156_12 ?_
      refine at_istore dx_156_14 ?_
      refine at_aload dx_156_15 rfl ?_
      refine at_iload dx_156_16 rfl ?_
      refine at_zeqR dx_156_17 (by decide) (fun c => absurd c (by decide)) (fun _ => ?_)
      refine at_const (x := 0) dx_156_18 rfl ?_
      refine at_goto dx_156_19 ?_
      refine at_callVI dx_156_21 rfl lc_856 rfl (m_fails2 (by decide)) ?_
      rintro x21 M21 r21 ⟨f21, h21⟩; replace h21 := ite01 h21
      replace F : frE wE M _ := fe_tr F (fe_le f21 (fun q j h => by obtain ⟨rfl, rfl⟩ := h; exact wE_31))
      obtain rfl : x21 = 0 := by omega
      have z21 := (wE_c F).1 c
      refine at_zeqR dx_156_22 (by decide) (fun _ => ?_) (fun c => absurd c (by decide))
      refine at_aload dx_156_25 rfl ?_
      refine at_iload dx_156_26 rfl ?_
      refine at_iload dx_156_27 rfl ?_
      refine at_callVI dx_156_28 rfl lc_856 rfl (m_tokenOf rc rp (by omega) (by have := hM.1 c (by omega) (by omega); omega)) ?_
      rintro x28 M9 r28 ⟨e9, h28⟩; replace e9 := e9.symm; subst e9
      refine at_iretI dx_156_29 r28 ?_
      exact ⟨MI_wE hM F, F⟩

set_option maxRecDepth 100000 in
set_option maxHeartbeats 4000000 in
theorem y_around {X : scr} {M : mem} {c p : Int} (rc : inR c) (rp : inR p) (hM : MI M) : At X 0 157 0 [vr 856, vi c, vi p] [] M (qI (fun _ M' => MI M' ∧ frE wE M M')) := by
  have F : frE wE M M := fe_rf
  have hS := fun h1 h2 => hM.1 c h1 h2
  refine at_aload dx_157_0 rfl ?_
  refine at_aload dx_157_1 rfl ?_
  refine at_iload dx_157_2 rfl ?_
  refine at_iload dx_157_3 rfl ?_
  refine at_callVI dx_157_4 rfl lc_856 rfl (m_isPlace rc rp) ?_
  rintro x4 M9 r4 ⟨e9, h4⟩; replace e9 := e9.symm; subst e9; replace h4 := ite01 h4
  refine at_zeqR dx_157_5 r4 (fun c5 => ?_) (fun c5 => ?_)
  · skip
    refine at_const (x := 1) dx_157_8 rfl ?_
    refine at_callVI dx_157_9 rfl lc_856 rfl (m_fails2 (by decide)) ?_
    rintro x9 M9 r9 ⟨f9, h9⟩; replace h9 := ite01 h9
    replace F : frE wE M _ := fe_tr F (fe_le f9 (fun q j h => by obtain ⟨rfl, rfl⟩ := h; exact wE_31))
    obtain rfl : x9 = 1 := by omega
    have z9 := (wE_c F).1 c
    refine at_zeqR dx_157_10 (by decide) (fun c => absurd c (by decide)) (fun _ => ?_)
    refine at_const (x := 0) dx_157_11 rfl ?_
    refine at_iretI dx_157_12 (by decide) ?_
    exact ⟨MI_wE hM F, F⟩
  · skip
    refine at_const (x := 0) dx_157_6 rfl ?_
    refine at_goto dx_157_7 ?_
    refine at_callVI dx_157_9 rfl lc_856 rfl (m_fails2 (by decide)) ?_
    rintro x9 M9 r9 ⟨f9, h9⟩; replace h9 := ite01 h9
    replace F : frE wE M _ := fe_tr F (fe_le f9 (fun q j h => by obtain ⟨rfl, rfl⟩ := h; exact wE_31))
    obtain rfl : x9 = 0 := by omega
    have z9 := (wE_c F).1 c
    refine at_zeqR dx_157_10 (by decide) (fun _ => ?_) (fun c => absurd c (by decide))
    refine at_aload dx_157_13 rfl ?_
    refine at_iload dx_157_14 rfl ?_
    refine at_iload dx_157_15 rfl ?_
    refine at_callVI dx_157_16 rfl lc_856 rfl (m_depthAt rc rp (by omega) (by rw [(wE_c F).1]; exact hM.1 c (by omega) (by omega)) (by rw [(wE_c F).1]; omega) (by rw [(wE_c F).2.2.1]; exact MI_bal hM (by omega))) ?_
    rintro x16 M16 r16 ⟨f16, d16, -, o16⟩
    replace F : frE wE M _ := fe_tr F (fe_le f16 (fun q j h => wE_C (by (try dsimp only at h); omega)))
    refine at_istore dx_157_17 ?_
    refine at_const (x := 10) dx_157_18 rfl ?_
    refine at_iload dx_157_19 rfl ?_
    refine at_mulW dx_157_20 ?_
    refine at_aload dx_157_21 rfl ?_
    refine at_getR dx_157_22 lc_856 rfl lt_856_29 ?_
    refine at_iload dx_157_23 rfl ?_
    refine at_aldI dx_157_24 lc_881 ln_881 (by omega) (by omega) (fun r24 => ?_)
    refine at_addW dx_157_25 ?_
    refine at_iretI dx_157_26 (inR_wr _) ?_
    exact ⟨MI_wE hM F, F⟩

set_option maxRecDepth 100000 in
set_option maxHeartbeats 4000000 in
theorem y_version {X : scr} {M : mem} {c : Int} (rc : inR c) (hM : MI M) : At X 0 153 0 [vr 856, vi c] [] M (qI (fun _ M' => MI M' ∧ frE wE M M')) := by
  have F : frE wE M M := fe_rf
  have hS := fun h1 h2 => hM.1 c h1 h2
  refine at_aload dx_153_0 rfl ?_
  refine at_iload dx_153_1 rfl ?_
  refine at_callSI dx_153_2 rfl rfl (m_isClient rc) ?_
  rintro x2 M9 r2 ⟨e9, h2⟩; replace e9 := e9.symm; subst e9; replace h2 := ite01 h2
  refine at_zeqR dx_153_3 r2 (fun c3 => ?_) (fun c3 => ?_)
  · skip
    refine at_const (x := 1) dx_153_6 rfl ?_
    refine at_callVI dx_153_7 rfl lc_856 rfl (m_fails2 (by decide)) ?_
    rintro x7 M7 r7 ⟨f7, h7⟩; replace h7 := ite01 h7
    replace F : frE wE M _ := fe_tr F (fe_le f7 (fun q j h => by obtain ⟨rfl, rfl⟩ := h; exact wE_31))
    obtain rfl : x7 = 1 := by omega
    have z7 := (wE_c F).1 c
    refine at_zeqR dx_153_8 (by decide) (fun c => absurd c (by decide)) (fun _ => ?_)
    refine at_const (x := 0) dx_153_9 rfl ?_
    refine at_goto dx_153_10 ?_
    refine at_iretI dx_153_22 (by decide) ?_
    exact ⟨MI_wE hM F, F⟩
  · skip
    refine at_const (x := 0) dx_153_4 rfl ?_
    refine at_goto dx_153_5 ?_
    refine at_callVI dx_153_7 rfl lc_856 rfl (m_fails2 (by decide)) ?_
    rintro x7 M7 r7 ⟨f7, h7⟩; replace h7 := ite01 h7
    replace F : frE wE M _ := fe_tr F (fe_le f7 (fun q j h => by obtain ⟨rfl, rfl⟩ := h; exact wE_31))
    obtain rfl : x7 = 0 := by omega
    have z7 := (wE_c F).1 c
    refine at_zeqR dx_153_8 (by decide) (fun _ => ?_) (fun c => absurd c (by decide))
    refine at_const (x := 100) dx_153_11 rfl ?_
    refine at_aload dx_153_12 rfl ?_
    refine at_getR dx_153_13 lc_856 rfl lt_856_14 ?_
    refine at_iload dx_153_14 rfl ?_
    refine at_aldI dx_153_15 lc_870 ln_870 (by first | omega | (simp (disch := omega) only [um_eq, um_k, um_j]; omega)) (by first | omega | (simp (disch := omega) only [um_eq, um_k, um_j]; omega)) (fun r15 => ?_)
    refine at_mulW dx_153_16 ?_
    refine at_aload dx_153_17 rfl ?_
    refine at_getR dx_153_18 lc_856 rfl lt_856_15 ?_
    refine at_iload dx_153_19 rfl ?_
    refine at_aldI dx_153_20 lc_871 ln_871 (by first | omega | (simp (disch := omega) only [um_eq, um_k, um_j]; omega)) (by first | omega | (simp (disch := omega) only [um_eq, um_k, um_j]; omega)) (fun r20 => ?_)
    refine at_addW dx_153_21 ?_
    refine at_iretI dx_153_22 (inR_wr _) ?_
    exact ⟨MI_wE hM F, F⟩

set_option maxRecDepth 100000 in
set_option maxHeartbeats 4000000 in
theorem y_of {X : scr} {M : mem} {b : Nat} {c : Int} (rc : inR c) (hb : ly_c b = 8) (nb : ly_n b = 3) (hM : MI M) : At X 0 151 0 [vr 856, vr b, vi c] [] M (qI (fun _ M' => MI M' ∧ frE wE M M')) := by
  have F : frE wE M M := fe_rf
  refine at_aload dx_151_0 rfl ?_
  refine at_iload dx_151_1 rfl ?_
  refine at_callSI dx_151_2 rfl rfl (m_isClient rc) ?_
  rintro x2 M9 r2 ⟨e9, h2⟩; replace e9 := e9.symm; subst e9; replace h2 := ite01 h2
  refine at_zeqR dx_151_3 r2 (fun c3 => ?_) (fun c3 => ?_)
  · skip
    refine at_const (x := 1) dx_151_6 rfl ?_
    refine at_callVI dx_151_7 rfl lc_856 rfl (m_fails2 (by decide)) ?_
    rintro x7 M7 r7 ⟨f7, h7⟩; replace h7 := ite01 h7
    replace F : frE wE M _ := fe_tr F (fe_le f7 (fun q j h => by obtain ⟨rfl, rfl⟩ := h; exact wE_31))
    obtain rfl : x7 = 1 := by omega
    have z7 := (wE_c F).1 c
    refine at_zeqR dx_151_8 (by decide) (fun c => absurd c (by decide)) (fun _ => ?_)
    refine at_const (x := 0) dx_151_9 rfl ?_
    refine at_goto dx_151_10 ?_
    refine at_iretI dx_151_14 (by decide) ?_
    exact ⟨MI_wE hM F, F⟩
  · skip
    refine at_const (x := 0) dx_151_4 rfl ?_
    refine at_goto dx_151_5 ?_
    refine at_callVI dx_151_7 rfl lc_856 rfl (m_fails2 (by decide)) ?_
    rintro x7 M7 r7 ⟨f7, h7⟩; replace h7 := ite01 h7
    replace F : frE wE M _ := fe_tr F (fe_le f7 (fun q j h => by obtain ⟨rfl, rfl⟩ := h; exact wE_31))
    obtain rfl : x7 = 0 := by omega
    have z7 := (wE_c F).1 c
    refine at_zeqR dx_151_8 (by decide) (fun _ => ?_) (fun c => absurd c (by decide))
    refine at_aload dx_151_11 rfl ?_
    refine at_iload dx_151_12 rfl ?_
    refine at_aldI dx_151_13 hb nb (by first | omega | (simp (disch := omega) only [um_eq, um_k, um_j]; omega)) (by first | omega | (simp (disch := omega) only [um_eq, um_k, um_j]; omega)) (fun r13 => ?_)
    refine at_iretI dx_151_14 r13 ?_
    exact ⟨MI_wE hM F, F⟩

set_option maxRecDepth 100000 in
set_option maxHeartbeats 4000000 in
theorem y_lost {X : scr} {M : mem} {c : Int} (rc : inR c) (hM : MI M) : At X 0 152 0 [vr 856, vi c] [] M (qI (fun _ M' => MI M' ∧ frE wE M M')) := by
  refine at_aload dx_152_0 rfl ?_
  refine at_aload dx_152_1 rfl ?_
  refine at_getR dx_152_2 lc_856 rfl lt_856_16 ?_
  refine at_iload dx_152_3 rfl ?_
  refine at_callVI dx_152_4 rfl lc_856 rfl (y_of rc lc_872 ln_872 hM) ?_
  rintro x4 M4 r4 h4
  refine at_iretI dx_152_5 r4 ?_
  exact h4

set_option maxRecDepth 100000 in
set_option maxHeartbeats 4000000 in
theorem y_commentAt {X : scr} {M : mem} {c : Int} (rc : inR c) (hM : MI M) : At X 0 159 0 [vr 856, vi c] [] M (qI (fun _ M' => MI M' ∧ frE wE M M')) := by
  have F : frE wE M M := fe_rf
  have hS := fun h1 h2 => hM.1 c h1 h2
  have hk := hM.2.2.1
  refine at_iload dx_159_0 rfl ?_
  refine at_const (x := 0) dx_159_1 rfl ?_
  refine at_aload dx_159_2 rfl ?_
  refine at_getI 19 dx_159_3 lc_856 rfl rfl (fun r3 => ?_)
  refine at_const (x := 1) dx_159_4 rfl ?_
  refine at_subR dx_159_5 (by constructor <;> omega) (fun r5 => ?_)
  refine at_callSI dx_159_6 rfl rfl (m_isIn rc (by decide) r5) ?_
  rintro x6 M9 r6 ⟨e9, h6⟩; replace e9 := e9.symm; subst e9; replace h6 := ite01 h6
  refine at_istore dx_159_7 ?_
  refine at_aload dx_159_8 rfl ?_
  refine at_iload dx_159_9 rfl ?_
  refine at_zeqR dx_159_10 r6 (fun c10 => ?_) (fun c10 => ?_)
  · skip
    refine at_const (x := 1) dx_159_13 rfl ?_
    refine at_callVI dx_159_14 rfl lc_856 rfl (m_fails2 (by decide)) ?_
    rintro x14 M14 r14 ⟨f14, h14⟩; replace h14 := ite01 h14
    replace F : frE wE M _ := fe_tr F (fe_le f14 (fun q j h => by obtain ⟨rfl, rfl⟩ := h; exact wE_31))
    obtain rfl : x14 = 1 := by omega
    have z14 := (wE_c F).1 c
    refine at_zeqR dx_159_15 (by decide) (fun c => absurd c (by decide)) (fun _ => ?_)
    refine at_const (x := 0) dx_159_16 rfl ?_
    refine at_goto dx_159_17 ?_
    refine at_iretI dx_159_37 (by decide) ?_
    exact ⟨MI_wE hM F, F⟩
  · skip
    refine at_const (x := 0) dx_159_11 rfl ?_
    refine at_goto dx_159_12 ?_
    refine at_callVI dx_159_14 rfl lc_856 rfl (m_fails2 (by decide)) ?_
    rintro x14 M14 r14 ⟨f14, h14⟩; replace h14 := ite01 h14
    replace F : frE wE M _ := fe_tr F (fe_le f14 (fun q j h => by obtain ⟨rfl, rfl⟩ := h; exact wE_31))
    obtain rfl : x14 = 0 := by omega
    have z14 := (wE_c F).1 c
    refine at_zeqR dx_159_15 (by decide) (fun _ => ?_) (fun c => absurd c (by decide))
    refine at_aload dx_159_18 rfl ?_
    refine at_getR dx_159_19 lc_856 rfl lt_856_20 ?_
    refine at_iload dx_159_20 rfl ?_
    refine at_aldI dx_159_21 lc_875 ln_875 (by first | omega | (simp (disch := omega) only [um_eq, um_k, um_j]; omega)) (by first | omega | (simp (disch := omega) only [um_eq, um_k, um_j]; omega)) (fun r21 => ?_)
    refine at_const (x := -1) dx_159_22 rfl ?_
    refine at_cneR dx_159_23 r21 (by decide) (fun c23 => ?_) (fun c23 => ?_)
    · skip
      refine at_const (x := 100) dx_159_26 rfl ?_
      refine at_aload dx_159_27 rfl ?_
      refine at_getR dx_159_28 lc_856 rfl lt_856_20 ?_
      refine at_iload dx_159_29 rfl ?_
      refine at_aldI dx_159_30 lc_875 ln_875 (by first | omega | (simp (disch := omega) only [um_eq, um_k, um_j]; omega)) (by first | omega | (simp (disch := omega) only [um_eq, um_k, um_j]; omega)) (fun r30 => ?_)
      refine at_mulW dx_159_31 ?_
      refine at_aload dx_159_32 rfl ?_
      refine at_getR dx_159_33 lc_856 rfl lt_856_21 ?_
      refine at_iload dx_159_34 rfl ?_
      refine at_aldI dx_159_35 lc_876 ln_876 (by first | omega | (simp (disch := omega) only [um_eq, um_k, um_j]; omega)) (by first | omega | (simp (disch := omega) only [um_eq, um_k, um_j]; omega)) (fun r35 => ?_)
      refine at_addW dx_159_36 ?_
      refine at_iretI dx_159_37 (inR_wr _) ?_
      exact ⟨MI_wE hM F, F⟩
    · skip
      refine at_const (x := -1) dx_159_24 rfl ?_
      refine at_goto dx_159_25 ?_
      refine at_iretI dx_159_37 (by decide) ?_
      exact ⟨MI_wE hM F, F⟩

set_option maxRecDepth 100000 in
set_option maxHeartbeats 4000000 in
theorem y_isBuilt {X : scr} {M : mem} (hM : MI M) : At X 0 154 0 [vr 856] [] M (qI (fun _ M' => MI M' ∧ frE wE M M')) := by
  have h13 := hM.2.1
  have h3 := hM.1 3 (by decide) (by decide)
  have lp : ∀ (n9 : Nat) (k : Int) (M1 : mem) (rk : inR k) (hk : 0 ≤ k ∧ k ≤ M 860 3) (hn : (M 860 3 - k).toNat = n9) (F : frE (fun q j => q = 877 ∨ (q = 856 ∧ (j = 23 ∨ j = 31)) ∨ q = 868) M M1) (el : M1 856 23 = M 860 3) (w : wk M1 = dc M 3), At X 0 154 20 [vr 856, vi 1, vi k] [] M1 (qI (fun _ M' => MI M' ∧ frE wE M M')) := by
    intro n
    induction n using Nat.strongRecOn with
    | ind n ih =>
    intro k M1 rk hk hn F el w
    refine at_iload dx_154_20 rfl ?_
    refine at_aload dx_154_21 rfl ?_
    refine at_getI 23 dx_154_22 lc_856 rfl rfl (fun r22 => ?_)
    refine at_cgeR dx_154_23 rk r22 (fun c23 => ?_) (fun c23 => ?_)
    · skip
      refine at_iload dx_154_41 rfl ?_
      refine at_zretI dx_154_42 (Or.inr rfl) ?_
      have FS : frE wE M M1 := fe_le F (fun q j h => by rcases h with h | ⟨h1, h2⟩ | h; exact wE_C (Or.inl h); exact Or.inl ⟨h1, by omega⟩; exact wE_C (Or.inr (Or.inr (Or.inl h))))
      exact ⟨MI_wE hM FS, FS⟩
    · skip
      refine at_iload dx_154_24 rfl ?_
      refine at_zeqR dx_154_25 (by decide) (fun c => absurd c (by decide)) (fun _ => ?_)
      refine at_aload dx_154_26 rfl ?_
      refine at_getR dx_154_27 lc_856 rfl lt_856_22 ?_
      refine at_iload dx_154_28 rfl ?_
      refine at_aldI dx_154_29 lc_877 ln_877 (by first | omega | (simp (disch := omega) only [um_eq, um_k, um_j]; omega)) (by first | omega | (simp (disch := omega) only [um_eq, um_k, um_j]; omega)) (fun r29 => ?_)
      refine at_aload dx_154_30 rfl ?_
      refine at_const (x := 3) dx_154_31 rfl ?_
      refine at_iload dx_154_32 rfl ?_
      refine at_callVI dx_154_33 rfl lc_856 rfl (m_tokenOf (by decide) rk (by decide) (by omega)) ?_
      rintro x33 M9 r33 ⟨e9, h33⟩; replace e9 := e9.symm; subst e9
      have hc33 : M1 877 k = x33 := by
        have h1 := wk_at (M := M1) (j := k.toNat) (by omega)
        have h2 := dc_at (M := M) (d := 3) (j := k.toNat) (by omega)
        rw [Int.toNat_of_nonneg hk.1] at h1 h2
        rw [← h1, w, h2, h33]
        exact (F 859 _ (by (try dsimp only); omega)).symm
      refine at_cneR dx_154_34 r29 r33 (fun c34 => ?_) (fun c34 => ?_)
      · exfalso; omega
      · skip
        refine at_const (x := 1) dx_154_35 rfl ?_
        refine at_goto dx_154_36 ?_
        refine at_istore dx_154_38 ?_
        refine at_iincR (y := 1) dx_154_39 rfl rfl (by constructor <;> omega) (fun r39 => ?_)
        refine at_goto dx_154_40 ?_
        exact ih _ (by omega) _ _ r39 (by omega) rfl F el w
  refine at_aload dx_154_0 rfl ?_
  refine at_const (x := 0) dx_154_1 rfl ?_
  refine at_putI 31 dx_154_2 lc_856 rfl rfl (by decide) ?_
  refine at_aload dx_154_3 rfl ?_
  refine at_aload dx_154_4 rfl ?_
  refine at_getI 13 dx_154_5 lc_856 rfl rfl (fun r5 => ?_)
  refine at_callVV dx_154_6 rfl lc_856 rfl (m_builds (b := dc M 3) r5 (by rw [um_j (by decide)]; exact h13) (by rw [um_j (by decide), lgW_fe (P := fun q j => q = 856 ∧ j = 31) (fe_um ⟨rfl, rfl⟩) (fun q j e => by (try dsimp only at e); omega)]; exact hM.2.2.2.1)) ?_
  rintro M6 ⟨F6, l6, w6⟩
  have F : frE (fun q j => q = 877 ∨ (q = 856 ∧ (j = 23 ∨ j = 31)) ∨ q = 868) M M6 := fe_tr (fe_um (Or.inr (Or.inl ⟨rfl, Or.inr rfl⟩))) (fe_le F6 (fun q j h => by (try dsimp only at h ⊢); omega))
  have el6 : M6 856 23 = M 860 3 := by have e9 := congrArg List.length w6; rw [wk_len, dc_len] at e9; omega
  have e860 : M6 860 3 = M 860 3 := F 860 3 (by (try dsimp only); omega)
  refine at_aload dx_154_7 rfl ?_
  refine at_getI 23 dx_154_8 lc_856 rfl rfl (fun r8 => ?_)
  refine at_aload dx_154_9 rfl ?_
  refine at_getR dx_154_10 lc_856 rfl lt_856_3 ?_
  refine at_const (x := 3) dx_154_11 rfl ?_
  refine at_aldI dx_154_12 lc_860 ln_860 (by decide) (by decide) (fun r12 => ?_)
  refine at_cneR dx_154_13 r8 r12 (fun c13 => ?_) (fun c13 => ?_)
  · exfalso; omega
  · skip
    refine at_const (x := 1) dx_154_14 rfl ?_
    refine at_goto dx_154_15 ?_
    refine at_istore dx_154_17 ?_
    refine at_const (x := 0) dx_154_18 rfl ?_
    refine at_istore dx_154_19 ?_
    exact lp _ 0 _ (by decide) (by omega) rfl F (by omega) w6

set_option maxRecDepth 100000 in
set_option maxHeartbeats 4000000 in
theorem y_comment {X : scr} {M : mem} {f t : Int} (rf : inR f) (rt : inR t) (hM : MI M) : At X 0 158 0 [vr 856, vi f, vi t] [] M (qI (fun _ M' => MI M' ∧ frE (fun q j => wE q j ∨ (q = 856 ∧ j = 19) ∨ q = 875 ∨ q = 876) M M')) := by
  have F : frE wE M M := fe_rf
  have hk := hM.2.2.1
  have hS := hM.1 3 (by decide) (by decide)
  refine at_aload dx_158_0 rfl ?_
  refine at_const (x := 3) dx_158_1 rfl ?_
  refine at_iload dx_158_2 rfl ?_
  refine at_callVI dx_158_3 rfl lc_856 rfl (m_isPlace (by decide) rf) ?_
  rintro x3 M9 r3 ⟨e9, h3⟩; replace e9 := e9.symm; subst e9; replace h3 := ite01 h3
  refine at_zeqR dx_158_4 r3 (fun c4 => ?_) (fun c4 => ?_)
  · skip
    refine at_const (x := 0) dx_158_12 rfl ?_
    refine at_istore dx_158_13 ?_
    refine at_aload dx_158_14 rfl ?_
    refine at_iload dx_158_15 rfl ?_
    refine at_zneR dx_158_16 (by decide) (fun c => absurd c (by decide)) (fun _ => ?_)
    refine at_const (x := 1) dx_158_17 rfl ?_
    refine at_goto dx_158_18 ?_
    refine at_callVI dx_158_31 rfl lc_856 rfl (m_fails2 (by decide)) ?_
    rintro x31 M31 r31 ⟨f31, h31⟩; replace h31 := ite01 h31
    replace F : frE wE M _ := fe_tr F (fe_le f31 (fun q j h => by obtain ⟨rfl, rfl⟩ := h; exact wE_31))
    obtain rfl : x31 = 1 := by omega
    refine at_zeqR dx_158_32 (by decide) (fun c => absurd c (by decide)) (fun _ => ?_)
    refine at_const (x := 0) dx_158_33 rfl ?_
    refine at_iretI dx_158_34 (by decide) ?_
    exact ⟨MI_wE hM F, fe_le F (fun q j h => Or.inl h)⟩
  · skip
    refine at_aload dx_158_5 rfl ?_
    refine at_const (x := 3) dx_158_6 rfl ?_
    refine at_iload dx_158_7 rfl ?_
    refine at_callVI dx_158_8 rfl lc_856 rfl (m_isPlace (by decide) rt) ?_
    rintro x8 M9 r8 ⟨e9, h8⟩; replace e9 := e9.symm; subst e9; replace h8 := ite01 h8
    refine at_zeqR dx_158_9 r8 (fun c9 => ?_) (fun c9 => ?_)
    · skip
      refine at_const (x := 0) dx_158_12 rfl ?_
      refine at_istore dx_158_13 ?_
      refine at_aload dx_158_14 rfl ?_
      refine at_iload dx_158_15 rfl ?_
      refine at_zneR dx_158_16 (by decide) (fun c => absurd c (by decide)) (fun _ => ?_)
      refine at_const (x := 1) dx_158_17 rfl ?_
      refine at_goto dx_158_18 ?_
      refine at_callVI dx_158_31 rfl lc_856 rfl (m_fails2 (by decide)) ?_
      rintro x31 M31 r31 ⟨f31, h31⟩; replace h31 := ite01 h31
      replace F : frE wE M _ := fe_tr F (fe_le f31 (fun q j h => by obtain ⟨rfl, rfl⟩ := h; exact wE_31))
      obtain rfl : x31 = 1 := by omega
      refine at_zeqR dx_158_32 (by decide) (fun c => absurd c (by decide)) (fun _ => ?_)
      refine at_const (x := 0) dx_158_33 rfl ?_
      refine at_iretI dx_158_34 (by decide) ?_
      exact ⟨MI_wE hM F, fe_le F (fun q j h => Or.inl h)⟩
    · skip
      refine at_const (x := 1) dx_158_10 rfl ?_
      refine at_goto dx_158_11 ?_
      refine at_istore dx_158_13 ?_
      refine at_aload dx_158_14 rfl ?_
      refine at_iload dx_158_15 rfl ?_
      refine at_zneR dx_158_16 (by decide) (fun _ => ?_) (fun c => absurd c (by decide))
      refine at_iload dx_158_19 rfl ?_
      refine at_iload dx_158_20 rfl ?_
      refine at_cgtR dx_158_21 rt rf (fun c21 => ?_) (fun c21 => ?_)
      · skip
        refine at_aload dx_158_24 rfl ?_
        refine at_getI 19 dx_158_25 lc_856 rfl rfl (fun r25 => ?_)
        refine at_const (x := 10) dx_158_26 rfl ?_
        refine at_cneR dx_158_27 r25 (by decide) (fun c27 => ?_) (fun c27 => ?_)
        · skip
          refine at_const (x := 0) dx_158_30 rfl ?_
          refine at_callVI dx_158_31 rfl lc_856 rfl (m_fails2 (by decide)) ?_
          rintro x31 M31 r31 ⟨f31, h31⟩; replace h31 := ite01 h31
          replace F : frE wE M _ := fe_tr F (fe_le f31 (fun q j h => by obtain ⟨rfl, rfl⟩ := h; exact wE_31))
          obtain rfl : x31 = 0 := by omega
          refine at_zeqR dx_158_32 (by decide) (fun _ => ?_) (fun c => absurd c (by decide))
          have e19 : M31 856 19 = M 856 19 := f31 856 19 (by decide)
          refine at_aload dx_158_35 rfl ?_
          refine at_getR dx_158_36 lc_856 rfl lt_856_20 ?_
          refine at_aload dx_158_37 rfl ?_
          refine at_getI 19 dx_158_38 lc_856 rfl rfl (fun r38 => ?_)
          refine at_iload dx_158_39 rfl ?_
          refine at_astI dx_158_40 lc_875 ln_875 (by first | omega | (simp (disch := omega) only [um_eq, um_k, um_j]; omega)) (by first | omega | (simp (disch := omega) only [um_eq, um_k, um_j]; omega)) rf ?_
          refine at_aload dx_158_41 rfl ?_
          refine at_getR dx_158_42 lc_856 rfl lt_856_21 ?_
          refine at_aload dx_158_43 rfl ?_
          refine at_getI 19 dx_158_44 lc_856 rfl rfl (fun r44 => ?_)
          refine at_iload dx_158_45 rfl ?_
          refine at_astI dx_158_46 lc_876 ln_876 (by first | omega | (simp (disch := omega) only [um_eq, um_k, um_j]; omega)) (by first | omega | (simp (disch := omega) only [um_eq, um_k, um_j]; omega)) rt ?_
          refine at_aload dx_158_47 rfl ?_
          refine at_dup dx_158_48 rfl ?_
          refine at_getI 19 dx_158_49 lc_856 rfl rfl (fun r49 => ?_)
          refine at_const (x := 1) dx_158_50 rfl ?_
          refine at_addR dx_158_51 (by (first | (constructor <;> omega) | (simp (disch := omega) only [um_k, um_j, um_eq]; constructor <;> omega))) (fun r51 => ?_)
          refine at_putI 19 dx_158_52 lc_856 rfl rfl r51 ?_
          refine at_aload dx_158_53 rfl ?_
          refine at_getI 19 dx_158_54 lc_856 rfl rfl (fun r54 => ?_)
          refine at_const (x := 1) dx_158_55 rfl ?_
          refine at_subR dx_158_56 (by (first | (constructor <;> omega) | (simp (disch := omega) only [um_k, um_j, um_eq]; constructor <;> omega))) (fun r56 => ?_)
          refine at_iretI dx_158_57 r56 ?_
          have Fs : frE sqE M M31 := fe_le F (fun q j h => wE_sq h)
          have hs : ∀ a b : Int, MI (um (um M31 875 (M31 856 19) a) 876 (um M31 875 (M31 856 19) a 856 19) b) := fun a b => MI_sq hM (fe_ums (fe_ums Fs (Or.inr (Or.inr (Or.inr (Or.inr (Or.inr (Or.inr (Or.inr (by decide))))))))) (Or.inr (Or.inr (Or.inr (Or.inr (Or.inr (Or.inr (Or.inr (by decide)))))))))
          refine ⟨MI_19 (hs _ _) ?_, ?_⟩
          · simp (disch := omega) only [um_k]; omega
          · exact fe_ums (fe_ums (fe_ums (fe_le F (fun q j h => Or.inl h)) (Or.inr (Or.inr (Or.inl rfl)))) (Or.inr (Or.inr (Or.inr rfl)))) (Or.inr (Or.inl ⟨rfl, rfl⟩))
        · skip
          refine at_const (x := 3) dx_158_28 rfl ?_
          refine at_goto dx_158_29 ?_
          refine at_callVI dx_158_31 rfl lc_856 rfl (m_fails2 (by decide)) ?_
          rintro x31 M31 r31 ⟨f31, h31⟩; replace h31 := ite01 h31
          replace F : frE wE M _ := fe_tr F (fe_le f31 (fun q j h => by obtain ⟨rfl, rfl⟩ := h; exact wE_31))
          obtain rfl : x31 = 1 := by omega
          refine at_zeqR dx_158_32 (by decide) (fun c => absurd c (by decide)) (fun _ => ?_)
          refine at_const (x := 0) dx_158_33 rfl ?_
          refine at_iretI dx_158_34 (by decide) ?_
          exact ⟨MI_wE hM F, fe_le F (fun q j h => Or.inl h)⟩
      · skip
        refine at_const (x := 2) dx_158_22 rfl ?_
        refine at_goto dx_158_23 ?_
        refine at_callVI dx_158_31 rfl lc_856 rfl (m_fails2 (by decide)) ?_
        rintro x31 M31 r31 ⟨f31, h31⟩; replace h31 := ite01 h31
        replace F : frE wE M _ := fe_tr F (fe_le f31 (fun q j h => by obtain ⟨rfl, rfl⟩ := h; exact wE_31))
        obtain rfl : x31 = 1 := by omega
        refine at_zeqR dx_158_32 (by decide) (fun c => absurd c (by decide)) (fun _ => ?_)
        refine at_const (x := 0) dx_158_33 rfl ?_
        refine at_iretI dx_158_34 (by decide) ?_
        exact ⟨MI_wE hM F, fe_le F (fun q j h => Or.inl h)⟩

