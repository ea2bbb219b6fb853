/-! ===== the calls of the class: edits and reads ===== -/
abbrev ER (S : List Nat) (M : mem) (e : Nat) (M' : mem) : Prop := e ∈ S ∧ CI M' ∧ fr lo M M'
set_option maxRecDepth 100000 in
set_option maxHeartbeats 4000000 in
theorem c_documentOf {X : scr} {M : mem} {x : Int} (hx : inR x) : At X 0 73 0 [vr 0, vi x] [] M (qT (qR (fun k M' => M' = M ∧ ly_c k = 5 ∧ (k = 6 ∨ 592 ≤ k))) (fun e M' => e = 0 ∧ M' = M)) := by
  refine at_iload dx_73_0 rfl ?_
  refine at_const (x := 3) dx_73_1 rfl ?_
  refine at_cneR dx_73_2 hx (by decide) (fun c2 => ?_) (fun c2 => ?_)
  · skip
    refine at_aload dx_73_6 rfl ?_
    refine at_iload dx_73_7 rfl ?_
    refine at_callVRT dx_73_8 rfl lc_0 rfl (c_clientOf hx) ?_ ?_
    rotate_left
    · rintro e M9 ⟨he, e9⟩; replace e9 := e9.symm; subst e9; exact Or.inr ⟨e, rfl, rfl, he, rfl⟩
    rintro c M9 ⟨e9, h0, h3, hcx, hc⟩; replace e9 := e9.symm; subst e9
    have h8 := cl_al hc
    refine at_getR dx_73_9 hc rfl (cl_t5 hc) ?_
    refine at_aretRT dx_73_10 ?_
    first | exact ⟨rfl, lc_6, Or.inl rfl⟩ | exact ⟨rfl, cl_c4 hc, Or.inr (by omega)⟩
  · skip
    refine at_aload dx_73_3 rfl ?_
    refine at_getR dx_73_4 lc_0 rfl lt_0_1 ?_
    refine at_goto dx_73_5 ?_
    refine at_aretRT dx_73_10 ?_
    first | exact ⟨rfl, lc_6, Or.inl rfl⟩ | exact ⟨rfl, cl_c4 hc, Or.inr (by omega)⟩

set_option maxRecDepth 100000 in
set_option maxHeartbeats 4000000 in
theorem p_type {X : scr} {M : mem} {x p l : Int} (rx : inR x) (rp : inR p) (rl : inR l) (hC : CI M) : At X 0 48 0 [vr 0, vi x, vi p, vi l] [] M (qT (qI (fun x M' => CI M' ∧ fr lo M M')) (ER [0, 2] M)) := by
  have F : fr sq M M := fr_rf
  have T : TI M := hC.1
  have G : RI M := hC.2.1
  refine at_aload dx_48_0 rfl ?_
  refine at_iload dx_48_1 rfl ?_
  refine at_callVRT dx_48_2 rfl lc_0 rfl (c_clientOf rx) ?_ ?_
  rotate_left
  · rintro e M9 ⟨he, e9⟩; replace e9 := e9.symm; subst e9; exact Or.inr ⟨e, rfl, rfl, by simp only [List.mem_cons, List.not_mem_nil, or_false]; omega, hC, fr_rf⟩
  rintro c M9 ⟨e9, h0, h3, hcx, hc⟩; replace e9 := e9.symm; subst e9
  have h8 := cl_al hc
  refine at_astore dx_48_3 ?_
  refine at_aload dx_48_4 rfl ?_
  refine at_getR dx_48_5 hc rfl (cl_t5 hc) ?_
  refine at_iload dx_48_6 rfl ?_
  refine at_callSVT dx_48_7 rfl rfl (c_checkPosition (cl_c4 hc) rp) ?_ ?_
  rotate_left
  · rintro e M9 ⟨he, e9⟩; replace e9 := e9.symm; subst e9; exact Or.inr ⟨e, rfl, rfl, by simp only [List.mem_cons, List.not_mem_nil, or_false]; omega, hC, fr_rf⟩
  rintro M9 ⟨e9, p0, p1⟩; replace e9 := e9.symm; subst e9
  refine at_iload dx_48_8 rfl ?_
  refine at_zltR dx_48_9 rl (fun c9 => ?_) (fun c9 => ?_)
  · skip
    refine at_thrT dx_48_13 rfl ?_
    first | exact ⟨by decide, hC, fr_rf⟩ | exact ⟨by decide, CI_sq hC F T G, fr_le F (fun q h => by (try dsimp only [blk, sq, cq, sd, lo] at h ⊢); first | done | omega)⟩
  · skip
    refine at_iload dx_48_10 rfl ?_
    refine at_const (x := 26) dx_48_11 rfl ?_
    refine at_cltR dx_48_12 rl (by decide) (fun c12 => ?_) (fun c12 => ?_)
    · skip
      refine at_aload dx_48_14 rfl ?_
      refine at_getR dx_48_15 lc_0 rfl lt_0_8 ?_
      refine at_callVV dx_48_16 rfl lc_12 rfl (c_becomeChangeW lc_12 T) ?_
      rintro M16 ⟨f16, i16⟩
      replace F : fr sq M _ := fr_tr F (fr_le f16 (fun q h => by (try dsimp only [blk, sq, cq, sd, lo] at h ⊢); first | done | omega))
      replace G := RI_fr f16 (by (try dsimp only [blk, sq, cq, sd, lo]); first | done | omega) G
      replace T := i16
      refine at_aload dx_48_17 rfl ?_
      refine at_getR dx_48_18 lc_0 rfl lt_0_8 ?_
      refine at_iload dx_48_19 rfl ?_
      refine at_const (x := 0) dx_48_20 rfl ?_
      refine at_callVV dx_48_21 rfl lc_12 rfl (c_addRange lc_12 rp (by decide) T) ?_
      rintro M21 ⟨f21, i21⟩
      replace F : fr sq M _ := fr_tr F (fr_le f21 (fun q h => by (try dsimp only [blk, sq, cq, sd, lo] at h ⊢); first | done | omega))
      replace G := RI_fr f21 (by (try dsimp only [blk, sq, cq, sd, lo]); first | done | omega) G
      replace T := i21
      refine at_aload dx_48_22 rfl ?_
      refine at_getR dx_48_23 lc_0 rfl lt_0_8 ?_
      refine at_const (x := 100) dx_48_24 rfl ?_
      refine at_const (x := 4) dx_48_25 rfl ?_
      refine at_iload dx_48_26 rfl ?_
      refine at_mulR dx_48_27 (by constructor <;> omega) (fun r27 => ?_)
      refine at_addR dx_48_28 (by constructor <;> omega) (fun r28 => ?_)
      refine at_callVV dx_48_29 rfl lc_12 rfl (c_addPut lc_12 r28 T) ?_
      rintro M29 ⟨f29, i29⟩
      replace F : fr sq M _ := fr_tr F (fr_le f29 (fun q h => by (try dsimp only [blk, sq, cq, sd, lo] at h ⊢); first | done | omega))
      replace G := RI_fr f29 (by (try dsimp only [blk, sq, cq, sd, lo]); first | done | omega) G
      replace T := i29
      refine at_aload dx_48_30 rfl ?_
      refine at_aload dx_48_31 rfl ?_
      refine at_callVVT dx_48_32 rfl lc_0 rfl (c_addPending hc (CI_sq hC F T G)) ?_ ?_
      rotate_left
      · rintro e M9 ⟨he, k1, k2⟩; exact Or.inr ⟨e, rfl, rfl, by simp only [List.mem_cons, List.not_mem_nil, or_false]; omega, k1, fr_tr (fr_le F (fun q h => by (try dsimp only [blk, sq, cq, sd, lo] at h ⊢); first | done | omega)) k2⟩
      rintro M8 ⟨k1, k2, -⟩; replace k2 := fr_tr (fr_le F (fun q h => by (try dsimp only [blk, sq, cq, sd, lo] at h ⊢); first | done | omega)) k2
      refine at_aload dx_48_33 rfl ?_
      refine at_getR dx_48_34 hc rfl (cl_t5 hc) ?_
      refine at_getI 1 dx_48_35 (cl_c4 hc) rfl rfl (fun r35 => ?_)
      refine at_iretIT dx_48_36 r35 ?_
      first | exact ⟨k1, k2⟩ | exact ⟨hC, fr_rf⟩ | exact ⟨CI_sq hC F T G, fr_le F (fun q h => by (try dsimp only [blk, sq, cq, sd, lo] at h ⊢); first | done | omega)⟩
    · skip
      refine at_thrT dx_48_13 rfl ?_
      first | exact ⟨by decide, hC, fr_rf⟩ | exact ⟨by decide, CI_sq hC F T G, fr_le F (fun q h => by (try dsimp only [blk, sq, cq, sd, lo] at h ⊢); first | done | omega)⟩

set_option maxRecDepth 100000 in
set_option maxHeartbeats 4000000 in
theorem p_erase {X : scr} {M : mem} {x f t : Int} (rx : inR x) (rf : inR f) (rt : inR t) (hC : CI M) : At X 0 49 0 [vr 0, vi x, vi f, vi t] [] M (qT (qI (fun x M' => CI M' ∧ fr lo M M')) (ER [0, 1, 2] M)) := by
  have F : fr sq M M := fr_rf
  have T : TI M := hC.1
  have G : RI M := hC.2.1
  refine at_aload dx_49_0 rfl ?_
  refine at_iload dx_49_1 rfl ?_
  refine at_callVRT dx_49_2 rfl lc_0 rfl (c_clientOf rx) ?_ ?_
  rotate_left
  · rintro e M9 ⟨he, e9⟩; replace e9 := e9.symm; subst e9; exact Or.inr ⟨e, rfl, rfl, by simp only [List.mem_cons, List.not_mem_nil, or_false]; omega, hC, fr_rf⟩
  rintro c M9 ⟨e9, h0, h3, hcx, hc⟩; replace e9 := e9.symm; subst e9
  have h8 := cl_al hc
  refine at_astore dx_49_3 ?_
  refine at_aload dx_49_4 rfl ?_
  refine at_getR dx_49_5 hc rfl (cl_t5 hc) ?_
  refine at_iload dx_49_6 rfl ?_
  refine at_iload dx_49_7 rfl ?_
  refine at_callSVT dx_49_8 rfl rfl (c_checkStretch (cl_c4 hc) rf rt) ?_ ?_
  rotate_left
  · rintro e M9 ⟨he, e9⟩; replace e9 := e9.symm; subst e9; exact Or.inr ⟨e, rfl, rfl, by simp only [List.mem_cons, List.not_mem_nil, or_false]; omega, hC, fr_rf⟩
  rintro M9 ⟨e9, p0, p1, p2⟩; replace e9 := e9.symm; subst e9
  refine at_aload dx_49_9 rfl ?_
  refine at_getR dx_49_10 lc_0 rfl lt_0_8 ?_
  refine at_callVV dx_49_11 rfl lc_12 rfl (c_becomeChangeW lc_12 T) ?_
  rintro M11 ⟨f11, i11⟩
  replace F : fr sq M _ := fr_tr F (fr_le f11 (fun q h => by (try dsimp only [blk, sq, cq, sd, lo] at h ⊢); first | done | omega))
  replace G := RI_fr f11 (by (try dsimp only [blk, sq, cq, sd, lo]); first | done | omega) G
  replace T := i11
  refine at_aload dx_49_12 rfl ?_
  refine at_getR dx_49_13 lc_0 rfl lt_0_8 ?_
  refine at_iload dx_49_14 rfl ?_
  refine at_iload dx_49_15 rfl ?_
  refine at_iload dx_49_16 rfl ?_
  refine at_subR dx_49_17 (by constructor <;> omega) (fun r17 => ?_)
  refine at_callVV dx_49_18 rfl lc_12 rfl (c_addRange lc_12 rf r17 T) ?_
  rintro M18 ⟨f18, i18⟩
  replace F : fr sq M _ := fr_tr F (fr_le f18 (fun q h => by (try dsimp only [blk, sq, cq, sd, lo] at h ⊢); first | done | omega))
  replace G := RI_fr f18 (by (try dsimp only [blk, sq, cq, sd, lo]); first | done | omega) G
  replace T := i18
  refine at_aload dx_49_19 rfl ?_
  refine at_aload dx_49_20 rfl ?_
  refine at_callVVT dx_49_21 rfl lc_0 rfl (c_addPending hc (CI_sq hC F T G)) ?_ ?_
  rotate_left
  · rintro e M9 ⟨he, k1, k2⟩; exact Or.inr ⟨e, rfl, rfl, by simp only [List.mem_cons, List.not_mem_nil, or_false]; omega, k1, fr_tr (fr_le F (fun q h => by (try dsimp only [blk, sq, cq, sd, lo] at h ⊢); first | done | omega)) k2⟩
  rintro M8 ⟨k1, k2, -⟩; replace k2 := fr_tr (fr_le F (fun q h => by (try dsimp only [blk, sq, cq, sd, lo] at h ⊢); first | done | omega)) k2
  refine at_aload dx_49_22 rfl ?_
  refine at_getR dx_49_23 hc rfl (cl_t5 hc) ?_
  refine at_getI 1 dx_49_24 (cl_c4 hc) rfl rfl (fun r24 => ?_)
  refine at_iretIT dx_49_25 r24 ?_
  first | exact ⟨k1, k2⟩ | exact ⟨hC, fr_rf⟩ | exact ⟨CI_sq hC F T G, fr_le F (fun q h => by (try dsimp only [blk, sq, cq, sd, lo] at h ⊢); first | done | omega)⟩

set_option maxRecDepth 100000 in
set_option maxHeartbeats 4000000 in
theorem p_split {X : scr} {M : mem} {x p : Int} (rx : inR x) (rp : inR p) (hC : CI M) : At X 0 50 0 [vr 0, vi x, vi p] [] M (qT (qI (fun x M' => CI M' ∧ fr lo M M')) (ER [0, 2] M)) := by
  have F : fr sq M M := fr_rf
  have T : TI M := hC.1
  have G : RI M := hC.2.1
  refine at_aload dx_50_0 rfl ?_
  refine at_iload dx_50_1 rfl ?_
  refine at_callVRT dx_50_2 rfl lc_0 rfl (c_clientOf rx) ?_ ?_
  rotate_left
  · rintro e M9 ⟨he, e9⟩; replace e9 := e9.symm; subst e9; exact Or.inr ⟨e, rfl, rfl, by simp only [List.mem_cons, List.not_mem_nil, or_false]; omega, hC, fr_rf⟩
  rintro c M9 ⟨e9, h0, h3, hcx, hc⟩; replace e9 := e9.symm; subst e9
  have h8 := cl_al hc
  refine at_astore dx_50_3 ?_
  refine at_aload dx_50_4 rfl ?_
  refine at_getR dx_50_5 hc rfl (cl_t5 hc) ?_
  refine at_iload dx_50_6 rfl ?_
  refine at_callSVT dx_50_7 rfl rfl (c_checkPosition (cl_c4 hc) rp) ?_ ?_
  rotate_left
  · rintro e M9 ⟨he, e9⟩; replace e9 := e9.symm; subst e9; exact Or.inr ⟨e, rfl, rfl, by simp only [List.mem_cons, List.not_mem_nil, or_false]; omega, hC, fr_rf⟩
  rintro M9 ⟨e9, p0, p1⟩; replace e9 := e9.symm; subst e9
  refine at_aload dx_50_8 rfl ?_
  refine at_getR dx_50_9 hc rfl (cl_t5 hc) ?_
  refine at_iload dx_50_10 rfl ?_
  refine at_aload dx_50_11 rfl ?_
  refine at_getR dx_50_12 lc_0 rfl lt_0_14 ?_
  refine at_callVI dx_50_13 rfl (cl_c4 hc) rfl (c_findOpen (cl_c4 hc) rp lc_31 ln_31 (by omega) (by omega) (T _ (cl_c4 hc))) ?_
  rintro x13 M13 r13 ⟨f13, u13, v13⟩
  replace F : fr sq M _ := fr_tr F (fr_le f13 (fun q h => by (try dsimp only [blk, sq, cq, sd, lo] at h ⊢); first | done | omega))
  replace G := RI_fr f13 (by (try dsimp only [blk, sq, cq, sd, lo]); first | done | omega) G
  replace T : TI M13 := TI_no T f13 (fun q hq hP => by rw [hP, lc_31] at hq; exact absurd hq (by decide))
  refine at_istore dx_50_14 ?_
  refine at_aload dx_50_15 rfl ?_
  refine at_iload dx_50_16 rfl ?_
  refine at_callVI dx_50_17 rfl lc_0 rfl (c_innermost r13) ?_
  intro x17 M9 r17 e9; replace e9 := Eq.symm e9; subst e9
  refine at_istore dx_50_18 ?_
  refine at_iload dx_50_19 rfl ?_
  refine at_zneR dx_50_20 r13 (fun c20 => ?_) (fun c20 => ?_)
  · skip
    refine at_aload dx_50_22 rfl ?_
    refine at_getR dx_50_23 lc_0 rfl lt_0_8 ?_
    refine at_callVV dx_50_24 rfl lc_12 rfl (c_becomeChangeW lc_12 T) ?_
    rintro M24 ⟨f24, i24⟩
    replace F : fr sq M _ := fr_tr F (fr_le f24 (fun q h => by (try dsimp only [blk, sq, cq, sd, lo] at h ⊢); first | done | omega))
    replace G := RI_fr f24 (by (try dsimp only [blk, sq, cq, sd, lo]); first | done | omega) G
    replace T := i24
    refine at_aload dx_50_25 rfl ?_
    refine at_getR dx_50_26 lc_0 rfl lt_0_8 ?_
    refine at_iload dx_50_27 rfl ?_
    refine at_const (x := 0) dx_50_28 rfl ?_
    refine at_callVV dx_50_29 rfl lc_12 rfl (c_addRange lc_12 rp (by decide) T) ?_
    rintro M29 ⟨f29, i29⟩
    replace F : fr sq M _ := fr_tr F (fr_le f29 (fun q h => by (try dsimp only [blk, sq, cq, sd, lo] at h ⊢); first | done | omega))
    replace G := RI_fr f29 (by (try dsimp only [blk, sq, cq, sd, lo]); first | done | omega) G
    replace T := i29
    refine at_aload dx_50_30 rfl ?_
    refine at_getR dx_50_31 lc_0 rfl lt_0_8 ?_
    refine at_const (x := 0) dx_50_32 rfl ?_
    refine at_callVV dx_50_33 rfl lc_12 rfl (c_addPut lc_12 (by decide) T) ?_
    rintro M33 ⟨f33, i33⟩
    replace F : fr sq M _ := fr_tr F (fr_le f33 (fun q h => by (try dsimp only [blk, sq, cq, sd, lo] at h ⊢); first | done | omega))
    replace G := RI_fr f33 (by (try dsimp only [blk, sq, cq, sd, lo]); first | done | omega) G
    replace T := i33
    refine at_aload dx_50_34 rfl ?_
    refine at_getR dx_50_35 lc_0 rfl lt_0_8 ?_
    refine at_iload dx_50_36 rfl ?_
    refine at_callVV dx_50_37 rfl lc_12 rfl (c_addPut lc_12 r17 T) ?_
    rintro M37 ⟨f37, i37⟩
    replace F : fr sq M _ := fr_tr F (fr_le f37 (fun q h => by (try dsimp only [blk, sq, cq, sd, lo] at h ⊢); first | done | omega))
    replace G := RI_fr f37 (by (try dsimp only [blk, sq, cq, sd, lo]); first | done | omega) G
    replace T := i37
    refine at_aload dx_50_38 rfl ?_
    refine at_aload dx_50_39 rfl ?_
    refine at_callVVT dx_50_40 rfl lc_0 rfl (c_addPending hc (CI_sq hC F T G)) ?_ ?_
    rotate_left
    · rintro e M9 ⟨he, k1, k2⟩; exact Or.inr ⟨e, rfl, rfl, by simp only [List.mem_cons, List.not_mem_nil, or_false]; omega, k1, fr_tr (fr_le F (fun q h => by (try dsimp only [blk, sq, cq, sd, lo] at h ⊢); first | done | omega)) k2⟩
    rintro M8 ⟨k1, k2, -⟩; replace k2 := fr_tr (fr_le F (fun q h => by (try dsimp only [blk, sq, cq, sd, lo] at h ⊢); first | done | omega)) k2
    refine at_iload dx_50_41 rfl ?_
    refine at_iretIT dx_50_42 r17 ?_
    first | exact ⟨k1, k2⟩ | exact ⟨hC, fr_rf⟩ | exact ⟨CI_sq hC F T G, fr_le F (fun q h => by (try dsimp only [blk, sq, cq, sd, lo] at h ⊢); first | done | omega)⟩
  · skip
    refine at_thrT dx_50_21 rfl ?_
    first | exact ⟨by decide, hC, fr_rf⟩ | exact ⟨by decide, CI_sq hC F T G, fr_le F (fun q h => by (try dsimp only [blk, sq, cq, sd, lo] at h ⊢); first | done | omega)⟩

set_option maxRecDepth 100000 in
set_option maxHeartbeats 4000000 in
theorem p_join {X : scr} {M : mem} {x p : Int} (rx : inR x) (rp : inR p) (hC : CI M) : At X 0 51 0 [vr 0, vi x, vi p] [] M (qT (qI (fun x M' => CI M' ∧ fr lo M M')) (ER [0, 2] M)) := by
  have F : fr sq M M := fr_rf
  have T : TI M := hC.1
  have G : RI M := hC.2.1
  refine at_aload dx_51_0 rfl ?_
  refine at_iload dx_51_1 rfl ?_
  refine at_callVRT dx_51_2 rfl lc_0 rfl (c_clientOf rx) ?_ ?_
  rotate_left
  · rintro e M9 ⟨he, e9⟩; replace e9 := e9.symm; subst e9; exact Or.inr ⟨e, rfl, rfl, by simp only [List.mem_cons, List.not_mem_nil, or_false]; omega, hC, fr_rf⟩
  rintro c M9 ⟨e9, h0, h3, hcx, hc⟩; replace e9 := e9.symm; subst e9
  have h8 := cl_al hc
  refine at_astore dx_51_3 ?_
  refine at_aload dx_51_4 rfl ?_
  refine at_getR dx_51_5 hc rfl (cl_t5 hc) ?_
  refine at_iload dx_51_6 rfl ?_
  refine at_callSVT dx_51_7 rfl rfl (c_checkPosition (cl_c4 hc) rp) ?_ ?_
  rotate_left
  · rintro e M9 ⟨he, e9⟩; replace e9 := e9.symm; subst e9; exact Or.inr ⟨e, rfl, rfl, by simp only [List.mem_cons, List.not_mem_nil, or_false]; omega, hC, fr_rf⟩
  rintro M9 ⟨e9, p0, p1⟩; replace e9 := e9.symm; subst e9
  refine at_aload dx_51_8 rfl ?_
  refine at_getR dx_51_9 hc rfl (cl_t5 hc) ?_
  refine at_iload dx_51_10 rfl ?_
  refine at_callVI dx_51_11 rfl (cl_c4 hc) rfl (c_at (cl_c4 hc) rp (T _ (cl_c4 hc))) ?_
  rintro x11 M9 r11 ⟨e9, h11⟩; replace e9 := e9.symm; subst e9
  refine at_istore dx_51_12 ?_
  refine at_aload dx_51_13 rfl ?_
  refine at_getR dx_51_14 hc rfl (cl_t5 hc) ?_
  refine at_iload dx_51_15 rfl ?_
  refine at_const (x := 1) dx_51_16 rfl ?_
  refine at_subR dx_51_17 (by constructor <;> omega) (fun r17 => ?_)
  refine at_callVI dx_51_18 rfl (cl_c4 hc) rfl (c_at (cl_c4 hc) r17 (T _ (cl_c4 hc))) ?_
  rintro x18 M9 r18 ⟨e9, h18⟩; replace e9 := e9.symm; subst e9
  refine at_zneR dx_51_19 r18 (fun c19 => ?_) (fun c19 => ?_)
  · skip
    refine at_thrT dx_51_23 rfl ?_
    first | exact ⟨by decide, hC, fr_rf⟩ | exact ⟨by decide, CI_sq hC F T G, fr_le F (fun q h => by (try dsimp only [blk, sq, cq, sd, lo] at h ⊢); first | done | omega)⟩
  · skip
    refine at_iload dx_51_20 rfl ?_
    refine at_callSI dx_51_21 rfl rfl (c_isOpening r11) ?_
    rintro x21 M9 r21 ⟨e9, h21⟩; replace e9 := e9.symm; subst e9
    refine at_zneR dx_51_22 r21 (fun c22 => ?_) (fun c22 => ?_)
    · skip
      refine at_aload dx_51_24 rfl ?_
      refine at_getR dx_51_25 lc_0 rfl lt_0_8 ?_
      refine at_callVV dx_51_26 rfl lc_12 rfl (c_becomeChangeW lc_12 T) ?_
      rintro M26 ⟨f26, i26⟩
      replace F : fr sq M _ := fr_tr F (fr_le f26 (fun q h => by (try dsimp only [blk, sq, cq, sd, lo] at h ⊢); first | done | omega))
      replace G := RI_fr f26 (by (try dsimp only [blk, sq, cq, sd, lo]); first | done | omega) G
      replace T := i26
      refine at_aload dx_51_27 rfl ?_
      refine at_getR dx_51_28 lc_0 rfl lt_0_8 ?_
      refine at_iload dx_51_29 rfl ?_
      refine at_const (x := 1) dx_51_30 rfl ?_
      refine at_subR dx_51_31 (by constructor <;> omega) (fun r31 => ?_)
      refine at_const (x := 2) dx_51_32 rfl ?_
      refine at_callVV dx_51_33 rfl lc_12 rfl (c_addRange lc_12 r31 (by decide) T) ?_
      rintro M33 ⟨f33, i33⟩
      replace F : fr sq M _ := fr_tr F (fr_le f33 (fun q h => by (try dsimp only [blk, sq, cq, sd, lo] at h ⊢); first | done | omega))
      replace G := RI_fr f33 (by (try dsimp only [blk, sq, cq, sd, lo]); first | done | omega) G
      replace T := i33
      refine at_aload dx_51_34 rfl ?_
      refine at_aload dx_51_35 rfl ?_
      refine at_callVVT dx_51_36 rfl lc_0 rfl (c_addPending hc (CI_sq hC F T G)) ?_ ?_
      rotate_left
      · rintro e M9 ⟨he, k1, k2⟩; exact Or.inr ⟨e, rfl, rfl, by simp only [List.mem_cons, List.not_mem_nil, or_false]; omega, k1, fr_tr (fr_le F (fun q h => by (try dsimp only [blk, sq, cq, sd, lo] at h ⊢); first | done | omega)) k2⟩
      rintro M8 ⟨k1, k2, -⟩; replace k2 := fr_tr (fr_le F (fun q h => by (try dsimp only [blk, sq, cq, sd, lo] at h ⊢); first | done | omega)) k2
      refine at_iload dx_51_37 rfl ?_
      refine at_iretIT dx_51_38 r11 ?_
      first | exact ⟨k1, k2⟩ | exact ⟨hC, fr_rf⟩ | exact ⟨CI_sq hC F T G, fr_le F (fun q h => by (try dsimp only [blk, sq, cq, sd, lo] at h ⊢); first | done | omega)⟩
    · skip
      refine at_thrT dx_51_23 rfl ?_
      first | exact ⟨by decide, hC, fr_rf⟩ | exact ⟨by decide, CI_sq hC F T G, fr_le F (fun q h => by (try dsimp only [blk, sq, cq, sd, lo] at h ⊢); first | done | omega)⟩

set_option maxRecDepth 100000 in
set_option maxHeartbeats 4000000 in
theorem p_wrap {X : scr} {M : mem} {x f t y : Int} (rx : inR x) (rf : inR f) (rt : inR t) (ry : inR y) (hC : CI M) : At X 0 52 0 [vr 0, vi x, vi f, vi t, vi y] [] M (qT (qI (fun x M' => CI M' ∧ fr lo M M')) (ER [0, 1, 2] M)) := by
  have F : fr sq M M := fr_rf
  have T : TI M := hC.1
  have G : RI M := hC.2.1
  refine at_aload dx_52_0 rfl ?_
  refine at_iload dx_52_1 rfl ?_
  refine at_callVRT dx_52_2 rfl lc_0 rfl (c_clientOf rx) ?_ ?_
  rotate_left
  · rintro e M9 ⟨he, e9⟩; replace e9 := e9.symm; subst e9; exact Or.inr ⟨e, rfl, rfl, by simp only [List.mem_cons, List.not_mem_nil, or_false]; omega, hC, fr_rf⟩
  rintro c M9 ⟨e9, h0, h3, hcx, hc⟩; replace e9 := e9.symm; subst e9
  have h8 := cl_al hc
  refine at_astore dx_52_3 ?_
  refine at_iload dx_52_4 rfl ?_
  refine at_callSVT dx_52_5 rfl rfl (c_checkNodeType ry) ?_ ?_
  rotate_left
  · rintro e M9 ⟨he, e9⟩; replace e9 := e9.symm; subst e9; exact Or.inr ⟨e, rfl, rfl, by simp only [List.mem_cons, List.not_mem_nil, or_false]; omega, hC, fr_rf⟩
  rintro M9 ⟨e9, n0, n1⟩; replace e9 := e9.symm; subst e9
  refine at_aload dx_52_6 rfl ?_
  refine at_getR dx_52_7 hc rfl (cl_t5 hc) ?_
  refine at_iload dx_52_8 rfl ?_
  refine at_iload dx_52_9 rfl ?_
  refine at_callSVT dx_52_10 rfl rfl (c_checkStretch (cl_c4 hc) rf rt) ?_ ?_
  rotate_left
  · rintro e M9 ⟨he, e9⟩; replace e9 := e9.symm; subst e9; exact Or.inr ⟨e, rfl, rfl, by simp only [List.mem_cons, List.not_mem_nil, or_false]; omega, hC, fr_rf⟩
  rintro M9 ⟨e9, p0, p1, p2⟩; replace e9 := e9.symm; subst e9
  refine at_aload dx_52_11 rfl ?_
  refine at_getR dx_52_12 lc_0 rfl lt_0_8 ?_
  refine at_callVV dx_52_13 rfl lc_12 rfl (c_becomeChangeW lc_12 T) ?_
  rintro M13 ⟨f13, i13⟩
  replace F : fr sq M _ := fr_tr F (fr_le f13 (fun q h => by (try dsimp only [blk, sq, cq, sd, lo] at h ⊢); first | done | omega))
  replace G := RI_fr f13 (by (try dsimp only [blk, sq, cq, sd, lo]); first | done | omega) G
  replace T := i13
  refine at_aload dx_52_14 rfl ?_
  refine at_getR dx_52_15 lc_0 rfl lt_0_8 ?_
  refine at_iload dx_52_16 rfl ?_
  refine at_const (x := 0) dx_52_17 rfl ?_
  refine at_callVV dx_52_18 rfl lc_12 rfl (c_addRange lc_12 rf (by decide) T) ?_
  rintro M18 ⟨f18, i18⟩
  replace F : fr sq M _ := fr_tr F (fr_le f18 (fun q h => by (try dsimp only [blk, sq, cq, sd, lo] at h ⊢); first | done | omega))
  replace G := RI_fr f18 (by (try dsimp only [blk, sq, cq, sd, lo]); first | done | omega) G
  replace T := i18
  refine at_aload dx_52_19 rfl ?_
  refine at_getR dx_52_20 lc_0 rfl lt_0_8 ?_
  refine at_iload dx_52_21 rfl ?_
  refine at_callVV dx_52_22 rfl lc_12 rfl (c_addPut lc_12 ry T) ?_
  rintro M22 ⟨f22, i22⟩
  replace F : fr sq M _ := fr_tr F (fr_le f22 (fun q h => by (try dsimp only [blk, sq, cq, sd, lo] at h ⊢); first | done | omega))
  replace G := RI_fr f22 (by (try dsimp only [blk, sq, cq, sd, lo]); first | done | omega) G
  replace T := i22
  refine at_aload dx_52_23 rfl ?_
  refine at_getR dx_52_24 lc_0 rfl lt_0_8 ?_
  refine at_iload dx_52_25 rfl ?_
  refine at_const (x := 0) dx_52_26 rfl ?_
  refine at_callVV dx_52_27 rfl lc_12 rfl (c_addRange lc_12 rt (by decide) T) ?_
  rintro M27 ⟨f27, i27⟩
  replace F : fr sq M _ := fr_tr F (fr_le f27 (fun q h => by (try dsimp only [blk, sq, cq, sd, lo] at h ⊢); first | done | omega))
  replace G := RI_fr f27 (by (try dsimp only [blk, sq, cq, sd, lo]); first | done | omega) G
  replace T := i27
  refine at_aload dx_52_28 rfl ?_
  refine at_getR dx_52_29 lc_0 rfl lt_0_8 ?_
  refine at_const (x := 0) dx_52_30 rfl ?_
  refine at_callVV dx_52_31 rfl lc_12 rfl (c_addPut lc_12 (by decide) T) ?_
  rintro M31 ⟨f31, i31⟩
  replace F : fr sq M _ := fr_tr F (fr_le f31 (fun q h => by (try dsimp only [blk, sq, cq, sd, lo] at h ⊢); first | done | omega))
  replace G := RI_fr f31 (by (try dsimp only [blk, sq, cq, sd, lo]); first | done | omega) G
  replace T := i31
  refine at_aload dx_52_32 rfl ?_
  refine at_aload dx_52_33 rfl ?_
  refine at_callVVT dx_52_34 rfl lc_0 rfl (c_addPending hc (CI_sq hC F T G)) ?_ ?_
  rotate_left
  · rintro e M9 ⟨he, k1, k2⟩; exact Or.inr ⟨e, rfl, rfl, by simp only [List.mem_cons, List.not_mem_nil, or_false]; omega, k1, fr_tr (fr_le F (fun q h => by (try dsimp only [blk, sq, cq, sd, lo] at h ⊢); first | done | omega)) k2⟩
  rintro M8 ⟨k1, k2, -⟩; replace k2 := fr_tr (fr_le F (fun q h => by (try dsimp only [blk, sq, cq, sd, lo] at h ⊢); first | done | omega)) k2
  refine at_aload dx_52_35 rfl ?_
  refine at_getR dx_52_36 hc rfl (cl_t5 hc) ?_
  refine at_getI 1 dx_52_37 (cl_c4 hc) rfl rfl (fun r37 => ?_)
  refine at_iretIT dx_52_38 r37 ?_
  first | exact ⟨k1, k2⟩ | exact ⟨hC, fr_rf⟩ | exact ⟨CI_sq hC F T G, fr_le F (fun q h => by (try dsimp only [blk, sq, cq, sd, lo] at h ⊢); first | done | omega)⟩

set_option maxRecDepth 100000 in
set_option maxHeartbeats 4000000 in
theorem p_unwrap {X : scr} {M : mem} {x p : Int} (rx : inR x) (rp : inR p) (hC : CI M) : At X 0 53 0 [vr 0, vi x, vi p] [] M (qT (qI (fun x M' => CI M' ∧ fr lo M M')) (ER [0, 2] M)) := by
  have F : fr sq M M := fr_rf
  have T : TI M := hC.1
  have G : RI M := hC.2.1
  refine at_aload dx_53_0 rfl ?_
  refine at_iload dx_53_1 rfl ?_
  refine at_callVRT dx_53_2 rfl lc_0 rfl (c_clientOf rx) ?_ ?_
  rotate_left
  · rintro e M9 ⟨he, e9⟩; replace e9 := e9.symm; subst e9; exact Or.inr ⟨e, rfl, rfl, by simp only [List.mem_cons, List.not_mem_nil, or_false]; omega, hC, fr_rf⟩
  rintro c M9 ⟨e9, h0, h3, hcx, hc⟩; replace e9 := e9.symm; subst e9
  have h8 := cl_al hc
  refine at_astore dx_53_3 ?_
  refine at_aload dx_53_4 rfl ?_
  refine at_getR dx_53_5 hc rfl (cl_t5 hc) ?_
  refine at_iload dx_53_6 rfl ?_
  refine at_callSVT dx_53_7 rfl rfl (c_checkPosition (cl_c4 hc) rp) ?_ ?_
  rotate_left
  · rintro e M9 ⟨he, e9⟩; replace e9 := e9.symm; subst e9; exact Or.inr ⟨e, rfl, rfl, by simp only [List.mem_cons, List.not_mem_nil, or_false]; omega, hC, fr_rf⟩
  rintro M9 ⟨e9, p0, p1⟩; replace e9 := e9.symm; subst e9
  refine at_aload dx_53_8 rfl ?_
  refine at_getR dx_53_9 hc rfl (cl_t5 hc) ?_
  refine at_iload dx_53_10 rfl ?_
  refine at_callVI dx_53_11 rfl (cl_c4 hc) rfl (c_at (cl_c4 hc) rp (T _ (cl_c4 hc))) ?_
  rintro x11 M9 r11 ⟨e9, h11⟩; replace e9 := e9.symm; subst e9
  refine at_istore dx_53_12 ?_
  refine at_aload dx_53_13 rfl ?_
  refine at_getR dx_53_14 hc rfl (cl_t5 hc) ?_
  refine at_iload dx_53_15 rfl ?_
  refine at_callVI dx_53_16 rfl (cl_c4 hc) rfl (c_findClosing (cl_c4 hc) rp (T _ (cl_c4 hc))) ?_
  intro x16 M9 r16 e9; replace e9 := Eq.symm e9; subst e9
  refine at_istore dx_53_17 ?_
  refine at_iload dx_53_18 rfl ?_
  refine at_const (x := -1) dx_53_19 rfl ?_
  refine at_cneR dx_53_20 r16 (by decide) (fun c20 => ?_) (fun c20 => ?_)
  · skip
    refine at_aload dx_53_22 rfl ?_
    refine at_getR dx_53_23 lc_0 rfl lt_0_8 ?_
    refine at_callVV dx_53_24 rfl lc_12 rfl (c_becomeChangeW lc_12 T) ?_
    rintro M24 ⟨f24, i24⟩
    replace F : fr sq M _ := fr_tr F (fr_le f24 (fun q h => by (try dsimp only [blk, sq, cq, sd, lo] at h ⊢); first | done | omega))
    replace G := RI_fr f24 (by (try dsimp only [blk, sq, cq, sd, lo]); first | done | omega) G
    replace T := i24
    refine at_aload dx_53_25 rfl ?_
    refine at_getR dx_53_26 lc_0 rfl lt_0_8 ?_
    refine at_iload dx_53_27 rfl ?_
    refine at_const (x := 1) dx_53_28 rfl ?_
    refine at_callVV dx_53_29 rfl lc_12 rfl (c_addRange lc_12 rp (by decide) T) ?_
    rintro M29 ⟨f29, i29⟩
    replace F : fr sq M _ := fr_tr F (fr_le f29 (fun q h => by (try dsimp only [blk, sq, cq, sd, lo] at h ⊢); first | done | omega))
    replace G := RI_fr f29 (by (try dsimp only [blk, sq, cq, sd, lo]); first | done | omega) G
    replace T := i29
    refine at_aload dx_53_30 rfl ?_
    refine at_getR dx_53_31 lc_0 rfl lt_0_8 ?_
    refine at_iload dx_53_32 rfl ?_
    refine at_const (x := 1) dx_53_33 rfl ?_
    refine at_callVV dx_53_34 rfl lc_12 rfl (c_addRange lc_12 r16 (by decide) T) ?_
    rintro M34 ⟨f34, i34⟩
    replace F : fr sq M _ := fr_tr F (fr_le f34 (fun q h => by (try dsimp only [blk, sq, cq, sd, lo] at h ⊢); first | done | omega))
    replace G := RI_fr f34 (by (try dsimp only [blk, sq, cq, sd, lo]); first | done | omega) G
    replace T := i34
    refine at_aload dx_53_35 rfl ?_
    refine at_aload dx_53_36 rfl ?_
    refine at_callVVT dx_53_37 rfl lc_0 rfl (c_addPending hc (CI_sq hC F T G)) ?_ ?_
    rotate_left
    · rintro e M9 ⟨he, k1, k2⟩; exact Or.inr ⟨e, rfl, rfl, by simp only [List.mem_cons, List.not_mem_nil, or_false]; omega, k1, fr_tr (fr_le F (fun q h => by (try dsimp only [blk, sq, cq, sd, lo] at h ⊢); first | done | omega)) k2⟩
    rintro M8 ⟨k1, k2, -⟩; replace k2 := fr_tr (fr_le F (fun q h => by (try dsimp only [blk, sq, cq, sd, lo] at h ⊢); first | done | omega)) k2
    refine at_iload dx_53_38 rfl ?_
    refine at_iretIT dx_53_39 r11 ?_
    first | exact ⟨k1, k2⟩ | exact ⟨hC, fr_rf⟩ | exact ⟨CI_sq hC F T G, fr_le F (fun q h => by (try dsimp only [blk, sq, cq, sd, lo] at h ⊢); first | done | omega)⟩
  · skip
    refine at_thrT dx_53_21 rfl ?_
    first | exact ⟨by decide, hC, fr_rf⟩ | exact ⟨by decide, CI_sq hC F T G, fr_le F (fun q h => by (try dsimp only [blk, sq, cq, sd, lo] at h ⊢); first | done | omega)⟩

set_option maxRecDepth 100000 in
set_option maxHeartbeats 4000000 in
theorem p_setType {X : scr} {M : mem} {x p y : Int} (rx : inR x) (rp : inR p) (ry : inR y) (hC : CI M) : At X 0 54 0 [vr 0, vi x, vi p, vi y] [] M (qT (qI (fun x M' => CI M' ∧ fr lo M M')) (ER [0, 2] M)) := by
  have F : fr sq M M := fr_rf
  have T : TI M := hC.1
  have G : RI M := hC.2.1
  refine at_aload dx_54_0 rfl ?_
  refine at_iload dx_54_1 rfl ?_
  refine at_callVRT dx_54_2 rfl lc_0 rfl (c_clientOf rx) ?_ ?_
  rotate_left
  · rintro e M9 ⟨he, e9⟩; replace e9 := e9.symm; subst e9; exact Or.inr ⟨e, rfl, rfl, by simp only [List.mem_cons, List.not_mem_nil, or_false]; omega, hC, fr_rf⟩
  rintro c M9 ⟨e9, h0, h3, hcx, hc⟩; replace e9 := e9.symm; subst e9
  have h8 := cl_al hc
  refine at_astore dx_54_3 ?_
  refine at_aload dx_54_4 rfl ?_
  refine at_getR dx_54_5 hc rfl (cl_t5 hc) ?_
  refine at_iload dx_54_6 rfl ?_
  refine at_callSVT dx_54_7 rfl rfl (c_checkPosition (cl_c4 hc) rp) ?_ ?_
  rotate_left
  · rintro e M9 ⟨he, e9⟩; replace e9 := e9.symm; subst e9; exact Or.inr ⟨e, rfl, rfl, by simp only [List.mem_cons, List.not_mem_nil, or_false]; omega, hC, fr_rf⟩
  rintro M9 ⟨e9, p0, p1⟩; replace e9 := e9.symm; subst e9
  refine at_iload dx_54_8 rfl ?_
  refine at_callSVT dx_54_9 rfl rfl (c_checkNodeType ry) ?_ ?_
  rotate_left
  · rintro e M9 ⟨he, e9⟩; replace e9 := e9.symm; subst e9; exact Or.inr ⟨e, rfl, rfl, by simp only [List.mem_cons, List.not_mem_nil, or_false]; omega, hC, fr_rf⟩
  rintro M9 ⟨e9, n0, n1⟩; replace e9 := e9.symm; subst e9
  refine at_aload dx_54_10 rfl ?_
  refine at_getR dx_54_11 hc rfl (cl_t5 hc) ?_
  refine at_iload dx_54_12 rfl ?_
  refine at_callVI dx_54_13 rfl (cl_c4 hc) rfl (c_at (cl_c4 hc) rp (T _ (cl_c4 hc))) ?_
  rintro x13 M9 r13 ⟨e9, h13⟩; replace e9 := e9.symm; subst e9
  refine at_istore dx_54_14 ?_
  refine at_iload dx_54_15 rfl ?_
  refine at_callSI dx_54_16 rfl rfl (c_isOpening r13) ?_
  rintro x16 M9 r16 ⟨e9, h16⟩; replace e9 := e9.symm; subst e9
  refine at_zeqR dx_54_17 r16 (fun c17 => ?_) (fun c17 => ?_)
  · skip
    refine at_thrT dx_54_21 rfl ?_
    first | exact ⟨by decide, hC, fr_rf⟩ | exact ⟨by decide, CI_sq hC F T G, fr_le F (fun q h => by (try dsimp only [blk, sq, cq, sd, lo] at h ⊢); first | done | omega)⟩
  · skip
    refine at_iload dx_54_18 rfl ?_
    refine at_iload dx_54_19 rfl ?_
    refine at_cneR dx_54_20 r13 ry (fun c20 => ?_) (fun c20 => ?_)
    · skip
      refine at_aload dx_54_22 rfl ?_
      refine at_getR dx_54_23 lc_0 rfl lt_0_8 ?_
      refine at_callVV dx_54_24 rfl lc_12 rfl (c_becomeChangeW lc_12 T) ?_
      rintro M24 ⟨f24, i24⟩
      replace F : fr sq M _ := fr_tr F (fr_le f24 (fun q h => by (try dsimp only [blk, sq, cq, sd, lo] at h ⊢); first | done | omega))
      replace G := RI_fr f24 (by (try dsimp only [blk, sq, cq, sd, lo]); first | done | omega) G
      replace T := i24
      refine at_aload dx_54_25 rfl ?_
      refine at_getR dx_54_26 lc_0 rfl lt_0_8 ?_
      refine at_iload dx_54_27 rfl ?_
      refine at_const (x := 1) dx_54_28 rfl ?_
      refine at_callVV dx_54_29 rfl lc_12 rfl (c_addRange lc_12 rp (by decide) T) ?_
      rintro M29 ⟨f29, i29⟩
      replace F : fr sq M _ := fr_tr F (fr_le f29 (fun q h => by (try dsimp only [blk, sq, cq, sd, lo] at h ⊢); first | done | omega))
      replace G := RI_fr f29 (by (try dsimp only [blk, sq, cq, sd, lo]); first | done | omega) G
      replace T := i29
      refine at_aload dx_54_30 rfl ?_
      refine at_getR dx_54_31 lc_0 rfl lt_0_8 ?_
      refine at_iload dx_54_32 rfl ?_
      refine at_callVV dx_54_33 rfl lc_12 rfl (c_addPut lc_12 ry T) ?_
      rintro M33 ⟨f33, i33⟩
      replace F : fr sq M _ := fr_tr F (fr_le f33 (fun q h => by (try dsimp only [blk, sq, cq, sd, lo] at h ⊢); first | done | omega))
      replace G := RI_fr f33 (by (try dsimp only [blk, sq, cq, sd, lo]); first | done | omega) G
      replace T := i33
      refine at_aload dx_54_34 rfl ?_
      refine at_aload dx_54_35 rfl ?_
      refine at_callVVT dx_54_36 rfl lc_0 rfl (c_addPending hc (CI_sq hC F T G)) ?_ ?_
      rotate_left
      · rintro e M9 ⟨he, k1, k2⟩; exact Or.inr ⟨e, rfl, rfl, by simp only [List.mem_cons, List.not_mem_nil, or_false]; omega, k1, fr_tr (fr_le F (fun q h => by (try dsimp only [blk, sq, cq, sd, lo] at h ⊢); first | done | omega)) k2⟩
      rintro M8 ⟨k1, k2, -⟩; replace k2 := fr_tr (fr_le F (fun q h => by (try dsimp only [blk, sq, cq, sd, lo] at h ⊢); first | done | omega)) k2
      refine at_iload dx_54_37 rfl ?_
      refine at_iretIT dx_54_38 r13 ?_
      first | exact ⟨k1, k2⟩ | exact ⟨hC, fr_rf⟩ | exact ⟨CI_sq hC F T G, fr_le F (fun q h => by (try dsimp only [blk, sq, cq, sd, lo] at h ⊢); first | done | omega)⟩
    · skip
      refine at_thrT dx_54_21 rfl ?_
      first | exact ⟨by decide, hC, fr_rf⟩ | exact ⟨by decide, CI_sq hC F T G, fr_le F (fun q h => by (try dsimp only [blk, sq, cq, sd, lo] at h ⊢); first | done | omega)⟩

set_option maxRecDepth 100000 in
set_option maxHeartbeats 4000000 in
theorem p_mark {X : scr} {M : mem} {x f t m z : Int} (rx : inR x) (rf : inR f) (rt : inR t) (rm : inR m) (rz : inR z) (hC : CI M) (hz : z = 0 ∨ z = 1) : At X 0 55 0 [vr 0, vi x, vi f, vi t, vi m, vi z] [] M (qT (qI (fun x M' => CI M' ∧ fr lo M M')) (ER [0, 1, 2] M)) := by
  have F : fr sq M M := fr_rf
  have T : TI M := hC.1
  have G : RI M := hC.2.1
  refine at_aload dx_55_0 rfl ?_
  refine at_iload dx_55_1 rfl ?_
  refine at_callVRT dx_55_2 rfl lc_0 rfl (c_clientOf rx) ?_ ?_
  rotate_left
  · rintro e M9 ⟨he, e9⟩; replace e9 := e9.symm; subst e9; exact Or.inr ⟨e, rfl, rfl, by simp only [List.mem_cons, List.not_mem_nil, or_false]; omega, hC, fr_rf⟩
  rintro c M9 ⟨e9, h0, h3, hcx, hc⟩; replace e9 := e9.symm; subst e9
  have h8 := cl_al hc
  refine at_astore dx_55_3 ?_
  refine at_iload dx_55_4 rfl ?_
  refine at_zltR dx_55_5 rm (fun c5 => ?_) (fun c5 => ?_)
  · skip
    refine at_thrT dx_55_9 rfl ?_
    first | exact ⟨by decide, hC, fr_rf⟩ | exact ⟨by decide, CI_sq hC F T G, fr_le F (fun q h => by (try dsimp only [blk, sq, cq, sd, lo] at h ⊢); first | done | omega)⟩
  · skip
    refine at_iload dx_55_6 rfl ?_
    refine at_const (x := 2) dx_55_7 rfl ?_
    refine at_cltR dx_55_8 rm (by decide) (fun c8 => ?_) (fun c8 => ?_)
    · skip
      refine at_aload dx_55_10 rfl ?_
      refine at_getR dx_55_11 hc rfl (cl_t5 hc) ?_
      refine at_iload dx_55_12 rfl ?_
      refine at_iload dx_55_13 rfl ?_
      refine at_callSVT dx_55_14 rfl rfl (c_checkStretch (cl_c4 hc) rf rt) ?_ ?_
      rotate_left
      · rintro e M9 ⟨he, e9⟩; replace e9 := e9.symm; subst e9; exact Or.inr ⟨e, rfl, rfl, by simp only [List.mem_cons, List.not_mem_nil, or_false]; omega, hC, fr_rf⟩
      rintro M9 ⟨e9, p0, p1, p2⟩; replace e9 := e9.symm; subst e9
      refine at_aload dx_55_15 rfl ?_
      refine at_getR dx_55_16 lc_0 rfl lt_0_8 ?_
      refine at_iload dx_55_17 rfl ?_
      refine at_iload dx_55_18 rfl ?_
      refine at_iload dx_55_19 rfl ?_
      refine at_const (x := 1) dx_55_20 rfl ?_
      refine at_addR dx_55_21 (by constructor <;> omega) (fun r21 => ?_)
      refine at_iload dx_55_22 rfl ?_
      refine at_callVV dx_55_23 rfl lc_12 rfl (c_becomeMarking lc_12 rf rt r21 hz rz T) ?_
      rintro M23 ⟨f23, i23⟩
      replace F : fr sq M _ := fr_tr F (fr_le f23 (fun q h => by (try dsimp only [blk, sq, cq, sd, lo] at h ⊢); first | done | omega))
      replace G := RI_fr f23 (by (try dsimp only [blk, sq, cq, sd, lo]); first | done | omega) G
      replace T := i23
      refine at_aload dx_55_24 rfl ?_
      refine at_getR dx_55_25 lc_0 rfl lt_0_8 ?_
      refine at_aload dx_55_26 rfl ?_
      refine at_getR dx_55_27 hc rfl (cl_t5 hc) ?_
      refine at_callVI dx_55_28 rfl lc_12 rfl (c_changesMarks lc_12 (cl_c4 hc) (T _ (cl_c4 hc))) ?_
      rintro x28 M9 r28 ⟨e9, h28⟩; replace e9 := e9.symm; subst e9
      refine at_zneR dx_55_29 r28 (fun c29 => ?_) (fun c29 => ?_)
      · skip
        refine at_aload dx_55_31 rfl ?_
        refine at_aload dx_55_32 rfl ?_
        refine at_callVVT dx_55_33 rfl lc_0 rfl (c_addPending hc (CI_sq hC F T G)) ?_ ?_
        rotate_left
        · rintro e M9 ⟨he, k1, k2⟩; exact Or.inr ⟨e, rfl, rfl, by simp only [List.mem_cons, List.not_mem_nil, or_false]; omega, k1, fr_tr (fr_le F (fun q h => by (try dsimp only [blk, sq, cq, sd, lo] at h ⊢); first | done | omega)) k2⟩
        rintro M8 ⟨k1, k2, -⟩; replace k2 := fr_tr (fr_le F (fun q h => by (try dsimp only [blk, sq, cq, sd, lo] at h ⊢); first | done | omega)) k2
        refine at_aload dx_55_34 rfl ?_
        refine at_getR dx_55_35 hc rfl (cl_t5 hc) ?_
        refine at_iload dx_55_36 rfl ?_
        refine at_iload dx_55_37 rfl ?_
        refine at_callVI dx_55_38 rfl (cl_c4 hc) rfl (c_countCharacters (cl_c4 hc) rf rt (k1.1 _ (cl_c4 hc))) ?_
        intro x38 M9 r38 e9; replace e9 := Eq.symm e9; subst e9
        refine at_iretIT dx_55_39 r38 ?_
        first | exact ⟨k1, k2⟩ | exact ⟨hC, fr_rf⟩ | exact ⟨CI_sq hC F T G, fr_le F (fun q h => by (try dsimp only [blk, sq, cq, sd, lo] at h ⊢); first | done | omega)⟩
      · skip
        refine at_thrT dx_55_30 rfl ?_
        first | exact ⟨by decide, hC, fr_rf⟩ | exact ⟨by decide, CI_sq hC F T G, fr_le F (fun q h => by (try dsimp only [blk, sq, cq, sd, lo] at h ⊢); first | done | omega)⟩
    · skip
      refine at_thrT dx_55_9 rfl ?_
      first | exact ⟨by decide, hC, fr_rf⟩ | exact ⟨by decide, CI_sq hC F T G, fr_le F (fun q h => by (try dsimp only [blk, sq, cq, sd, lo] at h ⊢); first | done | omega)⟩

set_option maxRecDepth 100000 in
set_option maxHeartbeats 4000000 in
theorem p_paste {X : scr} {M : mem} {x p : Int} (rx : inR x) (rp : inR p) (hC : CI M) : At X 0 57 0 [vr 0, vi x, vi p] [] M (qT (qI (fun x M' => CI M' ∧ fr lo M M')) (ER [0, 2] M)) := by
  have F : fr sq M M := fr_rf
  have T : TI M := hC.1
  have G : RI M := hC.2.1
  refine at_aload dx_57_0 rfl ?_
  refine at_iload dx_57_1 rfl ?_
  refine at_callVRT dx_57_2 rfl lc_0 rfl (c_clientOf rx) ?_ ?_
  rotate_left
  · rintro e M9 ⟨he, e9⟩; replace e9 := e9.symm; subst e9; exact Or.inr ⟨e, rfl, rfl, by simp only [List.mem_cons, List.not_mem_nil, or_false]; omega, hC, fr_rf⟩
  rintro c M9 ⟨e9, h0, h3, hcx, hc⟩; replace e9 := e9.symm; subst e9
  have h8 := cl_al hc
  refine at_astore dx_57_3 ?_
  refine at_aload dx_57_4 rfl ?_
  refine at_getR dx_57_5 hc rfl (cl_t5 hc) ?_
  refine at_iload dx_57_6 rfl ?_
  refine at_callSVT dx_57_7 rfl rfl (c_checkPosition (cl_c4 hc) rp) ?_ ?_
  rotate_left
  · rintro e M9 ⟨he, e9⟩; replace e9 := e9.symm; subst e9; exact Or.inr ⟨e, rfl, rfl, by simp only [List.mem_cons, List.not_mem_nil, or_false]; omega, hC, fr_rf⟩
  rintro M9 ⟨e9, p0, p1⟩; replace e9 := e9.symm; subst e9
  refine at_aload dx_57_8 rfl ?_
  refine at_getR dx_57_9 hc rfl (cl_t6 hc) ?_
  refine at_getI 1 dx_57_10 (cl_c6 hc) rfl rfl (fun r10 => ?_)
  refine at_zneR dx_57_11 r10 (fun c11 => ?_) (fun c11 => ?_)
  · skip
    refine at_aload dx_57_13 rfl ?_
    refine at_aload dx_57_14 rfl ?_
    refine at_iload dx_57_15 rfl ?_
    refine at_callVI dx_57_16 rfl lc_0 rfl (c_draftsBare hc rp T) ?_
    rintro x16 M16 r16 ⟨f16, i16, b16⟩
    replace F : fr sq M _ := fr_tr F (fr_le f16 (fun q h => by (try dsimp only [blk, sq, cq, sd, lo] at h ⊢); first | done | omega))
    replace G := RI_fr f16 (by (try dsimp only [blk, sq, cq, sd, lo]); first | done | omega) G
    replace T := i16
    refine at_zneR dx_57_17 r16 (fun c17 => ?_) (fun c17 => ?_)
    · skip
      refine at_aload dx_57_24 rfl ?_
      refine at_aload dx_57_25 rfl ?_
      refine at_callVVT dx_57_26 rfl lc_0 rfl (c_addPending hc (CI_sq hC F T G)) ?_ ?_
      rotate_left
      · rintro e M9 ⟨he, k1, k2⟩; exact Or.inr ⟨e, rfl, rfl, by simp only [List.mem_cons, List.not_mem_nil, or_false]; omega, k1, fr_tr (fr_le F (fun q h => by (try dsimp only [blk, sq, cq, sd, lo] at h ⊢); first | done | omega)) k2⟩
      rintro M8 ⟨k1, k2, -⟩; replace k2 := fr_tr (fr_le F (fun q h => by (try dsimp only [blk, sq, cq, sd, lo] at h ⊢); first | done | omega)) k2
      refine at_aload dx_57_27 rfl ?_
      refine at_getR dx_57_28 lc_0 rfl lt_0_8 ?_
      refine at_getR dx_57_29 lc_12 rfl lt_12_10 ?_
      refine at_getI 1 dx_57_30 lc_18 rfl rfl (fun r30 => ?_)
      refine at_iretIT dx_57_31 r30 ?_
      first | exact ⟨k1, k2⟩ | exact ⟨hC, fr_rf⟩ | exact ⟨CI_sq hC F T G, fr_le F (fun q h => by (try dsimp only [blk, sq, cq, sd, lo] at h ⊢); first | done | omega)⟩
    · skip
      refine at_aload dx_57_18 rfl ?_
      refine at_aload dx_57_19 rfl ?_
      refine at_iload dx_57_20 rfl ?_
      refine at_callVI dx_57_21 rfl lc_0 rfl (c_draftsWrapped hc rp T) ?_
      rintro x21 M21 r21 ⟨f21, i21, b21⟩
      replace F : fr sq M _ := fr_tr F (fr_le f21 (fun q h => by (try dsimp only [blk, sq, cq, sd, lo] at h ⊢); first | done | omega))
      replace G := RI_fr f21 (by (try dsimp only [blk, sq, cq, sd, lo]); first | done | omega) G
      replace T := i21
      refine at_zneR dx_57_22 r21 (fun c22 => ?_) (fun c22 => ?_)
      · skip
        refine at_aload dx_57_24 rfl ?_
        refine at_aload dx_57_25 rfl ?_
        refine at_callVVT dx_57_26 rfl lc_0 rfl (c_addPending hc (CI_sq hC F T G)) ?_ ?_
        rotate_left
        · rintro e M9 ⟨he, k1, k2⟩; exact Or.inr ⟨e, rfl, rfl, by simp only [List.mem_cons, List.not_mem_nil, or_false]; omega, k1, fr_tr (fr_le F (fun q h => by (try dsimp only [blk, sq, cq, sd, lo] at h ⊢); first | done | omega)) k2⟩
        rintro M8 ⟨k1, k2, -⟩; replace k2 := fr_tr (fr_le F (fun q h => by (try dsimp only [blk, sq, cq, sd, lo] at h ⊢); first | done | omega)) k2
        refine at_aload dx_57_27 rfl ?_
        refine at_getR dx_57_28 lc_0 rfl lt_0_8 ?_
        refine at_getR dx_57_29 lc_12 rfl lt_12_10 ?_
        refine at_getI 1 dx_57_30 lc_18 rfl rfl (fun r30 => ?_)
        refine at_iretIT dx_57_31 r30 ?_
        first | exact ⟨k1, k2⟩ | exact ⟨hC, fr_rf⟩ | exact ⟨CI_sq hC F T G, fr_le F (fun q h => by (try dsimp only [blk, sq, cq, sd, lo] at h ⊢); first | done | omega)⟩
      · skip
        refine at_thrT dx_57_23 rfl ?_
        first | exact ⟨by decide, hC, fr_rf⟩ | exact ⟨by decide, CI_sq hC F T G, fr_le F (fun q h => by (try dsimp only [blk, sq, cq, sd, lo] at h ⊢); first | done | omega)⟩
  · skip
    refine at_thrT dx_57_12 rfl ?_
    first | exact ⟨by decide, hC, fr_rf⟩ | exact ⟨by decide, CI_sq hC F T G, fr_le F (fun q h => by (try dsimp only [blk, sq, cq, sd, lo] at h ⊢); first | done | omega)⟩

set_option maxRecDepth 100000 in
set_option maxHeartbeats 4000000 in
theorem p_lost {X : scr} {M : mem} {x : Int} (rx : inR x) (hC : CI M) : At X 0 62 0 [vr 0, vi x] [] M (qT (qI (fun x M' => CI M' ∧ fr lo M M')) (ER [0] M)) := by
  have F : fr sq M M := fr_rf
  have T : TI M := hC.1
  have G : RI M := hC.2.1
  refine at_aload dx_62_0 rfl ?_
  refine at_iload dx_62_1 rfl ?_
  refine at_callVRT dx_62_2 rfl lc_0 rfl (c_clientOf rx) ?_ ?_
  rotate_left
  · rintro e M9 ⟨he, e9⟩; replace e9 := e9.symm; subst e9; exact Or.inr ⟨e, rfl, rfl, by simp only [List.mem_cons, List.not_mem_nil, or_false]; omega, hC, fr_rf⟩
  rintro c M9 ⟨e9, h0, h3, hcx, hc⟩; replace e9 := e9.symm; subst e9
  have h8 := cl_al hc
  refine at_getI 1 dx_62_3 hc rfl rfl (fun r3 => ?_)
  refine at_iretIT dx_62_4 r3 ?_
  first | exact ⟨k1, k2⟩ | exact ⟨hC, fr_rf⟩ | exact ⟨CI_sq hC F T G, fr_le F (fun q h => by (try dsimp only [blk, sq, cq, sd, lo] at h ⊢); first | done | omega)⟩

set_option maxRecDepth 100000 in
set_option maxHeartbeats 4000000 in
theorem p_version {X : scr} {M : mem} {x : Int} (rx : inR x) (hC : CI M) : At X 0 63 0 [vr 0, vi x] [] M (qT (qI (fun x M' => CI M' ∧ fr lo M M')) (ER [0] M)) := by
  have F : fr sq M M := fr_rf
  have T : TI M := hC.1
  have G : RI M := hC.2.1
  refine at_aload dx_63_0 rfl ?_
  refine at_iload dx_63_1 rfl ?_
  refine at_callVRT dx_63_2 rfl lc_0 rfl (c_clientOf rx) ?_ ?_
  rotate_left
  · rintro e M9 ⟨he, e9⟩; replace e9 := e9.symm; subst e9; exact Or.inr ⟨e, rfl, rfl, by simp only [List.mem_cons, List.not_mem_nil, or_false]; omega, hC, fr_rf⟩
  rintro c M9 ⟨e9, h0, h3, hcx, hc⟩; replace e9 := e9.symm; subst e9
  have h8 := cl_al hc
  refine at_astore dx_63_3 ?_
  refine at_const (x := 100) dx_63_4 rfl ?_
  refine at_aload dx_63_5 rfl ?_
  refine at_getI 0 dx_63_6 hc rfl rfl (fun r6 => ?_)
  refine at_mulW dx_63_7 ?_
  refine at_aload dx_63_8 rfl ?_
  refine at_getI 2 dx_63_9 hc rfl rfl (fun r9 => ?_)
  refine at_addW dx_63_10 ?_
  refine at_iretIT dx_63_11 (inR_wr _) ?_
  first | exact ⟨k1, k2⟩ | exact ⟨hC, fr_rf⟩ | exact ⟨CI_sq hC F T G, fr_le F (fun q h => by (try dsimp only [blk, sq, cq, sd, lo] at h ⊢); first | done | omega)⟩

set_option maxRecDepth 100000 in
set_option maxHeartbeats 4000000 in
theorem p_size {X : scr} {M : mem} {x : Int} (rx : inR x) (hC : CI M) : At X 0 65 0 [vr 0, vi x] [] M (qT (qI (fun x M' => CI M' ∧ fr lo M M')) (ER [0] M)) := by
  have F : fr sq M M := fr_rf
  have T : TI M := hC.1
  have G : RI M := hC.2.1
  refine at_aload dx_65_0 rfl ?_
  refine at_iload dx_65_1 rfl ?_
  refine at_callVRT dx_65_2 rfl lc_0 rfl (c_documentOf rx) ?_ ?_
  rotate_left
  · rintro e M9 ⟨he, e9⟩; replace e9 := e9.symm; subst e9; exact Or.inr ⟨e, rfl, rfl, by simp only [List.mem_cons, List.not_mem_nil, or_false]; omega, hC, fr_rf⟩
  rintro k M9 ⟨e9, hk, hk6⟩; replace e9 := e9.symm; subst e9
  have hke := tk_e hk
  refine at_getI 1 dx_65_3 hk rfl rfl (fun r3 => ?_)
  refine at_iretIT dx_65_4 r3 ?_
  first | exact ⟨k1, k2⟩ | exact ⟨hC, fr_rf⟩ | exact ⟨CI_sq hC F T G, fr_le F (fun q h => by (try dsimp only [blk, sq, cq, sd, lo] at h ⊢); first | done | omega)⟩

set_option maxRecDepth 100000 in
set_option maxHeartbeats 4000000 in
theorem p_token {X : scr} {M : mem} {x p : Int} (rx : inR x) (rp : inR p) (hC : CI M) : At X 0 66 0 [vr 0, vi x, vi p] [] M (qT (qI (fun x M' => CI M' ∧ fr lo M M')) (ER [0] M)) := by
  have F : fr sq M M := fr_rf
  have T : TI M := hC.1
  have G : RI M := hC.2.1
  refine at_aload dx_66_0 rfl ?_
  refine at_iload dx_66_1 rfl ?_
  refine at_callVRT dx_66_2 rfl lc_0 rfl (c_documentOf rx) ?_ ?_
  rotate_left
  · rintro e M9 ⟨he, e9⟩; replace e9 := e9.symm; subst e9; exact Or.inr ⟨e, rfl, rfl, by simp only [List.mem_cons, List.not_mem_nil, or_false]; omega, hC, fr_rf⟩
  rintro k M9 ⟨e9, hk, hk6⟩; replace e9 := e9.symm; subst e9
  have hke := tk_e hk
  refine at_astore dx_66_3 ?_
  refine at_iload dx_66_4 rfl ?_
  refine at_zltR dx_66_5 rp (fun c5 => ?_) (fun c5 => ?_)
  · skip
    refine at_thrTW dx_66_10 rfl ?_
    first | exact ⟨by decide, hC, fr_rf⟩ | exact ⟨by decide, CI_sq hC F T G, fr_le F (fun q h => by (try dsimp only [blk, sq, cq, sd, lo] at h ⊢); first | done | omega)⟩
  · skip
    refine at_iload dx_66_6 rfl ?_
    refine at_aload dx_66_7 rfl ?_
    refine at_getI 1 dx_66_8 hk rfl rfl (fun r8 => ?_)
    refine at_cltR dx_66_9 rp r8 (fun c9 => ?_) (fun c9 => ?_)
    · skip
      refine at_aload dx_66_11 rfl ?_
      refine at_iload dx_66_12 rfl ?_
      refine at_callVI dx_66_13 rfl hk rfl (c_at hk rp (T _ hk)) ?_
      rintro x13 M9 r13 ⟨e9, h13⟩; replace e9 := e9.symm; subst e9
      refine at_iretIT dx_66_14 r13 ?_
      first | exact ⟨k1, k2⟩ | exact ⟨hC, fr_rf⟩ | exact ⟨CI_sq hC F T G, fr_le F (fun q h => by (try dsimp only [blk, sq, cq, sd, lo] at h ⊢); first | done | omega)⟩
    · skip
      refine at_thrTW dx_66_10 rfl ?_
      first | exact ⟨by decide, hC, fr_rf⟩ | exact ⟨by decide, CI_sq hC F T G, fr_le F (fun q h => by (try dsimp only [blk, sq, cq, sd, lo] at h ⊢); first | done | omega)⟩

set_option maxRecDepth 100000 in
set_option maxHeartbeats 4000000 in
theorem p_around {X : scr} {M : mem} {x p : Int} (rx : inR x) (rp : inR p) (hC : CI M) : At X 0 67 0 [vr 0, vi x, vi p] [] M (qT (qI (fun x M' => CI M' ∧ fr lo M M')) (ER [0] M)) := by
  have F : fr sq M M := fr_rf
  have T : TI M := hC.1
  have G : RI M := hC.2.1
  refine at_aload dx_67_0 rfl ?_
  refine at_iload dx_67_1 rfl ?_
  refine at_callVRT dx_67_2 rfl lc_0 rfl (c_documentOf rx) ?_ ?_
  rotate_left
  · rintro e M9 ⟨he, e9⟩; replace e9 := e9.symm; subst e9; exact Or.inr ⟨e, rfl, rfl, by simp only [List.mem_cons, List.not_mem_nil, or_false]; omega, hC, fr_rf⟩
  rintro k M9 ⟨e9, hk, hk6⟩; replace e9 := e9.symm; subst e9
  have hke := tk_e hk
  refine at_astore dx_67_3 ?_
  refine at_aload dx_67_4 rfl ?_
  refine at_iload dx_67_5 rfl ?_
  refine at_callSVT dx_67_6 rfl rfl (c_checkPosition hk rp) ?_ ?_
  rotate_left
  · rintro e M9 ⟨he, e9⟩; replace e9 := e9.symm; subst e9; exact Or.inr ⟨e, rfl, rfl, by simp only [List.mem_cons, List.not_mem_nil, or_false]; omega, hC, fr_rf⟩
  rintro M9 ⟨e9, p0, p1⟩; replace e9 := e9.symm; subst e9
  refine at_aload dx_67_7 rfl ?_
  refine at_iload dx_67_8 rfl ?_
  refine at_aload dx_67_9 rfl ?_
  refine at_getR dx_67_10 lc_0 rfl lt_0_14 ?_
  refine at_callVI dx_67_11 rfl hk rfl (c_findOpen hk rp lc_31 ln_31 (by omega) (by omega) (T _ hk)) ?_
  rintro x11 M11 r11 ⟨f11, u11, v11⟩
  replace F : fr sq M _ := fr_tr F (fr_le f11 (fun q h => by (try dsimp only [blk, sq, cq, sd, lo] at h ⊢); first | done | omega))
  replace G := RI_fr f11 (by (try dsimp only [blk, sq, cq, sd, lo]); first | done | omega) G
  replace T : TI M11 := TI_no T f11 (fun q hq hP => by rw [hP, lc_31] at hq; exact absurd hq (by decide))
  refine at_istore dx_67_12 ?_
  refine at_const (x := 10) dx_67_13 rfl ?_
  refine at_iload dx_67_14 rfl ?_
  refine at_mulW dx_67_15 ?_
  refine at_aload dx_67_16 rfl ?_
  refine at_iload dx_67_17 rfl ?_
  refine at_callVI dx_67_18 rfl lc_0 rfl (c_innermost r11) ?_
  intro x18 M9 r18 e9; replace e9 := Eq.symm e9; subst e9
  refine at_addW dx_67_19 ?_
  refine at_iretIT dx_67_20 (inR_wr _) ?_
  first | exact ⟨k1, k2⟩ | exact ⟨hC, fr_rf⟩ | exact ⟨CI_sq hC F T G, fr_le F (fun q h => by (try dsimp only [blk, sq, cq, sd, lo] at h ⊢); first | done | omega)⟩

set_option maxRecDepth 100000 in
set_option maxHeartbeats 4000000 in
theorem p_commentAt {X : scr} {M : mem} {x : Int} (rx : inR x) (hC : CI M) : At X 0 69 0 [vr 0, vi x] [] M (qT (qI (fun x M' => CI M' ∧ fr lo M M')) (ER [0] M)) := by
  have F : fr sq M M := fr_rf
  have T : TI M := hC.1
  have G : RI M := hC.2.1
  refine at_iload dx_69_0 rfl ?_
  refine at_zltR dx_69_1 rx (fun c1 => ?_) (fun c1 => ?_)
  · skip
    refine at_thrTW dx_69_9 rfl ?_
    first | exact ⟨by decide, hC, fr_rf⟩ | exact ⟨by decide, CI_sq hC F T G, fr_le F (fun q h => by (try dsimp only [blk, sq, cq, sd, lo] at h ⊢); first | done | omega)⟩
  · skip
    refine at_iload dx_69_2 rfl ?_
    refine at_aload dx_69_3 rfl ?_
    refine at_getI 7 dx_69_4 lc_0 rfl rfl (fun r4 => ?_)
    refine at_cgeR dx_69_5 rx r4 (fun c5 => ?_) (fun c5 => ?_)
    · skip
      refine at_thrTW dx_69_9 rfl ?_
      first | exact ⟨by decide, hC, fr_rf⟩ | exact ⟨by decide, CI_sq hC F T G, fr_le F (fun q h => by (try dsimp only [blk, sq, cq, sd, lo] at h ⊢); first | done | omega)⟩
    · skip
      refine at_iload dx_69_6 rfl ?_
      refine at_const (x := 10) dx_69_7 rfl ?_
      refine at_cltR dx_69_8 rx (by decide) (fun c8 => ?_) (fun c8 => ?_)
      · skip
        refine at_aload dx_69_10 rfl ?_
        refine at_getR dx_69_11 lc_0 rfl lt_0_5 ?_
        refine at_iload dx_69_12 rfl ?_
        refine at_aldI dx_69_13 lc_10 ln_10 (by first | omega | (simp (disch := omega) only [um_eq, um_k, um_j]; omega)) (by first | omega | (simp (disch := omega) only [um_eq, um_k, um_j]; omega)) (fun r13 => ?_)
        refine at_const (x := -1) dx_69_14 rfl ?_
        refine at_cneR dx_69_15 r13 (by decide) (fun c15 => ?_) (fun c15 => ?_)
        · skip
          refine at_const (x := 100) dx_69_18 rfl ?_
          refine at_aload dx_69_19 rfl ?_
          refine at_getR dx_69_20 lc_0 rfl lt_0_5 ?_
          refine at_iload dx_69_21 rfl ?_
          refine at_aldI dx_69_22 lc_10 ln_10 (by first | omega | (simp (disch := omega) only [um_eq, um_k, um_j]; omega)) (by first | omega | (simp (disch := omega) only [um_eq, um_k, um_j]; omega)) (fun r22 => ?_)
          refine at_mulW dx_69_23 ?_
          refine at_aload dx_69_24 rfl ?_
          refine at_getR dx_69_25 lc_0 rfl lt_0_6 ?_
          refine at_iload dx_69_26 rfl ?_
          refine at_aldI dx_69_27 lc_11 ln_11 (by first | omega | (simp (disch := omega) only [um_eq, um_k, um_j]; omega)) (by first | omega | (simp (disch := omega) only [um_eq, um_k, um_j]; omega)) (fun r27 => ?_)
          refine at_addW dx_69_28 ?_
          refine at_iretIT dx_69_29 (inR_wr _) ?_
          first | exact ⟨k1, k2⟩ | exact ⟨hC, fr_rf⟩ | exact ⟨CI_sq hC F T G, fr_le F (fun q h => by (try dsimp only [blk, sq, cq, sd, lo] at h ⊢); first | done | omega)⟩
        · skip
          refine at_const (x := -1) dx_69_16 rfl ?_
          refine at_iretIT dx_69_17 (by decide) ?_
          first | exact ⟨k1, k2⟩ | exact ⟨hC, fr_rf⟩ | exact ⟨CI_sq hC F T G, fr_le F (fun q h => by (try dsimp only [blk, sq, cq, sd, lo] at h ⊢); first | done | omega)⟩
      · skip
        refine at_thrTW dx_69_9 rfl ?_
        first | exact ⟨by decide, hC, fr_rf⟩ | exact ⟨by decide, CI_sq hC F T G, fr_le F (fun q h => by (try dsimp only [blk, sq, cq, sd, lo] at h ⊢); first | done | omega)⟩
