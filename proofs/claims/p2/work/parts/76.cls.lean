/-! ===== the calls of the class: the rest ===== -/
abbrev WC (M M' : mem) : Prop := CI M' ∧ fr lo M M' ∧ M' 0 3 = M 0 3
theorem c_rowClearW {X : scr} {M : mem} (hT : TI M) : At X 0 10 0 [vr 25] [] M (qV (fun M' => fr (fun q => q = 25) M M' ∧ TI M' ∧ RI M')) := At.mono c_rowClear (fun t v M1 h => by
  obtain ⟨h0, h1, hM1⟩ := h
  subst hM1
  exact ⟨h0, h1, fr_um rfl, TI_um hT (by rw [lc_25]; decide), by unfold RI; rw [um_eq]; decide⟩)
theorem WC_P {M M1 M' : mem} {c : Nat} (hc : ly_c c = 0) (F : fr sq M M1) (h : PND M1 M' c) : WC M M' := by
  have h8 := cl_al hc
  obtain ⟨h1, f, -, -, -, -, h7, -, -⟩ := h
  exact ⟨h1, fr_tr (fr_le F (fun q h => by (try dsimp only [sq, lo] at h ⊢); omega)) (fr_le f (fun q h => by dsimp only [pq, wq, blk, lo] at h ⊢; omega)), (f 0 3 (by dsimp only [pq, wq, blk]; omega)).trans (F 0 3 (by dsimp only [sq]; omega))⟩
set_option maxRecDepth 100000 in
set_option maxHeartbeats 4000000 in
theorem c_documentOf {X : scr} {M : mem} {x : Int} (hx : inR x) : At X 0 73 0 [vr 0, vi x] [] M (qT (qR (fun k M' => M' = M ∧ ly_c k = 5 ∧ (k = 6 ∨ 592 ≤ k))) (fun e M' => e = 0 ∧ M' = M)) := by
  refine at_iload dx_73_0 rfl ?_
  refine at_const (x := 3) dx_73_1 rfl ?_
  refine at_cneR dx_73_2 hx (by decide) (fun c2 => ?_) (fun c2 => ?_)
  · skip
    refine at_aload dx_73_6 rfl ?_
    refine at_iload dx_73_7 rfl ?_
    refine at_callVRT dx_73_8 rfl lc_0 rfl (c_clientOf hx) ?_ ?_
    rotate_left
    · rintro e M9 ⟨he, e9⟩; replace e9 := e9.symm; subst e9; exact Or.inr ⟨e, rfl, rfl, he, rfl⟩
    rintro c M9 ⟨e9, h0, h3, hcx, hc⟩; replace e9 := e9.symm; subst e9
    have h8 := cl_al hc
    refine at_getR dx_73_9 hc rfl (cl_t5 hc) ?_
    refine at_aretRT dx_73_10 ?_
    first | exact ⟨rfl, lc_6, Or.inl rfl⟩ | exact ⟨rfl, cl_c4 hc, Or.inr (by omega)⟩
  · skip
    refine at_aload dx_73_3 rfl ?_
    refine at_getR dx_73_4 lc_0 rfl lt_0_1 ?_
    refine at_goto dx_73_5 ?_
    refine at_aretRT dx_73_10 ?_
    first | exact ⟨rfl, lc_6, Or.inl rfl⟩ | exact ⟨rfl, cl_c4 hc, Or.inr (by omega)⟩

set_option maxRecDepth 100000 in
set_option maxHeartbeats 4000000 in
theorem q_lost {X : scr} {M : mem} {x : Int} (rx : inR x) (hC : CI M) : At X 0 62 0 [vr 0, vi x] [] M (qT (qI (fun _ M' => CI M' ∧ fr wq M M')) (fun e M' => e ∈ [0] ∧ CI M' ∧ fr wq M M')) := by
  have F : fr wq M M := fr_rf
  have T : TI M := hC.1
  have G : RI M := hC.2.1
  refine at_aload dx_62_0 rfl ?_
  refine at_iload dx_62_1 rfl ?_
  refine at_callVRT dx_62_2 rfl lc_0 rfl (c_clientOf rx) ?_ ?_
  rotate_left
  · rintro e M9 ⟨he, e9⟩; replace e9 := e9.symm; subst e9; exact Or.inr ⟨e, rfl, rfl, by simp only [List.mem_cons, List.not_mem_nil, or_false]; omega, hC, fr_rf⟩
  rintro c M9 ⟨e9, h0, h3, hcx, hc⟩; replace e9 := e9.symm; subst e9
  have h8 := cl_al hc
  refine at_getI 1 dx_62_3 hc rfl rfl (fun r3 => ?_)
  refine at_iretIT dx_62_4 r3 ?_
  first | exact ⟨hC, fr_rf⟩ | exact ⟨CI_sq hC (fr_le F (fun q h => by (try dsimp only [blk, sq, cq, lo, wq, pq] at h ⊢); first | done | omega)) T G, F⟩

set_option maxRecDepth 100000 in
set_option maxHeartbeats 4000000 in
theorem q_version {X : scr} {M : mem} {x : Int} (rx : inR x) (hC : CI M) : At X 0 63 0 [vr 0, vi x] [] M (qT (qI (fun _ M' => CI M' ∧ fr wq M M')) (fun e M' => e ∈ [0] ∧ CI M' ∧ fr wq M M')) := by
  have F : fr wq M M := fr_rf
  have T : TI M := hC.1
  have G : RI M := hC.2.1
  refine at_aload dx_63_0 rfl ?_
  refine at_iload dx_63_1 rfl ?_
  refine at_callVRT dx_63_2 rfl lc_0 rfl (c_clientOf rx) ?_ ?_
  rotate_left
  · rintro e M9 ⟨he, e9⟩; replace e9 := e9.symm; subst e9; exact Or.inr ⟨e, rfl, rfl, by simp only [List.mem_cons, List.not_mem_nil, or_false]; omega, hC, fr_rf⟩
  rintro c M9 ⟨e9, h0, h3, hcx, hc⟩; replace e9 := e9.symm; subst e9
  have h8 := cl_al hc
  refine at_astore dx_63_3 ?_
  refine at_const (x := 100) dx_63_4 rfl ?_
  refine at_aload dx_63_5 rfl ?_
  refine at_getI 0 dx_63_6 hc rfl rfl (fun r6 => ?_)
  refine at_mulW dx_63_7 ?_
  refine at_aload dx_63_8 rfl ?_
  refine at_getI 2 dx_63_9 hc rfl rfl (fun r9 => ?_)
  refine at_addW dx_63_10 ?_
  refine at_iretIT dx_63_11 (inR_wr _) ?_
  first | exact ⟨hC, fr_rf⟩ | exact ⟨CI_sq hC (fr_le F (fun q h => by (try dsimp only [blk, sq, cq, lo, wq, pq] at h ⊢); first | done | omega)) T G, F⟩

set_option maxRecDepth 100000 in
set_option maxHeartbeats 4000000 in
theorem q_size {X : scr} {M : mem} {x : Int} (rx : inR x) (hC : CI M) : At X 0 65 0 [vr 0, vi x] [] M (qT (qI (fun _ M' => CI M' ∧ fr wq M M')) (fun e M' => e ∈ [0] ∧ CI M' ∧ fr wq M M')) := by
  have F : fr wq M M := fr_rf
  have T : TI M := hC.1
  have G : RI M := hC.2.1
  refine at_aload dx_65_0 rfl ?_
  refine at_iload dx_65_1 rfl ?_
  refine at_callVRT dx_65_2 rfl lc_0 rfl (c_documentOf rx) ?_ ?_
  rotate_left
  · rintro e M9 ⟨he, e9⟩; replace e9 := e9.symm; subst e9; exact Or.inr ⟨e, rfl, rfl, by simp only [List.mem_cons, List.not_mem_nil, or_false]; omega, hC, fr_rf⟩
  rintro k M9 ⟨e9, hk, hk6⟩; replace e9 := e9.symm; subst e9
  have hke := tk_e hk
  refine at_getI 1 dx_65_3 hk rfl rfl (fun r3 => ?_)
  refine at_iretIT dx_65_4 r3 ?_
  first | exact ⟨hC, fr_rf⟩ | exact ⟨CI_sq hC (fr_le F (fun q h => by (try dsimp only [blk, sq, cq, lo, wq, pq] at h ⊢); first | done | omega)) T G, F⟩

set_option maxRecDepth 100000 in
set_option maxHeartbeats 4000000 in
theorem q_token {X : scr} {M : mem} {x p : Int} (rx : inR x) (rp : inR p) (hC : CI M) : At X 0 66 0 [vr 0, vi x, vi p] [] M (qT (qI (fun _ M' => CI M' ∧ fr wq M M')) (fun e M' => e ∈ [0] ∧ CI M' ∧ fr wq M M')) := by
  have F : fr wq M M := fr_rf
  have T : TI M := hC.1
  have G : RI M := hC.2.1
  refine at_aload dx_66_0 rfl ?_
  refine at_iload dx_66_1 rfl ?_
  refine at_callVRT dx_66_2 rfl lc_0 rfl (c_documentOf rx) ?_ ?_
  rotate_left
  · rintro e M9 ⟨he, e9⟩; replace e9 := e9.symm; subst e9; exact Or.inr ⟨e, rfl, rfl, by simp only [List.mem_cons, List.not_mem_nil, or_false]; omega, hC, fr_rf⟩
  rintro k M9 ⟨e9, hk, hk6⟩; replace e9 := e9.symm; subst e9
  have hke := tk_e hk
  refine at_astore dx_66_3 ?_
  refine at_iload dx_66_4 rfl ?_
  refine at_zltR dx_66_5 rp (fun c5 => ?_) (fun c5 => ?_)
  · skip
    refine at_thrTW dx_66_10 rfl ?_
    first | exact ⟨by decide, hC, fr_rf⟩ | exact ⟨by decide, CI_sq hC (fr_le F (fun q h => by (try dsimp only [blk, sq, cq, lo, wq, pq] at h ⊢); first | done | omega)) T G, F⟩
  · skip
    refine at_iload dx_66_6 rfl ?_
    refine at_aload dx_66_7 rfl ?_
    refine at_getI 1 dx_66_8 hk rfl rfl (fun r8 => ?_)
    refine at_cltR dx_66_9 rp r8 (fun c9 => ?_) (fun c9 => ?_)
    · skip
      refine at_aload dx_66_11 rfl ?_
      refine at_iload dx_66_12 rfl ?_
      refine at_callVI dx_66_13 rfl hk rfl (c_at hk rp (T _ hk)) ?_
      rintro x13 M9 r13 ⟨e9, h13⟩; replace e9 := e9.symm; subst e9
      refine at_iretIT dx_66_14 r13 ?_
      first | exact ⟨hC, fr_rf⟩ | exact ⟨CI_sq hC (fr_le F (fun q h => by (try dsimp only [blk, sq, cq, lo, wq, pq] at h ⊢); first | done | omega)) T G, F⟩
    · skip
      refine at_thrTW dx_66_10 rfl ?_
      first | exact ⟨by decide, hC, fr_rf⟩ | exact ⟨by decide, CI_sq hC (fr_le F (fun q h => by (try dsimp only [blk, sq, cq, lo, wq, pq] at h ⊢); first | done | omega)) T G, F⟩

set_option maxRecDepth 100000 in
set_option maxHeartbeats 4000000 in
theorem q_around {X : scr} {M : mem} {x p : Int} (rx : inR x) (rp : inR p) (hC : CI M) : At X 0 67 0 [vr 0, vi x, vi p] [] M (qT (qI (fun _ M' => CI M' ∧ fr wq M M')) (fun e M' => e ∈ [0] ∧ CI M' ∧ fr wq M M')) := by
  have F : fr wq M M := fr_rf
  have T : TI M := hC.1
  have G : RI M := hC.2.1
  refine at_aload dx_67_0 rfl ?_
  refine at_iload dx_67_1 rfl ?_
  refine at_callVRT dx_67_2 rfl lc_0 rfl (c_documentOf rx) ?_ ?_
  rotate_left
  · rintro e M9 ⟨he, e9⟩; replace e9 := e9.symm; subst e9; exact Or.inr ⟨e, rfl, rfl, by simp only [List.mem_cons, List.not_mem_nil, or_false]; omega, hC, fr_rf⟩
  rintro k M9 ⟨e9, hk, hk6⟩; replace e9 := e9.symm; subst e9
  have hke := tk_e hk
  refine at_astore dx_67_3 ?_
  refine at_aload dx_67_4 rfl ?_
  refine at_iload dx_67_5 rfl ?_
  refine at_callSVT dx_67_6 rfl rfl (c_checkPosition hk rp) ?_ ?_
  rotate_left
  · rintro e M9 ⟨he, e9⟩; replace e9 := e9.symm; subst e9; exact Or.inr ⟨e, rfl, rfl, by simp only [List.mem_cons, List.not_mem_nil, or_false]; omega, hC, fr_rf⟩
  rintro M9 ⟨e9, p0, p1⟩; replace e9 := e9.symm; subst e9
  refine at_aload dx_67_7 rfl ?_
  refine at_iload dx_67_8 rfl ?_
  refine at_aload dx_67_9 rfl ?_
  refine at_getR dx_67_10 lc_0 rfl lt_0_14 ?_
  refine at_callVI dx_67_11 rfl hk rfl (c_findOpen hk rp lc_31 ln_31 (by omega) (by omega) (T _ hk)) ?_
  rintro x11 M11 r11 ⟨f11, u11, v11⟩
  replace F : fr wq M _ := fr_tr F (fr_le f11 (fun q h => by (try dsimp only [blk, sq, cq, lo, wq, pq] at h ⊢); first | done | omega))
  replace G := RI_fr f11 (by (try dsimp only [blk, sq, cq, lo, wq, pq]); first | done | omega) G
  replace T : TI M11 := TI_no T f11 (fun q hq hP => by rw [hP, lc_31] at hq; exact absurd hq (by decide))
  refine at_istore dx_67_12 ?_
  refine at_const (x := 10) dx_67_13 rfl ?_
  refine at_iload dx_67_14 rfl ?_
  refine at_mulW dx_67_15 ?_
  refine at_aload dx_67_16 rfl ?_
  refine at_iload dx_67_17 rfl ?_
  refine at_callVI dx_67_18 rfl lc_0 rfl (c_innermost r11) ?_
  intro x18 M9 r18 e9; replace e9 := Eq.symm e9; subst e9
  refine at_addW dx_67_19 ?_
  refine at_iretIT dx_67_20 (inR_wr _) ?_
  first | exact ⟨hC, fr_rf⟩ | exact ⟨CI_sq hC (fr_le F (fun q h => by (try dsimp only [blk, sq, cq, lo, wq, pq] at h ⊢); first | done | omega)) T G, F⟩

set_option maxRecDepth 100000 in
set_option maxHeartbeats 4000000 in
theorem q_commentAt {X : scr} {M : mem} {x : Int} (rx : inR x) (hC : CI M) : At X 0 69 0 [vr 0, vi x] [] M (qT (qI (fun _ M' => CI M' ∧ fr wq M M')) (fun e M' => e ∈ [0] ∧ CI M' ∧ fr wq M M')) := by
  have F : fr wq M M := fr_rf
  have T : TI M := hC.1
  have G : RI M := hC.2.1
  refine at_iload dx_69_0 rfl ?_
  refine at_zltR dx_69_1 rx (fun c1 => ?_) (fun c1 => ?_)
  · skip
    refine at_thrTW dx_69_9 rfl ?_
    first | exact ⟨by decide, hC, fr_rf⟩ | exact ⟨by decide, CI_sq hC (fr_le F (fun q h => by (try dsimp only [blk, sq, cq, lo, wq, pq] at h ⊢); first | done | omega)) T G, F⟩
  · skip
    refine at_iload dx_69_2 rfl ?_
    refine at_aload dx_69_3 rfl ?_
    refine at_getI 7 dx_69_4 lc_0 rfl rfl (fun r4 => ?_)
    refine at_cgeR dx_69_5 rx r4 (fun c5 => ?_) (fun c5 => ?_)
    · skip
      refine at_thrTW dx_69_9 rfl ?_
      first | exact ⟨by decide, hC, fr_rf⟩ | exact ⟨by decide, CI_sq hC (fr_le F (fun q h => by (try dsimp only [blk, sq, cq, lo, wq, pq] at h ⊢); first | done | omega)) T G, F⟩
    · skip
      refine at_iload dx_69_6 rfl ?_
      refine at_const (x := 10) dx_69_7 rfl ?_
      refine at_cltR dx_69_8 rx (by decide) (fun c8 => ?_) (fun c8 => ?_)
      · skip
        refine at_aload dx_69_10 rfl ?_
        refine at_getR dx_69_11 lc_0 rfl lt_0_5 ?_
        refine at_iload dx_69_12 rfl ?_
        refine at_aldI dx_69_13 lc_10 ln_10 (by first | omega | (simp (disch := omega) only [um_eq, um_k, um_j]; omega)) (by first | omega | (simp (disch := omega) only [um_eq, um_k, um_j]; omega)) (fun r13 => ?_)
        refine at_const (x := -1) dx_69_14 rfl ?_
        refine at_cneR dx_69_15 r13 (by decide) (fun c15 => ?_) (fun c15 => ?_)
        · skip
          refine at_const (x := 100) dx_69_18 rfl ?_
          refine at_aload dx_69_19 rfl ?_
          refine at_getR dx_69_20 lc_0 rfl lt_0_5 ?_
          refine at_iload dx_69_21 rfl ?_
          refine at_aldI dx_69_22 lc_10 ln_10 (by first | omega | (simp (disch := omega) only [um_eq, um_k, um_j]; omega)) (by first | omega | (simp (disch := omega) only [um_eq, um_k, um_j]; omega)) (fun r22 => ?_)
          refine at_mulW dx_69_23 ?_
          refine at_aload dx_69_24 rfl ?_
          refine at_getR dx_69_25 lc_0 rfl lt_0_6 ?_
          refine at_iload dx_69_26 rfl ?_
          refine at_aldI dx_69_27 lc_11 ln_11 (by first | omega | (simp (disch := omega) only [um_eq, um_k, um_j]; omega)) (by first | omega | (simp (disch := omega) only [um_eq, um_k, um_j]; omega)) (fun r27 => ?_)
          refine at_addW dx_69_28 ?_
          refine at_iretIT dx_69_29 (inR_wr _) ?_
          first | exact ⟨hC, fr_rf⟩ | exact ⟨CI_sq hC (fr_le F (fun q h => by (try dsimp only [blk, sq, cq, lo, wq, pq] at h ⊢); first | done | omega)) T G, F⟩
        · skip
          refine at_const (x := -1) dx_69_16 rfl ?_
          refine at_iretIT dx_69_17 (by decide) ?_
          first | exact ⟨hC, fr_rf⟩ | exact ⟨CI_sq hC (fr_le F (fun q h => by (try dsimp only [blk, sq, cq, lo, wq, pq] at h ⊢); first | done | omega)) T G, F⟩
      · skip
        refine at_thrTW dx_69_9 rfl ?_
        first | exact ⟨by decide, hC, fr_rf⟩ | exact ⟨by decide, CI_sq hC (fr_le F (fun q h => by (try dsimp only [blk, sq, cq, lo, wq, pq] at h ⊢); first | done | omega)) T G, F⟩

set_option maxRecDepth 100000 in
set_option maxHeartbeats 4000000 in
theorem q_comment {X : scr} {M : mem} {f t : Int} (rf : inR f) (rt : inR t) (hC : CI M) : At X 0 68 0 [vr 0, vi f, vi t] [] M (qT (qI (fun _ M' => CI M' ∧ fr (fun q => q = 0 ∨ q = 10 ∨ q = 11) M M' ∧ M' 0 3 = M 0 3)) (fun e M' => e ∈ [0, 1, 2] ∧ CI M' ∧ fr (fun q => q = 0 ∨ q = 10 ∨ q = 11) M M' ∧ M' 0 3 = M 0 3)) := by
  have hcc := hC.2.2.2.1
  refine at_aload dx_68_0 rfl ?_
  refine at_getR dx_68_1 lc_0 rfl lt_0_1 ?_
  refine at_iload dx_68_2 rfl ?_
  refine at_iload dx_68_3 rfl ?_
  refine at_callSVT dx_68_4 rfl rfl (c_checkStretch lc_6 rf rt) ?_ ?_
  rotate_left
  · rintro e M9 ⟨he, e9⟩; replace e9 := e9.symm; subst e9; exact Or.inr ⟨e, rfl, rfl, by simp only [List.mem_cons, List.not_mem_nil, or_false]; omega, hC, fr_rf, rfl⟩
  rintro M9 ⟨e9, p0, p1, p2⟩; replace e9 := e9.symm; subst e9
  refine at_aload dx_68_5 rfl ?_
  refine at_getI 7 dx_68_6 lc_0 rfl rfl (fun r6 => ?_)
  refine at_const (x := 10) dx_68_7 rfl ?_
  refine at_cltR dx_68_8 r6 (by decide) (fun c8 => ?_) (fun c8 => ?_)
  · skip
    refine at_aload dx_68_10 rfl ?_
    refine at_getI 7 dx_68_11 lc_0 rfl rfl (fun r11 => ?_)
    refine at_istore dx_68_12 ?_
    refine at_aload dx_68_13 rfl ?_
    refine at_getR dx_68_14 lc_0 rfl lt_0_5 ?_
    refine at_iload dx_68_15 rfl ?_
    refine at_iload dx_68_16 rfl ?_
    refine at_astI dx_68_17 lc_10 ln_10 (by omega) (by omega) rf ?_
    refine at_aload dx_68_18 rfl ?_
    refine at_getR dx_68_19 lc_0 rfl lt_0_6 ?_
    refine at_iload dx_68_20 rfl ?_
    refine at_iload dx_68_21 rfl ?_
    refine at_astI dx_68_22 lc_11 ln_11 (by omega) (by omega) rt ?_
    refine at_aload dx_68_23 rfl ?_
    refine at_dup dx_68_24 rfl ?_
    refine at_getI 7 dx_68_25 lc_0 rfl rfl (fun r25 => ?_)
    refine at_const (x := 1) dx_68_26 rfl ?_
    refine at_addR dx_68_27 (by (simp (disch := omega) only [um_eq, um_k, um_j]; constructor <;> omega)) (fun r27 => ?_)
    refine at_putI 7 dx_68_28 lc_0 rfl rfl r27 ?_
    refine at_iload dx_68_29 rfl ?_
    refine at_iretIT dx_68_30 r11 ?_
    have hs : ∀ a b : Int, CI (um (um M 10 (M 0 7) a) 11 (M 0 7) b) := fun a b => CI_sq hC (fr_ums (fr_um (by (try dsimp only [blk, sq, cq, lo, wq, pq]); first | done | omega)) (by (try dsimp only [blk, sq, cq, lo, wq, pq]); first | done | omega)) (TI_um (TI_um hC.1 (by rw [lc_10]; decide)) (by rw [lc_11]; decide)) (RI_fr (P := fun q => q = 10 ∨ q = 11) (fr_ums (fr_um (Or.inl rfl)) (Or.inr rfl)) (by decide) hC.2.1)
    refine ⟨CI_07 (hs _ _) ?_, fr_ums (fr_ums (fr_um (by (try dsimp only [blk, sq, cq, lo, wq, pq]); first | done | omega)) (by (try dsimp only [blk, sq, cq, lo, wq, pq]); first | done | omega)) (by (try dsimp only [blk, sq, cq, lo, wq, pq]); first | done | omega), ?_⟩
    · simp (disch := omega) only [um_eq, um_k, um_j]; omega
    · simp (disch := omega) only [um_k, um_j]
  · skip
    refine at_thrTW dx_68_9 rfl ?_
    exact ⟨by decide, hC, fr_rf, rfl⟩

set_option maxRecDepth 100000 in
set_option maxHeartbeats 4000000 in
theorem q_isBuilt {X : scr} {M : mem} (hC : CI M) : At X 0 64 0 [vr 0] [] M (qI (fun x M' => CI M' ∧ fr wq M M')) := by
  obtain ⟨a1, a2, a3, a4, a5, a6⟩ := hC
  have lp : ∀ (n : Nat) (i : Int) (M1 : mem) (ri : inR i) (h0 : 0 ≤ i ∧ i ≤ M 0 3) (hn : (M 0 3 - i).toNat = n) (F : fr (fun q => blk 12 q ∨ q = 20 ∨ q = 21 ∨ q = 22 ∨ q = 23) M M1) (T : TI M1) (w1 : Run (lgV M i) [1, 0] (tk M1 22)), At X 0 64 5 [vr 0, vi i] [] M1 (qI (fun x M' => CI M' ∧ fr wq M M')) := by
    intro n
    induction n using Nat.strongRecOn with
    | ind n ih =>
    intro i M1 ri h0 hn F T w1
    have nx := fun (h : i < M 0 3) => Run_next (f := fun i : Nat => sv M (32 + 8 * i)) h0.1 h a5 w1
    have e3 : M1 0 3 = M 0 3 := F 0 3 (by (try dsimp only [blk]); omega)
    refine at_iload dx_64_5 rfl ?_
    refine at_aload dx_64_6 rfl ?_
    refine at_getI 3 dx_64_7 lc_0 rfl rfl (fun r7 => ?_)
    refine at_cgeR dx_64_8 ri r7 (fun c8 => ?_) (fun c8 => ?_)
    · skip
      refine at_aload dx_64_38 rfl ?_
      refine at_getR dx_64_39 lc_0 rfl lt_0_10 ?_
      refine at_aload dx_64_40 rfl ?_
      refine at_getR dx_64_41 lc_0 rfl lt_0_1 ?_
      refine at_callVI dx_64_42 rfl lc_22 rfl (c_isLike lc_22 lc_6 (T _ lc_22) (T _ lc_6)) ?_
      rintro x42 M9 r42 ⟨e9, b42, w42⟩; replace e9 := e9.symm; subst e9
      refine at_zretI dx_64_43 b42 ?_
      exact ⟨CI_sq ⟨a1, a2, a3, a4, a5, a6⟩ (fr_le F (fun q h => by (try dsimp only [blk, sq, cq, lo, wq, pq] at h ⊢); first | done | omega)) T (RI_fr F (by (try dsimp only [blk, sq, cq, lo, wq, pq]); first | done | omega) a2), fr_le F (fun q h => by (try dsimp only [blk, sq, cq, lo, wq, pq] at h ⊢); first | done | omega)⟩
    · skip
      refine at_iload dx_64_9 rfl ?_
      refine at_aload dx_64_10 rfl ?_
      refine at_getR dx_64_11 lc_0 rfl lt_0_2 ?_
      refine at_alen dx_64_12 lc_8 rfl ln_8 ?_
      refine at_cgeR dx_64_13 ri (by decide) (fun c13 => ?_) (fun c13 => ?_)
      · skip
        refine at_aload dx_64_38 rfl ?_
        refine at_getR dx_64_39 lc_0 rfl lt_0_10 ?_
        refine at_aload dx_64_40 rfl ?_
        refine at_getR dx_64_41 lc_0 rfl lt_0_1 ?_
        refine at_callVI dx_64_42 rfl lc_22 rfl (c_isLike lc_22 lc_6 (T _ lc_22) (T _ lc_6)) ?_
        rintro x42 M9 r42 ⟨e9, b42, w42⟩; replace e9 := e9.symm; subst e9
        refine at_zretI dx_64_43 b42 ?_
        exact ⟨CI_sq ⟨a1, a2, a3, a4, a5, a6⟩ (fr_le F (fun q h => by (try dsimp only [blk, sq, cq, lo, wq, pq] at h ⊢); first | done | omega)) T (RI_fr F (by (try dsimp only [blk, sq, cq, lo, wq, pq]); first | done | omega) a2), fr_le F (fun q h => by (try dsimp only [blk, sq, cq, lo, wq, pq] at h ⊢); first | done | omega)⟩
      · skip
        refine at_aload dx_64_14 rfl ?_
        refine at_getR dx_64_15 lc_0 rfl lt_0_8 ?_
        refine at_aload dx_64_16 rfl ?_
        refine at_getR dx_64_17 lc_0 rfl lt_0_2 ?_
        refine at_iload dx_64_18 rfl ?_
        refine at_aldS dx_64_19 lc_8 ln_8 (by first | omega | (simp (disch := omega) only [um_eq, um_k, um_j]; omega)) (by first | omega | (simp (disch := omega) only [um_eq, um_k, um_j]; omega)) (lg_t h0.1 (by omega)) ?_
        refine at_callVV dx_64_20 rfl lc_12 rfl (c_stepBecome lc_12 (lg_c h0.1 (by omega)) (by omega) T) ?_
        rintro M20 ⟨f20, i20, s20, -⟩
        have sK : sv M1 (32 + 8 * i.toNat) = sv M (32 + 8 * i.toNat) := sv_fr F (by (try dsimp only [blk, sq, cq, lo, wq, pq]); first | done | omega) (by (try dsimp only [blk, sq, cq, lo, wq, pq]); first | done | omega) (by (try dsimp only [blk, sq, cq, lo, wq, pq]); first | done | omega) (by (try dsimp only [blk, sq, cq, lo, wq, pq]); first | done | omega) (by (try dsimp only [blk, sq, cq, lo, wq, pq]); first | done | omega) (by (try dsimp only [blk, sq, cq, lo, wq, pq]); first | done | omega)
        have e22 : tk M20 22 = tk M1 22 := tk_fr f20 (by (try dsimp only [blk, sq, cq, lo, wq, pq]); first | done | omega) (by (try dsimp only [blk, sq, cq, lo, wq, pq]); first | done | omega)
        obtain ⟨n1, n2⟩ := nx (by omega)
        refine at_aload dx_64_21 rfl ?_
        refine at_getR dx_64_22 lc_0 rfl lt_0_8 ?_
        refine at_aload dx_64_23 rfl ?_
        refine at_getR dx_64_24 lc_0 rfl lt_0_10 ?_
        refine at_aload dx_64_25 rfl ?_
        refine at_getR dx_64_26 lc_0 rfl lt_0_9 ?_
        refine at_callVI dx_64_27 rfl lc_12 rfl (c_applyTo lc_12 lc_22 lc_20 (by decide) (by decide) (by decide) (by decide) (by decide) i20) ?_
        rintro x27 M27 r27 ⟨f27, i27, b27, w27, t27⟩
        refine at_zneR dx_64_28 r27 (fun c28 => ?_) (fun c28 => ?_)
        rotate_left
        · exfalso; exact absurd (w27.mpr (by rw [s20, sK, e22]; exact n1)) (by omega)
        · skip
          refine at_aload dx_64_31 rfl ?_
          refine at_getR dx_64_32 lc_0 rfl lt_0_10 ?_
          refine at_aload dx_64_33 rfl ?_
          refine at_getR dx_64_34 lc_0 rfl lt_0_9 ?_
          refine at_callVV dx_64_35 rfl lc_22 rfl (c_become lc_22 lc_20 (by decide) (i27 _ lc_20)) ?_
          rintro M35 ⟨f35, i35, t35⟩
          have T35 : TI M35 := TI_fr i27 f35 (fun q hq hP => by
            rcases hP with h | h
            · subst h; exact i35
            · have := tk_e hq; omega)
          refine at_iincR (y := 1) dx_64_36 rfl rfl (by constructor <;> omega) (fun r36 => ?_)
          refine at_goto dx_64_37 ?_
          exact ih _ (by omega) (i + 1) M35 r36 (by omega) rfl (fr_tr (fr_tr (fr_tr F (fr_le f20 (fun q h => by (try dsimp only [blk, sq, cq, lo, wq, pq] at h ⊢); first | done | omega))) (fr_le f27 (fun q h => by (try dsimp only [blk, sq, cq, lo, wq, pq] at h ⊢); first | done | omega))) (fr_le f35 (fun q h => by (try dsimp only [blk, sq, cq, lo, wq, pq] at h ⊢); first | done | omega))) T35 (by rw [t35, t27 (by omega), s20, sK, e22]; exact n2)
  refine at_aload dx_64_0 rfl ?_
  refine at_getR dx_64_1 lc_0 rfl lt_0_10 ?_
  refine at_callVV dx_64_2 rfl lc_22 rfl (c_becomeFirst lc_22) ?_
  rintro M2 ⟨f2, i2, t2⟩
  have T2 : TI M2 := TI_fr a1 f2 (fun q hq hP => by
    rcases hP with h | h
    · subst h; exact i2
    · have := tk_e hq; omega)
  refine at_const (x := 0) dx_64_3 rfl ?_
  refine at_istore dx_64_4 ?_
  exact lp _ 0 M2 (by decide) (by omega) rfl (fr_le f2 (fun q h => by (try dsimp only [blk, sq, cq, lo, wq, pq] at h ⊢); first | done | omega)) T2 (by rw [t2]; rfl)

theorem TI_rw {M M' : mem} (hT : TI M) (f : fr (fun q => q = 25 ∨ q = 26 ∨ q = 27 ∨ q = 28) M M') : TI M' := TI_no hT f (fun q hq hP => by
  rcases hP with h | h | h | h
  · rw [h, lc_25] at hq; exact absurd hq (by decide)
  · rw [h, lc_26] at hq; exact absurd hq (by decide)
  · rw [h, lc_27] at hq; exact absurd hq (by decide)
  · rw [h, lc_28] at hq; exact absurd hq (by decide))
set_option maxRecDepth 100000 in
set_option maxHeartbeats 4000000 in
theorem w_revert {X : scr} {M : mem} {x s : Int} (rx : inR x) (rs : inR s) (hC : CI M) : At X 0 59 0 [vr 0, vi x, vi s] [] M (qT (qI (fun _ M' => WC M M')) (fun e M' => e ∈ [0, 2] ∧ WC M M')) := by
  have F : fr sq M M := fr_rf
  have T : TI M := hC.1
  have G : RI M := hC.2.1
  have lp : ∀ (n : Nat) (c : Nat) (i : Int) (M1 : mem) (ri : inR i) (h0 : 0 ≤ i) (hn : (10 - i).toNat = n) (hc : ly_c c = 0) (F : fr sq M M1) (T : TI M1) (G : RI M1), At X 0 59 35 [vr 0, vi x, vi s, vr c, vi i] [] M1 (qT (qI (fun _ M' => WC M M')) (fun e M' => e ∈ [0, 2] ∧ WC M M')) := by
    intro n
    induction n using Nat.strongRecOn with
    | ind n ih =>
    intro c i M1 ri h0 hn hc F T G
    have h8 := cl_al hc
    refine at_iload dx_59_35 rfl ?_
    refine at_aload dx_59_36 rfl ?_
    refine at_getI 2 dx_59_37 hc rfl rfl (fun r37 => ?_)
    refine at_cgeR dx_59_38 ri r37 (fun c38 => ?_) (fun c38 => ?_)
    · skip
      refine at_aload dx_59_54 rfl ?_
      refine at_getR dx_59_55 lc_0 rfl lt_0_12 ?_
      refine at_aload dx_59_56 rfl ?_
      refine at_getR dx_59_57 lc_0 rfl lt_0_8 ?_
      refine at_const (x := 0) dx_59_58 rfl ?_
      refine at_callVI dx_59_59 rfl lc_25 rfl (c_carryStep lc_12 (by decide)) ?_
      rintro x59 M59 r59 ⟨f59, b59⟩
      replace F : fr sq M _ := fr_tr F (fr_le f59 (fun q h => by (try dsimp only [blk, sq, cq, sd, lo] at h ⊢); first | done | omega))
      replace G := RI_fr f59 (by (try dsimp only [blk, sq, cq, sd, lo]); first | done | omega) G
      replace T : TI M59 := TI_no T f59 (fun q hq hP => by
        have := tk_e hq
        rcases hP with h | h | h | h
        · rw [h, lc_12] at hq; exact absurd hq (by decide)
        · omega
        · rw [h, lc_14] at hq; exact absurd hq (by decide)
        · omega)
      refine at_zneR dx_59_60 r59 (fun c60 => ?_) (fun c60 => ?_)
      · skip
        refine at_aload dx_59_62 rfl ?_
        refine at_aload dx_59_63 rfl ?_
        refine at_callVVT dx_59_64 rfl lc_0 rfl (x_addPending hc (CI_sq hC F T G)) ?_ ?_
        rotate_left
        · rintro e M9 ⟨he, k1, k2, -⟩; exact Or.inr ⟨e, rfl, rfl, (by simp only [List.mem_cons, List.not_mem_nil, or_false]; omega), k1, fr_tr (fr_le F (fun q h => by (try dsimp only [blk, sq, cq, lo, wq, pq] at h ⊢); first | done | omega)) (fr_le k2 (fun q h => by (try dsimp only [blk, sq, cq, lo, wq, pq] at h ⊢); first | done | omega)), (k2 0 3 (by (try dsimp only [blk, sq, cq, lo, wq, pq]); first | done | omega)).trans (F 0 3 (by (try dsimp only [blk, sq, cq, lo, wq, pq]); first | done | omega))⟩
        rintro M8 k8
        have kw := WC_P hc F k8
        refine at_aload dx_59_65 rfl ?_
        refine at_getR dx_59_66 hc rfl (cl_t5 hc) ?_
        refine at_getI 1 dx_59_67 (cl_c4 hc) rfl rfl (fun r67 => ?_)
        refine at_iretIT dx_59_68 r67 ?_
        first | exact kw | exact ⟨hC, fr_rf, rfl⟩ | exact ⟨CI_sq hC F T G, fr_le F (fun q h => by (try dsimp only [blk, sq, cq, lo, wq, pq] at h ⊢); first | done | omega), F 0 3 (by (try dsimp only [blk, sq, cq, lo, wq, pq]); first | done | omega)⟩
      · skip
        refine at_thrTW dx_59_61 rfl ?_
        first | exact ⟨by decide, hC, fr_rf, rfl⟩ | exact ⟨by decide, CI_sq hC F T G, fr_le F (fun q h => by (try dsimp only [blk, sq, cq, lo, wq, pq] at h ⊢); first | done | omega), F 0 3 (by (try dsimp only [blk, sq, cq, lo, wq, pq]); first | done | omega)⟩
    · skip
      refine at_iload dx_59_39 rfl ?_
      refine at_aload dx_59_40 rfl ?_
      refine at_getR dx_59_41 hc rfl (cl_t3 hc) ?_
      refine at_alen dx_59_42 (cl_c1 hc) rfl (cl_n1 hc) ?_
      refine at_cgeR dx_59_43 ri (by decide) (fun c43 => ?_) (fun c43 => ?_)
      · skip
        refine at_aload dx_59_54 rfl ?_
        refine at_getR dx_59_55 lc_0 rfl lt_0_12 ?_
        refine at_aload dx_59_56 rfl ?_
        refine at_getR dx_59_57 lc_0 rfl lt_0_8 ?_
        refine at_const (x := 0) dx_59_58 rfl ?_
        refine at_callVI dx_59_59 rfl lc_25 rfl (c_carryStep lc_12 (by decide)) ?_
        rintro x59 M59 r59 ⟨f59, b59⟩
        replace F : fr sq M _ := fr_tr F (fr_le f59 (fun q h => by (try dsimp only [blk, sq, cq, sd, lo] at h ⊢); first | done | omega))
        replace G := RI_fr f59 (by (try dsimp only [blk, sq, cq, sd, lo]); first | done | omega) G
        replace T : TI M59 := TI_no T f59 (fun q hq hP => by
          have := tk_e hq
          rcases hP with h | h | h | h
          · rw [h, lc_12] at hq; exact absurd hq (by decide)
          · omega
          · rw [h, lc_14] at hq; exact absurd hq (by decide)
          · omega)
        refine at_zneR dx_59_60 r59 (fun c60 => ?_) (fun c60 => ?_)
        · skip
          refine at_aload dx_59_62 rfl ?_
          refine at_aload dx_59_63 rfl ?_
          refine at_callVVT dx_59_64 rfl lc_0 rfl (x_addPending hc (CI_sq hC F T G)) ?_ ?_
          rotate_left
          · rintro e M9 ⟨he, k1, k2, -⟩; exact Or.inr ⟨e, rfl, rfl, (by simp only [List.mem_cons, List.not_mem_nil, or_false]; omega), k1, fr_tr (fr_le F (fun q h => by (try dsimp only [blk, sq, cq, lo, wq, pq] at h ⊢); first | done | omega)) (fr_le k2 (fun q h => by (try dsimp only [blk, sq, cq, lo, wq, pq] at h ⊢); first | done | omega)), (k2 0 3 (by (try dsimp only [blk, sq, cq, lo, wq, pq]); first | done | omega)).trans (F 0 3 (by (try dsimp only [blk, sq, cq, lo, wq, pq]); first | done | omega))⟩
          rintro M8 k8
          have kw := WC_P hc F k8
          refine at_aload dx_59_65 rfl ?_
          refine at_getR dx_59_66 hc rfl (cl_t5 hc) ?_
          refine at_getI 1 dx_59_67 (cl_c4 hc) rfl rfl (fun r67 => ?_)
          refine at_iretIT dx_59_68 r67 ?_
          first | exact kw | exact ⟨hC, fr_rf, rfl⟩ | exact ⟨CI_sq hC F T G, fr_le F (fun q h => by (try dsimp only [blk, sq, cq, lo, wq, pq] at h ⊢); first | done | omega), F 0 3 (by (try dsimp only [blk, sq, cq, lo, wq, pq]); first | done | omega)⟩
        · skip
          refine at_thrTW dx_59_61 rfl ?_
          first | exact ⟨by decide, hC, fr_rf, rfl⟩ | exact ⟨by decide, CI_sq hC F T G, fr_le F (fun q h => by (try dsimp only [blk, sq, cq, lo, wq, pq] at h ⊢); first | done | omega), F 0 3 (by (try dsimp only [blk, sq, cq, lo, wq, pq]); first | done | omega)⟩
      · skip
        refine at_aload dx_59_44 rfl ?_
        refine at_getR dx_59_45 lc_0 rfl lt_0_12 ?_
        refine at_aload dx_59_46 rfl ?_
        refine at_getR dx_59_47 hc rfl (cl_t3 hc) ?_
        refine at_iload dx_59_48 rfl ?_
        refine at_aldS dx_59_49 (cl_c1 hc) (cl_n1 hc) (by first | omega | (simp (disch := omega) only [um_eq, um_k, um_j]; omega)) (by first | omega | (simp (disch := omega) only [um_eq, um_k, um_j]; omega)) (pd_t hc h0 (by omega)) ?_
        refine at_const (x := 0) dx_59_50 rfl ?_
        refine at_callVV dx_59_51 rfl lc_25 rfl (c_addMap (pd_c hc h0 (by omega)) (Or.inl rfl) (by decide) G) ?_
        rintro M51 ⟨f51, g51⟩
        replace F : fr sq M _ := fr_tr F (fr_le f51 (fun q h => by (try dsimp only [blk, sq, cq, lo, wq, pq] at h ⊢); first | done | omega))
        replace T := TI_rw T f51
        replace G := g51
        refine at_iincR (y := 1) dx_59_52 rfl rfl (by constructor <;> omega) (fun r52 => ?_)
        refine at_goto dx_59_53 ?_
        exact ih _ (by omega) _ _ _ r52 (by omega) rfl hc F T G
  refine at_aload dx_59_0 rfl ?_
  refine at_iload dx_59_1 rfl ?_
  refine at_callVRT dx_59_2 rfl lc_0 rfl (c_clientOf rx) ?_ ?_
  rotate_left
  · rintro e M9 ⟨he, e9⟩; replace e9 := e9.symm; subst e9; exact Or.inr ⟨e, rfl, rfl, by simp only [List.mem_cons, List.not_mem_nil, or_false]; omega, hC, fr_rf, rfl⟩
  rintro c M9 ⟨e9, h0, h3, hcx, hc⟩; replace e9 := e9.symm; subst e9
  have h8 := cl_al hc
  refine at_astore dx_59_3 ?_
  refine at_iload dx_59_4 rfl ?_
  refine at_zltR dx_59_5 rs (fun c5 => ?_) (fun c5 => ?_)
  · skip
    refine at_thrT dx_59_15 rfl ?_
    first | exact ⟨by decide, hC, fr_rf, rfl⟩ | exact ⟨by decide, CI_sq hC F T G, fr_le F (fun q h => by (try dsimp only [blk, sq, cq, lo, wq, pq] at h ⊢); first | done | omega), F 0 3 (by (try dsimp only [blk, sq, cq, lo, wq, pq]); first | done | omega)⟩
  · skip
    refine at_iload dx_59_6 rfl ?_
    refine at_aload dx_59_7 rfl ?_
    refine at_getI 0 dx_59_8 hc rfl rfl (fun r8 => ?_)
    refine at_cgeR dx_59_9 rs r8 (fun c9 => ?_) (fun c9 => ?_)
    · skip
      refine at_thrT dx_59_15 rfl ?_
      first | exact ⟨by decide, hC, fr_rf, rfl⟩ | exact ⟨by decide, CI_sq hC F T G, fr_le F (fun q h => by (try dsimp only [blk, sq, cq, lo, wq, pq] at h ⊢); first | done | omega), F 0 3 (by (try dsimp only [blk, sq, cq, lo, wq, pq]); first | done | omega)⟩
    · skip
      refine at_iload dx_59_10 rfl ?_
      refine at_aload dx_59_11 rfl ?_
      refine at_getR dx_59_12 lc_0 rfl lt_0_2 ?_
      refine at_alen dx_59_13 lc_8 rfl ln_8 ?_
      refine at_cltR dx_59_14 rs (by decide) (fun c14 => ?_) (fun c14 => ?_)
      · skip
        refine at_aload dx_59_16 rfl ?_
        refine at_getR dx_59_17 lc_0 rfl lt_0_8 ?_
        refine at_aload dx_59_18 rfl ?_
        refine at_getR dx_59_19 lc_0 rfl lt_0_2 ?_
        refine at_iload dx_59_20 rfl ?_
        refine at_aldS dx_59_21 lc_8 ln_8 (by first | omega | (simp (disch := omega) only [um_eq, um_k, um_j]; omega)) (by first | omega | (simp (disch := omega) only [um_eq, um_k, um_j]; omega)) (lg_t (by omega) (by omega)) ?_
        refine at_callVV dx_59_22 rfl lc_12 rfl (c_becomeInverse lc_12 (lg_c (by omega) (by omega)) (by omega) T) ?_
        rintro M22 ⟨f22, i22⟩
        replace T := i22
        replace F : fr sq M _ := fr_tr F (fr_le f22 (fun q h => by (try dsimp only [blk, sq, cq, sd, lo] at h ⊢); first | done | omega))
        replace G := RI_fr f22 (by (try dsimp only [blk, sq, cq, sd, lo]); first | done | omega) G
        refine at_aload dx_59_23 rfl ?_
        refine at_getR dx_59_24 lc_0 rfl lt_0_12 ?_
        refine at_callVV dx_59_25 rfl lc_25 rfl (c_rowClearW T) ?_
        rintro M25 ⟨f25, i25, g25⟩
        replace F : fr sq M _ := fr_tr F (fr_le f25 (fun q h => by (try dsimp only [blk, sq, cq, lo, wq, pq] at h ⊢); first | done | omega))
        replace T := i25
        replace G := g25
        refine at_aload dx_59_26 rfl ?_
        refine at_iload dx_59_27 rfl ?_
        refine at_const (x := 1) dx_59_28 rfl ?_
        refine at_addR dx_59_29 (by constructor <;> omega) (fun r29 => ?_)
        refine at_aload dx_59_30 rfl ?_
        refine at_getI 0 dx_59_31 hc rfl rfl (fun r31 => ?_)
        refine at_callVV dx_59_32 rfl lc_0 rfl (c_addConfirmedMaps r29 r31 G) ?_
        rintro M32 ⟨f32, g32⟩
        replace F : fr sq M _ := fr_tr F (fr_le f32 (fun q h => by (try dsimp only [blk, sq, cq, lo, wq, pq] at h ⊢); first | done | omega))
        replace T := TI_rw T f32
        replace G := g32
        refine at_const (x := 0) dx_59_33 rfl ?_
        refine at_istore dx_59_34 ?_
        exact lp _ _ 0 _ (by decide) (by decide) rfl hc F T G
      · skip
        refine at_thrT dx_59_15 rfl ?_
        first | exact ⟨by decide, hC, fr_rf, rfl⟩ | exact ⟨by decide, CI_sq hC F T G, fr_le F (fun q h => by (try dsimp only [blk, sq, cq, lo, wq, pq] at h ⊢); first | done | omega), F 0 3 (by (try dsimp only [blk, sq, cq, lo, wq, pq]); first | done | omega)⟩

set_option maxRecDepth 100000 in
set_option maxHeartbeats 4000000 in
theorem w_receive {X : scr} {M : mem} {x : Int} (rx : inR x) (hC : CI M) : At X 0 61 0 [vr 0, vi x] [] M (qT (qI (fun _ M' => WC M M')) (fun e M' => e ∈ [0] ∧ WC M M')) := by
  have F : fr sq M M := fr_rf
  have T : TI M := hC.1
  have G : RI M := hC.2.1
  have lp : ∀ (n : Nat) (c : Nat) (d i : Int) (M1 : mem) (rd : inR d) (ri : inR i) (hi : i < 10) (hn : (i + 1).toNat = n) (hc : ly_c c = 0) (F : fr sq M M1) (T : TI M1) (G : RI M1), At X 0 61 18 [vr 0, vi x, vr c, vi d, vi i] [] M1 (qT (qI (fun _ M' => WC M M')) (fun e M' => e ∈ [0] ∧ WC M M')) := by
    intro n
    induction n using Nat.strongRecOn with
    | ind n ih =>
    intro c d i M1 rd ri hi hn hc F T G
    have h8 := cl_al hc
    have hCc := hC.2.2.2.2.2 c hc
    refine at_iload dx_61_18 rfl ?_
    refine at_zltR dx_61_19 ri (fun c19 => ?_) (fun c19 => ?_)
    · skip
      refine at_aload dx_61_35 rfl ?_
      refine at_aload dx_61_36 rfl ?_
      refine at_getI 0 dx_61_37 hc rfl rfl (fun r37 => ?_)
      refine at_aload dx_61_38 rfl ?_
      refine at_getI 3 dx_61_39 lc_0 rfl rfl (fun r39 => ?_)
      refine at_callVV dx_61_40 rfl lc_0 rfl (c_addConfirmedMaps r37 r39 G) ?_
      rintro M40 ⟨f40, g40⟩
      replace F : fr sq M _ := fr_tr F (fr_le f40 (fun q h => by (try dsimp only [blk, sq, cq, lo, wq, pq] at h ⊢); first | done | omega))
      replace T := TI_rw T f40
      replace G := g40
      refine at_aload dx_61_41 rfl ?_
      refine at_aload dx_61_42 rfl ?_
      refine at_getI 3 dx_61_43 lc_0 rfl rfl (fun r43 => ?_)
      refine at_putI 0 dx_61_44 hc rfl rfl r43 ?_
      refine at_mem (fun M44 hM44 => ?_)
      have f44 : fr (fun q => q = c) M40 M44 := by rw [hM44]; exact fr_um rfl
      have T44 : TI M44 := by rw [hM44]; exact TI_um T (by rw [hc]; decide)
      refine at_aload dx_61_45 rfl ?_
      refine at_getR dx_61_46 hc rfl (cl_t4 hc) ?_
      refine at_aload dx_61_47 rfl ?_
      refine at_getR dx_61_48 lc_0 rfl lt_0_1 ?_
      refine at_callVV dx_61_49 rfl (cl_c2 hc) rfl (c_become (cl_c2 hc) lc_6 (by omega) (T44 _ lc_6)) ?_
      rintro M49 ⟨f49, i49, t49⟩
      have T49 : TI M49 := TI_fr T44 f49 (fun q hq hP => by
        rcases hP with h | h
        · subst h; exact i49
        · have := tk_e hq; omega)
      refine at_aload dx_61_50 rfl ?_
      refine at_getR dx_61_51 hc rfl (cl_t5 hc) ?_
      refine at_aload dx_61_52 rfl ?_
      refine at_getR dx_61_53 lc_0 rfl lt_0_1 ?_
      refine at_callVV dx_61_54 rfl (cl_c4 hc) rfl (c_become (cl_c4 hc) lc_6 (by omega) (T49 _ lc_6)) ?_
      rintro M54 ⟨f54, i54, t54⟩
      have T54 : TI M54 := TI_fr T49 f54 (fun q hq hP => by
        rcases hP with h | h
        · subst h; exact i54
        · have := tk_e hq; omega)
      refine at_aload dx_61_55 rfl ?_
      refine at_aload dx_61_56 rfl ?_
      refine at_callVV dx_61_57 rfl lc_0 rfl (c_mapPending hc T54 (RI_fr f54 (by (try dsimp only [blk, sq, cq, lo, wq, pq]); first | done | omega) (RI_fr f49 (by (try dsimp only [blk, sq, cq, lo, wq, pq]); first | done | omega) (RI_fr f44 (by (try dsimp only [blk, sq, cq, lo, wq, pq]); first | done | omega) G))) (by rw [f54 c 2 (by (try dsimp only [blk, sq, cq, lo, wq, pq]); first | done | omega), f49 c 2 (by (try dsimp only [blk, sq, cq, lo, wq, pq]); first | done | omega), hM44, um_j (by decide), F c 2 (by (try dsimp only [blk, sq, cq, lo, wq, pq]); first | done | omega)]; exact ⟨hCc.2.2.1, hCc.2.2.2.1⟩)) ?_
      rintro M57 ⟨f57, T57, g57, u0, u2, ub, w57⟩
      refine at_iload dx_61_58 rfl ?_
      refine at_iretIT dx_61_59 rd ?_
      have F57 : fr (fun q => sq q ∨ cq c q) M M57 := fr_tr (fr_tr (fr_tr (fr_tr (fr_le F (fun q h => by (try dsimp only [blk, sq, cq, lo, wq, pq] at h ⊢); first | done | omega)) (fr_le f44 (fun q h => by (try dsimp only [blk, sq, cq, lo, wq, pq] at h ⊢); first | done | omega))) (fr_le f49 (fun q h => by (try dsimp only [blk, sq, cq, lo, wq, pq] at h ⊢); first | done | omega))) (fr_le f54 (fun q h => by (try dsimp only [blk, sq, cq, lo, wq, pq] at h ⊢); first | done | omega))) f57
      have c0 : M57 c 0 = M 0 3 := by rw [u0, f54 c 0 (by (try dsimp only [blk, sq, cq, lo, wq, pq]); first | done | omega), f49 c 0 (by (try dsimp only [blk, sq, cq, lo, wq, pq]); first | done | omega), hM44, um_eq, F 0 3 (by (try dsimp only [blk, sq, cq, lo, wq, pq]); first | done | omega)]
      have e6 : tk M57 (c + 2) = tk M 6 := by rw [ub, tk_fr f54 (by (try dsimp only [blk, sq, cq, lo, wq, pq]); first | done | omega) (by (try dsimp only [blk, sq, cq, lo, wq, pq]); first | done | omega), t49, tk_fr f44 (by (try dsimp only [blk, sq, cq, lo, wq, pq]); first | done | omega) (by (try dsimp only [blk, sq, cq, lo, wq, pq]); first | done | omega), tk_fr F (by (try dsimp only [blk, sq, cq, lo, wq, pq]); first | done | omega) (by (try dsimp only [blk, sq, cq, lo, wq, pq]); first | done | omega)]
      have d6 : tk M54 (c + 4) = tk M 6 := by rw [t54, tk_fr f49 (by (try dsimp only [blk, sq, cq, lo, wq, pq]); first | done | omega) (by (try dsimp only [blk, sq, cq, lo, wq, pq]); first | done | omega), tk_fr f44 (by (try dsimp only [blk, sq, cq, lo, wq, pq]); first | done | omega) (by (try dsimp only [blk, sq, cq, lo, wq, pq]); first | done | omega), tk_fr F (by (try dsimp only [blk, sq, cq, lo, wq, pq]); first | done | omega) (by (try dsimp only [blk, sq, cq, lo, wq, pq]); first | done | omega)]
      have e03 : M57 0 3 = M 0 3 := F57 0 3 (by (try dsimp only [blk, sq, cq, lo, wq, pq]); first | done | omega)
      refine ⟨CI_cl hC hc F57 T57 g57 ⟨?_, ?_, u2.1, u2.2, ?_, ?_⟩, fr_le F57 (fun q h => by (try dsimp only [blk, sq, cq, lo, wq, pq] at h ⊢); first | done | omega), e03⟩
      · rw [c0]; exact hC.2.2.1.1
      · rw [c0, e03]; exact Int.le_refl _
      · rw [c0, e6, lgV_cg F57 (by have := hC.2.2.1; omega) (fun q hP => by dsimp only [sq, cq] at hP; omega)]; exact hC.2.2.2.2.1
      · rw [e6, ← d6]; exact w57
    · skip
      refine at_iload dx_61_20 rfl ?_
      refine at_aload dx_61_21 rfl ?_
      refine at_getR dx_61_22 hc rfl (cl_t3 hc) ?_
      refine at_alen dx_61_23 (cl_c1 hc) rfl (cl_n1 hc) ?_
      refine at_cgeR dx_61_24 ri (by decide) (fun c24 => ?_) (fun c24 => ?_)
      · skip
        refine at_iincR (y := -1) dx_61_33 rfl rfl (by constructor <;> omega) (fun r33 => ?_)
        refine at_goto dx_61_34 ?_
        exact ih _ (by omega) _ _ _ _ rd r33 (by omega) rfl hc F T G
      · skip
        refine at_aload dx_61_25 rfl ?_
        refine at_getR dx_61_26 lc_0 rfl lt_0_12 ?_
        refine at_aload dx_61_27 rfl ?_
        refine at_getR dx_61_28 hc rfl (cl_t3 hc) ?_
        refine at_iload dx_61_29 rfl ?_
        refine at_aldS dx_61_30 (cl_c1 hc) (cl_n1 hc) (by first | omega | (simp (disch := omega) only [um_eq, um_k, um_j]; omega)) (by first | omega | (simp (disch := omega) only [um_eq, um_k, um_j]; omega)) (pd_t hc (by omega) (by omega)) ?_
        refine at_const (x := 1) dx_61_31 rfl ?_
        refine at_callVV dx_61_32 rfl lc_25 rfl (c_addMap (pd_c hc (by omega) (by omega)) (Or.inr rfl) (by decide) G) ?_
        rintro M32 ⟨f32, g32⟩
        replace F : fr sq M _ := fr_tr F (fr_le f32 (fun q h => by (try dsimp only [blk, sq, cq, lo, wq, pq] at h ⊢); first | done | omega))
        replace T := TI_rw T f32
        replace G := g32
        refine at_iincR (y := -1) dx_61_33 rfl rfl (by constructor <;> omega) (fun r33 => ?_)
        refine at_goto dx_61_34 ?_
        exact ih _ (by omega) _ _ _ _ rd r33 (by omega) rfl hc F T G
  refine at_aload dx_61_0 rfl ?_
  refine at_iload dx_61_1 rfl ?_
  refine at_callVRT dx_61_2 rfl lc_0 rfl (c_clientOf rx) ?_ ?_
  rotate_left
  · rintro e M9 ⟨he, e9⟩; replace e9 := e9.symm; subst e9; exact Or.inr ⟨e, rfl, rfl, by simp only [List.mem_cons, List.not_mem_nil, or_false]; omega, hC, fr_rf, rfl⟩
  rintro c M9 ⟨e9, h0, h3, hcx, hc⟩; replace e9 := e9.symm; subst e9
  have h8 := cl_al hc
  refine at_astore dx_61_3 ?_
  refine at_aload dx_61_4 rfl ?_
  refine at_getI 3 dx_61_5 lc_0 rfl rfl (fun r5 => ?_)
  refine at_aload dx_61_6 rfl ?_
  refine at_getI 0 dx_61_7 hc rfl rfl (fun r7 => ?_)
  have hCc0 := hC.2.2.2.2.2 c hc
  have hC03 := hC.2.2.1
  refine at_subR dx_61_8 (by constructor <;> omega) (fun r8 => ?_)
  refine at_istore dx_61_9 ?_
  refine at_aload dx_61_10 rfl ?_
  refine at_getR dx_61_11 lc_0 rfl lt_0_12 ?_
  refine at_callVV dx_61_12 rfl lc_25 rfl (c_rowClearW T) ?_
  rintro M12 ⟨f12, i12, g12⟩
  replace F : fr sq M _ := fr_tr F (fr_le f12 (fun q h => by (try dsimp only [blk, sq, cq, lo, wq, pq] at h ⊢); first | done | omega))
  replace T := i12
  replace G := g12
  have e2c : M12 c 2 = M c 2 := F c 2 (by (try dsimp only [blk, sq, cq, lo, wq, pq]); first | done | omega)
  have hCc := hC.2.2.2.2.2 c hc
  refine at_aload dx_61_13 rfl ?_
  refine at_getI 2 dx_61_14 hc rfl rfl (fun r14 => ?_)
  refine at_const (x := 1) dx_61_15 rfl ?_
  refine at_subR dx_61_16 (by constructor <;> omega) (fun r16 => ?_)
  refine at_istore dx_61_17 ?_
  exact lp _ _ _ _ _ r8 r16 (by omega) rfl hc F T G

set_option maxRecDepth 100000 in
set_option maxHeartbeats 4000000 in
theorem w_copy {X : scr} {M : mem} {x f t : Int} (rx : inR x) (rf : inR f) (rt : inR t) (hC : CI M) : At X 0 56 0 [vr 0, vi x, vi f, vi t] [] M (qT (qI (fun _ M' => WC M M')) (fun e M' => e ∈ [0, 1] ∧ WC M M')) := by
  have F : fr sq M M := fr_rf
  have T : TI M := hC.1
  have G : RI M := hC.2.1
  have l3 : ∀ (n : Nat) (c : Nat) (d lv lw i : Int) (M1 : mem) (rd : inR d) (rlv : inR lv) (rlw : inR lw) (ri : inR i) (hn : (lv - i).toNat = n) (hc : ly_c c = 0) (F : fr sq M M1) (T : TI M1) (G : RI M1), At X 0 56 72 [vr 0, vi x, vi f, vi t, vr c, vi d, vi lv, vi lw, vi i] [] M1 (qT (qI (fun _ M' => WC M M')) (fun e M' => e ∈ [0, 1] ∧ WC M M')) := by
    intro n
    induction n using Nat.strongRecOn with
    | ind n ih =>
    intro c d lv lw i M1 rd rlv rlw ri hn hc F T G
    have h8 := cl_al hc
    refine at_iload dx_56_72 rfl ?_
    refine at_iload dx_56_73 rfl ?_
    refine at_cgeR dx_56_74 ri rlv (fun c74 => ?_) (fun c74 => ?_)
    · skip
      refine at_aload dx_56_81 rfl ?_
      refine at_getR dx_56_82 hc rfl (cl_t6 hc) ?_
      refine at_getI 1 dx_56_83 (cl_c6 hc) rfl rfl (fun r83 => ?_)
      refine at_iretIT dx_56_84 r83 ?_
      first | exact kw | exact ⟨hC, fr_rf, rfl⟩ | exact ⟨CI_sq hC F T G, fr_le F (fun q h => by (try dsimp only [blk, sq, cq, lo, wq, pq] at h ⊢); first | done | omega), F 0 3 (by (try dsimp only [blk, sq, cq, lo, wq, pq]); first | done | omega)⟩
    · skip
      refine at_aload dx_56_75 rfl ?_
      refine at_getR dx_56_76 hc rfl (cl_t6 hc) ?_
      refine at_const (x := 0) dx_56_77 rfl ?_
      refine at_callVV dx_56_78 rfl (cl_c6 hc) rfl (c_addW (cl_c6 hc) (by decide) T) ?_
      rintro M78 ⟨f78, i78, -⟩
      replace T := i78
      replace F : fr sq M _ := fr_tr F (fr_le f78 (fun q h => by (try dsimp only [blk, sq, cq, sd, lo] at h ⊢); first | done | omega))
      replace G := RI_fr f78 (by (try dsimp only [blk, sq, cq, sd, lo]); first | done | omega) G
      refine at_iincR (y := 1) dx_56_79 rfl rfl (by constructor <;> omega) (fun r79 => ?_)
      refine at_goto dx_56_80 ?_
      exact ih _ (by omega) _ _ _ _ _ _ rd rlv rlw r79 rfl hc F T G
  have l2 : ∀ (n : Nat) (c : Nat) (d lv lw i : Int) (M1 : mem) (rd : inR d) (rlv : inR lv) (rlw : inR lw) (ri : inR i) (h0 : 0 ≤ i) (hn : (60 - i).toNat = n) (hc : ly_c c = 0) (F : fr sq M M1) (T : TI M1) (G : RI M1), At X 0 56 46 [vr 0, vi x, vi f, vi t, vr c, vi d, vi lv, vi lw, vi i] [] M1 (qT (qI (fun _ M' => WC M M')) (fun e M' => e ∈ [0, 1] ∧ WC M M')) := by
    intro n
    induction n using Nat.strongRecOn with
    | ind n ih =>
    intro c d lv lw i M1 rd rlv rlw ri h0 hn hc F T G
    have h8 := cl_al hc
    refine at_iload dx_56_46 rfl ?_
    refine at_iload dx_56_47 rfl ?_
    refine at_cgeR dx_56_48 ri rd (fun c48 => ?_) (fun c48 => ?_)
    · skip
      refine at_aload dx_56_63 rfl ?_
      refine at_getR dx_56_64 hc rfl (cl_t6 hc) ?_
      refine at_aload dx_56_65 rfl ?_
      refine at_getR dx_56_66 hc rfl (cl_t5 hc) ?_
      refine at_iload dx_56_67 rfl ?_
      refine at_iload dx_56_68 rfl ?_
      refine at_callVV dx_56_69 rfl (cl_c6 hc) rfl (c_addSlice (cl_c6 hc) (cl_c4 hc) (by omega) rf rt (T _ (cl_c6 hc)) (T _ (cl_c4 hc))) ?_
      rintro M69 ⟨f69, i69, -⟩
      replace T : TI M69 := TI_fr T f69 (fun q hq hP => by
        rcases hP with h | h
        · subst h; exact i69
        · have := tk_e hq; omega)
      replace F : fr sq M _ := fr_tr F (fr_le f69 (fun q h => by (try dsimp only [blk, sq, cq, sd, lo] at h ⊢); first | done | omega))
      replace G := RI_fr f69 (by (try dsimp only [blk, sq, cq, sd, lo]); first | done | omega) G
      refine at_iload dx_56_70 rfl ?_
      refine at_istore dx_56_71 ?_
      exact l3 _ _ _ _ _ _ _ rd rlv rlw rlw rfl hc F T G
    · skip
      refine at_iload dx_56_49 rfl ?_
      refine at_aload dx_56_50 rfl ?_
      refine at_getR dx_56_51 lc_0 rfl lt_0_14 ?_
      refine at_alen dx_56_52 lc_31 rfl ln_31 ?_
      refine at_cgeR dx_56_53 ri (by decide) (fun c53 => ?_) (fun c53 => ?_)
      · skip
        refine at_aload dx_56_63 rfl ?_
        refine at_getR dx_56_64 hc rfl (cl_t6 hc) ?_
        refine at_aload dx_56_65 rfl ?_
        refine at_getR dx_56_66 hc rfl (cl_t5 hc) ?_
        refine at_iload dx_56_67 rfl ?_
        refine at_iload dx_56_68 rfl ?_
        refine at_callVV dx_56_69 rfl (cl_c6 hc) rfl (c_addSlice (cl_c6 hc) (cl_c4 hc) (by omega) rf rt (T _ (cl_c6 hc)) (T _ (cl_c4 hc))) ?_
        rintro M69 ⟨f69, i69, -⟩
        replace T : TI M69 := TI_fr T f69 (fun q hq hP => by
          rcases hP with h | h
          · subst h; exact i69
          · have := tk_e hq; omega)
        replace F : fr sq M _ := fr_tr F (fr_le f69 (fun q h => by (try dsimp only [blk, sq, cq, sd, lo] at h ⊢); first | done | omega))
        replace G := RI_fr f69 (by (try dsimp only [blk, sq, cq, sd, lo]); first | done | omega) G
        refine at_iload dx_56_70 rfl ?_
        refine at_istore dx_56_71 ?_
        exact l3 _ _ _ _ _ _ _ rd rlv rlw rlw rfl hc F T G
      · skip
        refine at_aload dx_56_54 rfl ?_
        refine at_getR dx_56_55 hc rfl (cl_t6 hc) ?_
        refine at_aload dx_56_56 rfl ?_
        refine at_getR dx_56_57 lc_0 rfl lt_0_14 ?_
        refine at_iload dx_56_58 rfl ?_
        refine at_aldI dx_56_59 lc_31 ln_31 (by first | omega | (simp (disch := omega) only [um_eq, um_k, um_j]; omega)) (by first | omega | (simp (disch := omega) only [um_eq, um_k, um_j]; omega)) (fun r59 => ?_)
        refine at_callVV dx_56_60 rfl (cl_c6 hc) rfl (c_addW (cl_c6 hc) r59 T) ?_
        rintro M60 ⟨f60, i60, -⟩
        replace T := i60
        replace F : fr sq M _ := fr_tr F (fr_le f60 (fun q h => by (try dsimp only [blk, sq, cq, sd, lo] at h ⊢); first | done | omega))
        replace G := RI_fr f60 (by (try dsimp only [blk, sq, cq, sd, lo]); first | done | omega) G
        refine at_iincR (y := 1) dx_56_61 rfl rfl (by constructor <;> omega) (fun r61 => ?_)
        refine at_goto dx_56_62 ?_
        exact ih _ (by omega) _ _ _ _ _ _ rd rlv rlw r61 (by omega) rfl hc F T G
  have l1 : ∀ (n : Nat) (c : Nat) (d lv lw i : Int) (M1 : mem) (rd : inR d) (rlv : inR lv) (rlw : inR lw) (ri : inR i) (hn : (t - i).toNat = n) (hc : ly_c c = 0) (F : fr sq M M1) (T : TI M1) (G : RI M1), At X 0 56 22 [vr 0, vi x, vi f, vi t, vr c, vi d, vi lv, vi lw, vi i] [] M1 (qT (qI (fun _ M' => WC M M')) (fun e M' => e ∈ [0, 1] ∧ WC M M')) := by
    intro n
    induction n using Nat.strongRecOn with
    | ind n ih =>
    intro c d lv lw i M1 rd rlv rlw ri hn hc F T G
    have h8 := cl_al hc
    refine at_iload dx_56_22 rfl ?_
    refine at_iload dx_56_23 rfl ?_
    refine at_cgeR dx_56_24 ri rt (fun c24 => ?_) (fun c24 => ?_)
    · skip
      refine at_aload dx_56_39 rfl ?_
      refine at_getR dx_56_40 hc rfl (cl_t6 hc) ?_
      refine at_callVV dx_56_41 rfl (cl_c6 hc) rfl (c_clearW (cl_c6 hc) T) ?_
      rintro M41 ⟨f41, i41, -⟩
      replace T := i41
      replace F : fr sq M _ := fr_tr F (fr_le f41 (fun q h => by (try dsimp only [blk, sq, cq, sd, lo] at h ⊢); first | done | omega))
      replace G := RI_fr f41 (by (try dsimp only [blk, sq, cq, sd, lo]); first | done | omega) G
      refine at_iload dx_56_42 rfl ?_
      refine at_const (x := 0) dx_56_43 rfl ?_
      refine at_maxR dx_56_44 rfl rlw (by decide) (fun c44 => ?_) (fun c44 => ?_)
      · skip
        refine at_istore dx_56_45 ?_
        first | exact l2 _ _ _ _ _ _ _ rd rlv rlw (by assumption) (by omega) rfl hc F T G | exact l2 _ _ _ _ _ 0 _ rd rlv rlw (by decide) (by decide) rfl hc F T G
      · skip
        refine at_istore dx_56_45 ?_
        first | exact l2 _ _ _ _ _ _ _ rd rlv rlw (by assumption) (by omega) rfl hc F T G | exact l2 _ _ _ _ _ 0 _ rd rlv rlw (by decide) (by decide) rfl hc F T G
    · skip
      refine at_iload dx_56_25 rfl ?_
      refine at_aload dx_56_26 rfl ?_
      refine at_getR dx_56_27 hc rfl (cl_t5 hc) ?_
      refine at_iload dx_56_28 rfl ?_
      refine at_callVI dx_56_29 rfl (cl_c4 hc) rfl (c_at (cl_c4 hc) ri (T _ (cl_c4 hc))) ?_
      rintro x29 M9 r29 ⟨e9, h29⟩; replace e9 := e9.symm; subst e9
      refine at_callSI dx_56_30 rfl rfl (c_depthChange r29) ?_
      rintro x30 M9 r30 ⟨e9, h30⟩; replace e9 := e9.symm; subst e9
      refine at_addW dx_56_31 ?_
      refine at_istore dx_56_32 ?_
      refine at_iload dx_56_33 rfl ?_
      refine at_iload dx_56_34 rfl ?_
      refine at_minR dx_56_35 rfl rlw (inR_wr _) (fun c35 => ?_) (fun c35 => ?_)
      · skip
        refine at_istore dx_56_36 ?_
        refine at_iincR (y := 1) dx_56_37 rfl rfl (by constructor <;> omega) (fun r37 => ?_)
        refine at_goto dx_56_38 ?_
        exact ih _ (by omega) _ _ _ _ _ _ rd (inR_wr _) (by first | assumption | exact inR_wr _) r37 rfl hc F T G
      · skip
        refine at_istore dx_56_36 ?_
        refine at_iincR (y := 1) dx_56_37 rfl rfl (by constructor <;> omega) (fun r37 => ?_)
        refine at_goto dx_56_38 ?_
        exact ih _ (by omega) _ _ _ _ _ _ rd (inR_wr _) (by first | assumption | exact inR_wr _) r37 rfl hc F T G
  refine at_aload dx_56_0 rfl ?_
  refine at_iload dx_56_1 rfl ?_
  refine at_callVRT dx_56_2 rfl lc_0 rfl (c_clientOf rx) ?_ ?_
  rotate_left
  · rintro e M9 ⟨he, e9⟩; replace e9 := e9.symm; subst e9; exact Or.inr ⟨e, rfl, rfl, by simp only [List.mem_cons, List.not_mem_nil, or_false]; omega, hC, fr_rf, rfl⟩
  rintro c M9 ⟨e9, h0, h3, hcx, hc⟩; replace e9 := e9.symm; subst e9
  have h8 := cl_al hc
  refine at_astore dx_56_3 ?_
  refine at_aload dx_56_4 rfl ?_
  refine at_getR dx_56_5 hc rfl (cl_t5 hc) ?_
  refine at_iload dx_56_6 rfl ?_
  refine at_iload dx_56_7 rfl ?_
  refine at_callSVT dx_56_8 rfl rfl (c_checkStretch (cl_c4 hc) rf rt) ?_ ?_
  rotate_left
  · rintro e M9 ⟨he, e9⟩; replace e9 := e9.symm; subst e9; exact Or.inr ⟨e, rfl, rfl, by simp only [List.mem_cons, List.not_mem_nil, or_false]; omega, hC, fr_rf, rfl⟩
  rintro M9 ⟨e9, p0, p1, p2⟩; replace e9 := e9.symm; subst e9
  refine at_aload dx_56_9 rfl ?_
  refine at_getR dx_56_10 hc rfl (cl_t5 hc) ?_
  refine at_iload dx_56_11 rfl ?_
  refine at_aload dx_56_12 rfl ?_
  refine at_getR dx_56_13 lc_0 rfl lt_0_14 ?_
  refine at_callVI dx_56_14 rfl (cl_c4 hc) rfl (c_findOpen (cl_c4 hc) rf lc_31 ln_31 (by omega) (by omega) (T _ (cl_c4 hc))) ?_
  rintro x14 M14 r14 ⟨f14, u14, v14⟩
  replace F : fr sq M _ := fr_tr F (fr_le f14 (fun q h => by (try dsimp only [blk, sq, cq, sd, lo] at h ⊢); first | done | omega))
  replace G := RI_fr f14 (by (try dsimp only [blk, sq, cq, sd, lo]); first | done | omega) G
  replace T : TI M14 := TI_no T f14 (fun q hq hP => by rw [hP, lc_31] at hq; exact absurd hq (by decide))
  refine at_istore dx_56_15 ?_
  refine at_iload dx_56_16 rfl ?_
  refine at_istore dx_56_17 ?_
  refine at_iload dx_56_18 rfl ?_
  refine at_istore dx_56_19 ?_
  refine at_iload dx_56_20 rfl ?_
  refine at_istore dx_56_21 ?_
  exact l1 _ _ _ _ _ _ _ r14 r14 r14 rf rfl hc F T G

set_option maxRecDepth 100000 in
set_option maxHeartbeats 4000000 in
theorem x_revert0 {X : scr} {M : mem} {x s : Int} (rx : inR x) (rs : inR s) (hC : CI M) (h03 : M 0 3 = 0) : At X 0 59 0 [vr 0, vi x, vi s] [] M (qT (qI (fun _ _ => False)) (fun e M' => e ∈ [0, 2] ∧ M' = M)) := by
  refine at_aload dx_59_0 rfl ?_
  refine at_iload dx_59_1 rfl ?_
  refine at_callVRT dx_59_2 rfl lc_0 rfl (x_clientOf rx) ?_ ?_
  rotate_left
  · rintro e M9 ⟨he, e9, hx9⟩; exact Or.inr ⟨e, rfl, rfl, (by simp only [List.mem_cons, List.not_mem_nil, or_false]; omega), e9⟩
  rintro c M9 ⟨e9, h0, h3, hcx, hc⟩; replace e9 := e9.symm; subst e9
  have h8 := cl_al hc
  refine at_astore dx_59_3 ?_
  refine at_iload dx_59_4 rfl ?_
  refine at_zltR dx_59_5 rs (fun c5 => ?_) (fun c5 => ?_)
  · skip
    refine at_thrT dx_59_15 rfl ?_
    exact ⟨by decide, rfl⟩
  · skip
    refine at_iload dx_59_6 rfl ?_
    refine at_aload dx_59_7 rfl ?_
    refine at_getI 0 dx_59_8 hc rfl rfl (fun r8 => ?_)
    refine at_cgeR dx_59_9 rs r8 (fun c9 => ?_) (fun c9 => ?_)
    rotate_left
    · exfalso; (have := (hC.2.2.2.2.2 c hc); omega)
    · skip
      refine at_thrT dx_59_15 rfl ?_
      exact ⟨by decide, rfl⟩
