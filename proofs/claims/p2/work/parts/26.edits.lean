/-! ===== the edits one by one ===== -/
noncomputable def cIf (P : Prop) (D : gD) : List gD := @ite _ P (Classical.propDecidable P) [D] []
theorem cIf_t {P : Prop} {D : gD} (h : P) : cIf P D = [D] := by unfold cIf; exact if_pos h
theorem cIf_f {P : Prop} {D : gD} (h : ¬ P) : cIf P D = [] := by unfold cIf; exact if_neg h
abbrev cfn : Type := List Int → List Int → List gD
noncomputable def csType (p l : Int) : cfn := fun d _ => cIf ((0 ≤ p ∧ p ≤ (d.length : Int)) ∧ 0 ≤ l ∧ l < 26) (0, ([p, 0], [100 + 4 * l]))
noncomputable def csErase (f t : Int) : cfn := fun d _ => cIf (0 ≤ f ∧ f < t ∧ t ≤ (d.length : Int)) (0, ([f, t - f], []))
noncomputable def csSplit (p : Int) : cfn := fun d _ => cIf ((0 ≤ p ∧ p ≤ (d.length : Int)) ∧ opn (d.take p.toNat) ≠ []) (0, ([p, 0], [0, (opn (d.take p.toNat)).headD 0]))
noncomputable def csJoin (p : Int) : cfn := fun d _ => cIf ((0 ≤ p ∧ p ≤ (d.length : Int)) ∧ atL d (p - 1) = 0 ∧ isO (atL d p)) (0, ([p - 1, 2], []))
noncomputable def csWrap (f t y : Int) : cfn := fun d _ => cIf (isO y ∧ 0 ≤ f ∧ f < t ∧ t ≤ (d.length : Int)) (1, ([f, 0, 1, t, 0, 1], [y, 0]))
noncomputable def csUnwrap (p : Int) : cfn := fun d _ => cIf ((0 ≤ p ∧ p ≤ (d.length : Int)) ∧ isO (atL d p) ∧ fcl (d.drop p.toNat) 0 p ≠ -1) (1, ([p, 1, 0, fcl (d.drop p.toNat) 0 p, 1, 0], []))
noncomputable def csSetType (p y : Int) : cfn := fun d _ => cIf ((0 ≤ p ∧ p ≤ (d.length : Int)) ∧ isO y ∧ isO (atL d p) ∧ atL d p ≠ y) (0, ([p, 1], [y]))
noncomputable def csMark (f t m z : Int) : cfn := fun d _ => cIf ((0 ≤ m ∧ m < 2) ∧ (0 ≤ f ∧ f < t ∧ t ≤ (d.length : Int)) ∧ ∃ i : Int, f ≤ i ∧ i < t ∧ mkT z (m + 1) (atL d i) ≠ atL d i) (2, ([f, t, m, z], []))
theorem fcl_b : ∀ (l : List Int) (lv i : Int), 0 ≤ i → fcl l lv i = -1 ∨ (i ≤ fcl l lv i ∧ fcl l lv i < i + (l.length : Int)) := by
  intro l
  induction l with
  | nil => intro lv i _; exact Or.inl rfl
  | cons x r ih =>
    intro lv i h0
    show (if lv + dcc x = 0 then i else fcl r (lv + dcc x) (i + 1)) = -1 ∨ (i ≤ (if lv + dcc x = 0 then i else fcl r (lv + dcc x) (i + 1)) ∧ (if lv + dcc x = 0 then i else fcl r (lv + dcc x) (i + 1)) < i + ((r.length + 1 : Nat) : Int))
    by_cases e : lv + dcc x = 0
    · rw [if_pos e]; omega
    · rw [if_neg e]
      have := ih (lv + dcc x) (i + 1) (by omega)
      omega
theorem atL_0 {l : List Int} {i : Int} (h : atL l i ≠ -1) : 0 ≤ i ∧ i < (l.length : Int) := by
  unfold atL at h
  by_cases h0 : 0 ≤ i
  · rw [if_pos h0, List.getD_eq_getElem?_getD] at h
    refine ⟨h0, ?_⟩
    by_cases h1 : i.toNat < l.length
    · omega
    · rw [List.getElem?_eq_none (by omega)] at h
      exact absurd rfl h
  · rw [if_neg h0] at h
    exact absurd rfl h

set_option maxRecDepth 100000 in
set_option maxHeartbeats 4000000 in
theorem x_type {X : scr} {M : mem} {x p l : Int} (rx : inR x) (rp : inR p) (rl : inR l) (hC : CI M) : At X 0 48 0 [vr 0, vi x, vi p, vi l] [] M (qT (qI (fun _ M' => OC x (csType p l) M M')) (fun e M' => e ∈ [0, 2] ∧ OC x (csType p l) M M')) := by
  have F : fr wq M M := fr_rf
  have T : TI M := hC.1
  have G : RI M := hC.2.1
  refine at_aload dx_48_0 rfl ?_
  refine at_iload dx_48_1 rfl ?_
  refine at_callVRT dx_48_2 rfl lc_0 rfl (x_clientOf rx) ?_ ?_
  rotate_left
  · rintro e M9 ⟨he, e9, hno⟩; replace e9 := e9.symm; subst e9; exact Or.inr ⟨e, rfl, rfl, (by simp only [List.mem_cons, List.not_mem_nil, or_false]; omega), Or.inr ⟨hno, hC, fr_rf⟩⟩
  rintro c M9 ⟨e9, h0, h3, hcx, hc⟩; replace e9 := e9.symm; subst e9
  have h8 := cl_al hc
  have hIc := hC.1 _ (cl_c4 hc)
  have el : ((tk M (c + 4)).length : Int) = M (c + 4) 1 := by rw [tk_len]; omega
  refine at_astore dx_48_3 ?_
  refine at_aload dx_48_4 rfl ?_
  refine at_getR dx_48_5 hc rfl (cl_t5 hc) ?_
  refine at_iload dx_48_6 rfl ?_
  refine at_callSVT dx_48_7 rfl rfl (x_checkPosition (cl_c4 hc) rp) ?_ ?_
  rotate_left
  · rintro e M9 ⟨he, e9, hno⟩; replace e9 := e9.symm; subst e9; exact Or.inr ⟨e, rfl, rfl, (by simp only [List.mem_cons, List.not_mem_nil, or_false]; omega), OC_nil h0 h3 hcx hC fr_rf (by show cIf _ _ = []; exact cIf_f (fun hh => by omega))⟩
  rintro M9 ⟨e9, p0, p1⟩; replace e9 := e9.symm; subst e9
  refine at_iload dx_48_8 rfl ?_
  refine at_zltR dx_48_9 rl (fun c9 => ?_) (fun c9 => ?_)
  · skip
    refine at_thrT dx_48_13 rfl ?_
    exact ⟨by decide, OC_nil h0 h3 hcx hC fr_rf (by show cIf _ _ = []; exact cIf_f (fun hh => by omega))⟩
  · skip
    refine at_iload dx_48_10 rfl ?_
    refine at_const (x := 26) dx_48_11 rfl ?_
    refine at_cltR dx_48_12 rl (by decide) (fun c12 => ?_) (fun c12 => ?_)
    · skip
      refine at_aload dx_48_14 rfl ?_
      refine at_getR dx_48_15 lc_0 rfl lt_0_8 ?_
      refine at_callVV dx_48_16 rfl lc_12 rfl (x_becomeChange lc_12 T) ?_
      rintro M16 ⟨f16, i16, d16⟩
      replace F : fr wq M _ := fr_tr F (fr_le f16 (fun q h => by (try dsimp only [blk, sq, cq, lo, wq, pq] at h ⊢); first | done | omega))
      replace G := RI_fr f16 (by (try dsimp only [blk, sq, cq, lo, wq, pq]); first | done | omega) G
      replace T := i16
      refine at_aload dx_48_17 rfl ?_
      refine at_getR dx_48_18 lc_0 rfl lt_0_8 ?_
      refine at_iload dx_48_19 rfl ?_
      refine at_const (x := 0) dx_48_20 rfl ?_
      refine at_callVV dx_48_21 rfl lc_12 rfl (x_addRange0 lc_12 rp (by decide) T d16) ?_
      rintro M21 ⟨f21, i21, d21⟩
      replace F : fr wq M _ := fr_tr F (fr_le f21 (fun q h => by (try dsimp only [blk, sq, cq, lo, wq, pq] at h ⊢); first | done | omega))
      replace G := RI_fr f21 (by (try dsimp only [blk, sq, cq, lo, wq, pq]); first | done | omega) G
      replace T := i21
      refine at_aload dx_48_22 rfl ?_
      refine at_getR dx_48_23 lc_0 rfl lt_0_8 ?_
      refine at_const (x := 100) dx_48_24 rfl ?_
      refine at_const (x := 4) dx_48_25 rfl ?_
      refine at_iload dx_48_26 rfl ?_
      refine at_mulR dx_48_27 (by (constructor <;> omega)) (fun r27 => ?_)
      refine at_addR dx_48_28 (by (constructor <;> omega)) (fun r28 => ?_)
      refine at_callVV dx_48_29 rfl lc_12 rfl (x_addPut1 lc_12 r28 T (by decide) (by simp) d21) ?_
      rintro M29 ⟨f29, i29, d29⟩
      replace F : fr wq M _ := fr_tr F (fr_le f29 (fun q h => by (try dsimp only [blk, sq, cq, lo, wq, pq] at h ⊢); first | done | omega))
      replace G := RI_fr f29 (by (try dsimp only [blk, sq, cq, lo, wq, pq]); first | done | omega) G
      replace T := i29
      have e4 : tk M29 (c + 4) = tk M (c + 4) := (wq_c hc F).2.2.2.1
      have hDV : cVD (sv M29 12) (0, ([p, 0], [100 + 4 * l])) := DS1_D d29 rfl
      have hSM : smD (0, ([p, 0], [100 + 4 * l])) := ⟨by omega, by decide, Nat.le_of_ble_eq_true rfl⟩
      have hCS : (csType p l) (tk M (c + 4)) (tk M (c + 6)) = [(0, ([p, 0], [100 + 4 * l]))] := by show cIf _ _ = _; exact cIf_t (by omega)
      have hHK : ((0, ([p, 0], [100 + 4 * l])) : gD).1 = 2 → okD (0, ([p, 0], [100 + 4 * l])) (tk M (c + 4)) := fun e => absurd e (by show ¬ ((0 : Nat) = 2); decide)
      refine at_aload dx_48_30 rfl ?_
      refine at_aload dx_48_31 rfl ?_
      refine at_callVVT dx_48_32 rfl lc_0 rfl (x_addPending hc (CI_sq hC (fr_le F (fun q h => by (try dsimp only [blk, sq, cq, lo, wq, pq] at h ⊢); first | done | omega)) T G)) ?_ ?_
      rotate_left
      · rintro e M9 ⟨he, k⟩; exact Or.inr ⟨e, rfl, rfl, (by simp only [List.mem_cons, List.not_mem_nil, or_false]; omega), OC_of h0 h3 hcx (Or.inr (No_of hc hC.1 F hDV hSM hHK hCS k))⟩
      rintro M8 k8
      refine at_aload dx_48_33 rfl ?_
      refine at_getR dx_48_34 hc rfl (cl_t5 hc) ?_
      refine at_getI 1 dx_48_35 (cl_c4 hc) rfl rfl (fun r35 => ?_)
      refine at_iretIT dx_48_36 r35 ?_
      exact OC_of h0 h3 hcx (Or.inl (Out_of hc hC.1 F hDV hSM hHK hCS k8))
    · skip
      refine at_thrT dx_48_13 rfl ?_
      exact ⟨by decide, OC_nil h0 h3 hcx hC fr_rf (by show cIf _ _ = []; exact cIf_f (fun hh => by omega))⟩

set_option maxRecDepth 100000 in
set_option maxHeartbeats 4000000 in
theorem x_erase {X : scr} {M : mem} {x f t : Int} (rx : inR x) (rf : inR f) (rt : inR t) (hC : CI M) : At X 0 49 0 [vr 0, vi x, vi f, vi t] [] M (qT (qI (fun _ M' => OC x (csErase f t) M M')) (fun e M' => e ∈ [0, 1, 2] ∧ OC x (csErase f t) M M')) := by
  have F : fr wq M M := fr_rf
  have T : TI M := hC.1
  have G : RI M := hC.2.1
  refine at_aload dx_49_0 rfl ?_
  refine at_iload dx_49_1 rfl ?_
  refine at_callVRT dx_49_2 rfl lc_0 rfl (x_clientOf rx) ?_ ?_
  rotate_left
  · rintro e M9 ⟨he, e9, hno⟩; replace e9 := e9.symm; subst e9; exact Or.inr ⟨e, rfl, rfl, (by simp only [List.mem_cons, List.not_mem_nil, or_false]; omega), Or.inr ⟨hno, hC, fr_rf⟩⟩
  rintro c M9 ⟨e9, h0, h3, hcx, hc⟩; replace e9 := e9.symm; subst e9
  have h8 := cl_al hc
  have hIc := hC.1 _ (cl_c4 hc)
  have el : ((tk M (c + 4)).length : Int) = M (c + 4) 1 := by rw [tk_len]; omega
  refine at_astore dx_49_3 ?_
  refine at_aload dx_49_4 rfl ?_
  refine at_getR dx_49_5 hc rfl (cl_t5 hc) ?_
  refine at_iload dx_49_6 rfl ?_
  refine at_iload dx_49_7 rfl ?_
  refine at_callSVT dx_49_8 rfl rfl (x_checkStretch (cl_c4 hc) rf rt) ?_ ?_
  rotate_left
  · rintro e M9 ⟨he, e9, hno⟩; replace e9 := e9.symm; subst e9; exact Or.inr ⟨e, rfl, rfl, (by simp only [List.mem_cons, List.not_mem_nil, or_false]; omega), OC_nil h0 h3 hcx hC fr_rf (by show cIf _ _ = []; exact cIf_f (fun hh => by omega))⟩
  rintro M9 ⟨e9, p0, p1, p2⟩; replace e9 := e9.symm; subst e9
  refine at_aload dx_49_9 rfl ?_
  refine at_getR dx_49_10 lc_0 rfl lt_0_8 ?_
  refine at_callVV dx_49_11 rfl lc_12 rfl (x_becomeChange lc_12 T) ?_
  rintro M11 ⟨f11, i11, d11⟩
  replace F : fr wq M _ := fr_tr F (fr_le f11 (fun q h => by (try dsimp only [blk, sq, cq, lo, wq, pq] at h ⊢); first | done | omega))
  replace G := RI_fr f11 (by (try dsimp only [blk, sq, cq, lo, wq, pq]); first | done | omega) G
  replace T := i11
  refine at_aload dx_49_12 rfl ?_
  refine at_getR dx_49_13 lc_0 rfl lt_0_8 ?_
  refine at_iload dx_49_14 rfl ?_
  refine at_iload dx_49_15 rfl ?_
  refine at_iload dx_49_16 rfl ?_
  refine at_subR dx_49_17 (by constructor <;> omega) (fun r17 => ?_)
  refine at_callVV dx_49_18 rfl lc_12 rfl (x_addRange0 lc_12 rf r17 T d11) ?_
  rintro M18 ⟨f18, i18, d18⟩
  replace F : fr wq M _ := fr_tr F (fr_le f18 (fun q h => by (try dsimp only [blk, sq, cq, lo, wq, pq] at h ⊢); first | done | omega))
  replace G := RI_fr f18 (by (try dsimp only [blk, sq, cq, lo, wq, pq]); first | done | omega) G
  replace T := i18
  have e4 : tk M18 (c + 4) = tk M (c + 4) := (wq_c hc F).2.2.2.1
  have hDV : cVD (sv M18 12) (0, ([f, t - f], [])) := DS1_D d18 rfl
  have hSM : smD (0, ([f, t - f], [])) := ⟨by omega, by omega, Nat.le_of_ble_eq_true rfl⟩
  have hCS : (csErase f t) (tk M (c + 4)) (tk M (c + 6)) = [(0, ([f, t - f], []))] := by show cIf _ _ = _; exact cIf_t (by omega)
  have hHK : ((0, ([f, t - f], [])) : gD).1 = 2 → okD (0, ([f, t - f], [])) (tk M (c + 4)) := fun e => absurd e (by show ¬ ((0 : Nat) = 2); decide)
  refine at_aload dx_49_19 rfl ?_
  refine at_aload dx_49_20 rfl ?_
  refine at_callVVT dx_49_21 rfl lc_0 rfl (x_addPending hc (CI_sq hC (fr_le F (fun q h => by (try dsimp only [blk, sq, cq, lo, wq, pq] at h ⊢); first | done | omega)) T G)) ?_ ?_
  rotate_left
  · rintro e M9 ⟨he, k⟩; exact Or.inr ⟨e, rfl, rfl, (by simp only [List.mem_cons, List.not_mem_nil, or_false]; omega), OC_of h0 h3 hcx (Or.inr (No_of hc hC.1 F hDV hSM hHK hCS k))⟩
  rintro M8 k8
  refine at_aload dx_49_22 rfl ?_
  refine at_getR dx_49_23 hc rfl (cl_t5 hc) ?_
  refine at_getI 1 dx_49_24 (cl_c4 hc) rfl rfl (fun r24 => ?_)
  refine at_iretIT dx_49_25 r24 ?_
  exact OC_of h0 h3 hcx (Or.inl (Out_of hc hC.1 F hDV hSM hHK hCS k8))

set_option maxRecDepth 100000 in
set_option maxHeartbeats 4000000 in
theorem x_split {X : scr} {M : mem} {x p : Int} (rx : inR x) (rp : inR p) (hC : CI M) : At X 0 50 0 [vr 0, vi x, vi p] [] M (qT (qI (fun _ M' => OC x (csSplit p) M M')) (fun e M' => e ∈ [0, 2] ∧ OC x (csSplit p) M M')) := by
  have F : fr wq M M := fr_rf
  have T : TI M := hC.1
  have G : RI M := hC.2.1
  refine at_aload dx_50_0 rfl ?_
  refine at_iload dx_50_1 rfl ?_
  refine at_callVRT dx_50_2 rfl lc_0 rfl (x_clientOf rx) ?_ ?_
  rotate_left
  · rintro e M9 ⟨he, e9, hno⟩; replace e9 := e9.symm; subst e9; exact Or.inr ⟨e, rfl, rfl, (by simp only [List.mem_cons, List.not_mem_nil, or_false]; omega), Or.inr ⟨hno, hC, fr_rf⟩⟩
  rintro c M9 ⟨e9, h0, h3, hcx, hc⟩; replace e9 := e9.symm; subst e9
  have h8 := cl_al hc
  have hIc := hC.1 _ (cl_c4 hc)
  have el : ((tk M (c + 4)).length : Int) = M (c + 4) 1 := by rw [tk_len]; omega
  refine at_astore dx_50_3 ?_
  refine at_aload dx_50_4 rfl ?_
  refine at_getR dx_50_5 hc rfl (cl_t5 hc) ?_
  refine at_iload dx_50_6 rfl ?_
  refine at_callSVT dx_50_7 rfl rfl (x_checkPosition (cl_c4 hc) rp) ?_ ?_
  rotate_left
  · rintro e M9 ⟨he, e9, hno⟩; replace e9 := e9.symm; subst e9; exact Or.inr ⟨e, rfl, rfl, (by simp only [List.mem_cons, List.not_mem_nil, or_false]; omega), OC_nil h0 h3 hcx hC fr_rf (by show cIf _ _ = []; exact cIf_f (fun hh => by omega))⟩
  rintro M9 ⟨e9, p0, p1⟩; replace e9 := e9.symm; subst e9
  refine at_aload dx_50_8 rfl ?_
  refine at_getR dx_50_9 hc rfl (cl_t5 hc) ?_
  refine at_iload dx_50_10 rfl ?_
  refine at_aload dx_50_11 rfl ?_
  refine at_getR dx_50_12 lc_0 rfl lt_0_14 ?_
  refine at_callVI dx_50_13 rfl (cl_c4 hc) rfl (x_findOpen (cl_c4 hc) rp lc_31 ln_31 (by omega) (by omega) (T _ (cl_c4 hc)) ⟨p0, p1⟩) ?_
  rintro x13 M13 r13 ⟨f13, u13, v13, w13⟩
  have i13 : TI M13 := TI_no T f13 (fun q hq hP => by rw [hP, lc_31] at hq; exact absurd hq (by decide))
  replace F : fr wq M _ := fr_tr F (fr_le f13 (fun q h => by (try dsimp only [blk, sq, cq, lo, wq, pq] at h ⊢); first | done | omega))
  replace G := RI_fr f13 (by (try dsimp only [blk, sq, cq, lo, wq, pq]); first | done | omega) G
  replace T := i13
  refine at_istore dx_50_14 ?_
  refine at_aload dx_50_15 rfl ?_
  refine at_iload dx_50_16 rfl ?_
  refine at_callVI dx_50_17 rfl lc_0 rfl (x_innermost r13 (by omega)) ?_
  rintro x17 M9 r17 ⟨e9, h17⟩; replace e9 := e9.symm; subst e9
  have hln := congrArg List.length w13
  rw [stkA_len] at hln
  refine at_istore dx_50_18 ?_
  refine at_iload dx_50_19 rfl ?_
  refine at_zneR dx_50_20 r13 (fun c20 => ?_) (fun c20 => ?_)
  · skip
    have hne : opn ((tk M (c + 4)).take p.toNat) ≠ [] := fun e => by rw [e] at hln; simp only [List.length_nil] at hln; omega
    have hty : (opn ((tk M (c + 4)).take p.toNat)).headD 0 = x17 := by rw [h17, if_neg (by omega), ← w13, stkA_pop (by omega)]; rfl
    refine at_aload dx_50_22 rfl ?_
    refine at_getR dx_50_23 lc_0 rfl lt_0_8 ?_
    refine at_callVV dx_50_24 rfl lc_12 rfl (x_becomeChange lc_12 T) ?_
    rintro M24 ⟨f24, i24, d24⟩
    replace F : fr wq M _ := fr_tr F (fr_le f24 (fun q h => by (try dsimp only [blk, sq, cq, lo, wq, pq] at h ⊢); first | done | omega))
    replace G := RI_fr f24 (by (try dsimp only [blk, sq, cq, lo, wq, pq]); first | done | omega) G
    replace T := i24
    refine at_aload dx_50_25 rfl ?_
    refine at_getR dx_50_26 lc_0 rfl lt_0_8 ?_
    refine at_iload dx_50_27 rfl ?_
    refine at_const (x := 0) dx_50_28 rfl ?_
    refine at_callVV dx_50_29 rfl lc_12 rfl (x_addRange0 lc_12 rp (by decide) T d24) ?_
    rintro M29 ⟨f29, i29, d29⟩
    replace F : fr wq M _ := fr_tr F (fr_le f29 (fun q h => by (try dsimp only [blk, sq, cq, lo, wq, pq] at h ⊢); first | done | omega))
    replace G := RI_fr f29 (by (try dsimp only [blk, sq, cq, lo, wq, pq]); first | done | omega) G
    replace T := i29
    refine at_aload dx_50_30 rfl ?_
    refine at_getR dx_50_31 lc_0 rfl lt_0_8 ?_
    refine at_const (x := 0) dx_50_32 rfl ?_
    refine at_callVV dx_50_33 rfl lc_12 rfl (x_addPut1 lc_12 (by decide) T (by decide) (by simp) d29) ?_
    rintro M33 ⟨f33, i33, d33⟩
    replace F : fr wq M _ := fr_tr F (fr_le f33 (fun q h => by (try dsimp only [blk, sq, cq, lo, wq, pq] at h ⊢); first | done | omega))
    replace G := RI_fr f33 (by (try dsimp only [blk, sq, cq, lo, wq, pq]); first | done | omega) G
    replace T := i33
    refine at_aload dx_50_34 rfl ?_
    refine at_getR dx_50_35 lc_0 rfl lt_0_8 ?_
    refine at_iload dx_50_36 rfl ?_
    refine at_callVV dx_50_37 rfl lc_12 rfl (x_addPut1 lc_12 r17 T (by decide) (by simp) d33) ?_
    rintro M37 ⟨f37, i37, d37⟩
    replace F : fr wq M _ := fr_tr F (fr_le f37 (fun q h => by (try dsimp only [blk, sq, cq, lo, wq, pq] at h ⊢); first | done | omega))
    replace G := RI_fr f37 (by (try dsimp only [blk, sq, cq, lo, wq, pq]); first | done | omega) G
    replace T := i37
    have e4 : tk M37 (c + 4) = tk M (c + 4) := (wq_c hc F).2.2.2.1
    have hDV : cVD (sv M37 12) (0, ([p, 0], [0, (opn ((tk M (c + 4)).take p.toNat)).headD 0])) := by rw [hty]; exact DS1_D d37 rfl
    have hSM : smD (0, ([p, 0], [0, (opn ((tk M (c + 4)).take p.toNat)).headD 0])) := ⟨by omega, by decide, Nat.le_of_ble_eq_true rfl⟩
    have hCS : (csSplit p) (tk M (c + 4)) (tk M (c + 6)) = [(0, ([p, 0], [0, (opn ((tk M (c + 4)).take p.toNat)).headD 0]))] := by show cIf _ _ = _; exact cIf_t (⟨by omega, hne⟩)
    have hHK : ((0, ([p, 0], [0, (opn ((tk M (c + 4)).take p.toNat)).headD 0])) : gD).1 = 2 → okD (0, ([p, 0], [0, (opn ((tk M (c + 4)).take p.toNat)).headD 0])) (tk M (c + 4)) := fun e => absurd e (by show ¬ ((0 : Nat) = 2); decide)
    refine at_aload dx_50_38 rfl ?_
    refine at_aload dx_50_39 rfl ?_
    refine at_callVVT dx_50_40 rfl lc_0 rfl (x_addPending hc (CI_sq hC (fr_le F (fun q h => by (try dsimp only [blk, sq, cq, lo, wq, pq] at h ⊢); first | done | omega)) T G)) ?_ ?_
    rotate_left
    · rintro e M9 ⟨he, k⟩; exact Or.inr ⟨e, rfl, rfl, (by simp only [List.mem_cons, List.not_mem_nil, or_false]; omega), OC_of h0 h3 hcx (Or.inr (No_of hc hC.1 F hDV hSM hHK hCS k))⟩
    rintro M8 k8
    refine at_iload dx_50_41 rfl ?_
    refine at_iretIT dx_50_42 r17 ?_
    exact OC_of h0 h3 hcx (Or.inl (Out_of hc hC.1 F hDV hSM hHK hCS k8))
  · skip
    have hnil : opn ((tk M (c + 4)).take p.toNat) = [] := List.length_eq_zero_iff.mp (by omega)
    refine at_thrT dx_50_21 rfl ?_
    exact ⟨by decide, OC_nil h0 h3 hcx (CI_sq hC (fr_le F (fun q h => by (try dsimp only [blk, sq, cq, lo, wq, pq] at h ⊢); first | done | omega)) T G) F (by show cIf _ _ = []; exact cIf_f (fun hh => hh.2 hnil))⟩

set_option maxRecDepth 100000 in
set_option maxHeartbeats 4000000 in
theorem x_join {X : scr} {M : mem} {x p : Int} (rx : inR x) (rp : inR p) (hC : CI M) : At X 0 51 0 [vr 0, vi x, vi p] [] M (qT (qI (fun _ M' => OC x (csJoin p) M M')) (fun e M' => e ∈ [0, 2] ∧ OC x (csJoin p) M M')) := by
  have F : fr wq M M := fr_rf
  have T : TI M := hC.1
  have G : RI M := hC.2.1
  refine at_aload dx_51_0 rfl ?_
  refine at_iload dx_51_1 rfl ?_
  refine at_callVRT dx_51_2 rfl lc_0 rfl (x_clientOf rx) ?_ ?_
  rotate_left
  · rintro e M9 ⟨he, e9, hno⟩; replace e9 := e9.symm; subst e9; exact Or.inr ⟨e, rfl, rfl, (by simp only [List.mem_cons, List.not_mem_nil, or_false]; omega), Or.inr ⟨hno, hC, fr_rf⟩⟩
  rintro c M9 ⟨e9, h0, h3, hcx, hc⟩; replace e9 := e9.symm; subst e9
  have h8 := cl_al hc
  have hIc := hC.1 _ (cl_c4 hc)
  have el : ((tk M (c + 4)).length : Int) = M (c + 4) 1 := by rw [tk_len]; omega
  refine at_astore dx_51_3 ?_
  refine at_aload dx_51_4 rfl ?_
  refine at_getR dx_51_5 hc rfl (cl_t5 hc) ?_
  refine at_iload dx_51_6 rfl ?_
  refine at_callSVT dx_51_7 rfl rfl (x_checkPosition (cl_c4 hc) rp) ?_ ?_
  rotate_left
  · rintro e M9 ⟨he, e9, hno⟩; replace e9 := e9.symm; subst e9; exact Or.inr ⟨e, rfl, rfl, (by simp only [List.mem_cons, List.not_mem_nil, or_false]; omega), OC_nil h0 h3 hcx hC fr_rf (by show cIf _ _ = []; exact cIf_f (fun hh => by omega))⟩
  rintro M9 ⟨e9, p0, p1⟩; replace e9 := e9.symm; subst e9
  refine at_aload dx_51_8 rfl ?_
  refine at_getR dx_51_9 hc rfl (cl_t5 hc) ?_
  refine at_iload dx_51_10 rfl ?_
  refine at_callVI dx_51_11 rfl (cl_c4 hc) rfl (c_at (cl_c4 hc) rp (T _ (cl_c4 hc))) ?_
  rintro x11 M9 r11 ⟨e9, h11⟩; replace e9 := e9.symm; subst e9
  refine at_istore dx_51_12 ?_
  refine at_aload dx_51_13 rfl ?_
  refine at_getR dx_51_14 hc rfl (cl_t5 hc) ?_
  refine at_iload dx_51_15 rfl ?_
  refine at_const (x := 1) dx_51_16 rfl ?_
  refine at_subR dx_51_17 (by (constructor <;> omega)) (fun r17 => ?_)
  refine at_callVI dx_51_18 rfl (cl_c4 hc) rfl (c_at (cl_c4 hc) r17 (T _ (cl_c4 hc))) ?_
  rintro x18 M9 r18 ⟨e9, h18⟩; replace e9 := e9.symm; subst e9
  refine at_zneR dx_51_19 r18 (fun c19 => ?_) (fun c19 => ?_)
  · skip
    refine at_thrT dx_51_23 rfl ?_
    exact ⟨by decide, OC_nil h0 h3 hcx hC fr_rf (by show cIf _ _ = []; exact cIf_f (fun hh => by rw [← h11, ← h18] at hh; first | omega | (rw [if_pos hh.2.2] at h21; omega)))⟩
  · skip
    refine at_iload dx_51_20 rfl ?_
    refine at_callSI dx_51_21 rfl rfl (c_isOpening r11) ?_
    rintro x21 M9 r21 ⟨e9, h21⟩; replace e9 := e9.symm; subst e9
    refine at_zneR dx_51_22 r21 (fun c22 => ?_) (fun c22 => ?_)
    · skip
      have hat := atL_0 (l := tk M (c + 4)) (i := p - 1) (by rw [← h18]; omega)
      refine at_aload dx_51_24 rfl ?_
      refine at_getR dx_51_25 lc_0 rfl lt_0_8 ?_
      refine at_callVV dx_51_26 rfl lc_12 rfl (x_becomeChange lc_12 T) ?_
      rintro M26 ⟨f26, i26, d26⟩
      replace F : fr wq M _ := fr_tr F (fr_le f26 (fun q h => by (try dsimp only [blk, sq, cq, lo, wq, pq] at h ⊢); first | done | omega))
      replace G := RI_fr f26 (by (try dsimp only [blk, sq, cq, lo, wq, pq]); first | done | omega) G
      replace T := i26
      refine at_aload dx_51_27 rfl ?_
      refine at_getR dx_51_28 lc_0 rfl lt_0_8 ?_
      refine at_iload dx_51_29 rfl ?_
      refine at_const (x := 1) dx_51_30 rfl ?_
      refine at_subR dx_51_31 (by (constructor <;> omega)) (fun r31 => ?_)
      refine at_const (x := 2) dx_51_32 rfl ?_
      refine at_callVV dx_51_33 rfl lc_12 rfl (x_addRange0 lc_12 r31 (by decide) T d26) ?_
      rintro M33 ⟨f33, i33, d33⟩
      replace F : fr wq M _ := fr_tr F (fr_le f33 (fun q h => by (try dsimp only [blk, sq, cq, lo, wq, pq] at h ⊢); first | done | omega))
      replace G := RI_fr f33 (by (try dsimp only [blk, sq, cq, lo, wq, pq]); first | done | omega) G
      replace T := i33
      have e4 : tk M33 (c + 4) = tk M (c + 4) := (wq_c hc F).2.2.2.1
      have hDV : cVD (sv M33 12) (0, ([p - 1, 2], [])) := DS1_D d33 rfl
      have hSM : smD (0, ([p - 1, 2], [])) := ⟨by omega, by decide, Nat.le_of_ble_eq_true rfl⟩
      have hCS : (csJoin p) (tk M (c + 4)) (tk M (c + 6)) = [(0, ([p - 1, 2], []))] := by show cIf _ _ = _; exact cIf_t (by rw [← h11, ← h18]; split at h21 <;> omega)
      have hHK : ((0, ([p - 1, 2], [])) : gD).1 = 2 → okD (0, ([p - 1, 2], [])) (tk M (c + 4)) := fun e => absurd e (by show ¬ ((0 : Nat) = 2); decide)
      refine at_aload dx_51_34 rfl ?_
      refine at_aload dx_51_35 rfl ?_
      refine at_callVVT dx_51_36 rfl lc_0 rfl (x_addPending hc (CI_sq hC (fr_le F (fun q h => by (try dsimp only [blk, sq, cq, lo, wq, pq] at h ⊢); first | done | omega)) T G)) ?_ ?_
      rotate_left
      · rintro e M9 ⟨he, k⟩; exact Or.inr ⟨e, rfl, rfl, (by simp only [List.mem_cons, List.not_mem_nil, or_false]; omega), OC_of h0 h3 hcx (Or.inr (No_of hc hC.1 F hDV hSM hHK hCS k))⟩
      rintro M8 k8
      refine at_iload dx_51_37 rfl ?_
      refine at_iretIT dx_51_38 r11 ?_
      exact OC_of h0 h3 hcx (Or.inl (Out_of hc hC.1 F hDV hSM hHK hCS k8))
    · skip
      refine at_thrT dx_51_23 rfl ?_
      exact ⟨by decide, OC_nil h0 h3 hcx hC fr_rf (by show cIf _ _ = []; exact cIf_f (fun hh => by rw [← h11, ← h18] at hh; first | omega | (rw [if_pos hh.2.2] at h21; omega)))⟩

set_option maxRecDepth 100000 in
set_option maxHeartbeats 4000000 in
theorem x_wrap {X : scr} {M : mem} {x f t y : Int} (rx : inR x) (rf : inR f) (rt : inR t) (ry : inR y) (hC : CI M) : At X 0 52 0 [vr 0, vi x, vi f, vi t, vi y] [] M (qT (qI (fun _ M' => OC x (csWrap f t y) M M')) (fun e M' => e ∈ [0, 1, 2] ∧ OC x (csWrap f t y) M M')) := by
  have F : fr wq M M := fr_rf
  have T : TI M := hC.1
  have G : RI M := hC.2.1
  refine at_aload dx_52_0 rfl ?_
  refine at_iload dx_52_1 rfl ?_
  refine at_callVRT dx_52_2 rfl lc_0 rfl (x_clientOf rx) ?_ ?_
  rotate_left
  · rintro e M9 ⟨he, e9, hno⟩; replace e9 := e9.symm; subst e9; exact Or.inr ⟨e, rfl, rfl, (by simp only [List.mem_cons, List.not_mem_nil, or_false]; omega), Or.inr ⟨hno, hC, fr_rf⟩⟩
  rintro c M9 ⟨e9, h0, h3, hcx, hc⟩; replace e9 := e9.symm; subst e9
  have h8 := cl_al hc
  have hIc := hC.1 _ (cl_c4 hc)
  have el : ((tk M (c + 4)).length : Int) = M (c + 4) 1 := by rw [tk_len]; omega
  refine at_astore dx_52_3 ?_
  refine at_iload dx_52_4 rfl ?_
  refine at_callSVT dx_52_5 rfl rfl (x_checkNodeType ry) ?_ ?_
  rotate_left
  · rintro e M9 ⟨he, e9, hno⟩; replace e9 := e9.symm; subst e9; exact Or.inr ⟨e, rfl, rfl, (by simp only [List.mem_cons, List.not_mem_nil, or_false]; omega), OC_nil h0 h3 hcx hC fr_rf (by show cIf _ _ = []; exact cIf_f (fun hh => by omega))⟩
  rintro M9 ⟨e9, n0, n1⟩; replace e9 := e9.symm; subst e9
  refine at_aload dx_52_6 rfl ?_
  refine at_getR dx_52_7 hc rfl (cl_t5 hc) ?_
  refine at_iload dx_52_8 rfl ?_
  refine at_iload dx_52_9 rfl ?_
  refine at_callSVT dx_52_10 rfl rfl (x_checkStretch (cl_c4 hc) rf rt) ?_ ?_
  rotate_left
  · rintro e M9 ⟨he, e9, hno⟩; replace e9 := e9.symm; subst e9; exact Or.inr ⟨e, rfl, rfl, (by simp only [List.mem_cons, List.not_mem_nil, or_false]; omega), OC_nil h0 h3 hcx hC fr_rf (by show cIf _ _ = []; exact cIf_f (fun hh => by omega))⟩
  rintro M9 ⟨e9, p0, p1, p2⟩; replace e9 := e9.symm; subst e9
  refine at_aload dx_52_11 rfl ?_
  refine at_getR dx_52_12 lc_0 rfl lt_0_8 ?_
  refine at_callVV dx_52_13 rfl lc_12 rfl (x_becomeChange lc_12 T) ?_
  rintro M13 ⟨f13, i13, d13⟩
  replace F : fr wq M _ := fr_tr F (fr_le f13 (fun q h => by (try dsimp only [blk, sq, cq, lo, wq, pq] at h ⊢); first | done | omega))
  replace G := RI_fr f13 (by (try dsimp only [blk, sq, cq, lo, wq, pq]); first | done | omega) G
  replace T := i13
  refine at_aload dx_52_14 rfl ?_
  refine at_getR dx_52_15 lc_0 rfl lt_0_8 ?_
  refine at_iload dx_52_16 rfl ?_
  refine at_const (x := 0) dx_52_17 rfl ?_
  refine at_callVV dx_52_18 rfl lc_12 rfl (x_addRange0 lc_12 rf (by decide) T d13) ?_
  rintro M18 ⟨f18, i18, d18⟩
  replace F : fr wq M _ := fr_tr F (fr_le f18 (fun q h => by (try dsimp only [blk, sq, cq, lo, wq, pq] at h ⊢); first | done | omega))
  replace G := RI_fr f18 (by (try dsimp only [blk, sq, cq, lo, wq, pq]); first | done | omega) G
  replace T := i18
  refine at_aload dx_52_19 rfl ?_
  refine at_getR dx_52_20 lc_0 rfl lt_0_8 ?_
  refine at_iload dx_52_21 rfl ?_
  refine at_callVV dx_52_22 rfl lc_12 rfl (x_addPut1 lc_12 ry T (by decide) (by simp) d18) ?_
  rintro M22 ⟨f22, i22, d22⟩
  replace F : fr wq M _ := fr_tr F (fr_le f22 (fun q h => by (try dsimp only [blk, sq, cq, lo, wq, pq] at h ⊢); first | done | omega))
  replace G := RI_fr f22 (by (try dsimp only [blk, sq, cq, lo, wq, pq]); first | done | omega) G
  replace T := i22
  refine at_aload dx_52_23 rfl ?_
  refine at_getR dx_52_24 lc_0 rfl lt_0_8 ?_
  refine at_iload dx_52_25 rfl ?_
  refine at_const (x := 0) dx_52_26 rfl ?_
  refine at_callVV dx_52_27 rfl lc_12 rfl (x_addRange1 lc_12 rt (by decide) T d22) ?_
  rintro M27 ⟨f27, i27, d27⟩
  replace F : fr wq M _ := fr_tr F (fr_le f27 (fun q h => by (try dsimp only [blk, sq, cq, lo, wq, pq] at h ⊢); first | done | omega))
  replace G := RI_fr f27 (by (try dsimp only [blk, sq, cq, lo, wq, pq]); first | done | omega) G
  replace T := i27
  refine at_aload dx_52_28 rfl ?_
  refine at_getR dx_52_29 lc_0 rfl lt_0_8 ?_
  refine at_const (x := 0) dx_52_30 rfl ?_
  refine at_callVV dx_52_31 rfl lc_12 rfl (x_addPut2 lc_12 (by decide) T (by decide) (by simp) d27) ?_
  rintro M31 ⟨f31, i31, d31⟩
  replace F : fr wq M _ := fr_tr F (fr_le f31 (fun q h => by (try dsimp only [blk, sq, cq, lo, wq, pq] at h ⊢); first | done | omega))
  replace G := RI_fr f31 (by (try dsimp only [blk, sq, cq, lo, wq, pq]); first | done | omega) G
  replace T := i31
  have e4 : tk M31 (c + 4) = tk M (c + 4) := (wq_c hc F).2.2.2.1
  have hDV : cVD (sv M31 12) (1, ([f, 0, 1, t, 0, 1], [y, 0])) := DS2_D d31
  have hSM : smD (1, ([f, 0, 1, t, 0, 1], [y, 0])) := ⟨by omega, by decide, by omega, by decide, ⟨by decide, by decide, by rfl⟩, Nat.le_of_ble_eq_true rfl⟩
  have hCS : (csWrap f t y) (tk M (c + 4)) (tk M (c + 6)) = [(1, ([f, 0, 1, t, 0, 1], [y, 0]))] := by show cIf _ _ = _; exact cIf_t (by omega)
  have hHK : ((1, ([f, 0, 1, t, 0, 1], [y, 0])) : gD).1 = 2 → okD (1, ([f, 0, 1, t, 0, 1], [y, 0])) (tk M (c + 4)) := fun e => absurd e (by show ¬ ((1 : Nat) = 2); decide)
  refine at_aload dx_52_32 rfl ?_
  refine at_aload dx_52_33 rfl ?_
  refine at_callVVT dx_52_34 rfl lc_0 rfl (x_addPending hc (CI_sq hC (fr_le F (fun q h => by (try dsimp only [blk, sq, cq, lo, wq, pq] at h ⊢); first | done | omega)) T G)) ?_ ?_
  rotate_left
  · rintro e M9 ⟨he, k⟩; exact Or.inr ⟨e, rfl, rfl, (by simp only [List.mem_cons, List.not_mem_nil, or_false]; omega), OC_of h0 h3 hcx (Or.inr (No_of hc hC.1 F hDV hSM hHK hCS k))⟩
  rintro M8 k8
  refine at_aload dx_52_35 rfl ?_
  refine at_getR dx_52_36 hc rfl (cl_t5 hc) ?_
  refine at_getI 1 dx_52_37 (cl_c4 hc) rfl rfl (fun r37 => ?_)
  refine at_iretIT dx_52_38 r37 ?_
  exact OC_of h0 h3 hcx (Or.inl (Out_of hc hC.1 F hDV hSM hHK hCS k8))

set_option maxRecDepth 100000 in
set_option maxHeartbeats 4000000 in
theorem x_unwrap {X : scr} {M : mem} {x p : Int} (rx : inR x) (rp : inR p) (hC : CI M) : At X 0 53 0 [vr 0, vi x, vi p] [] M (qT (qI (fun _ M' => OC x (csUnwrap p) M M')) (fun e M' => e ∈ [0, 2] ∧ OC x (csUnwrap p) M M')) := by
  have F : fr wq M M := fr_rf
  have T : TI M := hC.1
  have G : RI M := hC.2.1
  refine at_aload dx_53_0 rfl ?_
  refine at_iload dx_53_1 rfl ?_
  refine at_callVRT dx_53_2 rfl lc_0 rfl (x_clientOf rx) ?_ ?_
  rotate_left
  · rintro e M9 ⟨he, e9, hno⟩; replace e9 := e9.symm; subst e9; exact Or.inr ⟨e, rfl, rfl, (by simp only [List.mem_cons, List.not_mem_nil, or_false]; omega), Or.inr ⟨hno, hC, fr_rf⟩⟩
  rintro c M9 ⟨e9, h0, h3, hcx, hc⟩; replace e9 := e9.symm; subst e9
  have h8 := cl_al hc
  have hIc := hC.1 _ (cl_c4 hc)
  have el : ((tk M (c + 4)).length : Int) = M (c + 4) 1 := by rw [tk_len]; omega
  refine at_astore dx_53_3 ?_
  refine at_aload dx_53_4 rfl ?_
  refine at_getR dx_53_5 hc rfl (cl_t5 hc) ?_
  refine at_iload dx_53_6 rfl ?_
  refine at_callSVT dx_53_7 rfl rfl (x_checkPosition (cl_c4 hc) rp) ?_ ?_
  rotate_left
  · rintro e M9 ⟨he, e9, hno⟩; replace e9 := e9.symm; subst e9; exact Or.inr ⟨e, rfl, rfl, (by simp only [List.mem_cons, List.not_mem_nil, or_false]; omega), OC_nil h0 h3 hcx hC fr_rf (by show cIf _ _ = []; exact cIf_f (fun hh => by omega))⟩
  rintro M9 ⟨e9, p0, p1⟩; replace e9 := e9.symm; subst e9
  refine at_aload dx_53_8 rfl ?_
  refine at_getR dx_53_9 hc rfl (cl_t5 hc) ?_
  refine at_iload dx_53_10 rfl ?_
  refine at_callVI dx_53_11 rfl (cl_c4 hc) rfl (c_at (cl_c4 hc) rp (T _ (cl_c4 hc))) ?_
  rintro x11 M9 r11 ⟨e9, h11⟩; replace e9 := e9.symm; subst e9
  refine at_istore dx_53_12 ?_
  refine at_aload dx_53_13 rfl ?_
  refine at_getR dx_53_14 hc rfl (cl_t5 hc) ?_
  refine at_iload dx_53_15 rfl ?_
  refine at_callVI dx_53_16 rfl (cl_c4 hc) rfl (x_findClosing (cl_c4 hc) rp (T _ (cl_c4 hc)) p0) ?_
  rintro x16 M9 r16 ⟨e9, h16⟩; replace e9 := e9.symm; subst e9
  refine at_istore dx_53_17 ?_
  refine at_iload dx_53_18 rfl ?_
  refine at_const (x := -1) dx_53_19 rfl ?_
  refine at_cneR dx_53_20 r16 (by decide) (fun c20 => ?_) (fun c20 => ?_)
  · skip
    have ho : isO (atL (tk M (c + 4)) p) := Classical.byContradiction (fun hh => by rw [if_neg hh] at h16; omega)
    have hx17 : x16 = fcl ((tk M (c + 4)).drop p.toNat) 0 p := by rw [h16, if_pos ho]
    refine at_aload dx_53_22 rfl ?_
    refine at_getR dx_53_23 lc_0 rfl lt_0_8 ?_
    refine at_callVV dx_53_24 rfl lc_12 rfl (x_becomeChange lc_12 T) ?_
    rintro M24 ⟨f24, i24, d24⟩
    replace F : fr wq M _ := fr_tr F (fr_le f24 (fun q h => by (try dsimp only [blk, sq, cq, lo, wq, pq] at h ⊢); first | done | omega))
    replace G := RI_fr f24 (by (try dsimp only [blk, sq, cq, lo, wq, pq]); first | done | omega) G
    replace T := i24
    refine at_aload dx_53_25 rfl ?_
    refine at_getR dx_53_26 lc_0 rfl lt_0_8 ?_
    refine at_iload dx_53_27 rfl ?_
    refine at_const (x := 1) dx_53_28 rfl ?_
    refine at_callVV dx_53_29 rfl lc_12 rfl (x_addRange0 lc_12 rp (by decide) T d24) ?_
    rintro M29 ⟨f29, i29, d29⟩
    replace F : fr wq M _ := fr_tr F (fr_le f29 (fun q h => by (try dsimp only [blk, sq, cq, lo, wq, pq] at h ⊢); first | done | omega))
    replace G := RI_fr f29 (by (try dsimp only [blk, sq, cq, lo, wq, pq]); first | done | omega) G
    replace T := i29
    refine at_aload dx_53_30 rfl ?_
    refine at_getR dx_53_31 lc_0 rfl lt_0_8 ?_
    refine at_iload dx_53_32 rfl ?_
    refine at_const (x := 1) dx_53_33 rfl ?_
    refine at_callVV dx_53_34 rfl lc_12 rfl (x_addRange1 lc_12 r16 (by decide) T d29) ?_
    rintro M34 ⟨f34, i34, d34⟩
    replace F : fr wq M _ := fr_tr F (fr_le f34 (fun q h => by (try dsimp only [blk, sq, cq, lo, wq, pq] at h ⊢); first | done | omega))
    replace G := RI_fr f34 (by (try dsimp only [blk, sq, cq, lo, wq, pq]); first | done | omega) G
    replace T := i34
    have e4 : tk M34 (c + 4) = tk M (c + 4) := (wq_c hc F).2.2.2.1
    have hDV : cVD (sv M34 12) (1, ([p, 1, 0, fcl ((tk M (c + 4)).drop p.toNat) 0 p, 1, 0], [])) := by rw [← hx17]; exact DS2_D d34
    have hSM : smD (1, ([p, 1, 0, fcl ((tk M (c + 4)).drop p.toNat) 0 p, 1, 0], [])) := by have := fcl_b ((tk M (c + 4)).drop p.toNat) 0 p p0; rw [List.length_drop] at this; exact ⟨by omega, by decide, by omega, by decide, ⟨by decide, by decide, by rfl⟩, Nat.le_of_ble_eq_true rfl⟩
    have hCS : (csUnwrap p) (tk M (c + 4)) (tk M (c + 6)) = [(1, ([p, 1, 0, fcl ((tk M (c + 4)).drop p.toNat) 0 p, 1, 0], []))] := by show cIf _ _ = _; exact cIf_t (⟨by omega, ho, by omega⟩)
    have hHK : ((1, ([p, 1, 0, fcl ((tk M (c + 4)).drop p.toNat) 0 p, 1, 0], [])) : gD).1 = 2 → okD (1, ([p, 1, 0, fcl ((tk M (c + 4)).drop p.toNat) 0 p, 1, 0], [])) (tk M (c + 4)) := fun e => absurd e (by show ¬ ((1 : Nat) = 2); decide)
    refine at_aload dx_53_35 rfl ?_
    refine at_aload dx_53_36 rfl ?_
    refine at_callVVT dx_53_37 rfl lc_0 rfl (x_addPending hc (CI_sq hC (fr_le F (fun q h => by (try dsimp only [blk, sq, cq, lo, wq, pq] at h ⊢); first | done | omega)) T G)) ?_ ?_
    rotate_left
    · rintro e M9 ⟨he, k⟩; exact Or.inr ⟨e, rfl, rfl, (by simp only [List.mem_cons, List.not_mem_nil, or_false]; omega), OC_of h0 h3 hcx (Or.inr (No_of hc hC.1 F hDV hSM hHK hCS k))⟩
    rintro M8 k8
    refine at_iload dx_53_38 rfl ?_
    refine at_iretIT dx_53_39 r11 ?_
    exact OC_of h0 h3 hcx (Or.inl (Out_of hc hC.1 F hDV hSM hHK hCS k8))
  · skip
    refine at_thrT dx_53_21 rfl ?_
    exact ⟨by decide, OC_nil h0 h3 hcx hC fr_rf (by show cIf _ _ = []; exact cIf_f (fun hh => by rw [if_pos hh.2.1] at h16; exact hh.2.2 (by omega)))⟩

set_option maxRecDepth 100000 in
set_option maxHeartbeats 4000000 in
theorem x_setType {X : scr} {M : mem} {x p y : Int} (rx : inR x) (rp : inR p) (ry : inR y) (hC : CI M) : At X 0 54 0 [vr 0, vi x, vi p, vi y] [] M (qT (qI (fun _ M' => OC x (csSetType p y) M M')) (fun e M' => e ∈ [0, 2] ∧ OC x (csSetType p y) M M')) := by
  have F : fr wq M M := fr_rf
  have T : TI M := hC.1
  have G : RI M := hC.2.1
  refine at_aload dx_54_0 rfl ?_
  refine at_iload dx_54_1 rfl ?_
  refine at_callVRT dx_54_2 rfl lc_0 rfl (x_clientOf rx) ?_ ?_
  rotate_left
  · rintro e M9 ⟨he, e9, hno⟩; replace e9 := e9.symm; subst e9; exact Or.inr ⟨e, rfl, rfl, (by simp only [List.mem_cons, List.not_mem_nil, or_false]; omega), Or.inr ⟨hno, hC, fr_rf⟩⟩
  rintro c M9 ⟨e9, h0, h3, hcx, hc⟩; replace e9 := e9.symm; subst e9
  have h8 := cl_al hc
  have hIc := hC.1 _ (cl_c4 hc)
  have el : ((tk M (c + 4)).length : Int) = M (c + 4) 1 := by rw [tk_len]; omega
  refine at_astore dx_54_3 ?_
  refine at_aload dx_54_4 rfl ?_
  refine at_getR dx_54_5 hc rfl (cl_t5 hc) ?_
  refine at_iload dx_54_6 rfl ?_
  refine at_callSVT dx_54_7 rfl rfl (x_checkPosition (cl_c4 hc) rp) ?_ ?_
  rotate_left
  · rintro e M9 ⟨he, e9, hno⟩; replace e9 := e9.symm; subst e9; exact Or.inr ⟨e, rfl, rfl, (by simp only [List.mem_cons, List.not_mem_nil, or_false]; omega), OC_nil h0 h3 hcx hC fr_rf (by show cIf _ _ = []; exact cIf_f (fun hh => by omega))⟩
  rintro M9 ⟨e9, p0, p1⟩; replace e9 := e9.symm; subst e9
  refine at_iload dx_54_8 rfl ?_
  refine at_callSVT dx_54_9 rfl rfl (x_checkNodeType ry) ?_ ?_
  rotate_left
  · rintro e M9 ⟨he, e9, hno⟩; replace e9 := e9.symm; subst e9; exact Or.inr ⟨e, rfl, rfl, (by simp only [List.mem_cons, List.not_mem_nil, or_false]; omega), OC_nil h0 h3 hcx hC fr_rf (by show cIf _ _ = []; exact cIf_f (fun hh => by omega))⟩
  rintro M9 ⟨e9, n0, n1⟩; replace e9 := e9.symm; subst e9
  refine at_aload dx_54_10 rfl ?_
  refine at_getR dx_54_11 hc rfl (cl_t5 hc) ?_
  refine at_iload dx_54_12 rfl ?_
  refine at_callVI dx_54_13 rfl (cl_c4 hc) rfl (c_at (cl_c4 hc) rp (T _ (cl_c4 hc))) ?_
  rintro x13 M9 r13 ⟨e9, h13⟩; replace e9 := e9.symm; subst e9
  refine at_istore dx_54_14 ?_
  refine at_iload dx_54_15 rfl ?_
  refine at_callSI dx_54_16 rfl rfl (c_isOpening r13) ?_
  rintro x16 M9 r16 ⟨e9, h16⟩; replace e9 := e9.symm; subst e9
  refine at_zeqR dx_54_17 r16 (fun c17 => ?_) (fun c17 => ?_)
  · skip
    refine at_thrT dx_54_21 rfl ?_
    exact ⟨by decide, OC_nil h0 h3 hcx hC fr_rf (by show cIf _ _ = []; exact cIf_f (fun hh => by rw [← h13] at hh; first | omega | (rw [if_pos hh.2.2.1] at h16; omega)))⟩
  · skip
    refine at_iload dx_54_18 rfl ?_
    refine at_iload dx_54_19 rfl ?_
    refine at_cneR dx_54_20 r13 ry (fun c20 => ?_) (fun c20 => ?_)
    · skip
      refine at_aload dx_54_22 rfl ?_
      refine at_getR dx_54_23 lc_0 rfl lt_0_8 ?_
      refine at_callVV dx_54_24 rfl lc_12 rfl (x_becomeChange lc_12 T) ?_
      rintro M24 ⟨f24, i24, d24⟩
      replace F : fr wq M _ := fr_tr F (fr_le f24 (fun q h => by (try dsimp only [blk, sq, cq, lo, wq, pq] at h ⊢); first | done | omega))
      replace G := RI_fr f24 (by (try dsimp only [blk, sq, cq, lo, wq, pq]); first | done | omega) G
      replace T := i24
      refine at_aload dx_54_25 rfl ?_
      refine at_getR dx_54_26 lc_0 rfl lt_0_8 ?_
      refine at_iload dx_54_27 rfl ?_
      refine at_const (x := 1) dx_54_28 rfl ?_
      refine at_callVV dx_54_29 rfl lc_12 rfl (x_addRange0 lc_12 rp (by decide) T d24) ?_
      rintro M29 ⟨f29, i29, d29⟩
      replace F : fr wq M _ := fr_tr F (fr_le f29 (fun q h => by (try dsimp only [blk, sq, cq, lo, wq, pq] at h ⊢); first | done | omega))
      replace G := RI_fr f29 (by (try dsimp only [blk, sq, cq, lo, wq, pq]); first | done | omega) G
      replace T := i29
      refine at_aload dx_54_30 rfl ?_
      refine at_getR dx_54_31 lc_0 rfl lt_0_8 ?_
      refine at_iload dx_54_32 rfl ?_
      refine at_callVV dx_54_33 rfl lc_12 rfl (x_addPut1 lc_12 ry T (by decide) (by simp) d29) ?_
      rintro M33 ⟨f33, i33, d33⟩
      replace F : fr wq M _ := fr_tr F (fr_le f33 (fun q h => by (try dsimp only [blk, sq, cq, lo, wq, pq] at h ⊢); first | done | omega))
      replace G := RI_fr f33 (by (try dsimp only [blk, sq, cq, lo, wq, pq]); first | done | omega) G
      replace T := i33
      have e4 : tk M33 (c + 4) = tk M (c + 4) := (wq_c hc F).2.2.2.1
      have hDV : cVD (sv M33 12) (0, ([p, 1], [y])) := DS1_D d33 rfl
      have hSM : smD (0, ([p, 1], [y])) := ⟨by omega, by decide, Nat.le_of_ble_eq_true rfl⟩
      have hCS : (csSetType p y) (tk M (c + 4)) (tk M (c + 6)) = [(0, ([p, 1], [y]))] := by show cIf _ _ = _; exact cIf_t (by rw [← h13]; split at h16 <;> omega)
      have hHK : ((0, ([p, 1], [y])) : gD).1 = 2 → okD (0, ([p, 1], [y])) (tk M (c + 4)) := fun e => absurd e (by show ¬ ((0 : Nat) = 2); decide)
      refine at_aload dx_54_34 rfl ?_
      refine at_aload dx_54_35 rfl ?_
      refine at_callVVT dx_54_36 rfl lc_0 rfl (x_addPending hc (CI_sq hC (fr_le F (fun q h => by (try dsimp only [blk, sq, cq, lo, wq, pq] at h ⊢); first | done | omega)) T G)) ?_ ?_
      rotate_left
      · rintro e M9 ⟨he, k⟩; exact Or.inr ⟨e, rfl, rfl, (by simp only [List.mem_cons, List.not_mem_nil, or_false]; omega), OC_of h0 h3 hcx (Or.inr (No_of hc hC.1 F hDV hSM hHK hCS k))⟩
      rintro M8 k8
      refine at_iload dx_54_37 rfl ?_
      refine at_iretIT dx_54_38 r13 ?_
      exact OC_of h0 h3 hcx (Or.inl (Out_of hc hC.1 F hDV hSM hHK hCS k8))
    · skip
      refine at_thrT dx_54_21 rfl ?_
      exact ⟨by decide, OC_nil h0 h3 hcx hC fr_rf (by show cIf _ _ = []; exact cIf_f (fun hh => by rw [← h13] at hh; first | omega | (rw [if_pos hh.2.2.1] at h16; omega)))⟩
