/-! ===== marking, copying, pasting ===== -/
set_option maxRecDepth 100000 in
set_option maxHeartbeats 4000000 in
theorem x_mark {X : scr} {M : mem} {x f t m z : Int} (rx : inR x) (rf : inR f) (rt : inR t) (rm : inR m) (rz : inR z) (hz : z = 0 ∨ z = 1) (hC : CI M) : At X 0 55 0 [vr 0, vi x, vi f, vi t, vi m, vi z] [] M (qT (qI (fun _ M' => OC x (csMark f t m z) M M')) (fun e M' => e ∈ [0, 1, 2] ∧ OC x (csMark f t m z) M M')) := by
  have F : fr wq M M := fr_rf
  have T : TI M := hC.1
  have G : RI M := hC.2.1
  refine at_aload dx_55_0 rfl ?_
  refine at_iload dx_55_1 rfl ?_
  refine at_callVRT dx_55_2 rfl lc_0 rfl (x_clientOf rx) ?_ ?_
  rotate_left
  · rintro e M9 ⟨he, e9, hno⟩; replace e9 := e9.symm; subst e9; exact Or.inr ⟨e, rfl, rfl, (by simp only [List.mem_cons, List.not_mem_nil, or_false]; omega), Or.inr ⟨hno, hC, fr_rf⟩⟩
  rintro c M9 ⟨e9, h0, h3, hcx, hc⟩; replace e9 := e9.symm; subst e9
  have h8 := cl_al hc
  have hIc := hC.1 _ (cl_c4 hc)
  have el : ((tk M (c + 4)).length : Int) = M (c + 4) 1 := by rw [tk_len]; omega
  refine at_astore dx_55_3 ?_
  refine at_iload dx_55_4 rfl ?_
  refine at_zltR dx_55_5 rm (fun c5 => ?_) (fun c5 => ?_)
  · skip
    refine at_thrT dx_55_9 rfl ?_
    exact ⟨by decide, OC_nil h0 h3 hcx hC fr_rf (by show cIf _ _ = []; exact cIf_f (fun hh => by omega))⟩
  · skip
    refine at_iload dx_55_6 rfl ?_
    refine at_const (x := 2) dx_55_7 rfl ?_
    refine at_cltR dx_55_8 rm (by decide) (fun c8 => ?_) (fun c8 => ?_)
    · skip
      refine at_aload dx_55_10 rfl ?_
      refine at_getR dx_55_11 hc rfl (cl_t5 hc) ?_
      refine at_iload dx_55_12 rfl ?_
      refine at_iload dx_55_13 rfl ?_
      refine at_callSVT dx_55_14 rfl rfl (x_checkStretch (cl_c4 hc) rf rt) ?_ ?_
      rotate_left
      · rintro e M9 ⟨he, e9, hno⟩; replace e9 := e9.symm; subst e9; exact Or.inr ⟨e, rfl, rfl, (by simp only [List.mem_cons, List.not_mem_nil, or_false]; omega), OC_nil h0 h3 hcx hC fr_rf (by show cIf _ _ = []; exact cIf_f (fun hh => by omega))⟩
      rintro M9 ⟨e9, p0, p1, p2⟩; replace e9 := e9.symm; subst e9
      refine at_aload dx_55_15 rfl ?_
      refine at_getR dx_55_16 lc_0 rfl lt_0_8 ?_
      refine at_iload dx_55_17 rfl ?_
      refine at_iload dx_55_18 rfl ?_
      refine at_iload dx_55_19 rfl ?_
      refine at_const (x := 1) dx_55_20 rfl ?_
      refine at_addR dx_55_21 (by constructor <;> omega) (fun r21 => ?_)
      refine at_iload dx_55_22 rfl ?_
      refine at_callVV dx_55_23 rfl lc_12 rfl (x_becomeMarking lc_12 rf rt r21 hz rz T) ?_
      rintro M23 ⟨f23, i23, d0, d1, d2, d3, d4, d5⟩
      replace F : fr wq M _ := fr_tr F (fr_le f23 (fun q h => by (try dsimp only [blk, sq, cq, lo, wq, pq] at h ⊢); first | done | omega))
      replace G := RI_fr f23 (by (try dsimp only [blk, sq, cq, lo, wq, pq]); first | done | omega) G
      replace T := i23
      refine at_aload dx_55_24 rfl ?_
      refine at_getR dx_55_25 lc_0 rfl lt_0_8 ?_
      refine at_aload dx_55_26 rfl ?_
      refine at_getR dx_55_27 hc rfl (cl_t5 hc) ?_
      refine at_callVI dx_55_28 rfl lc_12 rfl (x_changesMarks lc_12 (cl_c4 hc) (T _ (cl_c4 hc)) (by omega)) ?_
      rintro x28 M9 r28 ⟨e9, h28, w28⟩; replace e9 := e9.symm; subst e9
      have e23 : tk M23 (c + 4) = tk M (c + 4) := (wq_c hc F).2.2.2.1
      rw [d1, d2, d3, d4, e23] at w28
      refine at_zneR dx_55_29 r28 (fun c29 => ?_) (fun c29 => ?_)
      · skip
        have hex := w28.mp (by omega)
        have e4 : tk M23 (c + 4) = tk M (c + 4) := (wq_c hc F).2.2.2.1
        have hDV : cVD (sv M23 12) (2, ([f, t, m, z], [])) := ⟨_, _, _, _, _, _, _, by unfold sv; rw [d0, d1, d2, d3, d4, d5]⟩
        have hSM : smD (2, ([f, t, m, z], [])) := ⟨by omega, hz⟩
        have hCS : (csMark f t m z) (tk M (c + 4)) (tk M (c + 6)) = [(2, ([f, t, m, z], []))] := by show cIf _ _ = _; exact cIf_t ⟨by omega, by omega, hex⟩
        have hHK : ((2, ([f, t, m, z], [])) : gD).1 = 2 → okD (2, ([f, t, m, z], [])) (tk M (c + 4)) := fun _ => ⟨by omega, by omega, by omega⟩
        refine at_aload dx_55_31 rfl ?_
        refine at_aload dx_55_32 rfl ?_
        refine at_callVVT dx_55_33 rfl lc_0 rfl (x_addPending hc (CI_sq hC (fr_le F (fun q h => by (try dsimp only [blk, sq, cq, lo, wq, pq] at h ⊢); first | done | omega)) T G)) ?_ ?_
        rotate_left
        · rintro e M9 ⟨he, k⟩; exact Or.inr ⟨e, rfl, rfl, (by simp only [List.mem_cons, List.not_mem_nil, or_false]; omega), OC_of h0 h3 hcx (Or.inr (No_of hc hC.1 F hDV hSM hHK hCS k))⟩
        rintro M8 k8
        refine at_aload dx_55_34 rfl ?_
        refine at_getR dx_55_35 hc rfl (cl_t5 hc) ?_
        refine at_iload dx_55_36 rfl ?_
        refine at_iload dx_55_37 rfl ?_
        refine at_callVI dx_55_38 rfl (cl_c4 hc) rfl (c_countCharacters (cl_c4 hc) rf rt (k8.1.1 _ (cl_c4 hc))) ?_
        intro x38 M9 r38 e9; replace e9 := Eq.symm e9; subst e9
        refine at_iretIT dx_55_39 r38 ?_
        exact OC_of h0 h3 hcx (Or.inl (Out_of hc hC.1 F hDV hSM hHK hCS k8))
      · skip
        refine at_thrT dx_55_30 rfl ?_
        exact ⟨by decide, OC_nil h0 h3 hcx (CI_sq hC (fr_le F (fun q h => by (try dsimp only [blk, sq, cq, lo, wq, pq] at h ⊢); first | done | omega)) T G) F (by show cIf _ _ = []; exact cIf_f (fun hh => by have := w28.mpr hh.2.2; omega))⟩
    · skip
      refine at_thrT dx_55_9 rfl ?_
      exact ⟨by decide, OC_nil h0 h3 hcx hC fr_rf (by show cIf _ _ = []; exact cIf_f (fun hh => by omega))⟩
