/-! ===== the reference: the call that receives ===== -/
set_option maxRecDepth 100000 in
set_option maxHeartbeats 4000000 in
theorem r_receive {X : scr} {M : mem} {c : Int} (rc : inR c) (hM : MI M) : At X 0 150 0 [vr 856, vi c] [] M (qI (fun x M' => MI M' ∧ fr hi M M')) := by
  have F : frE sqE M M := fe_rf
  have hmc := fun h1 h2 => (hM.2.2.2.2 c h1 h2).1
  have h13 := hM.2.1
  refine at_aload dx_150_0 rfl ?_
  refine at_iload dx_150_1 rfl ?_
  refine at_callSI dx_150_2 rfl rfl (m_isClient rc) ?_
  rintro x2 M9 r2 ⟨e9, h2⟩; replace e9 := e9.symm; subst e9; replace h2 := ite01 h2
  refine at_zeqR dx_150_3 r2 (fun c3 => ?_) (fun c3 => ?_)
  · skip
    refine at_const (x := 1) dx_150_6 rfl ?_
    refine at_callVI dx_150_7 rfl lc_856 rfl (m_fails2 (by decide)) ?_
    rintro x7 M7 r7 ⟨f7, h7⟩; replace h7 := ite01 h7
    replace F : frE sqE M _ := fe_tr F (fe_le f7 (fun q j h => Or.inl ⟨h.1, by rw [h.2]; decide, by rw [h.2]; decide⟩))
    obtain rfl : x7 = 1 := by omega
    have y13 := F 856 13 (by (try dsimp only [sqE]); first | done | omega)
    have y0 := F 870 c (by (try dsimp only [sqE]); first | done | omega)
    refine at_zeqR dx_150_8 (by decide) (fun c => absurd c (by decide)) (fun _ => ?_)
    refine at_const (x := 0) dx_150_9 rfl ?_
    refine at_iretI dx_150_10 (by decide) ?_
    first | exact ⟨k1, k2⟩ | exact ⟨MI_sq hM F, fe_fr F (fun q j h => sq_hi h)⟩
  · skip
    refine at_const (x := 0) dx_150_4 rfl ?_
    refine at_goto dx_150_5 ?_
    refine at_callVI dx_150_7 rfl lc_856 rfl (m_fails2 (by decide)) ?_
    rintro x7 M7 r7 ⟨f7, h7⟩; replace h7 := ite01 h7
    replace F : frE sqE M _ := fe_tr F (fe_le f7 (fun q j h => Or.inl ⟨h.1, by rw [h.2]; decide, by rw [h.2]; decide⟩))
    obtain rfl : x7 = 0 := by omega
    have y13 := F 856 13 (by (try dsimp only [sqE]); first | done | omega)
    have y0 := F 870 c (by (try dsimp only [sqE]); first | done | omega)
    refine at_zeqR dx_150_8 (by decide) (fun _ => ?_) (fun c => absurd c (by decide))
    refine at_aload dx_150_11 rfl ?_
    refine at_getI 13 dx_150_12 lc_856 rfl rfl (fun r12 => ?_)
    refine at_aload dx_150_13 rfl ?_
    refine at_getR dx_150_14 lc_856 rfl lt_856_14 ?_
    refine at_iload dx_150_15 rfl ?_
    refine at_aldI dx_150_16 lc_870 ln_870 (by omega) (by omega) (fun r16 => ?_)
    refine at_subR dx_150_17 (by (have := hmc (by omega) (by omega); constructor <;> omega)) (fun r17 => ?_)
    refine at_istore dx_150_18 ?_
    refine at_iload dx_150_19 rfl ?_
    refine at_zleR dx_150_20 r17 (fun c20 => ?_) (fun c20 => ?_)
    · skip
      refine at_iload dx_150_24 rfl ?_
      refine at_iretI dx_150_25 r17 ?_
      first | exact ⟨k1, k2⟩ | exact ⟨MI_sq hM F, fe_fr F (fun q j h => sq_hi h)⟩
    · skip
      refine at_aload dx_150_21 rfl ?_
      refine at_iload dx_150_22 rfl ?_
      refine at_callVV dx_150_23 rfl lc_856 rfl (m_rebases rc (MI_sq hM F) (by omega) (by omega)) ?_
      rintro M23 ⟨k1, k2⟩
      replace k2 := fr_tr (fe_fr F (fun q j h => sq_hi h)) (fe_fr k2 (R := hi) (fun q j h => by dsimp only [sqE, ceE, hi] at h ⊢; omega))
      refine at_iload dx_150_24 rfl ?_
      refine at_iretI dx_150_25 r17 ?_
      first | exact ⟨k1, k2⟩ | exact ⟨MI_sq hM F, fe_fr F (fun q j h => sq_hi h)⟩
