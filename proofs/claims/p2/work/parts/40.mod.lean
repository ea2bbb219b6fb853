/-! ===== the reference: its calls, on ===== -/
theorem okW100 {M : mem} {n : Int} : okW (mv M 100) n ↔ ((M 861 100 ≠ 0 ∧ 0 ≤ M 865 200 ∧ M 865 200 ≤ M 865 201 ∧ M 865 201 ≤ n ∧ (M 863 100 = 0 ∨ M 863 100 = 1) ∧ M 866 200 = 0 ∧ M 866 201 = 0 ∧ M 867 200 = 0 ∧ M 867 201 = 0) ∨
    (M 861 100 = 0 ∧ (M 864 100 = 1 ∨ M 864 100 = 2) ∧ 0 ≤ M 865 200 ∧ 0 ≤ M 866 200 ∧ M 865 200 + M 866 200 ≤ n ∧ 0 ≤ M 867 200 ∧ 0 ≤ M 867 201 ∧ M 867 200 + M 867 201 ≤ 60 ∧ (M 864 100 = 1 → M 867 201 = 0 ∧ M 866 201 = 0 ∧ M 865 201 = 0) ∧ (M 864 100 = 2 → M 865 200 + M 866 200 ≤ M 865 201 ∧ 0 ≤ M 866 201 ∧ M 865 201 + M 866 201 ≤ n) ∧ n + M 867 200 + M 867 201 - M 866 200 - M 866 201 ≤ 60)) := Iff.rfl
theorem m_empties100 {X : scr} {M : mem} {h : Int} (rh : inR h) : At X 0 104 0 [vr 856, vi 100, vi h] [] M (qV (fun M' => frE (fun q j => ((q = 861 ∨ q = 864) ∧ j = 100) ∨ ((865 ≤ q ∧ q ≤ 867) ∧ (j = 200 ∨ j = 201))) M M' ∧ M' 861 100 = 0 ∧ M' 864 100 = h ∧ (M' 865 200 = 0 ∧ M' 865 201 = 0) ∧ (M' 866 200 = 0 ∧ M' 866 201 = 0) ∧ (M' 867 200 = 0 ∧ M' 867 201 = 0))) := m_empties (s := 100) (by decide) rh (by decide)
theorem dsm_mk {is mb s0 s1 : Int} {l : List Int} (hm : mb = 0 ∨ mb = 1) (hr : ∀ j : Nat, j < l.length → inR (l.getD j 0)) : ∀ i, i ≤ l.length → dsm (mkF is mb s0 s1 l) i = dsm l i
  | 0, _ => rfl
  | i + 1, h => by
    rw [dsm_step, dsm_step, dsm_mk hm hr i (by omega)]
    have e : (mkF is mb s0 s1 l).getD i 0 = if s0 ≤ (i : Int) ∧ (i : Int) < s1 then mkt is mb (l.getD i 0) else l.getD i 0 := by
      unfold mkF
      rw [List.getD_eq_getElem?_getD, List.getElem?_map, List.getElem?_range (by omega)]
      rfl
    rw [e]
    split
    · rw [mkt_dch (hr i (by omega)) hm]
    · rfl
theorem Bal_mk {is mb s0 s1 : Int} {l : List Int} (hB : Bal l) (hm : mb = 0 ∨ mb = 1) (hr : ∀ j : Nat, j < l.length → inR (l.getD j 0)) : Bal (mkF is mb s0 s1 l) := by
  refine ⟨fun i hi => ?_, ?_⟩
  · rw [mkF_len] at hi
    rw [dsm_mk hm hr i hi]
    exact hB.1 i hi
  · rw [mkF_len, dsm_mk hm hr _ (Nat.le_refl _)]
    exact hB.2

set_option maxRecDepth 100000 in
set_option maxHeartbeats 4000000 in
theorem r_split {X : scr} {M : mem} {c p : Int} (rc : inR c) (rp : inR p) (hM : MI M) : At X 0 128 0 [vr 856, vi c, vi p] [] M (qI (fun x M' => MI M' ∧ fr hi M M')) := by
  have F : frE sqE M M := fe_rf
  have hS := fun h1 h2 => hM.1 c h1 h2
  refine at_iload dx_128_0 rfl ?_
  refine at_callSI dx_128_1 rfl rfl (m_isClient rc) ?_
  rintro x1 M9 r1 ⟨e9, h1⟩; replace e9 := e9.symm; subst e9; replace h1 := ite01 h1
  refine at_zeqR dx_128_2 r1 (fun c2 => ?_) (fun c2 => ?_)
  · skip
    refine at_const (x := 0) dx_128_10 rfl ?_
    refine at_istore dx_128_11 ?_
    refine at_iload dx_128_12 rfl ?_
    refine at_zeqR dx_128_13 (by decide) (fun _ => ?_) (fun c => absurd c (by decide))
    refine at_const (x := 0) dx_128_19 rfl ?_
    refine at_istore dx_128_20 ?_
    refine at_aload dx_128_21 rfl ?_
    refine at_getR dx_128_22 lc_856 rfl lt_856_29 ?_
    refine at_iload dx_128_23 rfl ?_
    refine at_aldI dx_128_24 lc_881 ln_881 (by omega) (by omega) (fun r24 => ?_)
    refine at_istore dx_128_25 ?_
    refine at_iload dx_128_26 rfl ?_
    refine at_zeqR dx_128_27 (by decide) (fun _ => ?_) (fun c => absurd c (by decide))
    refine at_aload dx_128_42 rfl ?_
    refine at_iload dx_128_43 rfl ?_
    refine at_zneR dx_128_44 (by decide) (fun c => absurd c (by decide)) (fun _ => ?_)
    refine at_const (x := 1) dx_128_45 rfl ?_
    refine at_goto dx_128_46 ?_
    refine at_callVI dx_128_56 rfl lc_856 rfl (m_fails2 (by decide)) ?_
    rintro x56 M56 r56 ⟨f56, h56⟩; replace h56 := ite01 h56
    replace F : frE sqE M _ := fe_tr F (fe_le f56 (fun q j h => Or.inl ⟨h.1, by rw [h.2]; decide, by rw [h.2]; decide⟩))
    have z56 := f56 860 c (by (try dsimp only); omega)
    obtain rfl : x56 = 1 := by omega
    refine at_zeqR dx_128_57 (by decide) (fun c => absurd c (by decide)) (fun _ => ?_)
    refine at_const (x := 0) dx_128_58 rfl ?_
    refine at_iretI dx_128_59 (by decide) ?_
    first | exact ⟨k1, k2⟩ | exact ⟨MI_sq hM F, fe_fr F (fun q j h => sq_hi h)⟩
  · skip
    refine at_aload dx_128_3 rfl ?_
    refine at_iload dx_128_4 rfl ?_
    refine at_iload dx_128_5 rfl ?_
    refine at_callVI dx_128_6 rfl lc_856 rfl (m_isPlace rc rp) ?_
    rintro x6 M9 r6 ⟨e9, h6⟩; replace e9 := e9.symm; subst e9; replace h6 := ite01 h6
    refine at_zeqR dx_128_7 r6 (fun c7 => ?_) (fun c7 => ?_)
    · skip
      refine at_const (x := 0) dx_128_10 rfl ?_
      refine at_istore dx_128_11 ?_
      refine at_iload dx_128_12 rfl ?_
      refine at_zeqR dx_128_13 (by decide) (fun _ => ?_) (fun c => absurd c (by decide))
      refine at_const (x := 0) dx_128_19 rfl ?_
      refine at_istore dx_128_20 ?_
      refine at_aload dx_128_21 rfl ?_
      refine at_getR dx_128_22 lc_856 rfl lt_856_29 ?_
      refine at_iload dx_128_23 rfl ?_
      refine at_aldI dx_128_24 lc_881 ln_881 (by omega) (by omega) (fun r24 => ?_)
      refine at_istore dx_128_25 ?_
      refine at_iload dx_128_26 rfl ?_
      refine at_zeqR dx_128_27 (by decide) (fun _ => ?_) (fun c => absurd c (by decide))
      refine at_aload dx_128_42 rfl ?_
      refine at_iload dx_128_43 rfl ?_
      refine at_zneR dx_128_44 (by decide) (fun c => absurd c (by decide)) (fun _ => ?_)
      refine at_const (x := 1) dx_128_45 rfl ?_
      refine at_goto dx_128_46 ?_
      refine at_callVI dx_128_56 rfl lc_856 rfl (m_fails2 (by decide)) ?_
      rintro x56 M56 r56 ⟨f56, h56⟩; replace h56 := ite01 h56
      replace F : frE sqE M _ := fe_tr F (fe_le f56 (fun q j h => Or.inl ⟨h.1, by rw [h.2]; decide, by rw [h.2]; decide⟩))
      have z56 := f56 860 c (by (try dsimp only); omega)
      obtain rfl : x56 = 1 := by omega
      refine at_zeqR dx_128_57 (by decide) (fun c => absurd c (by decide)) (fun _ => ?_)
      refine at_const (x := 0) dx_128_58 rfl ?_
      refine at_iretI dx_128_59 (by decide) ?_
      first | exact ⟨k1, k2⟩ | exact ⟨MI_sq hM F, fe_fr F (fun q j h => sq_hi h)⟩
    · skip
      refine at_const (x := 1) dx_128_8 rfl ?_
      refine at_goto dx_128_9 ?_
      refine at_istore dx_128_11 ?_
      refine at_iload dx_128_12 rfl ?_
      refine at_zeqR dx_128_13 (by decide) (fun c => absurd c (by decide)) (fun _ => ?_)
      refine at_aload dx_128_14 rfl ?_
      refine at_iload dx_128_15 rfl ?_
      refine at_iload dx_128_16 rfl ?_
      refine at_callVI dx_128_17 rfl lc_856 rfl (m_depthAt rc rp (by omega) (hM.1 c (by omega) (by omega)) (by omega) (MI_bal hM (by omega))) ?_
      rintro x17 M17 r17 ⟨f17, d17, -, o17⟩
      replace F : frE sqE M _ := fe_tr F (fe_le f17 (fun q j h => sq_C (by (try dsimp only at h); omega)))
      have z17 := f17 860 c (by (try dsimp only); omega)
      refine at_goto dx_128_18 ?_
      refine at_istore dx_128_20 ?_
      refine at_aload dx_128_21 rfl ?_
      refine at_getR dx_128_22 lc_856 rfl lt_856_29 ?_
      refine at_iload dx_128_23 rfl ?_
      refine at_aldI dx_128_24 lc_881 ln_881 (by omega) (by omega) (fun r24 => ?_)
      refine at_istore dx_128_25 ?_
      refine at_iload dx_128_26 rfl ?_
      refine at_zeqR dx_128_27 (by decide) (fun c => absurd c (by decide)) (fun _ => ?_)
      refine at_aload dx_128_28 rfl ?_
      refine at_iload dx_128_29 rfl ?_
      refine at_const (x := 0) dx_128_30 rfl ?_
      refine at_callVV dx_128_31 rfl lc_856 rfl (m_tries rp (by decide)) ?_
      rintro M31 ⟨f31, t31a, t31b, t31c, t31d, t31e⟩
      replace F : frE sqE M _ := fe_tr F (fe_le f31 (fun q j h => sq_T (by (try dsimp only [stE] at h); omega)))
      have z31 := f31 860 c (by (try dsimp only); omega)
      refine at_aload dx_128_32 rfl ?_
      refine at_const (x := 100) dx_128_33 rfl ?_
      refine at_const (x := 0) dx_128_34 rfl ?_
      refine at_const (x := 0) dx_128_35 rfl ?_
      refine at_callVV dx_128_36 rfl lc_856 rfl (m_adds0 (by decide) (by omega)) ?_
      rintro M36 ⟨f36, q36, a36, b36⟩
      replace F : frE sqE M _ := fe_tr F (fe_le f36 (fun q j h => sq_T (by (try dsimp only [stE] at h); omega)))
      have z36 := f36 860 c (by (try dsimp only); omega)
      refine at_aload dx_128_37 rfl ?_
      refine at_const (x := 100) dx_128_38 rfl ?_
      refine at_const (x := 0) dx_128_39 rfl ?_
      refine at_iload dx_128_40 rfl ?_
      refine at_callVV dx_128_41 rfl lc_856 rfl (m_adds0 r24 (by omega)) ?_
      rintro M41 ⟨f41, q41, a41, b41⟩
      replace F : frE sqE M _ := fe_tr F (fe_le f41 (fun q j h => sq_T (by (try dsimp only [stE] at h); omega)))
      have z41 := f41 860 c (by (try dsimp only); omega)
      refine at_aload dx_128_42 rfl ?_
      refine at_iload dx_128_43 rfl ?_
      refine at_zneR dx_128_44 (by decide) (fun _ => ?_) (fun c => absurd c (by decide))
      refine at_iload dx_128_47 rfl ?_
      refine at_zleR dx_128_48 r17 (fun c48 => ?_) (fun c48 => ?_)
      · skip
        refine at_const (x := 2) dx_128_55 rfl ?_
        refine at_callVI dx_128_56 rfl lc_856 rfl (m_fails2 (by decide)) ?_
        rintro x56 M56 r56 ⟨f56, h56⟩; replace h56 := ite01 h56
        replace F : frE sqE M _ := fe_tr F (fe_le f56 (fun q j h => Or.inl ⟨h.1, by rw [h.2]; decide, by rw [h.2]; decide⟩))
        have z56 := f56 860 c (by (try dsimp only); omega)
        obtain rfl : x56 = 1 := by omega
        refine at_zeqR dx_128_57 (by decide) (fun c => absurd c (by decide)) (fun _ => ?_)
        refine at_const (x := 0) dx_128_58 rfl ?_
        refine at_iretI dx_128_59 (by decide) ?_
        first | exact ⟨k1, k2⟩ | exact ⟨MI_sq hM F, fe_fr F (fun q j h => sq_hi h)⟩
      · skip
        refine at_aload dx_128_49 rfl ?_
        refine at_iload dx_128_50 rfl ?_
        refine at_callVI dx_128_51 rfl lc_856 rfl (m_canEdit2 rc (by omega) (MI_sq hM F) (okX100.mpr (by omega))) ?_
        rintro x51 M51 r51 ⟨f51, b51, w51⟩
        replace F : frE sqE M _ := fe_tr F (fe_le f51 (fun q j h => sq_C h))
        have z51 := f51 860 c (by (try dsimp only); omega)
        have hrd := w51
        refine at_zeqR dx_128_52 r51 (fun c52 => ?_) (fun c52 => ?_)
        · skip
          refine at_const (x := 2) dx_128_55 rfl ?_
          refine at_callVI dx_128_56 rfl lc_856 rfl (m_fails2 (by decide)) ?_
          rintro x56 M56 r56 ⟨f56, h56⟩; replace h56 := ite01 h56
          replace F : frE sqE M _ := fe_tr F (fe_le f56 (fun q j h => Or.inl ⟨h.1, by rw [h.2]; decide, by rw [h.2]; decide⟩))
          have z56 := f56 860 c (by (try dsimp only); omega)
          obtain rfl : x56 = 1 := by omega
          refine at_zeqR dx_128_57 (by decide) (fun c => absurd c (by decide)) (fun _ => ?_)
          refine at_const (x := 0) dx_128_58 rfl ?_
          refine at_iretI dx_128_59 (by decide) ?_
          first | exact ⟨k1, k2⟩ | exact ⟨MI_sq hM F, fe_fr F (fun q j h => sq_hi h)⟩
        · skip
          refine at_const (x := 0) dx_128_53 rfl ?_
          refine at_goto dx_128_54 ?_
          refine at_callVI dx_128_56 rfl lc_856 rfl (m_fails2 (by decide)) ?_
          rintro x56 M56 r56 ⟨f56, h56⟩; replace h56 := ite01 h56
          replace F : frE sqE M _ := fe_tr F (fe_le f56 (fun q j h => Or.inl ⟨h.1, by rw [h.2]; decide, by rw [h.2]; decide⟩))
          have z56 := f56 860 c (by (try dsimp only); omega)
          obtain rfl : x56 = 0 := by omega
          refine at_zeqR dx_128_57 (by decide) (fun _ => ?_) (fun c => absurd c (by decide))
          refine at_aload dx_128_60 rfl ?_
          refine at_iload dx_128_61 rfl ?_
          refine at_callVV dx_128_62 rfl lc_856 rfl (m_edits2 rc (by omega) (MI_sq hM F) (ready_fe (hrd (by omega)) (by omega) (by omega) f56 (fun q j h => Or.inl ⟨h.1, by rw [h.2]; decide⟩))) ?_
          rintro M62 ⟨k1, k2⟩
          replace k2 := fr_tr (fe_fr F (fun q j h => sq_hi h)) k2
          have k3 := k1.1 c (by omega) (by omega)
          refine at_iload dx_128_63 rfl ?_
          refine at_iretI dx_128_64 r24 ?_
          first | exact ⟨k1, k2⟩ | exact ⟨MI_sq hM F, fe_fr F (fun q j h => sq_hi h)⟩

set_option maxRecDepth 100000 in
set_option maxHeartbeats 4000000 in
theorem r_join {X : scr} {M : mem} {c p : Int} (rc : inR c) (rp : inR p) (hM : MI M) : At X 0 131 0 [vr 856, vi c, vi p] [] M (qI (fun x M' => MI M' ∧ fr hi M M')) := by
  have F : frE sqE M M := fe_rf
  have hS := fun h1 h2 => hM.1 c h1 h2
  refine at_iload dx_131_0 rfl ?_
  refine at_callSI dx_131_1 rfl rfl (m_isClient rc) ?_
  rintro x1 M9 r1 ⟨e9, h1⟩; replace e9 := e9.symm; subst e9; replace h1 := ite01 h1
  refine at_zeqR dx_131_2 r1 (fun c2 => ?_) (fun c2 => ?_)
  · skip
    refine at_const (x := 0) dx_131_10 rfl ?_
    refine at_istore dx_131_11 ?_
    refine at_iload dx_131_12 rfl ?_
    refine at_zeqR dx_131_13 (by decide) (fun _ => ?_) (fun c => absurd c (by decide))
    refine at_const (x := 0) dx_131_30 rfl ?_
    refine at_istore dx_131_31 ?_
    refine at_iload dx_131_32 rfl ?_
    refine at_zeqR dx_131_33 (by decide) (fun _ => ?_) (fun c => absurd c (by decide))
    refine at_const (x := 0) dx_131_39 rfl ?_
    refine at_istore dx_131_40 ?_
    refine at_iload dx_131_41 rfl ?_
    refine at_zeqR dx_131_42 (by decide) (fun _ => ?_) (fun c => absurd c (by decide))
    refine at_aload dx_131_49 rfl ?_
    refine at_iload dx_131_50 rfl ?_
    refine at_zneR dx_131_51 (by decide) (fun c => absurd c (by decide)) (fun _ => ?_)
    refine at_const (x := 1) dx_131_52 rfl ?_
    refine at_goto dx_131_53 ?_
    refine at_callVI dx_131_63 rfl lc_856 rfl (m_fails2 (by decide)) ?_
    rintro x63 M63 r63 ⟨f63, h63⟩; replace h63 := ite01 h63
    replace F : frE sqE M _ := fe_tr F (fe_le f63 (fun q j h => Or.inl ⟨h.1, by rw [h.2]; decide, by rw [h.2]; decide⟩))
    have z63 := f63 860 c (by (try dsimp only); omega)
    obtain rfl : x63 = 1 := by omega
    refine at_zeqR dx_131_64 (by decide) (fun c => absurd c (by decide)) (fun _ => ?_)
    refine at_const (x := 0) dx_131_65 rfl ?_
    refine at_iretI dx_131_66 (by decide) ?_
    first | exact ⟨k1, k2⟩ | exact ⟨MI_sq hM F, fe_fr F (fun q j h => sq_hi h)⟩
  · skip
    refine at_aload dx_131_3 rfl ?_
    refine at_iload dx_131_4 rfl ?_
    refine at_iload dx_131_5 rfl ?_
    refine at_callVI dx_131_6 rfl lc_856 rfl (m_isPlace rc rp) ?_
    rintro x6 M9 r6 ⟨e9, h6⟩; replace e9 := e9.symm; subst e9; replace h6 := ite01 h6
    refine at_zeqR dx_131_7 r6 (fun c7 => ?_) (fun c7 => ?_)
    · skip
      refine at_const (x := 0) dx_131_10 rfl ?_
      refine at_istore dx_131_11 ?_
      refine at_iload dx_131_12 rfl ?_
      refine at_zeqR dx_131_13 (by decide) (fun _ => ?_) (fun c => absurd c (by decide))
      refine at_const (x := 0) dx_131_30 rfl ?_
      refine at_istore dx_131_31 ?_
      refine at_iload dx_131_32 rfl ?_
      refine at_zeqR dx_131_33 (by decide) (fun _ => ?_) (fun c => absurd c (by decide))
      refine at_const (x := 0) dx_131_39 rfl ?_
      refine at_istore dx_131_40 ?_
      refine at_iload dx_131_41 rfl ?_
      refine at_zeqR dx_131_42 (by decide) (fun _ => ?_) (fun c => absurd c (by decide))
      refine at_aload dx_131_49 rfl ?_
      refine at_iload dx_131_50 rfl ?_
      refine at_zneR dx_131_51 (by decide) (fun c => absurd c (by decide)) (fun _ => ?_)
      refine at_const (x := 1) dx_131_52 rfl ?_
      refine at_goto dx_131_53 ?_
      refine at_callVI dx_131_63 rfl lc_856 rfl (m_fails2 (by decide)) ?_
      rintro x63 M63 r63 ⟨f63, h63⟩; replace h63 := ite01 h63
      replace F : frE sqE M _ := fe_tr F (fe_le f63 (fun q j h => Or.inl ⟨h.1, by rw [h.2]; decide, by rw [h.2]; decide⟩))
      have z63 := f63 860 c (by (try dsimp only); omega)
      obtain rfl : x63 = 1 := by omega
      refine at_zeqR dx_131_64 (by decide) (fun c => absurd c (by decide)) (fun _ => ?_)
      refine at_const (x := 0) dx_131_65 rfl ?_
      refine at_iretI dx_131_66 (by decide) ?_
      first | exact ⟨k1, k2⟩ | exact ⟨MI_sq hM F, fe_fr F (fun q j h => sq_hi h)⟩
    · skip
      refine at_const (x := 1) dx_131_8 rfl ?_
      refine at_goto dx_131_9 ?_
      refine at_istore dx_131_11 ?_
      refine at_iload dx_131_12 rfl ?_
      refine at_zeqR dx_131_13 (by decide) (fun c => absurd c (by decide)) (fun _ => ?_)
      refine at_iload dx_131_14 rfl ?_
      refine at_zleR dx_131_15 rp (fun c15 => ?_) (fun c15 => ?_)
      · skip
        refine at_const (x := 0) dx_131_30 rfl ?_
        refine at_istore dx_131_31 ?_
        refine at_iload dx_131_32 rfl ?_
        refine at_zeqR dx_131_33 (by decide) (fun _ => ?_) (fun c => absurd c (by decide))
        refine at_const (x := 0) dx_131_39 rfl ?_
        refine at_istore dx_131_40 ?_
        refine at_iload dx_131_41 rfl ?_
        refine at_zeqR dx_131_42 (by decide) (fun _ => ?_) (fun c => absurd c (by decide))
        refine at_aload dx_131_49 rfl ?_
        refine at_iload dx_131_50 rfl ?_
        refine at_zneR dx_131_51 (by decide) (fun _ => ?_) (fun c => absurd c (by decide))
        refine at_iload dx_131_54 rfl ?_
        refine at_zeqR dx_131_55 (by decide) (fun _ => ?_) (fun c => absurd c (by decide))
        refine at_const (x := 2) dx_131_62 rfl ?_
        refine at_callVI dx_131_63 rfl lc_856 rfl (m_fails2 (by decide)) ?_
        rintro x63 M63 r63 ⟨f63, h63⟩; replace h63 := ite01 h63
        replace F : frE sqE M _ := fe_tr F (fe_le f63 (fun q j h => Or.inl ⟨h.1, by rw [h.2]; decide, by rw [h.2]; decide⟩))
        have z63 := f63 860 c (by (try dsimp only); omega)
        obtain rfl : x63 = 1 := by omega
        refine at_zeqR dx_131_64 (by decide) (fun c => absurd c (by decide)) (fun _ => ?_)
        refine at_const (x := 0) dx_131_65 rfl ?_
        refine at_iretI dx_131_66 (by decide) ?_
        first | exact ⟨k1, k2⟩ | exact ⟨MI_sq hM F, fe_fr F (fun q j h => sq_hi h)⟩
      · skip
        refine at_aload dx_131_16 rfl ?_
        refine at_iload dx_131_17 rfl ?_
        refine at_iload dx_131_18 rfl ?_
        refine at_callVI dx_131_19 rfl lc_856 rfl (m_opensAt rc rp (by omega) (by omega) (by have := hM.1 c (by omega) (by omega); omega)) ?_
        rintro x19 M9 r19 ⟨e9, h19⟩; replace e9 := e9.symm; subst e9; replace h19 := ite01 h19
        refine at_zeqR dx_131_20 r19 (fun c20 => ?_) (fun c20 => ?_)
        · skip
          refine at_const (x := 0) dx_131_30 rfl ?_
          refine at_istore dx_131_31 ?_
          refine at_iload dx_131_32 rfl ?_
          refine at_zeqR dx_131_33 (by decide) (fun _ => ?_) (fun c => absurd c (by decide))
          refine at_const (x := 0) dx_131_39 rfl ?_
          refine at_istore dx_131_40 ?_
          refine at_iload dx_131_41 rfl ?_
          refine at_zeqR dx_131_42 (by decide) (fun _ => ?_) (fun c => absurd c (by decide))
          refine at_aload dx_131_49 rfl ?_
          refine at_iload dx_131_50 rfl ?_
          refine at_zneR dx_131_51 (by decide) (fun _ => ?_) (fun c => absurd c (by decide))
          refine at_iload dx_131_54 rfl ?_
          refine at_zeqR dx_131_55 (by decide) (fun _ => ?_) (fun c => absurd c (by decide))
          refine at_const (x := 2) dx_131_62 rfl ?_
          refine at_callVI dx_131_63 rfl lc_856 rfl (m_fails2 (by decide)) ?_
          rintro x63 M63 r63 ⟨f63, h63⟩; replace h63 := ite01 h63
          replace F : frE sqE M _ := fe_tr F (fe_le f63 (fun q j h => Or.inl ⟨h.1, by rw [h.2]; decide, by rw [h.2]; decide⟩))
          have z63 := f63 860 c (by (try dsimp only); omega)
          obtain rfl : x63 = 1 := by omega
          refine at_zeqR dx_131_64 (by decide) (fun c => absurd c (by decide)) (fun _ => ?_)
          refine at_const (x := 0) dx_131_65 rfl ?_
          refine at_iretI dx_131_66 (by decide) ?_
          first | exact ⟨k1, k2⟩ | exact ⟨MI_sq hM F, fe_fr F (fun q j h => sq_hi h)⟩
        · skip
          refine at_aload dx_131_21 rfl ?_
          refine at_iload dx_131_22 rfl ?_
          refine at_iload dx_131_23 rfl ?_
          refine at_const (x := 1) dx_131_24 rfl ?_
          refine at_subR dx_131_25 (by constructor <;> omega) (fun r25 => ?_)
          refine at_callVI dx_131_26 rfl lc_856 rfl (m_tokenOf rc r25 (by omega) (by have := hM.1 c (by omega) (by omega); omega)) ?_
          rintro x26 M9 r26 ⟨e9, h26⟩; replace e9 := e9.symm; subst e9
          refine at_zneR dx_131_27 r26 (fun c27 => ?_) (fun c27 => ?_)
          · skip
            refine at_const (x := 0) dx_131_30 rfl ?_
            refine at_istore dx_131_31 ?_
            refine at_iload dx_131_32 rfl ?_
            refine at_zeqR dx_131_33 (by decide) (fun _ => ?_) (fun c => absurd c (by decide))
            refine at_const (x := 0) dx_131_39 rfl ?_
            refine at_istore dx_131_40 ?_
            refine at_iload dx_131_41 rfl ?_
            refine at_zeqR dx_131_42 (by decide) (fun _ => ?_) (fun c => absurd c (by decide))
            refine at_aload dx_131_49 rfl ?_
            refine at_iload dx_131_50 rfl ?_
            refine at_zneR dx_131_51 (by decide) (fun _ => ?_) (fun c => absurd c (by decide))
            refine at_iload dx_131_54 rfl ?_
            refine at_zeqR dx_131_55 (by decide) (fun _ => ?_) (fun c => absurd c (by decide))
            refine at_const (x := 2) dx_131_62 rfl ?_
            refine at_callVI dx_131_63 rfl lc_856 rfl (m_fails2 (by decide)) ?_
            rintro x63 M63 r63 ⟨f63, h63⟩; replace h63 := ite01 h63
            replace F : frE sqE M _ := fe_tr F (fe_le f63 (fun q j h => Or.inl ⟨h.1, by rw [h.2]; decide, by rw [h.2]; decide⟩))
            have z63 := f63 860 c (by (try dsimp only); omega)
            obtain rfl : x63 = 1 := by omega
            refine at_zeqR dx_131_64 (by decide) (fun c => absurd c (by decide)) (fun _ => ?_)
            refine at_const (x := 0) dx_131_65 rfl ?_
            refine at_iretI dx_131_66 (by decide) ?_
            first | exact ⟨k1, k2⟩ | exact ⟨MI_sq hM F, fe_fr F (fun q j h => sq_hi h)⟩
          · skip
            refine at_const (x := 1) dx_131_28 rfl ?_
            refine at_goto dx_131_29 ?_
            refine at_istore dx_131_31 ?_
            refine at_iload dx_131_32 rfl ?_
            refine at_zeqR dx_131_33 (by decide) (fun c => absurd c (by decide)) (fun _ => ?_)
            refine at_aload dx_131_34 rfl ?_
            refine at_iload dx_131_35 rfl ?_
            refine at_iload dx_131_36 rfl ?_
            refine at_callVI dx_131_37 rfl lc_856 rfl (m_tokenOf rc rp (by omega) (by have := hM.1 c (by omega) (by omega); omega)) ?_
            rintro x37 M9 r37 ⟨e9, h37⟩; replace e9 := e9.symm; subst e9
            refine at_goto dx_131_38 ?_
            refine at_istore dx_131_40 ?_
            refine at_iload dx_131_41 rfl ?_
            refine at_zeqR dx_131_42 (by decide) (fun c => absurd c (by decide)) (fun _ => ?_)
            refine at_aload dx_131_43 rfl ?_
            refine at_iload dx_131_44 rfl ?_
            refine at_const (x := 1) dx_131_45 rfl ?_
            refine at_subR dx_131_46 (by constructor <;> omega) (fun r46 => ?_)
            refine at_const (x := 2) dx_131_47 rfl ?_
            refine at_callVV dx_131_48 rfl lc_856 rfl (m_tries r46 (by decide)) ?_
            rintro M48 ⟨f48, t48a, t48b, t48c, t48d, t48e⟩
            replace F : frE sqE M _ := fe_tr F (fe_le f48 (fun q j h => sq_T (by (try dsimp only [stE] at h); omega)))
            have z48 := f48 860 c (by (try dsimp only); omega)
            refine at_aload dx_131_49 rfl ?_
            refine at_iload dx_131_50 rfl ?_
            refine at_zneR dx_131_51 (by decide) (fun _ => ?_) (fun c => absurd c (by decide))
            refine at_iload dx_131_54 rfl ?_
            refine at_zeqR dx_131_55 (by decide) (fun c => absurd c (by decide)) (fun _ => ?_)
            refine at_aload dx_131_56 rfl ?_
            refine at_iload dx_131_57 rfl ?_
            refine at_callVI dx_131_58 rfl lc_856 rfl (m_canEdit2 rc (by omega) (MI_sq hM F) (okX100.mpr (by omega))) ?_
            rintro x58 M58 r58 ⟨f58, b58, w58⟩
            replace F : frE sqE M _ := fe_tr F (fe_le f58 (fun q j h => sq_C h))
            have z58 := f58 860 c (by (try dsimp only); omega)
            have hrd := w58
            refine at_zeqR dx_131_59 r58 (fun c59 => ?_) (fun c59 => ?_)
            · skip
              refine at_const (x := 2) dx_131_62 rfl ?_
              refine at_callVI dx_131_63 rfl lc_856 rfl (m_fails2 (by decide)) ?_
              rintro x63 M63 r63 ⟨f63, h63⟩; replace h63 := ite01 h63
              replace F : frE sqE M _ := fe_tr F (fe_le f63 (fun q j h => Or.inl ⟨h.1, by rw [h.2]; decide, by rw [h.2]; decide⟩))
              have z63 := f63 860 c (by (try dsimp only); omega)
              obtain rfl : x63 = 1 := by omega
              refine at_zeqR dx_131_64 (by decide) (fun c => absurd c (by decide)) (fun _ => ?_)
              refine at_const (x := 0) dx_131_65 rfl ?_
              refine at_iretI dx_131_66 (by decide) ?_
              first | exact ⟨k1, k2⟩ | exact ⟨MI_sq hM F, fe_fr F (fun q j h => sq_hi h)⟩
            · skip
              refine at_const (x := 0) dx_131_60 rfl ?_
              refine at_goto dx_131_61 ?_
              refine at_callVI dx_131_63 rfl lc_856 rfl (m_fails2 (by decide)) ?_
              rintro x63 M63 r63 ⟨f63, h63⟩; replace h63 := ite01 h63
              replace F : frE sqE M _ := fe_tr F (fe_le f63 (fun q j h => Or.inl ⟨h.1, by rw [h.2]; decide, by rw [h.2]; decide⟩))
              have z63 := f63 860 c (by (try dsimp only); omega)
              obtain rfl : x63 = 0 := by omega
              refine at_zeqR dx_131_64 (by decide) (fun _ => ?_) (fun c => absurd c (by decide))
              refine at_aload dx_131_67 rfl ?_
              refine at_iload dx_131_68 rfl ?_
              refine at_callVV dx_131_69 rfl lc_856 rfl (m_edits2 rc (by omega) (MI_sq hM F) (ready_fe (hrd (by omega)) (by omega) (by omega) f63 (fun q j h => Or.inl ⟨h.1, by rw [h.2]; decide⟩))) ?_
              rintro M69 ⟨k1, k2⟩
              replace k2 := fr_tr (fe_fr F (fun q j h => sq_hi h)) k2
              have k3 := k1.1 c (by omega) (by omega)
              refine at_iload dx_131_70 rfl ?_
              refine at_iretI dx_131_71 r37 ?_
              first | exact ⟨k1, k2⟩ | exact ⟨MI_sq hM F, fe_fr F (fun q j h => sq_hi h)⟩

set_option maxRecDepth 100000 in
set_option maxHeartbeats 4000000 in
theorem r_wrap {X : scr} {M : mem} {c f t y : Int} (rc : inR c) (rf : inR f) (rt : inR t) (ry : inR y) (hM : MI M) : At X 0 132 0 [vr 856, vi c, vi f, vi t, vi y] [] M (qI (fun x M' => MI M' ∧ fr hi M M')) := by
  have F : frE sqE M M := fe_rf
  have hS := fun h1 h2 => hM.1 c h1 h2
  refine at_iload dx_132_0 rfl ?_
  refine at_callSI dx_132_1 rfl rfl (m_isClient rc) ?_
  rintro x1 M9 r1 ⟨e9, h1⟩; replace e9 := e9.symm; subst e9; replace h1 := ite01 h1
  refine at_zeqR dx_132_2 r1 (fun c2 => ?_) (fun c2 => ?_)
  · skip
    refine at_const (x := 0) dx_132_18 rfl ?_
    refine at_istore dx_132_19 ?_
    refine at_iload dx_132_20 rfl ?_
    refine at_zeqR dx_132_21 (by decide) (fun _ => ?_) (fun c => absurd c (by decide))
    refine at_aload dx_132_46 rfl ?_
    refine at_iload dx_132_47 rfl ?_
    refine at_zneR dx_132_48 (by decide) (fun c => absurd c (by decide)) (fun _ => ?_)
    refine at_const (x := 1) dx_132_49 rfl ?_
    refine at_goto dx_132_50 ?_
    refine at_callVI dx_132_63 rfl lc_856 rfl (m_fails2 (by decide)) ?_
    rintro x63 M63 r63 ⟨f63, h63⟩; replace h63 := ite01 h63
    replace F : frE sqE M _ := fe_tr F (fe_le f63 (fun q j h => Or.inl ⟨h.1, by rw [h.2]; decide, by rw [h.2]; decide⟩))
    have z63 := f63 860 c (by (try dsimp only); omega)
    obtain rfl : x63 = 1 := by omega
    refine at_zeqR dx_132_64 (by decide) (fun c => absurd c (by decide)) (fun _ => ?_)
    refine at_const (x := 0) dx_132_65 rfl ?_
    refine at_iretI dx_132_66 (by decide) ?_
    first | exact ⟨k1, k2⟩ | exact ⟨MI_sq hM F, fe_fr F (fun q j h => sq_hi h)⟩
  · skip
    refine at_aload dx_132_3 rfl ?_
    refine at_iload dx_132_4 rfl ?_
    refine at_iload dx_132_5 rfl ?_
    refine at_callVI dx_132_6 rfl lc_856 rfl (m_isPlace rc rf) ?_
    rintro x6 M9 r6 ⟨e9, h6⟩; replace e9 := e9.symm; subst e9; replace h6 := ite01 h6
    refine at_zeqR dx_132_7 r6 (fun c7 => ?_) (fun c7 => ?_)
    · skip
      refine at_const (x := 0) dx_132_18 rfl ?_
      refine at_istore dx_132_19 ?_
      refine at_iload dx_132_20 rfl ?_
      refine at_zeqR dx_132_21 (by decide) (fun _ => ?_) (fun c => absurd c (by decide))
      refine at_aload dx_132_46 rfl ?_
      refine at_iload dx_132_47 rfl ?_
      refine at_zneR dx_132_48 (by decide) (fun c => absurd c (by decide)) (fun _ => ?_)
      refine at_const (x := 1) dx_132_49 rfl ?_
      refine at_goto dx_132_50 ?_
      refine at_callVI dx_132_63 rfl lc_856 rfl (m_fails2 (by decide)) ?_
      rintro x63 M63 r63 ⟨f63, h63⟩; replace h63 := ite01 h63
      replace F : frE sqE M _ := fe_tr F (fe_le f63 (fun q j h => Or.inl ⟨h.1, by rw [h.2]; decide, by rw [h.2]; decide⟩))
      have z63 := f63 860 c (by (try dsimp only); omega)
      obtain rfl : x63 = 1 := by omega
      refine at_zeqR dx_132_64 (by decide) (fun c => absurd c (by decide)) (fun _ => ?_)
      refine at_const (x := 0) dx_132_65 rfl ?_
      refine at_iretI dx_132_66 (by decide) ?_
      first | exact ⟨k1, k2⟩ | exact ⟨MI_sq hM F, fe_fr F (fun q j h => sq_hi h)⟩
    · skip
      refine at_aload dx_132_8 rfl ?_
      refine at_iload dx_132_9 rfl ?_
      refine at_iload dx_132_10 rfl ?_
      refine at_callVI dx_132_11 rfl lc_856 rfl (m_isPlace rc rt) ?_
      rintro x11 M9 r11 ⟨e9, h11⟩; replace e9 := e9.symm; subst e9; replace h11 := ite01 h11
      refine at_zeqR dx_132_12 r11 (fun c12 => ?_) (fun c12 => ?_)
      · skip
        refine at_const (x := 0) dx_132_18 rfl ?_
        refine at_istore dx_132_19 ?_
        refine at_iload dx_132_20 rfl ?_
        refine at_zeqR dx_132_21 (by decide) (fun _ => ?_) (fun c => absurd c (by decide))
        refine at_aload dx_132_46 rfl ?_
        refine at_iload dx_132_47 rfl ?_
        refine at_zneR dx_132_48 (by decide) (fun c => absurd c (by decide)) (fun _ => ?_)
        refine at_const (x := 1) dx_132_49 rfl ?_
        refine at_goto dx_132_50 ?_
        refine at_callVI dx_132_63 rfl lc_856 rfl (m_fails2 (by decide)) ?_
        rintro x63 M63 r63 ⟨f63, h63⟩; replace h63 := ite01 h63
        replace F : frE sqE M _ := fe_tr F (fe_le f63 (fun q j h => Or.inl ⟨h.1, by rw [h.2]; decide, by rw [h.2]; decide⟩))
        have z63 := f63 860 c (by (try dsimp only); omega)
        obtain rfl : x63 = 1 := by omega
        refine at_zeqR dx_132_64 (by decide) (fun c => absurd c (by decide)) (fun _ => ?_)
        refine at_const (x := 0) dx_132_65 rfl ?_
        refine at_iretI dx_132_66 (by decide) ?_
        first | exact ⟨k1, k2⟩ | exact ⟨MI_sq hM F, fe_fr F (fun q j h => sq_hi h)⟩
      · skip
        refine at_iload dx_132_13 rfl ?_
        refine at_callSI dx_132_14 rfl rfl (m_opens ry) ?_
        rintro x14 M9 r14 ⟨e9, h14⟩; replace e9 := e9.symm; subst e9; replace h14 := ite01 h14
        refine at_zeqR dx_132_15 r14 (fun c15 => ?_) (fun c15 => ?_)
        · skip
          refine at_const (x := 0) dx_132_18 rfl ?_
          refine at_istore dx_132_19 ?_
          refine at_iload dx_132_20 rfl ?_
          refine at_zeqR dx_132_21 (by decide) (fun _ => ?_) (fun c => absurd c (by decide))
          refine at_aload dx_132_46 rfl ?_
          refine at_iload dx_132_47 rfl ?_
          refine at_zneR dx_132_48 (by decide) (fun c => absurd c (by decide)) (fun _ => ?_)
          refine at_const (x := 1) dx_132_49 rfl ?_
          refine at_goto dx_132_50 ?_
          refine at_callVI dx_132_63 rfl lc_856 rfl (m_fails2 (by decide)) ?_
          rintro x63 M63 r63 ⟨f63, h63⟩; replace h63 := ite01 h63
          replace F : frE sqE M _ := fe_tr F (fe_le f63 (fun q j h => Or.inl ⟨h.1, by rw [h.2]; decide, by rw [h.2]; decide⟩))
          have z63 := f63 860 c (by (try dsimp only); omega)
          obtain rfl : x63 = 1 := by omega
          refine at_zeqR dx_132_64 (by decide) (fun c => absurd c (by decide)) (fun _ => ?_)
          refine at_const (x := 0) dx_132_65 rfl ?_
          refine at_iretI dx_132_66 (by decide) ?_
          first | exact ⟨k1, k2⟩ | exact ⟨MI_sq hM F, fe_fr F (fun q j h => sq_hi h)⟩
        · skip
          refine at_const (x := 1) dx_132_16 rfl ?_
          refine at_goto dx_132_17 ?_
          refine at_istore dx_132_19 ?_
          refine at_iload dx_132_20 rfl ?_
          refine at_zeqR dx_132_21 (by decide) (fun c => absurd c (by decide)) (fun _ => ?_)
          refine at_aload dx_132_22 rfl ?_
          refine at_const (x := 100) dx_132_23 rfl ?_
          refine at_const (x := 2) dx_132_24 rfl ?_
          refine at_callVV dx_132_25 rfl lc_856 rfl (m_empties100 (by decide)) ?_
          rintro M25 ⟨f25, t25a, t25b, t25c, t25d, t25e⟩
          replace F : frE sqE M _ := fe_tr F (fe_le f25 (fun q j h => sq_T (by (try dsimp only [stE] at h); omega)))
          have z25 := f25 860 c (by (try dsimp only); omega)
          refine at_aload dx_132_26 rfl ?_
          refine at_getR dx_132_27 lc_856 rfl lt_856_8 ?_
          refine at_const (x := 200) dx_132_28 rfl ?_
          refine at_iload dx_132_29 rfl ?_
          refine at_astI dx_132_30 lc_865 ln_865 (by decide) (by decide) rf ?_
          refine at_aload dx_132_31 rfl ?_
          refine at_getR dx_132_32 lc_856 rfl lt_856_8 ?_
          refine at_const (x := 201) dx_132_33 rfl ?_
          refine at_iload dx_132_34 rfl ?_
          refine at_astI dx_132_35 lc_865 ln_865 (by decide) (by decide) rt ?_
          refine at_mem (fun Mw hMw => ?_)
          have fw : frE (fun q j => ((861 ≤ q ∧ q ≤ 864) ∧ j = 100) ∨ ((865 ≤ q ∧ q ≤ 867) ∧ (j = 200 ∨ j = 201))) M25 Mw := by rw [hMw]; (repeat (first | exact fe_rf | refine fe_ums ?_ (by (try dsimp only); first | done | omega)))
          have nw0 : Mw 861 100 = M25 861 100 := by rw [hMw]; simp (disch := omega) only [um_eq, um_k, um_j]
          have nw1 : Mw 864 100 = M25 864 100 := by rw [hMw]; simp (disch := omega) only [um_eq, um_k, um_j]
          have nw2 : Mw 865 200 = f := by rw [hMw]; simp (disch := omega) only [um_eq, um_k, um_j]
          have nw3 : Mw 865 201 = t := by rw [hMw]; simp (disch := omega) only [um_eq, um_k, um_j]
          have nw4 : Mw 866 200 = M25 866 200 := by rw [hMw]; simp (disch := omega) only [um_eq, um_k, um_j]
          have nw5 : Mw 866 201 = M25 866 201 := by rw [hMw]; simp (disch := omega) only [um_eq, um_k, um_j]
          have nw6 : Mw 867 200 = M25 867 200 := by rw [hMw]; simp (disch := omega) only [um_eq, um_k, um_j]
          have nw7 : Mw 867 201 = M25 867 201 := by rw [hMw]; simp (disch := omega) only [um_eq, um_k, um_j]
          have nw8 : Mw 860 c = M25 860 c := by rw [hMw]; simp (disch := omega) only [um_eq, um_k, um_j]
          replace F : frE sqE M _ := fe_tr F (fe_le fw (fun q j h => sq_T (by (try dsimp only [stE] at h); omega)))
          refine at_aload dx_132_36 rfl ?_
          refine at_const (x := 100) dx_132_37 rfl ?_
          refine at_const (x := 0) dx_132_38 rfl ?_
          refine at_iload dx_132_39 rfl ?_
          refine at_callVV dx_132_40 rfl lc_856 rfl (m_adds0 ry (by omega)) ?_
          rintro M40 ⟨f40, q40, a40, b40⟩
          replace F : frE sqE M _ := fe_tr F (fe_le f40 (fun q j h => sq_T (by (try dsimp only [stE] at h); omega)))
          have z40 := f40 860 c (by (try dsimp only); omega)
          refine at_aload dx_132_41 rfl ?_
          refine at_const (x := 100) dx_132_42 rfl ?_
          refine at_const (x := 1) dx_132_43 rfl ?_
          refine at_const (x := 0) dx_132_44 rfl ?_
          refine at_callVV dx_132_45 rfl lc_856 rfl (m_adds1 (by decide) (by omega)) ?_
          rintro M45 ⟨f45, q45, a45, b45⟩
          replace F : frE sqE M _ := fe_tr F (fe_le f45 (fun q j h => sq_T (by (try dsimp only [stE] at h); omega)))
          have z45 := f45 860 c (by (try dsimp only); omega)
          refine at_aload dx_132_46 rfl ?_
          refine at_iload dx_132_47 rfl ?_
          refine at_zneR dx_132_48 (by decide) (fun _ => ?_) (fun c => absurd c (by decide))
          refine at_iload dx_132_51 rfl ?_
          refine at_iload dx_132_52 rfl ?_
          refine at_cgtR dx_132_53 rt rf (fun c53 => ?_) (fun c53 => ?_)
          · skip
            refine at_aload dx_132_56 rfl ?_
            refine at_iload dx_132_57 rfl ?_
            refine at_callVI dx_132_58 rfl lc_856 rfl (m_canEdit2 rc (by omega) (MI_sq hM F) (okX100.mpr (by omega))) ?_
            rintro x58 M58 r58 ⟨f58, b58, w58⟩
            replace F : frE sqE M _ := fe_tr F (fe_le f58 (fun q j h => sq_C h))
            have z58 := f58 860 c (by (try dsimp only); omega)
            have hrd := w58
            refine at_zeqR dx_132_59 r58 (fun c59 => ?_) (fun c59 => ?_)
            · skip
              refine at_const (x := 3) dx_132_62 rfl ?_
              refine at_callVI dx_132_63 rfl lc_856 rfl (m_fails2 (by decide)) ?_
              rintro x63 M63 r63 ⟨f63, h63⟩; replace h63 := ite01 h63
              replace F : frE sqE M _ := fe_tr F (fe_le f63 (fun q j h => Or.inl ⟨h.1, by rw [h.2]; decide, by rw [h.2]; decide⟩))
              have z63 := f63 860 c (by (try dsimp only); omega)
              obtain rfl : x63 = 1 := by omega
              refine at_zeqR dx_132_64 (by decide) (fun c => absurd c (by decide)) (fun _ => ?_)
              refine at_const (x := 0) dx_132_65 rfl ?_
              refine at_iretI dx_132_66 (by decide) ?_
              first | exact ⟨k1, k2⟩ | exact ⟨MI_sq hM F, fe_fr F (fun q j h => sq_hi h)⟩
            · skip
              refine at_const (x := 0) dx_132_60 rfl ?_
              refine at_goto dx_132_61 ?_
              refine at_callVI dx_132_63 rfl lc_856 rfl (m_fails2 (by decide)) ?_
              rintro x63 M63 r63 ⟨f63, h63⟩; replace h63 := ite01 h63
              replace F : frE sqE M _ := fe_tr F (fe_le f63 (fun q j h => Or.inl ⟨h.1, by rw [h.2]; decide, by rw [h.2]; decide⟩))
              have z63 := f63 860 c (by (try dsimp only); omega)
              obtain rfl : x63 = 0 := by omega
              refine at_zeqR dx_132_64 (by decide) (fun _ => ?_) (fun c => absurd c (by decide))
              refine at_aload dx_132_67 rfl ?_
              refine at_iload dx_132_68 rfl ?_
              refine at_callVV dx_132_69 rfl lc_856 rfl (m_edits2 rc (by omega) (MI_sq hM F) (ready_fe (hrd (by omega)) (by omega) (by omega) f63 (fun q j h => Or.inl ⟨h.1, by rw [h.2]; decide⟩))) ?_
              rintro M69 ⟨k1, k2⟩
              replace k2 := fr_tr (fe_fr F (fun q j h => sq_hi h)) k2
              have k3 := k1.1 c (by omega) (by omega)
              refine at_aload dx_132_70 rfl ?_
              refine at_getR dx_132_71 lc_856 rfl lt_856_3 ?_
              refine at_iload dx_132_72 rfl ?_
              refine at_aldI dx_132_73 lc_860 ln_860 (by first | omega | (simp (disch := omega) only [um_eq, um_k, um_j]; omega)) (by first | omega | (simp (disch := omega) only [um_eq, um_k, um_j]; omega)) (fun r73 => ?_)
              refine at_iretI dx_132_74 r73 ?_
              first | exact ⟨k1, k2⟩ | exact ⟨MI_sq hM F, fe_fr F (fun q j h => sq_hi h)⟩
          · skip
            refine at_const (x := 2) dx_132_54 rfl ?_
            refine at_goto dx_132_55 ?_
            refine at_callVI dx_132_63 rfl lc_856 rfl (m_fails2 (by decide)) ?_
            rintro x63 M63 r63 ⟨f63, h63⟩; replace h63 := ite01 h63
            replace F : frE sqE M _ := fe_tr F (fe_le f63 (fun q j h => Or.inl ⟨h.1, by rw [h.2]; decide, by rw [h.2]; decide⟩))
            have z63 := f63 860 c (by (try dsimp only); omega)
            obtain rfl : x63 = 1 := by omega
            refine at_zeqR dx_132_64 (by decide) (fun c => absurd c (by decide)) (fun _ => ?_)
            refine at_const (x := 0) dx_132_65 rfl ?_
            refine at_iretI dx_132_66 (by decide) ?_
            first | exact ⟨k1, k2⟩ | exact ⟨MI_sq hM F, fe_fr F (fun q j h => sq_hi h)⟩

set_option maxRecDepth 100000 in
set_option maxHeartbeats 4000000 in
theorem r_unwrap {X : scr} {M : mem} {c p : Int} (rc : inR c) (rp : inR p) (hM : MI M) : At X 0 134 0 [vr 856, vi c, vi p] [] M (qI (fun x M' => MI M' ∧ fr hi M M')) := by
  have F : frE sqE M M := fe_rf
  have hS := fun h1 h2 => hM.1 c h1 h2
  refine at_iload dx_134_0 rfl ?_
  refine at_callSI dx_134_1 rfl rfl (m_isClient rc) ?_
  rintro x1 M9 r1 ⟨e9, h1⟩; replace e9 := e9.symm; subst e9; replace h1 := ite01 h1
  refine at_zeqR dx_134_2 r1 (fun c2 => ?_) (fun c2 => ?_)
  · skip
    refine at_const (x := 0) dx_134_10 rfl ?_
    refine at_istore dx_134_11 ?_
    refine at_iload dx_134_12 rfl ?_
    refine at_zeqR dx_134_13 (by decide) (fun _ => ?_) (fun c => absurd c (by decide))
    refine at_const (x := 0) dx_134_21 rfl ?_
    refine at_istore dx_134_22 ?_
    refine at_iload dx_134_23 rfl ?_
    refine at_zeqR dx_134_24 (by decide) (fun _ => ?_) (fun c => absurd c (by decide))
    refine at_const (x := 0) dx_134_30 rfl ?_
    refine at_istore dx_134_31 ?_
    refine at_iload dx_134_32 rfl ?_
    refine at_zeqR dx_134_33 (by decide) (fun _ => ?_) (fun c => absurd c (by decide))
    refine at_aload dx_134_61 rfl ?_
    refine at_iload dx_134_62 rfl ?_
    refine at_zneR dx_134_63 (by decide) (fun c => absurd c (by decide)) (fun _ => ?_)
    refine at_const (x := 1) dx_134_64 rfl ?_
    refine at_goto dx_134_65 ?_
    refine at_callVI dx_134_75 rfl lc_856 rfl (m_fails2 (by decide)) ?_
    rintro x75 M75 r75 ⟨f75, h75⟩; replace h75 := ite01 h75
    replace F : frE sqE M _ := fe_tr F (fe_le f75 (fun q j h => Or.inl ⟨h.1, by rw [h.2]; decide, by rw [h.2]; decide⟩))
    have z75 := f75 860 c (by (try dsimp only); omega)
    obtain rfl : x75 = 1 := by omega
    refine at_zeqR dx_134_76 (by decide) (fun c => absurd c (by decide)) (fun _ => ?_)
    refine at_const (x := 0) dx_134_77 rfl ?_
    refine at_iretI dx_134_78 (by decide) ?_
    first | exact ⟨k1, k2⟩ | exact ⟨MI_sq hM F, fe_fr F (fun q j h => sq_hi h)⟩
  · skip
    refine at_aload dx_134_3 rfl ?_
    refine at_iload dx_134_4 rfl ?_
    refine at_iload dx_134_5 rfl ?_
    refine at_callVI dx_134_6 rfl lc_856 rfl (m_isPlace rc rp) ?_
    rintro x6 M9 r6 ⟨e9, h6⟩; replace e9 := e9.symm; subst e9; replace h6 := ite01 h6
    refine at_zeqR dx_134_7 r6 (fun c7 => ?_) (fun c7 => ?_)
    · skip
      refine at_const (x := 0) dx_134_10 rfl ?_
      refine at_istore dx_134_11 ?_
      refine at_iload dx_134_12 rfl ?_
      refine at_zeqR dx_134_13 (by decide) (fun _ => ?_) (fun c => absurd c (by decide))
      refine at_const (x := 0) dx_134_21 rfl ?_
      refine at_istore dx_134_22 ?_
      refine at_iload dx_134_23 rfl ?_
      refine at_zeqR dx_134_24 (by decide) (fun _ => ?_) (fun c => absurd c (by decide))
      refine at_const (x := 0) dx_134_30 rfl ?_
      refine at_istore dx_134_31 ?_
      refine at_iload dx_134_32 rfl ?_
      refine at_zeqR dx_134_33 (by decide) (fun _ => ?_) (fun c => absurd c (by decide))
      refine at_aload dx_134_61 rfl ?_
      refine at_iload dx_134_62 rfl ?_
      refine at_zneR dx_134_63 (by decide) (fun c => absurd c (by decide)) (fun _ => ?_)
      refine at_const (x := 1) dx_134_64 rfl ?_
      refine at_goto dx_134_65 ?_
      refine at_callVI dx_134_75 rfl lc_856 rfl (m_fails2 (by decide)) ?_
      rintro x75 M75 r75 ⟨f75, h75⟩; replace h75 := ite01 h75
      replace F : frE sqE M _ := fe_tr F (fe_le f75 (fun q j h => Or.inl ⟨h.1, by rw [h.2]; decide, by rw [h.2]; decide⟩))
      have z75 := f75 860 c (by (try dsimp only); omega)
      obtain rfl : x75 = 1 := by omega
      refine at_zeqR dx_134_76 (by decide) (fun c => absurd c (by decide)) (fun _ => ?_)
      refine at_const (x := 0) dx_134_77 rfl ?_
      refine at_iretI dx_134_78 (by decide) ?_
      first | exact ⟨k1, k2⟩ | exact ⟨MI_sq hM F, fe_fr F (fun q j h => sq_hi h)⟩
    · skip
      refine at_const (x := 1) dx_134_8 rfl ?_
      refine at_goto dx_134_9 ?_
      refine at_istore dx_134_11 ?_
      refine at_iload dx_134_12 rfl ?_
      refine at_zeqR dx_134_13 (by decide) (fun c => absurd c (by decide)) (fun _ => ?_)
      refine at_aload dx_134_14 rfl ?_
      refine at_iload dx_134_15 rfl ?_
      refine at_iload dx_134_16 rfl ?_
      refine at_callVI dx_134_17 rfl lc_856 rfl (m_opensAt rc rp (by omega) (by omega) (by have := hM.1 c (by omega) (by omega); omega)) ?_
      rintro x17 M9 r17 ⟨e9, h17⟩; replace e9 := e9.symm; subst e9; replace h17 := ite01 h17
      refine at_zeqR dx_134_18 r17 (fun c18 => ?_) (fun c18 => ?_)
      · skip
        refine at_const (x := 0) dx_134_21 rfl ?_
        refine at_istore dx_134_22 ?_
        refine at_iload dx_134_23 rfl ?_
        refine at_zeqR dx_134_24 (by decide) (fun _ => ?_) (fun c => absurd c (by decide))
        refine at_const (x := 0) dx_134_30 rfl ?_
        refine at_istore dx_134_31 ?_
        refine at_iload dx_134_32 rfl ?_
        refine at_zeqR dx_134_33 (by decide) (fun _ => ?_) (fun c => absurd c (by decide))
        refine at_aload dx_134_61 rfl ?_
        refine at_iload dx_134_62 rfl ?_
        refine at_zneR dx_134_63 (by decide) (fun _ => ?_) (fun c => absurd c (by decide))
        refine at_iload dx_134_66 rfl ?_
        refine at_zeqR dx_134_67 (by decide) (fun _ => ?_) (fun c => absurd c (by decide))
        refine at_const (x := 2) dx_134_74 rfl ?_
        refine at_callVI dx_134_75 rfl lc_856 rfl (m_fails2 (by decide)) ?_
        rintro x75 M75 r75 ⟨f75, h75⟩; replace h75 := ite01 h75
        replace F : frE sqE M _ := fe_tr F (fe_le f75 (fun q j h => Or.inl ⟨h.1, by rw [h.2]; decide, by rw [h.2]; decide⟩))
        have z75 := f75 860 c (by (try dsimp only); omega)
        obtain rfl : x75 = 1 := by omega
        refine at_zeqR dx_134_76 (by decide) (fun c => absurd c (by decide)) (fun _ => ?_)
        refine at_const (x := 0) dx_134_77 rfl ?_
        refine at_iretI dx_134_78 (by decide) ?_
        first | exact ⟨k1, k2⟩ | exact ⟨MI_sq hM F, fe_fr F (fun q j h => sq_hi h)⟩
      · skip
        refine at_const (x := 1) dx_134_19 rfl ?_
        refine at_goto dx_134_20 ?_
        refine at_istore dx_134_22 ?_
        refine at_iload dx_134_23 rfl ?_
        refine at_zeqR dx_134_24 (by decide) (fun c => absurd c (by decide)) (fun _ => ?_)
        refine at_aload dx_134_25 rfl ?_
        refine at_iload dx_134_26 rfl ?_
        refine at_iload dx_134_27 rfl ?_
        refine at_callVI dx_134_28 rfl lc_856 rfl (m_tokenOf rc rp (by omega) (by have := hM.1 c (by omega) (by omega); omega)) ?_
        rintro x28 M9 r28 ⟨e9, h28⟩; replace e9 := e9.symm; subst e9
        refine at_goto dx_134_29 ?_
        refine at_istore dx_134_31 ?_
        refine at_iload dx_134_32 rfl ?_
        refine at_zeqR dx_134_33 (by decide) (fun c => absurd c (by decide)) (fun _ => ?_)
        refine at_aload dx_134_34 rfl ?_
        refine at_const (x := 100) dx_134_35 rfl ?_
        refine at_const (x := 2) dx_134_36 rfl ?_
        refine at_callVV dx_134_37 rfl lc_856 rfl (m_empties100 (by decide)) ?_
        rintro M37 ⟨f37, t37a, t37b, t37c, t37d, t37e⟩
        replace F : frE sqE M _ := fe_tr F (fe_le f37 (fun q j h => sq_T (by (try dsimp only [stE] at h); omega)))
        have z37 := f37 860 c (by (try dsimp only); omega)
        refine at_aload dx_134_38 rfl ?_
        refine at_getR dx_134_39 lc_856 rfl lt_856_8 ?_
        refine at_const (x := 200) dx_134_40 rfl ?_
        refine at_iload dx_134_41 rfl ?_
        refine at_astI dx_134_42 lc_865 ln_865 (by decide) (by decide) rp ?_
        refine at_aload dx_134_43 rfl ?_
        refine at_getR dx_134_44 lc_856 rfl lt_856_9 ?_
        refine at_const (x := 200) dx_134_45 rfl ?_
        refine at_const (x := 1) dx_134_46 rfl ?_
        refine at_astI dx_134_47 lc_866 ln_866 (by decide) (by decide) (by decide) ?_
        refine at_mem (fun Mw hMw => ?_)
        have fw : frE (fun q j => ((861 ≤ q ∧ q ≤ 864) ∧ j = 100) ∨ ((865 ≤ q ∧ q ≤ 867) ∧ (j = 200 ∨ j = 201))) M37 Mw := by rw [hMw]; (repeat (first | exact fe_rf | refine fe_ums ?_ (by (try dsimp only); first | done | omega)))
        have nw0 : Mw 861 100 = M37 861 100 := by rw [hMw]; simp (disch := omega) only [um_eq, um_k, um_j]
        have nw1 : Mw 864 100 = M37 864 100 := by rw [hMw]; simp (disch := omega) only [um_eq, um_k, um_j]
        have nw2 : Mw 865 200 = p := by rw [hMw]; simp (disch := omega) only [um_eq, um_k, um_j]
        have nw3 : Mw 865 201 = M37 865 201 := by rw [hMw]; simp (disch := omega) only [um_eq, um_k, um_j]
        have nw4 : Mw 866 200 = 1 := by rw [hMw]; simp (disch := omega) only [um_eq, um_k, um_j]
        have nw5 : Mw 866 201 = M37 866 201 := by rw [hMw]; simp (disch := omega) only [um_eq, um_k, um_j]
        have nw6 : Mw 867 200 = M37 867 200 := by rw [hMw]; simp (disch := omega) only [um_eq, um_k, um_j]
        have nw7 : Mw 867 201 = M37 867 201 := by rw [hMw]; simp (disch := omega) only [um_eq, um_k, um_j]
        have nw8 : Mw 860 c = M37 860 c := by rw [hMw]; simp (disch := omega) only [um_eq, um_k, um_j]
        replace F : frE sqE M _ := fe_tr F (fe_le fw (fun q j h => sq_T (by (try dsimp only [stE] at h); omega)))
        have gw : ∀ (q : Nat) (j : Int), (q = 859 ∨ q = 860) → Mw q j = M q j := fun q j hq => F q j (by (try dsimp only [sqE]); omega)
        have dw : dc Mw c = dc M c := dc_cg (gw 860 c (Or.inr rfl)) (fun j _ => gw 859 _ (Or.inl rfl))
        refine at_aload dx_134_48 rfl ?_
        refine at_getR dx_134_49 lc_856 rfl lt_856_8 ?_
        refine at_const (x := 201) dx_134_50 rfl ?_
        refine at_aload dx_134_51 rfl ?_
        refine at_iload dx_134_52 rfl ?_
        refine at_iload dx_134_53 rfl ?_
        refine at_callVI dx_134_54 rfl lc_856 rfl (m_closing rc rp (by omega) (by omega) (by omega) (by rw [gw 859 _ (Or.inl rfl)]; omega) (by rw [dw]; exact MI_bal hM (by omega))) ?_
        rintro x54 M9 r54 ⟨e9, h54⟩; replace e9 := e9.symm; subst e9
        refine at_astI dx_134_55 lc_865 ln_865 (by decide) (by decide) r54 ?_
        refine at_aload dx_134_56 rfl ?_
        refine at_getR dx_134_57 lc_856 rfl lt_856_9 ?_
        refine at_const (x := 201) dx_134_58 rfl ?_
        refine at_const (x := 1) dx_134_59 rfl ?_
        refine at_astI dx_134_60 lc_866 ln_866 (by decide) (by decide) (by decide) ?_
        refine at_mem (fun Mv hMv => ?_)
        have fv : frE (fun q j => ((861 ≤ q ∧ q ≤ 864) ∧ j = 100) ∨ ((865 ≤ q ∧ q ≤ 867) ∧ (j = 200 ∨ j = 201))) Mw Mv := by rw [hMv]; (repeat (first | exact fe_rf | refine fe_ums ?_ (by (try dsimp only); first | done | omega)))
        have nv0 : Mv 861 100 = Mw 861 100 := by rw [hMv]; simp (disch := omega) only [um_eq, um_k, um_j]
        have nv1 : Mv 864 100 = Mw 864 100 := by rw [hMv]; simp (disch := omega) only [um_eq, um_k, um_j]
        have nv2 : Mv 865 200 = Mw 865 200 := by rw [hMv]; simp (disch := omega) only [um_eq, um_k, um_j]
        have nv3 : Mv 865 201 = x54 := by rw [hMv]; simp (disch := omega) only [um_eq, um_k, um_j]
        have nv4 : Mv 866 200 = Mw 866 200 := by rw [hMv]; simp (disch := omega) only [um_eq, um_k, um_j]
        have nv5 : Mv 866 201 = 1 := by rw [hMv]; simp (disch := omega) only [um_eq, um_k, um_j]
        have nv6 : Mv 867 200 = Mw 867 200 := by rw [hMv]; simp (disch := omega) only [um_eq, um_k, um_j]
        have nv7 : Mv 867 201 = Mw 867 201 := by rw [hMv]; simp (disch := omega) only [um_eq, um_k, um_j]
        have nv8 : Mv 860 c = Mw 860 c := by rw [hMv]; simp (disch := omega) only [um_eq, um_k, um_j]
        replace F : frE sqE M _ := fe_tr F (fe_le fv (fun q j h => sq_T (by (try dsimp only [stE] at h); omega)))
        refine at_aload dx_134_61 rfl ?_
        refine at_iload dx_134_62 rfl ?_
        refine at_zneR dx_134_63 (by decide) (fun _ => ?_) (fun c => absurd c (by decide))
        refine at_iload dx_134_66 rfl ?_
        refine at_zeqR dx_134_67 (by decide) (fun c => absurd c (by decide)) (fun _ => ?_)
        refine at_aload dx_134_68 rfl ?_
        refine at_iload dx_134_69 rfl ?_
        refine at_callVI dx_134_70 rfl lc_856 rfl (m_canEdit2 rc (by omega) (MI_sq hM F) (okX100.mpr (by omega))) ?_
        rintro x70 M70 r70 ⟨f70, b70, w70⟩
        replace F : frE sqE M _ := fe_tr F (fe_le f70 (fun q j h => sq_C h))
        have z70 := f70 860 c (by (try dsimp only); omega)
        have hrd := w70
        refine at_zeqR dx_134_71 r70 (fun c71 => ?_) (fun c71 => ?_)
        · skip
          refine at_const (x := 2) dx_134_74 rfl ?_
          refine at_callVI dx_134_75 rfl lc_856 rfl (m_fails2 (by decide)) ?_
          rintro x75 M75 r75 ⟨f75, h75⟩; replace h75 := ite01 h75
          replace F : frE sqE M _ := fe_tr F (fe_le f75 (fun q j h => Or.inl ⟨h.1, by rw [h.2]; decide, by rw [h.2]; decide⟩))
          have z75 := f75 860 c (by (try dsimp only); omega)
          obtain rfl : x75 = 1 := by omega
          refine at_zeqR dx_134_76 (by decide) (fun c => absurd c (by decide)) (fun _ => ?_)
          refine at_const (x := 0) dx_134_77 rfl ?_
          refine at_iretI dx_134_78 (by decide) ?_
          first | exact ⟨k1, k2⟩ | exact ⟨MI_sq hM F, fe_fr F (fun q j h => sq_hi h)⟩
        · skip
          refine at_const (x := 0) dx_134_72 rfl ?_
          refine at_goto dx_134_73 ?_
          refine at_callVI dx_134_75 rfl lc_856 rfl (m_fails2 (by decide)) ?_
          rintro x75 M75 r75 ⟨f75, h75⟩; replace h75 := ite01 h75
          replace F : frE sqE M _ := fe_tr F (fe_le f75 (fun q j h => Or.inl ⟨h.1, by rw [h.2]; decide, by rw [h.2]; decide⟩))
          have z75 := f75 860 c (by (try dsimp only); omega)
          obtain rfl : x75 = 0 := by omega
          refine at_zeqR dx_134_76 (by decide) (fun _ => ?_) (fun c => absurd c (by decide))
          refine at_aload dx_134_79 rfl ?_
          refine at_iload dx_134_80 rfl ?_
          refine at_callVV dx_134_81 rfl lc_856 rfl (m_edits2 rc (by omega) (MI_sq hM F) (ready_fe (hrd (by omega)) (by omega) (by omega) f75 (fun q j h => Or.inl ⟨h.1, by rw [h.2]; decide⟩))) ?_
          rintro M81 ⟨k1, k2⟩
          replace k2 := fr_tr (fe_fr F (fun q j h => sq_hi h)) k2
          have k3 := k1.1 c (by omega) (by omega)
          refine at_iload dx_134_82 rfl ?_
          refine at_iretI dx_134_83 r28 ?_
          first | exact ⟨k1, k2⟩ | exact ⟨MI_sq hM F, fe_fr F (fun q j h => sq_hi h)⟩

set_option maxRecDepth 100000 in
set_option maxHeartbeats 4000000 in
theorem r_size {X : scr} {M : mem} {c : Int} (rc : inR c) (hM : MI M) : At X 0 155 0 [vr 856, vi c] [] M (qI (fun x M' => MI M' ∧ fr hi M M')) := by
  have F : frE sqE M M := fe_rf
  have hS := fun h1 h2 => hM.1 c h1 h2
  refine at_aload dx_155_0 rfl ?_
  refine at_iload dx_155_1 rfl ?_
  refine at_const (x := 0) dx_155_2 rfl ?_
  refine at_const (x := 3) dx_155_3 rfl ?_
  refine at_callSI dx_155_4 rfl rfl (m_isIn rc (by decide) (by decide)) ?_
  rintro x4 M9 r4 ⟨e9, h4⟩; replace e9 := e9.symm; subst e9; replace h4 := ite01 h4
  refine at_zeqR dx_155_5 r4 (fun c5 => ?_) (fun c5 => ?_)
  · skip
    refine at_const (x := 1) dx_155_8 rfl ?_
    refine at_callVI dx_155_9 rfl lc_856 rfl (m_fails2 (by decide)) ?_
    rintro x9 M9 r9 ⟨f9, h9⟩; replace h9 := ite01 h9
    replace F : frE sqE M _ := fe_tr F (fe_le f9 (fun q j h => Or.inl ⟨h.1, by rw [h.2]; decide, by rw [h.2]; decide⟩))
    have z9 := f9 860 c (by (try dsimp only); omega)
    obtain rfl : x9 = 1 := by omega
    refine at_zeqR dx_155_10 (by decide) (fun c => absurd c (by decide)) (fun _ => ?_)
    refine at_const (x := 0) dx_155_11 rfl ?_
    refine at_goto dx_155_12 ?_
    refine at_iretI dx_155_17 (by decide) ?_
    first | exact ⟨k1, k2⟩ | exact ⟨MI_sq hM F, fe_fr F (fun q j h => sq_hi h)⟩
  · skip
    refine at_const (x := 0) dx_155_6 rfl ?_
    refine at_goto dx_155_7 ?_
    refine at_callVI dx_155_9 rfl lc_856 rfl (m_fails2 (by decide)) ?_
    rintro x9 M9 r9 ⟨f9, h9⟩; replace h9 := ite01 h9
    replace F : frE sqE M _ := fe_tr F (fe_le f9 (fun q j h => Or.inl ⟨h.1, by rw [h.2]; decide, by rw [h.2]; decide⟩))
    have z9 := f9 860 c (by (try dsimp only); omega)
    obtain rfl : x9 = 0 := by omega
    refine at_zeqR dx_155_10 (by decide) (fun _ => ?_) (fun c => absurd c (by decide))
    refine at_aload dx_155_13 rfl ?_
    refine at_getR dx_155_14 lc_856 rfl lt_856_3 ?_
    refine at_iload dx_155_15 rfl ?_
    refine at_aldI dx_155_16 lc_860 ln_860 (by omega) (by omega) (fun r16 => ?_)
    refine at_iretI dx_155_17 r16 ?_
    first | exact ⟨k1, k2⟩ | exact ⟨MI_sq hM F, fe_fr F (fun q j h => sq_hi h)⟩

set_option maxRecDepth 100000 in
set_option maxHeartbeats 4000000 in
theorem r_token {X : scr} {M : mem} {c p : Int} (rc : inR c) (rp : inR p) (hM : MI M) : At X 0 156 0 [vr 856, vi c, vi p] [] M (qI (fun x M' => MI M' ∧ fr hi M M')) := by
  have F : frE sqE M M := fe_rf
  have hS := fun h1 h2 => hM.1 c h1 h2
  refine at_aload dx_156_0 rfl ?_
  refine at_iload dx_156_1 rfl ?_
  refine at_iload dx_156_2 rfl ?_
  refine at_callVI dx_156_3 rfl lc_856 rfl (m_isPlace rc rp) ?_
  rintro x3 M9 r3 ⟨e9, h3⟩; replace e9 := e9.symm; subst e9; replace h3 := ite01 h3
  refine at_zeqR dx_156_4 r3 (fun c4 => ?_) (fun c4 => ?_)
  · skip
    refine at_const (x := 0) dx_156_13 rfl ?_
    refine at_istore dx_156_14 ?_
    refine at_aload dx_156_15 rfl ?_
    refine at_iload dx_156_16 rfl ?_
    refine at_zeqR dx_156_17 (by decide) (fun _ => ?_) (fun c => absurd c (by decide))
    refine at_const (x := 1) dx_156_20 rfl ?_
    refine at_callVI dx_156_21 rfl lc_856 rfl (m_fails2 (by decide)) ?_
    rintro x21 M21 r21 ⟨f21, h21⟩; replace h21 := ite01 h21
    replace F : frE sqE M _ := fe_tr F (fe_le f21 (fun q j h => Or.inl ⟨h.1, by rw [h.2]; decide, by rw [h.2]; decide⟩))
    have z21 := f21 860 c (by (try dsimp only); omega)
    obtain rfl : x21 = 1 := by omega
    refine at_zeqR dx_156_22 (by decide) (fun c => absurd c (by decide)) (fun _ => ?_)
    refine at_const (x := 0) dx_156_23 rfl ?_
    refine at_goto dx_156_24 ?_
    refine at_iretI dx_156_29 (by decide) ?_
    first | exact ⟨k1, k2⟩ | exact ⟨MI_sq hM F, fe_fr F (fun q j h => sq_hi h)⟩
  · skip
    refine at_iload dx_156_5 rfl ?_
    refine at_aload dx_156_6 rfl ?_
    refine at_getR dx_156_7 lc_856 rfl lt_856_3 ?_
    refine at_iload dx_156_8 rfl ?_
    refine at_aldI dx_156_9 lc_860 ln_860 (by first | omega | (simp (disch := omega) only [um_eq, um_k, um_j]; omega)) (by first | omega | (simp (disch := omega) only [um_eq, um_k, um_j]; omega)) (fun r9 => ?_)
    refine at_cgeR dx_156_10 rp r9 (fun c10 => ?_) (fun c10 => ?_)
    · skip
      refine at_const (x := 0) dx_156_13 rfl ?_
      refine at_istore dx_156_14 ?_
      refine at_aload dx_156_15 rfl ?_
      refine at_iload dx_156_16 rfl ?_
      refine at_zeqR dx_156_17 (by decide) (fun _ => ?_) (fun c => absurd c (by decide))
      refine at_const (x := 1) dx_156_20 rfl ?_
      refine at_callVI dx_156_21 rfl lc_856 rfl (m_fails2 (by decide)) ?_
      rintro x21 M21 r21 ⟨f21, h21⟩; replace h21 := ite01 h21
      replace F : frE sqE M _ := fe_tr F (fe_le f21 (fun q j h => Or.inl ⟨h.1, by rw [h.2]; decide, by rw [h.2]; decide⟩))
      have z21 := f21 860 c (by (try dsimp only); omega)
      obtain rfl : x21 = 1 := by omega
      refine at_zeqR dx_156_22 (by decide) (fun c => absurd c (by decide)) (fun _ => ?_)
      refine at_const (x := 0) dx_156_23 rfl ?_
      refine at_goto dx_156_24 ?_
      refine at_iretI dx_156_29 (by decide) ?_
      first | exact ⟨k1, k2⟩ | exact ⟨MI_sq hM F, fe_fr F (fun q j h => sq_hi h)⟩
    · skip
      refine at_const (x := 1) dx_156_11 rfl ?_
      refine at_goto dx_156_12 ?_
      refine at_istore dx_156_14 ?_
      refine at_aload dx_156_15 rfl ?_
      refine at_iload dx_156_16 rfl ?_
      refine at_zeqR dx_156_17 (by decide) (fun c => absurd c (by decide)) (fun _ => ?_)
      refine at_const (x := 0) dx_156_18 rfl ?_
      refine at_goto dx_156_19 ?_
      refine at_callVI dx_156_21 rfl lc_856 rfl (m_fails2 (by decide)) ?_
      rintro x21 M21 r21 ⟨f21, h21⟩; replace h21 := ite01 h21
      replace F : frE sqE M _ := fe_tr F (fe_le f21 (fun q j h => Or.inl ⟨h.1, by rw [h.2]; decide, by rw [h.2]; decide⟩))
      have z21 := f21 860 c (by (try dsimp only); omega)
      obtain rfl : x21 = 0 := by omega
      refine at_zeqR dx_156_22 (by decide) (fun _ => ?_) (fun c => absurd c (by decide))
      refine at_aload dx_156_25 rfl ?_
      refine at_iload dx_156_26 rfl ?_
      refine at_iload dx_156_27 rfl ?_
      refine at_callVI dx_156_28 rfl lc_856 rfl (m_tokenOf rc rp (by omega) (by have := hM.1 c (by omega) (by omega); omega)) ?_
      rintro x28 M9 r28 ⟨e9, h28⟩; replace e9 := e9.symm; subst e9
      refine at_iretI dx_156_29 r28 ?_
      first | exact ⟨k1, k2⟩ | exact ⟨MI_sq hM F, fe_fr F (fun q j h => sq_hi h)⟩

set_option maxRecDepth 100000 in
set_option maxHeartbeats 4000000 in
theorem r_around {X : scr} {M : mem} {c p : Int} (rc : inR c) (rp : inR p) (hM : MI M) : At X 0 157 0 [vr 856, vi c, vi p] [] M (qI (fun x M' => MI M' ∧ fr hi M M')) := by
  have F : frE sqE M M := fe_rf
  have hS := fun h1 h2 => hM.1 c h1 h2
  refine at_aload dx_157_0 rfl ?_
  refine at_aload dx_157_1 rfl ?_
  refine at_iload dx_157_2 rfl ?_
  refine at_iload dx_157_3 rfl ?_
  refine at_callVI dx_157_4 rfl lc_856 rfl (m_isPlace rc rp) ?_
  rintro x4 M9 r4 ⟨e9, h4⟩; replace e9 := e9.symm; subst e9; replace h4 := ite01 h4
  refine at_zeqR dx_157_5 r4 (fun c5 => ?_) (fun c5 => ?_)
  · skip
    refine at_const (x := 1) dx_157_8 rfl ?_
    refine at_callVI dx_157_9 rfl lc_856 rfl (m_fails2 (by decide)) ?_
    rintro x9 M9 r9 ⟨f9, h9⟩; replace h9 := ite01 h9
    replace F : frE sqE M _ := fe_tr F (fe_le f9 (fun q j h => Or.inl ⟨h.1, by rw [h.2]; decide, by rw [h.2]; decide⟩))
    have z9 := f9 860 c (by (try dsimp only); omega)
    obtain rfl : x9 = 1 := by omega
    refine at_zeqR dx_157_10 (by decide) (fun c => absurd c (by decide)) (fun _ => ?_)
    refine at_const (x := 0) dx_157_11 rfl ?_
    refine at_iretI dx_157_12 (by decide) ?_
    first | exact ⟨k1, k2⟩ | exact ⟨MI_sq hM F, fe_fr F (fun q j h => sq_hi h)⟩
  · skip
    refine at_const (x := 0) dx_157_6 rfl ?_
    refine at_goto dx_157_7 ?_
    refine at_callVI dx_157_9 rfl lc_856 rfl (m_fails2 (by decide)) ?_
    rintro x9 M9 r9 ⟨f9, h9⟩; replace h9 := ite01 h9
    replace F : frE sqE M _ := fe_tr F (fe_le f9 (fun q j h => Or.inl ⟨h.1, by rw [h.2]; decide, by rw [h.2]; decide⟩))
    have z9 := f9 860 c (by (try dsimp only); omega)
    obtain rfl : x9 = 0 := by omega
    refine at_zeqR dx_157_10 (by decide) (fun _ => ?_) (fun c => absurd c (by decide))
    refine at_aload dx_157_13 rfl ?_
    refine at_iload dx_157_14 rfl ?_
    refine at_iload dx_157_15 rfl ?_
    refine at_callVI dx_157_16 rfl lc_856 rfl (m_depthAt rc rp (by omega) (by rw [z9]; exact hM.1 c (by omega) (by omega)) (by omega) (MI_bal (MI_sq hM F) (by omega))) ?_
    rintro x16 M16 r16 ⟨f16, d16, -, o16⟩
    replace F : frE sqE M _ := fe_tr F (fe_le f16 (fun q j h => sq_C (by (try dsimp only at h); omega)))
    refine at_istore dx_157_17 ?_
    refine at_const (x := 10) dx_157_18 rfl ?_
    refine at_iload dx_157_19 rfl ?_
    refine at_mulW dx_157_20 ?_
    refine at_aload dx_157_21 rfl ?_
    refine at_getR dx_157_22 lc_856 rfl lt_856_29 ?_
    refine at_iload dx_157_23 rfl ?_
    refine at_aldI dx_157_24 lc_881 ln_881 (by omega) (by omega) (fun r24 => ?_)
    refine at_addW dx_157_25 ?_
    refine at_iretI dx_157_26 (inR_wr _) ?_
    first | exact ⟨k1, k2⟩ | exact ⟨MI_sq hM F, fe_fr F (fun q j h => sq_hi h)⟩

set_option maxRecDepth 100000 in
set_option maxHeartbeats 4000000 in
theorem r_version {X : scr} {M : mem} {c : Int} (rc : inR c) (hM : MI M) : At X 0 153 0 [vr 856, vi c] [] M (qI (fun x M' => MI M' ∧ fr hi M M')) := by
  have F : frE sqE M M := fe_rf
  have hS := fun h1 h2 => hM.1 c h1 h2
  refine at_aload dx_153_0 rfl ?_
  refine at_iload dx_153_1 rfl ?_
  refine at_callSI dx_153_2 rfl rfl (m_isClient rc) ?_
  rintro x2 M9 r2 ⟨e9, h2⟩; replace e9 := e9.symm; subst e9; replace h2 := ite01 h2
  refine at_zeqR dx_153_3 r2 (fun c3 => ?_) (fun c3 => ?_)
  · skip
    refine at_const (x := 1) dx_153_6 rfl ?_
    refine at_callVI dx_153_7 rfl lc_856 rfl (m_fails2 (by decide)) ?_
    rintro x7 M7 r7 ⟨f7, h7⟩; replace h7 := ite01 h7
    replace F : frE sqE M _ := fe_tr F (fe_le f7 (fun q j h => Or.inl ⟨h.1, by rw [h.2]; decide, by rw [h.2]; decide⟩))
    have z7 := f7 860 c (by (try dsimp only); omega)
    obtain rfl : x7 = 1 := by omega
    refine at_zeqR dx_153_8 (by decide) (fun c => absurd c (by decide)) (fun _ => ?_)
    refine at_const (x := 0) dx_153_9 rfl ?_
    refine at_goto dx_153_10 ?_
    refine at_iretI dx_153_22 (by decide) ?_
    first | exact ⟨k1, k2⟩ | exact ⟨MI_sq hM F, fe_fr F (fun q j h => sq_hi h)⟩
  · skip
    refine at_const (x := 0) dx_153_4 rfl ?_
    refine at_goto dx_153_5 ?_
    refine at_callVI dx_153_7 rfl lc_856 rfl (m_fails2 (by decide)) ?_
    rintro x7 M7 r7 ⟨f7, h7⟩; replace h7 := ite01 h7
    replace F : frE sqE M _ := fe_tr F (fe_le f7 (fun q j h => Or.inl ⟨h.1, by rw [h.2]; decide, by rw [h.2]; decide⟩))
    have z7 := f7 860 c (by (try dsimp only); omega)
    obtain rfl : x7 = 0 := by omega
    refine at_zeqR dx_153_8 (by decide) (fun _ => ?_) (fun c => absurd c (by decide))
    refine at_const (x := 100) dx_153_11 rfl ?_
    refine at_aload dx_153_12 rfl ?_
    refine at_getR dx_153_13 lc_856 rfl lt_856_14 ?_
    refine at_iload dx_153_14 rfl ?_
    refine at_aldI dx_153_15 lc_870 ln_870 (by first | omega | (simp (disch := omega) only [um_eq, um_k, um_j]; omega)) (by first | omega | (simp (disch := omega) only [um_eq, um_k, um_j]; omega)) (fun r15 => ?_)
    refine at_mulW dx_153_16 ?_
    refine at_aload dx_153_17 rfl ?_
    refine at_getR dx_153_18 lc_856 rfl lt_856_15 ?_
    refine at_iload dx_153_19 rfl ?_
    refine at_aldI dx_153_20 lc_871 ln_871 (by first | omega | (simp (disch := omega) only [um_eq, um_k, um_j]; omega)) (by first | omega | (simp (disch := omega) only [um_eq, um_k, um_j]; omega)) (fun r20 => ?_)
    refine at_addW dx_153_21 ?_
    refine at_iretI dx_153_22 (inR_wr _) ?_
    first | exact ⟨k1, k2⟩ | exact ⟨MI_sq hM F, fe_fr F (fun q j h => sq_hi h)⟩

set_option maxRecDepth 100000 in
set_option maxHeartbeats 4000000 in
theorem r_of {X : scr} {M : mem} {b : Nat} {c : Int} (rc : inR c) (hb : ly_c b = 8) (nb : ly_n b = 3) (hM : MI M) : At X 0 151 0 [vr 856, vr b, vi c] [] M (qI (fun x M' => MI M' ∧ fr hi M M')) := by
  have F : frE sqE M M := fe_rf
  refine at_aload dx_151_0 rfl ?_
  refine at_iload dx_151_1 rfl ?_
  refine at_callSI dx_151_2 rfl rfl (m_isClient rc) ?_
  rintro x2 M9 r2 ⟨e9, h2⟩; replace e9 := e9.symm; subst e9; replace h2 := ite01 h2
  refine at_zeqR dx_151_3 r2 (fun c3 => ?_) (fun c3 => ?_)
  · skip
    refine at_const (x := 1) dx_151_6 rfl ?_
    refine at_callVI dx_151_7 rfl lc_856 rfl (m_fails2 (by decide)) ?_
    rintro x7 M7 r7 ⟨f7, h7⟩; replace h7 := ite01 h7
    replace F : frE sqE M _ := fe_tr F (fe_le f7 (fun q j h => Or.inl ⟨h.1, by rw [h.2]; decide, by rw [h.2]; decide⟩))
    have z7 := f7 860 c (by (try dsimp only); omega)
    obtain rfl : x7 = 1 := by omega
    refine at_zeqR dx_151_8 (by decide) (fun c => absurd c (by decide)) (fun _ => ?_)
    refine at_const (x := 0) dx_151_9 rfl ?_
    refine at_goto dx_151_10 ?_
    refine at_iretI dx_151_14 (by decide) ?_
    first | exact ⟨k1, k2⟩ | exact ⟨MI_sq hM F, fe_fr F (fun q j h => sq_hi h)⟩
  · skip
    refine at_const (x := 0) dx_151_4 rfl ?_
    refine at_goto dx_151_5 ?_
    refine at_callVI dx_151_7 rfl lc_856 rfl (m_fails2 (by decide)) ?_
    rintro x7 M7 r7 ⟨f7, h7⟩; replace h7 := ite01 h7
    replace F : frE sqE M _ := fe_tr F (fe_le f7 (fun q j h => Or.inl ⟨h.1, by rw [h.2]; decide, by rw [h.2]; decide⟩))
    have z7 := f7 860 c (by (try dsimp only); omega)
    obtain rfl : x7 = 0 := by omega
    refine at_zeqR dx_151_8 (by decide) (fun _ => ?_) (fun c => absurd c (by decide))
    refine at_aload dx_151_11 rfl ?_
    refine at_iload dx_151_12 rfl ?_
    refine at_aldI dx_151_13 hb nb (by first | omega | (simp (disch := omega) only [um_eq, um_k, um_j]; omega)) (by first | omega | (simp (disch := omega) only [um_eq, um_k, um_j]; omega)) (fun r13 => ?_)
    refine at_iretI dx_151_14 r13 ?_
    first | exact ⟨k1, k2⟩ | exact ⟨MI_sq hM F, fe_fr F (fun q j h => sq_hi h)⟩

set_option maxRecDepth 100000 in
set_option maxHeartbeats 4000000 in
theorem r_lost {X : scr} {M : mem} {c : Int} (rc : inR c) (hM : MI M) : At X 0 152 0 [vr 856, vi c] [] M (qI (fun x M' => MI M' ∧ fr hi M M')) := by
  refine at_aload dx_152_0 rfl ?_
  refine at_aload dx_152_1 rfl ?_
  refine at_getR dx_152_2 lc_856 rfl lt_856_16 ?_
  refine at_iload dx_152_3 rfl ?_
  refine at_callVI dx_152_4 rfl lc_856 rfl (r_of rc lc_872 ln_872 hM) ?_
  rintro x4 M4 r4 h4
  refine at_iretI dx_152_5 r4 ?_
  exact h4

set_option maxRecDepth 100000 in
set_option maxHeartbeats 4000000 in
theorem r_commentAt {X : scr} {M : mem} {c : Int} (rc : inR c) (hM : MI M) : At X 0 159 0 [vr 856, vi c] [] M (qI (fun x M' => MI M' ∧ fr hi M M')) := by
  have F : frE sqE M M := fe_rf
  have hS := fun h1 h2 => hM.1 c h1 h2
  have hk := hM.2.2.1
  refine at_iload dx_159_0 rfl ?_
  refine at_const (x := 0) dx_159_1 rfl ?_
  refine at_aload dx_159_2 rfl ?_
  refine at_getI 19 dx_159_3 lc_856 rfl rfl (fun r3 => ?_)
  refine at_const (x := 1) dx_159_4 rfl ?_
  refine at_subR dx_159_5 (by constructor <;> omega) (fun r5 => ?_)
  refine at_callSI dx_159_6 rfl rfl (m_isIn rc (by decide) r5) ?_
  rintro x6 M9 r6 ⟨e9, h6⟩; replace e9 := e9.symm; subst e9; replace h6 := ite01 h6
  refine at_istore dx_159_7 ?_
  refine at_aload dx_159_8 rfl ?_
  refine at_iload dx_159_9 rfl ?_
  refine at_zeqR dx_159_10 r6 (fun c10 => ?_) (fun c10 => ?_)
  · skip
    refine at_const (x := 1) dx_159_13 rfl ?_
    refine at_callVI dx_159_14 rfl lc_856 rfl (m_fails2 (by decide)) ?_
    rintro x14 M14 r14 ⟨f14, h14⟩; replace h14 := ite01 h14
    replace F : frE sqE M _ := fe_tr F (fe_le f14 (fun q j h => Or.inl ⟨h.1, by rw [h.2]; decide, by rw [h.2]; decide⟩))
    have z14 := f14 860 c (by (try dsimp only); omega)
    obtain rfl : x14 = 1 := by omega
    refine at_zeqR dx_159_15 (by decide) (fun c => absurd c (by decide)) (fun _ => ?_)
    refine at_const (x := 0) dx_159_16 rfl ?_
    refine at_goto dx_159_17 ?_
    refine at_iretI dx_159_37 (by decide) ?_
    first | exact ⟨k1, k2⟩ | exact ⟨MI_sq hM F, fe_fr F (fun q j h => sq_hi h)⟩
  · skip
    refine at_const (x := 0) dx_159_11 rfl ?_
    refine at_goto dx_159_12 ?_
    refine at_callVI dx_159_14 rfl lc_856 rfl (m_fails2 (by decide)) ?_
    rintro x14 M14 r14 ⟨f14, h14⟩; replace h14 := ite01 h14
    replace F : frE sqE M _ := fe_tr F (fe_le f14 (fun q j h => Or.inl ⟨h.1, by rw [h.2]; decide, by rw [h.2]; decide⟩))
    have z14 := f14 860 c (by (try dsimp only); omega)
    obtain rfl : x14 = 0 := by omega
    refine at_zeqR dx_159_15 (by decide) (fun _ => ?_) (fun c => absurd c (by decide))
    refine at_aload dx_159_18 rfl ?_
    refine at_getR dx_159_19 lc_856 rfl lt_856_20 ?_
    refine at_iload dx_159_20 rfl ?_
    refine at_aldI dx_159_21 lc_875 ln_875 (by first | omega | (simp (disch := omega) only [um_eq, um_k, um_j]; omega)) (by first | omega | (simp (disch := omega) only [um_eq, um_k, um_j]; omega)) (fun r21 => ?_)
    refine at_const (x := -1) dx_159_22 rfl ?_
    refine at_cneR dx_159_23 r21 (by decide) (fun c23 => ?_) (fun c23 => ?_)
    · skip
      refine at_const (x := 100) dx_159_26 rfl ?_
      refine at_aload dx_159_27 rfl ?_
      refine at_getR dx_159_28 lc_856 rfl lt_856_20 ?_
      refine at_iload dx_159_29 rfl ?_
      refine at_aldI dx_159_30 lc_875 ln_875 (by first | omega | (simp (disch := omega) only [um_eq, um_k, um_j]; omega)) (by first | omega | (simp (disch := omega) only [um_eq, um_k, um_j]; omega)) (fun r30 => ?_)
      refine at_mulW dx_159_31 ?_
      refine at_aload dx_159_32 rfl ?_
      refine at_getR dx_159_33 lc_856 rfl lt_856_21 ?_
      refine at_iload dx_159_34 rfl ?_
      refine at_aldI dx_159_35 lc_876 ln_876 (by first | omega | (simp (disch := omega) only [um_eq, um_k, um_j]; omega)) (by first | omega | (simp (disch := omega) only [um_eq, um_k, um_j]; omega)) (fun r35 => ?_)
      refine at_addW dx_159_36 ?_
      refine at_iretI dx_159_37 (inR_wr _) ?_
      first | exact ⟨k1, k2⟩ | exact ⟨MI_sq hM F, fe_fr F (fun q j h => sq_hi h)⟩
    · skip
      refine at_const (x := -1) dx_159_24 rfl ?_
      refine at_goto dx_159_25 ?_
      refine at_iretI dx_159_37 (by decide) ?_
      first | exact ⟨k1, k2⟩ | exact ⟨MI_sq hM F, fe_fr F (fun q j h => sq_hi h)⟩
