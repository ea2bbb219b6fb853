/-! ===== the reference: rule, comment, copy, mark ===== -/
theorem MI_19 {M : mem} {v : Int} (hM : MI M) (hv : 0 ≤ v ∧ v ≤ 10) : MI (um M 856 19 v) := by
  have F : frE (fun q j => q = 856 ∧ j = 19) M (um M 856 19 v) := fe_um ⟨rfl, rfl⟩
  obtain ⟨a1, a2, a3, a4, a5⟩ := hM
  have e13 : um M 856 19 v 856 13 = M 856 13 := um_j (by decide)
  have lg : ∀ n : Int, lgW (um M 856 19 v) n = lgW M n := fun n => lgW_fe F (fun q j e => by (try dsimp only at e); omega)
  have ed : ∀ d : Int, dc (um M 856 19 v) d = dc M d := fun d => dc_cg (um_k (by decide)) (fun j _ => um_k (by decide))
  refine ⟨fun d h0 h3 => by rw [um_k (by decide)]; exact a1 d h0 h3, by rw [e13]; exact a2, by rw [um_eq]; exact hv, by rw [e13, lg, ed]; exact a4, fun c h0 h2 => ?_⟩
  obtain ⟨b1, b2, b3, b, b4, b5⟩ := a5 c h0 h2
  unfold MC
  rw [show um M 856 19 v 870 c = M 870 c from um_k (by decide), show um M 856 19 v 871 c = M 871 c from um_k (by decide), show um M 856 19 v 874 c = M 874 c from um_k (by decide), e13, lg, ed, pdW_fe F (fun q j e => by (try dsimp only at e); omega)]
  exact ⟨b1, b2, b3, b, b4, b5⟩
theorem dsm_facts {M : mem} {c k : Int} (hM : MI M) (hc : 0 ≤ c ∧ c ≤ 3) (hk : 0 ≤ k ∧ k ≤ M 860 c) : (0 ≤ dsm (dc M c) k.toNat ∧ dsm (dc M c) k.toNat ≤ k) ∧ dsm (dc M c) k.toNat ≤ M 860 c - k := by
  have hs := hM.1 c hc.1 hc.2
  have hl : (dc M c).length = (M 860 c).toNat := dc_len
  have h1 := (MI_bal hM hc).1 k.toNat (by omega)
  have h2 := dsm_le (dc M c) k.toNat
  have h3 := dsm_back (MI_bal hM hc) ((M 860 c).toNat - k.toNat) k.toNat (by omega)
  omega
theorem dsm_next {M : mem} {c k : Int} (hk : 0 ≤ k ∧ k < M 860 c) : dsm (dc M c) (k + 1).toNat = dsm (dc M c) k.toNat + dch (M 859 (60 * c + k)) := by
  have h9 := dc_at (M := M) (d := c) (j := k.toNat) (by omega)
  rw [Int.toNat_of_nonneg hk.1] at h9
  rw [show (k + 1).toNat = k.toNat + 1 by omega, dsm_step, h9]
theorem m_sets2 {X : scr} {M : mem} {t e a b : Int} (rt : inR t) (re : inR e) (ra : inR a) (rb : inR b) (ht : 0 ≤ t ∧ t ≤ 5) (he : 0 ≤ e ∧ e ≤ 2) : At X 0 97 0 [vr 856, vi t, vi e, vi a, vi b] [] M (qV (fun M' => frE (fun q j => q = 857 ∨ q = 858) M M')) := At.mono (m_sets rt re ra rb ht he) (fun t v M1 h => by
  obtain ⟨h0, h1, e⟩ := h
  subst e
  exact ⟨h0, h1, fe_ums (fe_um (Or.inl rfl)) (Or.inr rfl)⟩)

set_option maxRecDepth 100000 in
set_option maxHeartbeats 4000000 in
theorem r_rule {X : scr} {M : mem} {t e a b : Int} (rt : inR t) (re : inR e) (ra : inR a) (rb : inR b) (hM : MI M) : At X 0 103 0 [vr 856, vi t, vi e, vi a, vi b] [] M (qV (fun M' => MI M' ∧ fr hi M M')) := by
  have F : frE sqE M M := fe_rf
  have k0 := hM.2.2.2.2 0 (by decide) (by decide)
  have k1 := hM.2.2.2.2 1 (by decide) (by decide)
  have k2 := hM.2.2.2.2 2 (by decide) (by decide)
  unfold MC at k0 k1 k2
  refine at_iload dx_103_0 rfl ?_
  refine at_const (x := 0) dx_103_1 rfl ?_
  refine at_const (x := 5) dx_103_2 rfl ?_
  refine at_callSI dx_103_3 rfl rfl (m_isIn rt (by decide) (by decide)) ?_
  rintro x3 M9 r3 ⟨e9, h3⟩; replace e9 := e9.symm; subst e9; replace h3 := ite01 h3
  refine at_istore dx_103_4 ?_
  refine at_iload dx_103_5 rfl ?_
  refine at_const (x := 0) dx_103_6 rfl ?_
  refine at_const (x := 2) dx_103_7 rfl ?_
  refine at_callSI dx_103_8 rfl rfl (m_isIn re (by decide) (by decide)) ?_
  rintro x8 M9 r8 ⟨e9, h8⟩; replace e9 := e9.symm; subst e9; replace h8 := ite01 h8
  refine at_zeqR dx_103_9 r8 (fun c9 => ?_) (fun c9 => ?_)
  · skip
    refine at_const (x := 0) dx_103_26 rfl ?_
    refine at_istore dx_103_27 ?_
    refine at_iload dx_103_28 rfl ?_
    refine at_zeqR dx_103_29 r3 (fun c29 => ?_) (fun c29 => ?_)
    · skip
      refine at_const (x := 0) dx_103_38 rfl ?_
      refine at_istore dx_103_39 ?_
      refine at_aload dx_103_40 rfl ?_
      refine at_getR dx_103_41 lc_856 rfl lt_856_0 ?_
      refine at_iload dx_103_42 rfl ?_
      refine at_aldI dx_103_43 lc_857 ln_857 (by omega) (by omega) (fun r43 => ?_)
      refine at_istore dx_103_44 ?_
      refine at_aload dx_103_45 rfl ?_
      refine at_getR dx_103_46 lc_856 rfl lt_856_1 ?_
      refine at_iload dx_103_47 rfl ?_
      refine at_aldI dx_103_48 lc_858 ln_858 (by omega) (by omega) (fun r48 => ?_)
      refine at_istore dx_103_49 ?_
      refine at_aload dx_103_50 rfl ?_
      refine at_getI 13 dx_103_51 lc_856 rfl rfl (fun r51 => ?_)
      refine at_zneR dx_103_52 r51 (fun c52 => ?_) (fun c52 => ?_)
      · skip
        refine at_const (x := 0) dx_103_70 rfl ?_
        refine at_istore dx_103_71 ?_
        refine at_iload dx_103_72 rfl ?_
        refine at_zeqR dx_103_73 r3 (fun c73 => ?_) (fun c73 => ?_)
        · skip
          refine at_aload dx_103_97 rfl ?_
          refine at_iload dx_103_98 rfl ?_
          refine at_zneR dx_103_99 r3 (fun c99 => ?_) (fun c99 => ?_)
          · skip
            refine at_iload dx_103_102 rfl ?_
            refine at_zneR dx_103_103 (by decide) (fun c => absurd c (by decide)) (fun _ => ?_)
            refine at_const (x := 2) dx_103_104 rfl ?_
            refine at_goto dx_103_105 ?_
            refine at_callVI dx_103_111 rfl lc_856 rfl (m_fails2 (by decide)) ?_
            rintro x111 M111 r111 ⟨f111, h111⟩; replace h111 := ite01 h111
            replace F : frE sqE M _ := fe_tr F (fe_le f111 (fun q j h => Or.inl ⟨h.1, by rw [h.2]; decide, by rw [h.2]; decide⟩))
            refine at_pop dx_103_112 rfl ?_
            refine at_vretV dx_103_113 ?_
            exact ⟨MI_sq hM F, fe_fr F (fun q j h => sq_hi h)⟩
          · skip
            refine at_const (x := 1) dx_103_100 rfl ?_
            refine at_goto dx_103_101 ?_
            refine at_callVI dx_103_111 rfl lc_856 rfl (m_fails2 (by decide)) ?_
            rintro x111 M111 r111 ⟨f111, h111⟩; replace h111 := ite01 h111
            replace F : frE sqE M _ := fe_tr F (fe_le f111 (fun q j h => Or.inl ⟨h.1, by rw [h.2]; decide, by rw [h.2]; decide⟩))
            refine at_pop dx_103_112 rfl ?_
            refine at_vretV dx_103_113 ?_
            exact ⟨MI_sq hM F, fe_fr F (fun q j h => sq_hi h)⟩
        · skip
          refine at_iload dx_103_74 rfl ?_
          refine at_zeqR dx_103_75 (by decide) (fun _ => ?_) (fun c => absurd c (by decide))
          refine at_aload dx_103_97 rfl ?_
          refine at_iload dx_103_98 rfl ?_
          refine at_zneR dx_103_99 r3 (fun c99 => ?_) (fun c99 => ?_)
          · skip
            refine at_iload dx_103_102 rfl ?_
            refine at_zneR dx_103_103 (by decide) (fun c => absurd c (by decide)) (fun _ => ?_)
            refine at_const (x := 2) dx_103_104 rfl ?_
            refine at_goto dx_103_105 ?_
            refine at_callVI dx_103_111 rfl lc_856 rfl (m_fails2 (by decide)) ?_
            rintro x111 M111 r111 ⟨f111, h111⟩; replace h111 := ite01 h111
            replace F : frE sqE M _ := fe_tr F (fe_le f111 (fun q j h => Or.inl ⟨h.1, by rw [h.2]; decide, by rw [h.2]; decide⟩))
            refine at_pop dx_103_112 rfl ?_
            refine at_vretV dx_103_113 ?_
            exact ⟨MI_sq hM F, fe_fr F (fun q j h => sq_hi h)⟩
          · skip
            refine at_const (x := 1) dx_103_100 rfl ?_
            refine at_goto dx_103_101 ?_
            refine at_callVI dx_103_111 rfl lc_856 rfl (m_fails2 (by decide)) ?_
            rintro x111 M111 r111 ⟨f111, h111⟩; replace h111 := ite01 h111
            replace F : frE sqE M _ := fe_tr F (fe_le f111 (fun q j h => Or.inl ⟨h.1, by rw [h.2]; decide, by rw [h.2]; decide⟩))
            refine at_pop dx_103_112 rfl ?_
            refine at_vretV dx_103_113 ?_
            exact ⟨MI_sq hM F, fe_fr F (fun q j h => sq_hi h)⟩
      · skip
        refine at_aload dx_103_53 rfl ?_
        refine at_getR dx_103_54 lc_856 rfl lt_856_15 ?_
        refine at_const (x := 0) dx_103_55 rfl ?_
        refine at_aldI dx_103_56 lc_871 ln_871 (by decide) (by decide) (fun r56 => ?_)
        refine at_aload dx_103_57 rfl ?_
        refine at_getR dx_103_58 lc_856 rfl lt_856_15 ?_
        refine at_const (x := 1) dx_103_59 rfl ?_
        refine at_aldI dx_103_60 lc_871 ln_871 (by decide) (by decide) (fun r60 => ?_)
        refine at_addR dx_103_61 (by constructor <;> omega) (fun r61 => ?_)
        refine at_aload dx_103_62 rfl ?_
        refine at_getR dx_103_63 lc_856 rfl lt_856_15 ?_
        refine at_const (x := 2) dx_103_64 rfl ?_
        refine at_aldI dx_103_65 lc_871 ln_871 (by decide) (by decide) (fun r65 => ?_)
        refine at_addR dx_103_66 (by constructor <;> omega) (fun r66 => ?_)
        refine at_zneR dx_103_67 r66 (fun c67 => ?_) (fun c67 => ?_)
        · skip
          refine at_const (x := 0) dx_103_70 rfl ?_
          refine at_istore dx_103_71 ?_
          refine at_iload dx_103_72 rfl ?_
          refine at_zeqR dx_103_73 r3 (fun c73 => ?_) (fun c73 => ?_)
          · skip
            refine at_aload dx_103_97 rfl ?_
            refine at_iload dx_103_98 rfl ?_
            refine at_zneR dx_103_99 r3 (fun c99 => ?_) (fun c99 => ?_)
            · skip
              refine at_iload dx_103_102 rfl ?_
              refine at_zneR dx_103_103 (by decide) (fun c => absurd c (by decide)) (fun _ => ?_)
              refine at_const (x := 2) dx_103_104 rfl ?_
              refine at_goto dx_103_105 ?_
              refine at_callVI dx_103_111 rfl lc_856 rfl (m_fails2 (by decide)) ?_
              rintro x111 M111 r111 ⟨f111, h111⟩; replace h111 := ite01 h111
              replace F : frE sqE M _ := fe_tr F (fe_le f111 (fun q j h => Or.inl ⟨h.1, by rw [h.2]; decide, by rw [h.2]; decide⟩))
              refine at_pop dx_103_112 rfl ?_
              refine at_vretV dx_103_113 ?_
              exact ⟨MI_sq hM F, fe_fr F (fun q j h => sq_hi h)⟩
            · skip
              refine at_const (x := 1) dx_103_100 rfl ?_
              refine at_goto dx_103_101 ?_
              refine at_callVI dx_103_111 rfl lc_856 rfl (m_fails2 (by decide)) ?_
              rintro x111 M111 r111 ⟨f111, h111⟩; replace h111 := ite01 h111
              replace F : frE sqE M _ := fe_tr F (fe_le f111 (fun q j h => Or.inl ⟨h.1, by rw [h.2]; decide, by rw [h.2]; decide⟩))
              refine at_pop dx_103_112 rfl ?_
              refine at_vretV dx_103_113 ?_
              exact ⟨MI_sq hM F, fe_fr F (fun q j h => sq_hi h)⟩
          · skip
            refine at_iload dx_103_74 rfl ?_
            refine at_zeqR dx_103_75 (by decide) (fun _ => ?_) (fun c => absurd c (by decide))
            refine at_aload dx_103_97 rfl ?_
            refine at_iload dx_103_98 rfl ?_
            refine at_zneR dx_103_99 r3 (fun c99 => ?_) (fun c99 => ?_)
            · skip
              refine at_iload dx_103_102 rfl ?_
              refine at_zneR dx_103_103 (by decide) (fun c => absurd c (by decide)) (fun _ => ?_)
              refine at_const (x := 2) dx_103_104 rfl ?_
              refine at_goto dx_103_105 ?_
              refine at_callVI dx_103_111 rfl lc_856 rfl (m_fails2 (by decide)) ?_
              rintro x111 M111 r111 ⟨f111, h111⟩; replace h111 := ite01 h111
              replace F : frE sqE M _ := fe_tr F (fe_le f111 (fun q j h => Or.inl ⟨h.1, by rw [h.2]; decide, by rw [h.2]; decide⟩))
              refine at_pop dx_103_112 rfl ?_
              refine at_vretV dx_103_113 ?_
              exact ⟨MI_sq hM F, fe_fr F (fun q j h => sq_hi h)⟩
            · skip
              refine at_const (x := 1) dx_103_100 rfl ?_
              refine at_goto dx_103_101 ?_
              refine at_callVI dx_103_111 rfl lc_856 rfl (m_fails2 (by decide)) ?_
              rintro x111 M111 r111 ⟨f111, h111⟩; replace h111 := ite01 h111
              replace F : frE sqE M _ := fe_tr F (fe_le f111 (fun q j h => Or.inl ⟨h.1, by rw [h.2]; decide, by rw [h.2]; decide⟩))
              refine at_pop dx_103_112 rfl ?_
              refine at_vretV dx_103_113 ?_
              exact ⟨MI_sq hM F, fe_fr F (fun q j h => sq_hi h)⟩
        · skip
          refine at_const (x := 1) dx_103_68 rfl ?_
          refine at_goto dx_103_69 ?_
          refine at_istore dx_103_71 ?_
          refine at_iload dx_103_72 rfl ?_
          refine at_zeqR dx_103_73 r3 (fun c73 => ?_) (fun c73 => ?_)
          · skip
            refine at_aload dx_103_97 rfl ?_
            refine at_iload dx_103_98 rfl ?_
            refine at_zneR dx_103_99 r3 (fun c99 => ?_) (fun c99 => ?_)
            · skip
              refine at_iload dx_103_102 rfl ?_
              refine at_zneR dx_103_103 (by decide) (fun c => absurd c (by decide)) (fun _ => ?_)
              refine at_const (x := 2) dx_103_104 rfl ?_
              refine at_goto dx_103_105 ?_
              refine at_callVI dx_103_111 rfl lc_856 rfl (m_fails2 (by decide)) ?_
              rintro x111 M111 r111 ⟨f111, h111⟩; replace h111 := ite01 h111
              replace F : frE sqE M _ := fe_tr F (fe_le f111 (fun q j h => Or.inl ⟨h.1, by rw [h.2]; decide, by rw [h.2]; decide⟩))
              refine at_pop dx_103_112 rfl ?_
              refine at_vretV dx_103_113 ?_
              exact ⟨MI_sq hM F, fe_fr F (fun q j h => sq_hi h)⟩
            · skip
              refine at_const (x := 1) dx_103_100 rfl ?_
              refine at_goto dx_103_101 ?_
              refine at_callVI dx_103_111 rfl lc_856 rfl (m_fails2 (by decide)) ?_
              rintro x111 M111 r111 ⟨f111, h111⟩; replace h111 := ite01 h111
              replace F : frE sqE M _ := fe_tr F (fe_le f111 (fun q j h => Or.inl ⟨h.1, by rw [h.2]; decide, by rw [h.2]; decide⟩))
              refine at_pop dx_103_112 rfl ?_
              refine at_vretV dx_103_113 ?_
              exact ⟨MI_sq hM F, fe_fr F (fun q j h => sq_hi h)⟩
          · skip
            refine at_iload dx_103_74 rfl ?_
            refine at_zeqR dx_103_75 (by decide) (fun _ => ?_) (fun c => absurd c (by decide))
            refine at_aload dx_103_97 rfl ?_
            refine at_iload dx_103_98 rfl ?_
            refine at_zneR dx_103_99 r3 (fun c99 => ?_) (fun c99 => ?_)
            · skip
              refine at_iload dx_103_102 rfl ?_
              refine at_zneR dx_103_103 (by decide) (fun c => absurd c (by decide)) (fun _ => ?_)
              refine at_const (x := 2) dx_103_104 rfl ?_
              refine at_goto dx_103_105 ?_
              refine at_callVI dx_103_111 rfl lc_856 rfl (m_fails2 (by decide)) ?_
              rintro x111 M111 r111 ⟨f111, h111⟩; replace h111 := ite01 h111
              replace F : frE sqE M _ := fe_tr F (fe_le f111 (fun q j h => Or.inl ⟨h.1, by rw [h.2]; decide, by rw [h.2]; decide⟩))
              refine at_pop dx_103_112 rfl ?_
              refine at_vretV dx_103_113 ?_
              exact ⟨MI_sq hM F, fe_fr F (fun q j h => sq_hi h)⟩
            · skip
              refine at_const (x := 1) dx_103_100 rfl ?_
              refine at_goto dx_103_101 ?_
              refine at_callVI dx_103_111 rfl lc_856 rfl (m_fails2 (by decide)) ?_
              rintro x111 M111 r111 ⟨f111, h111⟩; replace h111 := ite01 h111
              replace F : frE sqE M _ := fe_tr F (fe_le f111 (fun q j h => Or.inl ⟨h.1, by rw [h.2]; decide, by rw [h.2]; decide⟩))
              refine at_pop dx_103_112 rfl ?_
              refine at_vretV dx_103_113 ?_
              exact ⟨MI_sq hM F, fe_fr F (fun q j h => sq_hi h)⟩
    · skip
      refine at_iload dx_103_30 rfl ?_
      refine at_zeqR dx_103_31 (by decide) (fun _ => ?_) (fun c => absurd c (by decide))
      refine at_const (x := 0) dx_103_38 rfl ?_
      refine at_istore dx_103_39 ?_
      refine at_aload dx_103_40 rfl ?_
      refine at_getR dx_103_41 lc_856 rfl lt_856_0 ?_
      refine at_iload dx_103_42 rfl ?_
      refine at_aldI dx_103_43 lc_857 ln_857 (by omega) (by omega) (fun r43 => ?_)
      refine at_istore dx_103_44 ?_
      refine at_aload dx_103_45 rfl ?_
      refine at_getR dx_103_46 lc_856 rfl lt_856_1 ?_
      refine at_iload dx_103_47 rfl ?_
      refine at_aldI dx_103_48 lc_858 ln_858 (by omega) (by omega) (fun r48 => ?_)
      refine at_istore dx_103_49 ?_
      refine at_aload dx_103_50 rfl ?_
      refine at_getI 13 dx_103_51 lc_856 rfl rfl (fun r51 => ?_)
      refine at_zneR dx_103_52 r51 (fun c52 => ?_) (fun c52 => ?_)
      · skip
        refine at_const (x := 0) dx_103_70 rfl ?_
        refine at_istore dx_103_71 ?_
        refine at_iload dx_103_72 rfl ?_
        refine at_zeqR dx_103_73 r3 (fun c73 => ?_) (fun c73 => ?_)
        · skip
          refine at_aload dx_103_97 rfl ?_
          refine at_iload dx_103_98 rfl ?_
          refine at_zneR dx_103_99 r3 (fun c99 => ?_) (fun c99 => ?_)
          · skip
            refine at_iload dx_103_102 rfl ?_
            refine at_zneR dx_103_103 (by decide) (fun c => absurd c (by decide)) (fun _ => ?_)
            refine at_const (x := 2) dx_103_104 rfl ?_
            refine at_goto dx_103_105 ?_
            refine at_callVI dx_103_111 rfl lc_856 rfl (m_fails2 (by decide)) ?_
            rintro x111 M111 r111 ⟨f111, h111⟩; replace h111 := ite01 h111
            replace F : frE sqE M _ := fe_tr F (fe_le f111 (fun q j h => Or.inl ⟨h.1, by rw [h.2]; decide, by rw [h.2]; decide⟩))
            refine at_pop dx_103_112 rfl ?_
            refine at_vretV dx_103_113 ?_
            exact ⟨MI_sq hM F, fe_fr F (fun q j h => sq_hi h)⟩
          · skip
            refine at_const (x := 1) dx_103_100 rfl ?_
            refine at_goto dx_103_101 ?_
            refine at_callVI dx_103_111 rfl lc_856 rfl (m_fails2 (by decide)) ?_
            rintro x111 M111 r111 ⟨f111, h111⟩; replace h111 := ite01 h111
            replace F : frE sqE M _ := fe_tr F (fe_le f111 (fun q j h => Or.inl ⟨h.1, by rw [h.2]; decide, by rw [h.2]; decide⟩))
            refine at_pop dx_103_112 rfl ?_
            refine at_vretV dx_103_113 ?_
            exact ⟨MI_sq hM F, fe_fr F (fun q j h => sq_hi h)⟩
        · skip
          refine at_iload dx_103_74 rfl ?_
          refine at_zeqR dx_103_75 (by decide) (fun _ => ?_) (fun c => absurd c (by decide))
          refine at_aload dx_103_97 rfl ?_
          refine at_iload dx_103_98 rfl ?_
          refine at_zneR dx_103_99 r3 (fun c99 => ?_) (fun c99 => ?_)
          · skip
            refine at_iload dx_103_102 rfl ?_
            refine at_zneR dx_103_103 (by decide) (fun c => absurd c (by decide)) (fun _ => ?_)
            refine at_const (x := 2) dx_103_104 rfl ?_
            refine at_goto dx_103_105 ?_
            refine at_callVI dx_103_111 rfl lc_856 rfl (m_fails2 (by decide)) ?_
            rintro x111 M111 r111 ⟨f111, h111⟩; replace h111 := ite01 h111
            replace F : frE sqE M _ := fe_tr F (fe_le f111 (fun q j h => Or.inl ⟨h.1, by rw [h.2]; decide, by rw [h.2]; decide⟩))
            refine at_pop dx_103_112 rfl ?_
            refine at_vretV dx_103_113 ?_
            exact ⟨MI_sq hM F, fe_fr F (fun q j h => sq_hi h)⟩
          · skip
            refine at_const (x := 1) dx_103_100 rfl ?_
            refine at_goto dx_103_101 ?_
            refine at_callVI dx_103_111 rfl lc_856 rfl (m_fails2 (by decide)) ?_
            rintro x111 M111 r111 ⟨f111, h111⟩; replace h111 := ite01 h111
            replace F : frE sqE M _ := fe_tr F (fe_le f111 (fun q j h => Or.inl ⟨h.1, by rw [h.2]; decide, by rw [h.2]; decide⟩))
            refine at_pop dx_103_112 rfl ?_
            refine at_vretV dx_103_113 ?_
            exact ⟨MI_sq hM F, fe_fr F (fun q j h => sq_hi h)⟩
      · skip
        refine at_aload dx_103_53 rfl ?_
        refine at_getR dx_103_54 lc_856 rfl lt_856_15 ?_
        refine at_const (x := 0) dx_103_55 rfl ?_
        refine at_aldI dx_103_56 lc_871 ln_871 (by decide) (by decide) (fun r56 => ?_)
        refine at_aload dx_103_57 rfl ?_
        refine at_getR dx_103_58 lc_856 rfl lt_856_15 ?_
        refine at_const (x := 1) dx_103_59 rfl ?_
        refine at_aldI dx_103_60 lc_871 ln_871 (by decide) (by decide) (fun r60 => ?_)
        refine at_addR dx_103_61 (by constructor <;> omega) (fun r61 => ?_)
        refine at_aload dx_103_62 rfl ?_
        refine at_getR dx_103_63 lc_856 rfl lt_856_15 ?_
        refine at_const (x := 2) dx_103_64 rfl ?_
        refine at_aldI dx_103_65 lc_871 ln_871 (by decide) (by decide) (fun r65 => ?_)
        refine at_addR dx_103_66 (by constructor <;> omega) (fun r66 => ?_)
        refine at_zneR dx_103_67 r66 (fun c67 => ?_) (fun c67 => ?_)
        · skip
          refine at_const (x := 0) dx_103_70 rfl ?_
          refine at_istore dx_103_71 ?_
          refine at_iload dx_103_72 rfl ?_
          refine at_zeqR dx_103_73 r3 (fun c73 => ?_) (fun c73 => ?_)
          · skip
            refine at_aload dx_103_97 rfl ?_
            refine at_iload dx_103_98 rfl ?_
            refine at_zneR dx_103_99 r3 (fun c99 => ?_) (fun c99 => ?_)
            · skip
              refine at_iload dx_103_102 rfl ?_
              refine at_zneR dx_103_103 (by decide) (fun c => absurd c (by decide)) (fun _ => ?_)
              refine at_const (x := 2) dx_103_104 rfl ?_
              refine at_goto dx_103_105 ?_
              refine at_callVI dx_103_111 rfl lc_856 rfl (m_fails2 (by decide)) ?_
              rintro x111 M111 r111 ⟨f111, h111⟩; replace h111 := ite01 h111
              replace F : frE sqE M _ := fe_tr F (fe_le f111 (fun q j h => Or.inl ⟨h.1, by rw [h.2]; decide, by rw [h.2]; decide⟩))
              refine at_pop dx_103_112 rfl ?_
              refine at_vretV dx_103_113 ?_
              exact ⟨MI_sq hM F, fe_fr F (fun q j h => sq_hi h)⟩
            · skip
              refine at_const (x := 1) dx_103_100 rfl ?_
              refine at_goto dx_103_101 ?_
              refine at_callVI dx_103_111 rfl lc_856 rfl (m_fails2 (by decide)) ?_
              rintro x111 M111 r111 ⟨f111, h111⟩; replace h111 := ite01 h111
              replace F : frE sqE M _ := fe_tr F (fe_le f111 (fun q j h => Or.inl ⟨h.1, by rw [h.2]; decide, by rw [h.2]; decide⟩))
              refine at_pop dx_103_112 rfl ?_
              refine at_vretV dx_103_113 ?_
              exact ⟨MI_sq hM F, fe_fr F (fun q j h => sq_hi h)⟩
          · skip
            refine at_iload dx_103_74 rfl ?_
            refine at_zeqR dx_103_75 (by decide) (fun _ => ?_) (fun c => absurd c (by decide))
            refine at_aload dx_103_97 rfl ?_
            refine at_iload dx_103_98 rfl ?_
            refine at_zneR dx_103_99 r3 (fun c99 => ?_) (fun c99 => ?_)
            · skip
              refine at_iload dx_103_102 rfl ?_
              refine at_zneR dx_103_103 (by decide) (fun c => absurd c (by decide)) (fun _ => ?_)
              refine at_const (x := 2) dx_103_104 rfl ?_
              refine at_goto dx_103_105 ?_
              refine at_callVI dx_103_111 rfl lc_856 rfl (m_fails2 (by decide)) ?_
              rintro x111 M111 r111 ⟨f111, h111⟩; replace h111 := ite01 h111
              replace F : frE sqE M _ := fe_tr F (fe_le f111 (fun q j h => Or.inl ⟨h.1, by rw [h.2]; decide, by rw [h.2]; decide⟩))
              refine at_pop dx_103_112 rfl ?_
              refine at_vretV dx_103_113 ?_
              exact ⟨MI_sq hM F, fe_fr F (fun q j h => sq_hi h)⟩
            · skip
              refine at_const (x := 1) dx_103_100 rfl ?_
              refine at_goto dx_103_101 ?_
              refine at_callVI dx_103_111 rfl lc_856 rfl (m_fails2 (by decide)) ?_
              rintro x111 M111 r111 ⟨f111, h111⟩; replace h111 := ite01 h111
              replace F : frE sqE M _ := fe_tr F (fe_le f111 (fun q j h => Or.inl ⟨h.1, by rw [h.2]; decide, by rw [h.2]; decide⟩))
              refine at_pop dx_103_112 rfl ?_
              refine at_vretV dx_103_113 ?_
              exact ⟨MI_sq hM F, fe_fr F (fun q j h => sq_hi h)⟩
        · skip
          refine at_const (x := 1) dx_103_68 rfl ?_
          refine at_goto dx_103_69 ?_
          refine at_istore dx_103_71 ?_
          refine at_iload dx_103_72 rfl ?_
          refine at_zeqR dx_103_73 r3 (fun c73 => ?_) (fun c73 => ?_)
          · skip
            refine at_aload dx_103_97 rfl ?_
            refine at_iload dx_103_98 rfl ?_
            refine at_zneR dx_103_99 r3 (fun c99 => ?_) (fun c99 => ?_)
            · skip
              refine at_iload dx_103_102 rfl ?_
              refine at_zneR dx_103_103 (by decide) (fun c => absurd c (by decide)) (fun _ => ?_)
              refine at_const (x := 2) dx_103_104 rfl ?_
              refine at_goto dx_103_105 ?_
              refine at_callVI dx_103_111 rfl lc_856 rfl (m_fails2 (by decide)) ?_
              rintro x111 M111 r111 ⟨f111, h111⟩; replace h111 := ite01 h111
              replace F : frE sqE M _ := fe_tr F (fe_le f111 (fun q j h => Or.inl ⟨h.1, by rw [h.2]; decide, by rw [h.2]; decide⟩))
              refine at_pop dx_103_112 rfl ?_
              refine at_vretV dx_103_113 ?_
              exact ⟨MI_sq hM F, fe_fr F (fun q j h => sq_hi h)⟩
            · skip
              refine at_const (x := 1) dx_103_100 rfl ?_
              refine at_goto dx_103_101 ?_
              refine at_callVI dx_103_111 rfl lc_856 rfl (m_fails2 (by decide)) ?_
              rintro x111 M111 r111 ⟨f111, h111⟩; replace h111 := ite01 h111
              replace F : frE sqE M _ := fe_tr F (fe_le f111 (fun q j h => Or.inl ⟨h.1, by rw [h.2]; decide, by rw [h.2]; decide⟩))
              refine at_pop dx_103_112 rfl ?_
              refine at_vretV dx_103_113 ?_
              exact ⟨MI_sq hM F, fe_fr F (fun q j h => sq_hi h)⟩
          · skip
            refine at_iload dx_103_74 rfl ?_
            refine at_zeqR dx_103_75 (by decide) (fun _ => ?_) (fun c => absurd c (by decide))
            refine at_aload dx_103_97 rfl ?_
            refine at_iload dx_103_98 rfl ?_
            refine at_zneR dx_103_99 r3 (fun c99 => ?_) (fun c99 => ?_)
            · skip
              refine at_iload dx_103_102 rfl ?_
              refine at_zneR dx_103_103 (by decide) (fun c => absurd c (by decide)) (fun _ => ?_)
              refine at_const (x := 2) dx_103_104 rfl ?_
              refine at_goto dx_103_105 ?_
              refine at_callVI dx_103_111 rfl lc_856 rfl (m_fails2 (by decide)) ?_
              rintro x111 M111 r111 ⟨f111, h111⟩; replace h111 := ite01 h111
              replace F : frE sqE M _ := fe_tr F (fe_le f111 (fun q j h => Or.inl ⟨h.1, by rw [h.2]; decide, by rw [h.2]; decide⟩))
              refine at_pop dx_103_112 rfl ?_
              refine at_vretV dx_103_113 ?_
              exact ⟨MI_sq hM F, fe_fr F (fun q j h => sq_hi h)⟩
            · skip
              refine at_const (x := 1) dx_103_100 rfl ?_
              refine at_goto dx_103_101 ?_
              refine at_callVI dx_103_111 rfl lc_856 rfl (m_fails2 (by decide)) ?_
              rintro x111 M111 r111 ⟨f111, h111⟩; replace h111 := ite01 h111
              replace F : frE sqE M _ := fe_tr F (fe_le f111 (fun q j h => Or.inl ⟨h.1, by rw [h.2]; decide, by rw [h.2]; decide⟩))
              refine at_pop dx_103_112 rfl ?_
              refine at_vretV dx_103_113 ?_
              exact ⟨MI_sq hM F, fe_fr F (fun q j h => sq_hi h)⟩
  · skip
    refine at_iload dx_103_10 rfl ?_
    refine at_const (x := 0) dx_103_11 rfl ?_
    refine at_const (x := 126) dx_103_12 rfl ?_
    refine at_callSI dx_103_13 rfl rfl (m_isIn ra (by decide) (by decide)) ?_
    rintro x13 M9 r13 ⟨e9, h13⟩; replace e9 := e9.symm; subst e9; replace h13 := ite01 h13
    refine at_zeqR dx_103_14 r13 (fun c14 => ?_) (fun c14 => ?_)
    · skip
      refine at_const (x := 0) dx_103_26 rfl ?_
      refine at_istore dx_103_27 ?_
      refine at_iload dx_103_28 rfl ?_
      refine at_zeqR dx_103_29 r3 (fun c29 => ?_) (fun c29 => ?_)
      · skip
        refine at_const (x := 0) dx_103_38 rfl ?_
        refine at_istore dx_103_39 ?_
        refine at_aload dx_103_40 rfl ?_
        refine at_getR dx_103_41 lc_856 rfl lt_856_0 ?_
        refine at_iload dx_103_42 rfl ?_
        refine at_aldI dx_103_43 lc_857 ln_857 (by omega) (by omega) (fun r43 => ?_)
        refine at_istore dx_103_44 ?_
        refine at_aload dx_103_45 rfl ?_
        refine at_getR dx_103_46 lc_856 rfl lt_856_1 ?_
        refine at_iload dx_103_47 rfl ?_
        refine at_aldI dx_103_48 lc_858 ln_858 (by omega) (by omega) (fun r48 => ?_)
        refine at_istore dx_103_49 ?_
        refine at_aload dx_103_50 rfl ?_
        refine at_getI 13 dx_103_51 lc_856 rfl rfl (fun r51 => ?_)
        refine at_zneR dx_103_52 r51 (fun c52 => ?_) (fun c52 => ?_)
        · skip
          refine at_const (x := 0) dx_103_70 rfl ?_
          refine at_istore dx_103_71 ?_
          refine at_iload dx_103_72 rfl ?_
          refine at_zeqR dx_103_73 r3 (fun c73 => ?_) (fun c73 => ?_)
          · skip
            refine at_aload dx_103_97 rfl ?_
            refine at_iload dx_103_98 rfl ?_
            refine at_zneR dx_103_99 r3 (fun c99 => ?_) (fun c99 => ?_)
            · skip
              refine at_iload dx_103_102 rfl ?_
              refine at_zneR dx_103_103 (by decide) (fun c => absurd c (by decide)) (fun _ => ?_)
              refine at_const (x := 2) dx_103_104 rfl ?_
              refine at_goto dx_103_105 ?_
              refine at_callVI dx_103_111 rfl lc_856 rfl (m_fails2 (by decide)) ?_
              rintro x111 M111 r111 ⟨f111, h111⟩; replace h111 := ite01 h111
              replace F : frE sqE M _ := fe_tr F (fe_le f111 (fun q j h => Or.inl ⟨h.1, by rw [h.2]; decide, by rw [h.2]; decide⟩))
              refine at_pop dx_103_112 rfl ?_
              refine at_vretV dx_103_113 ?_
              exact ⟨MI_sq hM F, fe_fr F (fun q j h => sq_hi h)⟩
            · skip
              refine at_const (x := 1) dx_103_100 rfl ?_
              refine at_goto dx_103_101 ?_
              refine at_callVI dx_103_111 rfl lc_856 rfl (m_fails2 (by decide)) ?_
              rintro x111 M111 r111 ⟨f111, h111⟩; replace h111 := ite01 h111
              replace F : frE sqE M _ := fe_tr F (fe_le f111 (fun q j h => Or.inl ⟨h.1, by rw [h.2]; decide, by rw [h.2]; decide⟩))
              refine at_pop dx_103_112 rfl ?_
              refine at_vretV dx_103_113 ?_
              exact ⟨MI_sq hM F, fe_fr F (fun q j h => sq_hi h)⟩
          · skip
            refine at_iload dx_103_74 rfl ?_
            refine at_zeqR dx_103_75 (by decide) (fun _ => ?_) (fun c => absurd c (by decide))
            refine at_aload dx_103_97 rfl ?_
            refine at_iload dx_103_98 rfl ?_
            refine at_zneR dx_103_99 r3 (fun c99 => ?_) (fun c99 => ?_)
            · skip
              refine at_iload dx_103_102 rfl ?_
              refine at_zneR dx_103_103 (by decide) (fun c => absurd c (by decide)) (fun _ => ?_)
              refine at_const (x := 2) dx_103_104 rfl ?_
              refine at_goto dx_103_105 ?_
              refine at_callVI dx_103_111 rfl lc_856 rfl (m_fails2 (by decide)) ?_
              rintro x111 M111 r111 ⟨f111, h111⟩; replace h111 := ite01 h111
              replace F : frE sqE M _ := fe_tr F (fe_le f111 (fun q j h => Or.inl ⟨h.1, by rw [h.2]; decide, by rw [h.2]; decide⟩))
              refine at_pop dx_103_112 rfl ?_
              refine at_vretV dx_103_113 ?_
              exact ⟨MI_sq hM F, fe_fr F (fun q j h => sq_hi h)⟩
            · skip
              refine at_const (x := 1) dx_103_100 rfl ?_
              refine at_goto dx_103_101 ?_
              refine at_callVI dx_103_111 rfl lc_856 rfl (m_fails2 (by decide)) ?_
              rintro x111 M111 r111 ⟨f111, h111⟩; replace h111 := ite01 h111
              replace F : frE sqE M _ := fe_tr F (fe_le f111 (fun q j h => Or.inl ⟨h.1, by rw [h.2]; decide, by rw [h.2]; decide⟩))
              refine at_pop dx_103_112 rfl ?_
              refine at_vretV dx_103_113 ?_
              exact ⟨MI_sq hM F, fe_fr F (fun q j h => sq_hi h)⟩
        · skip
          refine at_aload dx_103_53 rfl ?_
          refine at_getR dx_103_54 lc_856 rfl lt_856_15 ?_
          refine at_const (x := 0) dx_103_55 rfl ?_
          refine at_aldI dx_103_56 lc_871 ln_871 (by decide) (by decide) (fun r56 => ?_)
          refine at_aload dx_103_57 rfl ?_
          refine at_getR dx_103_58 lc_856 rfl lt_856_15 ?_
          refine at_const (x := 1) dx_103_59 rfl ?_
          refine at_aldI dx_103_60 lc_871 ln_871 (by decide) (by decide) (fun r60 => ?_)
          refine at_addR dx_103_61 (by constructor <;> omega) (fun r61 => ?_)
          refine at_aload dx_103_62 rfl ?_
          refine at_getR dx_103_63 lc_856 rfl lt_856_15 ?_
          refine at_const (x := 2) dx_103_64 rfl ?_
          refine at_aldI dx_103_65 lc_871 ln_871 (by decide) (by decide) (fun r65 => ?_)
          refine at_addR dx_103_66 (by constructor <;> omega) (fun r66 => ?_)
          refine at_zneR dx_103_67 r66 (fun c67 => ?_) (fun c67 => ?_)
          · skip
            refine at_const (x := 0) dx_103_70 rfl ?_
            refine at_istore dx_103_71 ?_
            refine at_iload dx_103_72 rfl ?_
            refine at_zeqR dx_103_73 r3 (fun c73 => ?_) (fun c73 => ?_)
            · skip
              refine at_aload dx_103_97 rfl ?_
              refine at_iload dx_103_98 rfl ?_
              refine at_zneR dx_103_99 r3 (fun c99 => ?_) (fun c99 => ?_)
              · skip
                refine at_iload dx_103_102 rfl ?_
                refine at_zneR dx_103_103 (by decide) (fun c => absurd c (by decide)) (fun _ => ?_)
                refine at_const (x := 2) dx_103_104 rfl ?_
                refine at_goto dx_103_105 ?_
                refine at_callVI dx_103_111 rfl lc_856 rfl (m_fails2 (by decide)) ?_
                rintro x111 M111 r111 ⟨f111, h111⟩; replace h111 := ite01 h111
                replace F : frE sqE M _ := fe_tr F (fe_le f111 (fun q j h => Or.inl ⟨h.1, by rw [h.2]; decide, by rw [h.2]; decide⟩))
                refine at_pop dx_103_112 rfl ?_
                refine at_vretV dx_103_113 ?_
                exact ⟨MI_sq hM F, fe_fr F (fun q j h => sq_hi h)⟩
              · skip
                refine at_const (x := 1) dx_103_100 rfl ?_
                refine at_goto dx_103_101 ?_
                refine at_callVI dx_103_111 rfl lc_856 rfl (m_fails2 (by decide)) ?_
                rintro x111 M111 r111 ⟨f111, h111⟩; replace h111 := ite01 h111
                replace F : frE sqE M _ := fe_tr F (fe_le f111 (fun q j h => Or.inl ⟨h.1, by rw [h.2]; decide, by rw [h.2]; decide⟩))
                refine at_pop dx_103_112 rfl ?_
                refine at_vretV dx_103_113 ?_
                exact ⟨MI_sq hM F, fe_fr F (fun q j h => sq_hi h)⟩
            · skip
              refine at_iload dx_103_74 rfl ?_
              refine at_zeqR dx_103_75 (by decide) (fun _ => ?_) (fun c => absurd c (by decide))
              refine at_aload dx_103_97 rfl ?_
              refine at_iload dx_103_98 rfl ?_
              refine at_zneR dx_103_99 r3 (fun c99 => ?_) (fun c99 => ?_)
              · skip
                refine at_iload dx_103_102 rfl ?_
                refine at_zneR dx_103_103 (by decide) (fun c => absurd c (by decide)) (fun _ => ?_)
                refine at_const (x := 2) dx_103_104 rfl ?_
                refine at_goto dx_103_105 ?_
                refine at_callVI dx_103_111 rfl lc_856 rfl (m_fails2 (by decide)) ?_
                rintro x111 M111 r111 ⟨f111, h111⟩; replace h111 := ite01 h111
                replace F : frE sqE M _ := fe_tr F (fe_le f111 (fun q j h => Or.inl ⟨h.1, by rw [h.2]; decide, by rw [h.2]; decide⟩))
                refine at_pop dx_103_112 rfl ?_
                refine at_vretV dx_103_113 ?_
                exact ⟨MI_sq hM F, fe_fr F (fun q j h => sq_hi h)⟩
              · skip
                refine at_const (x := 1) dx_103_100 rfl ?_
                refine at_goto dx_103_101 ?_
                refine at_callVI dx_103_111 rfl lc_856 rfl (m_fails2 (by decide)) ?_
                rintro x111 M111 r111 ⟨f111, h111⟩; replace h111 := ite01 h111
                replace F : frE sqE M _ := fe_tr F (fe_le f111 (fun q j h => Or.inl ⟨h.1, by rw [h.2]; decide, by rw [h.2]; decide⟩))
                refine at_pop dx_103_112 rfl ?_
                refine at_vretV dx_103_113 ?_
                exact ⟨MI_sq hM F, fe_fr F (fun q j h => sq_hi h)⟩
          · skip
            refine at_const (x := 1) dx_103_68 rfl ?_
            refine at_goto dx_103_69 ?_
            refine at_istore dx_103_71 ?_
            refine at_iload dx_103_72 rfl ?_
            refine at_zeqR dx_103_73 r3 (fun c73 => ?_) (fun c73 => ?_)
            · skip
              refine at_aload dx_103_97 rfl ?_
              refine at_iload dx_103_98 rfl ?_
              refine at_zneR dx_103_99 r3 (fun c99 => ?_) (fun c99 => ?_)
              · skip
                refine at_iload dx_103_102 rfl ?_
                refine at_zneR dx_103_103 (by decide) (fun c => absurd c (by decide)) (fun _ => ?_)
                refine at_const (x := 2) dx_103_104 rfl ?_
                refine at_goto dx_103_105 ?_
                refine at_callVI dx_103_111 rfl lc_856 rfl (m_fails2 (by decide)) ?_
                rintro x111 M111 r111 ⟨f111, h111⟩; replace h111 := ite01 h111
                replace F : frE sqE M _ := fe_tr F (fe_le f111 (fun q j h => Or.inl ⟨h.1, by rw [h.2]; decide, by rw [h.2]; decide⟩))
                refine at_pop dx_103_112 rfl ?_
                refine at_vretV dx_103_113 ?_
                exact ⟨MI_sq hM F, fe_fr F (fun q j h => sq_hi h)⟩
              · skip
                refine at_const (x := 1) dx_103_100 rfl ?_
                refine at_goto dx_103_101 ?_
                refine at_callVI dx_103_111 rfl lc_856 rfl (m_fails2 (by decide)) ?_
                rintro x111 M111 r111 ⟨f111, h111⟩; replace h111 := ite01 h111
                replace F : frE sqE M _ := fe_tr F (fe_le f111 (fun q j h => Or.inl ⟨h.1, by rw [h.2]; decide, by rw [h.2]; decide⟩))
                refine at_pop dx_103_112 rfl ?_
                refine at_vretV dx_103_113 ?_
                exact ⟨MI_sq hM F, fe_fr F (fun q j h => sq_hi h)⟩
            · skip
              refine at_iload dx_103_74 rfl ?_
              refine at_zeqR dx_103_75 (by decide) (fun _ => ?_) (fun c => absurd c (by decide))
              refine at_aload dx_103_97 rfl ?_
              refine at_iload dx_103_98 rfl ?_
              refine at_zneR dx_103_99 r3 (fun c99 => ?_) (fun c99 => ?_)
              · skip
                refine at_iload dx_103_102 rfl ?_
                refine at_zneR dx_103_103 (by decide) (fun c => absurd c (by decide)) (fun _ => ?_)
                refine at_const (x := 2) dx_103_104 rfl ?_
                refine at_goto dx_103_105 ?_
                refine at_callVI dx_103_111 rfl lc_856 rfl (m_fails2 (by decide)) ?_
                rintro x111 M111 r111 ⟨f111, h111⟩; replace h111 := ite01 h111
                replace F : frE sqE M _ := fe_tr F (fe_le f111 (fun q j h => Or.inl ⟨h.1, by rw [h.2]; decide, by rw [h.2]; decide⟩))
                refine at_pop dx_103_112 rfl ?_
                refine at_vretV dx_103_113 ?_
                exact ⟨MI_sq hM F, fe_fr F (fun q j h => sq_hi h)⟩
              · skip
                refine at_const (x := 1) dx_103_100 rfl ?_
                refine at_goto dx_103_101 ?_
                refine at_callVI dx_103_111 rfl lc_856 rfl (m_fails2 (by decide)) ?_
                rintro x111 M111 r111 ⟨f111, h111⟩; replace h111 := ite01 h111
                replace F : frE sqE M _ := fe_tr F (fe_le f111 (fun q j h => Or.inl ⟨h.1, by rw [h.2]; decide, by rw [h.2]; decide⟩))
                refine at_pop dx_103_112 rfl ?_
                refine at_vretV dx_103_113 ?_
                exact ⟨MI_sq hM F, fe_fr F (fun q j h => sq_hi h)⟩
      · skip
        refine at_iload dx_103_30 rfl ?_
        refine at_zeqR dx_103_31 (by decide) (fun _ => ?_) (fun c => absurd c (by decide))
        refine at_const (x := 0) dx_103_38 rfl ?_
        refine at_istore dx_103_39 ?_
        refine at_aload dx_103_40 rfl ?_
        refine at_getR dx_103_41 lc_856 rfl lt_856_0 ?_
        refine at_iload dx_103_42 rfl ?_
        refine at_aldI dx_103_43 lc_857 ln_857 (by omega) (by omega) (fun r43 => ?_)
        refine at_istore dx_103_44 ?_
        refine at_aload dx_103_45 rfl ?_
        refine at_getR dx_103_46 lc_856 rfl lt_856_1 ?_
        refine at_iload dx_103_47 rfl ?_
        refine at_aldI dx_103_48 lc_858 ln_858 (by omega) (by omega) (fun r48 => ?_)
        refine at_istore dx_103_49 ?_
        refine at_aload dx_103_50 rfl ?_
        refine at_getI 13 dx_103_51 lc_856 rfl rfl (fun r51 => ?_)
        refine at_zneR dx_103_52 r51 (fun c52 => ?_) (fun c52 => ?_)
        · skip
          refine at_const (x := 0) dx_103_70 rfl ?_
          refine at_istore dx_103_71 ?_
          refine at_iload dx_103_72 rfl ?_
          refine at_zeqR dx_103_73 r3 (fun c73 => ?_) (fun c73 => ?_)
          · skip
            refine at_aload dx_103_97 rfl ?_
            refine at_iload dx_103_98 rfl ?_
            refine at_zneR dx_103_99 r3 (fun c99 => ?_) (fun c99 => ?_)
            · skip
              refine at_iload dx_103_102 rfl ?_
              refine at_zneR dx_103_103 (by decide) (fun c => absurd c (by decide)) (fun _ => ?_)
              refine at_const (x := 2) dx_103_104 rfl ?_
              refine at_goto dx_103_105 ?_
              refine at_callVI dx_103_111 rfl lc_856 rfl (m_fails2 (by decide)) ?_
              rintro x111 M111 r111 ⟨f111, h111⟩; replace h111 := ite01 h111
              replace F : frE sqE M _ := fe_tr F (fe_le f111 (fun q j h => Or.inl ⟨h.1, by rw [h.2]; decide, by rw [h.2]; decide⟩))
              refine at_pop dx_103_112 rfl ?_
              refine at_vretV dx_103_113 ?_
              exact ⟨MI_sq hM F, fe_fr F (fun q j h => sq_hi h)⟩
            · skip
              refine at_const (x := 1) dx_103_100 rfl ?_
              refine at_goto dx_103_101 ?_
              refine at_callVI dx_103_111 rfl lc_856 rfl (m_fails2 (by decide)) ?_
              rintro x111 M111 r111 ⟨f111, h111⟩; replace h111 := ite01 h111
              replace F : frE sqE M _ := fe_tr F (fe_le f111 (fun q j h => Or.inl ⟨h.1, by rw [h.2]; decide, by rw [h.2]; decide⟩))
              refine at_pop dx_103_112 rfl ?_
              refine at_vretV dx_103_113 ?_
              exact ⟨MI_sq hM F, fe_fr F (fun q j h => sq_hi h)⟩
          · skip
            refine at_iload dx_103_74 rfl ?_
            refine at_zeqR dx_103_75 (by decide) (fun _ => ?_) (fun c => absurd c (by decide))
            refine at_aload dx_103_97 rfl ?_
            refine at_iload dx_103_98 rfl ?_
            refine at_zneR dx_103_99 r3 (fun c99 => ?_) (fun c99 => ?_)
            · skip
              refine at_iload dx_103_102 rfl ?_
              refine at_zneR dx_103_103 (by decide) (fun c => absurd c (by decide)) (fun _ => ?_)
              refine at_const (x := 2) dx_103_104 rfl ?_
              refine at_goto dx_103_105 ?_
              refine at_callVI dx_103_111 rfl lc_856 rfl (m_fails2 (by decide)) ?_
              rintro x111 M111 r111 ⟨f111, h111⟩; replace h111 := ite01 h111
              replace F : frE sqE M _ := fe_tr F (fe_le f111 (fun q j h => Or.inl ⟨h.1, by rw [h.2]; decide, by rw [h.2]; decide⟩))
              refine at_pop dx_103_112 rfl ?_
              refine at_vretV dx_103_113 ?_
              exact ⟨MI_sq hM F, fe_fr F (fun q j h => sq_hi h)⟩
            · skip
              refine at_const (x := 1) dx_103_100 rfl ?_
              refine at_goto dx_103_101 ?_
              refine at_callVI dx_103_111 rfl lc_856 rfl (m_fails2 (by decide)) ?_
              rintro x111 M111 r111 ⟨f111, h111⟩; replace h111 := ite01 h111
              replace F : frE sqE M _ := fe_tr F (fe_le f111 (fun q j h => Or.inl ⟨h.1, by rw [h.2]; decide, by rw [h.2]; decide⟩))
              refine at_pop dx_103_112 rfl ?_
              refine at_vretV dx_103_113 ?_
              exact ⟨MI_sq hM F, fe_fr F (fun q j h => sq_hi h)⟩
        · skip
          refine at_aload dx_103_53 rfl ?_
          refine at_getR dx_103_54 lc_856 rfl lt_856_15 ?_
          refine at_const (x := 0) dx_103_55 rfl ?_
          refine at_aldI dx_103_56 lc_871 ln_871 (by decide) (by decide) (fun r56 => ?_)
          refine at_aload dx_103_57 rfl ?_
          refine at_getR dx_103_58 lc_856 rfl lt_856_15 ?_
          refine at_const (x := 1) dx_103_59 rfl ?_
          refine at_aldI dx_103_60 lc_871 ln_871 (by decide) (by decide) (fun r60 => ?_)
          refine at_addR dx_103_61 (by constructor <;> omega) (fun r61 => ?_)
          refine at_aload dx_103_62 rfl ?_
          refine at_getR dx_103_63 lc_856 rfl lt_856_15 ?_
          refine at_const (x := 2) dx_103_64 rfl ?_
          refine at_aldI dx_103_65 lc_871 ln_871 (by decide) (by decide) (fun r65 => ?_)
          refine at_addR dx_103_66 (by constructor <;> omega) (fun r66 => ?_)
          refine at_zneR dx_103_67 r66 (fun c67 => ?_) (fun c67 => ?_)
          · skip
            refine at_const (x := 0) dx_103_70 rfl ?_
            refine at_istore dx_103_71 ?_
            refine at_iload dx_103_72 rfl ?_
            refine at_zeqR dx_103_73 r3 (fun c73 => ?_) (fun c73 => ?_)
            · skip
              refine at_aload dx_103_97 rfl ?_
              refine at_iload dx_103_98 rfl ?_
              refine at_zneR dx_103_99 r3 (fun c99 => ?_) (fun c99 => ?_)
              · skip
                refine at_iload dx_103_102 rfl ?_
                refine at_zneR dx_103_103 (by decide) (fun c => absurd c (by decide)) (fun _ => ?_)
                refine at_const (x := 2) dx_103_104 rfl ?_
                refine at_goto dx_103_105 ?_
                refine at_callVI dx_103_111 rfl lc_856 rfl (m_fails2 (by decide)) ?_
                rintro x111 M111 r111 ⟨f111, h111⟩; replace h111 := ite01 h111
                replace F : frE sqE M _ := fe_tr F (fe_le f111 (fun q j h => Or.inl ⟨h.1, by rw [h.2]; decide, by rw [h.2]; decide⟩))
                refine at_pop dx_103_112 rfl ?_
                refine at_vretV dx_103_113 ?_
                exact ⟨MI_sq hM F, fe_fr F (fun q j h => sq_hi h)⟩
              · skip
                refine at_const (x := 1) dx_103_100 rfl ?_
                refine at_goto dx_103_101 ?_
                refine at_callVI dx_103_111 rfl lc_856 rfl (m_fails2 (by decide)) ?_
                rintro x111 M111 r111 ⟨f111, h111⟩; replace h111 := ite01 h111
                replace F : frE sqE M _ := fe_tr F (fe_le f111 (fun q j h => Or.inl ⟨h.1, by rw [h.2]; decide, by rw [h.2]; decide⟩))
                refine at_pop dx_103_112 rfl ?_
                refine at_vretV dx_103_113 ?_
                exact ⟨MI_sq hM F, fe_fr F (fun q j h => sq_hi h)⟩
            · skip
              refine at_iload dx_103_74 rfl ?_
              refine at_zeqR dx_103_75 (by decide) (fun _ => ?_) (fun c => absurd c (by decide))
              refine at_aload dx_103_97 rfl ?_
              refine at_iload dx_103_98 rfl ?_
              refine at_zneR dx_103_99 r3 (fun c99 => ?_) (fun c99 => ?_)
              · skip
                refine at_iload dx_103_102 rfl ?_
                refine at_zneR dx_103_103 (by decide) (fun c => absurd c (by decide)) (fun _ => ?_)
                refine at_const (x := 2) dx_103_104 rfl ?_
                refine at_goto dx_103_105 ?_
                refine at_callVI dx_103_111 rfl lc_856 rfl (m_fails2 (by decide)) ?_
                rintro x111 M111 r111 ⟨f111, h111⟩; replace h111 := ite01 h111
                replace F : frE sqE M _ := fe_tr F (fe_le f111 (fun q j h => Or.inl ⟨h.1, by rw [h.2]; decide, by rw [h.2]; decide⟩))
                refine at_pop dx_103_112 rfl ?_
                refine at_vretV dx_103_113 ?_
                exact ⟨MI_sq hM F, fe_fr F (fun q j h => sq_hi h)⟩
              · skip
                refine at_const (x := 1) dx_103_100 rfl ?_
                refine at_goto dx_103_101 ?_
                refine at_callVI dx_103_111 rfl lc_856 rfl (m_fails2 (by decide)) ?_
                rintro x111 M111 r111 ⟨f111, h111⟩; replace h111 := ite01 h111
                replace F : frE sqE M _ := fe_tr F (fe_le f111 (fun q j h => Or.inl ⟨h.1, by rw [h.2]; decide, by rw [h.2]; decide⟩))
                refine at_pop dx_103_112 rfl ?_
                refine at_vretV dx_103_113 ?_
                exact ⟨MI_sq hM F, fe_fr F (fun q j h => sq_hi h)⟩
          · skip
            refine at_const (x := 1) dx_103_68 rfl ?_
            refine at_goto dx_103_69 ?_
            refine at_istore dx_103_71 ?_
            refine at_iload dx_103_72 rfl ?_
            refine at_zeqR dx_103_73 r3 (fun c73 => ?_) (fun c73 => ?_)
            · skip
              refine at_aload dx_103_97 rfl ?_
              refine at_iload dx_103_98 rfl ?_
              refine at_zneR dx_103_99 r3 (fun c99 => ?_) (fun c99 => ?_)
              · skip
                refine at_iload dx_103_102 rfl ?_
                refine at_zneR dx_103_103 (by decide) (fun c => absurd c (by decide)) (fun _ => ?_)
                refine at_const (x := 2) dx_103_104 rfl ?_
                refine at_goto dx_103_105 ?_
                refine at_callVI dx_103_111 rfl lc_856 rfl (m_fails2 (by decide)) ?_
                rintro x111 M111 r111 ⟨f111, h111⟩; replace h111 := ite01 h111
                replace F : frE sqE M _ := fe_tr F (fe_le f111 (fun q j h => Or.inl ⟨h.1, by rw [h.2]; decide, by rw [h.2]; decide⟩))
                refine at_pop dx_103_112 rfl ?_
                refine at_vretV dx_103_113 ?_
                exact ⟨MI_sq hM F, fe_fr F (fun q j h => sq_hi h)⟩
              · skip
                refine at_const (x := 1) dx_103_100 rfl ?_
                refine at_goto dx_103_101 ?_
                refine at_callVI dx_103_111 rfl lc_856 rfl (m_fails2 (by decide)) ?_
                rintro x111 M111 r111 ⟨f111, h111⟩; replace h111 := ite01 h111
                replace F : frE sqE M _ := fe_tr F (fe_le f111 (fun q j h => Or.inl ⟨h.1, by rw [h.2]; decide, by rw [h.2]; decide⟩))
                refine at_pop dx_103_112 rfl ?_
                refine at_vretV dx_103_113 ?_
                exact ⟨MI_sq hM F, fe_fr F (fun q j h => sq_hi h)⟩
            · skip
              refine at_iload dx_103_74 rfl ?_
              refine at_zeqR dx_103_75 (by decide) (fun _ => ?_) (fun c => absurd c (by decide))
              refine at_aload dx_103_97 rfl ?_
              refine at_iload dx_103_98 rfl ?_
              refine at_zneR dx_103_99 r3 (fun c99 => ?_) (fun c99 => ?_)
              · skip
                refine at_iload dx_103_102 rfl ?_
                refine at_zneR dx_103_103 (by decide) (fun c => absurd c (by decide)) (fun _ => ?_)
                refine at_const (x := 2) dx_103_104 rfl ?_
                refine at_goto dx_103_105 ?_
                refine at_callVI dx_103_111 rfl lc_856 rfl (m_fails2 (by decide)) ?_
                rintro x111 M111 r111 ⟨f111, h111⟩; replace h111 := ite01 h111
                replace F : frE sqE M _ := fe_tr F (fe_le f111 (fun q j h => Or.inl ⟨h.1, by rw [h.2]; decide, by rw [h.2]; decide⟩))
                refine at_pop dx_103_112 rfl ?_
                refine at_vretV dx_103_113 ?_
                exact ⟨MI_sq hM F, fe_fr F (fun q j h => sq_hi h)⟩
              · skip
                refine at_const (x := 1) dx_103_100 rfl ?_
                refine at_goto dx_103_101 ?_
                refine at_callVI dx_103_111 rfl lc_856 rfl (m_fails2 (by decide)) ?_
                rintro x111 M111 r111 ⟨f111, h111⟩; replace h111 := ite01 h111
                replace F : frE sqE M _ := fe_tr F (fe_le f111 (fun q j h => Or.inl ⟨h.1, by rw [h.2]; decide, by rw [h.2]; decide⟩))
                refine at_pop dx_103_112 rfl ?_
                refine at_vretV dx_103_113 ?_
                exact ⟨MI_sq hM F, fe_fr F (fun q j h => sq_hi h)⟩
    · skip
      refine at_iload dx_103_15 rfl ?_
      refine at_const (x := 2) dx_103_16 rfl ?_
      refine at_rem dx_103_17 (by decide) ?_
      refine at_zneR dx_103_18 (inR_rem _ _) (fun c18 => ?_) (fun c18 => ?_)
      · skip
        refine at_const (x := 0) dx_103_26 rfl ?_
        refine at_istore dx_103_27 ?_
        refine at_iload dx_103_28 rfl ?_
        refine at_zeqR dx_103_29 r3 (fun c29 => ?_) (fun c29 => ?_)
        · skip
          refine at_const (x := 0) dx_103_38 rfl ?_
          refine at_istore dx_103_39 ?_
          refine at_aload dx_103_40 rfl ?_
          refine at_getR dx_103_41 lc_856 rfl lt_856_0 ?_
          refine at_iload dx_103_42 rfl ?_
          refine at_aldI dx_103_43 lc_857 ln_857 (by omega) (by omega) (fun r43 => ?_)
          refine at_istore dx_103_44 ?_
          refine at_aload dx_103_45 rfl ?_
          refine at_getR dx_103_46 lc_856 rfl lt_856_1 ?_
          refine at_iload dx_103_47 rfl ?_
          refine at_aldI dx_103_48 lc_858 ln_858 (by omega) (by omega) (fun r48 => ?_)
          refine at_istore dx_103_49 ?_
          refine at_aload dx_103_50 rfl ?_
          refine at_getI 13 dx_103_51 lc_856 rfl rfl (fun r51 => ?_)
          refine at_zneR dx_103_52 r51 (fun c52 => ?_) (fun c52 => ?_)
          · skip
            refine at_const (x := 0) dx_103_70 rfl ?_
            refine at_istore dx_103_71 ?_
            refine at_iload dx_103_72 rfl ?_
            refine at_zeqR dx_103_73 r3 (fun c73 => ?_) (fun c73 => ?_)
            · skip
              refine at_aload dx_103_97 rfl ?_
              refine at_iload dx_103_98 rfl ?_
              refine at_zneR dx_103_99 r3 (fun c99 => ?_) (fun c99 => ?_)
              · skip
                refine at_iload dx_103_102 rfl ?_
                refine at_zneR dx_103_103 (by decide) (fun c => absurd c (by decide)) (fun _ => ?_)
                refine at_const (x := 2) dx_103_104 rfl ?_
                refine at_goto dx_103_105 ?_
                refine at_callVI dx_103_111 rfl lc_856 rfl (m_fails2 (by decide)) ?_
                rintro x111 M111 r111 ⟨f111, h111⟩; replace h111 := ite01 h111
                replace F : frE sqE M _ := fe_tr F (fe_le f111 (fun q j h => Or.inl ⟨h.1, by rw [h.2]; decide, by rw [h.2]; decide⟩))
                refine at_pop dx_103_112 rfl ?_
                refine at_vretV dx_103_113 ?_
                exact ⟨MI_sq hM F, fe_fr F (fun q j h => sq_hi h)⟩
              · skip
                refine at_const (x := 1) dx_103_100 rfl ?_
                refine at_goto dx_103_101 ?_
                refine at_callVI dx_103_111 rfl lc_856 rfl (m_fails2 (by decide)) ?_
                rintro x111 M111 r111 ⟨f111, h111⟩; replace h111 := ite01 h111
                replace F : frE sqE M _ := fe_tr F (fe_le f111 (fun q j h => Or.inl ⟨h.1, by rw [h.2]; decide, by rw [h.2]; decide⟩))
                refine at_pop dx_103_112 rfl ?_
                refine at_vretV dx_103_113 ?_
                exact ⟨MI_sq hM F, fe_fr F (fun q j h => sq_hi h)⟩
            · skip
              refine at_iload dx_103_74 rfl ?_
              refine at_zeqR dx_103_75 (by decide) (fun _ => ?_) (fun c => absurd c (by decide))
              refine at_aload dx_103_97 rfl ?_
              refine at_iload dx_103_98 rfl ?_
              refine at_zneR dx_103_99 r3 (fun c99 => ?_) (fun c99 => ?_)
              · skip
                refine at_iload dx_103_102 rfl ?_
                refine at_zneR dx_103_103 (by decide) (fun c => absurd c (by decide)) (fun _ => ?_)
                refine at_const (x := 2) dx_103_104 rfl ?_
                refine at_goto dx_103_105 ?_
                refine at_callVI dx_103_111 rfl lc_856 rfl (m_fails2 (by decide)) ?_
                rintro x111 M111 r111 ⟨f111, h111⟩; replace h111 := ite01 h111
                replace F : frE sqE M _ := fe_tr F (fe_le f111 (fun q j h => Or.inl ⟨h.1, by rw [h.2]; decide, by rw [h.2]; decide⟩))
                refine at_pop dx_103_112 rfl ?_
                refine at_vretV dx_103_113 ?_
                exact ⟨MI_sq hM F, fe_fr F (fun q j h => sq_hi h)⟩
              · skip
                refine at_const (x := 1) dx_103_100 rfl ?_
                refine at_goto dx_103_101 ?_
                refine at_callVI dx_103_111 rfl lc_856 rfl (m_fails2 (by decide)) ?_
                rintro x111 M111 r111 ⟨f111, h111⟩; replace h111 := ite01 h111
                replace F : frE sqE M _ := fe_tr F (fe_le f111 (fun q j h => Or.inl ⟨h.1, by rw [h.2]; decide, by rw [h.2]; decide⟩))
                refine at_pop dx_103_112 rfl ?_
                refine at_vretV dx_103_113 ?_
                exact ⟨MI_sq hM F, fe_fr F (fun q j h => sq_hi h)⟩
          · skip
            refine at_aload dx_103_53 rfl ?_
            refine at_getR dx_103_54 lc_856 rfl lt_856_15 ?_
            refine at_const (x := 0) dx_103_55 rfl ?_
            refine at_aldI dx_103_56 lc_871 ln_871 (by decide) (by decide) (fun r56 => ?_)
            refine at_aload dx_103_57 rfl ?_
            refine at_getR dx_103_58 lc_856 rfl lt_856_15 ?_
            refine at_const (x := 1) dx_103_59 rfl ?_
            refine at_aldI dx_103_60 lc_871 ln_871 (by decide) (by decide) (fun r60 => ?_)
            refine at_addR dx_103_61 (by constructor <;> omega) (fun r61 => ?_)
            refine at_aload dx_103_62 rfl ?_
            refine at_getR dx_103_63 lc_856 rfl lt_856_15 ?_
            refine at_const (x := 2) dx_103_64 rfl ?_
            refine at_aldI dx_103_65 lc_871 ln_871 (by decide) (by decide) (fun r65 => ?_)
            refine at_addR dx_103_66 (by constructor <;> omega) (fun r66 => ?_)
            refine at_zneR dx_103_67 r66 (fun c67 => ?_) (fun c67 => ?_)
            · skip
              refine at_const (x := 0) dx_103_70 rfl ?_
              refine at_istore dx_103_71 ?_
              refine at_iload dx_103_72 rfl ?_
              refine at_zeqR dx_103_73 r3 (fun c73 => ?_) (fun c73 => ?_)
              · skip
                refine at_aload dx_103_97 rfl ?_
                refine at_iload dx_103_98 rfl ?_
                refine at_zneR dx_103_99 r3 (fun c99 => ?_) (fun c99 => ?_)
                · skip
                  refine at_iload dx_103_102 rfl ?_
                  refine at_zneR dx_103_103 (by decide) (fun c => absurd c (by decide)) (fun _ => ?_)
                  refine at_const (x := 2) dx_103_104 rfl ?_
                  refine at_goto dx_103_105 ?_
                  refine at_callVI dx_103_111 rfl lc_856 rfl (m_fails2 (by decide)) ?_
                  rintro x111 M111 r111 ⟨f111, h111⟩; replace h111 := ite01 h111
                  replace F : frE sqE M _ := fe_tr F (fe_le f111 (fun q j h => Or.inl ⟨h.1, by rw [h.2]; decide, by rw [h.2]; decide⟩))
                  refine at_pop dx_103_112 rfl ?_
                  refine at_vretV dx_103_113 ?_
                  exact ⟨MI_sq hM F, fe_fr F (fun q j h => sq_hi h)⟩
                · skip
                  refine at_const (x := 1) dx_103_100 rfl ?_
                  refine at_goto dx_103_101 ?_
                  refine at_callVI dx_103_111 rfl lc_856 rfl (m_fails2 (by decide)) ?_
                  rintro x111 M111 r111 ⟨f111, h111⟩; replace h111 := ite01 h111
                  replace F : frE sqE M _ := fe_tr F (fe_le f111 (fun q j h => Or.inl ⟨h.1, by rw [h.2]; decide, by rw [h.2]; decide⟩))
                  refine at_pop dx_103_112 rfl ?_
                  refine at_vretV dx_103_113 ?_
                  exact ⟨MI_sq hM F, fe_fr F (fun q j h => sq_hi h)⟩
              · skip
                refine at_iload dx_103_74 rfl ?_
                refine at_zeqR dx_103_75 (by decide) (fun _ => ?_) (fun c => absurd c (by decide))
                refine at_aload dx_103_97 rfl ?_
                refine at_iload dx_103_98 rfl ?_
                refine at_zneR dx_103_99 r3 (fun c99 => ?_) (fun c99 => ?_)
                · skip
                  refine at_iload dx_103_102 rfl ?_
                  refine at_zneR dx_103_103 (by decide) (fun c => absurd c (by decide)) (fun _ => ?_)
                  refine at_const (x := 2) dx_103_104 rfl ?_
                  refine at_goto dx_103_105 ?_
                  refine at_callVI dx_103_111 rfl lc_856 rfl (m_fails2 (by decide)) ?_
                  rintro x111 M111 r111 ⟨f111, h111⟩; replace h111 := ite01 h111
                  replace F : frE sqE M _ := fe_tr F (fe_le f111 (fun q j h => Or.inl ⟨h.1, by rw [h.2]; decide, by rw [h.2]; decide⟩))
                  refine at_pop dx_103_112 rfl ?_
                  refine at_vretV dx_103_113 ?_
                  exact ⟨MI_sq hM F, fe_fr F (fun q j h => sq_hi h)⟩
                · skip
                  refine at_const (x := 1) dx_103_100 rfl ?_
                  refine at_goto dx_103_101 ?_
                  refine at_callVI dx_103_111 rfl lc_856 rfl (m_fails2 (by decide)) ?_
                  rintro x111 M111 r111 ⟨f111, h111⟩; replace h111 := ite01 h111
                  replace F : frE sqE M _ := fe_tr F (fe_le f111 (fun q j h => Or.inl ⟨h.1, by rw [h.2]; decide, by rw [h.2]; decide⟩))
                  refine at_pop dx_103_112 rfl ?_
                  refine at_vretV dx_103_113 ?_
                  exact ⟨MI_sq hM F, fe_fr F (fun q j h => sq_hi h)⟩
            · skip
              refine at_const (x := 1) dx_103_68 rfl ?_
              refine at_goto dx_103_69 ?_
              refine at_istore dx_103_71 ?_
              refine at_iload dx_103_72 rfl ?_
              refine at_zeqR dx_103_73 r3 (fun c73 => ?_) (fun c73 => ?_)
              · skip
                refine at_aload dx_103_97 rfl ?_
                refine at_iload dx_103_98 rfl ?_
                refine at_zneR dx_103_99 r3 (fun c99 => ?_) (fun c99 => ?_)
                · skip
                  refine at_iload dx_103_102 rfl ?_
                  refine at_zneR dx_103_103 (by decide) (fun c => absurd c (by decide)) (fun _ => ?_)
                  refine at_const (x := 2) dx_103_104 rfl ?_
                  refine at_goto dx_103_105 ?_
                  refine at_callVI dx_103_111 rfl lc_856 rfl (m_fails2 (by decide)) ?_
                  rintro x111 M111 r111 ⟨f111, h111⟩; replace h111 := ite01 h111
                  replace F : frE sqE M _ := fe_tr F (fe_le f111 (fun q j h => Or.inl ⟨h.1, by rw [h.2]; decide, by rw [h.2]; decide⟩))
                  refine at_pop dx_103_112 rfl ?_
                  refine at_vretV dx_103_113 ?_
                  exact ⟨MI_sq hM F, fe_fr F (fun q j h => sq_hi h)⟩
                · skip
                  refine at_const (x := 1) dx_103_100 rfl ?_
                  refine at_goto dx_103_101 ?_
                  refine at_callVI dx_103_111 rfl lc_856 rfl (m_fails2 (by decide)) ?_
                  rintro x111 M111 r111 ⟨f111, h111⟩; replace h111 := ite01 h111
                  replace F : frE sqE M _ := fe_tr F (fe_le f111 (fun q j h => Or.inl ⟨h.1, by rw [h.2]; decide, by rw [h.2]; decide⟩))
                  refine at_pop dx_103_112 rfl ?_
                  refine at_vretV dx_103_113 ?_
                  exact ⟨MI_sq hM F, fe_fr F (fun q j h => sq_hi h)⟩
              · skip
                refine at_iload dx_103_74 rfl ?_
                refine at_zeqR dx_103_75 (by decide) (fun _ => ?_) (fun c => absurd c (by decide))
                refine at_aload dx_103_97 rfl ?_
                refine at_iload dx_103_98 rfl ?_
                refine at_zneR dx_103_99 r3 (fun c99 => ?_) (fun c99 => ?_)
                · skip
                  refine at_iload dx_103_102 rfl ?_
                  refine at_zneR dx_103_103 (by decide) (fun c => absurd c (by decide)) (fun _ => ?_)
                  refine at_const (x := 2) dx_103_104 rfl ?_
                  refine at_goto dx_103_105 ?_
                  refine at_callVI dx_103_111 rfl lc_856 rfl (m_fails2 (by decide)) ?_
                  rintro x111 M111 r111 ⟨f111, h111⟩; replace h111 := ite01 h111
                  replace F : frE sqE M _ := fe_tr F (fe_le f111 (fun q j h => Or.inl ⟨h.1, by rw [h.2]; decide, by rw [h.2]; decide⟩))
                  refine at_pop dx_103_112 rfl ?_
                  refine at_vretV dx_103_113 ?_
                  exact ⟨MI_sq hM F, fe_fr F (fun q j h => sq_hi h)⟩
                · skip
                  refine at_const (x := 1) dx_103_100 rfl ?_
                  refine at_goto dx_103_101 ?_
                  refine at_callVI dx_103_111 rfl lc_856 rfl (m_fails2 (by decide)) ?_
                  rintro x111 M111 r111 ⟨f111, h111⟩; replace h111 := ite01 h111
                  replace F : frE sqE M _ := fe_tr F (fe_le f111 (fun q j h => Or.inl ⟨h.1, by rw [h.2]; decide, by rw [h.2]; decide⟩))
                  refine at_pop dx_103_112 rfl ?_
                  refine at_vretV dx_103_113 ?_
                  exact ⟨MI_sq hM F, fe_fr F (fun q j h => sq_hi h)⟩
        · skip
          refine at_iload dx_103_30 rfl ?_
          refine at_zeqR dx_103_31 (by decide) (fun _ => ?_) (fun c => absurd c (by decide))
          refine at_const (x := 0) dx_103_38 rfl ?_
          refine at_istore dx_103_39 ?_
          refine at_aload dx_103_40 rfl ?_
          refine at_getR dx_103_41 lc_856 rfl lt_856_0 ?_
          refine at_iload dx_103_42 rfl ?_
          refine at_aldI dx_103_43 lc_857 ln_857 (by omega) (by omega) (fun r43 => ?_)
          refine at_istore dx_103_44 ?_
          refine at_aload dx_103_45 rfl ?_
          refine at_getR dx_103_46 lc_856 rfl lt_856_1 ?_
          refine at_iload dx_103_47 rfl ?_
          refine at_aldI dx_103_48 lc_858 ln_858 (by omega) (by omega) (fun r48 => ?_)
          refine at_istore dx_103_49 ?_
          refine at_aload dx_103_50 rfl ?_
          refine at_getI 13 dx_103_51 lc_856 rfl rfl (fun r51 => ?_)
          refine at_zneR dx_103_52 r51 (fun c52 => ?_) (fun c52 => ?_)
          · skip
            refine at_const (x := 0) dx_103_70 rfl ?_
            refine at_istore dx_103_71 ?_
            refine at_iload dx_103_72 rfl ?_
            refine at_zeqR dx_103_73 r3 (fun c73 => ?_) (fun c73 => ?_)
            · skip
              refine at_aload dx_103_97 rfl ?_
              refine at_iload dx_103_98 rfl ?_
              refine at_zneR dx_103_99 r3 (fun c99 => ?_) (fun c99 => ?_)
              · skip
                refine at_iload dx_103_102 rfl ?_
                refine at_zneR dx_103_103 (by decide) (fun c => absurd c (by decide)) (fun _ => ?_)
                refine at_const (x := 2) dx_103_104 rfl ?_
                refine at_goto dx_103_105 ?_
                refine at_callVI dx_103_111 rfl lc_856 rfl (m_fails2 (by decide)) ?_
                rintro x111 M111 r111 ⟨f111, h111⟩; replace h111 := ite01 h111
                replace F : frE sqE M _ := fe_tr F (fe_le f111 (fun q j h => Or.inl ⟨h.1, by rw [h.2]; decide, by rw [h.2]; decide⟩))
                refine at_pop dx_103_112 rfl ?_
                refine at_vretV dx_103_113 ?_
                exact ⟨MI_sq hM F, fe_fr F (fun q j h => sq_hi h)⟩
              · skip
                refine at_const (x := 1) dx_103_100 rfl ?_
                refine at_goto dx_103_101 ?_
                refine at_callVI dx_103_111 rfl lc_856 rfl (m_fails2 (by decide)) ?_
                rintro x111 M111 r111 ⟨f111, h111⟩; replace h111 := ite01 h111
                replace F : frE sqE M _ := fe_tr F (fe_le f111 (fun q j h => Or.inl ⟨h.1, by rw [h.2]; decide, by rw [h.2]; decide⟩))
                refine at_pop dx_103_112 rfl ?_
                refine at_vretV dx_103_113 ?_
                exact ⟨MI_sq hM F, fe_fr F (fun q j h => sq_hi h)⟩
            · skip
              refine at_iload dx_103_74 rfl ?_
              refine at_zeqR dx_103_75 (by decide) (fun _ => ?_) (fun c => absurd c (by decide))
              refine at_aload dx_103_97 rfl ?_
              refine at_iload dx_103_98 rfl ?_
              refine at_zneR dx_103_99 r3 (fun c99 => ?_) (fun c99 => ?_)
              · skip
                refine at_iload dx_103_102 rfl ?_
                refine at_zneR dx_103_103 (by decide) (fun c => absurd c (by decide)) (fun _ => ?_)
                refine at_const (x := 2) dx_103_104 rfl ?_
                refine at_goto dx_103_105 ?_
                refine at_callVI dx_103_111 rfl lc_856 rfl (m_fails2 (by decide)) ?_
                rintro x111 M111 r111 ⟨f111, h111⟩; replace h111 := ite01 h111
                replace F : frE sqE M _ := fe_tr F (fe_le f111 (fun q j h => Or.inl ⟨h.1, by rw [h.2]; decide, by rw [h.2]; decide⟩))
                refine at_pop dx_103_112 rfl ?_
                refine at_vretV dx_103_113 ?_
                exact ⟨MI_sq hM F, fe_fr F (fun q j h => sq_hi h)⟩
              · skip
                refine at_const (x := 1) dx_103_100 rfl ?_
                refine at_goto dx_103_101 ?_
                refine at_callVI dx_103_111 rfl lc_856 rfl (m_fails2 (by decide)) ?_
                rintro x111 M111 r111 ⟨f111, h111⟩; replace h111 := ite01 h111
                replace F : frE sqE M _ := fe_tr F (fe_le f111 (fun q j h => Or.inl ⟨h.1, by rw [h.2]; decide, by rw [h.2]; decide⟩))
                refine at_pop dx_103_112 rfl ?_
                refine at_vretV dx_103_113 ?_
                exact ⟨MI_sq hM F, fe_fr F (fun q j h => sq_hi h)⟩
          · skip
            refine at_aload dx_103_53 rfl ?_
            refine at_getR dx_103_54 lc_856 rfl lt_856_15 ?_
            refine at_const (x := 0) dx_103_55 rfl ?_
            refine at_aldI dx_103_56 lc_871 ln_871 (by decide) (by decide) (fun r56 => ?_)
            refine at_aload dx_103_57 rfl ?_
            refine at_getR dx_103_58 lc_856 rfl lt_856_15 ?_
            refine at_const (x := 1) dx_103_59 rfl ?_
            refine at_aldI dx_103_60 lc_871 ln_871 (by decide) (by decide) (fun r60 => ?_)
            refine at_addR dx_103_61 (by constructor <;> omega) (fun r61 => ?_)
            refine at_aload dx_103_62 rfl ?_
            refine at_getR dx_103_63 lc_856 rfl lt_856_15 ?_
            refine at_const (x := 2) dx_103_64 rfl ?_
            refine at_aldI dx_103_65 lc_871 ln_871 (by decide) (by decide) (fun r65 => ?_)
            refine at_addR dx_103_66 (by constructor <;> omega) (fun r66 => ?_)
            refine at_zneR dx_103_67 r66 (fun c67 => ?_) (fun c67 => ?_)
            · skip
              refine at_const (x := 0) dx_103_70 rfl ?_
              refine at_istore dx_103_71 ?_
              refine at_iload dx_103_72 rfl ?_
              refine at_zeqR dx_103_73 r3 (fun c73 => ?_) (fun c73 => ?_)
              · skip
                refine at_aload dx_103_97 rfl ?_
                refine at_iload dx_103_98 rfl ?_
                refine at_zneR dx_103_99 r3 (fun c99 => ?_) (fun c99 => ?_)
                · skip
                  refine at_iload dx_103_102 rfl ?_
                  refine at_zneR dx_103_103 (by decide) (fun c => absurd c (by decide)) (fun _ => ?_)
                  refine at_const (x := 2) dx_103_104 rfl ?_
                  refine at_goto dx_103_105 ?_
                  refine at_callVI dx_103_111 rfl lc_856 rfl (m_fails2 (by decide)) ?_
                  rintro x111 M111 r111 ⟨f111, h111⟩; replace h111 := ite01 h111
                  replace F : frE sqE M _ := fe_tr F (fe_le f111 (fun q j h => Or.inl ⟨h.1, by rw [h.2]; decide, by rw [h.2]; decide⟩))
                  refine at_pop dx_103_112 rfl ?_
                  refine at_vretV dx_103_113 ?_
                  exact ⟨MI_sq hM F, fe_fr F (fun q j h => sq_hi h)⟩
                · skip
                  refine at_const (x := 1) dx_103_100 rfl ?_
                  refine at_goto dx_103_101 ?_
                  refine at_callVI dx_103_111 rfl lc_856 rfl (m_fails2 (by decide)) ?_
                  rintro x111 M111 r111 ⟨f111, h111⟩; replace h111 := ite01 h111
                  replace F : frE sqE M _ := fe_tr F (fe_le f111 (fun q j h => Or.inl ⟨h.1, by rw [h.2]; decide, by rw [h.2]; decide⟩))
                  refine at_pop dx_103_112 rfl ?_
                  refine at_vretV dx_103_113 ?_
                  exact ⟨MI_sq hM F, fe_fr F (fun q j h => sq_hi h)⟩
              · skip
                refine at_iload dx_103_74 rfl ?_
                refine at_zeqR dx_103_75 (by decide) (fun _ => ?_) (fun c => absurd c (by decide))
                refine at_aload dx_103_97 rfl ?_
                refine at_iload dx_103_98 rfl ?_
                refine at_zneR dx_103_99 r3 (fun c99 => ?_) (fun c99 => ?_)
                · skip
                  refine at_iload dx_103_102 rfl ?_
                  refine at_zneR dx_103_103 (by decide) (fun c => absurd c (by decide)) (fun _ => ?_)
                  refine at_const (x := 2) dx_103_104 rfl ?_
                  refine at_goto dx_103_105 ?_
                  refine at_callVI dx_103_111 rfl lc_856 rfl (m_fails2 (by decide)) ?_
                  rintro x111 M111 r111 ⟨f111, h111⟩; replace h111 := ite01 h111
                  replace F : frE sqE M _ := fe_tr F (fe_le f111 (fun q j h => Or.inl ⟨h.1, by rw [h.2]; decide, by rw [h.2]; decide⟩))
                  refine at_pop dx_103_112 rfl ?_
                  refine at_vretV dx_103_113 ?_
                  exact ⟨MI_sq hM F, fe_fr F (fun q j h => sq_hi h)⟩
                · skip
                  refine at_const (x := 1) dx_103_100 rfl ?_
                  refine at_goto dx_103_101 ?_
                  refine at_callVI dx_103_111 rfl lc_856 rfl (m_fails2 (by decide)) ?_
                  rintro x111 M111 r111 ⟨f111, h111⟩; replace h111 := ite01 h111
                  replace F : frE sqE M _ := fe_tr F (fe_le f111 (fun q j h => Or.inl ⟨h.1, by rw [h.2]; decide, by rw [h.2]; decide⟩))
                  refine at_pop dx_103_112 rfl ?_
                  refine at_vretV dx_103_113 ?_
                  exact ⟨MI_sq hM F, fe_fr F (fun q j h => sq_hi h)⟩
            · skip
              refine at_const (x := 1) dx_103_68 rfl ?_
              refine at_goto dx_103_69 ?_
              refine at_istore dx_103_71 ?_
              refine at_iload dx_103_72 rfl ?_
              refine at_zeqR dx_103_73 r3 (fun c73 => ?_) (fun c73 => ?_)
              · skip
                refine at_aload dx_103_97 rfl ?_
                refine at_iload dx_103_98 rfl ?_
                refine at_zneR dx_103_99 r3 (fun c99 => ?_) (fun c99 => ?_)
                · skip
                  refine at_iload dx_103_102 rfl ?_
                  refine at_zneR dx_103_103 (by decide) (fun c => absurd c (by decide)) (fun _ => ?_)
                  refine at_const (x := 2) dx_103_104 rfl ?_
                  refine at_goto dx_103_105 ?_
                  refine at_callVI dx_103_111 rfl lc_856 rfl (m_fails2 (by decide)) ?_
                  rintro x111 M111 r111 ⟨f111, h111⟩; replace h111 := ite01 h111
                  replace F : frE sqE M _ := fe_tr F (fe_le f111 (fun q j h => Or.inl ⟨h.1, by rw [h.2]; decide, by rw [h.2]; decide⟩))
                  refine at_pop dx_103_112 rfl ?_
                  refine at_vretV dx_103_113 ?_
                  exact ⟨MI_sq hM F, fe_fr F (fun q j h => sq_hi h)⟩
                · skip
                  refine at_const (x := 1) dx_103_100 rfl ?_
                  refine at_goto dx_103_101 ?_
                  refine at_callVI dx_103_111 rfl lc_856 rfl (m_fails2 (by decide)) ?_
                  rintro x111 M111 r111 ⟨f111, h111⟩; replace h111 := ite01 h111
                  replace F : frE sqE M _ := fe_tr F (fe_le f111 (fun q j h => Or.inl ⟨h.1, by rw [h.2]; decide, by rw [h.2]; decide⟩))
                  refine at_pop dx_103_112 rfl ?_
                  refine at_vretV dx_103_113 ?_
                  exact ⟨MI_sq hM F, fe_fr F (fun q j h => sq_hi h)⟩
              · skip
                refine at_iload dx_103_74 rfl ?_
                refine at_zeqR dx_103_75 (by decide) (fun _ => ?_) (fun c => absurd c (by decide))
                refine at_aload dx_103_97 rfl ?_
                refine at_iload dx_103_98 rfl ?_
                refine at_zneR dx_103_99 r3 (fun c99 => ?_) (fun c99 => ?_)
                · skip
                  refine at_iload dx_103_102 rfl ?_
                  refine at_zneR dx_103_103 (by decide) (fun c => absurd c (by decide)) (fun _ => ?_)
                  refine at_const (x := 2) dx_103_104 rfl ?_
                  refine at_goto dx_103_105 ?_
                  refine at_callVI dx_103_111 rfl lc_856 rfl (m_fails2 (by decide)) ?_
                  rintro x111 M111 r111 ⟨f111, h111⟩; replace h111 := ite01 h111
                  replace F : frE sqE M _ := fe_tr F (fe_le f111 (fun q j h => Or.inl ⟨h.1, by rw [h.2]; decide, by rw [h.2]; decide⟩))
                  refine at_pop dx_103_112 rfl ?_
                  refine at_vretV dx_103_113 ?_
                  exact ⟨MI_sq hM F, fe_fr F (fun q j h => sq_hi h)⟩
                · skip
                  refine at_const (x := 1) dx_103_100 rfl ?_
                  refine at_goto dx_103_101 ?_
                  refine at_callVI dx_103_111 rfl lc_856 rfl (m_fails2 (by decide)) ?_
                  rintro x111 M111 r111 ⟨f111, h111⟩; replace h111 := ite01 h111
                  replace F : frE sqE M _ := fe_tr F (fe_le f111 (fun q j h => Or.inl ⟨h.1, by rw [h.2]; decide, by rw [h.2]; decide⟩))
                  refine at_pop dx_103_112 rfl ?_
                  refine at_vretV dx_103_113 ?_
                  exact ⟨MI_sq hM F, fe_fr F (fun q j h => sq_hi h)⟩
      · skip
        refine at_iload dx_103_19 rfl ?_
        refine at_const (x := 0) dx_103_20 rfl ?_
        refine at_const (x := 3) dx_103_21 rfl ?_
        refine at_callSI dx_103_22 rfl rfl (m_isIn rb (by decide) (by decide)) ?_
        rintro x22 M9 r22 ⟨e9, h22⟩; replace e9 := e9.symm; subst e9; replace h22 := ite01 h22
        refine at_zeqR dx_103_23 r22 (fun c23 => ?_) (fun c23 => ?_)
        · skip
          refine at_const (x := 0) dx_103_26 rfl ?_
          refine at_istore dx_103_27 ?_
          refine at_iload dx_103_28 rfl ?_
          refine at_zeqR dx_103_29 r3 (fun c29 => ?_) (fun c29 => ?_)
          · skip
            refine at_const (x := 0) dx_103_38 rfl ?_
            refine at_istore dx_103_39 ?_
            refine at_aload dx_103_40 rfl ?_
            refine at_getR dx_103_41 lc_856 rfl lt_856_0 ?_
            refine at_iload dx_103_42 rfl ?_
            refine at_aldI dx_103_43 lc_857 ln_857 (by omega) (by omega) (fun r43 => ?_)
            refine at_istore dx_103_44 ?_
            refine at_aload dx_103_45 rfl ?_
            refine at_getR dx_103_46 lc_856 rfl lt_856_1 ?_
            refine at_iload dx_103_47 rfl ?_
            refine at_aldI dx_103_48 lc_858 ln_858 (by omega) (by omega) (fun r48 => ?_)
            refine at_istore dx_103_49 ?_
            refine at_aload dx_103_50 rfl ?_
            refine at_getI 13 dx_103_51 lc_856 rfl rfl (fun r51 => ?_)
            refine at_zneR dx_103_52 r51 (fun c52 => ?_) (fun c52 => ?_)
            · skip
              refine at_const (x := 0) dx_103_70 rfl ?_
              refine at_istore dx_103_71 ?_
              refine at_iload dx_103_72 rfl ?_
              refine at_zeqR dx_103_73 r3 (fun c73 => ?_) (fun c73 => ?_)
              · skip
                refine at_aload dx_103_97 rfl ?_
                refine at_iload dx_103_98 rfl ?_
                refine at_zneR dx_103_99 r3 (fun c99 => ?_) (fun c99 => ?_)
                · skip
                  refine at_iload dx_103_102 rfl ?_
                  refine at_zneR dx_103_103 (by decide) (fun c => absurd c (by decide)) (fun _ => ?_)
                  refine at_const (x := 2) dx_103_104 rfl ?_
                  refine at_goto dx_103_105 ?_
                  refine at_callVI dx_103_111 rfl lc_856 rfl (m_fails2 (by decide)) ?_
                  rintro x111 M111 r111 ⟨f111, h111⟩; replace h111 := ite01 h111
                  replace F : frE sqE M _ := fe_tr F (fe_le f111 (fun q j h => Or.inl ⟨h.1, by rw [h.2]; decide, by rw [h.2]; decide⟩))
                  refine at_pop dx_103_112 rfl ?_
                  refine at_vretV dx_103_113 ?_
                  exact ⟨MI_sq hM F, fe_fr F (fun q j h => sq_hi h)⟩
                · skip
                  refine at_const (x := 1) dx_103_100 rfl ?_
                  refine at_goto dx_103_101 ?_
                  refine at_callVI dx_103_111 rfl lc_856 rfl (m_fails2 (by decide)) ?_
                  rintro x111 M111 r111 ⟨f111, h111⟩; replace h111 := ite01 h111
                  replace F : frE sqE M _ := fe_tr F (fe_le f111 (fun q j h => Or.inl ⟨h.1, by rw [h.2]; decide, by rw [h.2]; decide⟩))
                  refine at_pop dx_103_112 rfl ?_
                  refine at_vretV dx_103_113 ?_
                  exact ⟨MI_sq hM F, fe_fr F (fun q j h => sq_hi h)⟩
              · skip
                refine at_iload dx_103_74 rfl ?_
                refine at_zeqR dx_103_75 (by decide) (fun _ => ?_) (fun c => absurd c (by decide))
                refine at_aload dx_103_97 rfl ?_
                refine at_iload dx_103_98 rfl ?_
                refine at_zneR dx_103_99 r3 (fun c99 => ?_) (fun c99 => ?_)
                · skip
                  refine at_iload dx_103_102 rfl ?_
                  refine at_zneR dx_103_103 (by decide) (fun c => absurd c (by decide)) (fun _ => ?_)
                  refine at_const (x := 2) dx_103_104 rfl ?_
                  refine at_goto dx_103_105 ?_
                  refine at_callVI dx_103_111 rfl lc_856 rfl (m_fails2 (by decide)) ?_
                  rintro x111 M111 r111 ⟨f111, h111⟩; replace h111 := ite01 h111
                  replace F : frE sqE M _ := fe_tr F (fe_le f111 (fun q j h => Or.inl ⟨h.1, by rw [h.2]; decide, by rw [h.2]; decide⟩))
                  refine at_pop dx_103_112 rfl ?_
                  refine at_vretV dx_103_113 ?_
                  exact ⟨MI_sq hM F, fe_fr F (fun q j h => sq_hi h)⟩
                · skip
                  refine at_const (x := 1) dx_103_100 rfl ?_
                  refine at_goto dx_103_101 ?_
                  refine at_callVI dx_103_111 rfl lc_856 rfl (m_fails2 (by decide)) ?_
                  rintro x111 M111 r111 ⟨f111, h111⟩; replace h111 := ite01 h111
                  replace F : frE sqE M _ := fe_tr F (fe_le f111 (fun q j h => Or.inl ⟨h.1, by rw [h.2]; decide, by rw [h.2]; decide⟩))
                  refine at_pop dx_103_112 rfl ?_
                  refine at_vretV dx_103_113 ?_
                  exact ⟨MI_sq hM F, fe_fr F (fun q j h => sq_hi h)⟩
            · skip
              refine at_aload dx_103_53 rfl ?_
              refine at_getR dx_103_54 lc_856 rfl lt_856_15 ?_
              refine at_const (x := 0) dx_103_55 rfl ?_
              refine at_aldI dx_103_56 lc_871 ln_871 (by decide) (by decide) (fun r56 => ?_)
              refine at_aload dx_103_57 rfl ?_
              refine at_getR dx_103_58 lc_856 rfl lt_856_15 ?_
              refine at_const (x := 1) dx_103_59 rfl ?_
              refine at_aldI dx_103_60 lc_871 ln_871 (by decide) (by decide) (fun r60 => ?_)
              refine at_addR dx_103_61 (by constructor <;> omega) (fun r61 => ?_)
              refine at_aload dx_103_62 rfl ?_
              refine at_getR dx_103_63 lc_856 rfl lt_856_15 ?_
              refine at_const (x := 2) dx_103_64 rfl ?_
              refine at_aldI dx_103_65 lc_871 ln_871 (by decide) (by decide) (fun r65 => ?_)
              refine at_addR dx_103_66 (by constructor <;> omega) (fun r66 => ?_)
              refine at_zneR dx_103_67 r66 (fun c67 => ?_) (fun c67 => ?_)
              · skip
                refine at_const (x := 0) dx_103_70 rfl ?_
                refine at_istore dx_103_71 ?_
                refine at_iload dx_103_72 rfl ?_
                refine at_zeqR dx_103_73 r3 (fun c73 => ?_) (fun c73 => ?_)
                · skip
                  refine at_aload dx_103_97 rfl ?_
                  refine at_iload dx_103_98 rfl ?_
                  refine at_zneR dx_103_99 r3 (fun c99 => ?_) (fun c99 => ?_)
                  · skip
                    refine at_iload dx_103_102 rfl ?_
                    refine at_zneR dx_103_103 (by decide) (fun c => absurd c (by decide)) (fun _ => ?_)
                    refine at_const (x := 2) dx_103_104 rfl ?_
                    refine at_goto dx_103_105 ?_
                    refine at_callVI dx_103_111 rfl lc_856 rfl (m_fails2 (by decide)) ?_
                    rintro x111 M111 r111 ⟨f111, h111⟩; replace h111 := ite01 h111
                    replace F : frE sqE M _ := fe_tr F (fe_le f111 (fun q j h => Or.inl ⟨h.1, by rw [h.2]; decide, by rw [h.2]; decide⟩))
                    refine at_pop dx_103_112 rfl ?_
                    refine at_vretV dx_103_113 ?_
                    exact ⟨MI_sq hM F, fe_fr F (fun q j h => sq_hi h)⟩
                  · skip
                    refine at_const (x := 1) dx_103_100 rfl ?_
                    refine at_goto dx_103_101 ?_
                    refine at_callVI dx_103_111 rfl lc_856 rfl (m_fails2 (by decide)) ?_
                    rintro x111 M111 r111 ⟨f111, h111⟩; replace h111 := ite01 h111
                    replace F : frE sqE M _ := fe_tr F (fe_le f111 (fun q j h => Or.inl ⟨h.1, by rw [h.2]; decide, by rw [h.2]; decide⟩))
                    refine at_pop dx_103_112 rfl ?_
                    refine at_vretV dx_103_113 ?_
                    exact ⟨MI_sq hM F, fe_fr F (fun q j h => sq_hi h)⟩
                · skip
                  refine at_iload dx_103_74 rfl ?_
                  refine at_zeqR dx_103_75 (by decide) (fun _ => ?_) (fun c => absurd c (by decide))
                  refine at_aload dx_103_97 rfl ?_
                  refine at_iload dx_103_98 rfl ?_
                  refine at_zneR dx_103_99 r3 (fun c99 => ?_) (fun c99 => ?_)
                  · skip
                    refine at_iload dx_103_102 rfl ?_
                    refine at_zneR dx_103_103 (by decide) (fun c => absurd c (by decide)) (fun _ => ?_)
                    refine at_const (x := 2) dx_103_104 rfl ?_
                    refine at_goto dx_103_105 ?_
                    refine at_callVI dx_103_111 rfl lc_856 rfl (m_fails2 (by decide)) ?_
                    rintro x111 M111 r111 ⟨f111, h111⟩; replace h111 := ite01 h111
                    replace F : frE sqE M _ := fe_tr F (fe_le f111 (fun q j h => Or.inl ⟨h.1, by rw [h.2]; decide, by rw [h.2]; decide⟩))
                    refine at_pop dx_103_112 rfl ?_
                    refine at_vretV dx_103_113 ?_
                    exact ⟨MI_sq hM F, fe_fr F (fun q j h => sq_hi h)⟩
                  · skip
                    refine at_const (x := 1) dx_103_100 rfl ?_
                    refine at_goto dx_103_101 ?_
                    refine at_callVI dx_103_111 rfl lc_856 rfl (m_fails2 (by decide)) ?_
                    rintro x111 M111 r111 ⟨f111, h111⟩; replace h111 := ite01 h111
                    replace F : frE sqE M _ := fe_tr F (fe_le f111 (fun q j h => Or.inl ⟨h.1, by rw [h.2]; decide, by rw [h.2]; decide⟩))
                    refine at_pop dx_103_112 rfl ?_
                    refine at_vretV dx_103_113 ?_
                    exact ⟨MI_sq hM F, fe_fr F (fun q j h => sq_hi h)⟩
              · skip
                refine at_const (x := 1) dx_103_68 rfl ?_
                refine at_goto dx_103_69 ?_
                refine at_istore dx_103_71 ?_
                refine at_iload dx_103_72 rfl ?_
                refine at_zeqR dx_103_73 r3 (fun c73 => ?_) (fun c73 => ?_)
                · skip
                  refine at_aload dx_103_97 rfl ?_
                  refine at_iload dx_103_98 rfl ?_
                  refine at_zneR dx_103_99 r3 (fun c99 => ?_) (fun c99 => ?_)
                  · skip
                    refine at_iload dx_103_102 rfl ?_
                    refine at_zneR dx_103_103 (by decide) (fun c => absurd c (by decide)) (fun _ => ?_)
                    refine at_const (x := 2) dx_103_104 rfl ?_
                    refine at_goto dx_103_105 ?_
                    refine at_callVI dx_103_111 rfl lc_856 rfl (m_fails2 (by decide)) ?_
                    rintro x111 M111 r111 ⟨f111, h111⟩; replace h111 := ite01 h111
                    replace F : frE sqE M _ := fe_tr F (fe_le f111 (fun q j h => Or.inl ⟨h.1, by rw [h.2]; decide, by rw [h.2]; decide⟩))
                    refine at_pop dx_103_112 rfl ?_
                    refine at_vretV dx_103_113 ?_
                    exact ⟨MI_sq hM F, fe_fr F (fun q j h => sq_hi h)⟩
                  · skip
                    refine at_const (x := 1) dx_103_100 rfl ?_
                    refine at_goto dx_103_101 ?_
                    refine at_callVI dx_103_111 rfl lc_856 rfl (m_fails2 (by decide)) ?_
                    rintro x111 M111 r111 ⟨f111, h111⟩; replace h111 := ite01 h111
                    replace F : frE sqE M _ := fe_tr F (fe_le f111 (fun q j h => Or.inl ⟨h.1, by rw [h.2]; decide, by rw [h.2]; decide⟩))
                    refine at_pop dx_103_112 rfl ?_
                    refine at_vretV dx_103_113 ?_
                    exact ⟨MI_sq hM F, fe_fr F (fun q j h => sq_hi h)⟩
                · skip
                  refine at_iload dx_103_74 rfl ?_
                  refine at_zeqR dx_103_75 (by decide) (fun _ => ?_) (fun c => absurd c (by decide))
                  refine at_aload dx_103_97 rfl ?_
                  refine at_iload dx_103_98 rfl ?_
                  refine at_zneR dx_103_99 r3 (fun c99 => ?_) (fun c99 => ?_)
                  · skip
                    refine at_iload dx_103_102 rfl ?_
                    refine at_zneR dx_103_103 (by decide) (fun c => absurd c (by decide)) (fun _ => ?_)
                    refine at_const (x := 2) dx_103_104 rfl ?_
                    refine at_goto dx_103_105 ?_
                    refine at_callVI dx_103_111 rfl lc_856 rfl (m_fails2 (by decide)) ?_
                    rintro x111 M111 r111 ⟨f111, h111⟩; replace h111 := ite01 h111
                    replace F : frE sqE M _ := fe_tr F (fe_le f111 (fun q j h => Or.inl ⟨h.1, by rw [h.2]; decide, by rw [h.2]; decide⟩))
                    refine at_pop dx_103_112 rfl ?_
                    refine at_vretV dx_103_113 ?_
                    exact ⟨MI_sq hM F, fe_fr F (fun q j h => sq_hi h)⟩
                  · skip
                    refine at_const (x := 1) dx_103_100 rfl ?_
                    refine at_goto dx_103_101 ?_
                    refine at_callVI dx_103_111 rfl lc_856 rfl (m_fails2 (by decide)) ?_
                    rintro x111 M111 r111 ⟨f111, h111⟩; replace h111 := ite01 h111
                    replace F : frE sqE M _ := fe_tr F (fe_le f111 (fun q j h => Or.inl ⟨h.1, by rw [h.2]; decide, by rw [h.2]; decide⟩))
                    refine at_pop dx_103_112 rfl ?_
                    refine at_vretV dx_103_113 ?_
                    exact ⟨MI_sq hM F, fe_fr F (fun q j h => sq_hi h)⟩
          · skip
            refine at_iload dx_103_30 rfl ?_
            refine at_zeqR dx_103_31 (by decide) (fun _ => ?_) (fun c => absurd c (by decide))
            refine at_const (x := 0) dx_103_38 rfl ?_
            refine at_istore dx_103_39 ?_
            refine at_aload dx_103_40 rfl ?_
            refine at_getR dx_103_41 lc_856 rfl lt_856_0 ?_
            refine at_iload dx_103_42 rfl ?_
            refine at_aldI dx_103_43 lc_857 ln_857 (by omega) (by omega) (fun r43 => ?_)
            refine at_istore dx_103_44 ?_
            refine at_aload dx_103_45 rfl ?_
            refine at_getR dx_103_46 lc_856 rfl lt_856_1 ?_
            refine at_iload dx_103_47 rfl ?_
            refine at_aldI dx_103_48 lc_858 ln_858 (by omega) (by omega) (fun r48 => ?_)
            refine at_istore dx_103_49 ?_
            refine at_aload dx_103_50 rfl ?_
            refine at_getI 13 dx_103_51 lc_856 rfl rfl (fun r51 => ?_)
            refine at_zneR dx_103_52 r51 (fun c52 => ?_) (fun c52 => ?_)
            · skip
              refine at_const (x := 0) dx_103_70 rfl ?_
              refine at_istore dx_103_71 ?_
              refine at_iload dx_103_72 rfl ?_
              refine at_zeqR dx_103_73 r3 (fun c73 => ?_) (fun c73 => ?_)
              · skip
                refine at_aload dx_103_97 rfl ?_
                refine at_iload dx_103_98 rfl ?_
                refine at_zneR dx_103_99 r3 (fun c99 => ?_) (fun c99 => ?_)
                · skip
                  refine at_iload dx_103_102 rfl ?_
                  refine at_zneR dx_103_103 (by decide) (fun c => absurd c (by decide)) (fun _ => ?_)
                  refine at_const (x := 2) dx_103_104 rfl ?_
                  refine at_goto dx_103_105 ?_
                  refine at_callVI dx_103_111 rfl lc_856 rfl (m_fails2 (by decide)) ?_
                  rintro x111 M111 r111 ⟨f111, h111⟩; replace h111 := ite01 h111
                  replace F : frE sqE M _ := fe_tr F (fe_le f111 (fun q j h => Or.inl ⟨h.1, by rw [h.2]; decide, by rw [h.2]; decide⟩))
                  refine at_pop dx_103_112 rfl ?_
                  refine at_vretV dx_103_113 ?_
                  exact ⟨MI_sq hM F, fe_fr F (fun q j h => sq_hi h)⟩
                · skip
                  refine at_const (x := 1) dx_103_100 rfl ?_
                  refine at_goto dx_103_101 ?_
                  refine at_callVI dx_103_111 rfl lc_856 rfl (m_fails2 (by decide)) ?_
                  rintro x111 M111 r111 ⟨f111, h111⟩; replace h111 := ite01 h111
                  replace F : frE sqE M _ := fe_tr F (fe_le f111 (fun q j h => Or.inl ⟨h.1, by rw [h.2]; decide, by rw [h.2]; decide⟩))
                  refine at_pop dx_103_112 rfl ?_
                  refine at_vretV dx_103_113 ?_
                  exact ⟨MI_sq hM F, fe_fr F (fun q j h => sq_hi h)⟩
              · skip
                refine at_iload dx_103_74 rfl ?_
                refine at_zeqR dx_103_75 (by decide) (fun _ => ?_) (fun c => absurd c (by decide))
                refine at_aload dx_103_97 rfl ?_
                refine at_iload dx_103_98 rfl ?_
                refine at_zneR dx_103_99 r3 (fun c99 => ?_) (fun c99 => ?_)
                · skip
                  refine at_iload dx_103_102 rfl ?_
                  refine at_zneR dx_103_103 (by decide) (fun c => absurd c (by decide)) (fun _ => ?_)
                  refine at_const (x := 2) dx_103_104 rfl ?_
                  refine at_goto dx_103_105 ?_
                  refine at_callVI dx_103_111 rfl lc_856 rfl (m_fails2 (by decide)) ?_
                  rintro x111 M111 r111 ⟨f111, h111⟩; replace h111 := ite01 h111
                  replace F : frE sqE M _ := fe_tr F (fe_le f111 (fun q j h => Or.inl ⟨h.1, by rw [h.2]; decide, by rw [h.2]; decide⟩))
                  refine at_pop dx_103_112 rfl ?_
                  refine at_vretV dx_103_113 ?_
                  exact ⟨MI_sq hM F, fe_fr F (fun q j h => sq_hi h)⟩
                · skip
                  refine at_const (x := 1) dx_103_100 rfl ?_
                  refine at_goto dx_103_101 ?_
                  refine at_callVI dx_103_111 rfl lc_856 rfl (m_fails2 (by decide)) ?_
                  rintro x111 M111 r111 ⟨f111, h111⟩; replace h111 := ite01 h111
                  replace F : frE sqE M _ := fe_tr F (fe_le f111 (fun q j h => Or.inl ⟨h.1, by rw [h.2]; decide, by rw [h.2]; decide⟩))
                  refine at_pop dx_103_112 rfl ?_
                  refine at_vretV dx_103_113 ?_
                  exact ⟨MI_sq hM F, fe_fr F (fun q j h => sq_hi h)⟩
            · skip
              refine at_aload dx_103_53 rfl ?_
              refine at_getR dx_103_54 lc_856 rfl lt_856_15 ?_
              refine at_const (x := 0) dx_103_55 rfl ?_
              refine at_aldI dx_103_56 lc_871 ln_871 (by decide) (by decide) (fun r56 => ?_)
              refine at_aload dx_103_57 rfl ?_
              refine at_getR dx_103_58 lc_856 rfl lt_856_15 ?_
              refine at_const (x := 1) dx_103_59 rfl ?_
              refine at_aldI dx_103_60 lc_871 ln_871 (by decide) (by decide) (fun r60 => ?_)
              refine at_addR dx_103_61 (by constructor <;> omega) (fun r61 => ?_)
              refine at_aload dx_103_62 rfl ?_
              refine at_getR dx_103_63 lc_856 rfl lt_856_15 ?_
              refine at_const (x := 2) dx_103_64 rfl ?_
              refine at_aldI dx_103_65 lc_871 ln_871 (by decide) (by decide) (fun r65 => ?_)
              refine at_addR dx_103_66 (by constructor <;> omega) (fun r66 => ?_)
              refine at_zneR dx_103_67 r66 (fun c67 => ?_) (fun c67 => ?_)
              · skip
                refine at_const (x := 0) dx_103_70 rfl ?_
                refine at_istore dx_103_71 ?_
                refine at_iload dx_103_72 rfl ?_
                refine at_zeqR dx_103_73 r3 (fun c73 => ?_) (fun c73 => ?_)
                · skip
                  refine at_aload dx_103_97 rfl ?_
                  refine at_iload dx_103_98 rfl ?_
                  refine at_zneR dx_103_99 r3 (fun c99 => ?_) (fun c99 => ?_)
                  · skip
                    refine at_iload dx_103_102 rfl ?_
                    refine at_zneR dx_103_103 (by decide) (fun c => absurd c (by decide)) (fun _ => ?_)
                    refine at_const (x := 2) dx_103_104 rfl ?_
                    refine at_goto dx_103_105 ?_
                    refine at_callVI dx_103_111 rfl lc_856 rfl (m_fails2 (by decide)) ?_
                    rintro x111 M111 r111 ⟨f111, h111⟩; replace h111 := ite01 h111
                    replace F : frE sqE M _ := fe_tr F (fe_le f111 (fun q j h => Or.inl ⟨h.1, by rw [h.2]; decide, by rw [h.2]; decide⟩))
                    refine at_pop dx_103_112 rfl ?_
                    refine at_vretV dx_103_113 ?_
                    exact ⟨MI_sq hM F, fe_fr F (fun q j h => sq_hi h)⟩
                  · skip
                    refine at_const (x := 1) dx_103_100 rfl ?_
                    refine at_goto dx_103_101 ?_
                    refine at_callVI dx_103_111 rfl lc_856 rfl (m_fails2 (by decide)) ?_
                    rintro x111 M111 r111 ⟨f111, h111⟩; replace h111 := ite01 h111
                    replace F : frE sqE M _ := fe_tr F (fe_le f111 (fun q j h => Or.inl ⟨h.1, by rw [h.2]; decide, by rw [h.2]; decide⟩))
                    refine at_pop dx_103_112 rfl ?_
                    refine at_vretV dx_103_113 ?_
                    exact ⟨MI_sq hM F, fe_fr F (fun q j h => sq_hi h)⟩
                · skip
                  refine at_iload dx_103_74 rfl ?_
                  refine at_zeqR dx_103_75 (by decide) (fun _ => ?_) (fun c => absurd c (by decide))
                  refine at_aload dx_103_97 rfl ?_
                  refine at_iload dx_103_98 rfl ?_
                  refine at_zneR dx_103_99 r3 (fun c99 => ?_) (fun c99 => ?_)
                  · skip
                    refine at_iload dx_103_102 rfl ?_
                    refine at_zneR dx_103_103 (by decide) (fun c => absurd c (by decide)) (fun _ => ?_)
                    refine at_const (x := 2) dx_103_104 rfl ?_
                    refine at_goto dx_103_105 ?_
                    refine at_callVI dx_103_111 rfl lc_856 rfl (m_fails2 (by decide)) ?_
                    rintro x111 M111 r111 ⟨f111, h111⟩; replace h111 := ite01 h111
                    replace F : frE sqE M _ := fe_tr F (fe_le f111 (fun q j h => Or.inl ⟨h.1, by rw [h.2]; decide, by rw [h.2]; decide⟩))
                    refine at_pop dx_103_112 rfl ?_
                    refine at_vretV dx_103_113 ?_
                    exact ⟨MI_sq hM F, fe_fr F (fun q j h => sq_hi h)⟩
                  · skip
                    refine at_const (x := 1) dx_103_100 rfl ?_
                    refine at_goto dx_103_101 ?_
                    refine at_callVI dx_103_111 rfl lc_856 rfl (m_fails2 (by decide)) ?_
                    rintro x111 M111 r111 ⟨f111, h111⟩; replace h111 := ite01 h111
                    replace F : frE sqE M _ := fe_tr F (fe_le f111 (fun q j h => Or.inl ⟨h.1, by rw [h.2]; decide, by rw [h.2]; decide⟩))
                    refine at_pop dx_103_112 rfl ?_
                    refine at_vretV dx_103_113 ?_
                    exact ⟨MI_sq hM F, fe_fr F (fun q j h => sq_hi h)⟩
              · skip
                refine at_const (x := 1) dx_103_68 rfl ?_
                refine at_goto dx_103_69 ?_
                refine at_istore dx_103_71 ?_
                refine at_iload dx_103_72 rfl ?_
                refine at_zeqR dx_103_73 r3 (fun c73 => ?_) (fun c73 => ?_)
                · skip
                  refine at_aload dx_103_97 rfl ?_
                  refine at_iload dx_103_98 rfl ?_
                  refine at_zneR dx_103_99 r3 (fun c99 => ?_) (fun c99 => ?_)
                  · skip
                    refine at_iload dx_103_102 rfl ?_
                    refine at_zneR dx_103_103 (by decide) (fun c => absurd c (by decide)) (fun _ => ?_)
                    refine at_const (x := 2) dx_103_104 rfl ?_
                    refine at_goto dx_103_105 ?_
                    refine at_callVI dx_103_111 rfl lc_856 rfl (m_fails2 (by decide)) ?_
                    rintro x111 M111 r111 ⟨f111, h111⟩; replace h111 := ite01 h111
                    replace F : frE sqE M _ := fe_tr F (fe_le f111 (fun q j h => Or.inl ⟨h.1, by rw [h.2]; decide, by rw [h.2]; decide⟩))
                    refine at_pop dx_103_112 rfl ?_
                    refine at_vretV dx_103_113 ?_
                    exact ⟨MI_sq hM F, fe_fr F (fun q j h => sq_hi h)⟩
                  · skip
                    refine at_const (x := 1) dx_103_100 rfl ?_
                    refine at_goto dx_103_101 ?_
                    refine at_callVI dx_103_111 rfl lc_856 rfl (m_fails2 (by decide)) ?_
                    rintro x111 M111 r111 ⟨f111, h111⟩; replace h111 := ite01 h111
                    replace F : frE sqE M _ := fe_tr F (fe_le f111 (fun q j h => Or.inl ⟨h.1, by rw [h.2]; decide, by rw [h.2]; decide⟩))
                    refine at_pop dx_103_112 rfl ?_
                    refine at_vretV dx_103_113 ?_
                    exact ⟨MI_sq hM F, fe_fr F (fun q j h => sq_hi h)⟩
                · skip
                  refine at_iload dx_103_74 rfl ?_
                  refine at_zeqR dx_103_75 (by decide) (fun _ => ?_) (fun c => absurd c (by decide))
                  refine at_aload dx_103_97 rfl ?_
                  refine at_iload dx_103_98 rfl ?_
                  refine at_zneR dx_103_99 r3 (fun c99 => ?_) (fun c99 => ?_)
                  · skip
                    refine at_iload dx_103_102 rfl ?_
                    refine at_zneR dx_103_103 (by decide) (fun c => absurd c (by decide)) (fun _ => ?_)
                    refine at_const (x := 2) dx_103_104 rfl ?_
                    refine at_goto dx_103_105 ?_
                    refine at_callVI dx_103_111 rfl lc_856 rfl (m_fails2 (by decide)) ?_
                    rintro x111 M111 r111 ⟨f111, h111⟩; replace h111 := ite01 h111
                    replace F : frE sqE M _ := fe_tr F (fe_le f111 (fun q j h => Or.inl ⟨h.1, by rw [h.2]; decide, by rw [h.2]; decide⟩))
                    refine at_pop dx_103_112 rfl ?_
                    refine at_vretV dx_103_113 ?_
                    exact ⟨MI_sq hM F, fe_fr F (fun q j h => sq_hi h)⟩
                  · skip
                    refine at_const (x := 1) dx_103_100 rfl ?_
                    refine at_goto dx_103_101 ?_
                    refine at_callVI dx_103_111 rfl lc_856 rfl (m_fails2 (by decide)) ?_
                    rintro x111 M111 r111 ⟨f111, h111⟩; replace h111 := ite01 h111
                    replace F : frE sqE M _ := fe_tr F (fe_le f111 (fun q j h => Or.inl ⟨h.1, by rw [h.2]; decide, by rw [h.2]; decide⟩))
                    refine at_pop dx_103_112 rfl ?_
                    refine at_vretV dx_103_113 ?_
                    exact ⟨MI_sq hM F, fe_fr F (fun q j h => sq_hi h)⟩
        · skip
          refine at_const (x := 1) dx_103_24 rfl ?_
          refine at_goto dx_103_25 ?_
          refine at_istore dx_103_27 ?_
          refine at_iload dx_103_28 rfl ?_
          refine at_zeqR dx_103_29 r3 (fun c29 => ?_) (fun c29 => ?_)
          · skip
            refine at_const (x := 0) dx_103_38 rfl ?_
            refine at_istore dx_103_39 ?_
            refine at_aload dx_103_40 rfl ?_
            refine at_getR dx_103_41 lc_856 rfl lt_856_0 ?_
            refine at_iload dx_103_42 rfl ?_
            refine at_aldI dx_103_43 lc_857 ln_857 (by omega) (by omega) (fun r43 => ?_)
            refine at_istore dx_103_44 ?_
            refine at_aload dx_103_45 rfl ?_
            refine at_getR dx_103_46 lc_856 rfl lt_856_1 ?_
            refine at_iload dx_103_47 rfl ?_
            refine at_aldI dx_103_48 lc_858 ln_858 (by omega) (by omega) (fun r48 => ?_)
            refine at_istore dx_103_49 ?_
            refine at_aload dx_103_50 rfl ?_
            refine at_getI 13 dx_103_51 lc_856 rfl rfl (fun r51 => ?_)
            refine at_zneR dx_103_52 r51 (fun c52 => ?_) (fun c52 => ?_)
            · skip
              refine at_const (x := 0) dx_103_70 rfl ?_
              refine at_istore dx_103_71 ?_
              refine at_iload dx_103_72 rfl ?_
              refine at_zeqR dx_103_73 r3 (fun c73 => ?_) (fun c73 => ?_)
              · skip
                refine at_aload dx_103_97 rfl ?_
                refine at_iload dx_103_98 rfl ?_
                refine at_zneR dx_103_99 r3 (fun c99 => ?_) (fun c99 => ?_)
                · skip
                  refine at_iload dx_103_102 rfl ?_
                  refine at_zneR dx_103_103 (by decide) (fun _ => ?_) (fun c => absurd c (by decide))
                  refine at_iload dx_103_106 rfl ?_
                  refine at_zeqR dx_103_107 (by decide) (fun _ => ?_) (fun c => absurd c (by decide))
                  refine at_const (x := 3) dx_103_110 rfl ?_
                  refine at_callVI dx_103_111 rfl lc_856 rfl (m_fails2 (by decide)) ?_
                  rintro x111 M111 r111 ⟨f111, h111⟩; replace h111 := ite01 h111
                  replace F : frE sqE M _ := fe_tr F (fe_le f111 (fun q j h => Or.inl ⟨h.1, by rw [h.2]; decide, by rw [h.2]; decide⟩))
                  refine at_pop dx_103_112 rfl ?_
                  refine at_vretV dx_103_113 ?_
                  exact ⟨MI_sq hM F, fe_fr F (fun q j h => sq_hi h)⟩
                · skip
                  refine at_const (x := 1) dx_103_100 rfl ?_
                  refine at_goto dx_103_101 ?_
                  refine at_callVI dx_103_111 rfl lc_856 rfl (m_fails2 (by decide)) ?_
                  rintro x111 M111 r111 ⟨f111, h111⟩; replace h111 := ite01 h111
                  replace F : frE sqE M _ := fe_tr F (fe_le f111 (fun q j h => Or.inl ⟨h.1, by rw [h.2]; decide, by rw [h.2]; decide⟩))
                  refine at_pop dx_103_112 rfl ?_
                  refine at_vretV dx_103_113 ?_
                  exact ⟨MI_sq hM F, fe_fr F (fun q j h => sq_hi h)⟩
              · skip
                refine at_iload dx_103_74 rfl ?_
                refine at_zeqR dx_103_75 (by decide) (fun c => absurd c (by decide)) (fun _ => ?_)
                refine at_iload dx_103_76 rfl ?_
                refine at_zeqR dx_103_77 (by decide) (fun _ => ?_) (fun c => absurd c (by decide))
                refine at_aload dx_103_97 rfl ?_
                refine at_iload dx_103_98 rfl ?_
                refine at_zneR dx_103_99 r3 (fun c99 => ?_) (fun c99 => ?_)
                · skip
                  refine at_iload dx_103_102 rfl ?_
                  refine at_zneR dx_103_103 (by decide) (fun _ => ?_) (fun c => absurd c (by decide))
                  refine at_iload dx_103_106 rfl ?_
                  refine at_zeqR dx_103_107 (by decide) (fun _ => ?_) (fun c => absurd c (by decide))
                  refine at_const (x := 3) dx_103_110 rfl ?_
                  refine at_callVI dx_103_111 rfl lc_856 rfl (m_fails2 (by decide)) ?_
                  rintro x111 M111 r111 ⟨f111, h111⟩; replace h111 := ite01 h111
                  replace F : frE sqE M _ := fe_tr F (fe_le f111 (fun q j h => Or.inl ⟨h.1, by rw [h.2]; decide, by rw [h.2]; decide⟩))
                  refine at_pop dx_103_112 rfl ?_
                  refine at_vretV dx_103_113 ?_
                  exact ⟨MI_sq hM F, fe_fr F (fun q j h => sq_hi h)⟩
                · skip
                  refine at_const (x := 1) dx_103_100 rfl ?_
                  refine at_goto dx_103_101 ?_
                  refine at_callVI dx_103_111 rfl lc_856 rfl (m_fails2 (by decide)) ?_
                  rintro x111 M111 r111 ⟨f111, h111⟩; replace h111 := ite01 h111
                  replace F : frE sqE M _ := fe_tr F (fe_le f111 (fun q j h => Or.inl ⟨h.1, by rw [h.2]; decide, by rw [h.2]; decide⟩))
                  refine at_pop dx_103_112 rfl ?_
                  refine at_vretV dx_103_113 ?_
                  exact ⟨MI_sq hM F, fe_fr F (fun q j h => sq_hi h)⟩
            · skip
              refine at_aload dx_103_53 rfl ?_
              refine at_getR dx_103_54 lc_856 rfl lt_856_15 ?_
              refine at_const (x := 0) dx_103_55 rfl ?_
              refine at_aldI dx_103_56 lc_871 ln_871 (by decide) (by decide) (fun r56 => ?_)
              refine at_aload dx_103_57 rfl ?_
              refine at_getR dx_103_58 lc_856 rfl lt_856_15 ?_
              refine at_const (x := 1) dx_103_59 rfl ?_
              refine at_aldI dx_103_60 lc_871 ln_871 (by decide) (by decide) (fun r60 => ?_)
              refine at_addR dx_103_61 (by constructor <;> omega) (fun r61 => ?_)
              refine at_aload dx_103_62 rfl ?_
              refine at_getR dx_103_63 lc_856 rfl lt_856_15 ?_
              refine at_const (x := 2) dx_103_64 rfl ?_
              refine at_aldI dx_103_65 lc_871 ln_871 (by decide) (by decide) (fun r65 => ?_)
              refine at_addR dx_103_66 (by constructor <;> omega) (fun r66 => ?_)
              refine at_zneR dx_103_67 r66 (fun c67 => ?_) (fun c67 => ?_)
              · skip
                refine at_const (x := 0) dx_103_70 rfl ?_
                refine at_istore dx_103_71 ?_
                refine at_iload dx_103_72 rfl ?_
                refine at_zeqR dx_103_73 r3 (fun c73 => ?_) (fun c73 => ?_)
                · skip
                  refine at_aload dx_103_97 rfl ?_
                  refine at_iload dx_103_98 rfl ?_
                  refine at_zneR dx_103_99 r3 (fun c99 => ?_) (fun c99 => ?_)
                  · skip
                    refine at_iload dx_103_102 rfl ?_
                    refine at_zneR dx_103_103 (by decide) (fun _ => ?_) (fun c => absurd c (by decide))
                    refine at_iload dx_103_106 rfl ?_
                    refine at_zeqR dx_103_107 (by decide) (fun _ => ?_) (fun c => absurd c (by decide))
                    refine at_const (x := 3) dx_103_110 rfl ?_
                    refine at_callVI dx_103_111 rfl lc_856 rfl (m_fails2 (by decide)) ?_
                    rintro x111 M111 r111 ⟨f111, h111⟩; replace h111 := ite01 h111
                    replace F : frE sqE M _ := fe_tr F (fe_le f111 (fun q j h => Or.inl ⟨h.1, by rw [h.2]; decide, by rw [h.2]; decide⟩))
                    refine at_pop dx_103_112 rfl ?_
                    refine at_vretV dx_103_113 ?_
                    exact ⟨MI_sq hM F, fe_fr F (fun q j h => sq_hi h)⟩
                  · skip
                    refine at_const (x := 1) dx_103_100 rfl ?_
                    refine at_goto dx_103_101 ?_
                    refine at_callVI dx_103_111 rfl lc_856 rfl (m_fails2 (by decide)) ?_
                    rintro x111 M111 r111 ⟨f111, h111⟩; replace h111 := ite01 h111
                    replace F : frE sqE M _ := fe_tr F (fe_le f111 (fun q j h => Or.inl ⟨h.1, by rw [h.2]; decide, by rw [h.2]; decide⟩))
                    refine at_pop dx_103_112 rfl ?_
                    refine at_vretV dx_103_113 ?_
                    exact ⟨MI_sq hM F, fe_fr F (fun q j h => sq_hi h)⟩
                · skip
                  refine at_iload dx_103_74 rfl ?_
                  refine at_zeqR dx_103_75 (by decide) (fun c => absurd c (by decide)) (fun _ => ?_)
                  refine at_iload dx_103_76 rfl ?_
                  refine at_zeqR dx_103_77 (by decide) (fun _ => ?_) (fun c => absurd c (by decide))
                  refine at_aload dx_103_97 rfl ?_
                  refine at_iload dx_103_98 rfl ?_
                  refine at_zneR dx_103_99 r3 (fun c99 => ?_) (fun c99 => ?_)
                  · skip
                    refine at_iload dx_103_102 rfl ?_
                    refine at_zneR dx_103_103 (by decide) (fun _ => ?_) (fun c => absurd c (by decide))
                    refine at_iload dx_103_106 rfl ?_
                    refine at_zeqR dx_103_107 (by decide) (fun _ => ?_) (fun c => absurd c (by decide))
                    refine at_const (x := 3) dx_103_110 rfl ?_
                    refine at_callVI dx_103_111 rfl lc_856 rfl (m_fails2 (by decide)) ?_
                    rintro x111 M111 r111 ⟨f111, h111⟩; replace h111 := ite01 h111
                    replace F : frE sqE M _ := fe_tr F (fe_le f111 (fun q j h => Or.inl ⟨h.1, by rw [h.2]; decide, by rw [h.2]; decide⟩))
                    refine at_pop dx_103_112 rfl ?_
                    refine at_vretV dx_103_113 ?_
                    exact ⟨MI_sq hM F, fe_fr F (fun q j h => sq_hi h)⟩
                  · skip
                    refine at_const (x := 1) dx_103_100 rfl ?_
                    refine at_goto dx_103_101 ?_
                    refine at_callVI dx_103_111 rfl lc_856 rfl (m_fails2 (by decide)) ?_
                    rintro x111 M111 r111 ⟨f111, h111⟩; replace h111 := ite01 h111
                    replace F : frE sqE M _ := fe_tr F (fe_le f111 (fun q j h => Or.inl ⟨h.1, by rw [h.2]; decide, by rw [h.2]; decide⟩))
                    refine at_pop dx_103_112 rfl ?_
                    refine at_vretV dx_103_113 ?_
                    exact ⟨MI_sq hM F, fe_fr F (fun q j h => sq_hi h)⟩
              · skip
                refine at_const (x := 1) dx_103_68 rfl ?_
                refine at_goto dx_103_69 ?_
                refine at_istore dx_103_71 ?_
                refine at_iload dx_103_72 rfl ?_
                refine at_zeqR dx_103_73 r3 (fun c73 => ?_) (fun c73 => ?_)
                · skip
                  refine at_aload dx_103_97 rfl ?_
                  refine at_iload dx_103_98 rfl ?_
                  refine at_zneR dx_103_99 r3 (fun c99 => ?_) (fun c99 => ?_)
                  · skip
                    refine at_iload dx_103_102 rfl ?_
                    refine at_zneR dx_103_103 (by decide) (fun _ => ?_) (fun c => absurd c (by decide))
                    refine at_iload dx_103_106 rfl ?_
                    refine at_zeqR dx_103_107 (by decide) (fun c => absurd c (by decide)) (fun _ => ?_)
                    refine at_const (x := 0) dx_103_108 rfl ?_
                    refine at_goto dx_103_109 ?_
                    refine at_callVI dx_103_111 rfl lc_856 rfl (m_fails2 (by decide)) ?_
                    rintro x111 M111 r111 ⟨f111, h111⟩; replace h111 := ite01 h111
                    replace F : frE sqE M _ := fe_tr F (fe_le f111 (fun q j h => Or.inl ⟨h.1, by rw [h.2]; decide, by rw [h.2]; decide⟩))
                    refine at_pop dx_103_112 rfl ?_
                    refine at_vretV dx_103_113 ?_
                    exact ⟨MI_sq hM F, fe_fr F (fun q j h => sq_hi h)⟩
                  · skip
                    refine at_const (x := 1) dx_103_100 rfl ?_
                    refine at_goto dx_103_101 ?_
                    refine at_callVI dx_103_111 rfl lc_856 rfl (m_fails2 (by decide)) ?_
                    rintro x111 M111 r111 ⟨f111, h111⟩; replace h111 := ite01 h111
                    replace F : frE sqE M _ := fe_tr F (fe_le f111 (fun q j h => Or.inl ⟨h.1, by rw [h.2]; decide, by rw [h.2]; decide⟩))
                    refine at_pop dx_103_112 rfl ?_
                    refine at_vretV dx_103_113 ?_
                    exact ⟨MI_sq hM F, fe_fr F (fun q j h => sq_hi h)⟩
                · skip
                  refine at_iload dx_103_74 rfl ?_
                  refine at_zeqR dx_103_75 (by decide) (fun c => absurd c (by decide)) (fun _ => ?_)
                  refine at_iload dx_103_76 rfl ?_
                  refine at_zeqR dx_103_77 (by decide) (fun c => absurd c (by decide)) (fun _ => ?_)
                  refine at_aload dx_103_78 rfl ?_
                  refine at_iload dx_103_79 rfl ?_
                  refine at_iload dx_103_80 rfl ?_
                  refine at_iload dx_103_81 rfl ?_
                  refine at_iload dx_103_82 rfl ?_
                  refine at_callVV dx_103_83 rfl lc_856 rfl (m_sets2 rt re ra rb (by omega) (by omega)) ?_
                  rintro M83 f83
                  replace F : frE sqE M _ := fe_tr F (fe_le f83 (fun q j h => Or.inr (Or.inl h)))
                  refine at_aload dx_103_84 rfl ?_
                  refine at_callVV dx_103_85 rfl lc_856 rfl (m_begins) ?_
                  rintro M85 ⟨f85, l85, -⟩
                  replace F : frE sqE M _ := fe_tr F (fe_le f85 (fun q j h => sq_C (by (try dsimp only at h); omega)))
                  refine at_aload dx_103_86 rfl ?_
                  refine at_callVI dx_103_87 rfl lc_856 rfl (m_isValid (by omega)) ?_
                  rintro x87 M87 r87 ⟨f87, b87, -⟩
                  replace F : frE sqE M _ := fe_tr F (fe_le f87 (fun q j h => sq_C (by (try dsimp only at h); omega)))
                  refine at_istore dx_103_88 ?_
                  refine at_iload dx_103_89 rfl ?_
                  refine at_zneR dx_103_90 r87 (fun c90 => ?_) (fun c90 => ?_)
                  · skip
                    refine at_aload dx_103_97 rfl ?_
                    refine at_iload dx_103_98 rfl ?_
                    refine at_zneR dx_103_99 r3 (fun c99 => ?_) (fun c99 => ?_)
                    · skip
                      refine at_iload dx_103_102 rfl ?_
                      refine at_zneR dx_103_103 (by decide) (fun _ => ?_) (fun c => absurd c (by decide))
                      refine at_iload dx_103_106 rfl ?_
                      refine at_zeqR dx_103_107 r87 (fun c107 => ?_) (fun c107 => ?_)
                      · skip
                        refine at_const (x := 3) dx_103_110 rfl ?_
                        refine at_callVI dx_103_111 rfl lc_856 rfl (m_fails2 (by decide)) ?_
                        rintro x111 M111 r111 ⟨f111, h111⟩; replace h111 := ite01 h111
                        replace F : frE sqE M _ := fe_tr F (fe_le f111 (fun q j h => Or.inl ⟨h.1, by rw [h.2]; decide, by rw [h.2]; decide⟩))
                        refine at_pop dx_103_112 rfl ?_
                        refine at_vretV dx_103_113 ?_
                        exact ⟨MI_sq hM F, fe_fr F (fun q j h => sq_hi h)⟩
                      · skip
                        refine at_const (x := 0) dx_103_108 rfl ?_
                        refine at_goto dx_103_109 ?_
                        refine at_callVI dx_103_111 rfl lc_856 rfl (m_fails2 (by decide)) ?_
                        rintro x111 M111 r111 ⟨f111, h111⟩; replace h111 := ite01 h111
                        replace F : frE sqE M _ := fe_tr F (fe_le f111 (fun q j h => Or.inl ⟨h.1, by rw [h.2]; decide, by rw [h.2]; decide⟩))
                        refine at_pop dx_103_112 rfl ?_
                        refine at_vretV dx_103_113 ?_
                        exact ⟨MI_sq hM F, fe_fr F (fun q j h => sq_hi h)⟩
                    · skip
                      refine at_const (x := 1) dx_103_100 rfl ?_
                      refine at_goto dx_103_101 ?_
                      refine at_callVI dx_103_111 rfl lc_856 rfl (m_fails2 (by decide)) ?_
                      rintro x111 M111 r111 ⟨f111, h111⟩; replace h111 := ite01 h111
                      replace F : frE sqE M _ := fe_tr F (fe_le f111 (fun q j h => Or.inl ⟨h.1, by rw [h.2]; decide, by rw [h.2]; decide⟩))
                      refine at_pop dx_103_112 rfl ?_
                      refine at_vretV dx_103_113 ?_
                      exact ⟨MI_sq hM F, fe_fr F (fun q j h => sq_hi h)⟩
                  · skip
                    refine at_aload dx_103_91 rfl ?_
                    refine at_iload dx_103_92 rfl ?_
                    refine at_iload dx_103_93 rfl ?_
                    refine at_iload dx_103_94 rfl ?_
                    refine at_iload dx_103_95 rfl ?_
                    refine at_callVV dx_103_96 rfl lc_856 rfl (m_sets2 rt re r43 r48 (by omega) (by omega)) ?_
                    rintro M96 f96
                    replace F : frE sqE M _ := fe_tr F (fe_le f96 (fun q j h => Or.inr (Or.inl h)))
                    refine at_aload dx_103_97 rfl ?_
                    refine at_iload dx_103_98 rfl ?_
                    refine at_zneR dx_103_99 r3 (fun c99 => ?_) (fun c99 => ?_)
                    · skip
                      refine at_iload dx_103_102 rfl ?_
                      refine at_zneR dx_103_103 (by decide) (fun _ => ?_) (fun c => absurd c (by decide))
                      refine at_iload dx_103_106 rfl ?_
                      refine at_zeqR dx_103_107 r87 (fun c107 => ?_) (fun c107 => ?_)
                      · skip
                        refine at_const (x := 3) dx_103_110 rfl ?_
                        refine at_callVI dx_103_111 rfl lc_856 rfl (m_fails2 (by decide)) ?_
                        rintro x111 M111 r111 ⟨f111, h111⟩; replace h111 := ite01 h111
                        replace F : frE sqE M _ := fe_tr F (fe_le f111 (fun q j h => Or.inl ⟨h.1, by rw [h.2]; decide, by rw [h.2]; decide⟩))
                        refine at_pop dx_103_112 rfl ?_
                        refine at_vretV dx_103_113 ?_
                        exact ⟨MI_sq hM F, fe_fr F (fun q j h => sq_hi h)⟩
                      · skip
                        refine at_const (x := 0) dx_103_108 rfl ?_
                        refine at_goto dx_103_109 ?_
                        refine at_callVI dx_103_111 rfl lc_856 rfl (m_fails2 (by decide)) ?_
                        rintro x111 M111 r111 ⟨f111, h111⟩; replace h111 := ite01 h111
                        replace F : frE sqE M _ := fe_tr F (fe_le f111 (fun q j h => Or.inl ⟨h.1, by rw [h.2]; decide, by rw [h.2]; decide⟩))
                        refine at_pop dx_103_112 rfl ?_
                        refine at_vretV dx_103_113 ?_
                        exact ⟨MI_sq hM F, fe_fr F (fun q j h => sq_hi h)⟩
                    · skip
                      refine at_const (x := 1) dx_103_100 rfl ?_
                      refine at_goto dx_103_101 ?_
                      refine at_callVI dx_103_111 rfl lc_856 rfl (m_fails2 (by decide)) ?_
                      rintro x111 M111 r111 ⟨f111, h111⟩; replace h111 := ite01 h111
                      replace F : frE sqE M _ := fe_tr F (fe_le f111 (fun q j h => Or.inl ⟨h.1, by rw [h.2]; decide, by rw [h.2]; decide⟩))
                      refine at_pop dx_103_112 rfl ?_
                      refine at_vretV dx_103_113 ?_
                      exact ⟨MI_sq hM F, fe_fr F (fun q j h => sq_hi h)⟩
          · skip
            refine at_iload dx_103_30 rfl ?_
            refine at_zeqR dx_103_31 (by decide) (fun c => absurd c (by decide)) (fun _ => ?_)
            refine at_const (x := 3) dx_103_32 rfl ?_
            refine at_iload dx_103_33 rfl ?_
            refine at_mulR dx_103_34 (by constructor <;> omega) (fun r34 => ?_)
            refine at_iload dx_103_35 rfl ?_
            refine at_addR dx_103_36 (by constructor <;> omega) (fun r36 => ?_)
            refine at_goto dx_103_37 ?_
            refine at_istore dx_103_39 ?_
            refine at_aload dx_103_40 rfl ?_
            refine at_getR dx_103_41 lc_856 rfl lt_856_0 ?_
            refine at_iload dx_103_42 rfl ?_
            refine at_aldI dx_103_43 lc_857 ln_857 (by omega) (by omega) (fun r43 => ?_)
            refine at_istore dx_103_44 ?_
            refine at_aload dx_103_45 rfl ?_
            refine at_getR dx_103_46 lc_856 rfl lt_856_1 ?_
            refine at_iload dx_103_47 rfl ?_
            refine at_aldI dx_103_48 lc_858 ln_858 (by omega) (by omega) (fun r48 => ?_)
            refine at_istore dx_103_49 ?_
            refine at_aload dx_103_50 rfl ?_
            refine at_getI 13 dx_103_51 lc_856 rfl rfl (fun r51 => ?_)
            refine at_zneR dx_103_52 r51 (fun c52 => ?_) (fun c52 => ?_)
            · skip
              refine at_const (x := 0) dx_103_70 rfl ?_
              refine at_istore dx_103_71 ?_
              refine at_iload dx_103_72 rfl ?_
              refine at_zeqR dx_103_73 r3 (fun c73 => ?_) (fun c73 => ?_)
              · skip
                refine at_aload dx_103_97 rfl ?_
                refine at_iload dx_103_98 rfl ?_
                refine at_zneR dx_103_99 r3 (fun c99 => ?_) (fun c99 => ?_)
                · skip
                  refine at_iload dx_103_102 rfl ?_
                  refine at_zneR dx_103_103 (by decide) (fun _ => ?_) (fun c => absurd c (by decide))
                  refine at_iload dx_103_106 rfl ?_
                  refine at_zeqR dx_103_107 (by decide) (fun _ => ?_) (fun c => absurd c (by decide))
                  refine at_const (x := 3) dx_103_110 rfl ?_
                  refine at_callVI dx_103_111 rfl lc_856 rfl (m_fails2 (by decide)) ?_
                  rintro x111 M111 r111 ⟨f111, h111⟩; replace h111 := ite01 h111
                  replace F : frE sqE M _ := fe_tr F (fe_le f111 (fun q j h => Or.inl ⟨h.1, by rw [h.2]; decide, by rw [h.2]; decide⟩))
                  refine at_pop dx_103_112 rfl ?_
                  refine at_vretV dx_103_113 ?_
                  exact ⟨MI_sq hM F, fe_fr F (fun q j h => sq_hi h)⟩
                · skip
                  refine at_const (x := 1) dx_103_100 rfl ?_
                  refine at_goto dx_103_101 ?_
                  refine at_callVI dx_103_111 rfl lc_856 rfl (m_fails2 (by decide)) ?_
                  rintro x111 M111 r111 ⟨f111, h111⟩; replace h111 := ite01 h111
                  replace F : frE sqE M _ := fe_tr F (fe_le f111 (fun q j h => Or.inl ⟨h.1, by rw [h.2]; decide, by rw [h.2]; decide⟩))
                  refine at_pop dx_103_112 rfl ?_
                  refine at_vretV dx_103_113 ?_
                  exact ⟨MI_sq hM F, fe_fr F (fun q j h => sq_hi h)⟩
              · skip
                refine at_iload dx_103_74 rfl ?_
                refine at_zeqR dx_103_75 (by decide) (fun c => absurd c (by decide)) (fun _ => ?_)
                refine at_iload dx_103_76 rfl ?_
                refine at_zeqR dx_103_77 (by decide) (fun _ => ?_) (fun c => absurd c (by decide))
                refine at_aload dx_103_97 rfl ?_
                refine at_iload dx_103_98 rfl ?_
                refine at_zneR dx_103_99 r3 (fun c99 => ?_) (fun c99 => ?_)
                · skip
                  refine at_iload dx_103_102 rfl ?_
                  refine at_zneR dx_103_103 (by decide) (fun _ => ?_) (fun c => absurd c (by decide))
                  refine at_iload dx_103_106 rfl ?_
                  refine at_zeqR dx_103_107 (by decide) (fun _ => ?_) (fun c => absurd c (by decide))
                  refine at_const (x := 3) dx_103_110 rfl ?_
                  refine at_callVI dx_103_111 rfl lc_856 rfl (m_fails2 (by decide)) ?_
                  rintro x111 M111 r111 ⟨f111, h111⟩; replace h111 := ite01 h111
                  replace F : frE sqE M _ := fe_tr F (fe_le f111 (fun q j h => Or.inl ⟨h.1, by rw [h.2]; decide, by rw [h.2]; decide⟩))
                  refine at_pop dx_103_112 rfl ?_
                  refine at_vretV dx_103_113 ?_
                  exact ⟨MI_sq hM F, fe_fr F (fun q j h => sq_hi h)⟩
                · skip
                  refine at_const (x := 1) dx_103_100 rfl ?_
                  refine at_goto dx_103_101 ?_
                  refine at_callVI dx_103_111 rfl lc_856 rfl (m_fails2 (by decide)) ?_
                  rintro x111 M111 r111 ⟨f111, h111⟩; replace h111 := ite01 h111
                  replace F : frE sqE M _ := fe_tr F (fe_le f111 (fun q j h => Or.inl ⟨h.1, by rw [h.2]; decide, by rw [h.2]; decide⟩))
                  refine at_pop dx_103_112 rfl ?_
                  refine at_vretV dx_103_113 ?_
                  exact ⟨MI_sq hM F, fe_fr F (fun q j h => sq_hi h)⟩
            · skip
              refine at_aload dx_103_53 rfl ?_
              refine at_getR dx_103_54 lc_856 rfl lt_856_15 ?_
              refine at_const (x := 0) dx_103_55 rfl ?_
              refine at_aldI dx_103_56 lc_871 ln_871 (by decide) (by decide) (fun r56 => ?_)
              refine at_aload dx_103_57 rfl ?_
              refine at_getR dx_103_58 lc_856 rfl lt_856_15 ?_
              refine at_const (x := 1) dx_103_59 rfl ?_
              refine at_aldI dx_103_60 lc_871 ln_871 (by decide) (by decide) (fun r60 => ?_)
              refine at_addR dx_103_61 (by constructor <;> omega) (fun r61 => ?_)
              refine at_aload dx_103_62 rfl ?_
              refine at_getR dx_103_63 lc_856 rfl lt_856_15 ?_
              refine at_const (x := 2) dx_103_64 rfl ?_
              refine at_aldI dx_103_65 lc_871 ln_871 (by decide) (by decide) (fun r65 => ?_)
              refine at_addR dx_103_66 (by constructor <;> omega) (fun r66 => ?_)
              refine at_zneR dx_103_67 r66 (fun c67 => ?_) (fun c67 => ?_)
              · skip
                refine at_const (x := 0) dx_103_70 rfl ?_
                refine at_istore dx_103_71 ?_
                refine at_iload dx_103_72 rfl ?_
                refine at_zeqR dx_103_73 r3 (fun c73 => ?_) (fun c73 => ?_)
                · skip
                  refine at_aload dx_103_97 rfl ?_
                  refine at_iload dx_103_98 rfl ?_
                  refine at_zneR dx_103_99 r3 (fun c99 => ?_) (fun c99 => ?_)
                  · skip
                    refine at_iload dx_103_102 rfl ?_
                    refine at_zneR dx_103_103 (by decide) (fun _ => ?_) (fun c => absurd c (by decide))
                    refine at_iload dx_103_106 rfl ?_
                    refine at_zeqR dx_103_107 (by decide) (fun _ => ?_) (fun c => absurd c (by decide))
                    refine at_const (x := 3) dx_103_110 rfl ?_
                    refine at_callVI dx_103_111 rfl lc_856 rfl (m_fails2 (by decide)) ?_
                    rintro x111 M111 r111 ⟨f111, h111⟩; replace h111 := ite01 h111
                    replace F : frE sqE M _ := fe_tr F (fe_le f111 (fun q j h => Or.inl ⟨h.1, by rw [h.2]; decide, by rw [h.2]; decide⟩))
                    refine at_pop dx_103_112 rfl ?_
                    refine at_vretV dx_103_113 ?_
                    exact ⟨MI_sq hM F, fe_fr F (fun q j h => sq_hi h)⟩
                  · skip
                    refine at_const (x := 1) dx_103_100 rfl ?_
                    refine at_goto dx_103_101 ?_
                    refine at_callVI dx_103_111 rfl lc_856 rfl (m_fails2 (by decide)) ?_
                    rintro x111 M111 r111 ⟨f111, h111⟩; replace h111 := ite01 h111
                    replace F : frE sqE M _ := fe_tr F (fe_le f111 (fun q j h => Or.inl ⟨h.1, by rw [h.2]; decide, by rw [h.2]; decide⟩))
                    refine at_pop dx_103_112 rfl ?_
                    refine at_vretV dx_103_113 ?_
                    exact ⟨MI_sq hM F, fe_fr F (fun q j h => sq_hi h)⟩
                · skip
                  refine at_iload dx_103_74 rfl ?_
                  refine at_zeqR dx_103_75 (by decide) (fun c => absurd c (by decide)) (fun _ => ?_)
                  refine at_iload dx_103_76 rfl ?_
                  refine at_zeqR dx_103_77 (by decide) (fun _ => ?_) (fun c => absurd c (by decide))
                  refine at_aload dx_103_97 rfl ?_
                  refine at_iload dx_103_98 rfl ?_
                  refine at_zneR dx_103_99 r3 (fun c99 => ?_) (fun c99 => ?_)
                  · skip
                    refine at_iload dx_103_102 rfl ?_
                    refine at_zneR dx_103_103 (by decide) (fun _ => ?_) (fun c => absurd c (by decide))
                    refine at_iload dx_103_106 rfl ?_
                    refine at_zeqR dx_103_107 (by decide) (fun _ => ?_) (fun c => absurd c (by decide))
                    refine at_const (x := 3) dx_103_110 rfl ?_
                    refine at_callVI dx_103_111 rfl lc_856 rfl (m_fails2 (by decide)) ?_
                    rintro x111 M111 r111 ⟨f111, h111⟩; replace h111 := ite01 h111
                    replace F : frE sqE M _ := fe_tr F (fe_le f111 (fun q j h => Or.inl ⟨h.1, by rw [h.2]; decide, by rw [h.2]; decide⟩))
                    refine at_pop dx_103_112 rfl ?_
                    refine at_vretV dx_103_113 ?_
                    exact ⟨MI_sq hM F, fe_fr F (fun q j h => sq_hi h)⟩
                  · skip
                    refine at_const (x := 1) dx_103_100 rfl ?_
                    refine at_goto dx_103_101 ?_
                    refine at_callVI dx_103_111 rfl lc_856 rfl (m_fails2 (by decide)) ?_
                    rintro x111 M111 r111 ⟨f111, h111⟩; replace h111 := ite01 h111
                    replace F : frE sqE M _ := fe_tr F (fe_le f111 (fun q j h => Or.inl ⟨h.1, by rw [h.2]; decide, by rw [h.2]; decide⟩))
                    refine at_pop dx_103_112 rfl ?_
                    refine at_vretV dx_103_113 ?_
                    exact ⟨MI_sq hM F, fe_fr F (fun q j h => sq_hi h)⟩
              · skip
                refine at_const (x := 1) dx_103_68 rfl ?_
                refine at_goto dx_103_69 ?_
                refine at_istore dx_103_71 ?_
                refine at_iload dx_103_72 rfl ?_
                refine at_zeqR dx_103_73 r3 (fun c73 => ?_) (fun c73 => ?_)
                · skip
                  refine at_aload dx_103_97 rfl ?_
                  refine at_iload dx_103_98 rfl ?_
                  refine at_zneR dx_103_99 r3 (fun c99 => ?_) (fun c99 => ?_)
                  · skip
                    refine at_iload dx_103_102 rfl ?_
                    refine at_zneR dx_103_103 (by decide) (fun _ => ?_) (fun c => absurd c (by decide))
                    refine at_iload dx_103_106 rfl ?_
                    refine at_zeqR dx_103_107 (by decide) (fun c => absurd c (by decide)) (fun _ => ?_)
                    refine at_const (x := 0) dx_103_108 rfl ?_
                    refine at_goto dx_103_109 ?_
                    refine at_callVI dx_103_111 rfl lc_856 rfl (m_fails2 (by decide)) ?_
                    rintro x111 M111 r111 ⟨f111, h111⟩; replace h111 := ite01 h111
                    replace F : frE sqE M _ := fe_tr F (fe_le f111 (fun q j h => Or.inl ⟨h.1, by rw [h.2]; decide, by rw [h.2]; decide⟩))
                    refine at_pop dx_103_112 rfl ?_
                    refine at_vretV dx_103_113 ?_
                    exact ⟨MI_sq hM F, fe_fr F (fun q j h => sq_hi h)⟩
                  · skip
                    refine at_const (x := 1) dx_103_100 rfl ?_
                    refine at_goto dx_103_101 ?_
                    refine at_callVI dx_103_111 rfl lc_856 rfl (m_fails2 (by decide)) ?_
                    rintro x111 M111 r111 ⟨f111, h111⟩; replace h111 := ite01 h111
                    replace F : frE sqE M _ := fe_tr F (fe_le f111 (fun q j h => Or.inl ⟨h.1, by rw [h.2]; decide, by rw [h.2]; decide⟩))
                    refine at_pop dx_103_112 rfl ?_
                    refine at_vretV dx_103_113 ?_
                    exact ⟨MI_sq hM F, fe_fr F (fun q j h => sq_hi h)⟩
                · skip
                  refine at_iload dx_103_74 rfl ?_
                  refine at_zeqR dx_103_75 (by decide) (fun c => absurd c (by decide)) (fun _ => ?_)
                  refine at_iload dx_103_76 rfl ?_
                  refine at_zeqR dx_103_77 (by decide) (fun c => absurd c (by decide)) (fun _ => ?_)
                  refine at_aload dx_103_78 rfl ?_
                  refine at_iload dx_103_79 rfl ?_
                  refine at_iload dx_103_80 rfl ?_
                  refine at_iload dx_103_81 rfl ?_
                  refine at_iload dx_103_82 rfl ?_
                  refine at_callVV dx_103_83 rfl lc_856 rfl (m_sets2 rt re ra rb (by omega) (by omega)) ?_
                  rintro M83 f83
                  replace F : frE sqE M _ := fe_tr F (fe_le f83 (fun q j h => Or.inr (Or.inl h)))
                  refine at_aload dx_103_84 rfl ?_
                  refine at_callVV dx_103_85 rfl lc_856 rfl (m_begins) ?_
                  rintro M85 ⟨f85, l85, -⟩
                  replace F : frE sqE M _ := fe_tr F (fe_le f85 (fun q j h => sq_C (by (try dsimp only at h); omega)))
                  refine at_aload dx_103_86 rfl ?_
                  refine at_callVI dx_103_87 rfl lc_856 rfl (m_isValid (by omega)) ?_
                  rintro x87 M87 r87 ⟨f87, b87, -⟩
                  replace F : frE sqE M _ := fe_tr F (fe_le f87 (fun q j h => sq_C (by (try dsimp only at h); omega)))
                  refine at_istore dx_103_88 ?_
                  refine at_iload dx_103_89 rfl ?_
                  refine at_zneR dx_103_90 r87 (fun c90 => ?_) (fun c90 => ?_)
                  · skip
                    refine at_aload dx_103_97 rfl ?_
                    refine at_iload dx_103_98 rfl ?_
                    refine at_zneR dx_103_99 r3 (fun c99 => ?_) (fun c99 => ?_)
                    · skip
                      refine at_iload dx_103_102 rfl ?_
                      refine at_zneR dx_103_103 (by decide) (fun _ => ?_) (fun c => absurd c (by decide))
                      refine at_iload dx_103_106 rfl ?_
                      refine at_zeqR dx_103_107 r87 (fun c107 => ?_) (fun c107 => ?_)
                      · skip
                        refine at_const (x := 3) dx_103_110 rfl ?_
                        refine at_callVI dx_103_111 rfl lc_856 rfl (m_fails2 (by decide)) ?_
                        rintro x111 M111 r111 ⟨f111, h111⟩; replace h111 := ite01 h111
                        replace F : frE sqE M _ := fe_tr F (fe_le f111 (fun q j h => Or.inl ⟨h.1, by rw [h.2]; decide, by rw [h.2]; decide⟩))
                        refine at_pop dx_103_112 rfl ?_
                        refine at_vretV dx_103_113 ?_
                        exact ⟨MI_sq hM F, fe_fr F (fun q j h => sq_hi h)⟩
                      · skip
                        refine at_const (x := 0) dx_103_108 rfl ?_
                        refine at_goto dx_103_109 ?_
                        refine at_callVI dx_103_111 rfl lc_856 rfl (m_fails2 (by decide)) ?_
                        rintro x111 M111 r111 ⟨f111, h111⟩; replace h111 := ite01 h111
                        replace F : frE sqE M _ := fe_tr F (fe_le f111 (fun q j h => Or.inl ⟨h.1, by rw [h.2]; decide, by rw [h.2]; decide⟩))
                        refine at_pop dx_103_112 rfl ?_
                        refine at_vretV dx_103_113 ?_
                        exact ⟨MI_sq hM F, fe_fr F (fun q j h => sq_hi h)⟩
                    · skip
                      refine at_const (x := 1) dx_103_100 rfl ?_
                      refine at_goto dx_103_101 ?_
                      refine at_callVI dx_103_111 rfl lc_856 rfl (m_fails2 (by decide)) ?_
                      rintro x111 M111 r111 ⟨f111, h111⟩; replace h111 := ite01 h111
                      replace F : frE sqE M _ := fe_tr F (fe_le f111 (fun q j h => Or.inl ⟨h.1, by rw [h.2]; decide, by rw [h.2]; decide⟩))
                      refine at_pop dx_103_112 rfl ?_
                      refine at_vretV dx_103_113 ?_
                      exact ⟨MI_sq hM F, fe_fr F (fun q j h => sq_hi h)⟩
                  · skip
                    refine at_aload dx_103_91 rfl ?_
                    refine at_iload dx_103_92 rfl ?_
                    refine at_iload dx_103_93 rfl ?_
                    refine at_iload dx_103_94 rfl ?_
                    refine at_iload dx_103_95 rfl ?_
                    refine at_callVV dx_103_96 rfl lc_856 rfl (m_sets2 rt re r43 r48 (by omega) (by omega)) ?_
                    rintro M96 f96
                    replace F : frE sqE M _ := fe_tr F (fe_le f96 (fun q j h => Or.inr (Or.inl h)))
                    refine at_aload dx_103_97 rfl ?_
                    refine at_iload dx_103_98 rfl ?_
                    refine at_zneR dx_103_99 r3 (fun c99 => ?_) (fun c99 => ?_)
                    · skip
                      refine at_iload dx_103_102 rfl ?_
                      refine at_zneR dx_103_103 (by decide) (fun _ => ?_) (fun c => absurd c (by decide))
                      refine at_iload dx_103_106 rfl ?_
                      refine at_zeqR dx_103_107 r87 (fun c107 => ?_) (fun c107 => ?_)
                      · skip
                        refine at_const (x := 3) dx_103_110 rfl ?_
                        refine at_callVI dx_103_111 rfl lc_856 rfl (m_fails2 (by decide)) ?_
                        rintro x111 M111 r111 ⟨f111, h111⟩; replace h111 := ite01 h111
                        replace F : frE sqE M _ := fe_tr F (fe_le f111 (fun q j h => Or.inl ⟨h.1, by rw [h.2]; decide, by rw [h.2]; decide⟩))
                        refine at_pop dx_103_112 rfl ?_
                        refine at_vretV dx_103_113 ?_
                        exact ⟨MI_sq hM F, fe_fr F (fun q j h => sq_hi h)⟩
                      · skip
                        refine at_const (x := 0) dx_103_108 rfl ?_
                        refine at_goto dx_103_109 ?_
                        refine at_callVI dx_103_111 rfl lc_856 rfl (m_fails2 (by decide)) ?_
                        rintro x111 M111 r111 ⟨f111, h111⟩; replace h111 := ite01 h111
                        replace F : frE sqE M _ := fe_tr F (fe_le f111 (fun q j h => Or.inl ⟨h.1, by rw [h.2]; decide, by rw [h.2]; decide⟩))
                        refine at_pop dx_103_112 rfl ?_
                        refine at_vretV dx_103_113 ?_
                        exact ⟨MI_sq hM F, fe_fr F (fun q j h => sq_hi h)⟩
                    · skip
                      refine at_const (x := 1) dx_103_100 rfl ?_
                      refine at_goto dx_103_101 ?_
                      refine at_callVI dx_103_111 rfl lc_856 rfl (m_fails2 (by decide)) ?_
                      rintro x111 M111 r111 ⟨f111, h111⟩; replace h111 := ite01 h111
                      replace F : frE sqE M _ := fe_tr F (fe_le f111 (fun q j h => Or.inl ⟨h.1, by rw [h.2]; decide, by rw [h.2]; decide⟩))
                      refine at_pop dx_103_112 rfl ?_
                      refine at_vretV dx_103_113 ?_
                      exact ⟨MI_sq hM F, fe_fr F (fun q j h => sq_hi h)⟩

set_option maxRecDepth 100000 in
set_option maxHeartbeats 4000000 in
theorem r_comment {X : scr} {M : mem} {f t : Int} (rf : inR f) (rt : inR t) (hM : MI M) : At X 0 158 0 [vr 856, vi f, vi t] [] M (qI (fun x M' => MI M' ∧ fr hi M M')) := by
  have F : frE sqE M M := fe_rf
  have hk := hM.2.2.1
  refine at_aload dx_158_0 rfl ?_
  refine at_const (x := 3) dx_158_1 rfl ?_
  refine at_iload dx_158_2 rfl ?_
  refine at_callVI dx_158_3 rfl lc_856 rfl (m_isPlace (by decide) rf) ?_
  rintro x3 M9 r3 ⟨e9, h3⟩; replace e9 := e9.symm; subst e9; replace h3 := ite01 h3
  refine at_zeqR dx_158_4 r3 (fun c4 => ?_) (fun c4 => ?_)
  · skip
    refine at_const (x := 0) dx_158_12 rfl ?_
    refine at_istore dx_158_13 ?_
    refine at_aload dx_158_14 rfl ?_
    refine at_iload dx_158_15 rfl ?_
    refine at_zneR dx_158_16 (by decide) (fun c => absurd c (by decide)) (fun _ => ?_)
    refine at_const (x := 1) dx_158_17 rfl ?_
    refine at_goto dx_158_18 ?_
    refine at_callVI dx_158_31 rfl lc_856 rfl (m_fails2 (by decide)) ?_
    rintro x31 M31 r31 ⟨f31, h31⟩; replace h31 := ite01 h31
    replace F : frE sqE M _ := fe_tr F (fe_le f31 (fun q j h => Or.inl ⟨h.1, by rw [h.2]; decide, by rw [h.2]; decide⟩))
    obtain rfl : x31 = 1 := by omega
    refine at_zeqR dx_158_32 (by decide) (fun c => absurd c (by decide)) (fun _ => ?_)
    refine at_const (x := 0) dx_158_33 rfl ?_
    refine at_iretI dx_158_34 (by decide) ?_
    first | exact ⟨k1, k2⟩ | exact ⟨MI_sq hM F, fe_fr F (fun q j h => sq_hi h)⟩
  · skip
    refine at_aload dx_158_5 rfl ?_
    refine at_const (x := 3) dx_158_6 rfl ?_
    refine at_iload dx_158_7 rfl ?_
    refine at_callVI dx_158_8 rfl lc_856 rfl (m_isPlace (by decide) rt) ?_
    rintro x8 M9 r8 ⟨e9, h8⟩; replace e9 := e9.symm; subst e9; replace h8 := ite01 h8
    refine at_zeqR dx_158_9 r8 (fun c9 => ?_) (fun c9 => ?_)
    · skip
      refine at_const (x := 0) dx_158_12 rfl ?_
      refine at_istore dx_158_13 ?_
      refine at_aload dx_158_14 rfl ?_
      refine at_iload dx_158_15 rfl ?_
      refine at_zneR dx_158_16 (by decide) (fun c => absurd c (by decide)) (fun _ => ?_)
      refine at_const (x := 1) dx_158_17 rfl ?_
      refine at_goto dx_158_18 ?_
      refine at_callVI dx_158_31 rfl lc_856 rfl (m_fails2 (by decide)) ?_
      rintro x31 M31 r31 ⟨f31, h31⟩; replace h31 := ite01 h31
      replace F : frE sqE M _ := fe_tr F (fe_le f31 (fun q j h => Or.inl ⟨h.1, by rw [h.2]; decide, by rw [h.2]; decide⟩))
      obtain rfl : x31 = 1 := by omega
      refine at_zeqR dx_158_32 (by decide) (fun c => absurd c (by decide)) (fun _ => ?_)
      refine at_const (x := 0) dx_158_33 rfl ?_
      refine at_iretI dx_158_34 (by decide) ?_
      first | exact ⟨k1, k2⟩ | exact ⟨MI_sq hM F, fe_fr F (fun q j h => sq_hi h)⟩
    · skip
      refine at_const (x := 1) dx_158_10 rfl ?_
      refine at_goto dx_158_11 ?_
      refine at_istore dx_158_13 ?_
      refine at_aload dx_158_14 rfl ?_
      refine at_iload dx_158_15 rfl ?_
      refine at_zneR dx_158_16 (by decide) (fun _ => ?_) (fun c => absurd c (by decide))
      refine at_iload dx_158_19 rfl ?_
      refine at_iload dx_158_20 rfl ?_
      refine at_cgtR dx_158_21 rt rf (fun c21 => ?_) (fun c21 => ?_)
      · skip
        refine at_aload dx_158_24 rfl ?_
        refine at_getI 19 dx_158_25 lc_856 rfl rfl (fun r25 => ?_)
        refine at_const (x := 10) dx_158_26 rfl ?_
        refine at_cneR dx_158_27 r25 (by decide) (fun c27 => ?_) (fun c27 => ?_)
        · skip
          refine at_const (x := 0) dx_158_30 rfl ?_
          refine at_callVI dx_158_31 rfl lc_856 rfl (m_fails2 (by decide)) ?_
          rintro x31 M31 r31 ⟨f31, h31⟩; replace h31 := ite01 h31
          replace F : frE sqE M _ := fe_tr F (fe_le f31 (fun q j h => Or.inl ⟨h.1, by rw [h.2]; decide, by rw [h.2]; decide⟩))
          obtain rfl : x31 = 0 := by omega
          refine at_zeqR dx_158_32 (by decide) (fun _ => ?_) (fun c => absurd c (by decide))
          have e19 : M31 856 19 = M 856 19 := f31 856 19 (by decide)
          refine at_aload dx_158_35 rfl ?_
          refine at_getR dx_158_36 lc_856 rfl lt_856_20 ?_
          refine at_aload dx_158_37 rfl ?_
          refine at_getI 19 dx_158_38 lc_856 rfl rfl (fun r38 => ?_)
          refine at_iload dx_158_39 rfl ?_
          refine at_astI dx_158_40 lc_875 ln_875 (by first | omega | (simp (disch := omega) only [um_eq, um_k, um_j]; omega)) (by first | omega | (simp (disch := omega) only [um_eq, um_k, um_j]; omega)) rf ?_
          refine at_aload dx_158_41 rfl ?_
          refine at_getR dx_158_42 lc_856 rfl lt_856_21 ?_
          refine at_aload dx_158_43 rfl ?_
          refine at_getI 19 dx_158_44 lc_856 rfl rfl (fun r44 => ?_)
          refine at_iload dx_158_45 rfl ?_
          refine at_astI dx_158_46 lc_876 ln_876 (by first | omega | (simp (disch := omega) only [um_eq, um_k, um_j]; omega)) (by first | omega | (simp (disch := omega) only [um_eq, um_k, um_j]; omega)) rt ?_
          refine at_aload dx_158_47 rfl ?_
          refine at_dup dx_158_48 rfl ?_
          refine at_getI 19 dx_158_49 lc_856 rfl rfl (fun r49 => ?_)
          refine at_const (x := 1) dx_158_50 rfl ?_
          refine at_addR dx_158_51 (by (first | (constructor <;> omega) | (simp (disch := omega) only [um_k, um_j, um_eq]; constructor <;> omega))) (fun r51 => ?_)
          refine at_putI 19 dx_158_52 lc_856 rfl rfl r51 ?_
          refine at_aload dx_158_53 rfl ?_
          refine at_getI 19 dx_158_54 lc_856 rfl rfl (fun r54 => ?_)
          refine at_const (x := 1) dx_158_55 rfl ?_
          refine at_subR dx_158_56 (by (first | (constructor <;> omega) | (simp (disch := omega) only [um_k, um_j, um_eq]; constructor <;> omega))) (fun r56 => ?_)
          refine at_iretI dx_158_57 r56 ?_
          have hs : ∀ a b : Int, MI (um (um M31 875 (M31 856 19) a) 876 (um M31 875 (M31 856 19) a 856 19) b) := fun a b => MI_sq hM (fe_ums (fe_ums F (Or.inr (Or.inr (Or.inr (Or.inr (Or.inr (Or.inr (Or.inr (by decide))))))))) (Or.inr (Or.inr (Or.inr (Or.inr (Or.inr (Or.inr (Or.inr (by decide)))))))))
          refine ⟨MI_19 (hs _ _) ?_, ?_⟩
          · simp (disch := omega) only [um_k]; omega
          · exact fe_fr (P := fun q j => 856 ≤ q) (fe_ums (fe_ums (fe_ums (fe_le F (fun q j h => sq_hi h)) (by decide)) (by decide)) (by decide)) (fun q j h => h)
        · skip
          refine at_const (x := 3) dx_158_28 rfl ?_
          refine at_goto dx_158_29 ?_
          refine at_callVI dx_158_31 rfl lc_856 rfl (m_fails2 (by decide)) ?_
          rintro x31 M31 r31 ⟨f31, h31⟩; replace h31 := ite01 h31
          replace F : frE sqE M _ := fe_tr F (fe_le f31 (fun q j h => Or.inl ⟨h.1, by rw [h.2]; decide, by rw [h.2]; decide⟩))
          obtain rfl : x31 = 1 := by omega
          refine at_zeqR dx_158_32 (by decide) (fun c => absurd c (by decide)) (fun _ => ?_)
          refine at_const (x := 0) dx_158_33 rfl ?_
          refine at_iretI dx_158_34 (by decide) ?_
          first | exact ⟨k1, k2⟩ | exact ⟨MI_sq hM F, fe_fr F (fun q j h => sq_hi h)⟩
      · skip
        refine at_const (x := 2) dx_158_22 rfl ?_
        refine at_goto dx_158_23 ?_
        refine at_callVI dx_158_31 rfl lc_856 rfl (m_fails2 (by decide)) ?_
        rintro x31 M31 r31 ⟨f31, h31⟩; replace h31 := ite01 h31
        replace F : frE sqE M _ := fe_tr F (fe_le f31 (fun q j h => Or.inl ⟨h.1, by rw [h.2]; decide, by rw [h.2]; decide⟩))
        obtain rfl : x31 = 1 := by omega
        refine at_zeqR dx_158_32 (by decide) (fun c => absurd c (by decide)) (fun _ => ?_)
        refine at_const (x := 0) dx_158_33 rfl ?_
        refine at_iretI dx_158_34 (by decide) ?_
        first | exact ⟨k1, k2⟩ | exact ⟨MI_sq hM F, fe_fr F (fun q j h => sq_hi h)⟩

set_option maxRecDepth 100000 in
set_option maxHeartbeats 4000000 in
theorem r_copy {X : scr} {M : mem} {c f t : Int} (rc : inR c) (rf : inR f) (rt : inR t) (hM : MI M) : At X 0 137 0 [vr 856, vi c, vi f, vi t] [] M (qI (fun x M' => MI M' ∧ fr hi M M')) := by
  have F : frE sqE M M := fe_rf
  have hS := fun h1 h2 => hM.1 c h1 h2
  have l4 : ∀ (n9 : Nat) (n d o l i : Int) (M1 : mem) (rn : inR n) (rd : inR d) (ro : inR o) (rl : inR l) (ri : inR i) (hj : 0 ≤ i ∧ i ≤ l) (hd : 0 ≤ d ∧ d ≤ f) (hl : l ≤ M 860 c - t) (hnn : n = d + (t - f) + i) (hn : (l - i).toNat = n9) (hc : 0 ≤ c ∧ c ≤ 2) (hft : 0 ≤ f ∧ f < t ∧ t ≤ M 860 c) (F : frE sqE M M1), At X 0 137 137 [vr 856, vi c, vi f, vi t, vi 1, vi n, vi d, vi o, vi l, vi i] [] M1 (qI (fun x M' => MI M' ∧ fr hi M M')) := by
    intro n9
    induction n9 using Nat.strongRecOn with
    | ind n9 ih =>
    intro n d o l i M1 rn rd ro rl ri hj hd hl hnn hn hc hft F
    have gt : ∀ (q : Nat) (j : Int), (q = 859 ∨ q = 860) → M1 q j = M q j := fun q j hq => F q j (by (try dsimp only [sqE]); omega)
    have hs6 := hM.1 c hc.1 (by omega)
    have df := dsm_facts (k := f) hM (show 0 ≤ c ∧ c ≤ 3 by omega) (by omega)
    have dt := dsm_facts (k := t) hM (show 0 ≤ c ∧ c ≤ 3 by omega) (by omega)
    refine at_iload dx_137_137 rfl ?_
    refine at_iload dx_137_138 rfl ?_
    refine at_cgeR dx_137_139 ri rl (fun c139 => ?_) (fun c139 => ?_)
    · skip
      refine at_aload dx_137_152 rfl ?_
      refine at_getR dx_137_153 lc_856 rfl lt_856_18 ?_
      refine at_iload dx_137_154 rfl ?_
      refine at_iload dx_137_155 rfl ?_
      refine at_astI dx_137_156 lc_874 ln_874 (by first | omega | (simp (disch := omega) only [um_eq, um_k, um_j]; omega)) (by first | omega | (simp (disch := omega) only [um_eq, um_k, um_j]; omega)) rn ?_
      refine at_iload dx_137_157 rfl ?_
      refine at_iretI dx_137_158 rn ?_
      have FE : frE (fun q j => sqE q j ∨ ceE c q j) M (um M1 874 c n) := fe_ums (fe_le F (fun q j h => Or.inl h)) (Or.inr (Or.inr (Or.inl ⟨Or.inr (Or.inr (Or.inr rfl)), rfl⟩)))
      have hmc := MC_fe hM hc F (fun q j h => h)
      obtain ⟨b1, b2, b3, b, b4, b5⟩ := hmc
      have Fu : frE (fun q j => q = 874 ∧ j = c) M1 (um M1 874 c n) := fe_um ⟨rfl, rfl⟩
      refine ⟨MI_cl hM hc FE (by rw [um_k (by decide), gt 860 c (Or.inr rfl)]; exact hs6) ⟨b1, b2, by rw [um_eq]; omega, b, ?_, ?_⟩, fe_fr (P := fun q j => 856 ≤ q) (fe_ums (fe_le F (fun q j h => sq_hi h)) (by decide)) (fun q j h => h)⟩
      · rw [lgW_fe Fu (fun q j e => by (try dsimp only at e); omega)]; exact b4
      · rw [pdW_fe Fu (fun q j e => by (try dsimp only at e); omega)]; exact b5
    · skip
      refine at_aload dx_137_140 rfl ?_
      refine at_getR dx_137_141 lc_856 rfl lt_856_17 ?_
      refine at_const (x := 60) dx_137_142 rfl ?_
      refine at_iload dx_137_143 rfl ?_
      refine at_mulR dx_137_144 (by constructor <;> omega) (fun r144 => ?_)
      refine at_iload dx_137_145 rfl ?_
      refine at_addR dx_137_146 (by constructor <;> omega) (fun r146 => ?_)
      refine at_const (x := 0) dx_137_147 rfl ?_
      refine at_astI dx_137_148 lc_873 ln_873 (by first | omega | (simp (disch := omega) only [um_eq, um_k, um_j]; omega)) (by first | omega | (simp (disch := omega) only [um_eq, um_k, um_j]; omega)) (by decide) ?_
      refine at_iincR (y := 1) dx_137_149 rfl rfl (by constructor <;> omega) (fun r149 => ?_)
      refine at_iincR (y := 1) dx_137_150 rfl rfl (by constructor <;> omega) (fun r150 => ?_)
      refine at_goto dx_137_151 ?_
      exact ih _ (by omega) _ _ _ _ _ _ r149 rd ro rl r150 (by omega) hd hl (by omega) rfl hc hft (fe_ums F (Or.inr (Or.inr (Or.inr (Or.inr (Or.inr (Or.inr (Or.inl (by decide)))))))))
  have l3 : ∀ (n9 : Nat) (n d o l k : Int) (M1 : mem) (rn : inR n) (rd : inR d) (ro : inR o) (rl : inR l) (rk : inR k) (hk : f ≤ k ∧ k ≤ t) (hd : 0 ≤ d ∧ d ≤ f) (hl : 0 ≤ l ∧ l ≤ dsm (dc M c) k.toNat) (hnn : n = d + (k - f)) (hn : (t - k).toNat = n9) (hc : 0 ≤ c ∧ c ≤ 2) (hft : 0 ≤ f ∧ f < t ∧ t ≤ M 860 c) (F : frE sqE M M1), At X 0 137 100 [vr 856, vi c, vi f, vi t, vi 1, vi n, vi d, vi o, vi l, vi k] [] M1 (qI (fun x M' => MI M' ∧ fr hi M M')) := by
    intro n9
    induction n9 using Nat.strongRecOn with
    | ind n9 ih =>
    intro n d o l k M1 rn rd ro rl rk hk hd hl hnn hn hc hft F
    have gt : ∀ (q : Nat) (j : Int), (q = 859 ∨ q = 860) → M1 q j = M q j := fun q j hq => F q j (by (try dsimp only [sqE]); omega)
    have hs6 := hM.1 c hc.1 (by omega)
    have df := dsm_facts (k := f) hM (show 0 ≤ c ∧ c ≤ 3 by omega) (by omega)
    have dt := dsm_facts (k := t) hM (show 0 ≤ c ∧ c ≤ 3 by omega) (by omega)
    have hkf := dsm_facts (k := k) hM (show 0 ≤ c ∧ c ≤ 3 by omega) (by omega)
    have hnx := fun (h : k < t) => dsm_next (M := M) (c := c) (k := k) (by omega)
    have hnf := fun (h : k < t) => dsm_facts (k := k + 1) hM (show 0 ≤ c ∧ c ≤ 3 by omega) (by omega)
    refine at_iload dx_137_100 rfl ?_
    refine at_iload dx_137_101 rfl ?_
    refine at_cgeR dx_137_102 rk rt (fun c102 => ?_) (fun c102 => ?_)
    · skip
      refine at_const (x := 0) dx_137_135 rfl ?_
      refine at_istore dx_137_136 ?_
      exact l4 _ _ _ _ _ 0 _ rn rd ro rl (by decide) (by omega) hd (by omega) (by omega) rfl hc hft F
    · skip
      refine at_aload dx_137_103 rfl ?_
      refine at_iload dx_137_104 rfl ?_
      refine at_iload dx_137_105 rfl ?_
      refine at_callVI dx_137_106 rfl lc_856 rfl (m_tokenOf rc rk (by omega) (by omega)) ?_
      rintro x106 M9 r106 ⟨e9, h106⟩; replace e9 := e9.symm; subst e9
      refine at_istore dx_137_107 ?_
      refine at_iload dx_137_108 rfl ?_
      refine at_iload dx_137_109 rfl ?_
      refine at_callSI dx_137_110 rfl rfl (m_opens r106) ?_
      rintro x110 M9 r110 ⟨e9, h110⟩; replace e9 := e9.symm; subst e9; replace h110 := ite01 h110
      refine at_zeqR dx_137_111 r110 (fun c111 => ?_) (fun c111 => ?_)
      · skip
        refine at_iload dx_137_114 rfl ?_
        refine at_zneR dx_137_115 r106 (fun c115 => ?_) (fun c115 => ?_)
        · skip
          refine at_const (x := 0) dx_137_120 rfl ?_
          refine at_addR dx_137_121 (by constructor <;> omega) (fun r121 => ?_)
          refine at_istore dx_137_122 ?_
          refine at_aload dx_137_123 rfl ?_
          refine at_getR dx_137_124 lc_856 rfl lt_856_17 ?_
          refine at_const (x := 60) dx_137_125 rfl ?_
          refine at_iload dx_137_126 rfl ?_
          refine at_mulR dx_137_127 (by constructor <;> omega) (fun r127 => ?_)
          refine at_iload dx_137_128 rfl ?_
          refine at_addR dx_137_129 (by constructor <;> omega) (fun r129 => ?_)
          refine at_iload dx_137_130 rfl ?_
          refine at_astI dx_137_131 lc_873 ln_873 (by first | omega | (simp (disch := omega) only [um_eq, um_k, um_j]; omega)) (by first | omega | (simp (disch := omega) only [um_eq, um_k, um_j]; omega)) r106 ?_
          refine at_iincR (y := 1) dx_137_132 rfl rfl (by constructor <;> omega) (fun r132 => ?_)
          refine at_iincR (y := 1) dx_137_133 rfl rfl (by constructor <;> omega) (fun r133 => ?_)
          refine at_goto dx_137_134 ?_
          refine at_wk (ls := [vr 856, vi _, vi _, vi _, vi _, vi _, vi _, vi _, vi _, vi _]) ⟨Or.inl rfl, Or.inl rfl, Or.inl rfl, Or.inl rfl, Or.inl rfl, Or.inl rfl, Or.inl rfl, Or.inl rfl, Or.inl rfl, Or.inl rfl, trivial⟩ ?_
          have hq := hnx (by omega)
          have hq2 := hnf (by omega)
          have e6 := gt 859 (60 * c + k) (Or.inl rfl)
          first
          | (exfalso; omega)
          | (have hz : dch (M 859 (60 * c + k)) = 1 := by unfold dch; rw [if_neg (by omega), if_pos (by omega)]
             exact ih _ (by omega) _ _ _ _ _ _ r132 rd ro r121 r133 (by omega) hd (by omega) (by omega) rfl hc hft (fe_ums F (Or.inr (Or.inr (Or.inr (Or.inr (Or.inr (Or.inr (Or.inl (by decide))))))))))
          | (have hz : dch (M 859 (60 * c + k)) = -1 := by unfold dch; rw [if_pos (by omega)]
             exact ih _ (by omega) _ _ _ _ _ _ r132 rd ro r121 r133 (by omega) hd (by omega) (by omega) rfl hc hft (fe_ums F (Or.inr (Or.inr (Or.inr (Or.inr (Or.inr (Or.inr (Or.inl (by decide))))))))))
          | (have hz : dch (M 859 (60 * c + k)) = 0 := by unfold dch; rw [if_neg (by omega), if_neg (by omega)]
             exact ih _ (by omega) _ _ _ _ _ _ r132 rd ro r121 r133 (by omega) hd (by omega) (by omega) rfl hc hft (fe_ums F (Or.inr (Or.inr (Or.inr (Or.inr (Or.inr (Or.inr (Or.inl (by decide))))))))))
        · skip
          refine at_iload dx_137_116 rfl ?_
          refine at_zleR dx_137_117 rl (fun c117 => ?_) (fun c117 => ?_)
          · skip
            refine at_const (x := 0) dx_137_120 rfl ?_
            refine at_addR dx_137_121 (by constructor <;> omega) (fun r121 => ?_)
            refine at_istore dx_137_122 ?_
            refine at_aload dx_137_123 rfl ?_
            refine at_getR dx_137_124 lc_856 rfl lt_856_17 ?_
            refine at_const (x := 60) dx_137_125 rfl ?_
            refine at_iload dx_137_126 rfl ?_
            refine at_mulR dx_137_127 (by constructor <;> omega) (fun r127 => ?_)
            refine at_iload dx_137_128 rfl ?_
            refine at_addR dx_137_129 (by constructor <;> omega) (fun r129 => ?_)
            refine at_iload dx_137_130 rfl ?_
            refine at_astI dx_137_131 lc_873 ln_873 (by first | omega | (simp (disch := omega) only [um_eq, um_k, um_j]; omega)) (by first | omega | (simp (disch := omega) only [um_eq, um_k, um_j]; omega)) r106 ?_
            refine at_iincR (y := 1) dx_137_132 rfl rfl (by constructor <;> omega) (fun r132 => ?_)
            refine at_iincR (y := 1) dx_137_133 rfl rfl (by constructor <;> omega) (fun r133 => ?_)
            refine at_goto dx_137_134 ?_
            refine at_wk (ls := [vr 856, vi _, vi _, vi _, vi _, vi _, vi _, vi _, vi _, vi _]) ⟨Or.inl rfl, Or.inl rfl, Or.inl rfl, Or.inl rfl, Or.inl rfl, Or.inl rfl, Or.inl rfl, Or.inl rfl, Or.inl rfl, Or.inl rfl, trivial⟩ ?_
            have hq := hnx (by omega)
            have hq2 := hnf (by omega)
            have e6 := gt 859 (60 * c + k) (Or.inl rfl)
            first
            | (exfalso; omega)
            | (have hz : dch (M 859 (60 * c + k)) = 1 := by unfold dch; rw [if_neg (by omega), if_pos (by omega)]
               exact ih _ (by omega) _ _ _ _ _ _ r132 rd ro r121 r133 (by omega) hd (by omega) (by omega) rfl hc hft (fe_ums F (Or.inr (Or.inr (Or.inr (Or.inr (Or.inr (Or.inr (Or.inl (by decide))))))))))
            | (have hz : dch (M 859 (60 * c + k)) = -1 := by unfold dch; rw [if_pos (by omega)]
               exact ih _ (by omega) _ _ _ _ _ _ r132 rd ro r121 r133 (by omega) hd (by omega) (by omega) rfl hc hft (fe_ums F (Or.inr (Or.inr (Or.inr (Or.inr (Or.inr (Or.inr (Or.inl (by decide))))))))))
            | (have hz : dch (M 859 (60 * c + k)) = 0 := by unfold dch; rw [if_neg (by omega), if_neg (by omega)]
               exact ih _ (by omega) _ _ _ _ _ _ r132 rd ro r121 r133 (by omega) hd (by omega) (by omega) rfl hc hft (fe_ums F (Or.inr (Or.inr (Or.inr (Or.inr (Or.inr (Or.inr (Or.inl (by decide))))))))))
          · skip
            refine at_const (x := -1) dx_137_118 rfl ?_
            refine at_goto dx_137_119 ?_
            refine at_addR dx_137_121 (by constructor <;> omega) (fun r121 => ?_)
            refine at_istore dx_137_122 ?_
            refine at_aload dx_137_123 rfl ?_
            refine at_getR dx_137_124 lc_856 rfl lt_856_17 ?_
            refine at_const (x := 60) dx_137_125 rfl ?_
            refine at_iload dx_137_126 rfl ?_
            refine at_mulR dx_137_127 (by constructor <;> omega) (fun r127 => ?_)
            refine at_iload dx_137_128 rfl ?_
            refine at_addR dx_137_129 (by constructor <;> omega) (fun r129 => ?_)
            refine at_iload dx_137_130 rfl ?_
            refine at_astI dx_137_131 lc_873 ln_873 (by first | omega | (simp (disch := omega) only [um_eq, um_k, um_j]; omega)) (by first | omega | (simp (disch := omega) only [um_eq, um_k, um_j]; omega)) r106 ?_
            refine at_iincR (y := 1) dx_137_132 rfl rfl (by constructor <;> omega) (fun r132 => ?_)
            refine at_iincR (y := 1) dx_137_133 rfl rfl (by constructor <;> omega) (fun r133 => ?_)
            refine at_goto dx_137_134 ?_
            refine at_wk (ls := [vr 856, vi _, vi _, vi _, vi _, vi _, vi _, vi _, vi _, vi _]) ⟨Or.inl rfl, Or.inl rfl, Or.inl rfl, Or.inl rfl, Or.inl rfl, Or.inl rfl, Or.inl rfl, Or.inl rfl, Or.inl rfl, Or.inl rfl, trivial⟩ ?_
            have hq := hnx (by omega)
            have hq2 := hnf (by omega)
            have e6 := gt 859 (60 * c + k) (Or.inl rfl)
            first
            | (exfalso; omega)
            | (have hz : dch (M 859 (60 * c + k)) = 1 := by unfold dch; rw [if_neg (by omega), if_pos (by omega)]
               exact ih _ (by omega) _ _ _ _ _ _ r132 rd ro r121 r133 (by omega) hd (by omega) (by omega) rfl hc hft (fe_ums F (Or.inr (Or.inr (Or.inr (Or.inr (Or.inr (Or.inr (Or.inl (by decide))))))))))
            | (have hz : dch (M 859 (60 * c + k)) = -1 := by unfold dch; rw [if_pos (by omega)]
               exact ih _ (by omega) _ _ _ _ _ _ r132 rd ro r121 r133 (by omega) hd (by omega) (by omega) rfl hc hft (fe_ums F (Or.inr (Or.inr (Or.inr (Or.inr (Or.inr (Or.inr (Or.inl (by decide))))))))))
            | (have hz : dch (M 859 (60 * c + k)) = 0 := by unfold dch; rw [if_neg (by omega), if_neg (by omega)]
               exact ih _ (by omega) _ _ _ _ _ _ r132 rd ro r121 r133 (by omega) hd (by omega) (by omega) rfl hc hft (fe_ums F (Or.inr (Or.inr (Or.inr (Or.inr (Or.inr (Or.inr (Or.inl (by decide))))))))))
      · skip
        refine at_const (x := 1) dx_137_112 rfl ?_
        refine at_goto dx_137_113 ?_
        refine at_addR dx_137_121 (by constructor <;> omega) (fun r121 => ?_)
        refine at_istore dx_137_122 ?_
        refine at_aload dx_137_123 rfl ?_
        refine at_getR dx_137_124 lc_856 rfl lt_856_17 ?_
        refine at_const (x := 60) dx_137_125 rfl ?_
        refine at_iload dx_137_126 rfl ?_
        refine at_mulR dx_137_127 (by constructor <;> omega) (fun r127 => ?_)
        refine at_iload dx_137_128 rfl ?_
        refine at_addR dx_137_129 (by constructor <;> omega) (fun r129 => ?_)
        refine at_iload dx_137_130 rfl ?_
        refine at_astI dx_137_131 lc_873 ln_873 (by first | omega | (simp (disch := omega) only [um_eq, um_k, um_j]; omega)) (by first | omega | (simp (disch := omega) only [um_eq, um_k, um_j]; omega)) r106 ?_
        refine at_iincR (y := 1) dx_137_132 rfl rfl (by constructor <;> omega) (fun r132 => ?_)
        refine at_iincR (y := 1) dx_137_133 rfl rfl (by constructor <;> omega) (fun r133 => ?_)
        refine at_goto dx_137_134 ?_
        refine at_wk (ls := [vr 856, vi _, vi _, vi _, vi _, vi _, vi _, vi _, vi _, vi _]) ⟨Or.inl rfl, Or.inl rfl, Or.inl rfl, Or.inl rfl, Or.inl rfl, Or.inl rfl, Or.inl rfl, Or.inl rfl, Or.inl rfl, Or.inl rfl, trivial⟩ ?_
        have hq := hnx (by omega)
        have hq2 := hnf (by omega)
        have e6 := gt 859 (60 * c + k) (Or.inl rfl)
        first
        | (exfalso; omega)
        | (have hz : dch (M 859 (60 * c + k)) = 1 := by unfold dch; rw [if_neg (by omega), if_pos (by omega)]
           exact ih _ (by omega) _ _ _ _ _ _ r132 rd ro r121 r133 (by omega) hd (by omega) (by omega) rfl hc hft (fe_ums F (Or.inr (Or.inr (Or.inr (Or.inr (Or.inr (Or.inr (Or.inl (by decide))))))))))
        | (have hz : dch (M 859 (60 * c + k)) = -1 := by unfold dch; rw [if_pos (by omega)]
           exact ih _ (by omega) _ _ _ _ _ _ r132 rd ro r121 r133 (by omega) hd (by omega) (by omega) rfl hc hft (fe_ums F (Or.inr (Or.inr (Or.inr (Or.inr (Or.inr (Or.inr (Or.inl (by decide))))))))))
        | (have hz : dch (M 859 (60 * c + k)) = 0 := by unfold dch; rw [if_neg (by omega), if_neg (by omega)]
           exact ih _ (by omega) _ _ _ _ _ _ r132 rd ro r121 r133 (by omega) hd (by omega) (by omega) rfl hc hft (fe_ums F (Or.inr (Or.inr (Or.inr (Or.inr (Or.inr (Or.inr (Or.inl (by decide))))))))))
  have l2 : ∀ (n9 : Nat) (n d o i : Int) (M1 : mem) (rn : inR n) (rd : inR d) (ro : inR o) (ri : inR i) (hj : 0 ≤ i ∧ i ≤ d) (hd : d ≤ f) (ho : d ≤ o ∧ o ≤ 60) (hnn : n = i) (hn : (d - i).toNat = n9) (hc : 0 ≤ c ∧ c ≤ 2) (hft : 0 ≤ f ∧ f < t ∧ t ≤ M 860 c) (F : frE sqE M M1), At X 0 137 72 [vr 856, vi c, vi f, vi t, vi 1, vi n, vi d, vi o, vi i] [] M1 (qI (fun x M' => MI M' ∧ fr hi M M')) := by
    intro n9
    induction n9 using Nat.strongRecOn with
    | ind n9 ih =>
    intro n d o i M1 rn rd ro ri hj hd ho hnn hn hc hft F
    have gt : ∀ (q : Nat) (j : Int), (q = 859 ∨ q = 860) → M1 q j = M q j := fun q j hq => F q j (by (try dsimp only [sqE]); omega)
    have hs6 := hM.1 c hc.1 (by omega)
    have df := dsm_facts (k := f) hM (show 0 ≤ c ∧ c ≤ 3 by omega) (by omega)
    have dt := dsm_facts (k := t) hM (show 0 ≤ c ∧ c ≤ 3 by omega) (by omega)
    refine at_iload dx_137_72 rfl ?_
    refine at_iload dx_137_73 rfl ?_
    refine at_cgeR dx_137_74 ri rd (fun c74 => ?_) (fun c74 => ?_)
    · skip
      refine at_const (x := 0) dx_137_96 rfl ?_
      refine at_istore dx_137_97 ?_
      refine at_iload dx_137_98 rfl ?_
      refine at_istore dx_137_99 ?_
      exact l3 _ _ _ _ 0 _ _ rn rd ro (by decide) rf (by omega) (by omega) (by omega) (by omega) rfl hc hft F
    · skip
      refine at_aload dx_137_75 rfl ?_
      refine at_getR dx_137_76 lc_856 rfl lt_856_17 ?_
      refine at_const (x := 60) dx_137_77 rfl ?_
      refine at_iload dx_137_78 rfl ?_
      refine at_mulR dx_137_79 (by constructor <;> omega) (fun r79 => ?_)
      refine at_iload dx_137_80 rfl ?_
      refine at_addR dx_137_81 (by constructor <;> omega) (fun r81 => ?_)
      refine at_aload dx_137_82 rfl ?_
      refine at_getR dx_137_83 lc_856 rfl lt_856_29 ?_
      refine at_iload dx_137_84 rfl ?_
      refine at_iload dx_137_85 rfl ?_
      refine at_subR dx_137_86 (by constructor <;> omega) (fun r86 => ?_)
      refine at_const (x := 1) dx_137_87 rfl ?_
      refine at_addR dx_137_88 (by constructor <;> omega) (fun r88 => ?_)
      refine at_iload dx_137_89 rfl ?_
      refine at_addR dx_137_90 (by constructor <;> omega) (fun r90 => ?_)
      refine at_aldI dx_137_91 lc_881 ln_881 (by first | omega | (simp (disch := omega) only [um_eq, um_k, um_j]; omega)) (by first | omega | (simp (disch := omega) only [um_eq, um_k, um_j]; omega)) (fun r91 => ?_)
      refine at_astI dx_137_92 lc_873 ln_873 (by first | omega | (simp (disch := omega) only [um_eq, um_k, um_j]; omega)) (by first | omega | (simp (disch := omega) only [um_eq, um_k, um_j]; omega)) r91 ?_
      refine at_iincR (y := 1) dx_137_93 rfl rfl (by constructor <;> omega) (fun r93 => ?_)
      refine at_iincR (y := 1) dx_137_94 rfl rfl (by constructor <;> omega) (fun r94 => ?_)
      refine at_goto dx_137_95 ?_
      exact ih _ (by omega) _ _ _ _ _ r93 rd ro r94 (by omega) hd ho (by omega) rfl hc hft (fe_ums F (Or.inr (Or.inr (Or.inr (Or.inr (Or.inr (Or.inr (Or.inl (by decide)))))))))
  have l1 : ∀ (n9 : Nat) (d k : Int) (M1 : mem) (rd : inR d) (rk : inR k) (hk : f - 1 ≤ k ∧ k ≤ t - 1) (hd : 0 ≤ d ∧ d ≤ dsm (dc M c) (k + 1).toNat) (hn : (k + 1).toNat = n9) (hc : 0 ≤ c ∧ c ≤ 2) (hft : 0 ≤ f ∧ f < t ∧ t ≤ M 860 c) (F : frE sqE M M1), At X 0 137 40 [vr 856, vi c, vi f, vi t, vi 1, vi 0, vi d, vi k] [] M1 (qI (fun x M' => MI M' ∧ fr hi M M')) := by
    intro n9
    induction n9 using Nat.strongRecOn with
    | ind n9 ih =>
    intro d k M1 rd rk hk hd hn hc hft F
    have gt : ∀ (q : Nat) (j : Int), (q = 859 ∨ q = 860) → M1 q j = M q j := fun q j hq => F q j (by (try dsimp only [sqE]); omega)
    have hs6 := hM.1 c hc.1 (by omega)
    have df := dsm_facts (k := f) hM (show 0 ≤ c ∧ c ≤ 3 by omega) (by omega)
    have dt := dsm_facts (k := t) hM (show 0 ≤ c ∧ c ≤ 3 by omega) (by omega)
    have hkf := dsm_facts (k := k + 1) hM (show 0 ≤ c ∧ c ≤ 3 by omega) (by omega)
    have hnx := fun (h : f ≤ k) => dsm_next (M := M) (c := c) (k := k) (by omega)
    have hnf := fun (h : f ≤ k) => dsm_facts (k := k) hM (show 0 ≤ c ∧ c ≤ 3 by omega) (by omega)
    have dM : dc M1 c = dc M c := dc_cg (gt 860 c (Or.inr rfl)) (fun j _ => gt 859 _ (Or.inl rfl))
    refine at_iload dx_137_40 rfl ?_
    refine at_iload dx_137_41 rfl ?_
    refine at_cltR dx_137_42 rk rf (fun c42 => ?_) (fun c42 => ?_)
    · skip
      refine at_aload dx_137_65 rfl ?_
      refine at_iload dx_137_66 rfl ?_
      refine at_iload dx_137_67 rfl ?_
      refine at_callVI dx_137_68 rfl lc_856 rfl (m_depthAt rc rf (by omega) (by rw [gt 860 c (Or.inr rfl)]; exact hs6) (by rw [gt 860 c (Or.inr rfl)]; omega) (by rw [dM]; exact MI_bal hM (by omega))) ?_
      rintro x68 M68 r68 ⟨f68, d68, e68, o68⟩
      rw [dM] at e68
      replace F : frE sqE M _ := fe_tr F (fe_le f68 (fun q j h => sq_C (by (try dsimp only at h); omega)))
      refine at_istore dx_137_69 ?_
      refine at_const (x := 0) dx_137_70 rfl ?_
      refine at_istore dx_137_71 ?_
      have hkf9 : (k + 1).toNat = f.toNat := by omega
      rw [hkf9] at hd
      exact l2 _ 0 _ _ 0 _ (by decide) rd r68 (by decide) (by omega) (by omega) (by omega) rfl rfl hc hft F
    · skip
      refine at_aload dx_137_43 rfl ?_
      refine at_iload dx_137_44 rfl ?_
      refine at_iload dx_137_45 rfl ?_
      refine at_callVI dx_137_46 rfl lc_856 rfl (m_tokenOf rc rk (by omega) (by omega)) ?_
      rintro x46 M9 r46 ⟨e9, h46⟩; replace e9 := e9.symm; subst e9
      refine at_istore dx_137_47 ?_
      refine at_iload dx_137_48 rfl ?_
      refine at_iload dx_137_49 rfl ?_
      refine at_zneR dx_137_50 r46 (fun c50 => ?_) (fun c50 => ?_)
      · skip
        refine at_iload dx_137_53 rfl ?_
        refine at_callSI dx_137_54 rfl rfl (m_opens r46) ?_
        rintro x54 M9 r54 ⟨e9, h54⟩; replace e9 := e9.symm; subst e9; replace h54 := ite01 h54
        refine at_zeqR dx_137_55 r54 (fun c55 => ?_) (fun c55 => ?_)
        · skip
          refine at_const (x := 0) dx_137_60 rfl ?_
          refine at_addR dx_137_61 (by constructor <;> omega) (fun r61 => ?_)
          refine at_istore dx_137_62 ?_
          refine at_iincR (y := -1) dx_137_63 rfl rfl (by constructor <;> omega) (fun r63 => ?_)
          refine at_goto dx_137_64 ?_
          refine at_wk (ls := [vr 856, vi _, vi _, vi _, vi _, vi _, vi _, vi _]) ⟨Or.inl rfl, Or.inl rfl, Or.inl rfl, Or.inl rfl, Or.inl rfl, Or.inl rfl, Or.inl rfl, Or.inl rfl, trivial⟩ ?_
          have hq := hnx (by omega)
          have hq2 := hnf (by omega)
          have e6 := gt 859 (60 * c + k) (Or.inl rfl)
          have ek : (k + -1 + 1).toNat = k.toNat := by omega
          first
          | (exfalso; omega)
          | (have hz : dch (M 859 (60 * c + k)) = 1 := by unfold dch; rw [if_neg (by omega), if_pos (by omega)]
             exact ih _ (by omega) _ _ _ r61 r63 (by omega) (by rw [ek]; omega) rfl hc hft F)
          | (have hz : dch (M 859 (60 * c + k)) = -1 := by unfold dch; rw [if_pos (by omega)]
             exact ih _ (by omega) _ _ _ r61 r63 (by omega) (by rw [ek]; omega) rfl hc hft F)
          | (have hz : dch (M 859 (60 * c + k)) = 0 := by unfold dch; rw [if_neg (by omega), if_neg (by omega)]
             exact ih _ (by omega) _ _ _ r61 r63 (by omega) (by rw [ek]; omega) rfl hc hft F)
        · skip
          refine at_iload dx_137_56 rfl ?_
          refine at_zleR dx_137_57 rd (fun c57 => ?_) (fun c57 => ?_)
          · skip
            refine at_const (x := 0) dx_137_60 rfl ?_
            refine at_addR dx_137_61 (by constructor <;> omega) (fun r61 => ?_)
            refine at_istore dx_137_62 ?_
            refine at_iincR (y := -1) dx_137_63 rfl rfl (by constructor <;> omega) (fun r63 => ?_)
            refine at_goto dx_137_64 ?_
            refine at_wk (ls := [vr 856, vi _, vi _, vi _, vi _, vi _, vi _, vi _]) ⟨Or.inl rfl, Or.inl rfl, Or.inl rfl, Or.inl rfl, Or.inl rfl, Or.inl rfl, Or.inl rfl, Or.inl rfl, trivial⟩ ?_
            have hq := hnx (by omega)
            have hq2 := hnf (by omega)
            have e6 := gt 859 (60 * c + k) (Or.inl rfl)
            have ek : (k + -1 + 1).toNat = k.toNat := by omega
            first
            | (exfalso; omega)
            | (have hz : dch (M 859 (60 * c + k)) = 1 := by unfold dch; rw [if_neg (by omega), if_pos (by omega)]
               exact ih _ (by omega) _ _ _ r61 r63 (by omega) (by rw [ek]; omega) rfl hc hft F)
            | (have hz : dch (M 859 (60 * c + k)) = -1 := by unfold dch; rw [if_pos (by omega)]
               exact ih _ (by omega) _ _ _ r61 r63 (by omega) (by rw [ek]; omega) rfl hc hft F)
            | (have hz : dch (M 859 (60 * c + k)) = 0 := by unfold dch; rw [if_neg (by omega), if_neg (by omega)]
               exact ih _ (by omega) _ _ _ r61 r63 (by omega) (by rw [ek]; omega) rfl hc hft F)
          · skip
            refine at_const (x := -1) dx_137_58 rfl ?_
            refine at_goto dx_137_59 ?_
            refine at_addR dx_137_61 (by constructor <;> omega) (fun r61 => ?_)
            refine at_istore dx_137_62 ?_
            refine at_iincR (y := -1) dx_137_63 rfl rfl (by constructor <;> omega) (fun r63 => ?_)
            refine at_goto dx_137_64 ?_
            refine at_wk (ls := [vr 856, vi _, vi _, vi _, vi _, vi _, vi _, vi _]) ⟨Or.inl rfl, Or.inl rfl, Or.inl rfl, Or.inl rfl, Or.inl rfl, Or.inl rfl, Or.inl rfl, Or.inl rfl, trivial⟩ ?_
            have hq := hnx (by omega)
            have hq2 := hnf (by omega)
            have e6 := gt 859 (60 * c + k) (Or.inl rfl)
            have ek : (k + -1 + 1).toNat = k.toNat := by omega
            first
            | (exfalso; omega)
            | (have hz : dch (M 859 (60 * c + k)) = 1 := by unfold dch; rw [if_neg (by omega), if_pos (by omega)]
               exact ih _ (by omega) _ _ _ r61 r63 (by omega) (by rw [ek]; omega) rfl hc hft F)
            | (have hz : dch (M 859 (60 * c + k)) = -1 := by unfold dch; rw [if_pos (by omega)]
               exact ih _ (by omega) _ _ _ r61 r63 (by omega) (by rw [ek]; omega) rfl hc hft F)
            | (have hz : dch (M 859 (60 * c + k)) = 0 := by unfold dch; rw [if_neg (by omega), if_neg (by omega)]
               exact ih _ (by omega) _ _ _ r61 r63 (by omega) (by rw [ek]; omega) rfl hc hft F)
      · skip
        refine at_const (x := 1) dx_137_51 rfl ?_
        refine at_goto dx_137_52 ?_
        refine at_addR dx_137_61 (by constructor <;> omega) (fun r61 => ?_)
        refine at_istore dx_137_62 ?_
        refine at_iincR (y := -1) dx_137_63 rfl rfl (by constructor <;> omega) (fun r63 => ?_)
        refine at_goto dx_137_64 ?_
        refine at_wk (ls := [vr 856, vi _, vi _, vi _, vi _, vi _, vi _, vi _]) ⟨Or.inl rfl, Or.inl rfl, Or.inl rfl, Or.inl rfl, Or.inl rfl, Or.inl rfl, Or.inl rfl, Or.inl rfl, trivial⟩ ?_
        have hq := hnx (by omega)
        have hq2 := hnf (by omega)
        have e6 := gt 859 (60 * c + k) (Or.inl rfl)
        have ek : (k + -1 + 1).toNat = k.toNat := by omega
        first
        | (exfalso; omega)
        | (have hz : dch (M 859 (60 * c + k)) = 1 := by unfold dch; rw [if_neg (by omega), if_pos (by omega)]
           exact ih _ (by omega) _ _ _ r61 r63 (by omega) (by rw [ek]; omega) rfl hc hft F)
        | (have hz : dch (M 859 (60 * c + k)) = -1 := by unfold dch; rw [if_pos (by omega)]
           exact ih _ (by omega) _ _ _ r61 r63 (by omega) (by rw [ek]; omega) rfl hc hft F)
        | (have hz : dch (M 859 (60 * c + k)) = 0 := by unfold dch; rw [if_neg (by omega), if_neg (by omega)]
           exact ih _ (by omega) _ _ _ r61 r63 (by omega) (by rw [ek]; omega) rfl hc hft F)
  refine at_iload dx_137_0 rfl ?_
  refine at_callSI dx_137_1 rfl rfl (m_isClient rc) ?_
  rintro x1 M9 r1 ⟨e9, h1⟩; replace e9 := e9.symm; subst e9; replace h1 := ite01 h1
  refine at_zeqR dx_137_2 r1 (fun c2 => ?_) (fun c2 => ?_)
  · skip
    refine at_const (x := 0) dx_137_15 rfl ?_
    refine at_istore dx_137_16 ?_
    refine at_aload dx_137_17 rfl ?_
    refine at_iload dx_137_18 rfl ?_
    refine at_zneR dx_137_19 (by decide) (fun c => absurd c (by decide)) (fun _ => ?_)
    refine at_const (x := 1) dx_137_20 rfl ?_
    refine at_goto dx_137_21 ?_
    refine at_callVI dx_137_28 rfl lc_856 rfl (m_fails2 (by decide)) ?_
    rintro x28 M28 r28 ⟨f28, h28⟩; replace h28 := ite01 h28
    replace F : frE sqE M _ := fe_tr F (fe_le f28 (fun q j h => Or.inl ⟨h.1, by rw [h.2]; decide, by rw [h.2]; decide⟩))
    have z28 := f28 860 c (by (try dsimp only); omega)
    obtain rfl : x28 = 1 := by omega
    refine at_zeqR dx_137_29 (by decide) (fun c => absurd c (by decide)) (fun _ => ?_)
    refine at_const (x := 0) dx_137_30 rfl ?_
    refine at_iretI dx_137_31 (by decide) ?_
    first | exact ⟨k1, k2⟩ | exact ⟨MI_sq hM F, fe_fr F (fun q j h => sq_hi h)⟩
  · skip
    refine at_aload dx_137_3 rfl ?_
    refine at_iload dx_137_4 rfl ?_
    refine at_iload dx_137_5 rfl ?_
    refine at_callVI dx_137_6 rfl lc_856 rfl (m_isPlace rc rf) ?_
    rintro x6 M9 r6 ⟨e9, h6⟩; replace e9 := e9.symm; subst e9; replace h6 := ite01 h6
    refine at_zeqR dx_137_7 r6 (fun c7 => ?_) (fun c7 => ?_)
    · skip
      refine at_const (x := 0) dx_137_15 rfl ?_
      refine at_istore dx_137_16 ?_
      refine at_aload dx_137_17 rfl ?_
      refine at_iload dx_137_18 rfl ?_
      refine at_zneR dx_137_19 (by decide) (fun c => absurd c (by decide)) (fun _ => ?_)
      refine at_const (x := 1) dx_137_20 rfl ?_
      refine at_goto dx_137_21 ?_
      refine at_callVI dx_137_28 rfl lc_856 rfl (m_fails2 (by decide)) ?_
      rintro x28 M28 r28 ⟨f28, h28⟩; replace h28 := ite01 h28
      replace F : frE sqE M _ := fe_tr F (fe_le f28 (fun q j h => Or.inl ⟨h.1, by rw [h.2]; decide, by rw [h.2]; decide⟩))
      have z28 := f28 860 c (by (try dsimp only); omega)
      obtain rfl : x28 = 1 := by omega
      refine at_zeqR dx_137_29 (by decide) (fun c => absurd c (by decide)) (fun _ => ?_)
      refine at_const (x := 0) dx_137_30 rfl ?_
      refine at_iretI dx_137_31 (by decide) ?_
      first | exact ⟨k1, k2⟩ | exact ⟨MI_sq hM F, fe_fr F (fun q j h => sq_hi h)⟩
    · skip
      refine at_aload dx_137_8 rfl ?_
      refine at_iload dx_137_9 rfl ?_
      refine at_iload dx_137_10 rfl ?_
      refine at_callVI dx_137_11 rfl lc_856 rfl (m_isPlace rc rt) ?_
      rintro x11 M9 r11 ⟨e9, h11⟩; replace e9 := e9.symm; subst e9; replace h11 := ite01 h11
      refine at_zeqR dx_137_12 r11 (fun c12 => ?_) (fun c12 => ?_)
      · skip
        refine at_const (x := 0) dx_137_15 rfl ?_
        refine at_istore dx_137_16 ?_
        refine at_aload dx_137_17 rfl ?_
        refine at_iload dx_137_18 rfl ?_
        refine at_zneR dx_137_19 (by decide) (fun c => absurd c (by decide)) (fun _ => ?_)
        refine at_const (x := 1) dx_137_20 rfl ?_
        refine at_goto dx_137_21 ?_
        refine at_callVI dx_137_28 rfl lc_856 rfl (m_fails2 (by decide)) ?_
        rintro x28 M28 r28 ⟨f28, h28⟩; replace h28 := ite01 h28
        replace F : frE sqE M _ := fe_tr F (fe_le f28 (fun q j h => Or.inl ⟨h.1, by rw [h.2]; decide, by rw [h.2]; decide⟩))
        have z28 := f28 860 c (by (try dsimp only); omega)
        obtain rfl : x28 = 1 := by omega
        refine at_zeqR dx_137_29 (by decide) (fun c => absurd c (by decide)) (fun _ => ?_)
        refine at_const (x := 0) dx_137_30 rfl ?_
        refine at_iretI dx_137_31 (by decide) ?_
        first | exact ⟨k1, k2⟩ | exact ⟨MI_sq hM F, fe_fr F (fun q j h => sq_hi h)⟩
      · skip
        refine at_const (x := 1) dx_137_13 rfl ?_
        refine at_goto dx_137_14 ?_
        refine at_istore dx_137_16 ?_
        refine at_aload dx_137_17 rfl ?_
        refine at_iload dx_137_18 rfl ?_
        refine at_zneR dx_137_19 (by decide) (fun _ => ?_) (fun c => absurd c (by decide))
        refine at_iload dx_137_22 rfl ?_
        refine at_iload dx_137_23 rfl ?_
        refine at_cleR dx_137_24 rt rf (fun c24 => ?_) (fun c24 => ?_)
        · skip
          refine at_const (x := 2) dx_137_27 rfl ?_
          refine at_callVI dx_137_28 rfl lc_856 rfl (m_fails2 (by decide)) ?_
          rintro x28 M28 r28 ⟨f28, h28⟩; replace h28 := ite01 h28
          replace F : frE sqE M _ := fe_tr F (fe_le f28 (fun q j h => Or.inl ⟨h.1, by rw [h.2]; decide, by rw [h.2]; decide⟩))
          have z28 := f28 860 c (by (try dsimp only); omega)
          obtain rfl : x28 = 1 := by omega
          refine at_zeqR dx_137_29 (by decide) (fun c => absurd c (by decide)) (fun _ => ?_)
          refine at_const (x := 0) dx_137_30 rfl ?_
          refine at_iretI dx_137_31 (by decide) ?_
          first | exact ⟨k1, k2⟩ | exact ⟨MI_sq hM F, fe_fr F (fun q j h => sq_hi h)⟩
        · skip
          refine at_const (x := 0) dx_137_25 rfl ?_
          refine at_goto dx_137_26 ?_
          refine at_callVI dx_137_28 rfl lc_856 rfl (m_fails2 (by decide)) ?_
          rintro x28 M28 r28 ⟨f28, h28⟩; replace h28 := ite01 h28
          replace F : frE sqE M _ := fe_tr F (fe_le f28 (fun q j h => Or.inl ⟨h.1, by rw [h.2]; decide, by rw [h.2]; decide⟩))
          have z28 := f28 860 c (by (try dsimp only); omega)
          obtain rfl : x28 = 0 := by omega
          refine at_zeqR dx_137_29 (by decide) (fun _ => ?_) (fun c => absurd c (by decide))
          refine at_const (x := 0) dx_137_32 rfl ?_
          refine at_istore dx_137_33 ?_
          refine at_const (x := 0) dx_137_34 rfl ?_
          refine at_istore dx_137_35 ?_
          refine at_iload dx_137_36 rfl ?_
          refine at_const (x := 1) dx_137_37 rfl ?_
          refine at_subR dx_137_38 (by constructor <;> omega) (fun r38 => ?_)
          refine at_istore dx_137_39 ?_
          exact l1 _ 0 _ _ (by decide) r38 (by omega) ⟨by decide, by rw [show (t - 1 + 1).toNat = t.toNat by omega]; exact (dsm_facts (k := t) hM (show 0 ≤ c ∧ c ≤ 3 by omega) (by omega)).1.1⟩ rfl (by omega) (by omega) F
