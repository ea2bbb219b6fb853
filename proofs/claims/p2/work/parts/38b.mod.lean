/-! ===== the reference: edits ===== -/
set_option maxRecDepth 100000 in
set_option maxHeartbeats 4000000 in
theorem m_tries {X : scr} {M : mem} {a l : Int} (ra : inR a) (rl : inR l) : At X 0 124 0 [vr 856, vi a, vi l] [] M (qV (fun M' => frE (fun q j => ((q = 861 ∨ q = 864) ∧ j = 100) ∨ ((865 ≤ q ∧ q ≤ 867) ∧ (j = 200 ∨ j = 201))) M M' ∧ M' 861 100 = 0 ∧ M' 864 100 = 1 ∧ (M' 865 200 = a ∧ M' 865 201 = 0) ∧ (M' 866 200 = l ∧ M' 866 201 = 0) ∧ (M' 867 200 = 0 ∧ M' 867 201 = 0))) := by
  refine at_aload dx_124_0 rfl ?_
  refine at_const (x := 100) dx_124_1 rfl ?_
  refine at_const (x := 1) dx_124_2 rfl ?_
  refine at_callVV dx_124_3 rfl lc_856 rfl (m_empties (s := 100) (h := 1) (by decide) (by decide) (by decide)) ?_
  rintro M1 ⟨F1, N1⟩
  have N2 : M1 861 100 = 0 ∧ M1 864 100 = 1 ∧ (M1 865 200 = 0 ∧ M1 865 201 = 0) ∧ (M1 866 200 = 0 ∧ M1 866 201 = 0) ∧ (M1 867 200 = 0 ∧ M1 867 201 = 0) := N1
  refine at_aload dx_124_4 rfl ?_
  refine at_getR dx_124_5 lc_856 rfl lt_856_8 ?_
  refine at_const (x := 200) dx_124_6 rfl ?_
  refine at_iload dx_124_7 rfl ?_
  refine at_astI dx_124_8 lc_865 ln_865 (by decide) (by decide) ra ?_
  refine at_aload dx_124_9 rfl ?_
  refine at_getR dx_124_10 lc_856 rfl lt_856_9 ?_
  refine at_const (x := 200) dx_124_11 rfl ?_
  refine at_iload dx_124_12 rfl ?_
  refine at_astI dx_124_13 lc_866 ln_866 (by decide) (by decide) rl ?_
  refine at_vretV dx_124_14 ?_
  refine ⟨fe_ums (fe_ums (fe_le F1 (fun q j h => by (try dsimp only [stE, sqE, ceE] at h ⊢); first | done | omega)) (by (try dsimp only [stE, sqE, ceE]); first | done | omega)) (by (try dsimp only [stE, sqE, ceE]); first | done | omega), ?_, ?_, ⟨?_, ?_⟩, ⟨?_, ?_⟩, ?_, ?_⟩ <;> simp (disch := omega) only [um_eq, um_k, um_j] <;> omega

set_option maxRecDepth 100000 in
set_option maxHeartbeats 4000000 in
theorem m_canEdit {X : scr} {M : mem} {c : Int} (rc : inR c) (hc : 0 ≤ c ∧ c ≤ 2) (hM : MI M) (hw : okX (mv M 100) (M 860 c)) : At X 0 122 0 [vr 856, vi c] [] M (qI (fun x M' => frE (fun q j => q = 877 ∨ (q = 856 ∧ j = 23) ∨ q = 868 ∨ q = 881 ∨ q = 882) M M' ∧ (x = 0 ∨ x = 1) ∧ (x = 1 → M 871 c < 10 ∧ okW (mv M 100) (M 860 c) ∧ (0 ≤ M' 856 23 ∧ M' 856 23 ≤ 60) ∧ wk M' = apW (mv M 100) (dc M c) ∧ Bal (wk M')))) := by
  have hsz := hM.1 c hc.1 (by omega)
  have hmc := hM.2.2.2.2 c hc.1 hc.2
  refine at_aload dx_122_0 rfl ?_
  refine at_getR dx_122_1 lc_856 rfl lt_856_15 ?_
  refine at_iload dx_122_2 rfl ?_
  refine at_aldI dx_122_3 lc_871 ln_871 (by first | omega | (simp (disch := omega) only [um_eq, um_k, um_j]; omega)) (by first | omega | (simp (disch := omega) only [um_eq, um_k, um_j]; omega)) (fun r3 => ?_)
  refine at_const (x := 10) dx_122_4 rfl ?_
  refine at_cneR dx_122_5 r3 (by decide) (fun c5 => ?_) (fun c5 => ?_)
  · skip
    refine at_aload dx_122_8 rfl ?_
    refine at_iload dx_122_9 rfl ?_
    refine at_callVV dx_122_10 rfl lc_856 rfl (m_looksAt rc (by omega) hsz) ?_
    rintro M10 ⟨F10, e10, w10⟩
    have v10 : mv M10 100 = mv M 100 := mv_fe F10 (fun q j e h8 hq => by (try dsimp only [stE] at e hq); omega)
    refine at_aload dx_122_11 rfl ?_
    refine at_const (x := 100) dx_122_12 rfl ?_
    refine at_callVI dx_122_13 rfl lc_856 rfl (m_goes (s := 100) (by decide) (by decide) (by omega) (by rw [v10, e10]; exact hw)) ?_
    rintro x13 M13 r13 ⟨F13, b13, w13⟩
    refine at_zretI dx_122_14 b13 ?_
    refine ⟨fe_tr (fe_le F10 (fun q j h => by (try dsimp only [stE, sqE, ceE] at h ⊢); first | done | omega)) (fe_le F13 (fun q j h => by (try dsimp only [stE, sqE, ceE] at h ⊢); first | done | omega)), b13, fun e => ?_⟩
    have h9 := w13 e
    rw [v10, e10, w10] at h9
    exact ⟨by omega, h9⟩
  · skip
    refine at_const (x := 0) dx_122_6 rfl ?_
    refine at_zretI dx_122_7 (Or.inl rfl) ?_
    exact ⟨fe_rf, Or.inl rfl, fun e => absurd e (by decide)⟩

set_option maxRecDepth 100000 in
set_option maxHeartbeats 4000000 in
theorem m_edits {X : scr} {M : mem} {c : Int} (rc : inR c) (hc : 0 ≤ c ∧ c ≤ 2) (hM : MI M) (hp : M 871 c < 10) (hw : okW (mv M 100) (M 860 c)) (hl : 0 ≤ M 856 23 ∧ M 856 23 ≤ 60) (hk : wk M = apW (mv M 100) (dc M c)) (hB : Bal (wk M)) : At X 0 123 0 [vr 856, vi c] [] M (qV (fun M' => MI M' ∧ fr hi M M')) := by
  have hsz := hM.1 c hc.1 (by omega)
  have hmc := hM.2.2.2.2 c hc.1 hc.2
  obtain ⟨b1, b2, b3, b, b4, b5⟩ := id hmc
  refine at_aload dx_123_0 rfl ?_
  refine at_const (x := 100) dx_123_1 rfl ?_
  refine at_iload dx_123_2 rfl ?_
  refine at_aload dx_123_3 rfl ?_
  refine at_getR dx_123_4 lc_856 rfl lt_856_15 ?_
  refine at_iload dx_123_5 rfl ?_
  refine at_aldI dx_123_6 lc_871 ln_871 (by first | omega | (simp (disch := omega) only [um_eq, um_k, um_j]; omega)) (by first | omega | (simp (disch := omega) only [um_eq, um_k, um_j]; omega)) (fun r6 => ?_)
  refine at_callSI dx_123_7 rfl rfl (m_place rc r6 (by omega) (by omega)) ?_
  rintro x7 M9 r7 ⟨e9, h7⟩; replace e9 := e9.symm; subst e9; subst h7
  refine at_callVV dx_123_8 rfl lc_856 rfl (m_copies (f := 100) (by decide) r7 (by decide) (by omega) (by omega)) ?_
  rintro M8 ⟨F8, v8, -⟩
  have e871 : M8 871 c = M 871 c := F8 871 c (by (try dsimp only [stE, sqE, ceE]); first | done | omega)
  refine at_aload dx_123_9 rfl ?_
  refine at_getR dx_123_10 lc_856 rfl lt_856_15 ?_
  refine at_iload dx_123_11 rfl ?_
  refine at_dup2 dx_123_12 rfl rfl ?_
  refine at_aldI dx_123_13 lc_871 ln_871 (by first | omega | (simp (disch := omega) only [um_eq, um_k, um_j]; omega)) (by first | omega | (simp (disch := omega) only [um_eq, um_k, um_j]; omega)) (fun r13 => ?_)
  rw [e871] at r13 ⊢
  refine at_const (x := 1) dx_123_14 rfl ?_
  refine at_addR dx_123_15 (by constructor <;> omega) (fun r15 => ?_)
  refine at_astI dx_123_16 lc_871 ln_871 (by first | omega | (simp (disch := omega) only [um_eq, um_k, um_j]; omega)) (by first | omega | (simp (disch := omega) only [um_eq, um_k, um_j]; omega)) r15 ?_
  refine at_mem (fun Mu hMu => ?_)
  have Fu : frE (fun q j => q = 871 ∧ j = c) M8 Mu := by rw [hMu]; exact fe_um ⟨rfl, rfl⟩
  have u1 : Mu 871 c = M 871 c + 1 := by rw [hMu, um_eq]
  refine at_aload dx_123_17 rfl ?_
  refine at_iload dx_123_18 rfl ?_
  refine at_callVV dx_123_19 rfl lc_856 rfl (m_keeps rc (by omega) (by rw [Fu 856 23 (by (try dsimp only [stE, sqE, ceE]); first | done | omega), F8 856 23 (by (try dsimp only [stE, sqE, ceE]); first | done | omega)]; exact hl)) ?_
  rintro M19 ⟨F19, s19, d19⟩
  refine at_vretV dx_123_20 ?_
  have F : frE (fun q j => (q = 859 ∧ 60 * c ≤ j ∧ j < 60 * c + 60) ∨ ((q = 860 ∨ q = 871) ∧ j = c) ∨ stE (60 + 10 * c + M 871 c) q j) M M19 := fe_tr (fe_tr (fe_le F8 (fun q j h => Or.inr (Or.inr h))) (fe_le Fu (fun q j h => Or.inr (Or.inl ⟨Or.inr h.1, h.2⟩)))) (fe_le F19 (fun q j h => by rcases h with h | h; exact Or.inr (Or.inl ⟨Or.inl h.1, h.2⟩); exact Or.inl h))
  have FC : frE (fun q j => sqE q j ∨ ceE c q j) M M19 := fe_le F (fun q j h => by
    rcases h with h | ⟨h | h, h2⟩ | ⟨h1, h2⟩ | ⟨h1, h2⟩ | ⟨h1, h2, h3⟩
    · exact Or.inr (Or.inl h)
    · exact Or.inr (Or.inr (Or.inl ⟨Or.inl h, h2⟩))
    · exact Or.inr (Or.inr (Or.inl ⟨Or.inr (Or.inr (Or.inl h)), h2⟩))
    · exact Or.inr (Or.inr (Or.inr (Or.inl ⟨h1, by omega, by omega⟩)))
    · exact Or.inr (Or.inr (Or.inr (Or.inr (Or.inl ⟨h1, by omega, by omega⟩))))
    · rcases (show q = 868 ∨ q = 869 by omega) with h9 | h9
      · exact Or.inl (Or.inr (Or.inr (Or.inr (Or.inr (Or.inl h9)))))
      · exact Or.inr (Or.inr (Or.inr (Or.inr (Or.inr ⟨h9, by omega, by omega⟩)))))
  have wkE : wk Mu = wk M := wk_cg ((Fu 856 23 (by (try dsimp only [stE, sqE, ceE]); first | done | omega)).trans (F8 856 23 (by (try dsimp only [stE, sqE, ceE]); first | done | omega))) (fun j _ => (Fu 877 j (by (try dsimp only [stE, sqE, ceE]); first | done | omega)).trans (F8 877 j (by (try dsimp only [stE, sqE, ceE]); first | done | omega)))
  have eu : Mu 856 23 = M 856 23 := (Fu 856 23 (by (try dsimp only [stE, sqE, ceE]); first | done | omega)).trans (F8 856 23 (by (try dsimp only [stE, sqE, ceE]); first | done | omega))
  have dl : ((dc M c).length : Int) = M 860 c := by rw [dc_len]; omega
  refine ⟨MI_cl hM hc FC (by rw [s19, eu]; exact hl) ⟨?_, ?_, ?_, b, ?_, ?_⟩, fe_fr F (fun q j e => by (try dsimp only [stE, hi] at e ⊢); omega)⟩
  · rw [F 870 c (by (try dsimp only [stE, sqE, ceE]); first | done | omega), F 856 13 (by (try dsimp only [stE, sqE, ceE]); first | done | omega)]; exact b1
  · rw [F19 871 c (by (try dsimp only [stE, sqE, ceE]); first | done | omega), u1]; omega
  · rw [F 874 c (by (try dsimp only [stE, sqE, ceE]); first | done | omega)]; exact b3
  · rw [F 870 c (by (try dsimp only [stE, sqE, ceE]); first | done | omega), lgW_fe F (fun q j e => by (try dsimp only [stE] at e); omega)]; exact b4
  · rw [F19 871 c (by (try dsimp only [stE, sqE, ceE]); first | done | omega), u1, pdW_succ b2.1, d19, wkE, hk, pdW_fe F (fun q j e => by (try dsimp only [stE] at e); omega)]
    have vs : mv M19 (60 + 10 * c + M 871 c) = mv M 100 := by
      rw [mv_fe F19 (fun q j e h8 hq => by (try dsimp only [stE] at e hq); omega), mv_fe Fu (fun q j e h8 hq => by (try dsimp only [stE] at e hq); omega), v8]
    rw [vs]
    exact (RunW_app _ _ _ _).mpr ⟨_, b5, by rw [dl]; exact hw, by rw [← hk]; exact hB, rfl⟩
