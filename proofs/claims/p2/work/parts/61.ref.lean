/-! ===== the reference's edits, exact ===== -/
abbrev wE (q : Nat) (j : Int) : Prop := (q = 856 ∧ (j = 23 ∨ j = 24 ∨ j = 28 ∨ j = 31)) ∨ ((861 ≤ q ∧ q ≤ 864) ∧ 90 ≤ j) ∨ ((865 ≤ q ∧ q ≤ 867) ∧ 180 ≤ j) ∨ q = 868 ∨ (q = 869 ∧ 5400 ≤ j) ∨ (877 ≤ q ∧ q ≤ 882)
abbrev pE (c n : Int) (q : Nat) (j : Int) : Prop := wE q j ∨ (q = 859 ∧ 60 * c ≤ j ∧ j < 60 * c + 60) ∨ ((q = 860 ∨ q = 871) ∧ j = c) ∨ stE (60 + 10 * c + n) q j
abbrev OutM (M M' : mem) (c : Int) (cs : List gD) : Prop := MI M' ∧ (0 ≤ M 871 c ∧ M 871 c < 10) ∧ ∃ D, smD D ∧ FST (M 857) (M 858) (dc M c) cs D ∧ frE (pE c (M 871 c)) M M' ∧ M' 871 c = M 871 c + 1 ∧ cWD (mv M' (60 + 10 * c + M 871 c)) D ∧ dc M' c = eD D (dc M c)
abbrev NoM (M M' : mem) (c : Int) (cs : List gD) : Prop := MI M' ∧ frE wE M M' ∧ ¬ (M 871 c < 10 ∧ ∃ D ∈ cs, gd (M 857) (M 858) (dc M c) D)
noncomputable def cpM (M : mem) (c : Int) : List Int := (List.range (M 874 c).toNat).map (fun j : Nat => M 873 (60 * c + j))
/-- what a call of an edit comes to, of the reference -/
noncomputable def OM (x : Int) (cs : cfn) (M M' : mem) : Prop := (0 ≤ x ∧ x < 3 ∧ (OutM M M' x (cs (dc M x) (cpM M x)) ∨ NoM M M' x (cs (dc M x) (cpM M x)))) ∨ (¬ (0 ≤ x ∧ x < 3) ∧ MI M' ∧ frE wE M M')
theorem splF_eq {l P : List Int} {s t : Int} {g : Int → Int} (h0 : 0 ≤ s) (h1 : 0 ≤ t) (h2 : s + t ≤ (l.length : Int)) (hg : ∀ k : Int, 0 ≤ k → k < (P.length : Int) → g k = P.getD k.toNat 0) : splF l s t (P.length : Int) g = l.take s.toNat ++ P ++ l.drop (s + t).toNat := by
  apply List.ext_getElem?
  intro n
  unfold splF
  rw [List.getElem?_map, List.getElem?_append, List.getElem?_append, List.length_append, List.length_take]
  by_cases hn : n < ((l.length : Int) + (P.length : Int) - t).toNat
  · rw [List.getElem?_range hn]
    show some (if (n : Int) < s then l.getD n 0 else if (n : Int) < s + (P.length : Int) then g ((n : Int) - s) else l.getD ((n : Int) - (P.length : Int) + t).toNat 0) = _
    by_cases a : (n : Int) < s
    · rw [if_pos a, if_pos (by omega), if_pos (by omega), List.getElem?_take, if_pos (by omega), List.getD_eq_getElem?_getD, List.getElem?_eq_getElem (by omega)]
      rfl
    · by_cases b : (n : Int) < s + (P.length : Int)
      · rw [if_neg a, if_pos b, if_pos (by omega), if_neg (by omega), hg _ (by omega) (by omega), show ((n : Int) - s).toNat = n - min s.toNat l.length by omega, List.getD_eq_getElem?_getD, List.getElem?_eq_getElem (by omega)]
        rfl
      · rw [if_neg a, if_neg b, if_neg (by omega), List.getElem?_drop, show (s + t).toNat + (n - (min s.toNat l.length + P.length)) = ((n : Int) - (P.length : Int) + t).toNat by omega, List.getD_eq_getElem?_getD, List.getElem?_eq_getElem (by omega)]
        rfl
  · rw [List.getElem?_eq_none (by rw [List.length_range]; omega), if_neg (by omega), List.getElem?_drop, List.getElem?_eq_none (by omega)]
    rfl
theorem take_get {R P : List Int} {k : Nat} (h : R.take P.length = P) (hk : k < P.length) : R.getD k 0 = P.getD k 0 := by
  rw [List.getD_eq_getElem?_getD, List.getD_eq_getElem?_getD]
  have h2 : (R.take P.length)[k]? = P[k]? := by rw [h]
  rw [List.getElem?_take, if_pos hk] at h2
  rw [h2]
theorem okW_D {W : sV} {D : gD} {l : List Int} {n : Int} (hc : cWD W D) (hs : smD D) (hn : n = (l.length : Int)) : okW W n ↔ okD D l := by
  subst hn
  match D, hc, hs with
  | (0, ([s, t], P)), hc, hs =>
    obtain ⟨a, b, R, rfl, hR⟩ := hc
    rw [smD_0] at hs
    rw [okD_0]
    unfold okW
    dsimp only
    omega
  | (1, ([s0, t0, p0, s1, t1, p1], P)), hc, hs =>
    obtain ⟨a, b, R, rfl, hR⟩ := hc
    rw [smD_1] at hs
    rw [okD_1]
    unfold okW
    dsimp only
    omega
  | (2, ([a, b, kb, z], P)), hc, hs =>
    obtain ⟨R, rfl⟩ := hc
    rw [smD_2] at hs
    rw [okD_2]
    unfold okW
    dsimp only
    omega
theorem apW_D {W : sV} {D : gD} {l : List Int} (hc : cWD W D) (hs : smD D) (ho : okD D l) (h2 : D.1 ≠ 2) : apW W l = eD D l := by
  match D, hc, hs, ho, h2 with
  | (0, ([s, t], P)), hc, hs, ho, _ =>
    obtain ⟨a, b, R, rfl, hR⟩ := hc
    rw [okD_0] at ho
    rw [eD_0]
    unfold apW
    dsimp only
    rw [if_neg (by decide), if_neg (by decide), splF_eq ho.1 ho.2.1 ho.2.2.1 (fun k h0 h1 => take_get hR (by omega))]
  | (1, ([s0, t0, p0, s1, t1, p1], P)), hc, hs, ho, _ =>
    obtain ⟨a, b, R, rfl, hR⟩ := hc
    rw [okD_1] at ho
    rw [eD_1]
    obtain ⟨⟨o0, o1, o2, o3, o4⟩, ⟨q0, q1, q2⟩, o5⟩ := ho
    unfold apW
    dsimp only
    rw [if_neg (by decide), if_pos rfl]
    have e0 : p0 = ((P.take p0.toNat).length : Int) := by rw [List.length_take]; omega
    have e1 : p1 = ((P.drop p0.toNat).length : Int) := by rw [List.length_drop]; omega
    have i1 : splF l s0 t0 p0 (fun k => R.getD k.toNat 0) = l.take s0.toNat ++ P.take p0.toNat ++ l.drop (s0 + t0).toNat := by
      have h9 := splF_eq (l := l) (P := P.take p0.toNat) (g := fun k => R.getD k.toNat 0) o0 o1 (by omega) (fun k h0 h1 => by
        rw [List.length_take] at h1
        rw [take_get hR (by omega), List.getD_eq_getElem?_getD, List.getD_eq_getElem?_getD, List.getElem?_take, if_pos (by omega)])
      rw [← e0] at h9
      exact h9
    rw [i1]
    have la : ((l.take s0.toNat ++ P.take p0.toNat).length : Int) = s0 + p0 := by rw [List.length_append, List.length_take, List.length_take]; omega
    have h8 := splF_eq (l := l.take s0.toNat ++ P.take p0.toNat ++ l.drop (s0 + t0).toNat) (P := P.drop p0.toNat) (s := s1 + (p0 - t0)) (t := t1) (g := fun k => R.getD (p0 + k).toNat 0) (by omega) o3 (by rw [List.length_append, List.length_drop]; omega) (fun k h0 h1 => by
      rw [List.length_drop] at h1
      rw [take_get hR (by omega), List.getD_eq_getElem?_getD, List.getD_eq_getElem?_getD, List.getElem?_drop, show (p0 + k).toNat = p0.toNat + k.toNat by omega])
    rw [← e1] at h8
    rw [h8, List.take_append, List.drop_append, List.take_of_length_le (l := l.take s0.toNat ++ P.take p0.toNat) (by omega), List.drop_of_length_le (l := l.take s0.toNat ++ P.take p0.toNat) (by omega), show (s1 + (p0 - t0)).toNat - (l.take s0.toNat ++ P.take p0.toNat).length = (s1 - (s0 + t0)).toNat by omega, List.drop_drop, List.nil_append, show (s0 + t0).toNat + ((s1 + (p0 - t0) + t1).toNat - (l.take s0.toNat ++ P.take p0.toNat).length) = (s1 + t1).toNat by omega]
  | (2, ([a, b, kb, z], P)), hc, hs, ho, h2 => exact absurd rfl h2

set_option maxRecDepth 100000 in
set_option maxHeartbeats 4000000 in
theorem x_goes {X : scr} {M : mem} {s : Int} (rs : inR s) (hs : 0 ≤ s ∧ s ≤ 100) (hl : 0 ≤ M 856 23 ∧ M 856 23 ≤ 60) (hw : okX (mv M s) (M 856 23)) (hG : GR (M 857) (M 858)) : At X 0 113 0 [vr 856, vi s] [] M (qI (fun x M' => frE (fun q j => q = 877 ∨ (q = 856 ∧ j = 23) ∨ (q = 868 ∧ 60 * s ≤ j ∧ j < 60 * s + 60) ∨ q = 881 ∨ q = 882) M M' ∧ (x = 0 ∨ x = 1) ∧ (x = 1 → okW (mv M s) (M 856 23) ∧ (0 ≤ M' 856 23 ∧ M' 856 23 ≤ 60) ∧ wk M' = apW (mv M s) (wk M) ∧ Bal (wk M')) ∧ (x = 1 ↔ okW (mv M s) (M 856 23) ∧ acc (M 857) (M 858) (apW (mv M s) (wk M))))) := by
  have hN := okX_N hw hl.2
  refine at_aload dx_113_0 rfl ?_
  refine at_iload dx_113_1 rfl ?_
  refine at_callVI dx_113_2 rfl lc_856 rfl (m_isTooLong rs hs hN (by omega)) ?_
  rintro x2 M9 r2 ⟨e9, h2⟩; replace e9 := e9.symm; subst e9
  refine at_zeqR dx_113_3 r2 (fun c3 => ?_) (fun c3 => ?_)
  · skip
    have hW : okW (mv M s) (M 856 23) := okX_W hw (fun h0 => by split at h2 <;> omega)
    refine at_aload dx_113_6 rfl ?_
    refine at_iload dx_113_7 rfl ?_
    refine at_callVV dx_113_8 rfl lc_856 rfl (m_does rs hs hl hW) ?_
    rintro M8 ⟨F8, l8, w8⟩
    have g7 : M8 857 = M 857 := funext (fun j => F8 857 j (by (try dsimp only [stE]); first | done | omega))
    have g8 : M8 858 = M 858 := funext (fun j => F8 858 j (by (try dsimp only [stE]); first | done | omega))
    refine at_aload dx_113_9 rfl ?_
    refine at_callVI dx_113_10 rfl lc_856 rfl (x_isValid l8.1 (by rw [g7, g8]; exact hG)) ?_
    rintro x10 M10 r10 ⟨F10, b10, v10, z10⟩
    rw [g7, g8, w8] at z10
    refine at_zretI dx_113_11 b10 ?_
    have e10 : M10 856 23 = M8 856 23 := F10 856 23 (by decide)
    have k10 : wk M10 = wk M8 := wk_cg e10 (fun j _ => F10 877 j (by (try dsimp only [stE]); first | done | omega))
    refine ⟨fe_tr (fe_le F8 (fun q j h => by (try dsimp only [stE] at h ⊢); first | done | omega)) (fe_le F10 (fun q j h => by (try dsimp only [stE] at h ⊢); first | done | omega)), b10, fun e => ⟨hW, by rw [e10]; exact l8, by rw [k10]; exact w8, by rw [k10]; exact (v10 e).2⟩, fun e => ⟨hW, (z10.mp e).2⟩, fun e => z10.mpr ⟨l8.2, e.2⟩⟩
  · skip
    refine at_const (x := 0) dx_113_4 rfl ?_
    refine at_zretI dx_113_5 (Or.inl rfl) ?_
    refine ⟨fe_rf, Or.inl rfl, fun e => absurd e (by decide), fun e => absurd e (by decide), fun e => ?_⟩
    exfalso
    have h9 := e.1
    unfold okW mv at h9
    dsimp only at h9
    split at h2 <;> omega

set_option maxRecDepth 100000 in
set_option maxHeartbeats 4000000 in
theorem x_canEdit {X : scr} {M : mem} {c : Int} (rc : inR c) (hc : 0 ≤ c ∧ c ≤ 2) (hM : MI M) (hw : okX (mv M 100) (M 860 c)) (hG : GR (M 857) (M 858)) : At X 0 122 0 [vr 856, vi c] [] M (qI (fun x M' => frE (fun q j => q = 877 ∨ (q = 856 ∧ j = 23) ∨ q = 868 ∨ q = 881 ∨ q = 882) M M' ∧ (x = 0 ∨ x = 1) ∧ (x = 1 → M 871 c < 10 ∧ okW (mv M 100) (M 860 c) ∧ (0 ≤ M' 856 23 ∧ M' 856 23 ≤ 60) ∧ wk M' = apW (mv M 100) (dc M c) ∧ Bal (wk M')) ∧ (x = 1 ↔ M 871 c < 10 ∧ okW (mv M 100) (M 860 c) ∧ acc (M 857) (M 858) (apW (mv M 100) (dc M c))))) := by
  have hsz := hM.1 c hc.1 (by omega)
  have hmc := hM.2.2.2.2 c hc.1 hc.2
  refine at_aload dx_122_0 rfl ?_
  refine at_getR dx_122_1 lc_856 rfl lt_856_15 ?_
  refine at_iload dx_122_2 rfl ?_
  refine at_aldI dx_122_3 lc_871 ln_871 (by first | omega | (simp (disch := omega) only [um_eq, um_k, um_j]; omega)) (by first | omega | (simp (disch := omega) only [um_eq, um_k, um_j]; omega)) (fun r3 => ?_)
  refine at_const (x := 10) dx_122_4 rfl ?_
  refine at_cneR dx_122_5 r3 (by decide) (fun c5 => ?_) (fun c5 => ?_)
  · skip
    refine at_aload dx_122_8 rfl ?_
    refine at_iload dx_122_9 rfl ?_
    refine at_callVV dx_122_10 rfl lc_856 rfl (m_looksAt rc (by omega) hsz) ?_
    rintro M10 ⟨F10, e10, w10⟩
    have v10 : mv M10 100 = mv M 100 := mv_fe F10 (fun q j e h8 hq => by (try dsimp only [stE] at e hq); omega)
    have g7 : M10 857 = M 857 := funext (fun j => F10 857 j (by (try dsimp only [stE]); first | done | omega))
    have g8 : M10 858 = M 858 := funext (fun j => F10 858 j (by (try dsimp only [stE]); first | done | omega))
    refine at_aload dx_122_11 rfl ?_
    refine at_const (x := 100) dx_122_12 rfl ?_
    refine at_callVI dx_122_13 rfl lc_856 rfl (x_goes (s := 100) (by decide) (by decide) (by omega) (by rw [v10, e10]; exact hw) (by rw [g7, g8]; exact hG)) ?_
    rintro x13 M13 r13 ⟨F13, b13, w13, z13⟩
    rw [v10, e10, w10] at w13
    rw [v10, e10, w10, g7, g8] at z13
    refine at_zretI dx_122_14 b13 ?_
    refine ⟨fe_tr (fe_le F10 (fun q j h => by (try dsimp only [stE, sqE, ceE] at h ⊢); first | done | omega)) (fe_le F13 (fun q j h => by (try dsimp only [stE, sqE, ceE] at h ⊢); first | done | omega)), b13, fun e => ⟨by omega, w13 e⟩, fun e => ⟨by omega, z13.mp e⟩, fun e => z13.mpr e.2⟩
  · skip
    refine at_const (x := 0) dx_122_6 rfl ?_
    refine at_zretI dx_122_7 (Or.inl rfl) ?_
    exact ⟨fe_rf, Or.inl rfl, fun e => absurd e (by decide), fun e => absurd e (by decide), fun e => by omega⟩

set_option maxRecDepth 100000 in
set_option maxHeartbeats 4000000 in
theorem x_edits {X : scr} {M : mem} {c : Int} (rc : inR c) (hc : 0 ≤ c ∧ c ≤ 2) (hM : MI M) (hp : M 871 c < 10) (hw : okW (mv M 100) (M 860 c)) (hl : 0 ≤ M 856 23 ∧ M 856 23 ≤ 60) (hk : wk M = apW (mv M 100) (dc M c)) (hB : Bal (wk M)) : At X 0 123 0 [vr 856, vi c] [] M (qV (fun M' => MI M' ∧ frE (fun q j => (q = 859 ∧ 60 * c ≤ j ∧ j < 60 * c + 60) ∨ ((q = 860 ∨ q = 871) ∧ j = c) ∨ stE (60 + 10 * c + M 871 c) q j) M M' ∧ M' 871 c = M 871 c + 1 ∧ mv M' (60 + 10 * c + M 871 c) = mv M 100 ∧ dc M' c = apW (mv M 100) (dc M c))) := by
  have hsz := hM.1 c hc.1 (by omega)
  have hmc := hM.2.2.2.2 c hc.1 hc.2
  obtain ⟨b1, b2, b3, b, b4, b5⟩ := id hmc
  refine at_aload dx_123_0 rfl ?_
  refine at_const (x := 100) dx_123_1 rfl ?_
  refine at_iload dx_123_2 rfl ?_
  refine at_aload dx_123_3 rfl ?_
  refine at_getR dx_123_4 lc_856 rfl lt_856_15 ?_
  refine at_iload dx_123_5 rfl ?_
  refine at_aldI dx_123_6 lc_871 ln_871 (by first | omega | (simp (disch := omega) only [um_eq, um_k, um_j]; omega)) (by first | omega | (simp (disch := omega) only [um_eq, um_k, um_j]; omega)) (fun r6 => ?_)
  refine at_callSI dx_123_7 rfl rfl (m_place rc r6 (by omega) (by omega)) ?_
  rintro x7 M9 r7 ⟨e9, h7⟩; replace e9 := e9.symm; subst e9; subst h7
  refine at_callVV dx_123_8 rfl lc_856 rfl (m_copies (f := 100) (by decide) r7 (by decide) (by omega) (by omega)) ?_
  rintro M8 ⟨F8, v8, -⟩
  have e871 : M8 871 c = M 871 c := F8 871 c (by (try dsimp only [stE, sqE, ceE]); first | done | omega)
  refine at_aload dx_123_9 rfl ?_
  refine at_getR dx_123_10 lc_856 rfl lt_856_15 ?_
  refine at_iload dx_123_11 rfl ?_
  refine at_dup2 dx_123_12 rfl rfl ?_
  refine at_aldI dx_123_13 lc_871 ln_871 (by first | omega | (simp (disch := omega) only [um_eq, um_k, um_j]; omega)) (by first | omega | (simp (disch := omega) only [um_eq, um_k, um_j]; omega)) (fun r13 => ?_)
  rw [e871] at r13 ⊢
  refine at_const (x := 1) dx_123_14 rfl ?_
  refine at_addR dx_123_15 (by constructor <;> omega) (fun r15 => ?_)
  refine at_astI dx_123_16 lc_871 ln_871 (by first | omega | (simp (disch := omega) only [um_eq, um_k, um_j]; omega)) (by first | omega | (simp (disch := omega) only [um_eq, um_k, um_j]; omega)) r15 ?_
  refine at_mem (fun Mu hMu => ?_)
  have Fu : frE (fun q j => q = 871 ∧ j = c) M8 Mu := by rw [hMu]; exact fe_um ⟨rfl, rfl⟩
  have u1 : Mu 871 c = M 871 c + 1 := by rw [hMu, um_eq]
  refine at_aload dx_123_17 rfl ?_
  refine at_iload dx_123_18 rfl ?_
  refine at_callVV dx_123_19 rfl lc_856 rfl (m_keeps rc (by omega) (by rw [Fu 856 23 (by (try dsimp only [stE, sqE, ceE]); first | done | omega), F8 856 23 (by (try dsimp only [stE, sqE, ceE]); first | done | omega)]; exact hl)) ?_
  rintro M19 ⟨F19, s19, d19⟩
  refine at_vretV dx_123_20 ?_
  have F : frE (fun q j => (q = 859 ∧ 60 * c ≤ j ∧ j < 60 * c + 60) ∨ ((q = 860 ∨ q = 871) ∧ j = c) ∨ stE (60 + 10 * c + M 871 c) q j) M M19 := fe_tr (fe_tr (fe_le F8 (fun q j h => Or.inr (Or.inr h))) (fe_le Fu (fun q j h => Or.inr (Or.inl ⟨Or.inr h.1, h.2⟩)))) (fe_le F19 (fun q j h => by rcases h with h | h; exact Or.inr (Or.inl ⟨Or.inl h.1, h.2⟩); exact Or.inl h))
  have FC : frE (fun q j => sqE q j ∨ ceE c q j) M M19 := fe_le F (fun q j h => by
    rcases h with h | ⟨h | h, h2⟩ | ⟨h1, h2⟩ | ⟨h1, h2⟩ | ⟨h1, h2, h3⟩
    · exact Or.inr (Or.inl h)
    · exact Or.inr (Or.inr (Or.inl ⟨Or.inl h, h2⟩))
    · exact Or.inr (Or.inr (Or.inl ⟨Or.inr (Or.inr (Or.inl h)), h2⟩))
    · exact Or.inr (Or.inr (Or.inr (Or.inl ⟨h1, by omega, by omega⟩)))
    · exact Or.inr (Or.inr (Or.inr (Or.inr (Or.inl ⟨h1, by omega, by omega⟩))))
    · rcases (show q = 868 ∨ q = 869 by omega) with h9 | h9
      · exact Or.inl (Or.inr (Or.inr (Or.inr (Or.inr (Or.inl h9)))))
      · exact Or.inr (Or.inr (Or.inr (Or.inr (Or.inr ⟨h9, by omega, by omega⟩)))))
  have wkE : wk Mu = wk M := wk_cg ((Fu 856 23 (by (try dsimp only [stE, sqE, ceE]); first | done | omega)).trans (F8 856 23 (by (try dsimp only [stE, sqE, ceE]); first | done | omega))) (fun j _ => (Fu 877 j (by (try dsimp only [stE, sqE, ceE]); first | done | omega)).trans (F8 877 j (by (try dsimp only [stE, sqE, ceE]); first | done | omega)))
  have eu : Mu 856 23 = M 856 23 := (Fu 856 23 (by (try dsimp only [stE, sqE, ceE]); first | done | omega)).trans (F8 856 23 (by (try dsimp only [stE, sqE, ceE]); first | done | omega))
  have dl : ((dc M c).length : Int) = M 860 c := by rw [dc_len]; omega
  have vs : mv M19 (60 + 10 * c + M 871 c) = mv M 100 := by
    rw [mv_fe F19 (fun q j e h8 hq => by (try dsimp only [stE] at e hq); omega), mv_fe Fu (fun q j e h8 hq => by (try dsimp only [stE] at e hq); omega), v8]
  refine ⟨MI_cl hM hc FC (by rw [s19, eu]; exact hl) ⟨?_, ?_, ?_, b, ?_, ?_⟩, F, (F19 871 c (by (try dsimp only [stE, sqE, ceE]); first | done | omega)).trans u1, vs, by rw [d19, wkE, hk]⟩
  · rw [F 870 c (by (try dsimp only [stE, sqE, ceE]); first | done | omega), F 856 13 (by (try dsimp only [stE, sqE, ceE]); first | done | omega)]; exact b1
  · rw [F19 871 c (by (try dsimp only [stE, sqE, ceE]); first | done | omega), u1]; omega
  · rw [F 874 c (by (try dsimp only [stE, sqE, ceE]); first | done | omega)]; exact b3
  · rw [F 870 c (by (try dsimp only [stE, sqE, ceE]); first | done | omega), lgW_fe F (fun q j e => by (try dsimp only [stE] at e); omega)]; exact b4
  · rw [F19 871 c (by (try dsimp only [stE, sqE, ceE]); first | done | omega), u1, pdW_succ b2.1, d19, wkE, hk, pdW_fe F (fun q j e => by (try dsimp only [stE] at e); omega)]
    rw [vs]
    exact (RunW_app _ _ _ _).mpr ⟨_, b5, by rw [dl]; exact hw, by rw [← hk]; exact hB, rfl⟩
