/-! ===== the reference: steps tried, how deep a position is ===== -/
noncomputable def lenW (v : sV) (n : Int) : Int := match v with
  | ([_, _, _, _, _, _, t0, t1, p0, p1], _) => n + p0 + p1 - t0 - t1
  | _ => n
theorem lenW_mv (M : mem) (s n : Int) : lenW (mv M s) n = n + M 867 (2 * s) + M 867 (2 * s + 1) - M 866 (2 * s) - M 866 (2 * s + 1) := rfl
theorem apW_len {M : mem} {s : Int} {l : List Int} (h : okW (mv M s) (l.length : Int)) : ((apW (mv M s) l).length : Int) = lenW (mv M s) (l.length : Int) := by
  rw [lenW_mv, apW_eq]
  unfold okW mv at h
  dsimp only at h
  split
  · rw [mkF_len]; omega
  · split
    · rw [splF_len, splF_len]; omega
    · rw [splF_len]; omega
theorem dsm_step (l : List Int) (i : Nat) : dsm l (i + 1) = dsm l i + dch (l.getD i 0) := rfl
theorem dch_le (t : Int) : dch t ≤ 1 ∧ -1 ≤ dch t := by
  unfold dch
  split
  · omega
  · split <;> omega
theorem dsm_le (l : List Int) : ∀ i, dsm l i ≤ (i : Int)
  | 0 => by show (0 : Int) ≤ 0; omega
  | i + 1 => by
    have := dsm_le l i
    have := dch_le (l.getD i 0)
    rw [dsm_step]
    omega
theorem dsm_back {l : List Int} (hB : Bal l) : ∀ (n i : Nat), i + n = l.length → dsm l i ≤ (n : Int)
  | 0, i, h => by
    have h2 : i = l.length := by omega
    rw [h2, hB.2]
    exact Int.le_refl _
  | n + 1, i, h => by
    have h1 := dsm_back hB n (i + 1) (by omega)
    have h2 := dch_le (l.getD i 0)
    rw [dsm_step] at h1
    omega

set_option maxRecDepth 100000 in
set_option maxHeartbeats 4000000 in
theorem m_goes {X : scr} {M : mem} {s : Int} (rs : inR s) (hs : 0 ≤ s ∧ s ≤ 100) (hl : 0 ≤ M 856 23 ∧ M 856 23 ≤ 60) (hw : okX (mv M s) (M 856 23)) : At X 0 113 0 [vr 856, vi s] [] M (qI (fun x M' => frE (fun q j => q = 877 ∨ (q = 856 ∧ j = 23) ∨ (q = 868 ∧ 60 * s ≤ j ∧ j < 60 * s + 60) ∨ q = 881 ∨ q = 882) M M' ∧ (x = 0 ∨ x = 1) ∧ (x = 1 → okW (mv M s) (M 856 23) ∧ (0 ≤ M' 856 23 ∧ M' 856 23 ≤ 60) ∧ wk M' = apW (mv M s) (wk M) ∧ Bal (wk M')))) := by
  have hN := okX_N hw hl.2
  refine at_aload dx_113_0 rfl ?_
  refine at_iload dx_113_1 rfl ?_
  refine at_callVI dx_113_2 rfl lc_856 rfl (m_isTooLong rs hs hN (by omega)) ?_
  rintro x2 M9 r2 ⟨e9, h2⟩; replace e9 := e9.symm; subst e9
  refine at_zeqR dx_113_3 r2 (fun c3 => ?_) (fun c3 => ?_)
  · skip
    have hW : okW (mv M s) (M 856 23) := okX_W hw (fun h0 => by split at h2 <;> omega)
    refine at_aload dx_113_6 rfl ?_
    refine at_iload dx_113_7 rfl ?_
    refine at_callVV dx_113_8 rfl lc_856 rfl (m_does rs hs hl hW) ?_
    rintro M8 ⟨F8, l8, w8⟩
    refine at_aload dx_113_9 rfl ?_
    refine at_callVI dx_113_10 rfl lc_856 rfl (m_isValid l8.1) ?_
    rintro x10 M10 r10 ⟨F10, b10, v10⟩
    refine at_zretI dx_113_11 b10 ?_
    have e10 : M10 856 23 = M8 856 23 := F10 856 23 (by decide)
    have k10 : wk M10 = wk M8 := wk_cg e10 (fun j _ => F10 877 j (by (try dsimp only [stE]); first | done | omega))
    refine ⟨fe_tr (fe_le F8 (fun q j h => by (try dsimp only [stE] at h ⊢); first | done | omega)) (fe_le F10 (fun q j h => by (try dsimp only [stE] at h ⊢); first | done | omega)), b10, fun e => ⟨hW, by rw [e10]; exact l8, by rw [k10]; exact w8, by rw [k10]; exact (v10 e).2⟩⟩
  · skip
    refine at_const (x := 0) dx_113_4 rfl ?_
    refine at_zretI dx_113_5 (Or.inl rfl) ?_
    exact ⟨fe_rf, Or.inl rfl, fun e => absurd e (by decide)⟩

set_option maxRecDepth 100000 in
set_option maxHeartbeats 4000000 in
theorem m_depthAt {X : scr} {M : mem} {d p : Int} (rd : inR d) (rp : inR p) (hd : 0 ≤ d ∧ d ≤ 3) (hl : 0 ≤ M 860 d ∧ M 860 d ≤ 60) (hp : 0 ≤ p ∧ p ≤ M 860 d) (hB : Bal (dc M d)) : At X 0 127 0 [vr 856, vi d, vi p] [] M (qI (fun x M' => frE (fun q j => q = 881) M M' ∧ (0 ≤ x ∧ x ≤ 60) ∧ x = dsm (dc M d) p.toNat ∧ ∀ j : Int, 0 ≤ j → j ≤ x → 0 ≤ M' 881 j ∧ M' 881 j ≤ 5)) := by
  have lp : ∀ (n : Nat) (x k : Int) (M1 : mem) (rx : inR x) (rk : inR k) (hk : 0 ≤ k ∧ k ≤ p) (hn : (p - k).toNat = n) (F : frE (fun q j => q = 881) M M1) (w1 : x = dsm (dc M d) k.toNat) (ho : ∀ j : Int, 0 ≤ j → j ≤ x → 0 ≤ M1 881 j ∧ M1 881 j ≤ 5), At X 0 127 9 [vr 856, vi d, vi p, vi x, vi k] [] M1 (qI (fun x M' => frE (fun q j => q = 881) M M' ∧ (0 ≤ x ∧ x ≤ 60) ∧ x = dsm (dc M d) p.toNat ∧ ∀ j : Int, 0 ≤ j → j ≤ x → 0 ≤ M' 881 j ∧ M' 881 j ≤ 5)) := by
    intro n
    induction n using Nat.strongRecOn with
    | ind n ih =>
    intro x k M1 rx rk hk hn F w1 ho
    have eD : M1 859 (60 * d + k) = M 859 (60 * d + k) := F 859 _ (by (try dsimp only [stE]); first | done | omega)
    have hx0 : 0 ≤ x := by rw [w1]; exact hB.1 _ (by rw [dc_len]; omega)
    have hx1 : x ≤ k := by have := dsm_le (dc M d) k.toNat; omega
    have hs : k < p → dsm (dc M d) (k + 1).toNat = x + dch (M 859 (60 * d + k)) := fun hh => by
      have h9 := dc_at (M := M) (d := d) (j := k.toNat) (by omega)
      rw [Int.toNat_of_nonneg hk.1] at h9
      rw [show (k + 1).toNat = k.toNat + 1 by omega, dsm_step, h9, ← w1]
    have hs0 : k < p → 0 ≤ dsm (dc M d) (k + 1).toNat := fun hh => hB.1 _ (by rw [dc_len]; omega)
    refine at_iload dx_127_9 rfl ?_
    refine at_iload dx_127_10 rfl ?_
    refine at_cgeR dx_127_11 rk rp (fun c11 => ?_) (fun c11 => ?_)
    · skip
      refine at_iload dx_127_36 rfl ?_
      refine at_iretI dx_127_37 rx ?_
      have hkp : k = p := by omega
      subst hkp
      exact ⟨F, by omega, w1, ho⟩
    · skip
      refine at_aload dx_127_12 rfl ?_
      refine at_getR dx_127_13 lc_856 rfl lt_856_2 ?_
      refine at_const (x := 60) dx_127_14 rfl ?_
      refine at_iload dx_127_15 rfl ?_
      refine at_mulR dx_127_16 (by constructor <;> omega) (fun r16 => ?_)
      refine at_iload dx_127_17 rfl ?_
      refine at_addR dx_127_18 (by constructor <;> omega) (fun r18 => ?_)
      refine at_aldI dx_127_19 lc_859 ln_859 (by first | omega | (simp (disch := omega) only [um_eq, um_k, um_j]; omega)) (by first | omega | (simp (disch := omega) only [um_eq, um_k, um_j]; omega)) (fun r19 => ?_)
      refine at_istore dx_127_20 ?_
      refine at_iload dx_127_21 rfl ?_
      refine at_zneR dx_127_22 r19 (fun c22 => ?_) (fun c22 => ?_)
      · skip
        refine at_iload dx_127_25 rfl ?_
        refine at_callSI dx_127_26 rfl rfl (m_opens r19) ?_
        rintro x26 M9 r26 ⟨e9, h26⟩; replace e9 := e9.symm; subst e9
        refine at_zeqR dx_127_27 r26 (fun c27 => ?_) (fun c27 => ?_)
        · skip
          refine at_iincR (y := 1) dx_127_34 rfl rfl (by constructor <;> omega) (fun r34 => ?_)
          refine at_goto dx_127_35 ?_
          refine at_wk (ls := [vr 856, vi _, vi _, vi _, vi _]) ⟨Or.inl rfl, Or.inl rfl, Or.inl rfl, Or.inl rfl, Or.inl rfl, trivial⟩ ?_
          have hq := hs (by omega)
          have hq0 := hs0 (by omega)
          first
          | (exfalso; omega)
          | (have hz : dch (M 859 (60 * d + k)) = -1 := by unfold dch; rw [if_pos (by omega)]
             rw [hz] at hq
             exact ih _ (by omega) _ _ _ r23 r34 (by omega) rfl F hq.symm (fun j h1 h2 => ho j h1 (by omega)))
          | (have hn5 : ¬ (1 ≤ M 859 (60 * d + k) ∧ M 859 (60 * d + k) ≤ 5) := fun hh => by rw [if_pos (by omega)] at h26; omega
             have hz : dch (M 859 (60 * d + k)) = 0 := by unfold dch; rw [if_neg (by omega), if_neg hn5]
             rw [hz, Int.add_zero] at hq
             exact ih _ (by omega) _ _ _ rx r34 (by omega) rfl F hq.symm ho)
          | (have hy5 : 1 ≤ M 859 (60 * d + k) ∧ M 859 (60 * d + k) ≤ 5 := by split at h26 <;> omega
             have hz : dch (M 859 (60 * d + k)) = 1 := by unfold dch; rw [if_neg (by omega), if_pos hy5]
             rw [hz] at hq
             refine ih _ (by omega) _ _ _ r28 r34 (by omega) rfl (fe_ums F rfl) hq.symm (fun j h1 h2 => ?_)
             by_cases ej : j = x + 1
             · subst ej; rw [um_eq]; omega
             · rw [um_j ej]; exact ho j h1 (by omega))
        · skip
          refine at_iincR (y := 1) dx_127_28 rfl rfl (by constructor <;> omega) (fun r28 => ?_)
          refine at_aload dx_127_29 rfl ?_
          refine at_getR dx_127_30 lc_856 rfl lt_856_29 ?_
          refine at_iload dx_127_31 rfl ?_
          refine at_iload dx_127_32 rfl ?_
          refine at_astI dx_127_33 lc_881 ln_881 (by first | omega | (simp (disch := omega) only [um_eq, um_k, um_j]; omega)) (by first | omega | (simp (disch := omega) only [um_eq, um_k, um_j]; omega)) r19 ?_
          refine at_iincR (y := 1) dx_127_34 rfl rfl (by constructor <;> omega) (fun r34 => ?_)
          refine at_goto dx_127_35 ?_
          refine at_wk (ls := [vr 856, vi _, vi _, vi _, vi _]) ⟨Or.inl rfl, Or.inl rfl, Or.inl rfl, Or.inl rfl, Or.inl rfl, trivial⟩ ?_
          have hq := hs (by omega)
          have hq0 := hs0 (by omega)
          first
          | (exfalso; omega)
          | (have hz : dch (M 859 (60 * d + k)) = -1 := by unfold dch; rw [if_pos (by omega)]
             rw [hz] at hq
             exact ih _ (by omega) _ _ _ r23 r34 (by omega) rfl F hq.symm (fun j h1 h2 => ho j h1 (by omega)))
          | (have hn5 : ¬ (1 ≤ M 859 (60 * d + k) ∧ M 859 (60 * d + k) ≤ 5) := fun hh => by rw [if_pos (by omega)] at h26; omega
             have hz : dch (M 859 (60 * d + k)) = 0 := by unfold dch; rw [if_neg (by omega), if_neg hn5]
             rw [hz, Int.add_zero] at hq
             exact ih _ (by omega) _ _ _ rx r34 (by omega) rfl F hq.symm ho)
          | (have hy5 : 1 ≤ M 859 (60 * d + k) ∧ M 859 (60 * d + k) ≤ 5 := by split at h26 <;> omega
             have hz : dch (M 859 (60 * d + k)) = 1 := by unfold dch; rw [if_neg (by omega), if_pos hy5]
             rw [hz] at hq
             refine ih _ (by omega) _ _ _ r28 r34 (by omega) rfl (fe_ums F rfl) hq.symm (fun j h1 h2 => ?_)
             by_cases ej : j = x + 1
             · subst ej; rw [um_eq]; omega
             · rw [um_j ej]; exact ho j h1 (by omega))
      · skip
        refine at_iincR (y := -1) dx_127_23 rfl rfl (by constructor <;> omega) (fun r23 => ?_)
        refine at_goto dx_127_24 ?_
        refine at_iincR (y := 1) dx_127_34 rfl rfl (by constructor <;> omega) (fun r34 => ?_)
        refine at_goto dx_127_35 ?_
        refine at_wk (ls := [vr 856, vi _, vi _, vi _, vi _]) ⟨Or.inl rfl, Or.inl rfl, Or.inl rfl, Or.inl rfl, Or.inl rfl, trivial⟩ ?_
        have hq := hs (by omega)
        have hq0 := hs0 (by omega)
        first
        | (exfalso; omega)
        | (have hz : dch (M 859 (60 * d + k)) = -1 := by unfold dch; rw [if_pos (by omega)]
           rw [hz] at hq
           exact ih _ (by omega) _ _ _ r23 r34 (by omega) rfl F hq.symm (fun j h1 h2 => ho j h1 (by omega)))
        | (have hn5 : ¬ (1 ≤ M 859 (60 * d + k) ∧ M 859 (60 * d + k) ≤ 5) := fun hh => by rw [if_pos (by omega)] at h26; omega
           have hz : dch (M 859 (60 * d + k)) = 0 := by unfold dch; rw [if_neg (by omega), if_neg hn5]
           rw [hz, Int.add_zero] at hq
           exact ih _ (by omega) _ _ _ rx r34 (by omega) rfl F hq.symm ho)
        | (have hy5 : 1 ≤ M 859 (60 * d + k) ∧ M 859 (60 * d + k) ≤ 5 := by split at h26 <;> omega
           have hz : dch (M 859 (60 * d + k)) = 1 := by unfold dch; rw [if_neg (by omega), if_pos hy5]
           rw [hz] at hq
           refine ih _ (by omega) _ _ _ r28 r34 (by omega) rfl (fe_ums F rfl) hq.symm (fun j h1 h2 => ?_)
           by_cases ej : j = x + 1
           · subst ej; rw [um_eq]; omega
           · rw [um_j ej]; exact ho j h1 (by omega))
  refine at_const (x := 0) dx_127_0 rfl ?_
  refine at_istore dx_127_1 ?_
  refine at_aload dx_127_2 rfl ?_
  refine at_getR dx_127_3 lc_856 rfl lt_856_29 ?_
  refine at_const (x := 0) dx_127_4 rfl ?_
  refine at_const (x := 0) dx_127_5 rfl ?_
  refine at_astI dx_127_6 lc_881 ln_881 (by decide) (by decide) (by decide) ?_
  refine at_const (x := 0) dx_127_7 rfl ?_
  refine at_istore dx_127_8 ?_
  exact lp _ 0 0 _ (by decide) (by decide) (by omega) rfl (by (repeat (first | exact fe_rf | refine fe_ums ?_ (by (try dsimp only); first | done | omega)))) rfl (fun j h1 h2 => by rw [show j = 0 by omega, um_eq]; decide)

set_option maxRecDepth 100000 in
set_option maxHeartbeats 4000000 in
theorem m_closing {X : scr} {M : mem} {d p : Int} (rd : inR d) (rp : inR p) (hd : 0 ≤ d ∧ d ≤ 3) (hl : 0 ≤ M 860 d ∧ M 860 d ≤ 60) (hp : 0 ≤ p ∧ p < M 860 d) (ho : 1 ≤ M 859 (60 * d + p) ∧ M 859 (60 * d + p) ≤ 5) (hB : Bal (dc M d)) : At X 0 133 0 [vr 856, vi d, vi p] [] M (qI (fun x M' => M' = M ∧ p < x ∧ x < M 860 d)) := by
  have hdl : ((dc M d).length : Int) = M 860 d := by rw [dc_len]; omega
  have lp : ∀ (n : Nat) (x k : Int) (rx : inR x) (rk : inR k) (hk : p ≤ k ∧ k < M 860 d) (hx : -1 ≤ x ∧ x ≤ 100) (hpk : p = k → x = 1) (hn : (M 860 d - k).toNat = n) (w1 : x = dsm (dc M d) (k + 1).toNat - dsm (dc M d) p.toNat), At X 0 133 4 [vr 856, vi d, vi p, vi x, vi k] [] M (qI (fun x M' => M' = M ∧ p < x ∧ x < M 860 d)) := by
    intro n
    induction n using Nat.strongRecOn with
    | ind n ih =>
    intro x k rx rk hk hx hpk hn w1
    have hend : 0 < x → k + 1 < M 860 d := fun h0 => by
      by_cases e : k + 1 < M 860 d
      · exact e
      · exfalso
        have e2 : (k + 1).toNat = (dc M d).length := by omega
        rw [e2, hB.2] at w1
        have := hB.1 p.toNat (by omega)
        omega
    have hs : 0 < x → dsm (dc M d) (k + 1 + 1).toNat = dsm (dc M d) (k + 1).toNat + dch (M 859 (60 * d + (k + 1))) := fun hh => by
      have h8 := hend hh
      have h9 := dc_at (M := M) (d := d) (j := (k + 1).toNat) (by omega)
      rw [Int.toNat_of_nonneg (by omega)] at h9
      rw [show (k + 1 + 1).toNat = (k + 1).toNat + 1 by omega, dsm_step, h9]
    have hbnd : 0 < x → dsm (dc M d) (k + 1 + 1).toNat ≤ 61 ∧ 0 ≤ dsm (dc M d) p.toNat := fun hh => ⟨by have := dsm_le (dc M d) (k + 1 + 1).toNat; have := hend hh; omega, hB.1 _ (by omega)⟩
    refine at_iload dx_133_4 rfl ?_
    refine at_zleR dx_133_5 rx (fun c5 => ?_) (fun c5 => ?_)
    · skip
      refine at_iload dx_133_26 rfl ?_
      refine at_iretI dx_133_27 rk ?_
      refine ⟨rfl, ?_, hk.2⟩
      by_cases e : p = k
      · have := hpk e; omega
      · omega
    · skip
      refine at_iincR (y := 1) dx_133_6 rfl rfl (by constructor <;> omega) (fun r6 => ?_)
      have he7 := hend (by omega)
      refine at_aload dx_133_7 rfl ?_
      refine at_iload dx_133_8 rfl ?_
      refine at_iload dx_133_9 rfl ?_
      refine at_callVI dx_133_10 rfl lc_856 rfl (m_tokenOf rd r6 (by omega) (by omega)) ?_
      rintro x10 M9 r10 ⟨e9, h10⟩; replace e9 := e9.symm; subst e9
      refine at_istore dx_133_11 ?_
      refine at_iload dx_133_12 rfl ?_
      refine at_iload dx_133_13 rfl ?_
      refine at_zneR dx_133_14 r10 (fun c14 => ?_) (fun c14 => ?_)
      · skip
        refine at_iload dx_133_17 rfl ?_
        refine at_callSI dx_133_18 rfl rfl (m_opens r10) ?_
        rintro x18 M9 r18 ⟨e9, h18⟩; replace e9 := e9.symm; subst e9
        refine at_zeqR dx_133_19 r18 (fun c19 => ?_) (fun c19 => ?_)
        · skip
          refine at_const (x := 0) dx_133_22 rfl ?_
          refine at_addR dx_133_23 (by constructor <;> omega) (fun r23 => ?_)
          refine at_istore dx_133_24 ?_
          refine at_goto dx_133_25 ?_
          refine at_wk (ls := [vr 856, vi _, vi _, vi _, vi _]) ⟨Or.inl rfl, Or.inl rfl, Or.inl rfl, Or.inl rfl, Or.inl rfl, trivial⟩ ?_
          have hq := hs (by omega)
          have hb9 := hbnd (by omega)
          have he9 := hend (by omega)
          have hz : dch (M 859 (60 * d + (k + 1))) = 0 := by
            unfold dch
            first
            | (rw [if_pos (by omega)]; done)
            | (rw [if_neg (by omega), if_pos (by split at h18 <;> omega)]; done)
            | (rw [if_neg (by omega), if_neg (fun hh => by rw [if_pos (by omega)] at h18; omega)]; done)
          exact ih _ (by omega) _ _ r23 r6 (by omega) (by omega) (fun e => by omega) rfl (by omega)
        · skip
          refine at_const (x := 1) dx_133_20 rfl ?_
          refine at_goto dx_133_21 ?_
          refine at_addR dx_133_23 (by constructor <;> omega) (fun r23 => ?_)
          refine at_istore dx_133_24 ?_
          refine at_goto dx_133_25 ?_
          refine at_wk (ls := [vr 856, vi _, vi _, vi _, vi _]) ⟨Or.inl rfl, Or.inl rfl, Or.inl rfl, Or.inl rfl, Or.inl rfl, trivial⟩ ?_
          have hq := hs (by omega)
          have hb9 := hbnd (by omega)
          have he9 := hend (by omega)
          have hz : dch (M 859 (60 * d + (k + 1))) = 1 := by
            unfold dch
            first
            | (rw [if_pos (by omega)]; done)
            | (rw [if_neg (by omega), if_pos (by split at h18 <;> omega)]; done)
            | (rw [if_neg (by omega), if_neg (fun hh => by rw [if_pos (by omega)] at h18; omega)]; done)
          exact ih _ (by omega) _ _ r23 r6 (by omega) (by omega) (fun e => by omega) rfl (by omega)
      · skip
        refine at_const (x := -1) dx_133_15 rfl ?_
        refine at_goto dx_133_16 ?_
        refine at_addR dx_133_23 (by constructor <;> omega) (fun r23 => ?_)
        refine at_istore dx_133_24 ?_
        refine at_goto dx_133_25 ?_
        refine at_wk (ls := [vr 856, vi _, vi _, vi _, vi _]) ⟨Or.inl rfl, Or.inl rfl, Or.inl rfl, Or.inl rfl, Or.inl rfl, trivial⟩ ?_
        have hq := hs (by omega)
        have hb9 := hbnd (by omega)
        have he9 := hend (by omega)
        have hz : dch (M 859 (60 * d + (k + 1))) = -1 := by
          unfold dch
          first
          | (rw [if_pos (by omega)]; done)
          | (rw [if_neg (by omega), if_pos (by split at h18 <;> omega)]; done)
          | (rw [if_neg (by omega), if_neg (fun hh => by rw [if_pos (by omega)] at h18; omega)]; done)
        exact ih _ (by omega) _ _ r23 r6 (by omega) (by omega) (fun e => by omega) rfl (by omega)
  refine at_const (x := 1) dx_133_0 rfl ?_
  refine at_istore dx_133_1 ?_
  refine at_iload dx_133_2 rfl ?_
  refine at_istore dx_133_3 ?_
  exact lp _ 1 _ (by decide) rp (by omega) (by decide) (fun _ => rfl) rfl (by
    have h9 := dc_at (M := M) (d := d) (j := p.toNat) (by omega)
    rw [Int.toNat_of_nonneg hp.1] at h9
    rw [show (p + 1).toNat = p.toNat + 1 by omega, dsm_step, h9]
    have hz : dch (M 859 (60 * d + p)) = 1 := by unfold dch; rw [if_neg (by omega), if_pos ho]
    omega)
