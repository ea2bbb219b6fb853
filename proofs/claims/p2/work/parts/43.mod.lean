/-! ===== the reference: taking back, whether it is built, marking ===== -/
set_option maxRecDepth 100000 in
set_option maxHeartbeats 4000000 in
theorem r_isBuilt {X : scr} {M : mem} (hM : MI M) : At X 0 154 0 [vr 856] [] M (qI (fun x M' => MI M' ∧ fr hi M M' ∧ x = 1)) := by
  have h13 := hM.2.1
  have h3 := hM.1 3 (by decide) (by decide)
  have lp : ∀ (n9 : Nat) (k : Int) (M1 : mem) (rk : inR k) (hk : 0 ≤ k ∧ k ≤ M 860 3) (hn : (M 860 3 - k).toNat = n9) (F : frE (fun q j => q = 877 ∨ (q = 856 ∧ (j = 23 ∨ j = 31)) ∨ q = 868) M M1) (el : M1 856 23 = M 860 3) (w : wk M1 = dc M 3), At X 0 154 20 [vr 856, vi 1, vi k] [] M1 (qI (fun x M' => MI M' ∧ fr hi M M' ∧ x = 1)) := by
    intro n9
    induction n9 using Nat.strongRecOn with
    | ind n9 ih =>
    intro k M1 rk hk hn F el w
    refine at_iload dx_154_20 rfl ?_
    refine at_aload dx_154_21 rfl ?_
    refine at_getI 23 dx_154_22 lc_856 rfl rfl (fun r22 => ?_)
    refine at_cgeR dx_154_23 rk r22 (fun c23 => ?_) (fun c23 => ?_)
    · skip
      refine at_iload dx_154_41 rfl ?_
      refine at_zretI dx_154_42 (Or.inr rfl) ?_
      have FS : frE sqE M M1 := fe_le F (fun q j h => by rcases h with h | ⟨h1, h2⟩ | h; exact sq_C (Or.inl h); exact Or.inl ⟨h1, by omega, by omega⟩; exact sq_C (Or.inr (Or.inr (Or.inl h))))
      exact ⟨MI_sq hM FS, fe_fr FS (fun q j h => sq_hi h), rfl⟩
    · skip
      refine at_iload dx_154_24 rfl ?_
      refine at_zeqR dx_154_25 (by decide) (fun c => absurd c (by decide)) (fun _ => ?_)
      refine at_aload dx_154_26 rfl ?_
      refine at_getR dx_154_27 lc_856 rfl lt_856_22 ?_
      refine at_iload dx_154_28 rfl ?_
      refine at_aldI dx_154_29 lc_877 ln_877 (by first | omega | (simp (disch := omega) only [um_eq, um_k, um_j]; omega)) (by first | omega | (simp (disch := omega) only [um_eq, um_k, um_j]; omega)) (fun r29 => ?_)
      refine at_aload dx_154_30 rfl ?_
      refine at_const (x := 3) dx_154_31 rfl ?_
      refine at_iload dx_154_32 rfl ?_
      refine at_callVI dx_154_33 rfl lc_856 rfl (m_tokenOf (by decide) rk (by decide) (by omega)) ?_
      rintro x33 M9 r33 ⟨e9, h33⟩; replace e9 := e9.symm; subst e9
      have hc33 : M1 877 k = x33 := by
        have h1 := wk_at (M := M1) (j := k.toNat) (by omega)
        have h2 := dc_at (M := M) (d := 3) (j := k.toNat) (by omega)
        rw [Int.toNat_of_nonneg hk.1] at h1 h2
        rw [← h1, w, h2, h33]
        exact (F 859 _ (by (try dsimp only); omega)).symm
      refine at_cneR dx_154_34 r29 r33 (fun c34 => ?_) (fun c34 => ?_)
      · exfalso; omega
      · skip
        refine at_const (x := 1) dx_154_35 rfl ?_
        refine at_goto dx_154_36 ?_
        refine at_istore dx_154_38 ?_
        refine at_iincR (y := 1) dx_154_39 rfl rfl (by constructor <;> omega) (fun r39 => ?_)
        refine at_goto dx_154_40 ?_
        exact ih _ (by omega) _ _ r39 (by omega) rfl F el w
  refine at_aload dx_154_0 rfl ?_
  refine at_const (x := 0) dx_154_1 rfl ?_
  refine at_putI 31 dx_154_2 lc_856 rfl rfl (by decide) ?_
  refine at_aload dx_154_3 rfl ?_
  refine at_aload dx_154_4 rfl ?_
  refine at_getI 13 dx_154_5 lc_856 rfl rfl (fun r5 => ?_)
  refine at_callVV dx_154_6 rfl lc_856 rfl (m_builds (b := dc M 3) r5 (by rw [um_j (by decide)]; exact h13) (by rw [um_j (by decide), lgW_fe (P := fun q j => q = 856 ∧ j = 31) (fe_um ⟨rfl, rfl⟩) (fun q j e => by (try dsimp only at e); omega)]; exact hM.2.2.2.1)) ?_
  rintro M6 ⟨F6, l6, w6⟩
  have F : frE (fun q j => q = 877 ∨ (q = 856 ∧ (j = 23 ∨ j = 31)) ∨ q = 868) M M6 := fe_tr (fe_um (Or.inr (Or.inl ⟨rfl, Or.inr rfl⟩))) (fe_le F6 (fun q j h => by (try dsimp only at h ⊢); omega))
  have el6 : M6 856 23 = M 860 3 := by have e9 := congrArg List.length w6; rw [wk_len, dc_len] at e9; omega
  have e860 : M6 860 3 = M 860 3 := F 860 3 (by (try dsimp only); omega)
  refine at_aload dx_154_7 rfl ?_
  refine at_getI 23 dx_154_8 lc_856 rfl rfl (fun r8 => ?_)
  refine at_aload dx_154_9 rfl ?_
  refine at_getR dx_154_10 lc_856 rfl lt_856_3 ?_
  refine at_const (x := 3) dx_154_11 rfl ?_
  refine at_aldI dx_154_12 lc_860 ln_860 (by decide) (by decide) (fun r12 => ?_)
  refine at_cneR dx_154_13 r8 r12 (fun c13 => ?_) (fun c13 => ?_)
  · exfalso; omega
  · skip
    refine at_const (x := 1) dx_154_14 rfl ?_
    refine at_goto dx_154_15 ?_
    refine at_istore dx_154_17 ?_
    refine at_const (x := 0) dx_154_18 rfl ?_
    refine at_istore dx_154_19 ?_
    exact lp _ 0 _ (by decide) (by omega) rfl F (by omega) w6

set_option maxRecDepth 100000 in
set_option maxHeartbeats 4000000 in
theorem r_takeBack {X : scr} {M : mem} {c : Int} (rc : inR c) (hM : MI M) : At X 0 143 0 [vr 856, vi c] [] M (qI (fun x M' => MI M' ∧ fr hi M M')) := by
  have F : frE sqE M M := fe_rf
  have hS := fun h1 h2 => hM.1 c h1 h2
  have lp : ∀ (n9 : Nat) (k z : Int) (b : List Int) (M1 : mem) (rz : inR z) (rk : inR k) (hc : 0 ≤ c ∧ c ≤ 2) (hk : 0 ≤ k ∧ k ≤ M 871 c - 1) (hn : (M 871 c - 1 - k).toNat = n9) (F : frE (fun q j => q = 877 ∨ (q = 856 ∧ (j = 23 ∨ j = 31)) ∨ q = 868 ∨ (q = 871 ∧ j = c)) M M1) (e1 : M1 871 c = M 871 c - 1) (hl : 0 ≤ M1 856 23 ∧ M1 856 23 ≤ 60) (b4 : RunW (lgW M (M 870 c)) [1, 0] b) (b5 : RunW (pdW M c (M 871 c)) b (dc M c)) (w : RunW (pdW M c k) b (wk M1)), At X 0 143 36 [vr 856, vi c, vi z, vi k] [] M1 (qI (fun x M' => MI M' ∧ fr hi M M')) := by
    intro n9
    induction n9 using Nat.strongRecOn with
    | ind n9 ih =>
    intro k z b M1 rz rk hc hk hn F e1 hl b4 b5 w
    have nx := fun (h : k < M 871 c) => RunW_next (f := fun i : Int => mv M (60 + 10 * c + i)) hk.1 h b5 w
    have el : ((wk M1).length : Int) = M1 856 23 := by rw [wk_len]; omega
    have hmc := hM.2.2.2.2 c hc.1 hc.2
    unfold MC at hmc
    obtain ⟨c1, c2, c3, -⟩ := hmc
    have em : k < 10 → mv M1 (60 + 10 * c + k) = mv M (60 + 10 * c + k) := fun h => mv_fe F (fun q j e h8 hq => by (try dsimp only [stE] at e hq); omega)
    refine at_iload dx_143_36 rfl ?_
    refine at_aload dx_143_37 rfl ?_
    refine at_getR dx_143_38 lc_856 rfl lt_856_15 ?_
    refine at_iload dx_143_39 rfl ?_
    refine at_aldI dx_143_40 lc_871 ln_871 (by first | omega | (simp (disch := omega) only [um_eq, um_k, um_j]; omega)) (by first | omega | (simp (disch := omega) only [um_eq, um_k, um_j]; omega)) (fun r40 => ?_)
    refine at_cgeR dx_143_41 rk r40 (fun c41 => ?_) (fun c41 => ?_)
    · skip
      refine at_aload dx_143_49 rfl ?_
      refine at_iload dx_143_50 rfl ?_
      refine at_callVV dx_143_51 rfl lc_856 rfl (m_keeps rc (by omega) hl) ?_
      rintro M51 ⟨F51, s51, d51⟩
      refine at_aload dx_143_52 rfl ?_
      refine at_getR dx_143_53 lc_856 rfl lt_856_15 ?_
      refine at_iload dx_143_54 rfl ?_
      refine at_aldI dx_143_55 lc_871 ln_871 (by first | omega | (simp (disch := omega) only [um_eq, um_k, um_j]; omega)) (by first | omega | (simp (disch := omega) only [um_eq, um_k, um_j]; omega)) (fun r55 => ?_)
      refine at_iretI dx_143_56 r55 ?_
      have hkp : k = M 871 c - 1 := by omega
      subst hkp
      have FC : frE (fun q j => sqE q j ∨ ceE c q j) M M51 := fe_tr (fe_le F (fun q j h => by
        rcases h with h | ⟨h1, h2⟩ | h | h
        · exact Or.inl (sq_C (Or.inl h))
        · exact Or.inl (Or.inl ⟨h1, by omega, by omega⟩)
        · exact Or.inl (sq_C (Or.inr (Or.inr (Or.inl h))))
        · exact Or.inr (Or.inr (Or.inl ⟨Or.inr (Or.inr (Or.inl h.1)), h.2⟩)))) (fe_le F51 (fun q j h => by
        rcases h with h | h
        · exact Or.inr (Or.inr (Or.inl ⟨Or.inl h.1, h.2⟩))
        · exact Or.inr (Or.inl h)))
      have g1 : M51 871 c = M 871 c - 1 := by rw [F51 871 c (by (try dsimp only [stE, sqE, ceE]); first | done | omega), e1]
      refine ⟨MI_cl hM hc FC (by rw [s51]; exact hl) ⟨?_, ?_, ?_, b, ?_, ?_⟩, fe_fr (P := fun q j => 856 ≤ q) (fe_tr (fe_le F (fun q j h => by (try dsimp only [stE, sqE, ceE] at h ⊢); first | done | omega)) (fe_le F51 (fun q j h => by (try dsimp only [stE, sqE, ceE] at h ⊢); first | done | omega))) (fun q j h => h)⟩
      · rw [F51 870 c (by (try dsimp only [stE, sqE, ceE]); first | done | omega), F51 856 13 (by (try dsimp only [stE, sqE, ceE]); first | done | omega), F 870 c (by (try dsimp only [stE, sqE, ceE]); first | done | omega), F 856 13 (by (try dsimp only [stE, sqE, ceE]); first | done | omega)]; exact c1
      · rw [g1]; omega
      · rw [F51 874 c (by (try dsimp only [stE, sqE, ceE]); first | done | omega), F 874 c (by (try dsimp only [stE, sqE, ceE]); first | done | omega)]; exact c3
      · rw [F51 870 c (by (try dsimp only [stE, sqE, ceE]); first | done | omega), F 870 c (by (try dsimp only [stE, sqE, ceE]); first | done | omega), lgW_fe F51 (fun q j e => by (try dsimp only at e); omega), lgW_fe F (fun q j e => by (try dsimp only at e); omega)]; exact b4
      · rw [g1, d51, pdW_fe F51 (fun q j e => by (try dsimp only at e); omega), pdW_fe F (fun q j e => by (try dsimp only at e); omega)]; exact w
    · skip
      refine at_aload dx_143_42 rfl ?_
      refine at_iload dx_143_43 rfl ?_
      refine at_iload dx_143_44 rfl ?_
      refine at_callSI dx_143_45 rfl rfl (m_place rc rk (by omega) (by omega)) ?_
      rintro x45 M9 r45 ⟨e9, h45⟩; replace e9 := e9.symm; subst e9; subst h45
      refine at_callVV dx_143_46 rfl lc_856 rfl (m_does r45 (by omega) hl (by rw [em (by omega), ← el]; exact (nx (by omega)).1)) ?_
      rintro M46 ⟨F46, l46, w46⟩
      have f46 : frE (fun q j => q = 877 ∨ (q = 856 ∧ j = 23) ∨ q = 868) M1 M46 := fe_le F46 (fun q j h => by (try dsimp only at h ⊢); omega)
      refine at_iincR (y := 1) dx_143_47 rfl rfl (by constructor <;> omega) (fun r47 => ?_)
      refine at_goto dx_143_48 ?_
      obtain ⟨n1, n2, n3⟩ := nx (by omega)
      exact ih _ (by omega) (k + 1) _ b _ rz r47 hc (by omega) rfl (fe_tr F (fe_le f46 (fun q j h => by (try dsimp only [stE, sqE, ceE] at h ⊢); first | done | omega))) (by rw [f46 871 c (by (try dsimp only [stE, sqE, ceE]); first | done | omega), e1]) l46 b4 b5 (by rw [w46, em (by omega)]; exact n3)
  refine at_iload dx_143_0 rfl ?_
  refine at_callSI dx_143_1 rfl rfl (m_isClient rc) ?_
  rintro x1 M9 r1 ⟨e9, h1⟩; replace e9 := e9.symm; subst e9; replace h1 := ite01 h1
  refine at_istore dx_143_2 ?_
  refine at_aload dx_143_3 rfl ?_
  refine at_iload dx_143_4 rfl ?_
  refine at_zneR dx_143_5 r1 (fun c5 => ?_) (fun c5 => ?_)
  · skip
    refine at_aload dx_143_8 rfl ?_
    refine at_getR dx_143_9 lc_856 rfl lt_856_15 ?_
    refine at_iload dx_143_10 rfl ?_
    refine at_aldI dx_143_11 lc_871 ln_871 (by first | omega | (simp (disch := omega) only [um_eq, um_k, um_j]; omega)) (by first | omega | (simp (disch := omega) only [um_eq, um_k, um_j]; omega)) (fun r11 => ?_)
    refine at_zneR dx_143_12 r11 (fun c12 => ?_) (fun c12 => ?_)
    · skip
      refine at_const (x := 0) dx_143_15 rfl ?_
      refine at_callVI dx_143_16 rfl lc_856 rfl (m_fails2 (by decide)) ?_
      rintro x16 M16 r16 ⟨f16, h16⟩; replace h16 := ite01 h16
      replace F : frE sqE M _ := fe_tr F (fe_le f16 (fun q j h => Or.inl ⟨h.1, by rw [h.2]; decide, by rw [h.2]; decide⟩))
      have z16 := f16 860 c (by (try dsimp only); omega)
      obtain rfl : x16 = 0 := by omega
      refine at_zeqR dx_143_17 (by decide) (fun _ => ?_) (fun c => absurd c (by decide))
      have hmc := hM.2.2.2.2 c (by omega) (by omega)
      unfold MC at hmc
      obtain ⟨b1, b2, b3, b, b4, b5⟩ := hmc
      have e871 : M16 871 c = M 871 c := f16 871 c (by (try dsimp only [stE, sqE, ceE]); first | done | omega)
      refine at_aload dx_143_20 rfl ?_
      refine at_getR dx_143_21 lc_856 rfl lt_856_15 ?_
      refine at_iload dx_143_22 rfl ?_
      refine at_dup2 dx_143_23 rfl rfl ?_
      refine at_aldI dx_143_24 lc_871 ln_871 (by first | omega | (simp (disch := omega) only [um_eq, um_k, um_j]; omega)) (by first | omega | (simp (disch := omega) only [um_eq, um_k, um_j]; omega)) (fun r24 => ?_)
      refine at_const (x := 1) dx_143_25 rfl ?_
      refine at_subR dx_143_26 (by constructor <;> omega) (fun r26 => ?_)
      refine at_astI dx_143_27 lc_871 ln_871 (by first | omega | (simp (disch := omega) only [um_eq, um_k, um_j]; omega)) (by first | omega | (simp (disch := omega) only [um_eq, um_k, um_j]; omega)) r26 ?_
      refine at_mem (fun Mu hMu => ?_)
      have Fu : frE (fun q j => q = 871 ∧ j = c) M16 Mu := by rw [hMu]; exact fe_um ⟨rfl, rfl⟩
      have u1 : Mu 871 c = M 871 c - 1 := by rw [hMu, um_eq, e871]
      refine at_aload dx_143_28 rfl ?_
      refine at_aload dx_143_29 rfl ?_
      refine at_getR dx_143_30 lc_856 rfl lt_856_14 ?_
      refine at_iload dx_143_31 rfl ?_
      refine at_aldI dx_143_32 lc_870 ln_870 (by first | omega | (simp (disch := omega) only [um_eq, um_k, um_j]; omega)) (by first | omega | (simp (disch := omega) only [um_eq, um_k, um_j]; omega)) (fun r32 => ?_)
      refine at_callVV dx_143_33 rfl lc_856 rfl (m_builds (b := b) r32 (by rw [Fu 870 c (by (try dsimp only [stE, sqE, ceE]); first | done | omega), f16 870 c (by (try dsimp only [stE, sqE, ceE]); first | done | omega)]; omega) (by rw [Fu 870 c (by (try dsimp only [stE, sqE, ceE]); first | done | omega), f16 870 c (by (try dsimp only [stE, sqE, ceE]); first | done | omega), lgW_fe Fu (fun q j e => by (try dsimp only at e); omega), lgW_fe f16 (fun q j e => by (try dsimp only at e); omega)]; exact b4)) ?_
      rintro M33 ⟨F33, l33, w33⟩
      refine at_const (x := 0) dx_143_34 rfl ?_
      refine at_istore dx_143_35 ?_
      exact lp _ 0 _ b M33 r1 (by decide) (by omega) (by omega) rfl (fe_tr (fe_tr (fe_le f16 (fun q j h => by (try dsimp only [stE, sqE, ceE] at h ⊢); first | done | omega)) (fe_le Fu (fun q j h => by (try dsimp only [stE, sqE, ceE] at h ⊢); first | done | omega))) (fe_le F33 (fun q j h => by (try dsimp only [stE, sqE, ceE] at h ⊢); first | done | omega))) (by rw [F33 871 c (by (try dsimp only [stE, sqE, ceE]); first | done | omega), u1]) l33 b4 b5 (by rw [w33]; rfl)
    · skip
      refine at_const (x := 2) dx_143_13 rfl ?_
      refine at_goto dx_143_14 ?_
      refine at_callVI dx_143_16 rfl lc_856 rfl (m_fails2 (by decide)) ?_
      rintro x16 M16 r16 ⟨f16, h16⟩; replace h16 := ite01 h16
      replace F : frE sqE M _ := fe_tr F (fe_le f16 (fun q j h => Or.inl ⟨h.1, by rw [h.2]; decide, by rw [h.2]; decide⟩))
      have z16 := f16 860 c (by (try dsimp only); omega)
      obtain rfl : x16 = 1 := by omega
      refine at_zeqR dx_143_17 (by decide) (fun c => absurd c (by decide)) (fun _ => ?_)
      refine at_const (x := 0) dx_143_18 rfl ?_
      refine at_iretI dx_143_19 (by decide) ?_
      first | exact ⟨k1, k2⟩ | exact ⟨MI_sq hM F, fe_fr F (fun q j h => sq_hi h)⟩
  · skip
    refine at_const (x := 1) dx_143_6 rfl ?_
    refine at_goto dx_143_7 ?_
    refine at_callVI dx_143_16 rfl lc_856 rfl (m_fails2 (by decide)) ?_
    rintro x16 M16 r16 ⟨f16, h16⟩; replace h16 := ite01 h16
    replace F : frE sqE M _ := fe_tr F (fe_le f16 (fun q j h => Or.inl ⟨h.1, by rw [h.2]; decide, by rw [h.2]; decide⟩))
    have z16 := f16 860 c (by (try dsimp only); omega)
    obtain rfl : x16 = 1 := by omega
    refine at_zeqR dx_143_17 (by decide) (fun c => absurd c (by decide)) (fun _ => ?_)
    refine at_const (x := 0) dx_143_18 rfl ?_
    refine at_iretI dx_143_19 (by decide) ?_
    first | exact ⟨k1, k2⟩ | exact ⟨MI_sq hM F, fe_fr F (fun q j h => sq_hi h)⟩
