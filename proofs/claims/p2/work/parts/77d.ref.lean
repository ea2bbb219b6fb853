/-! ===== the reference: its other calls, on ===== -/
set_option maxRecDepth 100000 in
set_option maxHeartbeats 4000000 in
theorem x_rebases {X : scr} {M : mem} {c : Int} (rc : inR c) (hM : MI M) (hc : 0 ≤ c ∧ c ≤ 2) (hT : M 870 c < M 856 13) : At X 0 149 0 [vr 856, vi c] [] M (qV (fun M' => KM M M')) := by
  have hmc := hM.2.2.2.2 c hc.1 hc.2
  unfold MC at hmc
  obtain ⟨b1, b2, b3, -⟩ := hmc
  have h13 := hM.2.1
  have l4 : ∀ (n9 : Nat) (q i : Int) (M0 M1 : mem) (rn : inR (M 871 c)) (rq : inR q) (ri : inR i) (hq : 0 ≤ q ∧ q ≤ M 871 c) (hi : 0 ≤ i ∧ i ≤ q) (hn : (q - i).toNat = n9) (F0 : frE (FBx c) M M0) (hs0 : 0 ≤ M0 860 c ∧ M0 860 c ≤ 60) (wR : RunW (kpV M0 q) (dc M 3) (dc M0 c)) (F1 : frE (FPx c) M0 M1) (hw : ∀ j : Int, 0 ≤ j → j < i → mv M1 (60 + 10 * c + j) = mv M0 (90 + j)), At X 0 149 111 [vr 856, vi c, vi ((M 871 c)), vi q, vi i] [] M1 (qV (fun M' => KM M M')) := by
    intro n9
    induction n9 using Nat.strongRecOn with
    | ind n9 ih =>
    intro q i M0 M1 rn rq ri hq hi hn F0 hs0 wR F1 hw
    refine at_iload dx_149_111 rfl ?_
    refine at_iload dx_149_112 rfl ?_
    refine at_cgeR dx_149_113 ri rq (fun c113 => ?_) (fun c113 => ?_)
    · skip
      refine at_aload dx_149_124 rfl ?_
      refine at_getR dx_149_125 lc_856 rfl lt_856_15 ?_
      refine at_iload dx_149_126 rfl ?_
      refine at_iload dx_149_127 rfl ?_
      refine at_astI dx_149_128 lc_871 ln_871 (by first | omega | (simp (disch := omega) only [um_eq, um_k, um_j]; omega)) (by first | omega | (simp (disch := omega) only [um_eq, um_k, um_j]; omega)) rq ?_
      refine at_aload dx_149_129 rfl ?_
      refine at_getR dx_149_130 lc_856 rfl lt_856_14 ?_
      refine at_iload dx_149_131 rfl ?_
      refine at_aload dx_149_132 rfl ?_
      refine at_getI 13 dx_149_133 lc_856 rfl rfl (fun r133 => ?_)
      refine at_astI dx_149_134 lc_870 ln_870 (by first | omega | (simp (disch := omega) only [um_eq, um_k, um_j]; omega)) (by first | omega | (simp (disch := omega) only [um_eq, um_k, um_j]; omega)) r133 ?_
      refine at_vretV dx_149_135 ?_
      exact rebased2 hM hc hq F0 hs0 wR F1 (fun j h1 h2 => hw j h1 (by omega)) (by rw [um_k (by decide), F1 856 13 (by dsimp only [FPx]; omega), F0 856 13 (fb_no hc (by omega))])
    · skip
      refine at_aload dx_149_114 rfl ?_
      refine at_const (x := 90) dx_149_115 rfl ?_
      refine at_iload dx_149_116 rfl ?_
      refine at_addR dx_149_117 (by constructor <;> omega) (fun r117 => ?_)
      refine at_iload dx_149_118 rfl ?_
      refine at_iload dx_149_119 rfl ?_
      refine at_callSI dx_149_120 rfl rfl (m_place rc ri (by omega) (by omega)) ?_
      rintro x120 M9 r120 ⟨e9, h120⟩; replace e9 := e9.symm; subst e9; subst h120
      refine at_callVV dx_149_121 rfl lc_856 rfl (m_copies r117 r120 (by omega) (by omega) (by omega)) ?_
      rintro M121 ⟨f121, v121, -⟩
      refine at_iincR (y := 1) dx_149_122 rfl rfl (by constructor <;> omega) (fun r122 => ?_)
      refine at_goto dx_149_123 ?_
      refine ih _ (by omega) q (i + 1) M0 M121 rn rq r122 hq (by omega) rfl F0 hs0 wR (fe_tr F1 (fe_le f121 (fun x j h => fp_S (by omega) h))) (fun j h1 h2 => ?_)
      by_cases ej : j = i
      · subst ej
        rw [v121]
        exact mv_fe F1 (fun x j e h8 hq => by (try dsimp only [stE, FPx] at e hq); omega)
      · rw [← hw j h1 (by omega)]
        exact mv_fe f121 (fun x y e h8 hq => by (try dsimp only [stE] at e hq); omega)
  have l3 : ∀ (okS : ∀ k : Int, 0 ≤ k → k < M 871 c → okW (mv M (60 + 10 * c + k)) (Ln0 M c (M 871 c - k))) (n9 : Nat) (k q : Int) (M1 : mem) (Ln : Int → Int) (rn : inR (M 871 c)) (rq : inR q) (rk : inR k) (hk9 : 0 ≤ q ∧ q ≤ k ∧ k ≤ M 871 c) (hn : (M 871 c - k).toNat = n9) (F : frE (FBx c) M M1) (er : M1 856 24 = M 871 c + (M 856 13 - M 870 c) + q) (hR : RowOK M1 Ln) (hLn : ∀ j : Int, 0 ≤ j → j ≤ M 871 c + (M 856 13 - M 870 c) → Ln j = Ln0 M c j) (eLn : Ln (M 871 c + (M 856 13 - M 870 c) + q) = M1 860 c) (hs1 : 0 ≤ M1 860 c ∧ M1 860 c ≤ 60) (wA : ∀ j : Int, 0 ≤ j → j < M 871 c → M1 878 j = 60 + 10 * c + (M 871 c - 1 - j) ∧ M1 879 j = 1) (wB : ∀ j : Int, 0 ≤ j → j < M 871 c + (M 856 13 - M 870 c) + q → M1 878 j < 90 + q) (wR : RunW (kpV M1 q) (dc M 3) (dc M1 c)), At X 0 149 47 [vr 856, vi c, vi ((M 871 c)), vi q, vi k] [] M1 (qV (fun M' => KM M M')) := by
    intro okS n9
    induction n9 using Nat.strongRecOn with
    | ind n9 ih =>
    intro k q M1 Ln rn rq rk hk9 hn F er hR hLn eLn hs1 wA wB wR
    have hk : 0 ≤ k ∧ k ≤ M 871 c := by omega
    refine at_iload dx_149_47 rfl ?_
    refine at_iload dx_149_48 rfl ?_
    refine at_cgeR dx_149_49 rk rn (fun c49 => ?_) (fun c49 => ?_)
    · skip
      refine at_const (x := 0) dx_149_109 rfl ?_
      refine at_istore dx_149_110 ?_
      exact l4 _ q 0 M1 M1 rn rq (by decide) (by omega) (by omega) rfl F hs1 wR fe_rf (fun j h1 h2 => by omega)
    · skip
      refine at_aload dx_149_50 rfl ?_
      refine at_iload dx_149_51 rfl ?_
      refine at_iload dx_149_52 rfl ?_
      refine at_callSI dx_149_53 rfl rfl (m_place rc rk (by omega) (by omega)) ?_
      rintro x53 M9 r53 ⟨e9, h53⟩; replace e9 := e9.symm; subst e9; subst h53
      refine at_const (x := 100) dx_149_54 rfl ?_
      refine at_callVV dx_149_55 rfl lc_856 rfl (m_copies r53 (by decide) (by omega) (by decide) (by omega)) ?_
      rintro M55 ⟨f55, v55, -⟩
      have ok55 := okS k hk.1 (by omega)
      have vS : mv M1 (60 + 10 * c + k) = mv M (60 + 10 * c + k) := mv_fe F (fun x j e h8 hq => fb_no hc (by (try dsimp only [stE] at e); omega) hq)
      rw [← hLn (M 871 c - k) (by omega) (by omega), ← vS, ← v55] at ok55
      have hps := PSi_of ok55
      have G55 : frE (FBx c) M M55 := fe_tr F (fe_le f55 (fun x j h => fb_S (by decide) h))
      have e24 : M55 856 24 = M1 856 24 := f55 856 24 (by (try dsimp only [FRo, stE]); first | done | omega)
      have b60 := (hR.2 (M 871 c - k) (by omega) (by omega)).2.1.2
      refine at_aload dx_149_56 rfl ?_
      refine at_iload dx_149_57 rfl ?_
      refine at_iload dx_149_58 rfl ?_
      refine at_subR dx_149_59 (by constructor <;> omega) (fun r59 => ?_)
      refine at_const (x := 100) dx_149_60 rfl ?_
      refine at_callVI dx_149_61 rfl lc_856 rfl (m_mapsStep r59 (RowOK_fe hR f55 (fun x j h => Or.inr (Or.inl h))) (by rw [e24, er]; omega) b60 (by rw [e24, er, eLn]; exact hs1.2) hps) ?_
      rintro x61 M61 r61 ⟨f61, b61, p61, q61, s61⟩
      have G61 : frE (FBx c) M M61 := fe_tr G55 (fe_le f61 (fun x j h => fb_X h))
      have z61 : M61 860 c = M1 860 c := by rw [f61 860 c (by (try dsimp only [FRo, FSx, stE]); first | done | omega), f55 860 c (by (try dsimp only [FRo, FSx, stE]); first | done | omega)]
      have hx61 := fun e => okX_of ok55 f61 (s61 e) p61 q61
      rw [e24, er, eLn] at hx61
      refine at_istore dx_149_62 ?_
      refine at_aload dx_149_63 rfl ?_
      refine at_iload dx_149_64 rfl ?_
      refine at_callVV dx_149_65 rfl lc_856 rfl (m_looksAt (d := c) rc (by omega) (by rw [z61]; exact hs1)) ?_
      rintro M65 ⟨f65, l65, w65⟩
      have G65 : frE (FBx c) M M65 := fe_tr G61 (fe_le f65 (fun x j h => fb_L h))
      have v65 : mv M65 100 = mv M61 100 := mv_fe f65 (fun x j e h8 hq => by (try dsimp only [stE] at e hq); omega)
      have dM65 : dc M61 c = dc M1 c := dc_cg z61 (fun j _ => by rw [f61 859 _ (by (try dsimp only [FRo, FSx, stE]); first | done | omega), f55 859 _ (by (try dsimp only [FRo, FSx, stE]); first | done | omega)])
      rw [dM65] at w65
      have gl : ∀ (x : Nat) (j : Int), (878 ≤ x ∧ x ≤ 880) ∨ (x = 856 ∧ j = 24) ∨ (861 ≤ x ∧ x ≤ 864 ∧ j < 100) ∨ (865 ≤ x ∧ x ≤ 867 ∧ j < 200) ∨ (x = 869 ∧ j < 6000) ∨ (x = 859 ∨ x = 860) → M65 x j = M1 x j := fun x j h => by rw [f65 x j (by (try dsimp only [FRo, FSx, stE]); first | done | omega), f61 x j (by (try dsimp only [FRo, FSx, stE]); first | done | omega), f55 x j (by (try dsimp only [FRo, FSx, stE]); first | done | omega)]
      refine at_iload dx_149_66 rfl ?_
      refine at_zeqR dx_149_67 r61 (fun c67 => ?_) (fun c67 => ?_)
      · skip
        refine at_aload dx_149_99 rfl ?_
        refine at_getR dx_149_100 lc_856 rfl lt_856_16 ?_
        refine at_iload dx_149_101 rfl ?_
        refine at_dup2 dx_149_102 rfl rfl ?_
        refine at_aldI dx_149_103 lc_872 ln_872 (by first | omega | (simp (disch := omega) only [um_eq, um_k, um_j]; omega)) (by first | omega | (simp (disch := omega) only [um_eq, um_k, um_j]; omega)) (fun r103 => ?_)
        refine at_const (x := 1) dx_149_104 rfl ?_
        refine at_addW dx_149_105 ?_
        refine at_astI dx_149_106 lc_872 ln_872 (by first | omega | (simp (disch := omega) only [um_eq, um_k, um_j]; omega)) (by first | omega | (simp (disch := omega) only [um_eq, um_k, um_j]; omega)) (inR_wr _) ?_
        refine at_iincR (y := 1) dx_149_107 rfl rfl (by constructor <;> omega) (fun r107 => ?_)
        refine at_goto dx_149_108 ?_
        refine at_wk (ls := [vr 856, vi _, vi _, vi _, vi _]) ⟨Or.inl rfl, Or.inl rfl, Or.inl rfl, Or.inl rfl, Or.inl rfl, trivial⟩ ?_
        have Fu : frE (fun x j => x = 872) M65 (um M65 872 c (wr (M65 872 c + 1))) := fe_um rfl
        have gX : ∀ (x : Nat) (j : Int), (x = 856 ∧ j = 24) ∨ (878 ≤ x ∧ x ≤ 880) ∨ (861 ≤ x ∧ x ≤ 864 ∧ j < 100) ∨ (865 ≤ x ∧ x ≤ 867 ∧ j < 200) ∨ (x = 869 ∧ j < 6000) ∨ (x = 859 ∨ x = 860) → (um M65 872 c (wr (M65 872 c + 1))) x j = M1 x j := fun x j h => by rw [Fu x j (by omega), gl x j (by omega)]
        have dX : dc (um M65 872 c (wr (M65 872 c + 1))) c = dc M1 c := dc_cg (gX 860 c (by omega)) (fun j _ => gX 859 _ (by omega))
        refine ih _ (by omega) (k + 1) q _ Ln rn rq r107 (by omega) rfl (fe_tr G65 (fe_le Fu (fun x j h => Or.inr (Or.inr (Or.inr (Or.inr (Or.inr (Or.inr (Or.inl h))))))))) (by rw [gX 856 24 (by decide)]; exact er) ?_ hLn (by rw [gX 860 c (by omega)]; exact eLn) (by rw [gX 860 c (by omega)]; exact hs1) (fun j h1 h2 => by rw [gX 878 j (by omega), gX 879 j (by omega)]; exact wA j h1 h2) (fun j h1 h2 => by rw [gX 878 j (by omega)]; exact wB j h1 h2) ?_
        · refine RowOK_fe hR (P := fun x j => (stE 100 x j ∨ FSx x j) ∨ x = 877 ∨ (x = 856 ∧ j = 23) ∨ x = 868 ∨ x = 881 ∨ x = 882 ∨ x = 872) (fe_tr (fe_tr (fe_tr (fe_le f55 (fun x j h => Or.inl (Or.inl h))) (fe_le f61 (fun x j h => Or.inl (Or.inr h)))) (fe_le f65 (fun x j h => Or.inr (by omega)))) (fe_le Fu (fun x j h => Or.inr (by omega)))) (fun x j h => by rcases h with (h | h) | h <;> dsimp only [stE, FSx] at h ⊢ <;> omega)
        · rw [dX, kpV_fe (P := fun x j => (um M65 872 c (wr (M65 872 c + 1))) x j ≠ M1 x j) (fun x j h => Decidable.of_not_not h) (fun x j h h9 => h (gX x j (by omega)))]
          exact wR
      · skip
        refine at_aload dx_149_68 rfl ?_
        refine at_const (x := 100) dx_149_69 rfl ?_
        refine at_callVI dx_149_70 rfl lc_856 rfl (m_goes (s := 100) (by decide) (by decide) (by rw [l65, z61]; exact hs1) (by rw [v65, l65, z61]; exact hx61 (by omega))) ?_
        rintro x70 M70 r70 ⟨f70, b70, h70⟩
        have G70 : frE (FBx c) M M70 := fe_tr G65 (fe_le f70 (fun x j h => fb_G h))
        refine at_zeqR dx_149_71 r70 (fun c71 => ?_) (fun c71 => ?_)
        · skip
          refine at_aload dx_149_99 rfl ?_
          refine at_getR dx_149_100 lc_856 rfl lt_856_16 ?_
          refine at_iload dx_149_101 rfl ?_
          refine at_dup2 dx_149_102 rfl rfl ?_
          refine at_aldI dx_149_103 lc_872 ln_872 (by first | omega | (simp (disch := omega) only [um_eq, um_k, um_j]; omega)) (by first | omega | (simp (disch := omega) only [um_eq, um_k, um_j]; omega)) (fun r103 => ?_)
          refine at_const (x := 1) dx_149_104 rfl ?_
          refine at_addW dx_149_105 ?_
          refine at_astI dx_149_106 lc_872 ln_872 (by first | omega | (simp (disch := omega) only [um_eq, um_k, um_j]; omega)) (by first | omega | (simp (disch := omega) only [um_eq, um_k, um_j]; omega)) (inR_wr _) ?_
          refine at_iincR (y := 1) dx_149_107 rfl rfl (by constructor <;> omega) (fun r107 => ?_)
          refine at_goto dx_149_108 ?_
          refine at_wk (ls := [vr 856, vi _, vi _, vi _, vi _]) ⟨Or.inl rfl, Or.inl rfl, Or.inl rfl, Or.inl rfl, Or.inl rfl, trivial⟩ ?_
          have Fu : frE (fun x j => x = 872) M70 (um M70 872 c (wr (M70 872 c + 1))) := fe_um rfl
          have gX : ∀ (x : Nat) (j : Int), (x = 856 ∧ j = 24) ∨ (878 ≤ x ∧ x ≤ 880) ∨ (861 ≤ x ∧ x ≤ 864 ∧ j < 100) ∨ (865 ≤ x ∧ x ≤ 867 ∧ j < 200) ∨ (x = 869 ∧ j < 6000) ∨ (x = 859 ∨ x = 860) → (um M70 872 c (wr (M70 872 c + 1))) x j = M1 x j := fun x j h => by rw [Fu x j (by omega), f70 x j (by (try dsimp only); omega), gl x j (by omega)]
          have dX : dc (um M70 872 c (wr (M70 872 c + 1))) c = dc M1 c := dc_cg (gX 860 c (by omega)) (fun j _ => gX 859 _ (by omega))
          refine ih _ (by omega) (k + 1) q _ Ln rn rq r107 (by omega) rfl (fe_tr G70 (fe_le Fu (fun x j h => Or.inr (Or.inr (Or.inr (Or.inr (Or.inr (Or.inr (Or.inl h))))))))) (by rw [gX 856 24 (by decide)]; exact er) ?_ hLn (by rw [gX 860 c (by omega)]; exact eLn) (by rw [gX 860 c (by omega)]; exact hs1) (fun j h1 h2 => by rw [gX 878 j (by omega), gX 879 j (by omega)]; exact wA j h1 h2) (fun j h1 h2 => by rw [gX 878 j (by omega)]; exact wB j h1 h2) ?_
          · refine RowOK_fe hR (P := fun x j => (stE 100 x j ∨ FSx x j) ∨ x = 877 ∨ (x = 856 ∧ j = 23) ∨ x = 868 ∨ x = 881 ∨ x = 882 ∨ x = 872) (fe_tr (fe_tr (fe_tr (fe_tr (fe_le f55 (fun x j h => Or.inl (Or.inl h))) (fe_le f61 (fun x j h => Or.inl (Or.inr h)))) (fe_le f65 (fun x j h => Or.inr (by omega)))) (fe_le f70 (fun x j h => Or.inr (by omega)))) (fe_le Fu (fun x j h => Or.inr (by omega)))) (fun x j h => by rcases h with (h | h) | h <;> dsimp only [stE, FSx] at h ⊢ <;> omega)
          · rw [dX, kpV_fe (P := fun x j => (um M70 872 c (wr (M70 872 c + 1))) x j ≠ M1 x j) (fun x j h => Decidable.of_not_not h) (fun x j h h9 => h (gX x j (by omega)))]
            exact wR
        · skip
          refine at_aload dx_149_72 rfl ?_
          refine at_const (x := 100) dx_149_73 rfl ?_
          refine at_const (x := 90) dx_149_74 rfl ?_
          refine at_iload dx_149_75 rfl ?_
          refine at_addR dx_149_76 (by constructor <;> omega) (fun r76 => ?_)
          refine at_callVV dx_149_77 rfl lc_856 rfl (m_copies (by decide) r76 (by decide) (by omega) (by omega)) ?_
          rintro M77 ⟨f77, v77, -⟩
          have G77 : frE (FBx c) M M77 := fe_tr G70 (fe_le f77 (fun x j h => fb_S (by omega) h))
          have e24 : M77 856 24 = M1 856 24 := by rw [f77 856 24 (by (try dsimp only [FRo, FSx, stE]); first | done | omega), f70 856 24 (by (try dsimp only [FRo, FSx, stE]); first | done | omega), f65 856 24 (by (try dsimp only [FRo, FSx, stE]); first | done | omega), f61 856 24 (by (try dsimp only [FRo, FSx, stE]); first | done | omega), e24]
          refine at_aload dx_149_78 rfl ?_
          refine at_getR dx_149_79 lc_856 rfl lt_856_27 ?_
          refine at_iload dx_149_80 rfl ?_
          refine at_const (x := 1) dx_149_81 rfl ?_
          refine at_subR dx_149_82 (by constructor <;> omega) (fun r82 => ?_)
          refine at_iload dx_149_83 rfl ?_
          refine at_subR dx_149_84 (by constructor <;> omega) (fun r84 => ?_)
          refine at_aload dx_149_85 rfl ?_
          refine at_getI 24 dx_149_86 lc_856 rfl rfl (fun r86 => ?_)
          refine at_astI dx_149_87 lc_880 ln_880 (by first | omega | (simp (disch := omega) only [um_eq, um_k, um_j]; omega)) (by first | omega | (simp (disch := omega) only [um_eq, um_k, um_j]; omega)) r86 ?_
          refine at_aload dx_149_88 rfl ?_
          refine at_const (x := 90) dx_149_89 rfl ?_
          refine at_iload dx_149_90 rfl ?_
          refine at_addR dx_149_91 (by constructor <;> omega) (fun r91 => ?_)
          refine at_const (x := 0) dx_149_92 rfl ?_
          refine at_callVV dx_149_93 rfl lc_856 rfl (m_enters2 r91 (by decide) (Or.inl rfl) (by rw [um_k (by decide), e24]; omega)) ?_
          rintro M93 ⟨f93, e93, x93, y93, z93, o93⟩
          have hx := h70 (by omega)
          obtain ⟨g0, g1, g2, g3⟩ := hx
          have k23 : M93 856 23 = M70 856 23 := by rw [f93 856 23 (by (try dsimp only [FRo, stE]); first | done | omega), um_k (by decide), f77 856 23 (by (try dsimp only [FRo, stE]); first | done | omega)]
          refine at_iincR (y := 1) dx_149_94 rfl rfl (by constructor <;> omega) (fun r94 => ?_)
          refine at_aload dx_149_95 rfl ?_
          refine at_iload dx_149_96 rfl ?_
          refine at_callVV dx_149_97 rfl lc_856 rfl (m_keeps (d := c) rc (by omega) (by rw [k23]; exact g1)) ?_
          rintro M97 ⟨f97, l97, w97⟩
          refine at_goto dx_149_98 ?_
          refine at_iincR (y := 1) dx_149_107 rfl rfl (by constructor <;> omega) (fun r107 => ?_)
          refine at_goto dx_149_108 ?_
          refine at_wk (ls := [vr 856, vi _, vi _, vi _, vi _]) ⟨Or.inl rfl, Or.inl rfl, Or.inl rfl, Or.inl rfl, Or.inl rfl, trivial⟩ ?_
          have G93 : frE (FBx c) M M93 := fe_tr (fe_ums G77 (Or.inl (Or.inr (by decide)))) (fe_le f93 (fun x j h => Or.inl h))
          have G97 : frE (FBx c) M M97 := fe_tr G93 (fe_le f97 (fun x j h => fb_K h))
          have u24 : (um M77 880 (M 871 c - 1 - k) (M77 856 24)) 856 24 = M1 856 24 := by rw [um_k (by decide), e24]
          rw [u24] at e93 x93 y93 z93 o93
          -- the cells that stay from the loop's head
          have gx : ∀ (x : Nat) (j : Int), (861 ≤ x ∧ x ≤ 864 ∧ j < 90 + q) ∨ (865 ≤ x ∧ x ≤ 867 ∧ j < 180 + 2 * q) ∨ (x = 869 ∧ j < 5400 + 60 * q) → M97 x j = M1 x j := fun x j h => by
            rw [f97 x j (by (try dsimp only [FRo, FSx, stE]); first | done | omega), f93 x j (by (try dsimp only [FRo, FSx, stE]); first | done | omega), um_k (by omega), f77 x j (by (try dsimp only [FRo, FSx, stE]); first | done | omega), f70 x j (by (try dsimp only [FRo, FSx, stE]); first | done | omega), gl x j (by omega)]
          have gy : ∀ (x : Nat) (j : Int), (861 ≤ x ∧ x ≤ 864) ∨ (865 ≤ x ∧ x ≤ 867) ∨ x = 869 → M97 x j = M77 x j := fun x j h => by
            rw [f97 x j (by (try dsimp only [FRo, FSx, stE]); first | done | omega), f93 x j (by (try dsimp only [FRo, FSx, stE]); first | done | omega), um_k (by omega)]
          have v97 : mv M97 (90 + q) = mv M65 100 := by
            have e1 : mv M97 (90 + q) = mv M77 (90 + q) := by
              unfold mv
              rw [gy 861 _ (by decide), gy 862 _ (by decide), gy 863 _ (by decide), gy 864 _ (by decide), gy 865 _ (by decide), gy 865 _ (by decide), gy 866 _ (by decide), gy 866 _ (by decide), gy 867 _ (by decide), gy 867 _ (by decide)]
              congr 1
              apply List.map_congr_left
              intro j hj
              exact gy 869 _ (by decide)
            rw [e1, v77]
            exact mv_fe f70 (fun x j e h8 hq => by (try dsimp only [stE] at e hq); omega)
          have wk93 : wk M93 = wk M70 := wk_cg k23 (fun j _ => by rw [f93 877 _ (by (try dsimp only [FRo, FSx, stE]); first | done | omega), um_k (by decide), f77 877 _ (by (try dsimp only [FRo, FSx, stE]); first | done | omega)])
          have hlen1 : ((dc M1 c).length : Int) = M1 860 c := by rw [dc_len]; omega
          have d97 : dc M97 c = apW (mv M97 (90 + q)) (dc M1 c) := by rw [w97, wk93, g2, v97, w65]
          have ok97 : okW (mv M97 (90 + q)) (M1 860 c) := by rw [v97, ← z61, ← l65]; exact g0
          have l97' : M97 860 c = lenW (mv M97 (90 + q)) (M1 860 c) := by
            have h1 := apW_lenv (v := mv M97 (90 + q)) (l := dc M1 c) (by rw [hlen1]; exact ok97)
            rw [hlen1] at h1
            rw [← h1, ← d97, dc_len, l97, k23]; omega
          have hs97 : 0 ≤ M97 860 c ∧ M97 860 c ≤ 60 := by rw [l97, k23]; exact g1
          have eA := congrArg Prod.fst v55
          have eB := congrArg Prod.fst v97
          have eC := congrArg Prod.fst v65
          unfold mv at eA eB eC
          simp only [List.cons.injEq] at eA eB eC
          obtain ⟨A1, -, -, A4, -, -, -, -, A9, A10, -⟩ := eA
          obtain ⟨B1, -, -, B4, -, -, -, -, B9, B10, -⟩ := eB
          obtain ⟨C1, -, -, C4, -, -, -, -, C9, C10, -⟩ := eC
          obtain ⟨a8, a9⟩ := wA (M 871 c - 1 - k) (by omega) (by omega)
          have aK : M1 878 (M 871 c - 1 - k) = 60 + 10 * c + k := by rw [a8]; omega
          have hsm : smE M97 (M1 878 (M 871 c - 1 - k)) (90 + q) := by
            rw [aK]
            unfold smE
            rw [gx 861 (60 + 10 * c + k) (by omega), gx 864 (60 + 10 * c + k) (by omega), gx 867 (2 * (60 + 10 * c + k)) (by omega), gx 867 (2 * (60 + 10 * c + k) + 1) (by omega), B1, B4, B9, B10, C1, C4, C9, C10, ← A1, ← A4, ← A9, ← A10]
            exact ⟨f61 861 100 (by (try dsimp only [FRo, FSx, stE]); first | done | omega), f61 864 100 (by (try dsimp only [FRo, FSx, stE]); first | done | omega), f61 867 _ (by (try dsimp only [FRo, FSx, stE]); first | done | omega), f61 867 _ (by (try dsimp only [FRo, FSx, stE]); first | done | omega)⟩
          have g8 : ∀ (x : Nat) (j : Int), 878 ≤ x ∧ x ≤ 880 → M77 x j = M1 x j := fun x j h => by rw [f77 x j (by (try dsimp only [FRo, FSx, stE]); first | done | omega), f70 x j (by (try dsimp only [FRo, FSx, stE]); first | done | omega), gl x j (by omega)]
          have g9 : ∀ (x : Nat) (j : Int), 878 ≤ x ∧ x ≤ 880 → M97 x j = M93 x j := fun x j h => f97 x j (by (try dsimp only [FRo, FSx, stE]); first | done | omega)
          have e97 : M97 856 24 = M1 856 24 + 1 := by rw [f97 856 24 (by (try dsimp only [FRo, FSx, stE]); first | done | omega), e93]
          have hRn := row_next (M9 := M97) (q := q) (p := M 871 c - 1 - k) (L := M97 860 c) hR rfl (by omega) (by omega) e97 (fun x j h => gx x j (by omega))
            (fun j h1 h2 => by
              obtain ⟨q1, q2, q3⟩ := o93 j (by omega)
              refine ⟨?_, ?_, fun hj => ?_⟩
              · rw [g9 878 j (by decide), q1, um_k (by decide), g8 878 j (by decide)]
              · rw [g9 879 j (by decide), q2, um_k (by decide), g8 879 j (by decide)]
              · rw [g9 880 j (by decide), q3, um_j hj, g8 880 j (by decide)])
            (by omega) (by rw [g9 880 _ (by decide), (o93 (M 871 c - 1 - k) (by omega)).2.2, um_eq, e24]) a9 (by rw [g9 878 _ (by decide), x93]) (by rw [g9 879 _ (by decide), y93]) (by rw [g9 880 _ (by decide), z93])
            (fun j h1 h2 => wB j h1 (by omega)) hsm (by rw [er, eLn]; exact ok97) (by rw [er, eLn]; exact l97') (by rw [er, eLn]; exact hs1) hs97
          refine ih _ (by omega) (k + 1) (q + 1) _ _ rn r94 r107 (by omega) rfl G97 (by rw [e97]; omega) hRn (fun j h1 h2 => by rw [if_neg (by omega)]; exact hLn j h1 h2) (by rw [if_pos (by omega)]) hs97 (fun j h1 h2 => ?_) (fun j h1 h2 => ?_) ?_
          · obtain ⟨q1, q2, q3⟩ := o93 j (by omega)
            obtain ⟨y1, y2⟩ := wA j h1 h2
            rw [g9 878 j (by decide), g9 879 j (by decide), q1, q2, um_k (by decide), um_k (by decide), g8 878 j (by decide), g8 879 j (by decide)]
            exact ⟨y1, y2⟩
          · by_cases ej : j = M1 856 24
            · rw [ej, g9 878 _ (by decide), x93]; omega
            · obtain ⟨q1, q2, q3⟩ := o93 j ej
              rw [g9 878 j (by decide), q1, um_k (by decide), g8 878 j (by decide)]
              have := wB j h1 (by omega)
              omega
          · rw [kpV_succ (by omega)]
            have ek : kpV M97 q = kpV M1 q := kpV_fe (P := fun x j => M97 x j ≠ M1 x j) (fun x j h => Decidable.of_not_not h) (fun x j h h9 => h (gx x j (by omega)))
            rw [ek]
            refine (RunW_app _ _ _ _).mpr ⟨_, wR, by rw [hlen1]; exact ok97, ?_, d97⟩
            rw [← d97, w97, wk93]; exact g3
  have l2 : ∀ (n9 : Nat) (k : Int) (M1 : mem) (rn : inR (M 871 c)) (rk : inR k) (hk : M 870 c ≤ k ∧ k ≤ M 856 13) (hn : (M 856 13 - k).toNat = n9) (F : frE FRo M M1) (er : M1 856 24 = M 871 c + (k - M 870 c)) (wA : ∀ j : Int, 0 ≤ j → j < M 871 c → M1 878 j = 60 + 10 * c + (M 871 c - 1 - j) ∧ M1 879 j = 1 ∧ M1 880 j = -1) (wB : ∀ j : Int, M 871 c ≤ j → j < M 871 c + (k - M 870 c) → M1 878 j = M 870 c + (j - M 871 c) ∧ M1 879 j = 0 ∧ M1 880 j = -1), At X 0 149 29 [vr 856, vi c, vi ((M 871 c)), vi 0, vi k] [] M1 (qV (fun M' => KM M M')) := by
    intro n9
    induction n9 using Nat.strongRecOn with
    | ind n9 ih =>
    intro k M1 rn rk hk hn F er wA wB
    have ev : M1 856 13 = M 856 13 := F 856 13 (by (try dsimp only [FRo, stE]); first | done | omega)
    refine at_iload dx_149_29 rfl ?_
    refine at_aload dx_149_30 rfl ?_
    refine at_getI 13 dx_149_31 lc_856 rfl rfl (fun r31 => ?_)
    refine at_cgeR dx_149_32 rk r31 (fun c32 => ?_) (fun c32 => ?_)
    · skip
      refine at_aload dx_149_39 rfl ?_
      refine at_const (x := 3) dx_149_40 rfl ?_
      refine at_callVV dx_149_41 rfl lc_856 rfl (m_looksAt (d := 3) (by decide) (by decide) (by rw [F 860 3 (by (try dsimp only [FRo, stE]); first | done | omega)]; exact hM.1 3 (by decide) (by decide))) ?_
      rintro M41 ⟨f41, l41, w41⟩
      refine at_aload dx_149_42 rfl ?_
      refine at_iload dx_149_43 rfl ?_
      refine at_callVV dx_149_44 rfl lc_856 rfl (m_keeps (d := c) rc (by omega) (by rw [l41, F 860 3 (by (try dsimp only [FRo, stE]); first | done | omega)]; exact hM.1 3 (by decide) (by decide))) ?_
      rintro M44 ⟨f44, l44, w44⟩
      refine at_const (x := 0) dx_149_45 rfl ?_
      refine at_istore dx_149_46 ?_
      have g44 : ∀ (x : Nat) (j : Int), (861 ≤ x ∧ x ≤ 882 ∧ x ≠ 877) ∨ (x = 856 ∧ j = 24) → M44 x j = M1 x j := fun x j h => by rw [f44 x j (by (try dsimp only [FRo, stE]); first | done | omega), f41 x j (by (try dsimp only [FRo, stE]); first | done | omega)]
      have G44 : frE (FBx c) M M44 := fe_tr (fe_tr (fe_le F (fun x j h => Or.inl h)) (fe_le f41 (fun x j h => fb_L h))) (fe_le f44 (fun x j h => fb_K h))
      have hmv : ∀ s : Int, 0 ≤ s → s ≤ 89 → mv M44 s = mv M s := fun s h0 h1 => mv_fe G44 (fun x j e h8 hq => fb_no hc (by (try dsimp only [stE] at e); omega) hq)
      obtain ⟨w1, w2, w3⟩ := row0 hM hc hmv (by rw [g44 856 24 (by decide), er]; omega) (fun j h1 h2 => by rw [g44 878 j (by omega), g44 879 j (by omega), g44 880 j (by omega)]; exact wA j h1 h2) (fun j h1 h2 => by rw [g44 878 j (by omega), g44 879 j (by omega), g44 880 j (by omega)]; exact wB j h1 (by omega))
      have e3 : M41 856 23 = M 860 3 := by rw [l41, F 860 3 (by (try dsimp only [FRo, stE]); first | done | omega)]
      have s3 := hM.1 3 (by decide) (by decide)
      have d44 : dc M44 c = dc M 3 := by
        rw [w44, w41]
        exact dc_cg (F 860 3 (by (try dsimp only [FRo, stE]); first | done | omega)) (fun j _ => F 859 _ (by (try dsimp only [FRo, stE]); first | done | omega))
      refine l3 w3 _ 0 0 M44 (Ln0 M c) rn (by decide) (by decide) (by omega) rfl G44 (by rw [g44 856 24 (by decide), er]; omega) w1 (fun j _ _ => rfl) (by rw [Int.add_zero, w2, l44, e3]) (by rw [l44, e3]; exact s3) (fun j h1 h2 => by rw [g44 878 j (by omega), g44 879 j (by omega)]; exact ⟨(wA j h1 h2).1, (wA j h1 h2).2.1⟩) (fun j h1 h2 => ?_) d44
      by_cases ej : j < M 871 c
      · rw [g44 878 j (by omega), (wA j h1 ej).1]; omega
      · rw [g44 878 j (by omega), (wB j (by omega) (by omega)).1]; omega
    · skip
      refine at_aload dx_149_33 rfl ?_
      refine at_iload dx_149_34 rfl ?_
      refine at_const (x := 0) dx_149_35 rfl ?_
      refine at_callVV dx_149_36 rfl lc_856 rfl (m_enters2 rk (by decide) (Or.inl rfl) (by omega)) ?_
      rintro M36 ⟨f36, e36, x36, y36, z36, o36⟩
      refine at_iincR (y := 1) dx_149_37 rfl rfl (by constructor <;> omega) (fun r37 => ?_)
      refine at_goto dx_149_38 ?_
      refine ih _ (by omega) _ M36 rn r37 (by omega) rfl (fe_tr F f36) (by rw [e36, er]; omega) (fun j h1 h2 => by
        obtain ⟨q1, q2, q3⟩ := o36 j (by omega)
        rw [q1, q2, q3]
        exact wA j h1 h2) (fun j h1 h2 => by
        by_cases ej : j = M1 856 24
        · subst ej
          exact ⟨by rw [x36]; omega, y36, z36⟩
        · obtain ⟨q1, q2, q3⟩ := o36 j ej
          rw [q1, q2, q3]
          exact wB j h1 (by omega))
  have l1 : ∀ (n9 : Nat) (k : Int) (M1 : mem) (rn : inR (M 871 c)) (rk : inR k) (hk : -1 ≤ k ∧ k < M 871 c) (hn : (k + 1).toNat = n9) (F : frE FRo M M1) (er : M1 856 24 = M 871 c - 1 - k) (wA : ∀ j : Int, 0 ≤ j → j < M 871 c - 1 - k → M1 878 j = 60 + 10 * c + (M 871 c - 1 - j) ∧ M1 879 j = 1 ∧ M1 880 j = -1), At X 0 149 14 [vr 856, vi c, vi ((M 871 c)), vi 0, vi k] [] M1 (qV (fun M' => KM M M')) := by
    intro n9
    induction n9 using Nat.strongRecOn with
    | ind n9 ih =>
    intro k M1 rn rk hk hn F er wA
    have ev : M1 870 c = M 870 c := F 870 c (by (try dsimp only [FRo, stE]); first | done | omega)
    refine at_iload dx_149_14 rfl ?_
    refine at_zltR dx_149_15 rk (fun c15 => ?_) (fun c15 => ?_)
    · skip
      refine at_aload dx_149_24 rfl ?_
      refine at_getR dx_149_25 lc_856 rfl lt_856_14 ?_
      refine at_iload dx_149_26 rfl ?_
      refine at_aldI dx_149_27 lc_870 ln_870 (by first | omega | (simp (disch := omega) only [um_eq, um_k, um_j]; omega)) (by first | omega | (simp (disch := omega) only [um_eq, um_k, um_j]; omega)) (fun r27 => ?_)
      refine at_istore dx_149_28 ?_
      exact l2 _ _ M1 rn r27 (by omega) rfl F (by omega) (fun j h1 h2 => wA j h1 (by omega)) (fun j h1 h2 => by omega)
    · skip
      refine at_aload dx_149_16 rfl ?_
      refine at_iload dx_149_17 rfl ?_
      refine at_iload dx_149_18 rfl ?_
      refine at_callSI dx_149_19 rfl rfl (m_place rc rk (by omega) (by omega)) ?_
      rintro x19 M9 r19 ⟨e9, h19⟩; replace e9 := e9.symm; subst e9; subst h19
      refine at_const (x := 1) dx_149_20 rfl ?_
      refine at_callVV dx_149_21 rfl lc_856 rfl (m_enters2 r19 (by decide) (Or.inr rfl) (by omega)) ?_
      rintro M21 ⟨f21, e21, x21, y21, z21, o21⟩
      refine at_iincR (y := -1) dx_149_22 rfl rfl (by constructor <;> omega) (fun r22 => ?_)
      refine at_goto dx_149_23 ?_
      refine ih _ (by omega) _ M21 rn r22 (by omega) rfl (fe_tr F f21) (by rw [e21, er]; omega) (fun j h1 h2 => by
        by_cases ej : j = M1 856 24
        · subst ej
          exact ⟨by rw [x21]; omega, y21, z21⟩
        · obtain ⟨q1, q2, q3⟩ := o21 j ej
          rw [q1, q2, q3]
          exact wA j h1 (by omega))
  refine at_aload dx_149_0 rfl ?_
  refine at_getR dx_149_1 lc_856 rfl lt_856_15 ?_
  refine at_iload dx_149_2 rfl ?_
  refine at_aldI dx_149_3 lc_871 ln_871 (by first | omega | (simp (disch := omega) only [um_eq, um_k, um_j]; omega)) (by first | omega | (simp (disch := omega) only [um_eq, um_k, um_j]; omega)) (fun r3 => ?_)
  refine at_istore dx_149_4 ?_
  refine at_const (x := 0) dx_149_5 rfl ?_
  refine at_istore dx_149_6 ?_
  refine at_aload dx_149_7 rfl ?_
  refine at_const (x := 0) dx_149_8 rfl ?_
  refine at_putI 24 dx_149_9 lc_856 rfl rfl (by decide) ?_
  refine at_iload dx_149_10 rfl ?_
  refine at_const (x := 1) dx_149_11 rfl ?_
  refine at_subR dx_149_12 (by constructor <;> omega) (fun r12 => ?_)
  refine at_istore dx_149_13 ?_
  exact l1 _ _ _ (by assumption) r12 (by omega) rfl (fe_um (Or.inl ⟨rfl, rfl⟩)) (by rw [um_eq]; omega) (fun j h1 h2 => by omega)

set_option maxRecDepth 100000 in
set_option maxHeartbeats 4000000 in
theorem y_receive {X : scr} {M : mem} {c : Int} (rc : inR c) (hM : MI M) : At X 0 150 0 [vr 856, vi c] [] M (qI (fun _ M' => KR M M')) := by
  have F : frE wE M M := fe_rf
  have hmc := fun h1 h2 => (hM.2.2.2.2 c h1 h2).1
  have h13 := hM.2.1
  refine at_aload dx_150_0 rfl ?_
  refine at_iload dx_150_1 rfl ?_
  refine at_callSI dx_150_2 rfl rfl (m_isClient rc) ?_
  rintro x2 M9 r2 ⟨e9, h2⟩; replace e9 := e9.symm; subst e9; replace h2 := ite01 h2
  refine at_zeqR dx_150_3 r2 (fun c3 => ?_) (fun c3 => ?_)
  · skip
    refine at_const (x := 1) dx_150_6 rfl ?_
    refine at_callVI dx_150_7 rfl lc_856 rfl (m_fails2 (by decide)) ?_
    rintro x7 M7 r7 ⟨f7, h7⟩; replace h7 := ite01 h7
    replace F : frE wE M _ := fe_tr F (fe_le f7 (fun q j h => by obtain ⟨rfl, rfl⟩ := h; exact wE_31))
    obtain rfl : x7 = 1 := by omega
    have y13 := F 856 13 (fun e => by rcases e with e | e | e | e | e | e <;> omega)
    have y0 := F 870 c (fun e => by rcases e with e | e | e | e | e | e <;> omega)
    refine at_zeqR dx_150_8 (by decide) (fun c => absurd c (by decide)) (fun _ => ?_)
    refine at_const (x := 0) dx_150_9 rfl ?_
    refine at_iretI dx_150_10 (by decide) ?_
    first | exact ⟨⟨k1, k2⟩, fun e => by have := hmc (by omega) (by omega); omega⟩ | exact KR_w (MI_wE hM F) F
  · skip
    refine at_const (x := 0) dx_150_4 rfl ?_
    refine at_goto dx_150_5 ?_
    refine at_callVI dx_150_7 rfl lc_856 rfl (m_fails2 (by decide)) ?_
    rintro x7 M7 r7 ⟨f7, h7⟩; replace h7 := ite01 h7
    replace F : frE wE M _ := fe_tr F (fe_le f7 (fun q j h => by obtain ⟨rfl, rfl⟩ := h; exact wE_31))
    obtain rfl : x7 = 0 := by omega
    have y13 := F 856 13 (fun e => by rcases e with e | e | e | e | e | e <;> omega)
    have y0 := F 870 c (fun e => by rcases e with e | e | e | e | e | e <;> omega)
    refine at_zeqR dx_150_8 (by decide) (fun _ => ?_) (fun c => absurd c (by decide))
    refine at_aload dx_150_11 rfl ?_
    refine at_getI 13 dx_150_12 lc_856 rfl rfl (fun r12 => ?_)
    refine at_aload dx_150_13 rfl ?_
    refine at_getR dx_150_14 lc_856 rfl lt_856_14 ?_
    refine at_iload dx_150_15 rfl ?_
    refine at_aldI dx_150_16 lc_870 ln_870 (by omega) (by omega) (fun r16 => ?_)
    refine at_subR dx_150_17 (by (have := hmc (by omega) (by omega); constructor <;> omega)) (fun r17 => ?_)
    refine at_istore dx_150_18 ?_
    refine at_iload dx_150_19 rfl ?_
    refine at_zleR dx_150_20 r17 (fun c20 => ?_) (fun c20 => ?_)
    · skip
      refine at_iload dx_150_24 rfl ?_
      refine at_iretI dx_150_25 r17 ?_
      first | exact ⟨⟨k1, k2⟩, fun e => by have := hmc (by omega) (by omega); omega⟩ | exact KR_w (MI_wE hM F) F
    · skip
      refine at_aload dx_150_21 rfl ?_
      refine at_iload dx_150_22 rfl ?_
      refine at_callVV dx_150_23 rfl lc_856 rfl (x_rebases rc (MI_wE hM F) (by omega) (by omega)) ?_
      rintro M23 ⟨k1, k2⟩
      replace k2 := fe_tr (fe_le F (fun q j h => kE_w h)) k2
      refine at_iload dx_150_24 rfl ?_
      refine at_iretI dx_150_25 r17 ?_
      first | exact ⟨⟨k1, k2⟩, fun e => by have := hmc (by omega) (by omega); omega⟩ | exact KR_w (MI_wE hM F) F
