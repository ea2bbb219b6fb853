/-! ===== the reference: sending ===== -/
theorem RunW_60 (a : List sV) : ∀ l x, l.length ≤ 60 → RunW a l x → 0 ≤ (x.length : Int) ∧ (x.length : Int) ≤ 60 := by
  induction a with
  | nil => intro l x hl h; have h : x = l := h; subst h; omega
  | cons v vs ih =>
    intro l x hl h
    refine ih _ _ ?_ h.2.2
    have h1 := apW_lenv h.1
    have h2 := lenW_60 h.1 (by omega)
    omega
set_option maxRecDepth 100000 in
set_option maxHeartbeats 4000000 in
theorem m_mapsComments {X : scr} {M : mem} {s : Int} (rs : inR s) {n : Int} (hs : 0 ≤ s ∧ s ≤ 99) (hv : okW (mv M s) n) (hn60 : 0 ≤ n ∧ n ≤ 60) (hk9 : 0 ≤ M 856 19 ∧ M 856 19 ≤ 10) : At X 0 147 0 [vr 856, vi s] [] M (qV (fun M' => frE (fun q j => (q = 856 ∧ j = 28) ∨ q = 875 ∨ q = 876) M M')) := by
  have lp : ∀ (n9 : Nat) (k : Int) (M1 : mem) (rk : inR k) (hk : 0 ≤ k) (hn : (M 856 19 - k).toNat = n9) (F : frE (fun q j => (q = 856 ∧ j = 28) ∨ q = 875 ∨ q = 876) M M1), At X 0 147 2 [vr 856, vi s, vi k] [] M1 (qV (fun M' => frE (fun q j => (q = 856 ∧ j = 28) ∨ q = 875 ∨ q = 876) M M')) := by
    intro n9
    induction n9 using Nat.strongRecOn with
    | ind n9 ih =>
    intro k M1 rk hk hn F
    have e19 : M1 856 19 = M 856 19 := F 856 19 (by decide)
    refine at_iload dx_147_2 rfl ?_
    refine at_aload dx_147_3 rfl ?_
    refine at_getI 19 dx_147_4 lc_856 rfl rfl (fun r4 => ?_)
    refine at_cgeR dx_147_5 rk r4 (fun c5 => ?_) (fun c5 => ?_)
    · skip
      refine at_vretV dx_147_49 ?_
      exact F
    · skip
      refine at_aload dx_147_6 rfl ?_
      refine at_getR dx_147_7 lc_856 rfl lt_856_20 ?_
      refine at_iload dx_147_8 rfl ?_
      refine at_aldI dx_147_9 lc_875 ln_875 (by first | omega | (simp (disch := omega) only [um_eq, um_k, um_j]; omega)) (by first | omega | (simp (disch := omega) only [um_eq, um_k, um_j]; omega)) (fun r9 => ?_)
      refine at_const (x := -1) dx_147_10 rfl ?_
      refine at_ceqR dx_147_11 r9 (by decide) (fun c11 => ?_) (fun c11 => ?_)
      · skip
        refine at_iincR (y := 1) dx_147_47 rfl rfl (by constructor <;> omega) (fun r47 => ?_)
        refine at_goto dx_147_48 ?_
        first | exact ih _ (by omega) _ _ r47 (by omega) rfl F | exact ih _ (by omega) _ _ r47 (by omega) rfl (fe_ums (fe_ums (fe_tr (fe_tr F (fe_le f20 (fun q j h => Or.inl h))) (fe_le f30 (fun q j h => Or.inl h))) (Or.inr (Or.inl rfl))) (Or.inr (Or.inr rfl)))
      · skip
        refine at_aload dx_147_12 rfl ?_
        refine at_iload dx_147_13 rfl ?_
        refine at_const (x := 0) dx_147_14 rfl ?_
        refine at_aload dx_147_15 rfl ?_
        refine at_getR dx_147_16 lc_856 rfl lt_856_20 ?_
        refine at_iload dx_147_17 rfl ?_
        refine at_aldI dx_147_18 lc_875 ln_875 (by first | omega | (simp (disch := omega) only [um_eq, um_k, um_j]; omega)) (by first | omega | (simp (disch := omega) only [um_eq, um_k, um_j]; omega)) (fun r18 => ?_)
        refine at_const (x := 1) dx_147_19 rfl ?_
        refine at_callVI dx_147_20 rfl lc_856 rfl (m_mapsW rs r18 (by decide) (by omega) (by rw [mv_fe F (fun q j e h8 hq => by (try dsimp only [stE] at e hq); omega)]; exact hv) hn60) ?_
        rintro x20 M20 r20 f20
        refine at_istore dx_147_21 ?_
        refine at_aload dx_147_22 rfl ?_
        refine at_iload dx_147_23 rfl ?_
        refine at_const (x := 0) dx_147_24 rfl ?_
        refine at_aload dx_147_25 rfl ?_
        refine at_getR dx_147_26 lc_856 rfl lt_856_21 ?_
        refine at_iload dx_147_27 rfl ?_
        refine at_aldI dx_147_28 lc_876 ln_876 (by first | omega | (simp (disch := omega) only [um_eq, um_k, um_j]; omega)) (by first | omega | (simp (disch := omega) only [um_eq, um_k, um_j]; omega)) (fun r28 => ?_)
        refine at_const (x := 0) dx_147_29 rfl ?_
        refine at_callVI dx_147_30 rfl lc_856 rfl (m_mapsW rs r28 (by decide) (by omega) (by rw [mv_fe (fe_tr F (fe_le f20 (fun q j h => Or.inl h))) (fun q j e h8 hq => by (try dsimp only [stE] at e hq); omega)]; exact hv) hn60) ?_
        rintro x30 M30 r30 f30
        refine at_istore dx_147_31 ?_
        refine at_aload dx_147_32 rfl ?_
        refine at_getR dx_147_33 lc_856 rfl lt_856_20 ?_
        refine at_iload dx_147_34 rfl ?_
        refine at_iload dx_147_35 rfl ?_
        refine at_iload dx_147_36 rfl ?_
        refine at_cleR dx_147_37 r30 r20 (fun c37 => ?_) (fun c37 => ?_)
        · skip
          refine at_const (x := -1) dx_147_40 rfl ?_
          refine at_astI dx_147_41 lc_875 ln_875 (by first | omega | (simp (disch := omega) only [um_eq, um_k, um_j]; omega)) (by first | omega | (simp (disch := omega) only [um_eq, um_k, um_j]; omega)) (by decide) ?_
          refine at_aload dx_147_42 rfl ?_
          refine at_getR dx_147_43 lc_856 rfl lt_856_21 ?_
          refine at_iload dx_147_44 rfl ?_
          refine at_iload dx_147_45 rfl ?_
          refine at_astI dx_147_46 lc_876 ln_876 (by first | omega | (simp (disch := omega) only [um_eq, um_k, um_j]; omega)) (by first | omega | (simp (disch := omega) only [um_eq, um_k, um_j]; omega)) r30 ?_
          refine at_iincR (y := 1) dx_147_47 rfl rfl (by constructor <;> omega) (fun r47 => ?_)
          refine at_goto dx_147_48 ?_
          refine at_wk (ls := [vr 856, vi _, vi _]) ⟨Or.inl rfl, Or.inl rfl, Or.inl rfl, trivial⟩ ?_
          first | exact ih _ (by omega) _ _ r47 (by omega) rfl F | exact ih _ (by omega) _ _ r47 (by omega) rfl (fe_ums (fe_ums (fe_tr (fe_tr F (fe_le f20 (fun q j h => Or.inl h))) (fe_le f30 (fun q j h => Or.inl h))) (Or.inr (Or.inl rfl))) (Or.inr (Or.inr rfl)))
        · skip
          refine at_iload dx_147_38 rfl ?_
          refine at_goto dx_147_39 ?_
          refine at_astI dx_147_41 lc_875 ln_875 (by first | omega | (simp (disch := omega) only [um_eq, um_k, um_j]; omega)) (by first | omega | (simp (disch := omega) only [um_eq, um_k, um_j]; omega)) r20 ?_
          refine at_aload dx_147_42 rfl ?_
          refine at_getR dx_147_43 lc_856 rfl lt_856_21 ?_
          refine at_iload dx_147_44 rfl ?_
          refine at_iload dx_147_45 rfl ?_
          refine at_astI dx_147_46 lc_876 ln_876 (by first | omega | (simp (disch := omega) only [um_eq, um_k, um_j]; omega)) (by first | omega | (simp (disch := omega) only [um_eq, um_k, um_j]; omega)) r30 ?_
          refine at_iincR (y := 1) dx_147_47 rfl rfl (by constructor <;> omega) (fun r47 => ?_)
          refine at_goto dx_147_48 ?_
          refine at_wk (ls := [vr 856, vi _, vi _]) ⟨Or.inl rfl, Or.inl rfl, Or.inl rfl, trivial⟩ ?_
          first | exact ih _ (by omega) _ _ r47 (by omega) rfl F | exact ih _ (by omega) _ _ r47 (by omega) rfl (fe_ums (fe_ums (fe_tr (fe_tr F (fe_le f20 (fun q j h => Or.inl h))) (fe_le f30 (fun q j h => Or.inl h))) (Or.inr (Or.inl rfl))) (Or.inr (Or.inr rfl)))
  refine at_const (x := 0) dx_147_0 rfl ?_
  refine at_istore dx_147_1 ?_
  exact lp _ 0 _ (by decide) (by decide) rfl fe_rf

set_option maxRecDepth 100000 in
set_option maxHeartbeats 4000000 in
theorem r_send {X : scr} {M : mem} {c : Int} (rc : inR c) (hM : MI M) : At X 0 148 0 [vr 856, vi c] [] M (qI (fun x M' => MI M' ∧ fr hi M M')) := by
  have F : frE sqE M M := fe_rf
  have hS := fun h1 h2 => hM.1 c h1 h2
  have lp : ∀ (n9 : Nat) (k z : Int) (d : List Int) (M1 : mem) (rp9 : inR (M 871 c)) (rz : inR z) (rk : inR k) (hc : 0 ≤ c ∧ c ≤ 2) (hver : M 870 c = M 856 13) (h60 : M 856 13 + M 871 c ≤ 60) (hk : 0 ≤ k ∧ k ≤ M 871 c) (hn : (M 871 c - k).toNat = n9) (F1 : frE (fun q j => (q = 856 ∧ (j = 13 ∨ j = 28 ∨ j = 31)) ∨ ((861 ≤ q ∧ q ≤ 864) ∧ M 856 13 ≤ j ∧ j < 60) ∨ ((865 ≤ q ∧ q ≤ 867) ∧ 2 * M 856 13 ≤ j ∧ j < 120) ∨ q = 868 ∨ (q = 869 ∧ 60 * M 856 13 ≤ j ∧ j < 3600) ∨ q = 875 ∨ q = 876) M M1) (e13 : M1 856 13 = M 856 13 + k) (wl : RunW (lgW M1 (M 856 13 + k)) [1, 0] d) (wp : RunW (pdW M c k) (dc M 3) d), At X 0 148 38 [vr 856, vi c, vi z, vi ((M 871 c)), vi k] [] M1 (qI (fun x M' => MI M' ∧ fr hi M M')) := by
    intro n9
    induction n9 using Nat.strongRecOn with
    | ind n9 ih =>
    intro k z d M1 rp9 rz rk hc hver h60 hk hn F1 e13 wl wp
    obtain ⟨a1, a2, a3, a4, a5⟩ := id hM
    have hmc := a5 c hc.1 hc.2
    unfold MC at hmc
    obtain ⟨b1, b2, b3, b, b4, b5⟩ := hmc
    have hb : b = dc M 3 := by rw [hver] at b4; exact RunW_det _ _ _ _ b4 a4
    subst hb
    have nx := fun (h : k < M 871 c) => RunW_next (f := fun i : Int => mv M (60 + 10 * c + i)) hk.1 h b5 wp
    have ep : k < 10 → mv M1 (60 + 10 * c + k) = mv M (60 + 10 * c + k) := fun h => mv_fe F1 (fun q j e h8 hq => by (try dsimp only [stE] at e hq); omega)
    have h3 := a1 3 (by decide) (by decide)
    refine at_iload dx_148_38 rfl ?_
    refine at_iload dx_148_39 rfl ?_
    refine at_cgeR dx_148_40 rk rp9 (fun c40 => ?_) (fun c40 => ?_)
    · skip
      refine at_aload dx_148_60 rfl ?_
      refine at_iload dx_148_61 rfl ?_
      refine at_callVV dx_148_62 rfl lc_856 rfl (m_looksAt rc (by omega) (by rw [F1 860 c (by (try dsimp only [stE]); first | done | omega)]; exact a1 c hc.1 (by omega))) ?_
      rintro M62 ⟨F62, l62, w62⟩
      refine at_aload dx_148_63 rfl ?_
      refine at_const (x := 3) dx_148_64 rfl ?_
      refine at_callVV dx_148_65 rfl lc_856 rfl (m_keeps (d := 3) (by decide) (by decide) (by rw [l62, F1 860 c (by (try dsimp only [stE]); first | done | omega)]; exact a1 c hc.1 (by omega))) ?_
      rintro M65 ⟨F65, l65, w65⟩
      refine at_aload dx_148_66 rfl ?_
      refine at_getR dx_148_67 lc_856 rfl lt_856_14 ?_
      refine at_iload dx_148_68 rfl ?_
      refine at_aload dx_148_69 rfl ?_
      refine at_getI 13 dx_148_70 lc_856 rfl rfl (fun r70 => ?_)
      refine at_astI dx_148_71 lc_870 ln_870 (by first | omega | (simp (disch := omega) only [um_eq, um_k, um_j]; omega)) (by first | omega | (simp (disch := omega) only [um_eq, um_k, um_j]; omega)) r70 ?_
      refine at_aload dx_148_72 rfl ?_
      refine at_getR dx_148_73 lc_856 rfl lt_856_15 ?_
      refine at_iload dx_148_74 rfl ?_
      refine at_const (x := 0) dx_148_75 rfl ?_
      refine at_astI dx_148_76 lc_871 ln_871 (by first | omega | (simp (disch := omega) only [um_eq, um_k, um_j]; omega)) (by first | omega | (simp (disch := omega) only [um_eq, um_k, um_j]; omega)) (by decide) ?_
      refine at_iload dx_148_77 rfl ?_
      refine at_iretI dx_148_78 rp9 ?_
      have hkp : k = M 871 c := by omega
      subst hkp
      have hd := RunW_det _ _ _ _ wp b5
      subst hd
      have dM1 : dc M1 c = dc M c := dc_cg (F1 860 c (by (try dsimp only [stE]); first | done | omega)) (fun j _ => F1 859 _ (by (try dsimp only [stE]); first | done | omega))
      have hF : ∀ MF : mem, MF = um (um M65 870 c (M65 856 13)) 871 c 0 → MI MF ∧ fr hi M MF := fun MF hMF => by
        have G65 : frE (fun q j => (q = 870 ∨ q = 871) ∧ j = c) M65 MF := by rw [hMF]; exact fe_ums (fe_um ⟨Or.inl rfl, rfl⟩) ⟨Or.inr rfl, rfl⟩
        have G1 : frE (fun q j => q = 877 ∨ (q = 856 ∧ j = 23) ∨ (q = 860 ∧ j = 3) ∨ (q = 859 ∧ 180 ≤ j ∧ j < 240) ∨ ((q = 870 ∨ q = 871) ∧ j = c)) M1 MF := fe_tr (fe_tr (fe_le F62 (fun q j h => by (try dsimp only at h ⊢); first | done | omega)) (fe_le F65 (fun q j h => by (try dsimp only at h ⊢); first | done | omega))) (fe_le G65 (fun q j h => by (try dsimp only at h ⊢); first | done | omega))
        have e65 : M65 856 13 = M 856 13 + M 871 c := by rw [F65 856 13 (by (try dsimp only [stE]); first | done | omega), F62 856 13 (by (try dsimp only [stE]); first | done | omega), e13]
        have f13 : MF 856 13 = M 856 13 + M 871 c := by rw [G65 856 13 (by (try dsimp only [stE]); first | done | omega), e65]
        have f870 : MF 870 c = M 856 13 + M 871 c := by rw [hMF, um_k (by decide), um_eq, e65]
        have f871 : MF 871 c = 0 := by rw [hMF, um_eq]
        have s3 : MF 860 3 = M 860 c := by rw [G65 860 3 (by (try dsimp only [stE]); first | done | omega), l65, l62, F1 860 c (by (try dsimp only [stE]); first | done | omega)]
        have d3 : dc MF 3 = dc M c := by
          rw [← dM1, ← w62, ← w65]
          exact dc_cg (G65 860 3 (by (try dsimp only [stE]); first | done | omega)) (fun j _ => G65 859 _ (by (try dsimp only [stE]); first | done | omega))
        have lg1 : ∀ n : Int, n ≤ 60 → lgW MF n = lgW M1 n := fun n hn => lgW_fe G1 (fun q j e => by (try dsimp only at e); omega)
        have lgM : ∀ n : Int, n ≤ M 856 13 → lgW MF n = lgW M n := fun n hn => by
          rw [lg1 n (by omega)]
          exact lgW_fe F1 (fun q j e => by (try dsimp only at e); omega)
        have gd : ∀ d : Int, 0 ≤ d → d ≤ 2 → MF 860 d = M 860 d ∧ dc MF d = dc M d := fun d h0 h2 => by
          have e1 : MF 860 d = M 860 d := by rw [G1 860 d (by (try dsimp only [stE]); first | done | omega), F1 860 d (by (try dsimp only [stE]); first | done | omega)]
          refine ⟨e1, dc_cg e1 (fun j hj => ?_)⟩
          have := a1 d h0 (by omega)
          rw [G1 859 _ (by (try dsimp only [stE]); first | done | omega), F1 859 _ (by (try dsimp only [stE]); first | done | omega)]
        refine ⟨⟨fun d h0 h3 => ?_, by rw [f13]; omega, by rw [G1 856 19 (by (try dsimp only [stE]); first | done | omega), F1 856 19 (by (try dsimp only [stE]); first | done | omega)]; exact a3, ?_, fun c' h0 h2 => ?_⟩, fe_fr (P := fun q j => 856 ≤ q) (fe_tr (fe_le F1 (fun q j h => by (try dsimp only at h ⊢); first | done | omega)) (fe_le G1 (fun q j h => by (try dsimp only at h ⊢); first | done | omega))) (fun q j h => h)⟩
        · by_cases e : d = 3
          · subst e; rw [s3]; exact a1 c hc.1 (by omega)
          · rw [(gd d h0 (by omega)).1]; exact a1 d h0 h3
        · rw [f13, lg1 _ (by omega), d3]; exact wl
        · by_cases e : c' = c
          · subst e
            unfold MC
            rw [f870, f871, f13, G1 874 c' (by (try dsimp only [stE]); first | done | omega), F1 874 c' (by (try dsimp only [stE]); first | done | omega), (gd c' h0 h2).2, lg1 _ (by omega)]
            exact ⟨by omega, by omega, b3, _, wl, rfl⟩
          · obtain ⟨z1, z2, z3, z, z4, z5⟩ := a5 c' h0 h2
            unfold MC
            rw [G1 870 c' (by (try dsimp only [stE]); first | done | omega), F1 870 c' (by (try dsimp only [stE]); first | done | omega), G1 871 c' (by (try dsimp only [stE]); first | done | omega), F1 871 c' (by (try dsimp only [stE]); first | done | omega), G1 874 c' (by (try dsimp only [stE]); first | done | omega), F1 874 c' (by (try dsimp only [stE]); first | done | omega), f13, lgM _ (by omega), (gd c' h0 h2).2, pdW_fe G1 (fun q j e => by (try dsimp only at e); omega), pdW_fe F1 (fun q j e => by (try dsimp only at e); omega)]
            exact ⟨by omega, z2, z3, z, z4, z5⟩
      exact hF _ rfl
    · skip
      refine at_aload dx_148_41 rfl ?_
      refine at_iload dx_148_42 rfl ?_
      refine at_iload dx_148_43 rfl ?_
      refine at_callSI dx_148_44 rfl rfl (m_place rc rk (by omega) (by omega)) ?_
      rintro x44 M9 r44 ⟨e9, h44⟩; replace e9 := e9.symm; subst e9; subst h44
      refine at_aload dx_148_45 rfl ?_
      refine at_getI 13 dx_148_46 lc_856 rfl rfl (fun r46 => ?_)
      refine at_callVV dx_148_47 rfl lc_856 rfl (m_copies r44 r46 (by omega) (by omega) (by omega)) ?_
      rintro M47 ⟨f47, v47, -⟩
      refine at_aload dx_148_48 rfl ?_
      refine at_aload dx_148_49 rfl ?_
      refine at_getI 13 dx_148_50 lc_856 rfl rfl (fun r50 => ?_)
      refine at_callVV dx_148_51 rfl lc_856 rfl (m_mapsComments (n := (d.length : Int)) r50 (by rw [f47 856 13 (by (try dsimp only [stE]); first | done | omega)]; omega) (by rw [f47 856 13 (by (try dsimp only [stE]); first | done | omega), v47, ep (by omega)]; exact (nx (by omega)).1) (RunW_60 _ _ _ (by rw [dc_len]; omega) wp) (by rw [f47 856 19 (by (try dsimp only [stE]); first | done | omega), F1 856 19 (by (try dsimp only [stE]); first | done | omega)]; exact hM.2.2.1)) ?_
      rintro M51 f51
      refine at_aload dx_148_52 rfl ?_
      refine at_dup dx_148_53 rfl ?_
      refine at_getI 13 dx_148_54 lc_856 rfl rfl (fun r54 => ?_)
      refine at_const (x := 1) dx_148_55 rfl ?_
      have e51a : M51 856 13 = M 856 13 + k := by rw [f51 856 13 (by decide), f47 856 13 (by (try dsimp only [stE]); first | done | omega), e13]
      refine at_addR dx_148_56 (by (first | (constructor <;> omega) | (have := hM.2.2.2.2 c (by omega) (by omega); unfold MC at this; have := hM.2.1; constructor <;> omega))) (fun r56 => ?_)
      refine at_putI 13 dx_148_57 lc_856 rfl rfl r56 ?_
      refine at_iincR (y := 1) dx_148_58 rfl rfl (by (first | (constructor <;> omega) | (have := hM.2.2.2.2 c (by omega) (by omega); unfold MC at this; have := hM.2.1; constructor <;> omega))) (fun r58 => ?_)
      refine at_goto dx_148_59 ?_
      obtain ⟨n1, n2, n3⟩ := nx (by omega)
      have Fu : frE (fun q j => q = 856 ∧ j = 13) M51 (um M51 856 13 (M51 856 13 + 1)) := fe_um ⟨rfl, rfl⟩
      have e51 : M51 856 13 = M 856 13 + k := by rw [f51 856 13 (by decide), f47 856 13 (by (try dsimp only [stE]); first | done | omega), e13]
      have vN : mv (um M51 856 13 (M51 856 13 + 1)) (M 856 13 + k) = mv M (60 + 10 * c + k) := by
        rw [mv_fe Fu (fun q j e h8 hq => by (try dsimp only [stE] at e hq); omega), mv_fe f51 (fun q j e h8 hq => by (try dsimp only [stE] at e hq); omega), ← e13, v47, ep (by omega)]
      refine ih _ (by omega) (k + 1) _ (apW (mv M (60 + 10 * c + k)) d) _ rp9 rz r58 hc hver h60 (by omega) rfl (fe_tr (fe_tr (fe_tr F1 (fe_le f47 (fun q j h => ?_))) (fe_le f51 (fun q j h => ?_))) (fe_le Fu (fun q j h => Or.inl ⟨h.1, Or.inl h.2⟩))) (by rw [um_eq, e51]; omega) ?_ n3
      · rw [e13] at h
        rcases h with ⟨h1, h2⟩ | ⟨h1, h2⟩ | ⟨h1, h2, h3⟩
        · exact Or.inr (Or.inl ⟨h1, by omega, by omega⟩)
        · exact Or.inr (Or.inr (Or.inl ⟨h1, by omega, by omega⟩))
        · rcases (show q = 868 ∨ q = 869 by omega) with h9 | h9
          · exact Or.inr (Or.inr (Or.inr (Or.inl h9)))
          · exact Or.inr (Or.inr (Or.inr (Or.inr (Or.inl ⟨h9, by omega, by omega⟩))))
      · rcases h with ⟨h1, h2⟩ | h | h
        · exact Or.inl ⟨h1, Or.inr (Or.inl h2)⟩
        · exact Or.inr (Or.inr (Or.inr (Or.inr (Or.inr (Or.inl h)))))
        · exact Or.inr (Or.inr (Or.inr (Or.inr (Or.inr (Or.inr h)))))
      · rw [show M 856 13 + (k + 1) = (M 856 13 + k) + 1 by omega, lgW_succ (by omega), vN, lgW_fe Fu (fun q j e => by (try dsimp only at e); omega), lgW_fe f51 (fun q j e => by (try dsimp only at e); omega), lgW_fe f47 (fun q j e => by rw [e13] at e; (try dsimp only [stE] at e); omega)]
        exact (RunW_app _ _ _ _).mpr ⟨_, wl, n1, n2, rfl⟩
  refine at_iload dx_148_0 rfl ?_
  refine at_callSI dx_148_1 rfl rfl (m_isClient rc) ?_
  rintro x1 M9 r1 ⟨e9, h1⟩; replace e9 := e9.symm; subst e9; replace h1 := ite01 h1
  refine at_istore dx_148_2 ?_
  refine at_aload dx_148_3 rfl ?_
  refine at_iload dx_148_4 rfl ?_
  refine at_zneR dx_148_5 r1 (fun c5 => ?_) (fun c5 => ?_)
  · skip
    refine at_aload dx_148_8 rfl ?_
    refine at_getR dx_148_9 lc_856 rfl lt_856_14 ?_
    refine at_iload dx_148_10 rfl ?_
    refine at_aldI dx_148_11 lc_870 ln_870 (by first | omega | (simp (disch := omega) only [um_eq, um_k, um_j]; omega)) (by first | omega | (simp (disch := omega) only [um_eq, um_k, um_j]; omega)) (fun r11 => ?_)
    refine at_aload dx_148_12 rfl ?_
    refine at_getI 13 dx_148_13 lc_856 rfl rfl (fun r13 => ?_)
    refine at_cneR dx_148_14 r11 r13 (fun c14 => ?_) (fun c14 => ?_)
    · skip
      refine at_const (x := 2) dx_148_24 rfl ?_
      refine at_goto dx_148_25 ?_
      refine at_callVI dx_148_27 rfl lc_856 rfl (m_fails2 (by decide)) ?_
      rintro x27 M27 r27 ⟨f27, h27⟩; replace h27 := ite01 h27
      replace F : frE sqE M _ := fe_tr F (fe_le f27 (fun q j h => Or.inl ⟨h.1, by rw [h.2]; decide, by rw [h.2]; decide⟩))
      obtain rfl : x27 = 1 := by omega
      have g871 : M27 871 c = M 871 c := f27 871 c (by (try dsimp only); omega)
      refine at_zeqR dx_148_28 (by decide) (fun c => absurd c (by decide)) (fun _ => ?_)
      refine at_const (x := 0) dx_148_29 rfl ?_
      refine at_iretI dx_148_30 (by decide) ?_
      first | exact ⟨k1, k2⟩ | exact ⟨MI_sq hM F, fe_fr F (fun q j h => sq_hi h)⟩
    · skip
      refine at_aload dx_148_15 rfl ?_
      refine at_getI 13 dx_148_16 lc_856 rfl rfl (fun r16 => ?_)
      refine at_aload dx_148_17 rfl ?_
      refine at_getR dx_148_18 lc_856 rfl lt_856_15 ?_
      refine at_iload dx_148_19 rfl ?_
      refine at_aldI dx_148_20 lc_871 ln_871 (by first | omega | (simp (disch := omega) only [um_eq, um_k, um_j]; omega)) (by first | omega | (simp (disch := omega) only [um_eq, um_k, um_j]; omega)) (fun r20 => ?_)
      refine at_addR dx_148_21 (by (first | (constructor <;> omega) | (have := hM.2.2.2.2 c (by omega) (by omega); unfold MC at this; have := hM.2.1; constructor <;> omega))) (fun r21 => ?_)
      refine at_const (x := 60) dx_148_22 rfl ?_
      refine at_cleR dx_148_23 r21 (by decide) (fun c23 => ?_) (fun c23 => ?_)
      · skip
        refine at_const (x := 0) dx_148_26 rfl ?_
        refine at_callVI dx_148_27 rfl lc_856 rfl (m_fails2 (by decide)) ?_
        rintro x27 M27 r27 ⟨f27, h27⟩; replace h27 := ite01 h27
        replace F : frE sqE M _ := fe_tr F (fe_le f27 (fun q j h => Or.inl ⟨h.1, by rw [h.2]; decide, by rw [h.2]; decide⟩))
        obtain rfl : x27 = 0 := by omega
        have g871 : M27 871 c = M 871 c := f27 871 c (by (try dsimp only); omega)
        refine at_zeqR dx_148_28 (by decide) (fun _ => ?_) (fun c => absurd c (by decide))
        refine at_aload dx_148_31 rfl ?_
        refine at_getR dx_148_32 lc_856 rfl lt_856_15 ?_
        refine at_iload dx_148_33 rfl ?_
        refine at_aldI dx_148_34 lc_871 ln_871 (by first | omega | (simp (disch := omega) only [um_eq, um_k, um_j]; omega)) (by first | omega | (simp (disch := omega) only [um_eq, um_k, um_j]; omega)) (fun r34 => ?_)
        rw [g871] at r34 ⊢
        refine at_istore dx_148_35 ?_
        refine at_const (x := 0) dx_148_36 rfl ?_
        refine at_istore dx_148_37 ?_
        exact lp _ 0 _ (dc M 3) _ (by assumption) r1 (by decide) (by omega) (by omega) (by omega) ⟨by decide, by have := (hM.2.2.2.2 c (by omega) (by omega)).2.1; omega⟩ rfl (fe_le f27 (fun q j h => Or.inl ⟨h.1, Or.inr (Or.inr h.2)⟩)) (by rw [f27 856 13 (by decide), Int.add_zero]) (by rw [Int.add_zero, lgW_fe f27 (fun q j e => by (try dsimp only at e); omega)]; exact hM.2.2.2.1) rfl
      · skip
        refine at_const (x := 2) dx_148_24 rfl ?_
        refine at_goto dx_148_25 ?_
        refine at_callVI dx_148_27 rfl lc_856 rfl (m_fails2 (by decide)) ?_
        rintro x27 M27 r27 ⟨f27, h27⟩; replace h27 := ite01 h27
        replace F : frE sqE M _ := fe_tr F (fe_le f27 (fun q j h => Or.inl ⟨h.1, by rw [h.2]; decide, by rw [h.2]; decide⟩))
        obtain rfl : x27 = 1 := by omega
        have g871 : M27 871 c = M 871 c := f27 871 c (by (try dsimp only); omega)
        refine at_zeqR dx_148_28 (by decide) (fun c => absurd c (by decide)) (fun _ => ?_)
        refine at_const (x := 0) dx_148_29 rfl ?_
        refine at_iretI dx_148_30 (by decide) ?_
        first | exact ⟨k1, k2⟩ | exact ⟨MI_sq hM F, fe_fr F (fun q j h => sq_hi h)⟩
  · skip
    refine at_const (x := 1) dx_148_6 rfl ?_
    refine at_goto dx_148_7 ?_
    refine at_callVI dx_148_27 rfl lc_856 rfl (m_fails2 (by decide)) ?_
    rintro x27 M27 r27 ⟨f27, h27⟩; replace h27 := ite01 h27
    replace F : frE sqE M _ := fe_tr F (fe_le f27 (fun q j h => Or.inl ⟨h.1, by rw [h.2]; decide, by rw [h.2]; decide⟩))
    obtain rfl : x27 = 1 := by omega
    have g871 : M27 871 c = M 871 c := f27 871 c (by (try dsimp only); omega)
    refine at_zeqR dx_148_28 (by decide) (fun c => absurd c (by decide)) (fun _ => ?_)
    refine at_const (x := 0) dx_148_29 rfl ?_
    refine at_iretI dx_148_30 (by decide) ?_
    first | exact ⟨k1, k2⟩ | exact ⟨MI_sq hM F, fe_fr F (fun q j h => sq_hi h)⟩
