/-! ===== the pending steps mapped, while nothing is confirmed ===== -/
set_option maxRecDepth 100000 in
set_option maxHeartbeats 4000000 in
theorem x_mapPending0 {X : scr} {M : mem} {c n : Nat} {f0 : Nat → List Int} (hc : ly_c c = 0) (hT : TI M) (hI : RI M) (hn0 : M c 2 = (n : Int)) (hn : n ≤ 10) (hR : RWx M c n 0) (hd0 : tk M (c + 4) = f0 0) (hP : ∀ j : Nat, j < n → okT M (pst c j) ∧ okV (sv M (pst c j)) (f0 j) ∧ f0 (j + 1) = apV (sv M (pst c j)) (f0 j) ∧ acc (M 2) (M 3) (f0 (j + 1))) : At X 0 86 0 [vr 0, vr c] [] M (qV (fun M' => fr (mzz c) M M' ∧ TI M' ∧ RI M' ∧ (∀ j, j ≠ 2 → M' c j = M c j) ∧ M' c 2 = (n : Int) ∧ (∀ j : Nat, j < n → sv M' (pst c j) = sv M (pst c j)) ∧ tk M' (c + 4) = f0 n)) := by
  have h8 := cl_al hc
  have lq : ∀ (m : Nat) (f k i : Int) (M2 : mem) (rf : inR f) (rk : inR k) (ri : inR i) (h0 : 0 ≤ i ∧ i ≤ k ∧ k = (n : Int)) (hm : (k - i).toNat = m) (g2 : fr (mzy c) M M2) (j2 : TI M2) (l2 : RI M2) (hw : ∀ j : Nat, j < n → sv M2 (pst c j) = sv M (pst c j)) (hv : ∀ j : Nat, j < n → sv M2 (512 + 8 * j) = sv M (pst c j)) (hd : tk M2 (c + 4) = f0 n), At X 0 86 70 [vr 0, vr c, vi f, vi k, vi i] [] M2 (qV (fun M' => fr (mzz c) M M' ∧ TI M' ∧ RI M' ∧ (∀ j, j ≠ 2 → M' c j = M c j) ∧ M' c 2 = (n : Int) ∧ (∀ j : Nat, j < n → sv M' (pst c j) = sv M (pst c j)) ∧ tk M' (c + 4) = f0 n)) := by
    intro m
    induction m using Nat.strongRecOn with
    | ind m ih =>
    intro f k i M2 rf rk ri h0 hm g2 j2 l2 hw hv hd
    refine at_iload dx_86_70 rfl ?_
    refine at_iload dx_86_71 rfl ?_
    refine at_cgeR dx_86_72 ri rk (fun c72 => ?_) (fun c72 => ?_)
    · skip
      refine at_aload dx_86_89 rfl ?_
      refine at_iload dx_86_90 rfl ?_
      refine at_putI 2 dx_86_91 hc rfl rfl rk ?_
      refine at_vretV dx_86_92 ?_
      have hik : i = k := by omega
      subst hik
      have fu : fr (fun q => q = c) M2 (um M2 c 2 i) := fr_um rfl
      refine ⟨fr_tr (fr_le g2 (fun q h => by (try dsimp only [blk, sq, cq, lo, wq, pq, mz, mzy, mzz, rq4, pst] at h ⊢); first | done | omega)) (fr_le fu (fun q h => by (try dsimp only [blk, sq, cq, lo, wq, pq, mz, mzy, mzz, rq4, pst] at h ⊢); first | done | omega)), TI_um j2 (by rw [hc]; decide), RI_fr fu (by (try dsimp only [blk, sq, cq, lo, wq, pq, mz, mzy, mzz, rq4, pst]); first | done | omega) l2, fun j hj => by rw [um_j hj, g2 c j (by (try dsimp only [blk, sq, cq, lo, wq, pq, mz, mzy, mzz, rq4, pst]); first | done | omega)], ?_, ?_, ?_⟩
      · rw [um_eq]; omega
      · intro j hj
        rw [← hw j hj]; exact sv_cg (fun q z h => fu q z (by (try dsimp only [blk, sq, cq, lo, wq, pq, mz, mzy, mzz, rq4, pst] at h ⊢); first | done | omega))
      · rw [tk_fr fu (by (try dsimp only [blk, sq, cq, lo, wq, pq, mz, mzy, mzz, rq4, pst]); first | done | omega) (by (try dsimp only [blk, sq, cq, lo, wq, pq, mz, mzy, mzz, rq4, pst]); first | done | omega)]; exact hd
    · skip
      refine at_iload dx_86_73 rfl ?_
      refine at_aload dx_86_74 rfl ?_
      refine at_getR dx_86_75 hc rfl (cl_t3 hc) ?_
      refine at_alen dx_86_76 (cl_c1 hc) rfl (cl_n1 hc) ?_
      refine at_cgeR dx_86_77 ri (by decide) (fun c77 => ?_) (fun c77 => ?_)
      · skip
        refine at_aload dx_86_89 rfl ?_
        refine at_iload dx_86_90 rfl ?_
        refine at_putI 2 dx_86_91 hc rfl rfl rk ?_
        refine at_vretV dx_86_92 ?_
        have hik : i = k := by omega
        subst hik
        have fu : fr (fun q => q = c) M2 (um M2 c 2 i) := fr_um rfl
        refine ⟨fr_tr (fr_le g2 (fun q h => by (try dsimp only [blk, sq, cq, lo, wq, pq, mz, mzy, mzz, rq4, pst] at h ⊢); first | done | omega)) (fr_le fu (fun q h => by (try dsimp only [blk, sq, cq, lo, wq, pq, mz, mzy, mzz, rq4, pst] at h ⊢); first | done | omega)), TI_um j2 (by rw [hc]; decide), RI_fr fu (by (try dsimp only [blk, sq, cq, lo, wq, pq, mz, mzy, mzz, rq4, pst]); first | done | omega) l2, fun j hj => by rw [um_j hj, g2 c j (by (try dsimp only [blk, sq, cq, lo, wq, pq, mz, mzy, mzz, rq4, pst]); first | done | omega)], ?_, ?_, ?_⟩
        · rw [um_eq]; omega
        · intro j hj
          rw [← hw j hj]; exact sv_cg (fun q z h => fu q z (by (try dsimp only [blk, sq, cq, lo, wq, pq, mz, mzy, mzz, rq4, pst] at h ⊢); first | done | omega))
        · rw [tk_fr fu (by (try dsimp only [blk, sq, cq, lo, wq, pq, mz, mzy, mzz, rq4, pst]); first | done | omega) (by (try dsimp only [blk, sq, cq, lo, wq, pq, mz, mzy, mzz, rq4, pst]); first | done | omega)]; exact hd
      · skip
        refine at_aload dx_86_78 rfl ?_
        refine at_getR dx_86_79 hc rfl (cl_t3 hc) ?_
        refine at_iload dx_86_80 rfl ?_
        refine at_aldS dx_86_81 (cl_c1 hc) (cl_n1 hc) (by first | omega | (simp (disch := omega) only [um_eq, um_k, um_j]; omega)) (by first | omega | (simp (disch := omega) only [um_eq, um_k, um_j]; omega)) (pd_t hc h0.1 (by omega)) ?_
        refine at_aload dx_86_82 rfl ?_
        refine at_getR dx_86_83 lc_0 rfl lt_0_11 ?_
        refine at_iload dx_86_84 rfl ?_
        refine at_aldS dx_86_85 lc_24 ln_24 (by first | omega | (simp (disch := omega) only [um_eq, um_k, um_j]; omega)) (by first | omega | (simp (disch := omega) only [um_eq, um_k, um_j]; omega)) (mp_t h0.1 (by omega)) ?_
        refine at_callVV dx_86_86 rfl (pd_c hc h0.1 (by omega)) rfl (c_stepBecome (pd_c hc h0.1 (by omega)) (mp_c h0.1 (by omega)) (by omega) j2) ?_
        rintro M86 ⟨f86, i86, s86, -⟩
        refine at_iincR (y := 1) dx_86_87 rfl rfl (by (constructor <;> omega)) (fun r87 => ?_)
        refine at_goto dx_86_88 ?_
        have F' : fr (mzy c) M M86 := fr_tr g2 (fr_le f86 (fun q h => by (try dsimp only [blk, sq, cq, lo, wq, pq, mz, mzy, mzz, rq4, pst] at h ⊢); first | done | omega))
        refine ih _ (by omega) _ _ _ _ rf rk r87 (by omega) rfl F' i86 (RI_fr f86 (by (try dsimp only [blk, sq, cq, lo, wq, pq, mz, mzy, mzz, rq4, pst]); first | done | omega) l2) ?_ ?_ ?_
        · intro j hj
          by_cases e : j = i.toNat
          · subst e; exact s86.trans (hv _ (by omega))
          · rw [← hw j hj]; exact sv_cg (fun q z h => f86 q z (by dsimp only [blk, pst] at h ⊢; omega))
        · intro j hj
          rw [← hv j hj]; exact sv_cg (fun q z h => f86 q z (by dsimp only [blk] at h ⊢; omega))
        · rw [tk_fr f86 (by (try dsimp only [blk, sq, cq, lo, wq, pq, mz, mzy, mzz, rq4, pst]); first | done | omega) (by (try dsimp only [blk, sq, cq, lo, wq, pq, mz, mzy, mzz, rq4, pst]); first | done | omega)]; exact hd
  have lp : ∀ (m : Nat) (f k : Int) (M1 : mem) (rf : inR f) (rk : inR k) (h0 : 0 ≤ k ∧ k ≤ f ∧ f = (n : Int)) (hm : (f - k).toNat = m) (F : fr (mz c) M M1) (T : TI M1) (G : RI M1) (hRx : RWx M1 c n k.toNat) (hd : tk M1 (c + 4) = f0 k.toNat), At X 0 86 11 [vr 0, vr c, vi f, vi k, vi k] [] M1 (qV (fun M' => fr (mzz c) M M' ∧ TI M' ∧ RI M' ∧ (∀ j, j ≠ 2 → M' c j = M c j) ∧ M' c 2 = (n : Int) ∧ (∀ j : Nat, j < n → sv M' (pst c j) = sv M (pst c j)) ∧ tk M' (c + 4) = f0 n)) := by
    intro m
    induction m using Nat.strongRecOn with
    | ind m ih =>
    intro f k M1 rf rk h0 hm F T G hRx hd
    refine at_iload dx_86_11 rfl ?_
    refine at_iload dx_86_12 rfl ?_
    refine at_cgeR dx_86_13 rk rf (fun c13 => ?_) (fun c13 => ?_)
    · skip
      refine at_const (x := 0) dx_86_68 rfl ?_
      refine at_istore dx_86_69 ?_
      have hkn : k = (n : Int) := by omega
      have hw : ∀ j : Nat, j < n → sv M1 (pst c j) = sv M (pst c j) := fun j hj => sv_cg (fun q z h => F q z (by (try dsimp only [blk, sq, cq, lo, wq, pq, mz, mzy, mzz, rq4, pst] at h ⊢); first | done | omega))
      refine lq _ _ _ 0 _ rf rk (by decide) (by omega) rfl (fr_le F (fun q h => by (try dsimp only [blk, sq, cq, lo, wq, pq, mz, mzy, mzz, rq4, pst] at h ⊢); first | done | omega)) T G hw (fun j hj => ?_) (by rw [hd, hkn]; rfl)
      rw [← hw j hj]; exact hRx.2.2.2.2.1 j (by omega)
    · skip
      refine at_iload dx_86_14 rfl ?_
      refine at_aload dx_86_15 rfl ?_
      refine at_getR dx_86_16 lc_0 rfl lt_0_11 ?_
      refine at_alen dx_86_17 lc_24 rfl ln_24 ?_
      refine at_cgeR dx_86_18 rk (by decide) (fun c18 => ?_) (fun c18 => ?_)
      · exfalso; omega
      · skip
        refine at_aload dx_86_19 rfl ?_
        refine at_getR dx_86_20 lc_0 rfl lt_0_11 ?_
        refine at_iload dx_86_21 rfl ?_
        obtain ⟨n1, n2, n3, n4⟩ := hP k.toNat (by omega)
        refine at_aldS dx_86_22 lc_24 ln_24 (by first | omega | (simp (disch := omega) only [um_eq, um_k, um_j]; omega)) (by first | omega | (simp (disch := omega) only [um_eq, um_k, um_j]; omega)) (mp_t h0.1 (by omega)) ?_
        refine at_astore dx_86_23 ?_
        refine at_aload dx_86_24 rfl ?_
        refine at_aload dx_86_25 rfl ?_
        refine at_getR dx_86_26 hc rfl (cl_t3 hc) ?_
        refine at_iload dx_86_27 rfl ?_
        refine at_aldS dx_86_28 (cl_c1 hc) (cl_n1 hc) (by first | omega | (simp (disch := omega) only [um_eq, um_k, um_j]; omega)) (by first | omega | (simp (disch := omega) only [um_eq, um_k, um_j]; omega)) (pd_t hc h0.1 (by omega)) ?_
        refine at_callVV dx_86_29 rfl (mp_c h0.1 (by omega)) rfl (c_stepBecome (mp_c h0.1 (by omega)) (pd_c hc h0.1 (by omega)) (by omega) T) ?_
        rintro M29 ⟨f29, i29, s29, -⟩
        have eP : sv M1 (pst c k.toNat) = sv M (pst c k.toNat) := sv_cg (fun q z h => F q z (nP_mz hc h))
        have R29 := RWx_b hc ⟨by omega, hn⟩ f29 hRx
        have o29 := okT_u (s29.trans eP) n1
        refine at_aload dx_86_30 rfl ?_
        refine at_getR dx_86_31 lc_0 rfl lt_0_12 ?_
        refine at_aload dx_86_32 rfl ?_
        refine at_iload dx_86_33 rfl ?_
        refine at_iload dx_86_34 rfl ?_
        refine at_subR dx_86_35 (by (constructor <;> omega)) (fun r35 => ?_)
        refine at_callVI dx_86_36 rfl lc_25 rfl (x_carryStep r35 (by omega) hc ⟨by omega, hn⟩ R29 (mp_c h0.1 (by omega)) o29.1 o29.2) ?_
        rintro x36 M36 r36 ⟨e36, f36⟩
        have i36 : TI M36 := TI_no i29 f36 (fun q hq hP => by have := tk_e hq; omega)
        have q36 := sv36 hc ⟨by omega, hn⟩ F hd f29 s29 f36
        refine at_zeqR dx_86_37 r36 (fun c37 => ?_) (fun c37 => ?_)
        · exfalso; omega
        · skip
          refine at_aload dx_86_38 rfl ?_
          refine at_aload dx_86_39 rfl ?_
          refine at_aload dx_86_40 rfl ?_
          refine at_getR dx_86_41 hc rfl (cl_t5 hc) ?_
          refine at_callVI dx_86_42 rfl lc_0 rfl (x_isPossible (mp_c h0.1 (by omega)) (cl_c4 hc) (by omega) (by omega) (by omega) i36) ?_
          rintro x42 M42 r42 ⟨f42, i42, b42, w42, wt⟩
          have w0 : x42 = 1 := w42.mpr (by rw [q36.1, q36.2.1, q36.2.2.1, q36.2.2.2]; exact ⟨n2, by rw [← n3]; exact n4⟩)
          refine at_zeqR dx_86_43 r42 (fun c43 => ?_) (fun c43 => ?_)
          · exfalso; omega
          · skip
            refine at_aload dx_86_44 rfl ?_
            refine at_getR dx_86_45 hc rfl (cl_t5 hc) ?_
            refine at_aload dx_86_46 rfl ?_
            refine at_getR dx_86_47 lc_0 rfl lt_0_9 ?_
            refine at_callVV dx_86_48 rfl (cl_c4 hc) rfl (c_become (cl_c4 hc) lc_20 (by omega) (i42 _ lc_20)) ?_
            rintro M48 ⟨f48, i48, t48⟩
            have g48 : M48 25 3 = (n : Int) + (k.toNat : Int) := (RWx_4 hc ⟨by omega, hn⟩ f48 (RWx_f hc ⟨by omega, hn⟩ f42 (RWx_29 hc ⟨by omega, hn⟩ f36 R29))).1
            refine at_aload dx_86_49 rfl ?_
            refine at_getR dx_86_50 lc_0 rfl lt_0_12 ?_
            refine at_aload dx_86_51 rfl ?_
            refine at_iload dx_86_52 rfl ?_
            refine at_const (x := 1) dx_86_53 rfl ?_
            refine at_subR dx_86_54 (by (constructor <;> omega)) (fun r54 => ?_)
            refine at_iload dx_86_55 rfl ?_
            refine at_subR dx_86_56 (by (constructor <;> omega)) (fun r56 => ?_)
            refine at_callVV dx_86_57 rfl lc_25 rfl (x_addPartner (mp_c h0.1 (by omega)) r56 (by omega)) ?_
            rintro M57 ⟨f57, y1, y2, y3, y4, y5, y6⟩
            have ez : f - 1 - k = (n : Int) - 1 - (k.toNat : Int) := by omega
            rw [ez] at y5 y6
            refine at_iincR (y := 1) dx_86_58 rfl rfl (by (constructor <;> omega)) (fun r58 => ?_)
            refine at_goto dx_86_59 ?_
            refine at_iincR (y := 1) dx_86_66 rfl rfl (by (constructor <;> omega)) (fun r66 => ?_)
            refine at_goto dx_86_67 ?_
            refine at_wk (ls := [vr 0, vr c, vi _, vi _, vi _]) ⟨Or.inl rfl, Or.inl rfl, Or.inl rfl, Or.inl rfl, Or.inl rfl, trivial⟩ ?_
            obtain ⟨F', T57, g57, R57, t57⟩ := map_one hc ⟨by omega, hn⟩ hn F T hRx hd ⟨n1, n2, n3, n4⟩ f29 s29 f36 f42 i42 (wt w0) f48 i48 t48 f57 y1 y2 y3 y4 y5 y6
            refine ih _ (by omega) _ _ _ rf r58 (by omega) rfl F' T57 g57 ?_ ?_
            · rw [show (k + 1).toNat = k.toNat + 1 by omega]; exact R57
            · rw [show (k + 1).toNat = k.toNat + 1 by omega]; exact t57
  refine at_aload dx_86_0 rfl ?_
  refine at_getI 2 dx_86_1 hc rfl rfl (fun r1 => ?_)
  refine at_aload dx_86_2 rfl ?_
  refine at_getR dx_86_3 hc rfl (cl_t3 hc) ?_
  refine at_alen dx_86_4 (cl_c1 hc) rfl (cl_n1 hc) ?_
  refine at_minR dx_86_5 rfl r1 (by decide) (fun c5 => ?_) (fun c5 => ?_)
  · skip
    refine at_istore dx_86_6 ?_
    refine at_const (x := 0) dx_86_7 rfl ?_
    refine at_istore dx_86_8 ?_
    refine at_const (x := 0) dx_86_9 rfl ?_
    refine at_istore dx_86_10 ?_
    first | exact lp _ _ 0 _ r1 (by decide) (by omega) rfl fr_rf hT hI hR hd0 | exact lp _ _ 0 _ (by decide) (by decide) (by omega) rfl fr_rf hT hI hR hd0
  · skip
    refine at_istore dx_86_6 ?_
    refine at_const (x := 0) dx_86_7 rfl ?_
    refine at_istore dx_86_8 ?_
    refine at_const (x := 0) dx_86_9 rfl ?_
    refine at_istore dx_86_10 ?_
    first | exact lp _ _ 0 _ r1 (by decide) (by omega) rfl fr_rf hT hI hR hd0 | exact lp _ _ 0 _ (by decide) (by decide) (by omega) rfl fr_rf hT hI hR hd0
