/-! ===== inverses, maps, rows of maps, the grammar: what they leave as it was ===== -/
theorem at_bitZ {X : scr} {w m i k : Nat} {ls st : List (sx_V Int)} {M : mem} {Q : Nat → sx_V Int → mem → Prop} (hk : ly_c k = 9) (K : (∀ x, 0 ≤ x → M k x = 0 ∨ M k x = 1) → At X w m i ls st M Q) : At X w m i ls st M Q := at_bits (fun hb => K (fun x hx => by
  have h := hb k x.toNat (by rw [hk]; rfl)
  rw [Int.toNat_of_nonneg hx] at h
  exact h))
set_option maxRecDepth 100000 in
set_option maxHeartbeats 4000000 in
theorem c_becomeInverse {X : scr} {M : mem} {s o : Nat} (hs : ly_c s = 4) (ho : ly_c o = 4) (hne : s ≠ o) (hT : TI M) : At X 0 27 0 [vr s, vr o] [] M (qV (fun M' => fr (blk s) M M' ∧ TI M')) := by
  have hd := st_dis hs ho hne
  have hes := st_ev hs
  have lp : ∀ (n : Nat) (nx r : Int) (M1 : mem) (rn : inR nx) (rr : inR r) (h0 : 0 ≤ r ∧ r ≤ 2) (hn : (2 - r).toNat = n) (h1 : fr (blk s) M M1) (h2 : TI M1), At X 0 27 24 [vr s, vr o, vi nx, vi r] [] M1 (qV (fun M' => fr (blk s) M M' ∧ TI M')) := by
    intro n
    induction n using Nat.strongRecOn with
    | ind n ih =>
    intro nx r M1 rn rr h0 hn h1 h2
    have lq : ∀ (n2 : Nat) (e i : Int) (M2 : mem) (re : inR e) (ri : inR i) (hr2 : r < 2) (hn2 : (e - i).toNat = n2) (k1 : fr (blk s) M M2) (k2 : TI M2), At X 0 27 49 [vr s, vr o, vi nx, vi r, vi e, vi i] [] M2 (qV (fun M' => fr (blk s) M M' ∧ TI M')) := by
      intro n2
      induction n2 using Nat.strongRecOn with
      | ind n2 ih2 =>
      intro e i M2 re ri hr2 hn2 k1 k2
      have rr2 : inR (r + 1) := by constructor <;> omega
      refine at_iload dx_27_49 rfl ?_
      refine at_iload dx_27_50 rfl ?_
      refine at_cgeR dx_27_51 ri re (fun c51 => ?_) (fun c51 => ?_)
      · skip
        refine at_iload dx_27_60 rfl ?_
        refine at_istore dx_27_61 ?_
        refine at_iincW (y := 1) dx_27_62 rfl rfl ?_
        rw [wr_R rr2]
        refine at_goto dx_27_63 ?_
        refine at_wk (ls := [vr s, vr o, vi _, vi _]) ⟨Or.inl rfl, Or.inl rfl, Or.inl rfl, Or.inl rfl, trivial⟩ ?_
        exact ih _ (by omega) _ _ _ re rr2 (by omega) rfl k1 k2
      · skip
        refine at_aload dx_27_52 rfl ?_
        refine at_aload dx_27_53 rfl ?_
        refine at_getR dx_27_54 ho rfl (st_t9 ho) ?_
        refine at_iload dx_27_55 rfl ?_
        refine at_callVI dx_27_56 rfl (st_c4 ho) rfl (c_at (st_c4 ho) ri (k2 _ (st_c4 ho))) ?_
        rintro x56 M9 r56 ⟨e9, h56⟩; replace e9 := e9.symm; subst e9
        refine at_callVV dx_27_57 rfl hs rfl (c_addPut hs r56 k2) ?_
        rintro M3 ⟨f3, g2⟩
        have g1 := fr_tr k1 f3
        refine at_iincW (y := 1) dx_27_58 rfl rfl ?_
        refine at_goto dx_27_59 ?_
        rw [wr_R (x := i + 1) (by constructor <;> omega)]
        exact ih2 _ (by omega) _ _ _ re (by constructor <;> omega) hr2 rfl g1 g2
    refine at_iload dx_27_24 rfl ?_
    refine at_aload dx_27_25 rfl ?_
    refine at_getI 5 dx_27_26 ho rfl rfl (fun r26 => ?_)
    refine at_cgeR dx_27_27 rr r26 (fun c27 => ?_) (fun c27 => ?_)
    · skip
      refine at_vretV dx_27_64 ?_
      exact ⟨h1, h2⟩
    · skip
      refine at_iload dx_27_28 rfl ?_
      refine at_const (x := 2) dx_27_29 rfl ?_
      refine at_cgeR dx_27_30 rr (by decide) (fun c30 => ?_) (fun c30 => ?_)
      · skip
        refine at_vretV dx_27_64 ?_
        exact ⟨h1, h2⟩
      · skip
        refine at_aload dx_27_31 rfl ?_
        refine at_aload dx_27_32 rfl ?_
        refine at_iload dx_27_33 rfl ?_
        refine at_callVI dx_27_34 rfl ho rfl (c_putStart ho rr) ?_
        rintro x34 M9 r34 ⟨e9, h34⟩; replace e9 := e9.symm; subst e9
        refine at_aload dx_27_35 rfl ?_
        refine at_getR dx_27_36 ho rfl (st_t8 ho) ?_
        refine at_iload dx_27_37 rfl ?_
        refine at_aldI dx_27_38 (st_c3 ho) (st_n3 ho) (by first | omega | (simp (disch := omega) only [um_eq, um_k, um_j]; omega)) (by first | omega | (simp (disch := omega) only [um_eq, um_k, um_j]; omega)) (fun r38 => ?_)
        refine at_callVV dx_27_39 rfl hs rfl (c_addRange hs r34 r38 h2) ?_
        rintro M2 ⟨f2, g2⟩
        have g1 := fr_tr h1 f2
        refine at_iload dx_27_40 rfl ?_
        refine at_aload dx_27_41 rfl ?_
        refine at_getR dx_27_42 ho rfl (st_t7 ho) ?_
        refine at_iload dx_27_43 rfl ?_
        refine at_aldI dx_27_44 (st_c2 ho) (st_n2 ho) (by first | omega | (simp (disch := omega) only [um_eq, um_k, um_j]; omega)) (by first | omega | (simp (disch := omega) only [um_eq, um_k, um_j]; omega)) (fun r44 => ?_)
        refine at_addW dx_27_45 ?_
        refine at_istore dx_27_46 ?_
        refine at_iload dx_27_47 rfl ?_
        refine at_istore dx_27_48 ?_
        exact lq _ _ _ _ (inR_wr _) rn (by omega) rfl g1 g2
  refine at_aload dx_27_0 rfl ?_
  refine at_getI 0 dx_27_1 ho rfl rfl (fun r1 => ?_)
  refine at_zeqR dx_27_2 r1 (fun c2 => ?_) (fun c2 => ?_)
  · skip
    refine at_aload dx_27_18 rfl ?_
    refine at_callVV dx_27_19 rfl hs rfl (c_becomeChange hs) ?_
    refine fun M1 hM1 => ?_
    have f1 : fr (blk s) M M1 := by rw [hM1]; (repeat (first | exact fr_rf | refine fr_ums ?_ (by (try dsimp only [blk]); first | done | omega)))
    have i1 : TI M1 := TI_fr hT f1 (fun k hk hP => by
      have hq := hT k hk
      have e1 : k ≠ s := fun e => by rw [e, hs] at hk; exact absurd hk (by decide)
      rw [hM1]; unfold tkI
      by_cases e4 : k = s + 4
      · subst e4; simp (disch := omega) only [um_eq, um_k, um_j]; omega
      · by_cases e6 : k = s + 6
        · subst e6; simp (disch := omega) only [um_eq, um_k, um_j]; omega
        · simp (disch := omega) only [um_eq, um_k, um_j]; exact hq)
    refine at_const (x := 0) dx_27_20 rfl ?_
    refine at_istore dx_27_21 ?_
    refine at_const (x := 0) dx_27_22 rfl ?_
    refine at_istore dx_27_23 ?_
    exact lp _ 0 0 _ (by decide) (by decide) (by decide) rfl f1 i1
  · skip
    refine at_aload dx_27_3 rfl ?_
    refine at_aload dx_27_4 rfl ?_
    refine at_getI 1 dx_27_5 ho rfl rfl (fun r5 => ?_)
    refine at_aload dx_27_6 rfl ?_
    refine at_getI 2 dx_27_7 ho rfl rfl (fun r7 => ?_)
    refine at_aload dx_27_8 rfl ?_
    refine at_getI 3 dx_27_9 ho rfl rfl (fun r9 => ?_)
    refine at_aload dx_27_10 rfl ?_
    refine at_getI 4 dx_27_11 ho rfl rfl (fun r11 => ?_)
    refine at_zneR dx_27_12 r11 (fun c12 => ?_) (fun c12 => ?_)
    · skip
      refine at_const (x := 0) dx_27_15 rfl ?_
      refine at_callVV dx_27_16 rfl hs rfl (c_becomeMarking hs r5 r7 r9 (Or.inl rfl) (by decide) hT) ?_
      rintro M1 ⟨f1, i1⟩
      refine at_vretV dx_27_17 ?_
      exact ⟨f1, i1⟩
    · skip
      refine at_const (x := 1) dx_27_13 rfl ?_
      refine at_goto dx_27_14 ?_
      refine at_callVV dx_27_16 rfl hs rfl (c_becomeMarking hs r5 r7 r9 (Or.inr rfl) (by decide) hT) ?_
      rintro M1 ⟨f1, i1⟩
      refine at_vretV dx_27_17 ?_
      exact ⟨f1, i1⟩

set_option maxRecDepth 100000 in
set_option maxHeartbeats 4000000 in
theorem c_carry0 {X : scr} {M : mem} {s k : Nat} (hs : ly_c s = 4) (hk : ly_c k = 3) : At X 0 29 0 [vr s, vr k, vi 0] [] M (qV (fun M' => fr (fun q => q = k) M M')) := by
  refine at_const (x := 0) dx_29_0 rfl ?_
  refine at_istore dx_29_1 ?_
  refine at_aload dx_29_2 rfl ?_
  refine at_callVV dx_29_3 rfl hk rfl (c_leaveRange hk) ?_
  intro M1 f1
  refine at_const (x := 0) dx_29_4 rfl ?_
  refine at_istore dx_29_5 ?_
  refine at_iload dx_29_6 rfl ?_
  refine at_aload dx_29_7 rfl ?_
  refine at_getI 5 dx_29_8 hs rfl rfl (fun r8 => ?_)
  refine at_cgeR dx_29_9 (by decide) r8 (fun c9 => ?_) (fun c9 => ?_)
  · skip
    refine at_aload dx_29_89 rfl ?_
    refine at_dup dx_29_90 rfl ?_
    refine at_getI 0 dx_29_91 hk rfl rfl (fun r91 => ?_)
    refine at_iload dx_29_92 rfl ?_
    refine at_addW dx_29_93 ?_
    refine at_putI 0 dx_29_94 hk rfl rfl (inR_wr _) ?_
    refine at_vretV dx_29_95 ?_
    refine fr_tr f1 ?_; (repeat (first | exact fr_rf | refine fr_ums ?_ (by (try dsimp only [blk]); first | done | omega)))
  · skip
    refine at_iload dx_29_10 rfl ?_
    refine at_const (x := 2) dx_29_11 rfl ?_
    refine at_cgeR dx_29_12 (by decide) (by decide) (fun c => absurd c (by decide)) (fun _ => ?_)
    refine at_aload dx_29_13 rfl ?_
    refine at_getR dx_29_14 hs rfl (st_t6 hs) ?_
    refine at_iload dx_29_15 rfl ?_
    refine at_aldI dx_29_16 (st_c1 hs) (st_n1 hs) (by decide) (by decide) (fun r16 => ?_)
    refine at_istore dx_29_17 ?_
    refine at_aload dx_29_18 rfl ?_
    refine at_iload dx_29_19 rfl ?_
    refine at_callVI dx_29_20 rfl hs rfl (c_putStart hs (by decide)) ?_
    rintro x20 M9 r20 ⟨e9, h20⟩; replace e9 := e9.symm; subst e9
    refine at_istore dx_29_21 ?_
    refine at_iload dx_29_22 rfl ?_
    refine at_zeqR dx_29_23 (by decide) (fun _ => ?_) (fun c => absurd c (by decide))
    refine at_iload dx_29_26 rfl ?_
    refine at_istore dx_29_27 ?_
    refine at_iload dx_29_28 rfl ?_
    refine at_zeqR dx_29_29 (by decide) (fun _ => ?_) (fun c => absurd c (by decide))
    refine at_iload dx_29_37 rfl ?_
    refine at_aload dx_29_38 rfl ?_
    refine at_getR dx_29_39 hs rfl (st_t7 hs) ?_
    refine at_iload dx_29_40 rfl ?_
    refine at_aldI dx_29_41 (st_c2 hs) (st_n2 hs) (by decide) (by decide) (fun r41 => ?_)
    refine at_addW dx_29_42 ?_
    refine at_istore dx_29_43 ?_
    refine at_iload dx_29_44 rfl ?_
    refine at_zeqR dx_29_45 (by decide) (fun _ => ?_) (fun c => absurd c (by decide))
    refine at_iload dx_29_48 rfl ?_
    refine at_istore dx_29_49 ?_
    refine at_iload dx_29_50 rfl ?_
    refine at_zeqR dx_29_51 (by decide) (fun _ => ?_) (fun c => absurd c (by decide))
    refine at_iload dx_29_59 rfl ?_
    refine at_aload dx_29_60 rfl ?_
    refine at_getR dx_29_61 hs rfl (st_t8 hs) ?_
    refine at_iload dx_29_62 rfl ?_
    refine at_aldI dx_29_63 (st_c3 hs) (st_n3 hs) (by decide) (by decide) (fun r63 => ?_)
    refine at_addW dx_29_64 ?_
    refine at_istore dx_29_65 ?_
    refine at_aload dx_29_66 rfl ?_
    refine at_getI 0 dx_29_67 hk rfl rfl (fun r67 => ?_)
    refine at_iload dx_29_68 rfl ?_
    refine at_cgeR dx_29_69 r67 r16 (fun c69 => ?_) (fun c69 => ?_)
    · skip
      refine at_aload dx_29_71 rfl ?_
      refine at_getI 0 dx_29_72 hk rfl rfl (fun r72 => ?_)
      refine at_iload dx_29_73 rfl ?_
      refine at_cgtR dx_29_74 r72 (inR_wr _) (fun c74 => ?_) (fun c74 => ?_)
      · skip
        refine at_iload dx_29_83 rfl ?_
        refine at_iload dx_29_84 rfl ?_
        refine at_subW dx_29_85 ?_
        refine at_istore dx_29_86 ?_
        refine at_iincC (y := 1) (z := 1) dx_29_87 rfl rfl (by decide +kernel) ?_
        refine at_goto dx_29_88 ?_
        refine at_iload dx_29_6 rfl ?_
        refine at_aload dx_29_7 rfl ?_
        refine at_getI 5 dx_29_8 hs rfl rfl (fun r8 => ?_)
        refine at_cgeR dx_29_9 (by decide) r8 (fun c9 => ?_) (fun c9 => ?_)
        · skip
          refine at_aload dx_29_89 rfl ?_
          refine at_dup dx_29_90 rfl ?_
          refine at_getI 0 dx_29_91 hk rfl rfl (fun r91 => ?_)
          refine at_iload dx_29_92 rfl ?_
          refine at_addW dx_29_93 ?_
          refine at_putI 0 dx_29_94 hk rfl rfl (inR_wr _) ?_
          refine at_vretV dx_29_95 ?_
          refine fr_tr f1 ?_; (repeat (first | exact fr_rf | refine fr_ums ?_ (by (try dsimp only [blk]); first | done | omega)))
        · skip
          refine at_iload dx_29_10 rfl ?_
          refine at_const (x := 2) dx_29_11 rfl ?_
          refine at_cgeR dx_29_12 (by decide) (by decide) (fun c => absurd c (by decide)) (fun _ => ?_)
          refine at_aload dx_29_13 rfl ?_
          refine at_getR dx_29_14 hs rfl (st_t6 hs) ?_
          refine at_iload dx_29_15 rfl ?_
          refine at_aldI dx_29_16 (st_c1 hs) (st_n1 hs) (by decide) (by decide) (fun r16 => ?_)
          refine at_istore dx_29_17 ?_
          refine at_aload dx_29_18 rfl ?_
          refine at_iload dx_29_19 rfl ?_
          refine at_callVI dx_29_20 rfl hs rfl (c_putStart hs (by decide)) ?_
          rintro x20 M9 r20 ⟨e9, h20⟩; replace e9 := e9.symm; subst e9
          refine at_istore dx_29_21 ?_
          refine at_iload dx_29_22 rfl ?_
          refine at_zeqR dx_29_23 (by decide) (fun _ => ?_) (fun c => absurd c (by decide))
          refine at_iload dx_29_26 rfl ?_
          refine at_istore dx_29_27 ?_
          refine at_iload dx_29_28 rfl ?_
          refine at_zeqR dx_29_29 (by decide) (fun _ => ?_) (fun c => absurd c (by decide))
          refine at_iload dx_29_37 rfl ?_
          refine at_aload dx_29_38 rfl ?_
          refine at_getR dx_29_39 hs rfl (st_t7 hs) ?_
          refine at_iload dx_29_40 rfl ?_
          refine at_aldI dx_29_41 (st_c2 hs) (st_n2 hs) (by decide) (by decide) (fun r41 => ?_)
          refine at_addW dx_29_42 ?_
          refine at_istore dx_29_43 ?_
          refine at_iload dx_29_44 rfl ?_
          refine at_zeqR dx_29_45 (by decide) (fun _ => ?_) (fun c => absurd c (by decide))
          refine at_iload dx_29_48 rfl ?_
          refine at_istore dx_29_49 ?_
          refine at_iload dx_29_50 rfl ?_
          refine at_zeqR dx_29_51 (by decide) (fun _ => ?_) (fun c => absurd c (by decide))
          refine at_iload dx_29_59 rfl ?_
          refine at_aload dx_29_60 rfl ?_
          refine at_getR dx_29_61 hs rfl (st_t8 hs) ?_
          refine at_iload dx_29_62 rfl ?_
          refine at_aldI dx_29_63 (st_c3 hs) (st_n3 hs) (by decide) (by decide) (fun r63 => ?_)
          refine at_addW dx_29_64 ?_
          refine at_istore dx_29_65 ?_
          refine at_aload dx_29_66 rfl ?_
          refine at_getI 0 dx_29_67 hk rfl rfl (fun r67 => ?_)
          refine at_iload dx_29_68 rfl ?_
          refine at_cgeR dx_29_69 r67 r16 (fun c69 => ?_) (fun c69 => ?_)
          · skip
            refine at_aload dx_29_71 rfl ?_
            refine at_getI 0 dx_29_72 hk rfl rfl (fun r72 => ?_)
            refine at_iload dx_29_73 rfl ?_
            refine at_cgtR dx_29_74 r72 (inR_wr _) (fun c74 => ?_) (fun c74 => ?_)
            · skip
              refine at_iload dx_29_83 rfl ?_
              refine at_iload dx_29_84 rfl ?_
              refine at_subW dx_29_85 ?_
              refine at_istore dx_29_86 ?_
              refine at_iincC (y := 1) (z := 2) dx_29_87 rfl rfl (by decide +kernel) ?_
              refine at_goto dx_29_88 ?_
              refine at_iload dx_29_6 rfl ?_
              refine at_aload dx_29_7 rfl ?_
              refine at_getI 5 dx_29_8 hs rfl rfl (fun r8 => ?_)
              refine at_cgeR dx_29_9 (by decide) r8 (fun c9 => ?_) (fun c9 => ?_)
              · skip
                refine at_aload dx_29_89 rfl ?_
                refine at_dup dx_29_90 rfl ?_
                refine at_getI 0 dx_29_91 hk rfl rfl (fun r91 => ?_)
                refine at_iload dx_29_92 rfl ?_
                refine at_addW dx_29_93 ?_
                refine at_putI 0 dx_29_94 hk rfl rfl (inR_wr _) ?_
                refine at_vretV dx_29_95 ?_
                refine fr_tr f1 ?_; (repeat (first | exact fr_rf | refine fr_ums ?_ (by (try dsimp only [blk]); first | done | omega)))
              · skip
                refine at_iload dx_29_10 rfl ?_
                refine at_const (x := 2) dx_29_11 rfl ?_
                refine at_cgeR dx_29_12 (by decide) (by decide) (fun _ => ?_) (fun c => absurd c (by decide))
                refine at_aload dx_29_89 rfl ?_
                refine at_dup dx_29_90 rfl ?_
                refine at_getI 0 dx_29_91 hk rfl rfl (fun r91 => ?_)
                refine at_iload dx_29_92 rfl ?_
                refine at_addW dx_29_93 ?_
                refine at_putI 0 dx_29_94 hk rfl rfl (inR_wr _) ?_
                refine at_vretV dx_29_95 ?_
                refine fr_tr f1 ?_; (repeat (first | exact fr_rf | refine fr_ums ?_ (by (try dsimp only [blk]); first | done | omega)))
            · skip
              refine at_aload dx_29_75 rfl ?_
              refine at_iload dx_29_76 rfl ?_
              refine at_iload dx_29_77 rfl ?_
              refine at_iload dx_29_78 rfl ?_
              refine at_iload dx_29_79 rfl ?_
              refine at_iload dx_29_80 rfl ?_
              refine at_callVV dx_29_81 rfl hk rfl (c_enterRange hk (by decide) r16 (inR_wr _) r20 (inR_wr _)) ?_
              intro M2 f2
              refine at_vretV dx_29_82 ?_
              exact fr_tr f1 f2
          · skip
            refine at_goto dx_29_70 ?_
            refine at_aload dx_29_89 rfl ?_
            refine at_dup dx_29_90 rfl ?_
            refine at_getI 0 dx_29_91 hk rfl rfl (fun r91 => ?_)
            refine at_iload dx_29_92 rfl ?_
            refine at_addW dx_29_93 ?_
            refine at_putI 0 dx_29_94 hk rfl rfl (inR_wr _) ?_
            refine at_vretV dx_29_95 ?_
            refine fr_tr f1 ?_; (repeat (first | exact fr_rf | refine fr_ums ?_ (by (try dsimp only [blk]); first | done | omega)))
      · skip
        refine at_aload dx_29_75 rfl ?_
        refine at_iload dx_29_76 rfl ?_
        refine at_iload dx_29_77 rfl ?_
        refine at_iload dx_29_78 rfl ?_
        refine at_iload dx_29_79 rfl ?_
        refine at_iload dx_29_80 rfl ?_
        refine at_callVV dx_29_81 rfl hk rfl (c_enterRange hk (by decide) r16 (inR_wr _) r20 (inR_wr _)) ?_
        intro M2 f2
        refine at_vretV dx_29_82 ?_
        exact fr_tr f1 f2
    · skip
      refine at_goto dx_29_70 ?_
      refine at_aload dx_29_89 rfl ?_
      refine at_dup dx_29_90 rfl ?_
      refine at_getI 0 dx_29_91 hk rfl rfl (fun r91 => ?_)
      refine at_iload dx_29_92 rfl ?_
      refine at_addW dx_29_93 ?_
      refine at_putI 0 dx_29_94 hk rfl rfl (inR_wr _) ?_
      refine at_vretV dx_29_95 ?_
      refine fr_tr f1 ?_; (repeat (first | exact fr_rf | refine fr_ums ?_ (by (try dsimp only [blk]); first | done | omega)))

set_option maxRecDepth 100000 in
set_option maxHeartbeats 4000000 in
theorem c_carry1 {X : scr} {M : mem} {s k : Nat} (hs : ly_c s = 4) (hk : ly_c k = 3) : At X 0 29 0 [vr s, vr k, vi 1] [] M (qV (fun M' => fr (fun q => q = k) M M')) := by
  refine at_const (x := 0) dx_29_0 rfl ?_
  refine at_istore dx_29_1 ?_
  refine at_aload dx_29_2 rfl ?_
  refine at_callVV dx_29_3 rfl hk rfl (c_leaveRange hk) ?_
  intro M1 f1
  refine at_const (x := 0) dx_29_4 rfl ?_
  refine at_istore dx_29_5 ?_
  refine at_iload dx_29_6 rfl ?_
  refine at_aload dx_29_7 rfl ?_
  refine at_getI 5 dx_29_8 hs rfl rfl (fun r8 => ?_)
  refine at_cgeR dx_29_9 (by decide) r8 (fun c9 => ?_) (fun c9 => ?_)
  · skip
    refine at_aload dx_29_89 rfl ?_
    refine at_dup dx_29_90 rfl ?_
    refine at_getI 0 dx_29_91 hk rfl rfl (fun r91 => ?_)
    refine at_iload dx_29_92 rfl ?_
    refine at_addW dx_29_93 ?_
    refine at_putI 0 dx_29_94 hk rfl rfl (inR_wr _) ?_
    refine at_vretV dx_29_95 ?_
    refine fr_tr f1 ?_; (repeat (first | exact fr_rf | refine fr_ums ?_ (by (try dsimp only [blk]); first | done | omega)))
  · skip
    refine at_iload dx_29_10 rfl ?_
    refine at_const (x := 2) dx_29_11 rfl ?_
    refine at_cgeR dx_29_12 (by decide) (by decide) (fun c => absurd c (by decide)) (fun _ => ?_)
    refine at_aload dx_29_13 rfl ?_
    refine at_getR dx_29_14 hs rfl (st_t6 hs) ?_
    refine at_iload dx_29_15 rfl ?_
    refine at_aldI dx_29_16 (st_c1 hs) (st_n1 hs) (by decide) (by decide) (fun r16 => ?_)
    refine at_istore dx_29_17 ?_
    refine at_aload dx_29_18 rfl ?_
    refine at_iload dx_29_19 rfl ?_
    refine at_callVI dx_29_20 rfl hs rfl (c_putStart hs (by decide)) ?_
    rintro x20 M9 r20 ⟨e9, h20⟩; replace e9 := e9.symm; subst e9
    refine at_istore dx_29_21 ?_
    refine at_iload dx_29_22 rfl ?_
    refine at_zeqR dx_29_23 (by decide) (fun c => absurd c (by decide)) (fun _ => ?_)
    refine at_iload dx_29_24 rfl ?_
    refine at_goto dx_29_25 ?_
    refine at_istore dx_29_27 ?_
    refine at_iload dx_29_28 rfl ?_
    refine at_zeqR dx_29_29 (by decide) (fun c => absurd c (by decide)) (fun _ => ?_)
    refine at_iload dx_29_30 rfl ?_
    refine at_aload dx_29_31 rfl ?_
    refine at_getR dx_29_32 hs rfl (st_t8 hs) ?_
    refine at_iload dx_29_33 rfl ?_
    refine at_aldI dx_29_34 (st_c3 hs) (st_n3 hs) (by decide) (by decide) (fun r34 => ?_)
    refine at_addW dx_29_35 ?_
    refine at_goto dx_29_36 ?_
    refine at_istore dx_29_43 ?_
    refine at_iload dx_29_44 rfl ?_
    refine at_zeqR dx_29_45 (by decide) (fun c => absurd c (by decide)) (fun _ => ?_)
    refine at_iload dx_29_46 rfl ?_
    refine at_goto dx_29_47 ?_
    refine at_istore dx_29_49 ?_
    refine at_iload dx_29_50 rfl ?_
    refine at_zeqR dx_29_51 (by decide) (fun c => absurd c (by decide)) (fun _ => ?_)
    refine at_iload dx_29_52 rfl ?_
    refine at_aload dx_29_53 rfl ?_
    refine at_getR dx_29_54 hs rfl (st_t7 hs) ?_
    refine at_iload dx_29_55 rfl ?_
    refine at_aldI dx_29_56 (st_c2 hs) (st_n2 hs) (by decide) (by decide) (fun r56 => ?_)
    refine at_addW dx_29_57 ?_
    refine at_goto dx_29_58 ?_
    refine at_istore dx_29_65 ?_
    refine at_aload dx_29_66 rfl ?_
    refine at_getI 0 dx_29_67 hk rfl rfl (fun r67 => ?_)
    refine at_iload dx_29_68 rfl ?_
    refine at_cgeR dx_29_69 r67 r20 (fun c69 => ?_) (fun c69 => ?_)
    · skip
      refine at_aload dx_29_71 rfl ?_
      refine at_getI 0 dx_29_72 hk rfl rfl (fun r72 => ?_)
      refine at_iload dx_29_73 rfl ?_
      refine at_cgtR dx_29_74 r72 (inR_wr _) (fun c74 => ?_) (fun c74 => ?_)
      · skip
        refine at_iload dx_29_83 rfl ?_
        refine at_iload dx_29_84 rfl ?_
        refine at_subW dx_29_85 ?_
        refine at_istore dx_29_86 ?_
        refine at_iincC (y := 1) (z := 1) dx_29_87 rfl rfl (by decide +kernel) ?_
        refine at_goto dx_29_88 ?_
        refine at_iload dx_29_6 rfl ?_
        refine at_aload dx_29_7 rfl ?_
        refine at_getI 5 dx_29_8 hs rfl rfl (fun r8 => ?_)
        refine at_cgeR dx_29_9 (by decide) r8 (fun c9 => ?_) (fun c9 => ?_)
        · skip
          refine at_aload dx_29_89 rfl ?_
          refine at_dup dx_29_90 rfl ?_
          refine at_getI 0 dx_29_91 hk rfl rfl (fun r91 => ?_)
          refine at_iload dx_29_92 rfl ?_
          refine at_addW dx_29_93 ?_
          refine at_putI 0 dx_29_94 hk rfl rfl (inR_wr _) ?_
          refine at_vretV dx_29_95 ?_
          refine fr_tr f1 ?_; (repeat (first | exact fr_rf | refine fr_ums ?_ (by (try dsimp only [blk]); first | done | omega)))
        · skip
          refine at_iload dx_29_10 rfl ?_
          refine at_const (x := 2) dx_29_11 rfl ?_
          refine at_cgeR dx_29_12 (by decide) (by decide) (fun c => absurd c (by decide)) (fun _ => ?_)
          refine at_aload dx_29_13 rfl ?_
          refine at_getR dx_29_14 hs rfl (st_t6 hs) ?_
          refine at_iload dx_29_15 rfl ?_
          refine at_aldI dx_29_16 (st_c1 hs) (st_n1 hs) (by decide) (by decide) (fun r16 => ?_)
          refine at_istore dx_29_17 ?_
          refine at_aload dx_29_18 rfl ?_
          refine at_iload dx_29_19 rfl ?_
          refine at_callVI dx_29_20 rfl hs rfl (c_putStart hs (by decide)) ?_
          rintro x20 M9 r20 ⟨e9, h20⟩; replace e9 := e9.symm; subst e9
          refine at_istore dx_29_21 ?_
          refine at_iload dx_29_22 rfl ?_
          refine at_zeqR dx_29_23 (by decide) (fun c => absurd c (by decide)) (fun _ => ?_)
          refine at_iload dx_29_24 rfl ?_
          refine at_goto dx_29_25 ?_
          refine at_istore dx_29_27 ?_
          refine at_iload dx_29_28 rfl ?_
          refine at_zeqR dx_29_29 (by decide) (fun c => absurd c (by decide)) (fun _ => ?_)
          refine at_iload dx_29_30 rfl ?_
          refine at_aload dx_29_31 rfl ?_
          refine at_getR dx_29_32 hs rfl (st_t8 hs) ?_
          refine at_iload dx_29_33 rfl ?_
          refine at_aldI dx_29_34 (st_c3 hs) (st_n3 hs) (by decide) (by decide) (fun r34 => ?_)
          refine at_addW dx_29_35 ?_
          refine at_goto dx_29_36 ?_
          refine at_istore dx_29_43 ?_
          refine at_iload dx_29_44 rfl ?_
          refine at_zeqR dx_29_45 (by decide) (fun c => absurd c (by decide)) (fun _ => ?_)
          refine at_iload dx_29_46 rfl ?_
          refine at_goto dx_29_47 ?_
          refine at_istore dx_29_49 ?_
          refine at_iload dx_29_50 rfl ?_
          refine at_zeqR dx_29_51 (by decide) (fun c => absurd c (by decide)) (fun _ => ?_)
          refine at_iload dx_29_52 rfl ?_
          refine at_aload dx_29_53 rfl ?_
          refine at_getR dx_29_54 hs rfl (st_t7 hs) ?_
          refine at_iload dx_29_55 rfl ?_
          refine at_aldI dx_29_56 (st_c2 hs) (st_n2 hs) (by decide) (by decide) (fun r56 => ?_)
          refine at_addW dx_29_57 ?_
          refine at_goto dx_29_58 ?_
          refine at_istore dx_29_65 ?_
          refine at_aload dx_29_66 rfl ?_
          refine at_getI 0 dx_29_67 hk rfl rfl (fun r67 => ?_)
          refine at_iload dx_29_68 rfl ?_
          refine at_cgeR dx_29_69 r67 r20 (fun c69 => ?_) (fun c69 => ?_)
          · skip
            refine at_aload dx_29_71 rfl ?_
            refine at_getI 0 dx_29_72 hk rfl rfl (fun r72 => ?_)
            refine at_iload dx_29_73 rfl ?_
            refine at_cgtR dx_29_74 r72 (inR_wr _) (fun c74 => ?_) (fun c74 => ?_)
            · skip
              refine at_iload dx_29_83 rfl ?_
              refine at_iload dx_29_84 rfl ?_
              refine at_subW dx_29_85 ?_
              refine at_istore dx_29_86 ?_
              refine at_iincC (y := 1) (z := 2) dx_29_87 rfl rfl (by decide +kernel) ?_
              refine at_goto dx_29_88 ?_
              refine at_iload dx_29_6 rfl ?_
              refine at_aload dx_29_7 rfl ?_
              refine at_getI 5 dx_29_8 hs rfl rfl (fun r8 => ?_)
              refine at_cgeR dx_29_9 (by decide) r8 (fun c9 => ?_) (fun c9 => ?_)
              · skip
                refine at_aload dx_29_89 rfl ?_
                refine at_dup dx_29_90 rfl ?_
                refine at_getI 0 dx_29_91 hk rfl rfl (fun r91 => ?_)
                refine at_iload dx_29_92 rfl ?_
                refine at_addW dx_29_93 ?_
                refine at_putI 0 dx_29_94 hk rfl rfl (inR_wr _) ?_
                refine at_vretV dx_29_95 ?_
                refine fr_tr f1 ?_; (repeat (first | exact fr_rf | refine fr_ums ?_ (by (try dsimp only [blk]); first | done | omega)))
              · skip
                refine at_iload dx_29_10 rfl ?_
                refine at_const (x := 2) dx_29_11 rfl ?_
                refine at_cgeR dx_29_12 (by decide) (by decide) (fun _ => ?_) (fun c => absurd c (by decide))
                refine at_aload dx_29_89 rfl ?_
                refine at_dup dx_29_90 rfl ?_
                refine at_getI 0 dx_29_91 hk rfl rfl (fun r91 => ?_)
                refine at_iload dx_29_92 rfl ?_
                refine at_addW dx_29_93 ?_
                refine at_putI 0 dx_29_94 hk rfl rfl (inR_wr _) ?_
                refine at_vretV dx_29_95 ?_
                refine fr_tr f1 ?_; (repeat (first | exact fr_rf | refine fr_ums ?_ (by (try dsimp only [blk]); first | done | omega)))
            · skip
              refine at_aload dx_29_75 rfl ?_
              refine at_iload dx_29_76 rfl ?_
              refine at_iload dx_29_77 rfl ?_
              refine at_iload dx_29_78 rfl ?_
              refine at_iload dx_29_79 rfl ?_
              refine at_iload dx_29_80 rfl ?_
              refine at_callVV dx_29_81 rfl hk rfl (c_enterRange hk (by decide) r20 (inR_wr _) r16 (inR_wr _)) ?_
              intro M2 f2
              refine at_vretV dx_29_82 ?_
              exact fr_tr f1 f2
          · skip
            refine at_goto dx_29_70 ?_
            refine at_aload dx_29_89 rfl ?_
            refine at_dup dx_29_90 rfl ?_
            refine at_getI 0 dx_29_91 hk rfl rfl (fun r91 => ?_)
            refine at_iload dx_29_92 rfl ?_
            refine at_addW dx_29_93 ?_
            refine at_putI 0 dx_29_94 hk rfl rfl (inR_wr _) ?_
            refine at_vretV dx_29_95 ?_
            refine fr_tr f1 ?_; (repeat (first | exact fr_rf | refine fr_ums ?_ (by (try dsimp only [blk]); first | done | omega)))
      · skip
        refine at_aload dx_29_75 rfl ?_
        refine at_iload dx_29_76 rfl ?_
        refine at_iload dx_29_77 rfl ?_
        refine at_iload dx_29_78 rfl ?_
        refine at_iload dx_29_79 rfl ?_
        refine at_iload dx_29_80 rfl ?_
        refine at_callVV dx_29_81 rfl hk rfl (c_enterRange hk (by decide) r20 (inR_wr _) r16 (inR_wr _)) ?_
        intro M2 f2
        refine at_vretV dx_29_82 ?_
        exact fr_tr f1 f2
    · skip
      refine at_goto dx_29_70 ?_
      refine at_aload dx_29_89 rfl ?_
      refine at_dup dx_29_90 rfl ?_
      refine at_getI 0 dx_29_91 hk rfl rfl (fun r91 => ?_)
      refine at_iload dx_29_92 rfl ?_
      refine at_addW dx_29_93 ?_
      refine at_putI 0 dx_29_94 hk rfl rfl (inR_wr _) ?_
      refine at_vretV dx_29_95 ?_
      refine fr_tr f1 ?_; (repeat (first | exact fr_rf | refine fr_ums ?_ (by (try dsimp only [blk]); first | done | omega)))

theorem c_carry {X : scr} {M : mem} {s k : Nat} {z : Int} (hs : ly_c s = 4) (hk : ly_c k = 3) (hz : z = 0 ∨ z = 1) : At X 0 29 0 [vr s, vr k, vi z] [] M (qV (fun M' => fr (fun q => q = k) M M')) := by
  rcases hz with rfl | rfl
  · exact c_carry0 hs hk
  · exact c_carry1 hs hk

set_option maxRecDepth 100000 in
set_option maxHeartbeats 4000000 in
theorem c_rowClear {X : scr} {M : mem}  : At X 0 10 0 [vr 25] [] M (qV (fun M' => M' = um M 25 3 0)) := by
  refine at_aload dx_10_0 rfl ?_
  refine at_const (x := 0) dx_10_1 rfl ?_
  refine at_putI 3 dx_10_2 lc_25 rfl rfl (by decide) ?_
  refine at_vretV dx_10_3 ?_
  exact rfl

set_option maxRecDepth 100000 in
set_option maxHeartbeats 4000000 in
theorem c_carryPosition {X : scr} {M : mem} {p z f : Int} (hp : inR p) (hz : z = 0 ∨ z = 1) (rz : inR z) (hf : inR f) : At X 0 16 0 [vr 25, vi p, vi z, vi f] [] M (qI (fun x M' => fr (fun q => q = 29) M M')) := by
  have lp : ∀ (n : Nat) (i mp : Int) (M1 : mem) (ri : inR i) (rm : inR mp) (hi : 0 ≤ i) (hm : 0 ≤ mp) (hn : (80 - mp).toNat = n) (h1 : fr (fun q => q = 29) M M1), At X 0 16 11 [vr 25, vi p, vi z, vi f, vi i, vi mp] [] M1 (qI (fun x M' => fr (fun q => q = 29) M M')) := by
    intro n
    induction n using Nat.strongRecOn with
    | ind n ih =>
    intro i mp M1 ri rm hi hm hn h1
    refine at_iload dx_16_11 rfl ?_
    refine at_const (x := 80) dx_16_12 rfl ?_
    refine at_cgeR dx_16_13 rm (by decide) (fun c13 => ?_) (fun c13 => ?_)
    · skip
      refine at_aload dx_16_92 rfl ?_
      refine at_getR dx_16_93 lc_25 rfl lt_25_4 ?_
      refine at_getI 0 dx_16_94 lc_29 rfl rfl (fun r94 => ?_)
      refine at_iretI dx_16_95 r94 ?_
      exact h1
    · skip
      refine at_iload dx_16_14 rfl ?_
      refine at_aload dx_16_15 rfl ?_
      refine at_getI 3 dx_16_16 lc_25 rfl rfl (fun r16 => ?_)
      refine at_cgeR dx_16_17 ri r16 (fun c17 => ?_) (fun c17 => ?_)
      · skip
        refine at_aload dx_16_92 rfl ?_
        refine at_getR dx_16_93 lc_25 rfl lt_25_4 ?_
        refine at_getI 0 dx_16_94 lc_29 rfl rfl (fun r94 => ?_)
        refine at_iretI dx_16_95 r94 ?_
        exact h1
      · skip
        refine at_iload dx_16_18 rfl ?_
        refine at_const (x := 80) dx_16_19 rfl ?_
        refine at_cgeR dx_16_20 ri (by decide) (fun c20 => ?_) (fun c20 => ?_)
        · skip
          refine at_aload dx_16_92 rfl ?_
          refine at_getR dx_16_93 lc_25 rfl lt_25_4 ?_
          refine at_getI 0 dx_16_94 lc_29 rfl rfl (fun r94 => ?_)
          refine at_iretI dx_16_95 r94 ?_
          exact h1
        · skip
          refine at_iload dx_16_21 rfl ?_
          refine at_const (x := 1) dx_16_22 rfl ?_
          refine at_addR dx_16_23 (by constructor <;> omega) (fun r23 => ?_)
          refine at_istore dx_16_24 ?_
          refine at_aload dx_16_25 rfl ?_
          refine at_getR dx_16_26 lc_25 rfl lt_25_0 ?_
          refine at_iload dx_16_27 rfl ?_
          refine at_aldD dx_16_28 lc_26 ln_26 (by first | omega | (simp (disch := omega) only [um_eq, um_k, um_j]; omega)) (by first | omega | (simp (disch := omega) only [um_eq, um_k, um_j]; omega)) (fun c28 => ?_) (fun c28 e28 => ?_)
          · skip
            refine at_astore0 dx_16_29 ?_
            refine at_aload0 dx_16_30 rfl ?_
            refine at_nullY dx_16_31 ?_
            refine at_iload dx_16_88 rfl ?_
            refine at_istore dx_16_89 ?_
            refine at_iincR (y := 1) dx_16_90 rfl rfl (by constructor <;> omega) (fun r90 => ?_)
            refine at_goto dx_16_91 ?_
            refine at_wk (ls := [vr 25, vi _, vi _, vi _, vi _, vi _]) ⟨Or.inl rfl, Or.inl rfl, Or.inl rfl, Or.inl rfl, Or.inl rfl, Or.inl rfl, trivial⟩ ?_
            first | exact ih _ (by omega) _ _ _ r23 r90 (by omega) (by omega) rfl (by first | exact h1 | exact h2 | exact fr_ums h2 rfl) | exact ih _ (by omega) _ _ _ r77 r90 (by omega) (by omega) rfl (by first | exact h1 | exact h2 | exact fr_ums h2 rfl)
          · skip
            refine at_astore dx_16_29 ?_
            refine at_aload dx_16_30 rfl ?_
            refine at_nullN dx_16_31 ?_
            refine at_aload dx_16_32 rfl ?_
            refine at_aload dx_16_33 rfl ?_
            refine at_getR dx_16_34 lc_25 rfl lt_25_4 ?_
            refine at_aload dx_16_35 rfl ?_
            refine at_getR dx_16_36 lc_25 rfl lt_25_1 ?_
            refine at_iload dx_16_37 rfl ?_
            refine at_aldZ dx_16_38 lc_27 ln_27 (by first | omega | (simp (disch := omega) only [um_eq, um_k, um_j]; omega)) (by first | omega | (simp (disch := omega) only [um_eq, um_k, um_j]; omega)) (fun r38 => ?_)
            refine at_bitZ lc_27 (fun hb => ?_)
            refine at_callVV dx_16_39 rfl e28 rfl (c_carry e28 lc_29 (hb i hi)) ?_
            intro M2 f2
            have h2 := fr_tr h1 f2
            refine at_aload dx_16_40 rfl ?_
            refine at_getR dx_16_41 lc_25 rfl lt_25_2 ?_
            refine at_iload dx_16_42 rfl ?_
            refine at_aldI dx_16_43 lc_28 ln_28 (by first | omega | (simp (disch := omega) only [um_eq, um_k, um_j]; omega)) (by first | omega | (simp (disch := omega) only [um_eq, um_k, um_j]; omega)) (fun r43 => ?_)
            refine at_istore dx_16_44 ?_
            refine at_iload dx_16_45 rfl ?_
            refine at_zltR dx_16_46 r43 (fun c46 => ?_) (fun c46 => ?_)
            · skip
              refine at_null dx_16_55 ?_
              refine at_astore0 dx_16_56 ?_
              refine at_aload dx_16_57 rfl ?_
              refine at_getR dx_16_58 lc_25 rfl lt_25_4 ?_
              refine at_getI 6 dx_16_59 lc_29 rfl rfl (fun r59 => ?_)
              refine at_zeqR dx_16_60 r59 (fun c60 => ?_) (fun c60 => ?_)
              · skip
                refine at_aload dx_16_80 rfl ?_
                refine at_getR dx_16_81 lc_25 rfl lt_25_4 ?_
                refine at_getI 5 dx_16_82 lc_29 rfl rfl (fun r82 => ?_)
                refine at_zeqR dx_16_83 r82 (fun c83 => ?_) (fun c83 => ?_)
                · skip
                  refine at_iload dx_16_88 rfl ?_
                  refine at_istore dx_16_89 ?_
                  refine at_iincR (y := 1) dx_16_90 rfl rfl (by constructor <;> omega) (fun r90 => ?_)
                  refine at_goto dx_16_91 ?_
                  refine at_wk (ls := [vr 25, vi _, vi _, vi _, vi _, vi _]) ⟨Or.inl rfl, Or.inl rfl, Or.inl rfl, Or.inl rfl, Or.inl rfl, Or.inl rfl, trivial⟩ ?_
                  first | exact ih _ (by omega) _ _ _ r23 r90 (by omega) (by omega) rfl (by first | exact h1 | exact h2 | exact fr_ums h2 rfl) | exact ih _ (by omega) _ _ _ r77 r90 (by omega) (by omega) rfl (by first | exact h1 | exact h2 | exact fr_ums h2 rfl)
                · skip
                  refine at_aload dx_16_84 rfl ?_
                  refine at_getR dx_16_85 lc_25 rfl lt_25_4 ?_
                  refine at_const (x := 1) dx_16_86 rfl ?_
                  refine at_putZ 2 dx_16_87 lc_29 rfl rfl (Or.inr rfl) ?_
                  refine at_iload dx_16_88 rfl ?_
                  refine at_istore dx_16_89 ?_
                  refine at_iincR (y := 1) dx_16_90 rfl rfl (by constructor <;> omega) (fun r90 => ?_)
                  refine at_goto dx_16_91 ?_
                  refine at_wk (ls := [vr 25, vi _, vi _, vi _, vi _, vi _]) ⟨Or.inl rfl, Or.inl rfl, Or.inl rfl, Or.inl rfl, Or.inl rfl, Or.inl rfl, trivial⟩ ?_
                  first | exact ih _ (by omega) _ _ _ r23 r90 (by omega) (by omega) rfl (by first | exact h1 | exact h2 | exact fr_ums h2 rfl) | exact ih _ (by omega) _ _ _ r77 r90 (by omega) (by omega) rfl (by first | exact h1 | exact h2 | exact fr_ums h2 rfl)
              · skip
                refine at_aload0 dx_16_61 rfl ?_
                refine at_nullY dx_16_62 ?_
                refine at_aload dx_16_80 rfl ?_
                refine at_getR dx_16_81 lc_25 rfl lt_25_4 ?_
                refine at_getI 5 dx_16_82 lc_29 rfl rfl (fun r82 => ?_)
                refine at_zeqR dx_16_83 r82 (fun c83 => ?_) (fun c83 => ?_)
                · skip
                  refine at_iload dx_16_88 rfl ?_
                  refine at_istore dx_16_89 ?_
                  refine at_iincR (y := 1) dx_16_90 rfl rfl (by constructor <;> omega) (fun r90 => ?_)
                  refine at_goto dx_16_91 ?_
                  refine at_wk (ls := [vr 25, vi _, vi _, vi _, vi _, vi _]) ⟨Or.inl rfl, Or.inl rfl, Or.inl rfl, Or.inl rfl, Or.inl rfl, Or.inl rfl, trivial⟩ ?_
                  first | exact ih _ (by omega) _ _ _ r23 r90 (by omega) (by omega) rfl (by first | exact h1 | exact h2 | exact fr_ums h2 rfl) | exact ih _ (by omega) _ _ _ r77 r90 (by omega) (by omega) rfl (by first | exact h1 | exact h2 | exact fr_ums h2 rfl)
                · skip
                  refine at_aload dx_16_84 rfl ?_
                  refine at_getR dx_16_85 lc_25 rfl lt_25_4 ?_
                  refine at_const (x := 1) dx_16_86 rfl ?_
                  refine at_putZ 2 dx_16_87 lc_29 rfl rfl (Or.inr rfl) ?_
                  refine at_iload dx_16_88 rfl ?_
                  refine at_istore dx_16_89 ?_
                  refine at_iincR (y := 1) dx_16_90 rfl rfl (by constructor <;> omega) (fun r90 => ?_)
                  refine at_goto dx_16_91 ?_
                  refine at_wk (ls := [vr 25, vi _, vi _, vi _, vi _, vi _]) ⟨Or.inl rfl, Or.inl rfl, Or.inl rfl, Or.inl rfl, Or.inl rfl, Or.inl rfl, trivial⟩ ?_
                  first | exact ih _ (by omega) _ _ _ r23 r90 (by omega) (by omega) rfl (by first | exact h1 | exact h2 | exact fr_ums h2 rfl) | exact ih _ (by omega) _ _ _ r77 r90 (by omega) (by omega) rfl (by first | exact h1 | exact h2 | exact fr_ums h2 rfl)
            · skip
              refine at_iload dx_16_47 rfl ?_
              refine at_const (x := 80) dx_16_48 rfl ?_
              refine at_cgeR dx_16_49 r43 (by decide) (fun c49 => ?_) (fun c49 => ?_)
              · skip
                refine at_null dx_16_55 ?_
                refine at_astore0 dx_16_56 ?_
                refine at_aload dx_16_57 rfl ?_
                refine at_getR dx_16_58 lc_25 rfl lt_25_4 ?_
                refine at_getI 6 dx_16_59 lc_29 rfl rfl (fun r59 => ?_)
                refine at_zeqR dx_16_60 r59 (fun c60 => ?_) (fun c60 => ?_)
                · skip
                  refine at_aload dx_16_80 rfl ?_
                  refine at_getR dx_16_81 lc_25 rfl lt_25_4 ?_
                  refine at_getI 5 dx_16_82 lc_29 rfl rfl (fun r82 => ?_)
                  refine at_zeqR dx_16_83 r82 (fun c83 => ?_) (fun c83 => ?_)
                  · skip
                    refine at_iload dx_16_88 rfl ?_
                    refine at_istore dx_16_89 ?_
                    refine at_iincR (y := 1) dx_16_90 rfl rfl (by constructor <;> omega) (fun r90 => ?_)
                    refine at_goto dx_16_91 ?_
                    refine at_wk (ls := [vr 25, vi _, vi _, vi _, vi _, vi _]) ⟨Or.inl rfl, Or.inl rfl, Or.inl rfl, Or.inl rfl, Or.inl rfl, Or.inl rfl, trivial⟩ ?_
                    first | exact ih _ (by omega) _ _ _ r23 r90 (by omega) (by omega) rfl (by first | exact h1 | exact h2 | exact fr_ums h2 rfl) | exact ih _ (by omega) _ _ _ r77 r90 (by omega) (by omega) rfl (by first | exact h1 | exact h2 | exact fr_ums h2 rfl)
                  · skip
                    refine at_aload dx_16_84 rfl ?_
                    refine at_getR dx_16_85 lc_25 rfl lt_25_4 ?_
                    refine at_const (x := 1) dx_16_86 rfl ?_
                    refine at_putZ 2 dx_16_87 lc_29 rfl rfl (Or.inr rfl) ?_
                    refine at_iload dx_16_88 rfl ?_
                    refine at_istore dx_16_89 ?_
                    refine at_iincR (y := 1) dx_16_90 rfl rfl (by constructor <;> omega) (fun r90 => ?_)
                    refine at_goto dx_16_91 ?_
                    refine at_wk (ls := [vr 25, vi _, vi _, vi _, vi _, vi _]) ⟨Or.inl rfl, Or.inl rfl, Or.inl rfl, Or.inl rfl, Or.inl rfl, Or.inl rfl, trivial⟩ ?_
                    first | exact ih _ (by omega) _ _ _ r23 r90 (by omega) (by omega) rfl (by first | exact h1 | exact h2 | exact fr_ums h2 rfl) | exact ih _ (by omega) _ _ _ r77 r90 (by omega) (by omega) rfl (by first | exact h1 | exact h2 | exact fr_ums h2 rfl)
                · skip
                  refine at_aload0 dx_16_61 rfl ?_
                  refine at_nullY dx_16_62 ?_
                  refine at_aload dx_16_80 rfl ?_
                  refine at_getR dx_16_81 lc_25 rfl lt_25_4 ?_
                  refine at_getI 5 dx_16_82 lc_29 rfl rfl (fun r82 => ?_)
                  refine at_zeqR dx_16_83 r82 (fun c83 => ?_) (fun c83 => ?_)
                  · skip
                    refine at_iload dx_16_88 rfl ?_
                    refine at_istore dx_16_89 ?_
                    refine at_iincR (y := 1) dx_16_90 rfl rfl (by constructor <;> omega) (fun r90 => ?_)
                    refine at_goto dx_16_91 ?_
                    refine at_wk (ls := [vr 25, vi _, vi _, vi _, vi _, vi _]) ⟨Or.inl rfl, Or.inl rfl, Or.inl rfl, Or.inl rfl, Or.inl rfl, Or.inl rfl, trivial⟩ ?_
                    first | exact ih _ (by omega) _ _ _ r23 r90 (by omega) (by omega) rfl (by first | exact h1 | exact h2 | exact fr_ums h2 rfl) | exact ih _ (by omega) _ _ _ r77 r90 (by omega) (by omega) rfl (by first | exact h1 | exact h2 | exact fr_ums h2 rfl)
                  · skip
                    refine at_aload dx_16_84 rfl ?_
                    refine at_getR dx_16_85 lc_25 rfl lt_25_4 ?_
                    refine at_const (x := 1) dx_16_86 rfl ?_
                    refine at_putZ 2 dx_16_87 lc_29 rfl rfl (Or.inr rfl) ?_
                    refine at_iload dx_16_88 rfl ?_
                    refine at_istore dx_16_89 ?_
                    refine at_iincR (y := 1) dx_16_90 rfl rfl (by constructor <;> omega) (fun r90 => ?_)
                    refine at_goto dx_16_91 ?_
                    refine at_wk (ls := [vr 25, vi _, vi _, vi _, vi _, vi _]) ⟨Or.inl rfl, Or.inl rfl, Or.inl rfl, Or.inl rfl, Or.inl rfl, Or.inl rfl, trivial⟩ ?_
                    first | exact ih _ (by omega) _ _ _ r23 r90 (by omega) (by omega) rfl (by first | exact h1 | exact h2 | exact fr_ums h2 rfl) | exact ih _ (by omega) _ _ _ r77 r90 (by omega) (by omega) rfl (by first | exact h1 | exact h2 | exact fr_ums h2 rfl)
              · skip
                refine at_aload dx_16_50 rfl ?_
                refine at_getR dx_16_51 lc_25 rfl lt_25_0 ?_
                refine at_iload dx_16_52 rfl ?_
                refine at_aldD dx_16_53 lc_26 ln_26 (by first | omega | (simp (disch := omega) only [um_eq, um_k, um_j]; omega)) (by first | omega | (simp (disch := omega) only [um_eq, um_k, um_j]; omega)) (fun c53 => ?_) (fun c53 e53 => ?_)
                · skip
                  refine at_goto dx_16_54 ?_
                  refine at_astore0 dx_16_56 ?_
                  refine at_aload dx_16_57 rfl ?_
                  refine at_getR dx_16_58 lc_25 rfl lt_25_4 ?_
                  refine at_getI 6 dx_16_59 lc_29 rfl rfl (fun r59 => ?_)
                  refine at_zeqR dx_16_60 r59 (fun c60 => ?_) (fun c60 => ?_)
                  · skip
                    refine at_aload dx_16_80 rfl ?_
                    refine at_getR dx_16_81 lc_25 rfl lt_25_4 ?_
                    refine at_getI 5 dx_16_82 lc_29 rfl rfl (fun r82 => ?_)
                    refine at_zeqR dx_16_83 r82 (fun c83 => ?_) (fun c83 => ?_)
                    · skip
                      refine at_iload dx_16_88 rfl ?_
                      refine at_istore dx_16_89 ?_
                      refine at_iincR (y := 1) dx_16_90 rfl rfl (by constructor <;> omega) (fun r90 => ?_)
                      refine at_goto dx_16_91 ?_
                      refine at_wk (ls := [vr 25, vi _, vi _, vi _, vi _, vi _]) ⟨Or.inl rfl, Or.inl rfl, Or.inl rfl, Or.inl rfl, Or.inl rfl, Or.inl rfl, trivial⟩ ?_
                      first | exact ih _ (by omega) _ _ _ r23 r90 (by omega) (by omega) rfl (by first | exact h1 | exact h2 | exact fr_ums h2 rfl) | exact ih _ (by omega) _ _ _ r77 r90 (by omega) (by omega) rfl (by first | exact h1 | exact h2 | exact fr_ums h2 rfl)
                    · skip
                      refine at_aload dx_16_84 rfl ?_
                      refine at_getR dx_16_85 lc_25 rfl lt_25_4 ?_
                      refine at_const (x := 1) dx_16_86 rfl ?_
                      refine at_putZ 2 dx_16_87 lc_29 rfl rfl (Or.inr rfl) ?_
                      refine at_iload dx_16_88 rfl ?_
                      refine at_istore dx_16_89 ?_
                      refine at_iincR (y := 1) dx_16_90 rfl rfl (by constructor <;> omega) (fun r90 => ?_)
                      refine at_goto dx_16_91 ?_
                      refine at_wk (ls := [vr 25, vi _, vi _, vi _, vi _, vi _]) ⟨Or.inl rfl, Or.inl rfl, Or.inl rfl, Or.inl rfl, Or.inl rfl, Or.inl rfl, trivial⟩ ?_
                      first | exact ih _ (by omega) _ _ _ r23 r90 (by omega) (by omega) rfl (by first | exact h1 | exact h2 | exact fr_ums h2 rfl) | exact ih _ (by omega) _ _ _ r77 r90 (by omega) (by omega) rfl (by first | exact h1 | exact h2 | exact fr_ums h2 rfl)
                  · skip
                    refine at_aload0 dx_16_61 rfl ?_
                    refine at_nullY dx_16_62 ?_
                    refine at_aload dx_16_80 rfl ?_
                    refine at_getR dx_16_81 lc_25 rfl lt_25_4 ?_
                    refine at_getI 5 dx_16_82 lc_29 rfl rfl (fun r82 => ?_)
                    refine at_zeqR dx_16_83 r82 (fun c83 => ?_) (fun c83 => ?_)
                    · skip
                      refine at_iload dx_16_88 rfl ?_
                      refine at_istore dx_16_89 ?_
                      refine at_iincR (y := 1) dx_16_90 rfl rfl (by constructor <;> omega) (fun r90 => ?_)
                      refine at_goto dx_16_91 ?_
                      refine at_wk (ls := [vr 25, vi _, vi _, vi _, vi _, vi _]) ⟨Or.inl rfl, Or.inl rfl, Or.inl rfl, Or.inl rfl, Or.inl rfl, Or.inl rfl, trivial⟩ ?_
                      first | exact ih _ (by omega) _ _ _ r23 r90 (by omega) (by omega) rfl (by first | exact h1 | exact h2 | exact fr_ums h2 rfl) | exact ih _ (by omega) _ _ _ r77 r90 (by omega) (by omega) rfl (by first | exact h1 | exact h2 | exact fr_ums h2 rfl)
                    · skip
                      refine at_aload dx_16_84 rfl ?_
                      refine at_getR dx_16_85 lc_25 rfl lt_25_4 ?_
                      refine at_const (x := 1) dx_16_86 rfl ?_
                      refine at_putZ 2 dx_16_87 lc_29 rfl rfl (Or.inr rfl) ?_
                      refine at_iload dx_16_88 rfl ?_
                      refine at_istore dx_16_89 ?_
                      refine at_iincR (y := 1) dx_16_90 rfl rfl (by constructor <;> omega) (fun r90 => ?_)
                      refine at_goto dx_16_91 ?_
                      refine at_wk (ls := [vr 25, vi _, vi _, vi _, vi _, vi _]) ⟨Or.inl rfl, Or.inl rfl, Or.inl rfl, Or.inl rfl, Or.inl rfl, Or.inl rfl, trivial⟩ ?_
                      first | exact ih _ (by omega) _ _ _ r23 r90 (by omega) (by omega) rfl (by first | exact h1 | exact h2 | exact fr_ums h2 rfl) | exact ih _ (by omega) _ _ _ r77 r90 (by omega) (by omega) rfl (by first | exact h1 | exact h2 | exact fr_ums h2 rfl)
                · skip
                  refine at_goto dx_16_54 ?_
                  refine at_astore dx_16_56 ?_
                  refine at_aload dx_16_57 rfl ?_
                  refine at_getR dx_16_58 lc_25 rfl lt_25_4 ?_
                  refine at_getI 6 dx_16_59 lc_29 rfl rfl (fun r59 => ?_)
                  refine at_zeqR dx_16_60 r59 (fun c60 => ?_) (fun c60 => ?_)
                  · skip
                    refine at_aload dx_16_80 rfl ?_
                    refine at_getR dx_16_81 lc_25 rfl lt_25_4 ?_
                    refine at_getI 5 dx_16_82 lc_29 rfl rfl (fun r82 => ?_)
                    refine at_zeqR dx_16_83 r82 (fun c83 => ?_) (fun c83 => ?_)
                    · skip
                      refine at_iload dx_16_88 rfl ?_
                      refine at_istore dx_16_89 ?_
                      refine at_iincR (y := 1) dx_16_90 rfl rfl (by constructor <;> omega) (fun r90 => ?_)
                      refine at_goto dx_16_91 ?_
                      refine at_wk (ls := [vr 25, vi _, vi _, vi _, vi _, vi _]) ⟨Or.inl rfl, Or.inl rfl, Or.inl rfl, Or.inl rfl, Or.inl rfl, Or.inl rfl, trivial⟩ ?_
                      first | exact ih _ (by omega) _ _ _ r23 r90 (by omega) (by omega) rfl (by first | exact h1 | exact h2 | exact fr_ums h2 rfl) | exact ih _ (by omega) _ _ _ r77 r90 (by omega) (by omega) rfl (by first | exact h1 | exact h2 | exact fr_ums h2 rfl)
                    · skip
                      refine at_aload dx_16_84 rfl ?_
                      refine at_getR dx_16_85 lc_25 rfl lt_25_4 ?_
                      refine at_const (x := 1) dx_16_86 rfl ?_
                      refine at_putZ 2 dx_16_87 lc_29 rfl rfl (Or.inr rfl) ?_
                      refine at_iload dx_16_88 rfl ?_
                      refine at_istore dx_16_89 ?_
                      refine at_iincR (y := 1) dx_16_90 rfl rfl (by constructor <;> omega) (fun r90 => ?_)
                      refine at_goto dx_16_91 ?_
                      refine at_wk (ls := [vr 25, vi _, vi _, vi _, vi _, vi _]) ⟨Or.inl rfl, Or.inl rfl, Or.inl rfl, Or.inl rfl, Or.inl rfl, Or.inl rfl, trivial⟩ ?_
                      first | exact ih _ (by omega) _ _ _ r23 r90 (by omega) (by omega) rfl (by first | exact h1 | exact h2 | exact fr_ums h2 rfl) | exact ih _ (by omega) _ _ _ r77 r90 (by omega) (by omega) rfl (by first | exact h1 | exact h2 | exact fr_ums h2 rfl)
                  · skip
                    refine at_aload dx_16_61 rfl ?_
                    refine at_nullN dx_16_62 ?_
                    refine at_aload dx_16_63 rfl ?_
                    refine at_getR dx_16_64 lc_25 rfl lt_25_4 ?_
                    refine at_aload dx_16_65 rfl ?_
                    refine at_aload dx_16_66 rfl ?_
                    refine at_getR dx_16_67 lc_25 rfl lt_25_4 ?_
                    refine at_getI 3 dx_16_68 lc_29 rfl rfl (fun r68 => ?_)
                    refine at_callVI dx_16_69 rfl e53 rfl (c_putStart e53 r68) ?_
                    rintro x69 M9 r69 ⟨e9, h69⟩; replace e9 := e9.symm; subst e9
                    refine at_aload dx_16_70 rfl ?_
                    refine at_getR dx_16_71 lc_25 rfl lt_25_4 ?_
                    refine at_getI 4 dx_16_72 lc_29 rfl rfl (fun r72 => ?_)
                    refine at_addW dx_16_73 ?_
                    refine at_putI 0 dx_16_74 lc_29 rfl rfl (inR_wr _) ?_
                    refine at_iload dx_16_75 rfl ?_
                    refine at_const (x := 1) dx_16_76 rfl ?_
                    refine at_addR dx_16_77 (by constructor <;> omega) (fun r77 => ?_)
                    refine at_istore dx_16_78 ?_
                    refine at_goto dx_16_79 ?_
                    refine at_iload dx_16_88 rfl ?_
                    refine at_istore dx_16_89 ?_
                    refine at_iincR (y := 1) dx_16_90 rfl rfl (by constructor <;> omega) (fun r90 => ?_)
                    refine at_goto dx_16_91 ?_
                    refine at_wk (ls := [vr 25, vi _, vi _, vi _, vi _, vi _]) ⟨Or.inl rfl, Or.inl rfl, Or.inl rfl, Or.inl rfl, Or.inl rfl, Or.inl rfl, trivial⟩ ?_
                    first | exact ih _ (by omega) _ _ _ r23 r90 (by omega) (by omega) rfl (by first | exact h1 | exact h2 | exact fr_ums h2 rfl) | exact ih _ (by omega) _ _ _ r77 r90 (by omega) (by omega) rfl (by first | exact h1 | exact h2 | exact fr_ums h2 rfl)
  refine at_aload dx_16_0 rfl ?_
  refine at_getR dx_16_1 lc_25 rfl lt_25_4 ?_
  refine at_iload dx_16_2 rfl ?_
  refine at_iload dx_16_3 rfl ?_
  refine at_callVV dx_16_4 rfl lc_29 rfl (c_begin lc_29 hp hz rz) ?_
  intro M1 f1
  refine at_iload dx_16_5 rfl ?_
  refine at_const (x := 0) dx_16_6 rfl ?_
  refine at_maxR dx_16_7 rfl hf (by decide) (fun c7 => ?_) (fun c7 => ?_)
  · skip
    refine at_istore dx_16_8 ?_
    refine at_const (x := 0) dx_16_9 rfl ?_
    refine at_istore dx_16_10 ?_
    first | exact lp _ _ 0 _ hf (by decide) (by omega) (by decide) rfl f1 | exact lp _ 0 0 _ (by decide) (by decide) (by decide) (by decide) rfl f1
  · skip
    refine at_istore dx_16_8 ?_
    refine at_const (x := 0) dx_16_9 rfl ?_
    refine at_istore dx_16_10 ?_
    first | exact lp _ _ 0 _ hf (by decide) (by omega) (by decide) rfl f1 | exact lp _ 0 0 _ (by decide) (by decide) (by decide) (by decide) rfl f1
