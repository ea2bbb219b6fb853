/-! ===== the reference: marks, steps done, how deep ===== -/
/-- as okW, before the lengths are looked at -/
noncomputable def okX (v : sV) (n : Int) : Prop := match v with
  | ([im, _, mb, rg, s0, s1, t0, t1, p0, p1], _) =>
    (im ≠ 0 ∧ 0 ≤ s0 ∧ s0 ≤ s1 ∧ s1 ≤ n ∧ (mb = 0 ∨ mb = 1) ∧ t0 = 0 ∧ t1 = 0 ∧ p0 = 0 ∧ p1 = 0) ∨
    (im = 0 ∧ (rg = 1 ∨ rg = 2) ∧ 0 ≤ s0 ∧ 0 ≤ t0 ∧ s0 + t0 ≤ n ∧ (0 ≤ p0 ∧ p0 ≤ 100) ∧ (0 ≤ p1 ∧ p1 ≤ 100) ∧ (rg = 1 → p1 = 0 ∧ t1 = 0 ∧ s1 = 0) ∧ (rg = 2 → s0 + t0 ≤ s1 ∧ 0 ≤ t1 ∧ s1 + t1 ≤ n))
  | _ => False
theorem okX_W {M : mem} {s n : Int} (h : okX (mv M s) n) (hl : M 861 s = 0 → n + M 867 (2 * s) + M 867 (2 * s + 1) - M 866 (2 * s) - M 866 (2 * s + 1) ≤ 60) : okW (mv M s) n := by
  unfold okX mv at h
  unfold okW mv
  dsimp only at h ⊢
  omega
theorem okX_N {M : mem} {s n : Int} (h : okX (mv M s) n) (hn : n ≤ 60) : sN M s := by
  unfold okX mv at h
  dsimp only at h
  unfold sN
  omega
theorem okW_X {v : sV} {n : Int} (h : okW v n) : okX v n := by
  unfold okW at h
  unfold okX
  split at h
  · dsimp only; omega
  · exact h.elim
theorem splF_cg {l : List Int} {f n m : Int} {g g2 : Int → Int} (h : ∀ k : Int, 0 ≤ k → k < m → g k = g2 k) : splF l f n m g = splF l f n m g2 := by
  unfold splF
  apply List.map_congr_left
  intro j _
  by_cases c1 : (j : Int) < f
  · rw [if_pos c1, if_pos c1]
  · rw [if_neg c1, if_neg c1]
    by_cases c2 : (j : Int) < f + m
    · rw [if_pos c2, if_pos c2]; exact h _ (by omega) (by omega)
    · rw [if_neg c2, if_neg c2]
theorem inR_of2 {x : Int} (h : -1000 ≤ x ∧ x ≤ 1000) : inR x := by constructor <;> omega
theorem apW_eq (M : mem) (s : Int) (l : List Int) : apW (mv M s) l = if M 861 s ≠ 0 then mkF (M 862 s) (M 863 s) (M 865 (2 * s)) (M 865 (2 * s + 1)) l
    else if M 864 s = 2 then splF (splF l (M 865 (2 * s)) (M 866 (2 * s)) (M 867 (2 * s)) (fun k => (mv M s).2.getD k.toNat 0)) (M 865 (2 * s + 1) + (M 867 (2 * s) - M 866 (2 * s))) (M 866 (2 * s + 1)) (M 867 (2 * s + 1)) (fun k => (mv M s).2.getD (M 867 (2 * s) + k).toNat 0)
    else splF l (M 865 (2 * s)) (M 866 (2 * s)) (M 867 (2 * s)) (fun k => (mv M s).2.getD k.toNat 0) := rfl

set_option maxRecDepth 100000 in
set_option maxHeartbeats 4000000 in
theorem m_marks {X : scr} {M : mem} {s : Int} (rs : inR s) (hs : 0 ≤ s ∧ s ≤ 100) (h1 : 0 ≤ M 865 (2 * s) ∧ M 865 (2 * s) ≤ M 865 (2 * s + 1) ∧ M 865 (2 * s + 1) ≤ M 856 23 ∧ M 856 23 ≤ 60) : At X 0 109 0 [vr 856, vi s] [] M (qV (fun M' => frE (fun q j => q = 877) M M' ∧ wk M' = mkF (M 862 s) (M 863 s) (M 865 (2 * s)) (M 865 (2 * s + 1)) (wk M))) := by
  have lp : ∀ (n : Nat) (k : Int) (M1 : mem) (rk : inR k) (h0 : M 865 (2 * s) ≤ k ∧ k ≤ M 865 (2 * s + 1)) (hn : (M 865 (2 * s + 1) - k).toNat = n) (F : frE (fun q j => q = 877) M M1) (hw : ∀ j : Int, M1 877 j = if M 865 (2 * s) ≤ j ∧ j < k then mkt (M 862 s) (M 863 s) (M 877 j) else M 877 j), At X 0 109 7 [vr 856, vi s, vi k] [] M1 (qV (fun M' => frE (fun q j => q = 877) M M' ∧ wk M' = mkF (M 862 s) (M 863 s) (M 865 (2 * s)) (M 865 (2 * s + 1)) (wk M))) := by
    intro n
    induction n using Nat.strongRecOn with
    | ind n ih =>
    intro k M1 rk h0 hn F hw
    have g : ∀ (q : Nat) (j : Int), q ≠ 877 → M1 q j = M q j := fun q j h => F q j h
    have gs := g 865 (2 * s + 1) (by decide)
    have gk : M1 877 k = M 877 k := by rw [hw, if_neg (by omega)]
    refine at_iload dx_109_7 rfl ?_
    refine at_aload dx_109_8 rfl ?_
    refine at_getR dx_109_9 lc_856 rfl lt_856_8 ?_
    refine at_const (x := 2) dx_109_10 rfl ?_
    refine at_iload dx_109_11 rfl ?_
    refine at_mulR dx_109_12 (by constructor <;> omega) (fun r12 => ?_)
    refine at_const (x := 1) dx_109_13 rfl ?_
    refine at_addR dx_109_14 (by constructor <;> omega) (fun r14 => ?_)
    refine at_aldI dx_109_15 lc_865 ln_865 (by first | omega | (simp (disch := omega) only [um_eq, um_k, um_j]; omega)) (by first | omega | (simp (disch := omega) only [um_eq, um_k, um_j]; omega)) (fun r15 => ?_)
    refine at_cgeR dx_109_16 rk r15 (fun c16 => ?_) (fun c16 => ?_)
    · skip
      refine at_vretV dx_109_75 ?_
      refine ⟨F, ?_⟩
      have el : M1 856 23 = M 856 23 := g 856 23 (by decide)
      have hk : k = M 865 (2 * s + 1) := by omega
      subst hk
      unfold mkF
      rw [wk_len]
      unfold wk
      rw [el]
      apply List.map_congr_left
      intro j hj
      have hj2 := List.mem_range.mp hj
      rw [hw]
      have h9 := wk_at (M := M) (j := j) (by omega)
      unfold wk at h9
      rw [h9]
    · skip
      refine at_aload dx_109_17 rfl ?_
      refine at_getR dx_109_18 lc_856 rfl lt_856_22 ?_
      refine at_iload dx_109_19 rfl ?_
      refine at_aldI dx_109_20 lc_877 ln_877 (by first | omega | (simp (disch := omega) only [um_eq, um_k, um_j]; omega)) (by first | omega | (simp (disch := omega) only [um_eq, um_k, um_j]; omega)) (fun r20 => ?_)
      refine at_const (x := 100) dx_109_21 rfl ?_
      refine at_cltR dx_109_22 r20 (by decide) (fun c22 => ?_) (fun c22 => ?_)
      · skip
        refine at_iincR (y := 1) dx_109_73 rfl rfl (by constructor <;> omega) (fun r73 => ?_)
        refine at_goto dx_109_74 ?_
        refine ih _ (by omega) _ _ r73 (by omega) rfl (by first | exact F | exact fe_ums F rfl) (fun j => ?_)
        by_cases ej : j = k
        · subst ej
          rw [if_pos (by omega)]
          unfold mkt
          first
          | (rw [if_pos (by omega), hw, if_neg (by omega)]; done)
          | (rw [um_eq, if_neg (by omega), gk, g 863 s (by decide)]
             have g2 := g 862 s (by decide)
             first
             | (rw [if_pos (by omega)]; done)
             | (rw [if_neg (by omega)]; done))
        · have hx : M1 877 j = if M 865 (2 * s) ≤ j ∧ j < k + 1 then mkt (M 862 s) (M 863 s) (M 877 j) else M 877 j := by
            rw [hw]
            by_cases c1 : M 865 (2 * s) ≤ j ∧ j < k
            · rw [if_pos c1, if_pos (by omega)]
            · rw [if_neg c1, if_neg (by omega)]
          first
          | exact hx
          | (rw [um_j ej]; exact hx)
      · skip
        refine at_const (x := 1) dx_109_23 rfl ?_
        refine at_aload dx_109_24 rfl ?_
        refine at_getR dx_109_25 lc_856 rfl lt_856_6 ?_
        refine at_iload dx_109_26 rfl ?_
        refine at_aldI dx_109_27 lc_863 ln_863 (by first | omega | (simp (disch := omega) only [um_eq, um_k, um_j]; omega)) (by first | omega | (simp (disch := omega) only [um_eq, um_k, um_j]; omega)) (fun r27 => ?_)
        refine at_shl dx_109_28 ?_
        refine at_istore dx_109_29 ?_
        refine at_aload dx_109_30 rfl ?_
        refine at_getR dx_109_31 lc_856 rfl lt_856_22 ?_
        refine at_iload dx_109_32 rfl ?_
        refine at_aldI dx_109_33 lc_877 ln_877 (by first | omega | (simp (disch := omega) only [um_eq, um_k, um_j]; omega)) (by first | omega | (simp (disch := omega) only [um_eq, um_k, um_j]; omega)) (fun r33 => ?_)
        refine at_const (x := 100) dx_109_34 rfl ?_
        refine at_subW dx_109_35 ?_
        refine at_const (x := 4) dx_109_36 rfl ?_
        refine at_rem dx_109_37 (by decide +kernel) ?_
        refine at_istore dx_109_38 ?_
        refine at_aload dx_109_39 rfl ?_
        refine at_getR dx_109_40 lc_856 rfl lt_856_5 ?_
        refine at_iload dx_109_41 rfl ?_
        refine at_aldZ dx_109_42 lc_862 ln_862 (by first | omega | (simp (disch := omega) only [um_eq, um_k, um_j]; omega)) (by first | omega | (simp (disch := omega) only [um_eq, um_k, um_j]; omega)) (fun r42 => ?_)
        refine at_zeqR dx_109_43 r42 (fun c43 => ?_) (fun c43 => ?_)
        · skip
          refine at_iload dx_109_48 rfl ?_
          refine at_iload dx_109_49 rfl ?_
          refine at_const (x := -1) dx_109_50 rfl ?_
          refine at_xor dx_109_51 ?_
          refine at_and dx_109_52 ?_
          refine at_istore dx_109_53 ?_
          refine at_aload dx_109_54 rfl ?_
          refine at_getR dx_109_55 lc_856 rfl lt_856_22 ?_
          refine at_iload dx_109_56 rfl ?_
          refine at_aload dx_109_57 rfl ?_
          refine at_getR dx_109_58 lc_856 rfl lt_856_22 ?_
          refine at_iload dx_109_59 rfl ?_
          refine at_aldI dx_109_60 lc_877 ln_877 (by first | omega | (simp (disch := omega) only [um_eq, um_k, um_j]; omega)) (by first | omega | (simp (disch := omega) only [um_eq, um_k, um_j]; omega)) (fun r60 => ?_)
          refine at_aload dx_109_61 rfl ?_
          refine at_getR dx_109_62 lc_856 rfl lt_856_22 ?_
          refine at_iload dx_109_63 rfl ?_
          refine at_aldI dx_109_64 lc_877 ln_877 (by first | omega | (simp (disch := omega) only [um_eq, um_k, um_j]; omega)) (by first | omega | (simp (disch := omega) only [um_eq, um_k, um_j]; omega)) (fun r64 => ?_)
          refine at_const (x := 100) dx_109_65 rfl ?_
          refine at_subW dx_109_66 ?_
          refine at_const (x := 4) dx_109_67 rfl ?_
          refine at_rem dx_109_68 (by decide +kernel) ?_
          refine at_subW dx_109_69 ?_
          refine at_iload dx_109_70 rfl ?_
          refine at_addW dx_109_71 ?_
          refine at_astI dx_109_72 lc_877 ln_877 (by first | omega | (simp (disch := omega) only [um_eq, um_k, um_j]; omega)) (by first | omega | (simp (disch := omega) only [um_eq, um_k, um_j]; omega)) (inR_wr _) ?_
          refine at_iincR (y := 1) dx_109_73 rfl rfl (by constructor <;> omega) (fun r73 => ?_)
          refine at_goto dx_109_74 ?_
          refine at_wk (ls := [vr 856, vi _, vi _]) ⟨Or.inl rfl, Or.inl rfl, Or.inl rfl, trivial⟩ ?_
          refine ih _ (by omega) _ _ r73 (by omega) rfl (by first | exact F | exact fe_ums F rfl) (fun j => ?_)
          by_cases ej : j = k
          · subst ej
            rw [if_pos (by omega)]
            unfold mkt
            first
            | (rw [if_pos (by omega), hw, if_neg (by omega)]; done)
            | (rw [um_eq, if_neg (by omega), gk, g 863 s (by decide)]
               have g2 := g 862 s (by decide)
               first
               | (rw [if_pos (by omega)]; done)
               | (rw [if_neg (by omega)]; done))
          · have hx : M1 877 j = if M 865 (2 * s) ≤ j ∧ j < k + 1 then mkt (M 862 s) (M 863 s) (M 877 j) else M 877 j := by
              rw [hw]
              by_cases c1 : M 865 (2 * s) ≤ j ∧ j < k
              · rw [if_pos c1, if_pos (by omega)]
              · rw [if_neg c1, if_neg (by omega)]
            first
            | exact hx
            | (rw [um_j ej]; exact hx)
        · skip
          refine at_iload dx_109_44 rfl ?_
          refine at_iload dx_109_45 rfl ?_
          refine at_or dx_109_46 ?_
          refine at_goto dx_109_47 ?_
          refine at_istore dx_109_53 ?_
          refine at_aload dx_109_54 rfl ?_
          refine at_getR dx_109_55 lc_856 rfl lt_856_22 ?_
          refine at_iload dx_109_56 rfl ?_
          refine at_aload dx_109_57 rfl ?_
          refine at_getR dx_109_58 lc_856 rfl lt_856_22 ?_
          refine at_iload dx_109_59 rfl ?_
          refine at_aldI dx_109_60 lc_877 ln_877 (by first | omega | (simp (disch := omega) only [um_eq, um_k, um_j]; omega)) (by first | omega | (simp (disch := omega) only [um_eq, um_k, um_j]; omega)) (fun r60 => ?_)
          refine at_aload dx_109_61 rfl ?_
          refine at_getR dx_109_62 lc_856 rfl lt_856_22 ?_
          refine at_iload dx_109_63 rfl ?_
          refine at_aldI dx_109_64 lc_877 ln_877 (by first | omega | (simp (disch := omega) only [um_eq, um_k, um_j]; omega)) (by first | omega | (simp (disch := omega) only [um_eq, um_k, um_j]; omega)) (fun r64 => ?_)
          refine at_const (x := 100) dx_109_65 rfl ?_
          refine at_subW dx_109_66 ?_
          refine at_const (x := 4) dx_109_67 rfl ?_
          refine at_rem dx_109_68 (by decide +kernel) ?_
          refine at_subW dx_109_69 ?_
          refine at_iload dx_109_70 rfl ?_
          refine at_addW dx_109_71 ?_
          refine at_astI dx_109_72 lc_877 ln_877 (by first | omega | (simp (disch := omega) only [um_eq, um_k, um_j]; omega)) (by first | omega | (simp (disch := omega) only [um_eq, um_k, um_j]; omega)) (inR_wr _) ?_
          refine at_iincR (y := 1) dx_109_73 rfl rfl (by constructor <;> omega) (fun r73 => ?_)
          refine at_goto dx_109_74 ?_
          refine at_wk (ls := [vr 856, vi _, vi _]) ⟨Or.inl rfl, Or.inl rfl, Or.inl rfl, trivial⟩ ?_
          refine ih _ (by omega) _ _ r73 (by omega) rfl (by first | exact F | exact fe_ums F rfl) (fun j => ?_)
          by_cases ej : j = k
          · subst ej
            rw [if_pos (by omega)]
            unfold mkt
            first
            | (rw [if_pos (by omega), hw, if_neg (by omega)]; done)
            | (rw [um_eq, if_neg (by omega), gk, g 863 s (by decide)]
               have g2 := g 862 s (by decide)
               first
               | (rw [if_pos (by omega)]; done)
               | (rw [if_neg (by omega)]; done))
          · have hx : M1 877 j = if M 865 (2 * s) ≤ j ∧ j < k + 1 then mkt (M 862 s) (M 863 s) (M 877 j) else M 877 j := by
              rw [hw]
              by_cases c1 : M 865 (2 * s) ≤ j ∧ j < k
              · rw [if_pos c1, if_pos (by omega)]
              · rw [if_neg c1, if_neg (by omega)]
            first
            | exact hx
            | (rw [um_j ej]; exact hx)
  refine at_aload dx_109_0 rfl ?_
  refine at_getR dx_109_1 lc_856 rfl lt_856_8 ?_
  refine at_const (x := 2) dx_109_2 rfl ?_
  refine at_iload dx_109_3 rfl ?_
  refine at_mulR dx_109_4 (by constructor <;> omega) (fun r4 => ?_)
  refine at_aldI dx_109_5 lc_865 ln_865 (by first | omega | (simp (disch := omega) only [um_eq, um_k, um_j]; omega)) (by first | omega | (simp (disch := omega) only [um_eq, um_k, um_j]; omega)) (fun r5 => ?_)
  refine at_istore dx_109_6 ?_
  exact lp _ _ _ r5 (by omega) rfl fe_rf (fun j => by rw [if_neg (by omega)])

set_option maxRecDepth 100000 in
set_option maxHeartbeats 4000000 in
theorem m_isTooLong {X : scr} {M : mem} {s : Int} (rs : inR s) (hs : 0 ≤ s ∧ s ≤ 100) (hN : sN M s) (hl : 0 ≤ M 856 23 ∧ M 856 23 ≤ 200) : At X 0 111 0 [vr 856, vi s] [] M (qI (fun x M' => M' = M ∧ x = if M 861 s = 0 ∧ M 856 23 + M 867 (2 * s) + M 867 (2 * s + 1) - M 866 (2 * s) - M 866 (2 * s + 1) > 60 then 1 else 0)) := by
  obtain ⟨n1, n2, n3, n4, n5, n6⟩ := hN
  refine at_aload dx_111_0 rfl ?_
  refine at_getR dx_111_1 lc_856 rfl lt_856_4 ?_
  refine at_iload dx_111_2 rfl ?_
  refine at_aldZ dx_111_3 lc_861 ln_861 (by first | omega | (simp (disch := omega) only [um_eq, um_k, um_j]; omega)) (by first | omega | (simp (disch := omega) only [um_eq, um_k, um_j]; omega)) (fun r3 => ?_)
  refine at_zneR dx_111_4 r3 (fun c4 => ?_) (fun c4 => ?_)
  · skip
    refine at_const (x := 0) dx_111_43 rfl ?_
    refine at_zretI dx_111_44 (Or.inl rfl) ?_
    refine ⟨rfl, ?_⟩; rw [if_neg (by omega)]
  · skip
    refine at_aload dx_111_5 rfl ?_
    refine at_getI 23 dx_111_6 lc_856 rfl rfl (fun r6 => ?_)
    refine at_aload dx_111_7 rfl ?_
    refine at_getR dx_111_8 lc_856 rfl lt_856_10 ?_
    refine at_const (x := 2) dx_111_9 rfl ?_
    refine at_iload dx_111_10 rfl ?_
    refine at_mulR dx_111_11 (by constructor <;> omega) (fun r11 => ?_)
    refine at_aldI dx_111_12 lc_867 ln_867 (by first | omega | (simp (disch := omega) only [um_eq, um_k, um_j]; omega)) (by first | omega | (simp (disch := omega) only [um_eq, um_k, um_j]; omega)) (fun r12 => ?_)
    refine at_addR dx_111_13 (by constructor <;> omega) (fun r13 => ?_)
    refine at_aload dx_111_14 rfl ?_
    refine at_getR dx_111_15 lc_856 rfl lt_856_10 ?_
    refine at_const (x := 2) dx_111_16 rfl ?_
    refine at_iload dx_111_17 rfl ?_
    refine at_mulR dx_111_18 (by constructor <;> omega) (fun r18 => ?_)
    refine at_const (x := 1) dx_111_19 rfl ?_
    refine at_addR dx_111_20 (by constructor <;> omega) (fun r20 => ?_)
    refine at_aldI dx_111_21 lc_867 ln_867 (by first | omega | (simp (disch := omega) only [um_eq, um_k, um_j]; omega)) (by first | omega | (simp (disch := omega) only [um_eq, um_k, um_j]; omega)) (fun r21 => ?_)
    refine at_addR dx_111_22 (by constructor <;> omega) (fun r22 => ?_)
    refine at_aload dx_111_23 rfl ?_
    refine at_getR dx_111_24 lc_856 rfl lt_856_9 ?_
    refine at_const (x := 2) dx_111_25 rfl ?_
    refine at_iload dx_111_26 rfl ?_
    refine at_mulR dx_111_27 (by constructor <;> omega) (fun r27 => ?_)
    refine at_aldI dx_111_28 lc_866 ln_866 (by first | omega | (simp (disch := omega) only [um_eq, um_k, um_j]; omega)) (by first | omega | (simp (disch := omega) only [um_eq, um_k, um_j]; omega)) (fun r28 => ?_)
    refine at_subR dx_111_29 (by constructor <;> omega) (fun r29 => ?_)
    refine at_aload dx_111_30 rfl ?_
    refine at_getR dx_111_31 lc_856 rfl lt_856_9 ?_
    refine at_const (x := 2) dx_111_32 rfl ?_
    refine at_iload dx_111_33 rfl ?_
    refine at_mulR dx_111_34 (by constructor <;> omega) (fun r34 => ?_)
    refine at_const (x := 1) dx_111_35 rfl ?_
    refine at_addR dx_111_36 (by constructor <;> omega) (fun r36 => ?_)
    refine at_aldI dx_111_37 lc_866 ln_866 (by first | omega | (simp (disch := omega) only [um_eq, um_k, um_j]; omega)) (by first | omega | (simp (disch := omega) only [um_eq, um_k, um_j]; omega)) (fun r37 => ?_)
    refine at_subR dx_111_38 (by constructor <;> omega) (fun r38 => ?_)
    refine at_const (x := 60) dx_111_39 rfl ?_
    refine at_cleR dx_111_40 r38 (by decide) (fun c40 => ?_) (fun c40 => ?_)
    · skip
      refine at_const (x := 0) dx_111_43 rfl ?_
      refine at_zretI dx_111_44 (Or.inl rfl) ?_
      refine ⟨rfl, ?_⟩; rw [if_neg (by omega)]
    · skip
      refine at_const (x := 1) dx_111_41 rfl ?_
      refine at_goto dx_111_42 ?_
      refine at_zretI dx_111_44 (Or.inr rfl) ?_
      refine ⟨rfl, ?_⟩; rw [if_pos (by omega)]

set_option maxRecDepth 100000 in
set_option maxHeartbeats 4000000 in
theorem m_does {X : scr} {M : mem} {s : Int} (rs : inR s) (hs : 0 ≤ s ∧ s ≤ 100) (hl : 0 ≤ M 856 23 ∧ M 856 23 ≤ 60) (hw : okW (mv M s) (M 856 23)) : At X 0 112 0 [vr 856, vi s] [] M (qV (fun M' => frE (fun q j => q = 877 ∨ (q = 856 ∧ j = 23) ∨ (q = 868 ∧ 60 * s ≤ j ∧ j < 60 * s + 60)) M M' ∧ (0 ≤ M' 856 23 ∧ M' 856 23 ≤ 60) ∧ wk M' = apW (mv M s) (wk M))) := by
  have hw0 := hw
  unfold okW mv at hw
  dsimp only at hw
  have hL : ((wk M).length : Int) = M 856 23 := by rw [wk_len]; omega
  refine at_aload dx_112_0 rfl ?_
  refine at_getR dx_112_1 lc_856 rfl lt_856_4 ?_
  refine at_iload dx_112_2 rfl ?_
  refine at_aldZ dx_112_3 lc_861 ln_861 (by first | omega | (simp (disch := omega) only [um_eq, um_k, um_j]; omega)) (by first | omega | (simp (disch := omega) only [um_eq, um_k, um_j]; omega)) (fun r3 => ?_)
  refine at_zeqR dx_112_4 r3 (fun c4 => ?_) (fun c4 => ?_)
  · skip
    refine at_aload dx_112_9 rfl ?_
    refine at_iload dx_112_10 rfl ?_
    refine at_const (x := 0) dx_112_11 rfl ?_
    refine at_const (x := 0) dx_112_12 rfl ?_
    refine at_const (x := 0) dx_112_13 rfl ?_
    refine at_callVV dx_112_14 rfl lc_856 rfl (m_changes (s := s) (r := 0) rs (by decide) (by decide) (by decide) hs (by decide) rfl rfl rfl rfl (by simp only [Int.add_zero]; omega) (by simp only [Int.add_zero]; omega) ⟨by omega, Or.inl ⟨rfl, by simp only [Int.add_zero]; omega⟩⟩) ?_
    rintro M1 ⟨F1, e1, w1⟩
    simp only [Int.add_zero] at e1 w1
    have g1 : M1 865 (2 * s + 1) = M 865 (2 * s + 1) := F1 865 _ (by (try dsimp only [stE]); first | done | omega)
    have g2 : M1 866 (2 * s) = M 866 (2 * s) := F1 866 _ (by (try dsimp only [stE]); first | done | omega)
    have g3 : M1 866 (2 * s + 1) = M 866 (2 * s + 1) := F1 866 _ (by (try dsimp only [stE]); first | done | omega)
    have g4 : M1 867 (2 * s) = M 867 (2 * s) := F1 867 _ (by (try dsimp only [stE]); first | done | omega)
    have g5 : M1 867 (2 * s + 1) = M 867 (2 * s + 1) := F1 867 _ (by (try dsimp only [stE]); first | done | omega)
    have g6 : M1 864 (s) = M 864 (s) := F1 864 _ (by (try dsimp only [stE]); first | done | omega)
    refine at_aload dx_112_15 rfl ?_
    refine at_getR dx_112_16 lc_856 rfl lt_856_7 ?_
    refine at_iload dx_112_17 rfl ?_
    refine at_aldI dx_112_18 lc_864 ln_864 (by first | omega | (simp (disch := omega) only [um_eq, um_k, um_j]; omega)) (by first | omega | (simp (disch := omega) only [um_eq, um_k, um_j]; omega)) (fun r18 => ?_)
    refine at_const (x := 2) dx_112_19 rfl ?_
    refine at_cneR dx_112_20 r18 (by decide) (fun c20 => ?_) (fun c20 => ?_)
    · skip
      refine at_vretV dx_112_44 ?_
      first
      | (refine ⟨fe_tr F1 F2, by omega, ?_⟩
         rw [w2, w1, apW_eq, if_neg (by omega), if_pos (by omega)]
         rw [splF_cg (g := fun k => M 869 (60 * s + k)) (g2 := fun k => (mv M s).2.getD k.toNat 0) (fun k h1 h2 => by rw [mv_P h1 (by omega)])]
         rw [g1, g2, g3, g4, g5]
         refine splF_cg (fun k h1 h2 => ?_)
         rw [F1 869 _ (by dsimp only; omega), mv_P (M := M) (s := s) (j := M 867 (2 * s) + k) (by omega) (by omega)]
         congr 1; omega)
      | (refine ⟨F1, by omega, ?_⟩
         rw [w1, apW_eq, if_neg (by omega), if_neg (by omega)]
         exact splF_cg (fun k h1 h2 => (mv_P (M := M) (s := s) h1 (by omega)).symm))
    · skip
      refine at_aload dx_112_21 rfl ?_
      refine at_iload dx_112_22 rfl ?_
      refine at_const (x := 1) dx_112_23 rfl ?_
      refine at_aload dx_112_24 rfl ?_
      refine at_getR dx_112_25 lc_856 rfl lt_856_10 ?_
      refine at_const (x := 2) dx_112_26 rfl ?_
      refine at_iload dx_112_27 rfl ?_
      refine at_mulR dx_112_28 (by constructor <;> omega) (fun r28 => ?_)
      refine at_aldI dx_112_29 lc_867 ln_867 (by first | omega | (simp (disch := omega) only [um_eq, um_k, um_j]; omega)) (by first | omega | (simp (disch := omega) only [um_eq, um_k, um_j]; omega)) (fun r29 => ?_)
      refine at_aload dx_112_30 rfl ?_
      refine at_getR dx_112_31 lc_856 rfl lt_856_9 ?_
      refine at_const (x := 2) dx_112_32 rfl ?_
      refine at_iload dx_112_33 rfl ?_
      refine at_mulR dx_112_34 (by constructor <;> omega) (fun r34 => ?_)
      refine at_aldI dx_112_35 lc_866 ln_866 (by first | omega | (simp (disch := omega) only [um_eq, um_k, um_j]; omega)) (by first | omega | (simp (disch := omega) only [um_eq, um_k, um_j]; omega)) (fun r35 => ?_)
      refine at_subR dx_112_36 (by constructor <;> omega) (fun r36 => ?_)
      refine at_aload dx_112_37 rfl ?_
      refine at_getR dx_112_38 lc_856 rfl lt_856_10 ?_
      refine at_const (x := 2) dx_112_39 rfl ?_
      refine at_iload dx_112_40 rfl ?_
      refine at_mulR dx_112_41 (by constructor <;> omega) (fun r41 => ?_)
      refine at_aldI dx_112_42 lc_867 ln_867 (by first | omega | (simp (disch := omega) only [um_eq, um_k, um_j]; omega)) (by first | omega | (simp (disch := omega) only [um_eq, um_k, um_j]; omega)) (fun r42 => ?_)
      refine at_callVV dx_112_43 rfl lc_856 rfl (m_changes (s := s) (r := 1) (M := M1) rs (by decide) (inR_of2 (by omega)) (inR_of2 (by omega)) hs (by decide) rfl rfl rfl rfl (by omega) (by omega) (by omega)) ?_
      rintro M2 ⟨F2, e2, w2⟩
      refine at_vretV dx_112_44 ?_
      first
      | (refine ⟨fe_tr F1 F2, by omega, ?_⟩
         rw [w2, w1, apW_eq, if_neg (by omega), if_pos (by omega)]
         rw [splF_cg (g := fun k => M 869 (60 * s + k)) (g2 := fun k => (mv M s).2.getD k.toNat 0) (fun k h1 h2 => by rw [mv_P h1 (by omega)])]
         rw [g1, g2, g3, g4, g5]
         refine splF_cg (fun k h1 h2 => ?_)
         rw [F1 869 _ (by dsimp only; omega), mv_P (M := M) (s := s) (j := M 867 (2 * s) + k) (by omega) (by omega)]
         congr 1; omega)
      | (refine ⟨F1, by omega, ?_⟩
         rw [w1, apW_eq, if_neg (by omega), if_neg (by omega)]
         exact splF_cg (fun k h1 h2 => (mv_P (M := M) (s := s) h1 (by omega)).symm))
  · skip
    refine at_aload dx_112_5 rfl ?_
    refine at_iload dx_112_6 rfl ?_
    refine at_callVV dx_112_7 rfl lc_856 rfl (m_marks rs hs (by omega)) ?_
    rintro M1 ⟨F1, w1⟩
    refine at_vretV dx_112_8 ?_
    refine ⟨fe_le F1 (fun q j h => Or.inl h), ?_, ?_⟩
    · rw [F1 856 23 (by decide)]; exact hl
    · rw [w1, apW_eq, if_pos c4]
