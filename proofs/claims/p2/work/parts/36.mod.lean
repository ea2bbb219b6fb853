/-! ===== the reference: rows of maps ===== -/
abbrev smE (M : mem) (s s' : Int) : Prop := M 861 s' = M 861 s ∧ M 864 s' = M 864 s ∧ M 867 (2 * s') = M 867 (2 * s) ∧ M 867 (2 * s' + 1) = M 867 (2 * s + 1)
/-- a row's map: from a document of the length Ln k to one of the length Ln (k + 1) -/
abbrev RowK (M : mem) (Ln : Int → Int) (k : Int) : Prop := (0 ≤ M 878 k ∧ M 878 k ≤ 99) ∧ (0 ≤ Ln k ∧ Ln k ≤ 60) ∧ (0 ≤ Ln (k + 1) ∧ Ln (k + 1) ≤ 60) ∧
  ((M 879 k = 0 ∧ okW (mv M (M 878 k)) (Ln k) ∧ Ln (k + 1) = lenW (mv M (M 878 k)) (Ln k)) ∨ (M 879 k = 1 ∧ okW (mv M (M 878 k)) (Ln (k + 1)) ∧ Ln k = lenW (mv M (M 878 k)) (Ln (k + 1)))) ∧
  (M 880 k = -1 ∨ (k < M 880 k ∧ M 880 k < M 856 24 ∧ M 879 k = 1 ∧ M 879 (M 880 k) = 0 ∧ smE M (M 878 k) (M 878 (M 880 k))))
abbrev RowOK (M : mem) (Ln : Int → Int) : Prop := (0 ≤ M 856 24 ∧ M 856 24 ≤ 84) ∧ ∀ k, 0 ≤ k → k < M 856 24 → RowK M Ln k
theorem m_rangeAt {X : scr} {M : mem} {s z a n : Int} (rs : inR s) (ra : inR a) (hs : 0 ≤ s ∧ s ≤ 100) (hz : z = 0 ∨ z = 1) (hv : okW (mv M s) n) (hn60 : 0 ≤ n ∧ n ≤ 60) (ha : -1000 ≤ a ∧ a ≤ 1000) : At X 0 116 0 [vr 856, vi s, vi z, vi a] [] M (qI (fun x M' => M' = M ∧ (x = -1 ∨ (M 861 s = 0 ∧ 0 ≤ x ∧ x < M 864 s ∧ x ≤ 1 ∧ bgN M s z x ≤ a ∧ a ≤ bgN M s z x + tkN M s z x)))) := by
  rcases hz with rfl | rfl
  · exact m_rangeAt0 rs ra hs hv hn60 ha
  · exact m_rangeAt1 rs ra hs hv hn60 ha
theorem m_maps {X : scr} {M : mem} {s z a y n N N2 : Int} (rs : inR s) (ra : inR a) (ry : inR y) (hs : 0 ≤ s ∧ s ≤ 100) (hv : okW (mv M s) n) (hn60 : 0 ≤ n ∧ n ≤ 60) (hz : (z = 0 ∧ N = n ∧ N2 = lenW (mv M s) n) ∨ (z = 1 ∧ N2 = n ∧ N = lenW (mv M s) n)) (ha : 0 ≤ a ∧ a ≤ N) : At X 0 117 0 [vr 856, vi s, vi z, vi a, vi y] [] M (qI (fun x M' => frE (fun q j => q = 856 ∧ j = 28) M M' ∧ 0 ≤ x ∧ x ≤ N2)) := by
  rcases hz with ⟨rfl, rfl, rfl⟩ | ⟨rfl, rfl, rfl⟩
  · exact m_maps0 rs ra ry hs hv hn60 ha
  · exact m_maps1 rs ra ry hs hv hn60 ha
theorem RowOK_fe {P : Nat → Int → Prop} {M M' : mem} {Ln : Int → Int} (hR : RowOK M Ln) (h : frE P M M') (hp : ∀ q j, P q j → (q = 856 ∧ j ≠ 24) ∨ stE 100 q j ∨ q < 856 ∨ (857 ≤ q ∧ q ≤ 860) ∨ q = 868 ∨ (870 ≤ q ∧ q ≤ 877) ∨ 881 ≤ q) : RowOK M' Ln := by
  have g : ∀ q j, (q = 856 ∧ j = 24) ∨ (878 ≤ q ∧ q ≤ 880) → M' q j = M q j := fun q j hq => h q j (fun e => by have := hp q j e; omega)
  have gm : ∀ s : Int, 0 ≤ s → s ≤ 99 → mv M' s = mv M s := fun s h0 h1 => mv_fe h (fun q j e h8 hq => by have := hp q j hq; omega)
  have gs : ∀ (q : Nat) (j : Int), (861 ≤ q ∧ q ≤ 864 ∧ 0 ≤ j ∧ j ≤ 99) ∨ (865 ≤ q ∧ q ≤ 867 ∧ 0 ≤ j ∧ j ≤ 199) → M' q j = M q j := fun q j hq => h q j (fun e => by have := hp q j e; omega)
  obtain ⟨hr, hk⟩ := hR
  refine ⟨by rw [g 856 24 (Or.inl ⟨rfl, rfl⟩)]; exact hr, fun k k0 k1 => ?_⟩
  rw [g 856 24 (Or.inl ⟨rfl, rfl⟩)] at k1
  obtain ⟨a1, a2, a3, a4, a5⟩ := hk k k0 k1
  have e8 : M' 878 k = M 878 k := g 878 k (Or.inr (by decide))
  have e9 : M' 879 k = M 879 k := g 879 k (Or.inr (by decide))
  have e0 : M' 880 k = M 880 k := g 880 k (Or.inr (by decide))
  unfold RowK
  rw [e8, e9, e0, gm _ a1.1 a1.2, g 856 24 (Or.inl ⟨rfl, rfl⟩)]
  refine ⟨a1, a2, a3, a4, ?_⟩
  rcases a5 with a5 | ⟨b1, b2, b3, b4, b5⟩
  · exact Or.inl a5
  · obtain ⟨c1, -, -, -, -⟩ := hk (M 880 k) (by omega) b2
    refine Or.inr ⟨b1, b2, b3, ?_, ?_⟩
    · rw [g 879 _ (Or.inr (by decide))]; exact b4
    · rw [g 878 (M 880 k) (Or.inr (by decide))]
      obtain ⟨d1, d2, d3, d4⟩ := b5
      unfold smE
      rw [gs 861 _ (by omega), gs 861 _ (by omega), gs 864 _ (by omega), gs 864 _ (by omega), gs 867 _ (by omega), gs 867 _ (by omega), gs 867 _ (by omega), gs 867 _ (by omega)]
      exact ⟨d1, d2, d3, d4⟩

set_option maxRecDepth 100000 in
set_option maxHeartbeats 4000000 in
theorem m_mapsThrough {X : scr} {M : mem} {f a y : Int} (rf : inR f) (ra : inR a) (ry : inR y) {Ln : Int → Int} (hR : RowOK M Ln) (hf : 0 ≤ f ∧ f ≤ M 856 24) (ha : 0 ≤ a ∧ a ≤ Ln f) (hL : Ln f ≤ 60) : At X 0 118 0 [vr 856, vi f, vi a, vi y] [] M (qI (fun x M' => frE (fun q j => q = 856 ∧ j = 28) M M' ∧ 0 ≤ x ∧ x ≤ Ln (M 856 24))) := by
  have lp : ∀ (n9 : Nat) (p k : Int) (M1 : mem) (rp : inR p) (rk : inR k) (hk : 0 ≤ k ∧ k ≤ M 856 24) (hp : 0 ≤ p ∧ p ≤ Ln k) (hLk : Ln k ≤ 60) (hn : (M 856 24 - k).toNat = n9) (F : frE (fun q j => q = 856 ∧ j = 28) M M1), At X 0 118 4 [vr 856, vi f, vi a, vi y, vi p, vi k] [] M1 (qI (fun x M' => frE (fun q j => q = 856 ∧ j = 28) M M' ∧ 0 ≤ x ∧ x ≤ Ln (M 856 24))) := by
    intro n9
    induction n9 using Nat.strongRecOn with
    | ind n9 ih =>
    intro p k M1 rp rk hk hp hLk hn F
    have hR1 : RowOK M1 Ln := RowOK_fe hR F (fun q j h => Or.inl (by (try dsimp only at h); omega))
    have er : M1 856 24 = M 856 24 := F 856 24 (by decide)
    have hRk : k < M 856 24 → RowK M1 Ln k := fun h => hR1.2 k hk.1 (by omega)
    refine at_iload dx_118_4 rfl ?_
    refine at_aload dx_118_5 rfl ?_
    refine at_getI 24 dx_118_6 lc_856 rfl rfl (fun r6 => ?_)
    refine at_cgeR dx_118_7 rk r6 (fun c7 => ?_) (fun c7 => ?_)
    · skip
      refine at_iload dx_118_117 rfl ?_
      refine at_iretI dx_118_118 rp ?_
      have hkr : k = M 856 24 := by omega
      subst hkr
      exact ⟨F, hp.1, hp.2⟩
    · skip
      obtain ⟨a1, a2, a3, a4, a5⟩ := hRk (by omega)
      have hv : ∃ n, okW (mv M1 (M1 878 k)) n ∧ (0 ≤ n ∧ n ≤ 60) ∧ ((M1 879 k = 0 ∧ Ln k = n ∧ Ln (k + 1) = lenW (mv M1 (M1 878 k)) n) ∨ (M1 879 k = 1 ∧ Ln (k + 1) = n ∧ Ln k = lenW (mv M1 (M1 878 k)) n)) := by
        rcases a4 with ⟨b1, b2, b3⟩ | ⟨b1, b2, b3⟩
        · exact ⟨_, b2, a2, Or.inl ⟨b1, rfl, b3⟩⟩
        · exact ⟨_, b2, a3, Or.inr ⟨b1, rfl, b3⟩⟩
      obtain ⟨n, hv, hn60, hz⟩ := hv
      have hzz : M1 879 k = 0 ∨ M1 879 k = 1 := by omega
      have hN := okW_N hv hn60.2
      have hu := okW_u hv
      refine at_aload dx_118_8 rfl ?_
      refine at_getR dx_118_9 lc_856 rfl lt_856_25 ?_
      refine at_iload dx_118_10 rfl ?_
      refine at_aldI dx_118_11 lc_878 ln_878 (by first | omega | (simp (disch := omega) only [um_eq, um_k, um_j]; omega)) (by first | omega | (simp (disch := omega) only [um_eq, um_k, um_j]; omega)) (fun r11 => ?_)
      refine at_istore dx_118_12 ?_
      refine at_aload dx_118_13 rfl ?_
      refine at_getR dx_118_14 lc_856 rfl lt_856_27 ?_
      refine at_iload dx_118_15 rfl ?_
      refine at_aldI dx_118_16 lc_880 ln_880 (by first | omega | (simp (disch := omega) only [um_eq, um_k, um_j]; omega)) (by first | omega | (simp (disch := omega) only [um_eq, um_k, um_j]; omega)) (fun r16 => ?_)
      refine at_const (x := -1) dx_118_17 rfl ?_
      refine at_cneR dx_118_18 r16 (by decide) (fun c18 => ?_) (fun c18 => ?_)
      · skip
        refine at_aload dx_118_21 rfl ?_
        refine at_iload dx_118_22 rfl ?_
        refine at_aload dx_118_23 rfl ?_
        refine at_getR dx_118_24 lc_856 rfl lt_856_26 ?_
        refine at_iload dx_118_25 rfl ?_
        refine at_aldZ dx_118_26 lc_879 ln_879 (by first | omega | (simp (disch := omega) only [um_eq, um_k, um_j]; omega)) (by first | omega | (simp (disch := omega) only [um_eq, um_k, um_j]; omega)) (fun r26 => ?_)
        refine at_iload dx_118_27 rfl ?_
        refine at_callVI dx_118_28 rfl lc_856 rfl (m_rangeAt r11 rp (by omega) hzz hv hn60 (by omega)) ?_
        rintro x29 M9 r28 ⟨e9, h29⟩; replace e9 := e9.symm; subst e9
        refine at_istore dx_118_29 ?_
        refine at_iload dx_118_30 rfl ?_
        refine at_const (x := -1) dx_118_31 rfl ?_
        refine at_cneR dx_118_32 r28 (by decide) (fun c32 => ?_) (fun c32 => ?_)
        · skip
          refine at_aload dx_118_35 rfl ?_
          refine at_iload dx_118_36 rfl ?_
          refine at_aload dx_118_37 rfl ?_
          refine at_getR dx_118_38 lc_856 rfl lt_856_26 ?_
          refine at_iload dx_118_39 rfl ?_
          refine at_aldZ dx_118_40 lc_879 ln_879 (by first | omega | (simp (disch := omega) only [um_eq, um_k, um_j]; omega)) (by first | omega | (simp (disch := omega) only [um_eq, um_k, um_j]; omega)) (fun r40 => ?_)
          refine at_iload dx_118_41 rfl ?_
          refine at_callVI dx_118_42 rfl lc_856 rfl (m_startOf r11 r40 r28 (by omega) (by omega) hN) ?_
          rintro x42 M9 r42 ⟨e9, h42⟩; replace e9 := e9.symm; subst e9
          replace h42 := bg_of (by omega) h42
          have q42 : -300 ≤ x42 ∧ x42 ≤ 300 := by rw [h42]; unfold bgN; (repeat' split) <;> omega
          refine at_istore dx_118_43 ?_
          refine at_iload dx_118_44 rfl ?_
          refine at_const (x := -1) dx_118_45 rfl ?_
          refine at_cneR dx_118_46 r28 (by decide) (fun c46 => ?_) (fun c46 => ?_)
          · skip
            refine at_iload dx_118_49 rfl ?_
            refine at_aload dx_118_50 rfl ?_
            refine at_iload dx_118_51 rfl ?_
            refine at_aload dx_118_52 rfl ?_
            refine at_getR dx_118_53 lc_856 rfl lt_856_26 ?_
            refine at_iload dx_118_54 rfl ?_
            refine at_aldZ dx_118_55 lc_879 ln_879 (by first | omega | (simp (disch := omega) only [um_eq, um_k, um_j]; omega)) (by first | omega | (simp (disch := omega) only [um_eq, um_k, um_j]; omega)) (fun r55 => ?_)
            refine at_iload dx_118_56 rfl ?_
            refine at_callVI dx_118_57 rfl lc_856 rfl (m_takesOf r11 r55 r28 (by omega) (by omega)) ?_
            rintro x57 M9 r57 ⟨e9, h57⟩; replace e9 := e9.symm; subst e9
            replace h57 := tk_of (by omega) h57
            have q57 : -300 ≤ x57 ∧ x57 ≤ 300 := by rw [h57]; unfold tkN; (repeat' split) <;> omega
            refine at_addR dx_118_58 (by constructor <;> omega) (fun r58 => ?_)
            refine at_istore dx_118_59 ?_
            refine at_iload dx_118_60 rfl ?_
            refine at_const (x := -1) dx_118_61 rfl ?_
            refine at_ceqR dx_118_62 r28 (by decide) (fun c62 => ?_) (fun c62 => ?_)
            · skip
              refine at_const (x := 0) dx_118_75 rfl ?_
              refine at_istore dx_118_76 ?_
              refine at_iload dx_118_77 rfl ?_
              refine at_zeqR dx_118_78 (by decide) (fun _ => ?_) (fun c => absurd c (by decide))
              refine at_aload dx_118_105 rfl ?_
              refine at_iload dx_118_106 rfl ?_
              refine at_aload dx_118_107 rfl ?_
              refine at_getR dx_118_108 lc_856 rfl lt_856_26 ?_
              refine at_iload dx_118_109 rfl ?_
              refine at_aldZ dx_118_110 lc_879 ln_879 (by first | omega | (simp (disch := omega) only [um_eq, um_k, um_j]; omega)) (by first | omega | (simp (disch := omega) only [um_eq, um_k, um_j]; omega)) (fun r110 => ?_)
              refine at_iload dx_118_111 rfl ?_
              refine at_iload dx_118_112 rfl ?_
              refine at_callVI dx_118_113 rfl lc_856 rfl (m_maps (N := Ln k) (N2 := Ln (k + 1)) r11 rp ry (by omega) hv hn60 hz hp) ?_
              rintro x113 M114 r114 ⟨f114, q114⟩
              refine at_istore dx_118_114 ?_
              refine at_iincR (y := 1) dx_118_115 rfl rfl (by constructor <;> omega) (fun r115 => ?_)
              refine at_goto dx_118_116 ?_
              refine at_wk (ls := [vr 856, vi _, vi _, vi _, vi _, vi _]) ⟨Or.inl rfl, Or.inl rfl, Or.inl rfl, Or.inl rfl, Or.inl rfl, Or.inl rfl, trivial⟩ ?_
              first
              | (exfalso; omega)
              | (exact ih _ (by omega) _ _ _ r114 r115 (by omega) q114 (by omega) rfl (fe_tr F f114))
              | (refine ih _ (by omega) _ _ _ r95 r102 (by omega) ?_ (by omega) rfl F
                 rcases h29 with h29 | ⟨j1, j2, j3, j4, j5, j6⟩
                 · omega
                 · obtain ⟨s1, s2, s3, s4⟩ := b5
                   rw [b3] at j5 j6 h42
                   rcases (show x29 = 0 ∨ x29 = 1 by omega) with e | e <;> subst e <;> simp [bgN, tkN] at h42 h91 j5 j6 <;> rw [lenW_mv] at d6 <;> omega)
            · skip
              refine at_iload dx_118_63 rfl ?_
              refine at_iload dx_118_64 rfl ?_
              refine at_cneR dx_118_65 rp r42 (fun c65 => ?_) (fun c65 => ?_)
              · skip
                refine at_iload dx_118_68 rfl ?_
                refine at_iload dx_118_69 rfl ?_
                refine at_cneR dx_118_70 rp r58 (fun c70 => ?_) (fun c70 => ?_)
                · skip
                  refine at_const (x := 1) dx_118_73 rfl ?_
                  refine at_goto dx_118_74 ?_
                  refine at_istore dx_118_76 ?_
                  refine at_iload dx_118_77 rfl ?_
                  refine at_zeqR dx_118_78 (by decide) (fun c => absurd c (by decide)) (fun _ => ?_)
                  have hj29 : x29 ≠ -1 := by omega
                  have hb : M1 880 k ≠ -1 := by omega
                  obtain ⟨b1, b2, b3, b4, b5⟩ := a5.resolve_left hb
                  obtain ⟨d1, d2, d3, d4, -⟩ := hR1.2 (M1 880 k) (by omega) b2
                  obtain ⟨d5, d6⟩ : okW (mv M1 (M1 878 (M1 880 k))) (Ln (M1 880 k)) ∧ Ln (M1 880 k + 1) = lenW (mv M1 (M1 878 (M1 880 k))) (Ln (M1 880 k)) := by
                    rcases d4 with ⟨-, d5, d6⟩ | ⟨d5, -⟩
                    · exact ⟨d5, d6⟩
                    · omega
                  have hN2 := okW_N d5 d2.2
                  have hu2 := okW_u d5
                  have hrow := hR1.1
                  refine at_aload dx_118_79 rfl ?_
                  refine at_getR dx_118_80 lc_856 rfl lt_856_25 ?_
                  refine at_aload dx_118_81 rfl ?_
                  refine at_getR dx_118_82 lc_856 rfl lt_856_27 ?_
                  refine at_iload dx_118_83 rfl ?_
                  refine at_aldI dx_118_84 lc_880 ln_880 (by first | omega | (simp (disch := omega) only [um_eq, um_k, um_j]; omega)) (by first | omega | (simp (disch := omega) only [um_eq, um_k, um_j]; omega)) (fun r84 => ?_)
                  refine at_aldI dx_118_85 lc_878 ln_878 (by first | omega | (simp (disch := omega) only [um_eq, um_k, um_j]; omega)) (by first | omega | (simp (disch := omega) only [um_eq, um_k, um_j]; omega)) (fun r85 => ?_)
                  refine at_istore dx_118_86 ?_
                  refine at_aload dx_118_87 rfl ?_
                  refine at_iload dx_118_88 rfl ?_
                  refine at_const (x := 1) dx_118_89 rfl ?_
                  refine at_iload dx_118_90 rfl ?_
                  refine at_callVI dx_118_91 rfl lc_856 rfl (m_startOf r85 (by decide) r28 (by omega) (by omega) hN2) ?_
                  rintro x91 M9 r91 ⟨e9, h91⟩; replace e9 := e9.symm; subst e9
                  replace h91 := bg_of (by omega) h91
                  have q91 : -300 ≤ x91 ∧ x91 ≤ 300 := by rw [h91]; unfold bgN; (repeat' split) <;> omega
                  refine at_iload dx_118_92 rfl ?_
                  refine at_addR dx_118_93 (by constructor <;> omega) (fun r93 => ?_)
                  refine at_iload dx_118_94 rfl ?_
                  refine at_subR dx_118_95 (by constructor <;> omega) (fun r95 => ?_)
                  refine at_istore dx_118_96 ?_
                  refine at_aload dx_118_97 rfl ?_
                  refine at_getR dx_118_98 lc_856 rfl lt_856_27 ?_
                  refine at_iload dx_118_99 rfl ?_
                  refine at_aldI dx_118_100 lc_880 ln_880 (by first | omega | (simp (disch := omega) only [um_eq, um_k, um_j]; omega)) (by first | omega | (simp (disch := omega) only [um_eq, um_k, um_j]; omega)) (fun r100 => ?_)
                  refine at_const (x := 1) dx_118_101 rfl ?_
                  refine at_addR dx_118_102 (by constructor <;> omega) (fun r102 => ?_)
                  refine at_istore dx_118_103 ?_
                  refine at_goto dx_118_104 ?_
                  refine at_goto dx_118_116 ?_
                  refine at_wk (ls := [vr 856, vi _, vi _, vi _, vi _, vi _]) ⟨Or.inl rfl, Or.inl rfl, Or.inl rfl, Or.inl rfl, Or.inl rfl, Or.inl rfl, trivial⟩ ?_
                  first
                  | (exfalso; omega)
                  | (exact ih _ (by omega) _ _ _ r114 r115 (by omega) q114 (by omega) rfl (fe_tr F f114))
                  | (refine ih _ (by omega) _ _ _ r95 r102 (by omega) ?_ (by omega) rfl F
                     rcases h29 with h29 | ⟨j1, j2, j3, j4, j5, j6⟩
                     · omega
                     · obtain ⟨s1, s2, s3, s4⟩ := b5
                       rw [b3] at j5 j6 h42
                       rcases (show x29 = 0 ∨ x29 = 1 by omega) with e | e <;> subst e <;> simp [bgN, tkN] at h42 h91 j5 j6 <;> rw [lenW_mv] at d6 <;> omega)
                · skip
                  refine at_iload dx_118_71 rfl ?_
                  refine at_zneR dx_118_72 ry (fun c72 => ?_) (fun c72 => ?_)
                  · skip
                    refine at_const (x := 0) dx_118_75 rfl ?_
                    refine at_istore dx_118_76 ?_
                    refine at_iload dx_118_77 rfl ?_
                    refine at_zeqR dx_118_78 (by decide) (fun _ => ?_) (fun c => absurd c (by decide))
                    refine at_aload dx_118_105 rfl ?_
                    refine at_iload dx_118_106 rfl ?_
                    refine at_aload dx_118_107 rfl ?_
                    refine at_getR dx_118_108 lc_856 rfl lt_856_26 ?_
                    refine at_iload dx_118_109 rfl ?_
                    refine at_aldZ dx_118_110 lc_879 ln_879 (by first | omega | (simp (disch := omega) only [um_eq, um_k, um_j]; omega)) (by first | omega | (simp (disch := omega) only [um_eq, um_k, um_j]; omega)) (fun r110 => ?_)
                    refine at_iload dx_118_111 rfl ?_
                    refine at_iload dx_118_112 rfl ?_
                    refine at_callVI dx_118_113 rfl lc_856 rfl (m_maps (N := Ln k) (N2 := Ln (k + 1)) r11 rp ry (by omega) hv hn60 hz hp) ?_
                    rintro x113 M114 r114 ⟨f114, q114⟩
                    refine at_istore dx_118_114 ?_
                    refine at_iincR (y := 1) dx_118_115 rfl rfl (by constructor <;> omega) (fun r115 => ?_)
                    refine at_goto dx_118_116 ?_
                    refine at_wk (ls := [vr 856, vi _, vi _, vi _, vi _, vi _]) ⟨Or.inl rfl, Or.inl rfl, Or.inl rfl, Or.inl rfl, Or.inl rfl, Or.inl rfl, trivial⟩ ?_
                    first
                    | (exfalso; omega)
                    | (exact ih _ (by omega) _ _ _ r114 r115 (by omega) q114 (by omega) rfl (fe_tr F f114))
                    | (refine ih _ (by omega) _ _ _ r95 r102 (by omega) ?_ (by omega) rfl F
                       rcases h29 with h29 | ⟨j1, j2, j3, j4, j5, j6⟩
                       · omega
                       · obtain ⟨s1, s2, s3, s4⟩ := b5
                         rw [b3] at j5 j6 h42
                         rcases (show x29 = 0 ∨ x29 = 1 by omega) with e | e <;> subst e <;> simp [bgN, tkN] at h42 h91 j5 j6 <;> rw [lenW_mv] at d6 <;> omega)
                  · skip
                    refine at_const (x := 1) dx_118_73 rfl ?_
                    refine at_goto dx_118_74 ?_
                    refine at_istore dx_118_76 ?_
                    refine at_iload dx_118_77 rfl ?_
                    refine at_zeqR dx_118_78 (by decide) (fun c => absurd c (by decide)) (fun _ => ?_)
                    have hj29 : x29 ≠ -1 := by omega
                    have hb : M1 880 k ≠ -1 := by omega
                    obtain ⟨b1, b2, b3, b4, b5⟩ := a5.resolve_left hb
                    obtain ⟨d1, d2, d3, d4, -⟩ := hR1.2 (M1 880 k) (by omega) b2
                    obtain ⟨d5, d6⟩ : okW (mv M1 (M1 878 (M1 880 k))) (Ln (M1 880 k)) ∧ Ln (M1 880 k + 1) = lenW (mv M1 (M1 878 (M1 880 k))) (Ln (M1 880 k)) := by
                      rcases d4 with ⟨-, d5, d6⟩ | ⟨d5, -⟩
                      · exact ⟨d5, d6⟩
                      · omega
                    have hN2 := okW_N d5 d2.2
                    have hu2 := okW_u d5
                    have hrow := hR1.1
                    refine at_aload dx_118_79 rfl ?_
                    refine at_getR dx_118_80 lc_856 rfl lt_856_25 ?_
                    refine at_aload dx_118_81 rfl ?_
                    refine at_getR dx_118_82 lc_856 rfl lt_856_27 ?_
                    refine at_iload dx_118_83 rfl ?_
                    refine at_aldI dx_118_84 lc_880 ln_880 (by first | omega | (simp (disch := omega) only [um_eq, um_k, um_j]; omega)) (by first | omega | (simp (disch := omega) only [um_eq, um_k, um_j]; omega)) (fun r84 => ?_)
                    refine at_aldI dx_118_85 lc_878 ln_878 (by first | omega | (simp (disch := omega) only [um_eq, um_k, um_j]; omega)) (by first | omega | (simp (disch := omega) only [um_eq, um_k, um_j]; omega)) (fun r85 => ?_)
                    refine at_istore dx_118_86 ?_
                    refine at_aload dx_118_87 rfl ?_
                    refine at_iload dx_118_88 rfl ?_
                    refine at_const (x := 1) dx_118_89 rfl ?_
                    refine at_iload dx_118_90 rfl ?_
                    refine at_callVI dx_118_91 rfl lc_856 rfl (m_startOf r85 (by decide) r28 (by omega) (by omega) hN2) ?_
                    rintro x91 M9 r91 ⟨e9, h91⟩; replace e9 := e9.symm; subst e9
                    replace h91 := bg_of (by omega) h91
                    have q91 : -300 ≤ x91 ∧ x91 ≤ 300 := by rw [h91]; unfold bgN; (repeat' split) <;> omega
                    refine at_iload dx_118_92 rfl ?_
                    refine at_addR dx_118_93 (by constructor <;> omega) (fun r93 => ?_)
                    refine at_iload dx_118_94 rfl ?_
                    refine at_subR dx_118_95 (by constructor <;> omega) (fun r95 => ?_)
                    refine at_istore dx_118_96 ?_
                    refine at_aload dx_118_97 rfl ?_
                    refine at_getR dx_118_98 lc_856 rfl lt_856_27 ?_
                    refine at_iload dx_118_99 rfl ?_
                    refine at_aldI dx_118_100 lc_880 ln_880 (by first | omega | (simp (disch := omega) only [um_eq, um_k, um_j]; omega)) (by first | omega | (simp (disch := omega) only [um_eq, um_k, um_j]; omega)) (fun r100 => ?_)
                    refine at_const (x := 1) dx_118_101 rfl ?_
                    refine at_addR dx_118_102 (by constructor <;> omega) (fun r102 => ?_)
                    refine at_istore dx_118_103 ?_
                    refine at_goto dx_118_104 ?_
                    refine at_goto dx_118_116 ?_
                    refine at_wk (ls := [vr 856, vi _, vi _, vi _, vi _, vi _]) ⟨Or.inl rfl, Or.inl rfl, Or.inl rfl, Or.inl rfl, Or.inl rfl, Or.inl rfl, trivial⟩ ?_
                    first
                    | (exfalso; omega)
                    | (exact ih _ (by omega) _ _ _ r114 r115 (by omega) q114 (by omega) rfl (fe_tr F f114))
                    | (refine ih _ (by omega) _ _ _ r95 r102 (by omega) ?_ (by omega) rfl F
                       rcases h29 with h29 | ⟨j1, j2, j3, j4, j5, j6⟩
                       · omega
                       · obtain ⟨s1, s2, s3, s4⟩ := b5
                         rw [b3] at j5 j6 h42
                         rcases (show x29 = 0 ∨ x29 = 1 by omega) with e | e <;> subst e <;> simp [bgN, tkN] at h42 h91 j5 j6 <;> rw [lenW_mv] at d6 <;> omega)
              · skip
                refine at_iload dx_118_66 rfl ?_
                refine at_zeqR dx_118_67 ry (fun c67 => ?_) (fun c67 => ?_)
                · skip
                  refine at_const (x := 0) dx_118_75 rfl ?_
                  refine at_istore dx_118_76 ?_
                  refine at_iload dx_118_77 rfl ?_
                  refine at_zeqR dx_118_78 (by decide) (fun _ => ?_) (fun c => absurd c (by decide))
                  refine at_aload dx_118_105 rfl ?_
                  refine at_iload dx_118_106 rfl ?_
                  refine at_aload dx_118_107 rfl ?_
                  refine at_getR dx_118_108 lc_856 rfl lt_856_26 ?_
                  refine at_iload dx_118_109 rfl ?_
                  refine at_aldZ dx_118_110 lc_879 ln_879 (by first | omega | (simp (disch := omega) only [um_eq, um_k, um_j]; omega)) (by first | omega | (simp (disch := omega) only [um_eq, um_k, um_j]; omega)) (fun r110 => ?_)
                  refine at_iload dx_118_111 rfl ?_
                  refine at_iload dx_118_112 rfl ?_
                  refine at_callVI dx_118_113 rfl lc_856 rfl (m_maps (N := Ln k) (N2 := Ln (k + 1)) r11 rp ry (by omega) hv hn60 hz hp) ?_
                  rintro x113 M114 r114 ⟨f114, q114⟩
                  refine at_istore dx_118_114 ?_
                  refine at_iincR (y := 1) dx_118_115 rfl rfl (by constructor <;> omega) (fun r115 => ?_)
                  refine at_goto dx_118_116 ?_
                  refine at_wk (ls := [vr 856, vi _, vi _, vi _, vi _, vi _]) ⟨Or.inl rfl, Or.inl rfl, Or.inl rfl, Or.inl rfl, Or.inl rfl, Or.inl rfl, trivial⟩ ?_
                  first
                  | (exfalso; omega)
                  | (exact ih _ (by omega) _ _ _ r114 r115 (by omega) q114 (by omega) rfl (fe_tr F f114))
                  | (refine ih _ (by omega) _ _ _ r95 r102 (by omega) ?_ (by omega) rfl F
                     rcases h29 with h29 | ⟨j1, j2, j3, j4, j5, j6⟩
                     · omega
                     · obtain ⟨s1, s2, s3, s4⟩ := b5
                       rw [b3] at j5 j6 h42
                       rcases (show x29 = 0 ∨ x29 = 1 by omega) with e | e <;> subst e <;> simp [bgN, tkN] at h42 h91 j5 j6 <;> rw [lenW_mv] at d6 <;> omega)
                · skip
                  refine at_iload dx_118_68 rfl ?_
                  refine at_iload dx_118_69 rfl ?_
                  refine at_cneR dx_118_70 rp r58 (fun c70 => ?_) (fun c70 => ?_)
                  · skip
                    refine at_const (x := 1) dx_118_73 rfl ?_
                    refine at_goto dx_118_74 ?_
                    refine at_istore dx_118_76 ?_
                    refine at_iload dx_118_77 rfl ?_
                    refine at_zeqR dx_118_78 (by decide) (fun c => absurd c (by decide)) (fun _ => ?_)
                    have hj29 : x29 ≠ -1 := by omega
                    have hb : M1 880 k ≠ -1 := by omega
                    obtain ⟨b1, b2, b3, b4, b5⟩ := a5.resolve_left hb
                    obtain ⟨d1, d2, d3, d4, -⟩ := hR1.2 (M1 880 k) (by omega) b2
                    obtain ⟨d5, d6⟩ : okW (mv M1 (M1 878 (M1 880 k))) (Ln (M1 880 k)) ∧ Ln (M1 880 k + 1) = lenW (mv M1 (M1 878 (M1 880 k))) (Ln (M1 880 k)) := by
                      rcases d4 with ⟨-, d5, d6⟩ | ⟨d5, -⟩
                      · exact ⟨d5, d6⟩
                      · omega
                    have hN2 := okW_N d5 d2.2
                    have hu2 := okW_u d5
                    have hrow := hR1.1
                    refine at_aload dx_118_79 rfl ?_
                    refine at_getR dx_118_80 lc_856 rfl lt_856_25 ?_
                    refine at_aload dx_118_81 rfl ?_
                    refine at_getR dx_118_82 lc_856 rfl lt_856_27 ?_
                    refine at_iload dx_118_83 rfl ?_
                    refine at_aldI dx_118_84 lc_880 ln_880 (by first | omega | (simp (disch := omega) only [um_eq, um_k, um_j]; omega)) (by first | omega | (simp (disch := omega) only [um_eq, um_k, um_j]; omega)) (fun r84 => ?_)
                    refine at_aldI dx_118_85 lc_878 ln_878 (by first | omega | (simp (disch := omega) only [um_eq, um_k, um_j]; omega)) (by first | omega | (simp (disch := omega) only [um_eq, um_k, um_j]; omega)) (fun r85 => ?_)
                    refine at_istore dx_118_86 ?_
                    refine at_aload dx_118_87 rfl ?_
                    refine at_iload dx_118_88 rfl ?_
                    refine at_const (x := 1) dx_118_89 rfl ?_
                    refine at_iload dx_118_90 rfl ?_
                    refine at_callVI dx_118_91 rfl lc_856 rfl (m_startOf r85 (by decide) r28 (by omega) (by omega) hN2) ?_
                    rintro x91 M9 r91 ⟨e9, h91⟩; replace e9 := e9.symm; subst e9
                    replace h91 := bg_of (by omega) h91
                    have q91 : -300 ≤ x91 ∧ x91 ≤ 300 := by rw [h91]; unfold bgN; (repeat' split) <;> omega
                    refine at_iload dx_118_92 rfl ?_
                    refine at_addR dx_118_93 (by constructor <;> omega) (fun r93 => ?_)
                    refine at_iload dx_118_94 rfl ?_
                    refine at_subR dx_118_95 (by constructor <;> omega) (fun r95 => ?_)
                    refine at_istore dx_118_96 ?_
                    refine at_aload dx_118_97 rfl ?_
                    refine at_getR dx_118_98 lc_856 rfl lt_856_27 ?_
                    refine at_iload dx_118_99 rfl ?_
                    refine at_aldI dx_118_100 lc_880 ln_880 (by first | omega | (simp (disch := omega) only [um_eq, um_k, um_j]; omega)) (by first | omega | (simp (disch := omega) only [um_eq, um_k, um_j]; omega)) (fun r100 => ?_)
                    refine at_const (x := 1) dx_118_101 rfl ?_
                    refine at_addR dx_118_102 (by constructor <;> omega) (fun r102 => ?_)
                    refine at_istore dx_118_103 ?_
                    refine at_goto dx_118_104 ?_
                    refine at_goto dx_118_116 ?_
                    refine at_wk (ls := [vr 856, vi _, vi _, vi _, vi _, vi _]) ⟨Or.inl rfl, Or.inl rfl, Or.inl rfl, Or.inl rfl, Or.inl rfl, Or.inl rfl, trivial⟩ ?_
                    first
                    | (exfalso; omega)
                    | (exact ih _ (by omega) _ _ _ r114 r115 (by omega) q114 (by omega) rfl (fe_tr F f114))
                    | (refine ih _ (by omega) _ _ _ r95 r102 (by omega) ?_ (by omega) rfl F
                       rcases h29 with h29 | ⟨j1, j2, j3, j4, j5, j6⟩
                       · omega
                       · obtain ⟨s1, s2, s3, s4⟩ := b5
                         rw [b3] at j5 j6 h42
                         rcases (show x29 = 0 ∨ x29 = 1 by omega) with e | e <;> subst e <;> simp [bgN, tkN] at h42 h91 j5 j6 <;> rw [lenW_mv] at d6 <;> omega)
                  · skip
                    refine at_iload dx_118_71 rfl ?_
                    refine at_zneR dx_118_72 ry (fun c72 => ?_) (fun c72 => ?_)
                    · skip
                      refine at_const (x := 0) dx_118_75 rfl ?_
                      refine at_istore dx_118_76 ?_
                      refine at_iload dx_118_77 rfl ?_
                      refine at_zeqR dx_118_78 (by decide) (fun _ => ?_) (fun c => absurd c (by decide))
                      refine at_aload dx_118_105 rfl ?_
                      refine at_iload dx_118_106 rfl ?_
                      refine at_aload dx_118_107 rfl ?_
                      refine at_getR dx_118_108 lc_856 rfl lt_856_26 ?_
                      refine at_iload dx_118_109 rfl ?_
                      refine at_aldZ dx_118_110 lc_879 ln_879 (by first | omega | (simp (disch := omega) only [um_eq, um_k, um_j]; omega)) (by first | omega | (simp (disch := omega) only [um_eq, um_k, um_j]; omega)) (fun r110 => ?_)
                      refine at_iload dx_118_111 rfl ?_
                      refine at_iload dx_118_112 rfl ?_
                      refine at_callVI dx_118_113 rfl lc_856 rfl (m_maps (N := Ln k) (N2 := Ln (k + 1)) r11 rp ry (by omega) hv hn60 hz hp) ?_
                      rintro x113 M114 r114 ⟨f114, q114⟩
                      refine at_istore dx_118_114 ?_
                      refine at_iincR (y := 1) dx_118_115 rfl rfl (by constructor <;> omega) (fun r115 => ?_)
                      refine at_goto dx_118_116 ?_
                      refine at_wk (ls := [vr 856, vi _, vi _, vi _, vi _, vi _]) ⟨Or.inl rfl, Or.inl rfl, Or.inl rfl, Or.inl rfl, Or.inl rfl, Or.inl rfl, trivial⟩ ?_
                      first
                      | (exfalso; omega)
                      | (exact ih _ (by omega) _ _ _ r114 r115 (by omega) q114 (by omega) rfl (fe_tr F f114))
                      | (refine ih _ (by omega) _ _ _ r95 r102 (by omega) ?_ (by omega) rfl F
                         rcases h29 with h29 | ⟨j1, j2, j3, j4, j5, j6⟩
                         · omega
                         · obtain ⟨s1, s2, s3, s4⟩ := b5
                           rw [b3] at j5 j6 h42
                           rcases (show x29 = 0 ∨ x29 = 1 by omega) with e | e <;> subst e <;> simp [bgN, tkN] at h42 h91 j5 j6 <;> rw [lenW_mv] at d6 <;> omega)
                    · skip
                      refine at_const (x := 1) dx_118_73 rfl ?_
                      refine at_goto dx_118_74 ?_
                      refine at_istore dx_118_76 ?_
                      refine at_iload dx_118_77 rfl ?_
                      refine at_zeqR dx_118_78 (by decide) (fun c => absurd c (by decide)) (fun _ => ?_)
                      have hj29 : x29 ≠ -1 := by omega
                      have hb : M1 880 k ≠ -1 := by omega
                      obtain ⟨b1, b2, b3, b4, b5⟩ := a5.resolve_left hb
                      obtain ⟨d1, d2, d3, d4, -⟩ := hR1.2 (M1 880 k) (by omega) b2
                      obtain ⟨d5, d6⟩ : okW (mv M1 (M1 878 (M1 880 k))) (Ln (M1 880 k)) ∧ Ln (M1 880 k + 1) = lenW (mv M1 (M1 878 (M1 880 k))) (Ln (M1 880 k)) := by
                        rcases d4 with ⟨-, d5, d6⟩ | ⟨d5, -⟩
                        · exact ⟨d5, d6⟩
                        · omega
                      have hN2 := okW_N d5 d2.2
                      have hu2 := okW_u d5
                      have hrow := hR1.1
                      refine at_aload dx_118_79 rfl ?_
                      refine at_getR dx_118_80 lc_856 rfl lt_856_25 ?_
                      refine at_aload dx_118_81 rfl ?_
                      refine at_getR dx_118_82 lc_856 rfl lt_856_27 ?_
                      refine at_iload dx_118_83 rfl ?_
                      refine at_aldI dx_118_84 lc_880 ln_880 (by first | omega | (simp (disch := omega) only [um_eq, um_k, um_j]; omega)) (by first | omega | (simp (disch := omega) only [um_eq, um_k, um_j]; omega)) (fun r84 => ?_)
                      refine at_aldI dx_118_85 lc_878 ln_878 (by first | omega | (simp (disch := omega) only [um_eq, um_k, um_j]; omega)) (by first | omega | (simp (disch := omega) only [um_eq, um_k, um_j]; omega)) (fun r85 => ?_)
                      refine at_istore dx_118_86 ?_
                      refine at_aload dx_118_87 rfl ?_
                      refine at_iload dx_118_88 rfl ?_
                      refine at_const (x := 1) dx_118_89 rfl ?_
                      refine at_iload dx_118_90 rfl ?_
                      refine at_callVI dx_118_91 rfl lc_856 rfl (m_startOf r85 (by decide) r28 (by omega) (by omega) hN2) ?_
                      rintro x91 M9 r91 ⟨e9, h91⟩; replace e9 := e9.symm; subst e9
                      replace h91 := bg_of (by omega) h91
                      have q91 : -300 ≤ x91 ∧ x91 ≤ 300 := by rw [h91]; unfold bgN; (repeat' split) <;> omega
                      refine at_iload dx_118_92 rfl ?_
                      refine at_addR dx_118_93 (by constructor <;> omega) (fun r93 => ?_)
                      refine at_iload dx_118_94 rfl ?_
                      refine at_subR dx_118_95 (by constructor <;> omega) (fun r95 => ?_)
                      refine at_istore dx_118_96 ?_
                      refine at_aload dx_118_97 rfl ?_
                      refine at_getR dx_118_98 lc_856 rfl lt_856_27 ?_
                      refine at_iload dx_118_99 rfl ?_
                      refine at_aldI dx_118_100 lc_880 ln_880 (by first | omega | (simp (disch := omega) only [um_eq, um_k, um_j]; omega)) (by first | omega | (simp (disch := omega) only [um_eq, um_k, um_j]; omega)) (fun r100 => ?_)
                      refine at_const (x := 1) dx_118_101 rfl ?_
                      refine at_addR dx_118_102 (by constructor <;> omega) (fun r102 => ?_)
                      refine at_istore dx_118_103 ?_
                      refine at_goto dx_118_104 ?_
                      refine at_goto dx_118_116 ?_
                      refine at_wk (ls := [vr 856, vi _, vi _, vi _, vi _, vi _]) ⟨Or.inl rfl, Or.inl rfl, Or.inl rfl, Or.inl rfl, Or.inl rfl, Or.inl rfl, trivial⟩ ?_
                      first
                      | (exfalso; omega)
                      | (exact ih _ (by omega) _ _ _ r114 r115 (by omega) q114 (by omega) rfl (fe_tr F f114))
                      | (refine ih _ (by omega) _ _ _ r95 r102 (by omega) ?_ (by omega) rfl F
                         rcases h29 with h29 | ⟨j1, j2, j3, j4, j5, j6⟩
                         · omega
                         · obtain ⟨s1, s2, s3, s4⟩ := b5
                           rw [b3] at j5 j6 h42
                           rcases (show x29 = 0 ∨ x29 = 1 by omega) with e | e <;> subst e <;> simp [bgN, tkN] at h42 h91 j5 j6 <;> rw [lenW_mv] at d6 <;> omega)
          · skip
            refine at_const (x := 0) dx_118_47 rfl ?_
            refine at_goto dx_118_48 ?_
            refine at_istore dx_118_59 ?_
            refine at_iload dx_118_60 rfl ?_
            refine at_const (x := -1) dx_118_61 rfl ?_
            refine at_ceqR dx_118_62 r28 (by decide) (fun c62 => ?_) (fun c62 => ?_)
            · skip
              refine at_const (x := 0) dx_118_75 rfl ?_
              refine at_istore dx_118_76 ?_
              refine at_iload dx_118_77 rfl ?_
              refine at_zeqR dx_118_78 (by decide) (fun _ => ?_) (fun c => absurd c (by decide))
              refine at_aload dx_118_105 rfl ?_
              refine at_iload dx_118_106 rfl ?_
              refine at_aload dx_118_107 rfl ?_
              refine at_getR dx_118_108 lc_856 rfl lt_856_26 ?_
              refine at_iload dx_118_109 rfl ?_
              refine at_aldZ dx_118_110 lc_879 ln_879 (by first | omega | (simp (disch := omega) only [um_eq, um_k, um_j]; omega)) (by first | omega | (simp (disch := omega) only [um_eq, um_k, um_j]; omega)) (fun r110 => ?_)
              refine at_iload dx_118_111 rfl ?_
              refine at_iload dx_118_112 rfl ?_
              refine at_callVI dx_118_113 rfl lc_856 rfl (m_maps (N := Ln k) (N2 := Ln (k + 1)) r11 rp ry (by omega) hv hn60 hz hp) ?_
              rintro x113 M114 r114 ⟨f114, q114⟩
              refine at_istore dx_118_114 ?_
              refine at_iincR (y := 1) dx_118_115 rfl rfl (by constructor <;> omega) (fun r115 => ?_)
              refine at_goto dx_118_116 ?_
              refine at_wk (ls := [vr 856, vi _, vi _, vi _, vi _, vi _]) ⟨Or.inl rfl, Or.inl rfl, Or.inl rfl, Or.inl rfl, Or.inl rfl, Or.inl rfl, trivial⟩ ?_
              first
              | (exfalso; omega)
              | (exact ih _ (by omega) _ _ _ r114 r115 (by omega) q114 (by omega) rfl (fe_tr F f114))
              | (refine ih _ (by omega) _ _ _ r95 r102 (by omega) ?_ (by omega) rfl F
                 rcases h29 with h29 | ⟨j1, j2, j3, j4, j5, j6⟩
                 · omega
                 · obtain ⟨s1, s2, s3, s4⟩ := b5
                   rw [b3] at j5 j6 h42
                   rcases (show x29 = 0 ∨ x29 = 1 by omega) with e | e <;> subst e <;> simp [bgN, tkN] at h42 h91 j5 j6 <;> rw [lenW_mv] at d6 <;> omega)
            · skip
              refine at_iload dx_118_63 rfl ?_
              refine at_iload dx_118_64 rfl ?_
              refine at_cneR dx_118_65 rp r42 (fun c65 => ?_) (fun c65 => ?_)
              · skip
                refine at_iload dx_118_68 rfl ?_
                refine at_iload dx_118_69 rfl ?_
                refine at_cneR dx_118_70 rp (by decide) (fun c70 => ?_) (fun c70 => ?_)
                · skip
                  refine at_const (x := 1) dx_118_73 rfl ?_
                  refine at_goto dx_118_74 ?_
                  refine at_istore dx_118_76 ?_
                  refine at_iload dx_118_77 rfl ?_
                  refine at_zeqR dx_118_78 (by decide) (fun c => absurd c (by decide)) (fun _ => ?_)
                  have hj29 : x29 ≠ -1 := by omega
                  have hb : M1 880 k ≠ -1 := by omega
                  obtain ⟨b1, b2, b3, b4, b5⟩ := a5.resolve_left hb
                  obtain ⟨d1, d2, d3, d4, -⟩ := hR1.2 (M1 880 k) (by omega) b2
                  obtain ⟨d5, d6⟩ : okW (mv M1 (M1 878 (M1 880 k))) (Ln (M1 880 k)) ∧ Ln (M1 880 k + 1) = lenW (mv M1 (M1 878 (M1 880 k))) (Ln (M1 880 k)) := by
                    rcases d4 with ⟨-, d5, d6⟩ | ⟨d5, -⟩
                    · exact ⟨d5, d6⟩
                    · omega
                  have hN2 := okW_N d5 d2.2
                  have hu2 := okW_u d5
                  have hrow := hR1.1
                  refine at_aload dx_118_79 rfl ?_
                  refine at_getR dx_118_80 lc_856 rfl lt_856_25 ?_
                  refine at_aload dx_118_81 rfl ?_
                  refine at_getR dx_118_82 lc_856 rfl lt_856_27 ?_
                  refine at_iload dx_118_83 rfl ?_
                  refine at_aldI dx_118_84 lc_880 ln_880 (by first | omega | (simp (disch := omega) only [um_eq, um_k, um_j]; omega)) (by first | omega | (simp (disch := omega) only [um_eq, um_k, um_j]; omega)) (fun r84 => ?_)
                  refine at_aldI dx_118_85 lc_878 ln_878 (by first | omega | (simp (disch := omega) only [um_eq, um_k, um_j]; omega)) (by first | omega | (simp (disch := omega) only [um_eq, um_k, um_j]; omega)) (fun r85 => ?_)
                  refine at_istore dx_118_86 ?_
                  refine at_aload dx_118_87 rfl ?_
                  refine at_iload dx_118_88 rfl ?_
                  refine at_const (x := 1) dx_118_89 rfl ?_
                  refine at_iload dx_118_90 rfl ?_
                  refine at_callVI dx_118_91 rfl lc_856 rfl (m_startOf r85 (by decide) r28 (by omega) (by omega) hN2) ?_
                  rintro x91 M9 r91 ⟨e9, h91⟩; replace e9 := e9.symm; subst e9
                  replace h91 := bg_of (by omega) h91
                  have q91 : -300 ≤ x91 ∧ x91 ≤ 300 := by rw [h91]; unfold bgN; (repeat' split) <;> omega
                  refine at_iload dx_118_92 rfl ?_
                  refine at_addR dx_118_93 (by constructor <;> omega) (fun r93 => ?_)
                  refine at_iload dx_118_94 rfl ?_
                  refine at_subR dx_118_95 (by constructor <;> omega) (fun r95 => ?_)
                  refine at_istore dx_118_96 ?_
                  refine at_aload dx_118_97 rfl ?_
                  refine at_getR dx_118_98 lc_856 rfl lt_856_27 ?_
                  refine at_iload dx_118_99 rfl ?_
                  refine at_aldI dx_118_100 lc_880 ln_880 (by first | omega | (simp (disch := omega) only [um_eq, um_k, um_j]; omega)) (by first | omega | (simp (disch := omega) only [um_eq, um_k, um_j]; omega)) (fun r100 => ?_)
                  refine at_const (x := 1) dx_118_101 rfl ?_
                  refine at_addR dx_118_102 (by constructor <;> omega) (fun r102 => ?_)
                  refine at_istore dx_118_103 ?_
                  refine at_goto dx_118_104 ?_
                  refine at_goto dx_118_116 ?_
                  refine at_wk (ls := [vr 856, vi _, vi _, vi _, vi _, vi _]) ⟨Or.inl rfl, Or.inl rfl, Or.inl rfl, Or.inl rfl, Or.inl rfl, Or.inl rfl, trivial⟩ ?_
                  first
                  | (exfalso; omega)
                  | (exact ih _ (by omega) _ _ _ r114 r115 (by omega) q114 (by omega) rfl (fe_tr F f114))
                  | (refine ih _ (by omega) _ _ _ r95 r102 (by omega) ?_ (by omega) rfl F
                     rcases h29 with h29 | ⟨j1, j2, j3, j4, j5, j6⟩
                     · omega
                     · obtain ⟨s1, s2, s3, s4⟩ := b5
                       rw [b3] at j5 j6 h42
                       rcases (show x29 = 0 ∨ x29 = 1 by omega) with e | e <;> subst e <;> simp [bgN, tkN] at h42 h91 j5 j6 <;> rw [lenW_mv] at d6 <;> omega)
                · skip
                  refine at_iload dx_118_71 rfl ?_
                  refine at_zneR dx_118_72 ry (fun c72 => ?_) (fun c72 => ?_)
                  · skip
                    refine at_const (x := 0) dx_118_75 rfl ?_
                    refine at_istore dx_118_76 ?_
                    refine at_iload dx_118_77 rfl ?_
                    refine at_zeqR dx_118_78 (by decide) (fun _ => ?_) (fun c => absurd c (by decide))
                    refine at_aload dx_118_105 rfl ?_
                    refine at_iload dx_118_106 rfl ?_
                    refine at_aload dx_118_107 rfl ?_
                    refine at_getR dx_118_108 lc_856 rfl lt_856_26 ?_
                    refine at_iload dx_118_109 rfl ?_
                    refine at_aldZ dx_118_110 lc_879 ln_879 (by first | omega | (simp (disch := omega) only [um_eq, um_k, um_j]; omega)) (by first | omega | (simp (disch := omega) only [um_eq, um_k, um_j]; omega)) (fun r110 => ?_)
                    refine at_iload dx_118_111 rfl ?_
                    refine at_iload dx_118_112 rfl ?_
                    refine at_callVI dx_118_113 rfl lc_856 rfl (m_maps (N := Ln k) (N2 := Ln (k + 1)) r11 rp ry (by omega) hv hn60 hz hp) ?_
                    rintro x113 M114 r114 ⟨f114, q114⟩
                    refine at_istore dx_118_114 ?_
                    refine at_iincR (y := 1) dx_118_115 rfl rfl (by constructor <;> omega) (fun r115 => ?_)
                    refine at_goto dx_118_116 ?_
                    refine at_wk (ls := [vr 856, vi _, vi _, vi _, vi _, vi _]) ⟨Or.inl rfl, Or.inl rfl, Or.inl rfl, Or.inl rfl, Or.inl rfl, Or.inl rfl, trivial⟩ ?_
                    first
                    | (exfalso; omega)
                    | (exact ih _ (by omega) _ _ _ r114 r115 (by omega) q114 (by omega) rfl (fe_tr F f114))
                    | (refine ih _ (by omega) _ _ _ r95 r102 (by omega) ?_ (by omega) rfl F
                       rcases h29 with h29 | ⟨j1, j2, j3, j4, j5, j6⟩
                       · omega
                       · obtain ⟨s1, s2, s3, s4⟩ := b5
                         rw [b3] at j5 j6 h42
                         rcases (show x29 = 0 ∨ x29 = 1 by omega) with e | e <;> subst e <;> simp [bgN, tkN] at h42 h91 j5 j6 <;> rw [lenW_mv] at d6 <;> omega)
                  · skip
                    refine at_const (x := 1) dx_118_73 rfl ?_
                    refine at_goto dx_118_74 ?_
                    refine at_istore dx_118_76 ?_
                    refine at_iload dx_118_77 rfl ?_
                    refine at_zeqR dx_118_78 (by decide) (fun c => absurd c (by decide)) (fun _ => ?_)
                    have hj29 : x29 ≠ -1 := by omega
                    have hb : M1 880 k ≠ -1 := by omega
                    obtain ⟨b1, b2, b3, b4, b5⟩ := a5.resolve_left hb
                    obtain ⟨d1, d2, d3, d4, -⟩ := hR1.2 (M1 880 k) (by omega) b2
                    obtain ⟨d5, d6⟩ : okW (mv M1 (M1 878 (M1 880 k))) (Ln (M1 880 k)) ∧ Ln (M1 880 k + 1) = lenW (mv M1 (M1 878 (M1 880 k))) (Ln (M1 880 k)) := by
                      rcases d4 with ⟨-, d5, d6⟩ | ⟨d5, -⟩
                      · exact ⟨d5, d6⟩
                      · omega
                    have hN2 := okW_N d5 d2.2
                    have hu2 := okW_u d5
                    have hrow := hR1.1
                    refine at_aload dx_118_79 rfl ?_
                    refine at_getR dx_118_80 lc_856 rfl lt_856_25 ?_
                    refine at_aload dx_118_81 rfl ?_
                    refine at_getR dx_118_82 lc_856 rfl lt_856_27 ?_
                    refine at_iload dx_118_83 rfl ?_
                    refine at_aldI dx_118_84 lc_880 ln_880 (by first | omega | (simp (disch := omega) only [um_eq, um_k, um_j]; omega)) (by first | omega | (simp (disch := omega) only [um_eq, um_k, um_j]; omega)) (fun r84 => ?_)
                    refine at_aldI dx_118_85 lc_878 ln_878 (by first | omega | (simp (disch := omega) only [um_eq, um_k, um_j]; omega)) (by first | omega | (simp (disch := omega) only [um_eq, um_k, um_j]; omega)) (fun r85 => ?_)
                    refine at_istore dx_118_86 ?_
                    refine at_aload dx_118_87 rfl ?_
                    refine at_iload dx_118_88 rfl ?_
                    refine at_const (x := 1) dx_118_89 rfl ?_
                    refine at_iload dx_118_90 rfl ?_
                    refine at_callVI dx_118_91 rfl lc_856 rfl (m_startOf r85 (by decide) r28 (by omega) (by omega) hN2) ?_
                    rintro x91 M9 r91 ⟨e9, h91⟩; replace e9 := e9.symm; subst e9
                    replace h91 := bg_of (by omega) h91
                    have q91 : -300 ≤ x91 ∧ x91 ≤ 300 := by rw [h91]; unfold bgN; (repeat' split) <;> omega
                    refine at_iload dx_118_92 rfl ?_
                    refine at_addR dx_118_93 (by constructor <;> omega) (fun r93 => ?_)
                    refine at_iload dx_118_94 rfl ?_
                    refine at_subR dx_118_95 (by constructor <;> omega) (fun r95 => ?_)
                    refine at_istore dx_118_96 ?_
                    refine at_aload dx_118_97 rfl ?_
                    refine at_getR dx_118_98 lc_856 rfl lt_856_27 ?_
                    refine at_iload dx_118_99 rfl ?_
                    refine at_aldI dx_118_100 lc_880 ln_880 (by first | omega | (simp (disch := omega) only [um_eq, um_k, um_j]; omega)) (by first | omega | (simp (disch := omega) only [um_eq, um_k, um_j]; omega)) (fun r100 => ?_)
                    refine at_const (x := 1) dx_118_101 rfl ?_
                    refine at_addR dx_118_102 (by constructor <;> omega) (fun r102 => ?_)
                    refine at_istore dx_118_103 ?_
                    refine at_goto dx_118_104 ?_
                    refine at_goto dx_118_116 ?_
                    refine at_wk (ls := [vr 856, vi _, vi _, vi _, vi _, vi _]) ⟨Or.inl rfl, Or.inl rfl, Or.inl rfl, Or.inl rfl, Or.inl rfl, Or.inl rfl, trivial⟩ ?_
                    first
                    | (exfalso; omega)
                    | (exact ih _ (by omega) _ _ _ r114 r115 (by omega) q114 (by omega) rfl (fe_tr F f114))
                    | (refine ih _ (by omega) _ _ _ r95 r102 (by omega) ?_ (by omega) rfl F
                       rcases h29 with h29 | ⟨j1, j2, j3, j4, j5, j6⟩
                       · omega
                       · obtain ⟨s1, s2, s3, s4⟩ := b5
                         rw [b3] at j5 j6 h42
                         rcases (show x29 = 0 ∨ x29 = 1 by omega) with e | e <;> subst e <;> simp [bgN, tkN] at h42 h91 j5 j6 <;> rw [lenW_mv] at d6 <;> omega)
              · skip
                refine at_iload dx_118_66 rfl ?_
                refine at_zeqR dx_118_67 ry (fun c67 => ?_) (fun c67 => ?_)
                · skip
                  refine at_const (x := 0) dx_118_75 rfl ?_
                  refine at_istore dx_118_76 ?_
                  refine at_iload dx_118_77 rfl ?_
                  refine at_zeqR dx_118_78 (by decide) (fun _ => ?_) (fun c => absurd c (by decide))
                  refine at_aload dx_118_105 rfl ?_
                  refine at_iload dx_118_106 rfl ?_
                  refine at_aload dx_118_107 rfl ?_
                  refine at_getR dx_118_108 lc_856 rfl lt_856_26 ?_
                  refine at_iload dx_118_109 rfl ?_
                  refine at_aldZ dx_118_110 lc_879 ln_879 (by first | omega | (simp (disch := omega) only [um_eq, um_k, um_j]; omega)) (by first | omega | (simp (disch := omega) only [um_eq, um_k, um_j]; omega)) (fun r110 => ?_)
                  refine at_iload dx_118_111 rfl ?_
                  refine at_iload dx_118_112 rfl ?_
                  refine at_callVI dx_118_113 rfl lc_856 rfl (m_maps (N := Ln k) (N2 := Ln (k + 1)) r11 rp ry (by omega) hv hn60 hz hp) ?_
                  rintro x113 M114 r114 ⟨f114, q114⟩
                  refine at_istore dx_118_114 ?_
                  refine at_iincR (y := 1) dx_118_115 rfl rfl (by constructor <;> omega) (fun r115 => ?_)
                  refine at_goto dx_118_116 ?_
                  refine at_wk (ls := [vr 856, vi _, vi _, vi _, vi _, vi _]) ⟨Or.inl rfl, Or.inl rfl, Or.inl rfl, Or.inl rfl, Or.inl rfl, Or.inl rfl, trivial⟩ ?_
                  first
                  | (exfalso; omega)
                  | (exact ih _ (by omega) _ _ _ r114 r115 (by omega) q114 (by omega) rfl (fe_tr F f114))
                  | (refine ih _ (by omega) _ _ _ r95 r102 (by omega) ?_ (by omega) rfl F
                     rcases h29 with h29 | ⟨j1, j2, j3, j4, j5, j6⟩
                     · omega
                     · obtain ⟨s1, s2, s3, s4⟩ := b5
                       rw [b3] at j5 j6 h42
                       rcases (show x29 = 0 ∨ x29 = 1 by omega) with e | e <;> subst e <;> simp [bgN, tkN] at h42 h91 j5 j6 <;> rw [lenW_mv] at d6 <;> omega)
                · skip
                  refine at_iload dx_118_68 rfl ?_
                  refine at_iload dx_118_69 rfl ?_
                  refine at_cneR dx_118_70 rp (by decide) (fun c70 => ?_) (fun c70 => ?_)
                  · skip
                    refine at_const (x := 1) dx_118_73 rfl ?_
                    refine at_goto dx_118_74 ?_
                    refine at_istore dx_118_76 ?_
                    refine at_iload dx_118_77 rfl ?_
                    refine at_zeqR dx_118_78 (by decide) (fun c => absurd c (by decide)) (fun _ => ?_)
                    have hj29 : x29 ≠ -1 := by omega
                    have hb : M1 880 k ≠ -1 := by omega
                    obtain ⟨b1, b2, b3, b4, b5⟩ := a5.resolve_left hb
                    obtain ⟨d1, d2, d3, d4, -⟩ := hR1.2 (M1 880 k) (by omega) b2
                    obtain ⟨d5, d6⟩ : okW (mv M1 (M1 878 (M1 880 k))) (Ln (M1 880 k)) ∧ Ln (M1 880 k + 1) = lenW (mv M1 (M1 878 (M1 880 k))) (Ln (M1 880 k)) := by
                      rcases d4 with ⟨-, d5, d6⟩ | ⟨d5, -⟩
                      · exact ⟨d5, d6⟩
                      · omega
                    have hN2 := okW_N d5 d2.2
                    have hu2 := okW_u d5
                    have hrow := hR1.1
                    refine at_aload dx_118_79 rfl ?_
                    refine at_getR dx_118_80 lc_856 rfl lt_856_25 ?_
                    refine at_aload dx_118_81 rfl ?_
                    refine at_getR dx_118_82 lc_856 rfl lt_856_27 ?_
                    refine at_iload dx_118_83 rfl ?_
                    refine at_aldI dx_118_84 lc_880 ln_880 (by first | omega | (simp (disch := omega) only [um_eq, um_k, um_j]; omega)) (by first | omega | (simp (disch := omega) only [um_eq, um_k, um_j]; omega)) (fun r84 => ?_)
                    refine at_aldI dx_118_85 lc_878 ln_878 (by first | omega | (simp (disch := omega) only [um_eq, um_k, um_j]; omega)) (by first | omega | (simp (disch := omega) only [um_eq, um_k, um_j]; omega)) (fun r85 => ?_)
                    refine at_istore dx_118_86 ?_
                    refine at_aload dx_118_87 rfl ?_
                    refine at_iload dx_118_88 rfl ?_
                    refine at_const (x := 1) dx_118_89 rfl ?_
                    refine at_iload dx_118_90 rfl ?_
                    refine at_callVI dx_118_91 rfl lc_856 rfl (m_startOf r85 (by decide) r28 (by omega) (by omega) hN2) ?_
                    rintro x91 M9 r91 ⟨e9, h91⟩; replace e9 := e9.symm; subst e9
                    replace h91 := bg_of (by omega) h91
                    have q91 : -300 ≤ x91 ∧ x91 ≤ 300 := by rw [h91]; unfold bgN; (repeat' split) <;> omega
                    refine at_iload dx_118_92 rfl ?_
                    refine at_addR dx_118_93 (by constructor <;> omega) (fun r93 => ?_)
                    refine at_iload dx_118_94 rfl ?_
                    refine at_subR dx_118_95 (by constructor <;> omega) (fun r95 => ?_)
                    refine at_istore dx_118_96 ?_
                    refine at_aload dx_118_97 rfl ?_
                    refine at_getR dx_118_98 lc_856 rfl lt_856_27 ?_
                    refine at_iload dx_118_99 rfl ?_
                    refine at_aldI dx_118_100 lc_880 ln_880 (by first | omega | (simp (disch := omega) only [um_eq, um_k, um_j]; omega)) (by first | omega | (simp (disch := omega) only [um_eq, um_k, um_j]; omega)) (fun r100 => ?_)
                    refine at_const (x := 1) dx_118_101 rfl ?_
                    refine at_addR dx_118_102 (by constructor <;> omega) (fun r102 => ?_)
                    refine at_istore dx_118_103 ?_
                    refine at_goto dx_118_104 ?_
                    refine at_goto dx_118_116 ?_
                    refine at_wk (ls := [vr 856, vi _, vi _, vi _, vi _, vi _]) ⟨Or.inl rfl, Or.inl rfl, Or.inl rfl, Or.inl rfl, Or.inl rfl, Or.inl rfl, trivial⟩ ?_
                    first
                    | (exfalso; omega)
                    | (exact ih _ (by omega) _ _ _ r114 r115 (by omega) q114 (by omega) rfl (fe_tr F f114))
                    | (refine ih _ (by omega) _ _ _ r95 r102 (by omega) ?_ (by omega) rfl F
                       rcases h29 with h29 | ⟨j1, j2, j3, j4, j5, j6⟩
                       · omega
                       · obtain ⟨s1, s2, s3, s4⟩ := b5
                         rw [b3] at j5 j6 h42
                         rcases (show x29 = 0 ∨ x29 = 1 by omega) with e | e <;> subst e <;> simp [bgN, tkN] at h42 h91 j5 j6 <;> rw [lenW_mv] at d6 <;> omega)
                  · skip
                    refine at_iload dx_118_71 rfl ?_
                    refine at_zneR dx_118_72 ry (fun c72 => ?_) (fun c72 => ?_)
                    · skip
                      refine at_const (x := 0) dx_118_75 rfl ?_
                      refine at_istore dx_118_76 ?_
                      refine at_iload dx_118_77 rfl ?_
                      refine at_zeqR dx_118_78 (by decide) (fun _ => ?_) (fun c => absurd c (by decide))
                      refine at_aload dx_118_105 rfl ?_
                      refine at_iload dx_118_106 rfl ?_
                      refine at_aload dx_118_107 rfl ?_
                      refine at_getR dx_118_108 lc_856 rfl lt_856_26 ?_
                      refine at_iload dx_118_109 rfl ?_
                      refine at_aldZ dx_118_110 lc_879 ln_879 (by first | omega | (simp (disch := omega) only [um_eq, um_k, um_j]; omega)) (by first | omega | (simp (disch := omega) only [um_eq, um_k, um_j]; omega)) (fun r110 => ?_)
                      refine at_iload dx_118_111 rfl ?_
                      refine at_iload dx_118_112 rfl ?_
                      refine at_callVI dx_118_113 rfl lc_856 rfl (m_maps (N := Ln k) (N2 := Ln (k + 1)) r11 rp ry (by omega) hv hn60 hz hp) ?_
                      rintro x113 M114 r114 ⟨f114, q114⟩
                      refine at_istore dx_118_114 ?_
                      refine at_iincR (y := 1) dx_118_115 rfl rfl (by constructor <;> omega) (fun r115 => ?_)
                      refine at_goto dx_118_116 ?_
                      refine at_wk (ls := [vr 856, vi _, vi _, vi _, vi _, vi _]) ⟨Or.inl rfl, Or.inl rfl, Or.inl rfl, Or.inl rfl, Or.inl rfl, Or.inl rfl, trivial⟩ ?_
                      first
                      | (exfalso; omega)
                      | (exact ih _ (by omega) _ _ _ r114 r115 (by omega) q114 (by omega) rfl (fe_tr F f114))
                      | (refine ih _ (by omega) _ _ _ r95 r102 (by omega) ?_ (by omega) rfl F
                         rcases h29 with h29 | ⟨j1, j2, j3, j4, j5, j6⟩
                         · omega
                         · obtain ⟨s1, s2, s3, s4⟩ := b5
                           rw [b3] at j5 j6 h42
                           rcases (show x29 = 0 ∨ x29 = 1 by omega) with e | e <;> subst e <;> simp [bgN, tkN] at h42 h91 j5 j6 <;> rw [lenW_mv] at d6 <;> omega)
                    · skip
                      refine at_const (x := 1) dx_118_73 rfl ?_
                      refine at_goto dx_118_74 ?_
                      refine at_istore dx_118_76 ?_
                      refine at_iload dx_118_77 rfl ?_
                      refine at_zeqR dx_118_78 (by decide) (fun c => absurd c (by decide)) (fun _ => ?_)
                      have hj29 : x29 ≠ -1 := by omega
                      have hb : M1 880 k ≠ -1 := by omega
                      obtain ⟨b1, b2, b3, b4, b5⟩ := a5.resolve_left hb
                      obtain ⟨d1, d2, d3, d4, -⟩ := hR1.2 (M1 880 k) (by omega) b2
                      obtain ⟨d5, d6⟩ : okW (mv M1 (M1 878 (M1 880 k))) (Ln (M1 880 k)) ∧ Ln (M1 880 k + 1) = lenW (mv M1 (M1 878 (M1 880 k))) (Ln (M1 880 k)) := by
                        rcases d4 with ⟨-, d5, d6⟩ | ⟨d5, -⟩
                        · exact ⟨d5, d6⟩
                        · omega
                      have hN2 := okW_N d5 d2.2
                      have hu2 := okW_u d5
                      have hrow := hR1.1
                      refine at_aload dx_118_79 rfl ?_
                      refine at_getR dx_118_80 lc_856 rfl lt_856_25 ?_
                      refine at_aload dx_118_81 rfl ?_
                      refine at_getR dx_118_82 lc_856 rfl lt_856_27 ?_
                      refine at_iload dx_118_83 rfl ?_
                      refine at_aldI dx_118_84 lc_880 ln_880 (by first | omega | (simp (disch := omega) only [um_eq, um_k, um_j]; omega)) (by first | omega | (simp (disch := omega) only [um_eq, um_k, um_j]; omega)) (fun r84 => ?_)
                      refine at_aldI dx_118_85 lc_878 ln_878 (by first | omega | (simp (disch := omega) only [um_eq, um_k, um_j]; omega)) (by first | omega | (simp (disch := omega) only [um_eq, um_k, um_j]; omega)) (fun r85 => ?_)
                      refine at_istore dx_118_86 ?_
                      refine at_aload dx_118_87 rfl ?_
                      refine at_iload dx_118_88 rfl ?_
                      refine at_const (x := 1) dx_118_89 rfl ?_
                      refine at_iload dx_118_90 rfl ?_
                      refine at_callVI dx_118_91 rfl lc_856 rfl (m_startOf r85 (by decide) r28 (by omega) (by omega) hN2) ?_
                      rintro x91 M9 r91 ⟨e9, h91⟩; replace e9 := e9.symm; subst e9
                      replace h91 := bg_of (by omega) h91
                      have q91 : -300 ≤ x91 ∧ x91 ≤ 300 := by rw [h91]; unfold bgN; (repeat' split) <;> omega
                      refine at_iload dx_118_92 rfl ?_
                      refine at_addR dx_118_93 (by constructor <;> omega) (fun r93 => ?_)
                      refine at_iload dx_118_94 rfl ?_
                      refine at_subR dx_118_95 (by constructor <;> omega) (fun r95 => ?_)
                      refine at_istore dx_118_96 ?_
                      refine at_aload dx_118_97 rfl ?_
                      refine at_getR dx_118_98 lc_856 rfl lt_856_27 ?_
                      refine at_iload dx_118_99 rfl ?_
                      refine at_aldI dx_118_100 lc_880 ln_880 (by first | omega | (simp (disch := omega) only [um_eq, um_k, um_j]; omega)) (by first | omega | (simp (disch := omega) only [um_eq, um_k, um_j]; omega)) (fun r100 => ?_)
                      refine at_const (x := 1) dx_118_101 rfl ?_
                      refine at_addR dx_118_102 (by constructor <;> omega) (fun r102 => ?_)
                      refine at_istore dx_118_103 ?_
                      refine at_goto dx_118_104 ?_
                      refine at_goto dx_118_116 ?_
                      refine at_wk (ls := [vr 856, vi _, vi _, vi _, vi _, vi _]) ⟨Or.inl rfl, Or.inl rfl, Or.inl rfl, Or.inl rfl, Or.inl rfl, Or.inl rfl, trivial⟩ ?_
                      first
                      | (exfalso; omega)
                      | (exact ih _ (by omega) _ _ _ r114 r115 (by omega) q114 (by omega) rfl (fe_tr F f114))
                      | (refine ih _ (by omega) _ _ _ r95 r102 (by omega) ?_ (by omega) rfl F
                         rcases h29 with h29 | ⟨j1, j2, j3, j4, j5, j6⟩
                         · omega
                         · obtain ⟨s1, s2, s3, s4⟩ := b5
                           rw [b3] at j5 j6 h42
                           rcases (show x29 = 0 ∨ x29 = 1 by omega) with e | e <;> subst e <;> simp [bgN, tkN] at h42 h91 j5 j6 <;> rw [lenW_mv] at d6 <;> omega)
        · skip
          refine at_const (x := 0) dx_118_33 rfl ?_
          refine at_goto dx_118_34 ?_
          refine at_istore dx_118_43 ?_
          refine at_iload dx_118_44 rfl ?_
          refine at_const (x := -1) dx_118_45 rfl ?_
          refine at_cneR dx_118_46 r28 (by decide) (fun c46 => ?_) (fun c46 => ?_)
          · skip
            refine at_iload dx_118_49 rfl ?_
            refine at_aload dx_118_50 rfl ?_
            refine at_iload dx_118_51 rfl ?_
            refine at_aload dx_118_52 rfl ?_
            refine at_getR dx_118_53 lc_856 rfl lt_856_26 ?_
            refine at_iload dx_118_54 rfl ?_
            refine at_aldZ dx_118_55 lc_879 ln_879 (by first | omega | (simp (disch := omega) only [um_eq, um_k, um_j]; omega)) (by first | omega | (simp (disch := omega) only [um_eq, um_k, um_j]; omega)) (fun r55 => ?_)
            refine at_iload dx_118_56 rfl ?_
            refine at_callVI dx_118_57 rfl lc_856 rfl (m_takesOf r11 r55 r28 (by omega) (by omega)) ?_
            rintro x57 M9 r57 ⟨e9, h57⟩; replace e9 := e9.symm; subst e9
            replace h57 := tk_of (by omega) h57
            have q57 : -300 ≤ x57 ∧ x57 ≤ 300 := by rw [h57]; unfold tkN; (repeat' split) <;> omega
            refine at_addR dx_118_58 (by constructor <;> omega) (fun r58 => ?_)
            refine at_istore dx_118_59 ?_
            refine at_iload dx_118_60 rfl ?_
            refine at_const (x := -1) dx_118_61 rfl ?_
            refine at_ceqR dx_118_62 r28 (by decide) (fun c62 => ?_) (fun c62 => ?_)
            · skip
              refine at_const (x := 0) dx_118_75 rfl ?_
              refine at_istore dx_118_76 ?_
              refine at_iload dx_118_77 rfl ?_
              refine at_zeqR dx_118_78 (by decide) (fun _ => ?_) (fun c => absurd c (by decide))
              refine at_aload dx_118_105 rfl ?_
              refine at_iload dx_118_106 rfl ?_
              refine at_aload dx_118_107 rfl ?_
              refine at_getR dx_118_108 lc_856 rfl lt_856_26 ?_
              refine at_iload dx_118_109 rfl ?_
              refine at_aldZ dx_118_110 lc_879 ln_879 (by first | omega | (simp (disch := omega) only [um_eq, um_k, um_j]; omega)) (by first | omega | (simp (disch := omega) only [um_eq, um_k, um_j]; omega)) (fun r110 => ?_)
              refine at_iload dx_118_111 rfl ?_
              refine at_iload dx_118_112 rfl ?_
              refine at_callVI dx_118_113 rfl lc_856 rfl (m_maps (N := Ln k) (N2 := Ln (k + 1)) r11 rp ry (by omega) hv hn60 hz hp) ?_
              rintro x113 M114 r114 ⟨f114, q114⟩
              refine at_istore dx_118_114 ?_
              refine at_iincR (y := 1) dx_118_115 rfl rfl (by constructor <;> omega) (fun r115 => ?_)
              refine at_goto dx_118_116 ?_
              refine at_wk (ls := [vr 856, vi _, vi _, vi _, vi _, vi _]) ⟨Or.inl rfl, Or.inl rfl, Or.inl rfl, Or.inl rfl, Or.inl rfl, Or.inl rfl, trivial⟩ ?_
              first
              | (exfalso; omega)
              | (exact ih _ (by omega) _ _ _ r114 r115 (by omega) q114 (by omega) rfl (fe_tr F f114))
              | (refine ih _ (by omega) _ _ _ r95 r102 (by omega) ?_ (by omega) rfl F
                 rcases h29 with h29 | ⟨j1, j2, j3, j4, j5, j6⟩
                 · omega
                 · obtain ⟨s1, s2, s3, s4⟩ := b5
                   rw [b3] at j5 j6 h42
                   rcases (show x29 = 0 ∨ x29 = 1 by omega) with e | e <;> subst e <;> simp [bgN, tkN] at h42 h91 j5 j6 <;> rw [lenW_mv] at d6 <;> omega)
            · skip
              refine at_iload dx_118_63 rfl ?_
              refine at_iload dx_118_64 rfl ?_
              refine at_cneR dx_118_65 rp (by decide) (fun c65 => ?_) (fun c65 => ?_)
              · skip
                refine at_iload dx_118_68 rfl ?_
                refine at_iload dx_118_69 rfl ?_
                refine at_cneR dx_118_70 rp r58 (fun c70 => ?_) (fun c70 => ?_)
                · skip
                  refine at_const (x := 1) dx_118_73 rfl ?_
                  refine at_goto dx_118_74 ?_
                  refine at_istore dx_118_76 ?_
                  refine at_iload dx_118_77 rfl ?_
                  refine at_zeqR dx_118_78 (by decide) (fun c => absurd c (by decide)) (fun _ => ?_)
                  have hj29 : x29 ≠ -1 := by omega
                  have hb : M1 880 k ≠ -1 := by omega
                  obtain ⟨b1, b2, b3, b4, b5⟩ := a5.resolve_left hb
                  obtain ⟨d1, d2, d3, d4, -⟩ := hR1.2 (M1 880 k) (by omega) b2
                  obtain ⟨d5, d6⟩ : okW (mv M1 (M1 878 (M1 880 k))) (Ln (M1 880 k)) ∧ Ln (M1 880 k + 1) = lenW (mv M1 (M1 878 (M1 880 k))) (Ln (M1 880 k)) := by
                    rcases d4 with ⟨-, d5, d6⟩ | ⟨d5, -⟩
                    · exact ⟨d5, d6⟩
                    · omega
                  have hN2 := okW_N d5 d2.2
                  have hu2 := okW_u d5
                  have hrow := hR1.1
                  refine at_aload dx_118_79 rfl ?_
                  refine at_getR dx_118_80 lc_856 rfl lt_856_25 ?_
                  refine at_aload dx_118_81 rfl ?_
                  refine at_getR dx_118_82 lc_856 rfl lt_856_27 ?_
                  refine at_iload dx_118_83 rfl ?_
                  refine at_aldI dx_118_84 lc_880 ln_880 (by first | omega | (simp (disch := omega) only [um_eq, um_k, um_j]; omega)) (by first | omega | (simp (disch := omega) only [um_eq, um_k, um_j]; omega)) (fun r84 => ?_)
                  refine at_aldI dx_118_85 lc_878 ln_878 (by first | omega | (simp (disch := omega) only [um_eq, um_k, um_j]; omega)) (by first | omega | (simp (disch := omega) only [um_eq, um_k, um_j]; omega)) (fun r85 => ?_)
                  refine at_istore dx_118_86 ?_
                  refine at_aload dx_118_87 rfl ?_
                  refine at_iload dx_118_88 rfl ?_
                  refine at_const (x := 1) dx_118_89 rfl ?_
                  refine at_iload dx_118_90 rfl ?_
                  refine at_callVI dx_118_91 rfl lc_856 rfl (m_startOf r85 (by decide) r28 (by omega) (by omega) hN2) ?_
                  rintro x91 M9 r91 ⟨e9, h91⟩; replace e9 := e9.symm; subst e9
                  replace h91 := bg_of (by omega) h91
                  have q91 : -300 ≤ x91 ∧ x91 ≤ 300 := by rw [h91]; unfold bgN; (repeat' split) <;> omega
                  refine at_iload dx_118_92 rfl ?_
                  refine at_addR dx_118_93 (by constructor <;> omega) (fun r93 => ?_)
                  refine at_iload dx_118_94 rfl ?_
                  refine at_subR dx_118_95 (by constructor <;> omega) (fun r95 => ?_)
                  refine at_istore dx_118_96 ?_
                  refine at_aload dx_118_97 rfl ?_
                  refine at_getR dx_118_98 lc_856 rfl lt_856_27 ?_
                  refine at_iload dx_118_99 rfl ?_
                  refine at_aldI dx_118_100 lc_880 ln_880 (by first | omega | (simp (disch := omega) only [um_eq, um_k, um_j]; omega)) (by first | omega | (simp (disch := omega) only [um_eq, um_k, um_j]; omega)) (fun r100 => ?_)
                  refine at_const (x := 1) dx_118_101 rfl ?_
                  refine at_addR dx_118_102 (by constructor <;> omega) (fun r102 => ?_)
                  refine at_istore dx_118_103 ?_
                  refine at_goto dx_118_104 ?_
                  refine at_goto dx_118_116 ?_
                  refine at_wk (ls := [vr 856, vi _, vi _, vi _, vi _, vi _]) ⟨Or.inl rfl, Or.inl rfl, Or.inl rfl, Or.inl rfl, Or.inl rfl, Or.inl rfl, trivial⟩ ?_
                  first
                  | (exfalso; omega)
                  | (exact ih _ (by omega) _ _ _ r114 r115 (by omega) q114 (by omega) rfl (fe_tr F f114))
                  | (refine ih _ (by omega) _ _ _ r95 r102 (by omega) ?_ (by omega) rfl F
                     rcases h29 with h29 | ⟨j1, j2, j3, j4, j5, j6⟩
                     · omega
                     · obtain ⟨s1, s2, s3, s4⟩ := b5
                       rw [b3] at j5 j6 h42
                       rcases (show x29 = 0 ∨ x29 = 1 by omega) with e | e <;> subst e <;> simp [bgN, tkN] at h42 h91 j5 j6 <;> rw [lenW_mv] at d6 <;> omega)
                · skip
                  refine at_iload dx_118_71 rfl ?_
                  refine at_zneR dx_118_72 ry (fun c72 => ?_) (fun c72 => ?_)
                  · skip
                    refine at_const (x := 0) dx_118_75 rfl ?_
                    refine at_istore dx_118_76 ?_
                    refine at_iload dx_118_77 rfl ?_
                    refine at_zeqR dx_118_78 (by decide) (fun _ => ?_) (fun c => absurd c (by decide))
                    refine at_aload dx_118_105 rfl ?_
                    refine at_iload dx_118_106 rfl ?_
                    refine at_aload dx_118_107 rfl ?_
                    refine at_getR dx_118_108 lc_856 rfl lt_856_26 ?_
                    refine at_iload dx_118_109 rfl ?_
                    refine at_aldZ dx_118_110 lc_879 ln_879 (by first | omega | (simp (disch := omega) only [um_eq, um_k, um_j]; omega)) (by first | omega | (simp (disch := omega) only [um_eq, um_k, um_j]; omega)) (fun r110 => ?_)
                    refine at_iload dx_118_111 rfl ?_
                    refine at_iload dx_118_112 rfl ?_
                    refine at_callVI dx_118_113 rfl lc_856 rfl (m_maps (N := Ln k) (N2 := Ln (k + 1)) r11 rp ry (by omega) hv hn60 hz hp) ?_
                    rintro x113 M114 r114 ⟨f114, q114⟩
                    refine at_istore dx_118_114 ?_
                    refine at_iincR (y := 1) dx_118_115 rfl rfl (by constructor <;> omega) (fun r115 => ?_)
                    refine at_goto dx_118_116 ?_
                    refine at_wk (ls := [vr 856, vi _, vi _, vi _, vi _, vi _]) ⟨Or.inl rfl, Or.inl rfl, Or.inl rfl, Or.inl rfl, Or.inl rfl, Or.inl rfl, trivial⟩ ?_
                    first
                    | (exfalso; omega)
                    | (exact ih _ (by omega) _ _ _ r114 r115 (by omega) q114 (by omega) rfl (fe_tr F f114))
                    | (refine ih _ (by omega) _ _ _ r95 r102 (by omega) ?_ (by omega) rfl F
                       rcases h29 with h29 | ⟨j1, j2, j3, j4, j5, j6⟩
                       · omega
                       · obtain ⟨s1, s2, s3, s4⟩ := b5
                         rw [b3] at j5 j6 h42
                         rcases (show x29 = 0 ∨ x29 = 1 by omega) with e | e <;> subst e <;> simp [bgN, tkN] at h42 h91 j5 j6 <;> rw [lenW_mv] at d6 <;> omega)
                  · skip
                    refine at_const (x := 1) dx_118_73 rfl ?_
                    refine at_goto dx_118_74 ?_
                    refine at_istore dx_118_76 ?_
                    refine at_iload dx_118_77 rfl ?_
                    refine at_zeqR dx_118_78 (by decide) (fun c => absurd c (by decide)) (fun _ => ?_)
                    have hj29 : x29 ≠ -1 := by omega
                    have hb : M1 880 k ≠ -1 := by omega
                    obtain ⟨b1, b2, b3, b4, b5⟩ := a5.resolve_left hb
                    obtain ⟨d1, d2, d3, d4, -⟩ := hR1.2 (M1 880 k) (by omega) b2
                    obtain ⟨d5, d6⟩ : okW (mv M1 (M1 878 (M1 880 k))) (Ln (M1 880 k)) ∧ Ln (M1 880 k + 1) = lenW (mv M1 (M1 878 (M1 880 k))) (Ln (M1 880 k)) := by
                      rcases d4 with ⟨-, d5, d6⟩ | ⟨d5, -⟩
                      · exact ⟨d5, d6⟩
                      · omega
                    have hN2 := okW_N d5 d2.2
                    have hu2 := okW_u d5
                    have hrow := hR1.1
                    refine at_aload dx_118_79 rfl ?_
                    refine at_getR dx_118_80 lc_856 rfl lt_856_25 ?_
                    refine at_aload dx_118_81 rfl ?_
                    refine at_getR dx_118_82 lc_856 rfl lt_856_27 ?_
                    refine at_iload dx_118_83 rfl ?_
                    refine at_aldI dx_118_84 lc_880 ln_880 (by first | omega | (simp (disch := omega) only [um_eq, um_k, um_j]; omega)) (by first | omega | (simp (disch := omega) only [um_eq, um_k, um_j]; omega)) (fun r84 => ?_)
                    refine at_aldI dx_118_85 lc_878 ln_878 (by first | omega | (simp (disch := omega) only [um_eq, um_k, um_j]; omega)) (by first | omega | (simp (disch := omega) only [um_eq, um_k, um_j]; omega)) (fun r85 => ?_)
                    refine at_istore dx_118_86 ?_
                    refine at_aload dx_118_87 rfl ?_
                    refine at_iload dx_118_88 rfl ?_
                    refine at_const (x := 1) dx_118_89 rfl ?_
                    refine at_iload dx_118_90 rfl ?_
                    refine at_callVI dx_118_91 rfl lc_856 rfl (m_startOf r85 (by decide) r28 (by omega) (by omega) hN2) ?_
                    rintro x91 M9 r91 ⟨e9, h91⟩; replace e9 := e9.symm; subst e9
                    replace h91 := bg_of (by omega) h91
                    have q91 : -300 ≤ x91 ∧ x91 ≤ 300 := by rw [h91]; unfold bgN; (repeat' split) <;> omega
                    refine at_iload dx_118_92 rfl ?_
                    refine at_addR dx_118_93 (by constructor <;> omega) (fun r93 => ?_)
                    refine at_iload dx_118_94 rfl ?_
                    refine at_subR dx_118_95 (by constructor <;> omega) (fun r95 => ?_)
                    refine at_istore dx_118_96 ?_
                    refine at_aload dx_118_97 rfl ?_
                    refine at_getR dx_118_98 lc_856 rfl lt_856_27 ?_
                    refine at_iload dx_118_99 rfl ?_
                    refine at_aldI dx_118_100 lc_880 ln_880 (by first | omega | (simp (disch := omega) only [um_eq, um_k, um_j]; omega)) (by first | omega | (simp (disch := omega) only [um_eq, um_k, um_j]; omega)) (fun r100 => ?_)
                    refine at_const (x := 1) dx_118_101 rfl ?_
                    refine at_addR dx_118_102 (by constructor <;> omega) (fun r102 => ?_)
                    refine at_istore dx_118_103 ?_
                    refine at_goto dx_118_104 ?_
                    refine at_goto dx_118_116 ?_
                    refine at_wk (ls := [vr 856, vi _, vi _, vi _, vi _, vi _]) ⟨Or.inl rfl, Or.inl rfl, Or.inl rfl, Or.inl rfl, Or.inl rfl, Or.inl rfl, trivial⟩ ?_
                    first
                    | (exfalso; omega)
                    | (exact ih _ (by omega) _ _ _ r114 r115 (by omega) q114 (by omega) rfl (fe_tr F f114))
                    | (refine ih _ (by omega) _ _ _ r95 r102 (by omega) ?_ (by omega) rfl F
                       rcases h29 with h29 | ⟨j1, j2, j3, j4, j5, j6⟩
                       · omega
                       · obtain ⟨s1, s2, s3, s4⟩ := b5
                         rw [b3] at j5 j6 h42
                         rcases (show x29 = 0 ∨ x29 = 1 by omega) with e | e <;> subst e <;> simp [bgN, tkN] at h42 h91 j5 j6 <;> rw [lenW_mv] at d6 <;> omega)
              · skip
                refine at_iload dx_118_66 rfl ?_
                refine at_zeqR dx_118_67 ry (fun c67 => ?_) (fun c67 => ?_)
                · skip
                  refine at_const (x := 0) dx_118_75 rfl ?_
                  refine at_istore dx_118_76 ?_
                  refine at_iload dx_118_77 rfl ?_
                  refine at_zeqR dx_118_78 (by decide) (fun _ => ?_) (fun c => absurd c (by decide))
                  refine at_aload dx_118_105 rfl ?_
                  refine at_iload dx_118_106 rfl ?_
                  refine at_aload dx_118_107 rfl ?_
                  refine at_getR dx_118_108 lc_856 rfl lt_856_26 ?_
                  refine at_iload dx_118_109 rfl ?_
                  refine at_aldZ dx_118_110 lc_879 ln_879 (by first | omega | (simp (disch := omega) only [um_eq, um_k, um_j]; omega)) (by first | omega | (simp (disch := omega) only [um_eq, um_k, um_j]; omega)) (fun r110 => ?_)
                  refine at_iload dx_118_111 rfl ?_
                  refine at_iload dx_118_112 rfl ?_
                  refine at_callVI dx_118_113 rfl lc_856 rfl (m_maps (N := Ln k) (N2 := Ln (k + 1)) r11 rp ry (by omega) hv hn60 hz hp) ?_
                  rintro x113 M114 r114 ⟨f114, q114⟩
                  refine at_istore dx_118_114 ?_
                  refine at_iincR (y := 1) dx_118_115 rfl rfl (by constructor <;> omega) (fun r115 => ?_)
                  refine at_goto dx_118_116 ?_
                  refine at_wk (ls := [vr 856, vi _, vi _, vi _, vi _, vi _]) ⟨Or.inl rfl, Or.inl rfl, Or.inl rfl, Or.inl rfl, Or.inl rfl, Or.inl rfl, trivial⟩ ?_
                  first
                  | (exfalso; omega)
                  | (exact ih _ (by omega) _ _ _ r114 r115 (by omega) q114 (by omega) rfl (fe_tr F f114))
                  | (refine ih _ (by omega) _ _ _ r95 r102 (by omega) ?_ (by omega) rfl F
                     rcases h29 with h29 | ⟨j1, j2, j3, j4, j5, j6⟩
                     · omega
                     · obtain ⟨s1, s2, s3, s4⟩ := b5
                       rw [b3] at j5 j6 h42
                       rcases (show x29 = 0 ∨ x29 = 1 by omega) with e | e <;> subst e <;> simp [bgN, tkN] at h42 h91 j5 j6 <;> rw [lenW_mv] at d6 <;> omega)
                · skip
                  refine at_iload dx_118_68 rfl ?_
                  refine at_iload dx_118_69 rfl ?_
                  refine at_cneR dx_118_70 rp r58 (fun c70 => ?_) (fun c70 => ?_)
                  · skip
                    refine at_const (x := 1) dx_118_73 rfl ?_
                    refine at_goto dx_118_74 ?_
                    refine at_istore dx_118_76 ?_
                    refine at_iload dx_118_77 rfl ?_
                    refine at_zeqR dx_118_78 (by decide) (fun c => absurd c (by decide)) (fun _ => ?_)
                    have hj29 : x29 ≠ -1 := by omega
                    have hb : M1 880 k ≠ -1 := by omega
                    obtain ⟨b1, b2, b3, b4, b5⟩ := a5.resolve_left hb
                    obtain ⟨d1, d2, d3, d4, -⟩ := hR1.2 (M1 880 k) (by omega) b2
                    obtain ⟨d5, d6⟩ : okW (mv M1 (M1 878 (M1 880 k))) (Ln (M1 880 k)) ∧ Ln (M1 880 k + 1) = lenW (mv M1 (M1 878 (M1 880 k))) (Ln (M1 880 k)) := by
                      rcases d4 with ⟨-, d5, d6⟩ | ⟨d5, -⟩
                      · exact ⟨d5, d6⟩
                      · omega
                    have hN2 := okW_N d5 d2.2
                    have hu2 := okW_u d5
                    have hrow := hR1.1
                    refine at_aload dx_118_79 rfl ?_
                    refine at_getR dx_118_80 lc_856 rfl lt_856_25 ?_
                    refine at_aload dx_118_81 rfl ?_
                    refine at_getR dx_118_82 lc_856 rfl lt_856_27 ?_
                    refine at_iload dx_118_83 rfl ?_
                    refine at_aldI dx_118_84 lc_880 ln_880 (by first | omega | (simp (disch := omega) only [um_eq, um_k, um_j]; omega)) (by first | omega | (simp (disch := omega) only [um_eq, um_k, um_j]; omega)) (fun r84 => ?_)
                    refine at_aldI dx_118_85 lc_878 ln_878 (by first | omega | (simp (disch := omega) only [um_eq, um_k, um_j]; omega)) (by first | omega | (simp (disch := omega) only [um_eq, um_k, um_j]; omega)) (fun r85 => ?_)
                    refine at_istore dx_118_86 ?_
                    refine at_aload dx_118_87 rfl ?_
                    refine at_iload dx_118_88 rfl ?_
                    refine at_const (x := 1) dx_118_89 rfl ?_
                    refine at_iload dx_118_90 rfl ?_
                    refine at_callVI dx_118_91 rfl lc_856 rfl (m_startOf r85 (by decide) r28 (by omega) (by omega) hN2) ?_
                    rintro x91 M9 r91 ⟨e9, h91⟩; replace e9 := e9.symm; subst e9
                    replace h91 := bg_of (by omega) h91
                    have q91 : -300 ≤ x91 ∧ x91 ≤ 300 := by rw [h91]; unfold bgN; (repeat' split) <;> omega
                    refine at_iload dx_118_92 rfl ?_
                    refine at_addR dx_118_93 (by constructor <;> omega) (fun r93 => ?_)
                    refine at_iload dx_118_94 rfl ?_
                    refine at_subR dx_118_95 (by constructor <;> omega) (fun r95 => ?_)
                    refine at_istore dx_118_96 ?_
                    refine at_aload dx_118_97 rfl ?_
                    refine at_getR dx_118_98 lc_856 rfl lt_856_27 ?_
                    refine at_iload dx_118_99 rfl ?_
                    refine at_aldI dx_118_100 lc_880 ln_880 (by first | omega | (simp (disch := omega) only [um_eq, um_k, um_j]; omega)) (by first | omega | (simp (disch := omega) only [um_eq, um_k, um_j]; omega)) (fun r100 => ?_)
                    refine at_const (x := 1) dx_118_101 rfl ?_
                    refine at_addR dx_118_102 (by constructor <;> omega) (fun r102 => ?_)
                    refine at_istore dx_118_103 ?_
                    refine at_goto dx_118_104 ?_
                    refine at_goto dx_118_116 ?_
                    refine at_wk (ls := [vr 856, vi _, vi _, vi _, vi _, vi _]) ⟨Or.inl rfl, Or.inl rfl, Or.inl rfl, Or.inl rfl, Or.inl rfl, Or.inl rfl, trivial⟩ ?_
                    first
                    | (exfalso; omega)
                    | (exact ih _ (by omega) _ _ _ r114 r115 (by omega) q114 (by omega) rfl (fe_tr F f114))
                    | (refine ih _ (by omega) _ _ _ r95 r102 (by omega) ?_ (by omega) rfl F
                       rcases h29 with h29 | ⟨j1, j2, j3, j4, j5, j6⟩
                       · omega
                       · obtain ⟨s1, s2, s3, s4⟩ := b5
                         rw [b3] at j5 j6 h42
                         rcases (show x29 = 0 ∨ x29 = 1 by omega) with e | e <;> subst e <;> simp [bgN, tkN] at h42 h91 j5 j6 <;> rw [lenW_mv] at d6 <;> omega)
                  · skip
                    refine at_iload dx_118_71 rfl ?_
                    refine at_zneR dx_118_72 ry (fun c72 => ?_) (fun c72 => ?_)
                    · skip
                      refine at_const (x := 0) dx_118_75 rfl ?_
                      refine at_istore dx_118_76 ?_
                      refine at_iload dx_118_77 rfl ?_
                      refine at_zeqR dx_118_78 (by decide) (fun _ => ?_) (fun c => absurd c (by decide))
                      refine at_aload dx_118_105 rfl ?_
                      refine at_iload dx_118_106 rfl ?_
                      refine at_aload dx_118_107 rfl ?_
                      refine at_getR dx_118_108 lc_856 rfl lt_856_26 ?_
                      refine at_iload dx_118_109 rfl ?_
                      refine at_aldZ dx_118_110 lc_879 ln_879 (by first | omega | (simp (disch := omega) only [um_eq, um_k, um_j]; omega)) (by first | omega | (simp (disch := omega) only [um_eq, um_k, um_j]; omega)) (fun r110 => ?_)
                      refine at_iload dx_118_111 rfl ?_
                      refine at_iload dx_118_112 rfl ?_
                      refine at_callVI dx_118_113 rfl lc_856 rfl (m_maps (N := Ln k) (N2 := Ln (k + 1)) r11 rp ry (by omega) hv hn60 hz hp) ?_
                      rintro x113 M114 r114 ⟨f114, q114⟩
                      refine at_istore dx_118_114 ?_
                      refine at_iincR (y := 1) dx_118_115 rfl rfl (by constructor <;> omega) (fun r115 => ?_)
                      refine at_goto dx_118_116 ?_
                      refine at_wk (ls := [vr 856, vi _, vi _, vi _, vi _, vi _]) ⟨Or.inl rfl, Or.inl rfl, Or.inl rfl, Or.inl rfl, Or.inl rfl, Or.inl rfl, trivial⟩ ?_
                      first
                      | (exfalso; omega)
                      | (exact ih _ (by omega) _ _ _ r114 r115 (by omega) q114 (by omega) rfl (fe_tr F f114))
                      | (refine ih _ (by omega) _ _ _ r95 r102 (by omega) ?_ (by omega) rfl F
                         rcases h29 with h29 | ⟨j1, j2, j3, j4, j5, j6⟩
                         · omega
                         · obtain ⟨s1, s2, s3, s4⟩ := b5
                           rw [b3] at j5 j6 h42
                           rcases (show x29 = 0 ∨ x29 = 1 by omega) with e | e <;> subst e <;> simp [bgN, tkN] at h42 h91 j5 j6 <;> rw [lenW_mv] at d6 <;> omega)
                    · skip
                      refine at_const (x := 1) dx_118_73 rfl ?_
                      refine at_goto dx_118_74 ?_
                      refine at_istore dx_118_76 ?_
                      refine at_iload dx_118_77 rfl ?_
                      refine at_zeqR dx_118_78 (by decide) (fun c => absurd c (by decide)) (fun _ => ?_)
                      have hj29 : x29 ≠ -1 := by omega
                      have hb : M1 880 k ≠ -1 := by omega
                      obtain ⟨b1, b2, b3, b4, b5⟩ := a5.resolve_left hb
                      obtain ⟨d1, d2, d3, d4, -⟩ := hR1.2 (M1 880 k) (by omega) b2
                      obtain ⟨d5, d6⟩ : okW (mv M1 (M1 878 (M1 880 k))) (Ln (M1 880 k)) ∧ Ln (M1 880 k + 1) = lenW (mv M1 (M1 878 (M1 880 k))) (Ln (M1 880 k)) := by
                        rcases d4 with ⟨-, d5, d6⟩ | ⟨d5, -⟩
                        · exact ⟨d5, d6⟩
                        · omega
                      have hN2 := okW_N d5 d2.2
                      have hu2 := okW_u d5
                      have hrow := hR1.1
                      refine at_aload dx_118_79 rfl ?_
                      refine at_getR dx_118_80 lc_856 rfl lt_856_25 ?_
                      refine at_aload dx_118_81 rfl ?_
                      refine at_getR dx_118_82 lc_856 rfl lt_856_27 ?_
                      refine at_iload dx_118_83 rfl ?_
                      refine at_aldI dx_118_84 lc_880 ln_880 (by first | omega | (simp (disch := omega) only [um_eq, um_k, um_j]; omega)) (by first | omega | (simp (disch := omega) only [um_eq, um_k, um_j]; omega)) (fun r84 => ?_)
                      refine at_aldI dx_118_85 lc_878 ln_878 (by first | omega | (simp (disch := omega) only [um_eq, um_k, um_j]; omega)) (by first | omega | (simp (disch := omega) only [um_eq, um_k, um_j]; omega)) (fun r85 => ?_)
                      refine at_istore dx_118_86 ?_
                      refine at_aload dx_118_87 rfl ?_
                      refine at_iload dx_118_88 rfl ?_
                      refine at_const (x := 1) dx_118_89 rfl ?_
                      refine at_iload dx_118_90 rfl ?_
                      refine at_callVI dx_118_91 rfl lc_856 rfl (m_startOf r85 (by decide) r28 (by omega) (by omega) hN2) ?_
                      rintro x91 M9 r91 ⟨e9, h91⟩; replace e9 := e9.symm; subst e9
                      replace h91 := bg_of (by omega) h91
                      have q91 : -300 ≤ x91 ∧ x91 ≤ 300 := by rw [h91]; unfold bgN; (repeat' split) <;> omega
                      refine at_iload dx_118_92 rfl ?_
                      refine at_addR dx_118_93 (by constructor <;> omega) (fun r93 => ?_)
                      refine at_iload dx_118_94 rfl ?_
                      refine at_subR dx_118_95 (by constructor <;> omega) (fun r95 => ?_)
                      refine at_istore dx_118_96 ?_
                      refine at_aload dx_118_97 rfl ?_
                      refine at_getR dx_118_98 lc_856 rfl lt_856_27 ?_
                      refine at_iload dx_118_99 rfl ?_
                      refine at_aldI dx_118_100 lc_880 ln_880 (by first | omega | (simp (disch := omega) only [um_eq, um_k, um_j]; omega)) (by first | omega | (simp (disch := omega) only [um_eq, um_k, um_j]; omega)) (fun r100 => ?_)
                      refine at_const (x := 1) dx_118_101 rfl ?_
                      refine at_addR dx_118_102 (by constructor <;> omega) (fun r102 => ?_)
                      refine at_istore dx_118_103 ?_
                      refine at_goto dx_118_104 ?_
                      refine at_goto dx_118_116 ?_
                      refine at_wk (ls := [vr 856, vi _, vi _, vi _, vi _, vi _]) ⟨Or.inl rfl, Or.inl rfl, Or.inl rfl, Or.inl rfl, Or.inl rfl, Or.inl rfl, trivial⟩ ?_
                      first
                      | (exfalso; omega)
                      | (exact ih _ (by omega) _ _ _ r114 r115 (by omega) q114 (by omega) rfl (fe_tr F f114))
                      | (refine ih _ (by omega) _ _ _ r95 r102 (by omega) ?_ (by omega) rfl F
                         rcases h29 with h29 | ⟨j1, j2, j3, j4, j5, j6⟩
                         · omega
                         · obtain ⟨s1, s2, s3, s4⟩ := b5
                           rw [b3] at j5 j6 h42
                           rcases (show x29 = 0 ∨ x29 = 1 by omega) with e | e <;> subst e <;> simp [bgN, tkN] at h42 h91 j5 j6 <;> rw [lenW_mv] at d6 <;> omega)
          · skip
            refine at_const (x := 0) dx_118_47 rfl ?_
            refine at_goto dx_118_48 ?_
            refine at_istore dx_118_59 ?_
            refine at_iload dx_118_60 rfl ?_
            refine at_const (x := -1) dx_118_61 rfl ?_
            refine at_ceqR dx_118_62 r28 (by decide) (fun c62 => ?_) (fun c62 => ?_)
            · skip
              refine at_const (x := 0) dx_118_75 rfl ?_
              refine at_istore dx_118_76 ?_
              refine at_iload dx_118_77 rfl ?_
              refine at_zeqR dx_118_78 (by decide) (fun _ => ?_) (fun c => absurd c (by decide))
              refine at_aload dx_118_105 rfl ?_
              refine at_iload dx_118_106 rfl ?_
              refine at_aload dx_118_107 rfl ?_
              refine at_getR dx_118_108 lc_856 rfl lt_856_26 ?_
              refine at_iload dx_118_109 rfl ?_
              refine at_aldZ dx_118_110 lc_879 ln_879 (by first | omega | (simp (disch := omega) only [um_eq, um_k, um_j]; omega)) (by first | omega | (simp (disch := omega) only [um_eq, um_k, um_j]; omega)) (fun r110 => ?_)
              refine at_iload dx_118_111 rfl ?_
              refine at_iload dx_118_112 rfl ?_
              refine at_callVI dx_118_113 rfl lc_856 rfl (m_maps (N := Ln k) (N2 := Ln (k + 1)) r11 rp ry (by omega) hv hn60 hz hp) ?_
              rintro x113 M114 r114 ⟨f114, q114⟩
              refine at_istore dx_118_114 ?_
              refine at_iincR (y := 1) dx_118_115 rfl rfl (by constructor <;> omega) (fun r115 => ?_)
              refine at_goto dx_118_116 ?_
              refine at_wk (ls := [vr 856, vi _, vi _, vi _, vi _, vi _]) ⟨Or.inl rfl, Or.inl rfl, Or.inl rfl, Or.inl rfl, Or.inl rfl, Or.inl rfl, trivial⟩ ?_
              first
              | (exfalso; omega)
              | (exact ih _ (by omega) _ _ _ r114 r115 (by omega) q114 (by omega) rfl (fe_tr F f114))
              | (refine ih _ (by omega) _ _ _ r95 r102 (by omega) ?_ (by omega) rfl F
                 rcases h29 with h29 | ⟨j1, j2, j3, j4, j5, j6⟩
                 · omega
                 · obtain ⟨s1, s2, s3, s4⟩ := b5
                   rw [b3] at j5 j6 h42
                   rcases (show x29 = 0 ∨ x29 = 1 by omega) with e | e <;> subst e <;> simp [bgN, tkN] at h42 h91 j5 j6 <;> rw [lenW_mv] at d6 <;> omega)
            · skip
              refine at_iload dx_118_63 rfl ?_
              refine at_iload dx_118_64 rfl ?_
              refine at_cneR dx_118_65 rp (by decide) (fun c65 => ?_) (fun c65 => ?_)
              · skip
                refine at_iload dx_118_68 rfl ?_
                refine at_iload dx_118_69 rfl ?_
                refine at_cneR dx_118_70 rp (by decide) (fun c70 => ?_) (fun c70 => ?_)
                · skip
                  refine at_const (x := 1) dx_118_73 rfl ?_
                  refine at_goto dx_118_74 ?_
                  refine at_istore dx_118_76 ?_
                  refine at_iload dx_118_77 rfl ?_
                  refine at_zeqR dx_118_78 (by decide) (fun c => absurd c (by decide)) (fun _ => ?_)
                  have hj29 : x29 ≠ -1 := by omega
                  have hb : M1 880 k ≠ -1 := by omega
                  obtain ⟨b1, b2, b3, b4, b5⟩ := a5.resolve_left hb
                  obtain ⟨d1, d2, d3, d4, -⟩ := hR1.2 (M1 880 k) (by omega) b2
                  obtain ⟨d5, d6⟩ : okW (mv M1 (M1 878 (M1 880 k))) (Ln (M1 880 k)) ∧ Ln (M1 880 k + 1) = lenW (mv M1 (M1 878 (M1 880 k))) (Ln (M1 880 k)) := by
                    rcases d4 with ⟨-, d5, d6⟩ | ⟨d5, -⟩
                    · exact ⟨d5, d6⟩
                    · omega
                  have hN2 := okW_N d5 d2.2
                  have hu2 := okW_u d5
                  have hrow := hR1.1
                  refine at_aload dx_118_79 rfl ?_
                  refine at_getR dx_118_80 lc_856 rfl lt_856_25 ?_
                  refine at_aload dx_118_81 rfl ?_
                  refine at_getR dx_118_82 lc_856 rfl lt_856_27 ?_
                  refine at_iload dx_118_83 rfl ?_
                  refine at_aldI dx_118_84 lc_880 ln_880 (by first | omega | (simp (disch := omega) only [um_eq, um_k, um_j]; omega)) (by first | omega | (simp (disch := omega) only [um_eq, um_k, um_j]; omega)) (fun r84 => ?_)
                  refine at_aldI dx_118_85 lc_878 ln_878 (by first | omega | (simp (disch := omega) only [um_eq, um_k, um_j]; omega)) (by first | omega | (simp (disch := omega) only [um_eq, um_k, um_j]; omega)) (fun r85 => ?_)
                  refine at_istore dx_118_86 ?_
                  refine at_aload dx_118_87 rfl ?_
                  refine at_iload dx_118_88 rfl ?_
                  refine at_const (x := 1) dx_118_89 rfl ?_
                  refine at_iload dx_118_90 rfl ?_
                  refine at_callVI dx_118_91 rfl lc_856 rfl (m_startOf r85 (by decide) r28 (by omega) (by omega) hN2) ?_
                  rintro x91 M9 r91 ⟨e9, h91⟩; replace e9 := e9.symm; subst e9
                  replace h91 := bg_of (by omega) h91
                  have q91 : -300 ≤ x91 ∧ x91 ≤ 300 := by rw [h91]; unfold bgN; (repeat' split) <;> omega
                  refine at_iload dx_118_92 rfl ?_
                  refine at_addR dx_118_93 (by constructor <;> omega) (fun r93 => ?_)
                  refine at_iload dx_118_94 rfl ?_
                  refine at_subR dx_118_95 (by constructor <;> omega) (fun r95 => ?_)
                  refine at_istore dx_118_96 ?_
                  refine at_aload dx_118_97 rfl ?_
                  refine at_getR dx_118_98 lc_856 rfl lt_856_27 ?_
                  refine at_iload dx_118_99 rfl ?_
                  refine at_aldI dx_118_100 lc_880 ln_880 (by first | omega | (simp (disch := omega) only [um_eq, um_k, um_j]; omega)) (by first | omega | (simp (disch := omega) only [um_eq, um_k, um_j]; omega)) (fun r100 => ?_)
                  refine at_const (x := 1) dx_118_101 rfl ?_
                  refine at_addR dx_118_102 (by constructor <;> omega) (fun r102 => ?_)
                  refine at_istore dx_118_103 ?_
                  refine at_goto dx_118_104 ?_
                  refine at_goto dx_118_116 ?_
                  refine at_wk (ls := [vr 856, vi _, vi _, vi _, vi _, vi _]) ⟨Or.inl rfl, Or.inl rfl, Or.inl rfl, Or.inl rfl, Or.inl rfl, Or.inl rfl, trivial⟩ ?_
                  first
                  | (exfalso; omega)
                  | (exact ih _ (by omega) _ _ _ r114 r115 (by omega) q114 (by omega) rfl (fe_tr F f114))
                  | (refine ih _ (by omega) _ _ _ r95 r102 (by omega) ?_ (by omega) rfl F
                     rcases h29 with h29 | ⟨j1, j2, j3, j4, j5, j6⟩
                     · omega
                     · obtain ⟨s1, s2, s3, s4⟩ := b5
                       rw [b3] at j5 j6 h42
                       rcases (show x29 = 0 ∨ x29 = 1 by omega) with e | e <;> subst e <;> simp [bgN, tkN] at h42 h91 j5 j6 <;> rw [lenW_mv] at d6 <;> omega)
                · skip
                  refine at_iload dx_118_71 rfl ?_
                  refine at_zneR dx_118_72 ry (fun c72 => ?_) (fun c72 => ?_)
                  · skip
                    refine at_const (x := 0) dx_118_75 rfl ?_
                    refine at_istore dx_118_76 ?_
                    refine at_iload dx_118_77 rfl ?_
                    refine at_zeqR dx_118_78 (by decide) (fun _ => ?_) (fun c => absurd c (by decide))
                    refine at_aload dx_118_105 rfl ?_
                    refine at_iload dx_118_106 rfl ?_
                    refine at_aload dx_118_107 rfl ?_
                    refine at_getR dx_118_108 lc_856 rfl lt_856_26 ?_
                    refine at_iload dx_118_109 rfl ?_
                    refine at_aldZ dx_118_110 lc_879 ln_879 (by first | omega | (simp (disch := omega) only [um_eq, um_k, um_j]; omega)) (by first | omega | (simp (disch := omega) only [um_eq, um_k, um_j]; omega)) (fun r110 => ?_)
                    refine at_iload dx_118_111 rfl ?_
                    refine at_iload dx_118_112 rfl ?_
                    refine at_callVI dx_118_113 rfl lc_856 rfl (m_maps (N := Ln k) (N2 := Ln (k + 1)) r11 rp ry (by omega) hv hn60 hz hp) ?_
                    rintro x113 M114 r114 ⟨f114, q114⟩
                    refine at_istore dx_118_114 ?_
                    refine at_iincR (y := 1) dx_118_115 rfl rfl (by constructor <;> omega) (fun r115 => ?_)
                    refine at_goto dx_118_116 ?_
                    refine at_wk (ls := [vr 856, vi _, vi _, vi _, vi _, vi _]) ⟨Or.inl rfl, Or.inl rfl, Or.inl rfl, Or.inl rfl, Or.inl rfl, Or.inl rfl, trivial⟩ ?_
                    first
                    | (exfalso; omega)
                    | (exact ih _ (by omega) _ _ _ r114 r115 (by omega) q114 (by omega) rfl (fe_tr F f114))
                    | (refine ih _ (by omega) _ _ _ r95 r102 (by omega) ?_ (by omega) rfl F
                       rcases h29 with h29 | ⟨j1, j2, j3, j4, j5, j6⟩
                       · omega
                       · obtain ⟨s1, s2, s3, s4⟩ := b5
                         rw [b3] at j5 j6 h42
                         rcases (show x29 = 0 ∨ x29 = 1 by omega) with e | e <;> subst e <;> simp [bgN, tkN] at h42 h91 j5 j6 <;> rw [lenW_mv] at d6 <;> omega)
                  · skip
                    refine at_const (x := 1) dx_118_73 rfl ?_
                    refine at_goto dx_118_74 ?_
                    refine at_istore dx_118_76 ?_
                    refine at_iload dx_118_77 rfl ?_
                    refine at_zeqR dx_118_78 (by decide) (fun c => absurd c (by decide)) (fun _ => ?_)
                    have hj29 : x29 ≠ -1 := by omega
                    have hb : M1 880 k ≠ -1 := by omega
                    obtain ⟨b1, b2, b3, b4, b5⟩ := a5.resolve_left hb
                    obtain ⟨d1, d2, d3, d4, -⟩ := hR1.2 (M1 880 k) (by omega) b2
                    obtain ⟨d5, d6⟩ : okW (mv M1 (M1 878 (M1 880 k))) (Ln (M1 880 k)) ∧ Ln (M1 880 k + 1) = lenW (mv M1 (M1 878 (M1 880 k))) (Ln (M1 880 k)) := by
                      rcases d4 with ⟨-, d5, d6⟩ | ⟨d5, -⟩
                      · exact ⟨d5, d6⟩
                      · omega
                    have hN2 := okW_N d5 d2.2
                    have hu2 := okW_u d5
                    have hrow := hR1.1
                    refine at_aload dx_118_79 rfl ?_
                    refine at_getR dx_118_80 lc_856 rfl lt_856_25 ?_
                    refine at_aload dx_118_81 rfl ?_
                    refine at_getR dx_118_82 lc_856 rfl lt_856_27 ?_
                    refine at_iload dx_118_83 rfl ?_
                    refine at_aldI dx_118_84 lc_880 ln_880 (by first | omega | (simp (disch := omega) only [um_eq, um_k, um_j]; omega)) (by first | omega | (simp (disch := omega) only [um_eq, um_k, um_j]; omega)) (fun r84 => ?_)
                    refine at_aldI dx_118_85 lc_878 ln_878 (by first | omega | (simp (disch := omega) only [um_eq, um_k, um_j]; omega)) (by first | omega | (simp (disch := omega) only [um_eq, um_k, um_j]; omega)) (fun r85 => ?_)
                    refine at_istore dx_118_86 ?_
                    refine at_aload dx_118_87 rfl ?_
                    refine at_iload dx_118_88 rfl ?_
                    refine at_const (x := 1) dx_118_89 rfl ?_
                    refine at_iload dx_118_90 rfl ?_
                    refine at_callVI dx_118_91 rfl lc_856 rfl (m_startOf r85 (by decide) r28 (by omega) (by omega) hN2) ?_
                    rintro x91 M9 r91 ⟨e9, h91⟩; replace e9 := e9.symm; subst e9
                    replace h91 := bg_of (by omega) h91
                    have q91 : -300 ≤ x91 ∧ x91 ≤ 300 := by rw [h91]; unfold bgN; (repeat' split) <;> omega
                    refine at_iload dx_118_92 rfl ?_
                    refine at_addR dx_118_93 (by constructor <;> omega) (fun r93 => ?_)
                    refine at_iload dx_118_94 rfl ?_
                    refine at_subR dx_118_95 (by constructor <;> omega) (fun r95 => ?_)
                    refine at_istore dx_118_96 ?_
                    refine at_aload dx_118_97 rfl ?_
                    refine at_getR dx_118_98 lc_856 rfl lt_856_27 ?_
                    refine at_iload dx_118_99 rfl ?_
                    refine at_aldI dx_118_100 lc_880 ln_880 (by first | omega | (simp (disch := omega) only [um_eq, um_k, um_j]; omega)) (by first | omega | (simp (disch := omega) only [um_eq, um_k, um_j]; omega)) (fun r100 => ?_)
                    refine at_const (x := 1) dx_118_101 rfl ?_
                    refine at_addR dx_118_102 (by constructor <;> omega) (fun r102 => ?_)
                    refine at_istore dx_118_103 ?_
                    refine at_goto dx_118_104 ?_
                    refine at_goto dx_118_116 ?_
                    refine at_wk (ls := [vr 856, vi _, vi _, vi _, vi _, vi _]) ⟨Or.inl rfl, Or.inl rfl, Or.inl rfl, Or.inl rfl, Or.inl rfl, Or.inl rfl, trivial⟩ ?_
                    first
                    | (exfalso; omega)
                    | (exact ih _ (by omega) _ _ _ r114 r115 (by omega) q114 (by omega) rfl (fe_tr F f114))
                    | (refine ih _ (by omega) _ _ _ r95 r102 (by omega) ?_ (by omega) rfl F
                       rcases h29 with h29 | ⟨j1, j2, j3, j4, j5, j6⟩
                       · omega
                       · obtain ⟨s1, s2, s3, s4⟩ := b5
                         rw [b3] at j5 j6 h42
                         rcases (show x29 = 0 ∨ x29 = 1 by omega) with e | e <;> subst e <;> simp [bgN, tkN] at h42 h91 j5 j6 <;> rw [lenW_mv] at d6 <;> omega)
              · skip
                refine at_iload dx_118_66 rfl ?_
                refine at_zeqR dx_118_67 ry (fun c67 => ?_) (fun c67 => ?_)
                · skip
                  refine at_const (x := 0) dx_118_75 rfl ?_
                  refine at_istore dx_118_76 ?_
                  refine at_iload dx_118_77 rfl ?_
                  refine at_zeqR dx_118_78 (by decide) (fun _ => ?_) (fun c => absurd c (by decide))
                  refine at_aload dx_118_105 rfl ?_
                  refine at_iload dx_118_106 rfl ?_
                  refine at_aload dx_118_107 rfl ?_
                  refine at_getR dx_118_108 lc_856 rfl lt_856_26 ?_
                  refine at_iload dx_118_109 rfl ?_
                  refine at_aldZ dx_118_110 lc_879 ln_879 (by first | omega | (simp (disch := omega) only [um_eq, um_k, um_j]; omega)) (by first | omega | (simp (disch := omega) only [um_eq, um_k, um_j]; omega)) (fun r110 => ?_)
                  refine at_iload dx_118_111 rfl ?_
                  refine at_iload dx_118_112 rfl ?_
                  refine at_callVI dx_118_113 rfl lc_856 rfl (m_maps (N := Ln k) (N2 := Ln (k + 1)) r11 rp ry (by omega) hv hn60 hz hp) ?_
                  rintro x113 M114 r114 ⟨f114, q114⟩
                  refine at_istore dx_118_114 ?_
                  refine at_iincR (y := 1) dx_118_115 rfl rfl (by constructor <;> omega) (fun r115 => ?_)
                  refine at_goto dx_118_116 ?_
                  refine at_wk (ls := [vr 856, vi _, vi _, vi _, vi _, vi _]) ⟨Or.inl rfl, Or.inl rfl, Or.inl rfl, Or.inl rfl, Or.inl rfl, Or.inl rfl, trivial⟩ ?_
                  first
                  | (exfalso; omega)
                  | (exact ih _ (by omega) _ _ _ r114 r115 (by omega) q114 (by omega) rfl (fe_tr F f114))
                  | (refine ih _ (by omega) _ _ _ r95 r102 (by omega) ?_ (by omega) rfl F
                     rcases h29 with h29 | ⟨j1, j2, j3, j4, j5, j6⟩
                     · omega
                     · obtain ⟨s1, s2, s3, s4⟩ := b5
                       rw [b3] at j5 j6 h42
                       rcases (show x29 = 0 ∨ x29 = 1 by omega) with e | e <;> subst e <;> simp [bgN, tkN] at h42 h91 j5 j6 <;> rw [lenW_mv] at d6 <;> omega)
                · skip
                  refine at_iload dx_118_68 rfl ?_
                  refine at_iload dx_118_69 rfl ?_
                  refine at_cneR dx_118_70 rp (by decide) (fun c70 => ?_) (fun c70 => ?_)
                  · skip
                    refine at_const (x := 1) dx_118_73 rfl ?_
                    refine at_goto dx_118_74 ?_
                    refine at_istore dx_118_76 ?_
                    refine at_iload dx_118_77 rfl ?_
                    refine at_zeqR dx_118_78 (by decide) (fun c => absurd c (by decide)) (fun _ => ?_)
                    have hj29 : x29 ≠ -1 := by omega
                    have hb : M1 880 k ≠ -1 := by omega
                    obtain ⟨b1, b2, b3, b4, b5⟩ := a5.resolve_left hb
                    obtain ⟨d1, d2, d3, d4, -⟩ := hR1.2 (M1 880 k) (by omega) b2
                    obtain ⟨d5, d6⟩ : okW (mv M1 (M1 878 (M1 880 k))) (Ln (M1 880 k)) ∧ Ln (M1 880 k + 1) = lenW (mv M1 (M1 878 (M1 880 k))) (Ln (M1 880 k)) := by
                      rcases d4 with ⟨-, d5, d6⟩ | ⟨d5, -⟩
                      · exact ⟨d5, d6⟩
                      · omega
                    have hN2 := okW_N d5 d2.2
                    have hu2 := okW_u d5
                    have hrow := hR1.1
                    refine at_aload dx_118_79 rfl ?_
                    refine at_getR dx_118_80 lc_856 rfl lt_856_25 ?_
                    refine at_aload dx_118_81 rfl ?_
                    refine at_getR dx_118_82 lc_856 rfl lt_856_27 ?_
                    refine at_iload dx_118_83 rfl ?_
                    refine at_aldI dx_118_84 lc_880 ln_880 (by first | omega | (simp (disch := omega) only [um_eq, um_k, um_j]; omega)) (by first | omega | (simp (disch := omega) only [um_eq, um_k, um_j]; omega)) (fun r84 => ?_)
                    refine at_aldI dx_118_85 lc_878 ln_878 (by first | omega | (simp (disch := omega) only [um_eq, um_k, um_j]; omega)) (by first | omega | (simp (disch := omega) only [um_eq, um_k, um_j]; omega)) (fun r85 => ?_)
                    refine at_istore dx_118_86 ?_
                    refine at_aload dx_118_87 rfl ?_
                    refine at_iload dx_118_88 rfl ?_
                    refine at_const (x := 1) dx_118_89 rfl ?_
                    refine at_iload dx_118_90 rfl ?_
                    refine at_callVI dx_118_91 rfl lc_856 rfl (m_startOf r85 (by decide) r28 (by omega) (by omega) hN2) ?_
                    rintro x91 M9 r91 ⟨e9, h91⟩; replace e9 := e9.symm; subst e9
                    replace h91 := bg_of (by omega) h91
                    have q91 : -300 ≤ x91 ∧ x91 ≤ 300 := by rw [h91]; unfold bgN; (repeat' split) <;> omega
                    refine at_iload dx_118_92 rfl ?_
                    refine at_addR dx_118_93 (by constructor <;> omega) (fun r93 => ?_)
                    refine at_iload dx_118_94 rfl ?_
                    refine at_subR dx_118_95 (by constructor <;> omega) (fun r95 => ?_)
                    refine at_istore dx_118_96 ?_
                    refine at_aload dx_118_97 rfl ?_
                    refine at_getR dx_118_98 lc_856 rfl lt_856_27 ?_
                    refine at_iload dx_118_99 rfl ?_
                    refine at_aldI dx_118_100 lc_880 ln_880 (by first | omega | (simp (disch := omega) only [um_eq, um_k, um_j]; omega)) (by first | omega | (simp (disch := omega) only [um_eq, um_k, um_j]; omega)) (fun r100 => ?_)
                    refine at_const (x := 1) dx_118_101 rfl ?_
                    refine at_addR dx_118_102 (by constructor <;> omega) (fun r102 => ?_)
                    refine at_istore dx_118_103 ?_
                    refine at_goto dx_118_104 ?_
                    refine at_goto dx_118_116 ?_
                    refine at_wk (ls := [vr 856, vi _, vi _, vi _, vi _, vi _]) ⟨Or.inl rfl, Or.inl rfl, Or.inl rfl, Or.inl rfl, Or.inl rfl, Or.inl rfl, trivial⟩ ?_
                    first
                    | (exfalso; omega)
                    | (exact ih _ (by omega) _ _ _ r114 r115 (by omega) q114 (by omega) rfl (fe_tr F f114))
                    | (refine ih _ (by omega) _ _ _ r95 r102 (by omega) ?_ (by omega) rfl F
                       rcases h29 with h29 | ⟨j1, j2, j3, j4, j5, j6⟩
                       · omega
                       · obtain ⟨s1, s2, s3, s4⟩ := b5
                         rw [b3] at j5 j6 h42
                         rcases (show x29 = 0 ∨ x29 = 1 by omega) with e | e <;> subst e <;> simp [bgN, tkN] at h42 h91 j5 j6 <;> rw [lenW_mv] at d6 <;> omega)
                  · skip
                    refine at_iload dx_118_71 rfl ?_
                    refine at_zneR dx_118_72 ry (fun c72 => ?_) (fun c72 => ?_)
                    · skip
                      refine at_const (x := 0) dx_118_75 rfl ?_
                      refine at_istore dx_118_76 ?_
                      refine at_iload dx_118_77 rfl ?_
                      refine at_zeqR dx_118_78 (by decide) (fun _ => ?_) (fun c => absurd c (by decide))
                      refine at_aload dx_118_105 rfl ?_
                      refine at_iload dx_118_106 rfl ?_
                      refine at_aload dx_118_107 rfl ?_
                      refine at_getR dx_118_108 lc_856 rfl lt_856_26 ?_
                      refine at_iload dx_118_109 rfl ?_
                      refine at_aldZ dx_118_110 lc_879 ln_879 (by first | omega | (simp (disch := omega) only [um_eq, um_k, um_j]; omega)) (by first | omega | (simp (disch := omega) only [um_eq, um_k, um_j]; omega)) (fun r110 => ?_)
                      refine at_iload dx_118_111 rfl ?_
                      refine at_iload dx_118_112 rfl ?_
                      refine at_callVI dx_118_113 rfl lc_856 rfl (m_maps (N := Ln k) (N2 := Ln (k + 1)) r11 rp ry (by omega) hv hn60 hz hp) ?_
                      rintro x113 M114 r114 ⟨f114, q114⟩
                      refine at_istore dx_118_114 ?_
                      refine at_iincR (y := 1) dx_118_115 rfl rfl (by constructor <;> omega) (fun r115 => ?_)
                      refine at_goto dx_118_116 ?_
                      refine at_wk (ls := [vr 856, vi _, vi _, vi _, vi _, vi _]) ⟨Or.inl rfl, Or.inl rfl, Or.inl rfl, Or.inl rfl, Or.inl rfl, Or.inl rfl, trivial⟩ ?_
                      first
                      | (exfalso; omega)
                      | (exact ih _ (by omega) _ _ _ r114 r115 (by omega) q114 (by omega) rfl (fe_tr F f114))
                      | (refine ih _ (by omega) _ _ _ r95 r102 (by omega) ?_ (by omega) rfl F
                         rcases h29 with h29 | ⟨j1, j2, j3, j4, j5, j6⟩
                         · omega
                         · obtain ⟨s1, s2, s3, s4⟩ := b5
                           rw [b3] at j5 j6 h42
                           rcases (show x29 = 0 ∨ x29 = 1 by omega) with e | e <;> subst e <;> simp [bgN, tkN] at h42 h91 j5 j6 <;> rw [lenW_mv] at d6 <;> omega)
                    · skip
                      refine at_const (x := 1) dx_118_73 rfl ?_
                      refine at_goto dx_118_74 ?_
                      refine at_istore dx_118_76 ?_
                      refine at_iload dx_118_77 rfl ?_
                      refine at_zeqR dx_118_78 (by decide) (fun c => absurd c (by decide)) (fun _ => ?_)
                      have hj29 : x29 ≠ -1 := by omega
                      have hb : M1 880 k ≠ -1 := by omega
                      obtain ⟨b1, b2, b3, b4, b5⟩ := a5.resolve_left hb
                      obtain ⟨d1, d2, d3, d4, -⟩ := hR1.2 (M1 880 k) (by omega) b2
                      obtain ⟨d5, d6⟩ : okW (mv M1 (M1 878 (M1 880 k))) (Ln (M1 880 k)) ∧ Ln (M1 880 k + 1) = lenW (mv M1 (M1 878 (M1 880 k))) (Ln (M1 880 k)) := by
                        rcases d4 with ⟨-, d5, d6⟩ | ⟨d5, -⟩
                        · exact ⟨d5, d6⟩
                        · omega
                      have hN2 := okW_N d5 d2.2
                      have hu2 := okW_u d5
                      have hrow := hR1.1
                      refine at_aload dx_118_79 rfl ?_
                      refine at_getR dx_118_80 lc_856 rfl lt_856_25 ?_
                      refine at_aload dx_118_81 rfl ?_
                      refine at_getR dx_118_82 lc_856 rfl lt_856_27 ?_
                      refine at_iload dx_118_83 rfl ?_
                      refine at_aldI dx_118_84 lc_880 ln_880 (by first | omega | (simp (disch := omega) only [um_eq, um_k, um_j]; omega)) (by first | omega | (simp (disch := omega) only [um_eq, um_k, um_j]; omega)) (fun r84 => ?_)
                      refine at_aldI dx_118_85 lc_878 ln_878 (by first | omega | (simp (disch := omega) only [um_eq, um_k, um_j]; omega)) (by first | omega | (simp (disch := omega) only [um_eq, um_k, um_j]; omega)) (fun r85 => ?_)
                      refine at_istore dx_118_86 ?_
                      refine at_aload dx_118_87 rfl ?_
                      refine at_iload dx_118_88 rfl ?_
                      refine at_const (x := 1) dx_118_89 rfl ?_
                      refine at_iload dx_118_90 rfl ?_
                      refine at_callVI dx_118_91 rfl lc_856 rfl (m_startOf r85 (by decide) r28 (by omega) (by omega) hN2) ?_
                      rintro x91 M9 r91 ⟨e9, h91⟩; replace e9 := e9.symm; subst e9
                      replace h91 := bg_of (by omega) h91
                      have q91 : -300 ≤ x91 ∧ x91 ≤ 300 := by rw [h91]; unfold bgN; (repeat' split) <;> omega
                      refine at_iload dx_118_92 rfl ?_
                      refine at_addR dx_118_93 (by constructor <;> omega) (fun r93 => ?_)
                      refine at_iload dx_118_94 rfl ?_
                      refine at_subR dx_118_95 (by constructor <;> omega) (fun r95 => ?_)
                      refine at_istore dx_118_96 ?_
                      refine at_aload dx_118_97 rfl ?_
                      refine at_getR dx_118_98 lc_856 rfl lt_856_27 ?_
                      refine at_iload dx_118_99 rfl ?_
                      refine at_aldI dx_118_100 lc_880 ln_880 (by first | omega | (simp (disch := omega) only [um_eq, um_k, um_j]; omega)) (by first | omega | (simp (disch := omega) only [um_eq, um_k, um_j]; omega)) (fun r100 => ?_)
                      refine at_const (x := 1) dx_118_101 rfl ?_
                      refine at_addR dx_118_102 (by constructor <;> omega) (fun r102 => ?_)
                      refine at_istore dx_118_103 ?_
                      refine at_goto dx_118_104 ?_
                      refine at_goto dx_118_116 ?_
                      refine at_wk (ls := [vr 856, vi _, vi _, vi _, vi _, vi _]) ⟨Or.inl rfl, Or.inl rfl, Or.inl rfl, Or.inl rfl, Or.inl rfl, Or.inl rfl, trivial⟩ ?_
                      first
                      | (exfalso; omega)
                      | (exact ih _ (by omega) _ _ _ r114 r115 (by omega) q114 (by omega) rfl (fe_tr F f114))
                      | (refine ih _ (by omega) _ _ _ r95 r102 (by omega) ?_ (by omega) rfl F
                         rcases h29 with h29 | ⟨j1, j2, j3, j4, j5, j6⟩
                         · omega
                         · obtain ⟨s1, s2, s3, s4⟩ := b5
                           rw [b3] at j5 j6 h42
                           rcases (show x29 = 0 ∨ x29 = 1 by omega) with e | e <;> subst e <;> simp [bgN, tkN] at h42 h91 j5 j6 <;> rw [lenW_mv] at d6 <;> omega)
      · skip
        refine at_const (x := -1) dx_118_19 rfl ?_
        refine at_goto dx_118_20 ?_
        refine at_istore dx_118_29 ?_
        refine at_iload dx_118_30 rfl ?_
        refine at_const (x := -1) dx_118_31 rfl ?_
        refine at_cneR dx_118_32 (by decide) (by decide) (fun c => absurd c (by decide)) (fun _ => ?_)
        refine at_const (x := 0) dx_118_33 rfl ?_
        refine at_goto dx_118_34 ?_
        refine at_istore dx_118_43 ?_
        refine at_iload dx_118_44 rfl ?_
        refine at_const (x := -1) dx_118_45 rfl ?_
        refine at_cneR dx_118_46 (by decide) (by decide) (fun c => absurd c (by decide)) (fun _ => ?_)
        refine at_const (x := 0) dx_118_47 rfl ?_
        refine at_goto dx_118_48 ?_
        refine at_istore dx_118_59 ?_
        refine at_iload dx_118_60 rfl ?_
        refine at_const (x := -1) dx_118_61 rfl ?_
        refine at_ceqR dx_118_62 (by decide) (by decide) (fun _ => ?_) (fun c => absurd c (by decide))
        refine at_const (x := 0) dx_118_75 rfl ?_
        refine at_istore dx_118_76 ?_
        refine at_iload dx_118_77 rfl ?_
        refine at_zeqR dx_118_78 (by decide) (fun _ => ?_) (fun c => absurd c (by decide))
        refine at_aload dx_118_105 rfl ?_
        refine at_iload dx_118_106 rfl ?_
        refine at_aload dx_118_107 rfl ?_
        refine at_getR dx_118_108 lc_856 rfl lt_856_26 ?_
        refine at_iload dx_118_109 rfl ?_
        refine at_aldZ dx_118_110 lc_879 ln_879 (by first | omega | (simp (disch := omega) only [um_eq, um_k, um_j]; omega)) (by first | omega | (simp (disch := omega) only [um_eq, um_k, um_j]; omega)) (fun r110 => ?_)
        refine at_iload dx_118_111 rfl ?_
        refine at_iload dx_118_112 rfl ?_
        refine at_callVI dx_118_113 rfl lc_856 rfl (m_maps (N := Ln k) (N2 := Ln (k + 1)) r11 rp ry (by omega) hv hn60 hz hp) ?_
        rintro x113 M114 r114 ⟨f114, q114⟩
        refine at_istore dx_118_114 ?_
        refine at_iincR (y := 1) dx_118_115 rfl rfl (by constructor <;> omega) (fun r115 => ?_)
        refine at_goto dx_118_116 ?_
        refine at_wk (ls := [vr 856, vi _, vi _, vi _, vi _, vi _]) ⟨Or.inl rfl, Or.inl rfl, Or.inl rfl, Or.inl rfl, Or.inl rfl, Or.inl rfl, trivial⟩ ?_
        first
        | (exfalso; omega)
        | (exact ih _ (by omega) _ _ _ r114 r115 (by omega) q114 (by omega) rfl (fe_tr F f114))
        | (refine ih _ (by omega) _ _ _ r95 r102 (by omega) ?_ (by omega) rfl F
           rcases h29 with h29 | ⟨j1, j2, j3, j4, j5, j6⟩
           · omega
           · obtain ⟨s1, s2, s3, s4⟩ := b5
             rw [b3] at j5 j6 h42
             rcases (show x29 = 0 ∨ x29 = 1 by omega) with e | e <;> subst e <;> simp [bgN, tkN] at h42 h91 j5 j6 <;> rw [lenW_mv] at d6 <;> omega)
  refine at_iload dx_118_0 rfl ?_
  refine at_istore dx_118_1 ?_
  refine at_iload dx_118_2 rfl ?_
  refine at_istore dx_118_3 ?_
  exact lp _ _ _ _ ra rf hf ha hL rfl fe_rf
