/-! ===== the reference: its other calls, on ===== -/
set_option maxRecDepth 100000 in
set_option maxHeartbeats 4000000 in
theorem y_mark2 {X : scr} {M : mem} {c f t m z : Int} (rc : inR c) (rf : inR f) (rt : inR t) (rm : inR m) (rz : inR z) (hM : MI M) (hG : GR (M 857) (M 858)) (hz : z = 0 ∨ z = 1) : At X 0 136 0 [vr 856, vi c, vi f, vi t, vi m, vi z] [] M (qI (fun _ M' => KM M M')) := by
  refine at_rng (fun hR => ?_)
  have F : frE wE M M := fe_rf
  have hS := fun h1 h2 => hM.1 c h1 h2
  have hdl : 0 ≤ c → c < 3 → ((dc M c).length : Int) = M 860 c := fun h1 h2 => by have := hM.1 c h1 (by omega); rw [dc_len]; omega
  have hat : 0 ≤ c → c < 3 → ∀ q, _ := fun h1 h2 => hat_of (M := M) (c := c) (hM.1 c h1 (by omega)).1
  have hwt : True := trivial
  have lp : ∀ (n9 : Nat) (w n b k : Int) (rw9 : inR w) (rn : inR n) (rb : inR b) (rk : inR k) (hb : b = 0 ∨ b = 1) (hw0 : w = 0 → ¬ ((0 ≤ c ∧ c ≤ 2) ∧ (0 ≤ f ∧ f ≤ M 860 c) ∧ (0 ≤ t ∧ t ≤ M 860 c) ∧ (0 ≤ m ∧ m ≤ 1))) (hw : w = 0 ∨ (w = 1 ∧ (0 ≤ c ∧ c ≤ 2) ∧ (0 ≤ f ∧ f ≤ M 860 c) ∧ (0 ≤ t ∧ t ≤ M 860 c) ∧ (0 ≤ m ∧ m ≤ 1) ∧ f ≤ k ∧ (k ≤ t ∨ k = f))) (hv : HVm M c f k z m w b) (hn : (t - k).toNat = n9), At X 0 136 28 [vr 856, vi c, vi f, vi t, vi m, vi z, vi w, vi n, vi b, vi k] [] M (qI (fun _ M' => KM M M')) := by
    intro n
    induction n using Nat.strongRecOn with
    | ind n ih =>
    intro w n b k rw9 rn rb rk hb hw0 hw hv hn
    have hS2 := fun (h : 0 ≤ c ∧ c ≤ 2) => hM.1 c h.1 (by omega)
    refine at_iload dx_136_28 rfl ?_
    refine at_zeqR dx_136_29 rw9 (fun c29 => ?_) (fun c29 => ?_)
    · skip
      refine at_aload dx_136_73 rfl ?_
      refine at_iload dx_136_74 rfl ?_
      refine at_zneR dx_136_75 rw9 (fun c75 => ?_) (fun c75 => ?_)
      · skip
        refine at_iload dx_136_78 rfl ?_
        refine at_iload dx_136_79 rfl ?_
        refine at_cgtR dx_136_80 rt rf (fun c80 => ?_) (fun c80 => ?_)
        · skip
          refine at_aload dx_136_83 rfl ?_
          refine at_getR dx_136_84 lc_856 rfl lt_856_15 ?_
          refine at_iload dx_136_85 rfl ?_
          refine at_aldI dx_136_86 lc_871 ln_871 (by first | omega | (simp (disch := omega) only [um_eq, um_k, um_j]; omega)) (by first | omega | (simp (disch := omega) only [um_eq, um_k, um_j]; omega)) (fun r86 => ?_)
          refine at_const (x := 10) dx_136_87 rfl ?_
          refine at_cgeR dx_136_88 r86 (by decide) (fun c88 => ?_) (fun c88 => ?_)
          · skip
            refine at_const (x := 3) dx_136_93 rfl ?_
            refine at_callVI dx_136_94 rfl lc_856 rfl (m_fails2 (by decide)) ?_
            rintro x94 M94 r94 ⟨f94, h94⟩; replace h94 := ite01 h94
            replace F : frE wE M _ := fe_tr F (fe_le f94 (fun q j h => by obtain ⟨rfl, rfl⟩ := h; exact wE_31))
            obtain rfl : x94 = 1 := by omega
            refine at_zeqR dx_136_95 (by decide) (fun c => absurd c (by decide)) (fun _ => ?_)
            refine at_const (x := 0) dx_136_96 rfl ?_
            refine at_iretI dx_136_97 (by decide) ?_
            refine KM_OM (cs := csMark f t m z) (c := c) ?_
            have hw1 := fun (e : ¬ w = 0) => (show w = 1 by omega)
            first
            | exact OM_full (MI_wE hM F) F (fun c0 c1 => by omega)
            | (refine OM_nil (MI_wE hM F) F (fun c0 c1 => ?_)
               show cIf _ _ = []
               refine cIf_f (fun hh => ?_)
               obtain ⟨u1, u2, u3⟩ := hh
               have h9 := hdl c0 c1
               first
               | (clear u3; omega)
               | (clear u3; have h0 := hw0 (by assumption); omega)
               | (have hx := (oth_iff (m := m) (z := z) (t := t) (f := f) hR (hM.1 c c0 (by clear u3; omega)).1 u2.1 (by clear u3; omega) hz (by clear u3; omega)).mp u3
                  clear u3
                  obtain ⟨i, i1, i2, i3⟩ := hx
                  have hb1 := (hv (hw1 (by assumption))).mpr ⟨i, i1, by omega, i3⟩
                  omega))
          · skip
            refine at_iload dx_136_89 rfl ?_
            refine at_zeqR dx_136_90 rb (fun c90 => ?_) (fun c90 => ?_)
            · skip
              refine at_const (x := 3) dx_136_93 rfl ?_
              refine at_callVI dx_136_94 rfl lc_856 rfl (m_fails2 (by decide)) ?_
              rintro x94 M94 r94 ⟨f94, h94⟩; replace h94 := ite01 h94
              replace F : frE wE M _ := fe_tr F (fe_le f94 (fun q j h => by obtain ⟨rfl, rfl⟩ := h; exact wE_31))
              obtain rfl : x94 = 1 := by omega
              refine at_zeqR dx_136_95 (by decide) (fun c => absurd c (by decide)) (fun _ => ?_)
              refine at_const (x := 0) dx_136_96 rfl ?_
              refine at_iretI dx_136_97 (by decide) ?_
              refine KM_OM (cs := csMark f t m z) (c := c) ?_
              have hw1 := fun (e : ¬ w = 0) => (show w = 1 by omega)
              first
              | exact OM_full (MI_wE hM F) F (fun c0 c1 => by omega)
              | (refine OM_nil (MI_wE hM F) F (fun c0 c1 => ?_)
                 show cIf _ _ = []
                 refine cIf_f (fun hh => ?_)
                 obtain ⟨u1, u2, u3⟩ := hh
                 have h9 := hdl c0 c1
                 first
                 | (clear u3; omega)
                 | (clear u3; have h0 := hw0 (by assumption); omega)
                 | (have hx := (oth_iff (m := m) (z := z) (t := t) (f := f) hR (hM.1 c c0 (by clear u3; omega)).1 u2.1 (by clear u3; omega) hz (by clear u3; omega)).mp u3
                    clear u3
                    obtain ⟨i, i1, i2, i3⟩ := hx
                    have hb1 := (hv (hw1 (by assumption))).mpr ⟨i, i1, by omega, i3⟩
                    omega))
            · skip
              refine at_const (x := 0) dx_136_91 rfl ?_
              refine at_goto dx_136_92 ?_
              refine at_callVI dx_136_94 rfl lc_856 rfl (m_fails2 (by decide)) ?_
              rintro x94 M94 r94 ⟨f94, h94⟩; replace h94 := ite01 h94
              replace F : frE wE M _ := fe_tr F (fe_le f94 (fun q j h => by obtain ⟨rfl, rfl⟩ := h; exact wE_31))
              obtain rfl : x94 = 0 := by omega
              refine at_zeqR dx_136_95 (by decide) (fun _ => ?_) (fun c => absurd c (by decide))
              refine at_aload dx_136_98 rfl ?_
              refine at_const (x := 100) dx_136_99 rfl ?_
              refine at_const (x := 0) dx_136_100 rfl ?_
              refine at_callVV dx_136_101 rfl lc_856 rfl (m_empties100 (by decide)) ?_
              rintro M101 ⟨f101, t101a, t101b, t101c, t101d, t101e⟩
              replace F : frE wE M _ := fe_tr F (fe_le f101 (fun q j h => wE_T (by (try dsimp only at h); omega)))
              refine at_aload dx_136_102 rfl ?_
              refine at_getR dx_136_103 lc_856 rfl lt_856_4 ?_
              refine at_const (x := 100) dx_136_104 rfl ?_
              refine at_const (x := 1) dx_136_105 rfl ?_
              refine at_astZ dx_136_106 lc_861 ln_861 (by decide) (by decide) (Or.inr rfl) ?_
              refine at_aload dx_136_107 rfl ?_
              refine at_getR dx_136_108 lc_856 rfl lt_856_5 ?_
              refine at_const (x := 100) dx_136_109 rfl ?_
              refine at_iload dx_136_110 rfl ?_
              refine at_astZ dx_136_111 lc_862 ln_862 (by decide) (by decide) (by assumption) ?_
              refine at_aload dx_136_112 rfl ?_
              refine at_getR dx_136_113 lc_856 rfl lt_856_6 ?_
              refine at_const (x := 100) dx_136_114 rfl ?_
              refine at_iload dx_136_115 rfl ?_
              refine at_astI dx_136_116 lc_863 ln_863 (by decide) (by decide) rm ?_
              refine at_aload dx_136_117 rfl ?_
              refine at_getR dx_136_118 lc_856 rfl lt_856_8 ?_
              refine at_const (x := 200) dx_136_119 rfl ?_
              refine at_iload dx_136_120 rfl ?_
              refine at_astI dx_136_121 lc_865 ln_865 (by decide) (by decide) rf ?_
              refine at_aload dx_136_122 rfl ?_
              refine at_getR dx_136_123 lc_856 rfl lt_856_8 ?_
              refine at_const (x := 201) dx_136_124 rfl ?_
              refine at_iload dx_136_125 rfl ?_
              refine at_astI dx_136_126 lc_865 ln_865 (by decide) (by decide) rt ?_
              refine at_mem (fun Mw hMw => ?_)
              have fw : frE (fun q j => ((861 ≤ q ∧ q ≤ 864) ∧ j = 100) ∨ ((865 ≤ q ∧ q ≤ 867) ∧ (j = 200 ∨ j = 201))) M101 Mw := by rw [hMw]; (repeat (first | exact fe_rf | refine fe_ums ?_ (by (try dsimp only); first | done | omega)))
              replace F : frE wE M _ := fe_tr F (fe_le fw (fun q j h => wE_T (by (try dsimp only at h); omega)))
              have nq : ∀ q j, (q = 864 ∧ j = 100) ∨ ((q = 866 ∨ q = 867) ∧ (j = 200 ∨ j = 201)) → Mw q j = M101 q j := fun q j hq => by rw [hMw]; rcases hq with ⟨rfl, rfl⟩ | ⟨rfl | rfl, rfl | rfl⟩ <;> simp (disch := omega) only [um_k, um_j]
              have nw0 : Mw 861 100 = 1 := by rw [hMw]; simp (disch := omega) only [um_eq, um_k, um_j]
              have nw1 : Mw 862 100 = z := by rw [hMw]; simp (disch := omega) only [um_eq, um_k, um_j]
              have nw2 : Mw 863 100 = m := by rw [hMw]; simp (disch := omega) only [um_eq, um_k, um_j]
              have nw3 : Mw 864 100 = 0 := by rw [nq _ _ (by omega)]; omega
              have nw4 : Mw 865 200 = f := by rw [hMw]; simp (disch := omega) only [um_eq, um_k, um_j]
              have nw5 : Mw 865 201 = t := by rw [hMw]; simp (disch := omega) only [um_eq, um_k, um_j]
              have nw6 : Mw 866 200 = 0 ∧ Mw 866 201 = 0 := by rw [nq _ _ (by omega), nq _ _ (by omega)]; omega
              have nw7 : Mw 867 200 = 0 ∧ Mw 867 201 = 0 := by rw [nq _ _ (by omega), nq _ _ (by omega)]; omega
              have hw1 : w = 1 := by omega
              have hvx : HXm M c f k z m := (hv hw1).mp (by omega)
              obtain ⟨g0, g1, g3, g7, g8⟩ := wE_c F
              have hSc := hM.1 c (by omega) (by omega)
              have hdl1 := hdl (by omega) (by omega)
              have hDW : cWD (mv Mw 100) (2, ([f, t, m, z], [])) := by
                refine ⟨(mv Mw 100).2, ?_⟩
                unfold mv
                dsimp only
                rw [nw0, nw1, nw2, nw3, show (2 * 100 : Int) = 200 from rfl, show (200 + 1 : Int) = 201 from rfl, nw4, nw5, nw6.1, nw6.2, nw7.1, nw7.2]
              have hSM : smD (2, ([f, t, m, z], [])) := ⟨by omega, hz⟩
              have hok : okD (2, ([f, t, m, z], [])) (dc M c) := ⟨by omega, by omega, by omega⟩
              have okm : okW (mv Mw 100) (M 860 c) := (okW_D hDW hSM hdl1.symm).mpr hok
              have hap : apW (mv Mw 100) (dc M c) = eD (2, ([f, t, m, z], [])) (dc M c) := by
                obtain ⟨R9, e9⟩ := hDW
                rw [e9, eD_2, ← mkF_L hz (by omega) (fun j hj => by rw [dc_len] at hj; rw [dc_at (by omega)]; exact hR _ _)]
                unfold apW
                dsimp only
                rw [if_pos (by decide)]
              refine at_aload dx_136_127 rfl ?_
              refine at_iload dx_136_128 rfl ?_
              refine at_callVV dx_136_129 rfl lc_856 rfl (m_looksAt rc (by omega) (by rw [g0]; omega)) ?_
              rintro M129 ⟨F129, l129, w129⟩
              have v129 : mv M129 100 = mv Mw 100 := mv_fe F129 (fun q j e h8 hq => by (try dsimp only [stE] at e hq); omega)
              rw [g0] at l129
              rw [g3] at w129
              have Bm : Bal (apW (mv Mw 100) (dc M c)) := by
                rw [apW_eq, if_pos (by omega)]
                refine Bal_mk (MI_bal hM (by omega)) (by omega) (fun j hj => ?_)
                rw [dc_len] at hj
                rw [dc_at (by omega)]
                exact hR _ _
              refine at_aload dx_136_130 rfl ?_
              refine at_const (x := 100) dx_136_131 rfl ?_
              refine at_callVV dx_136_132 rfl lc_856 rfl (m_does (s := 100) (by decide) (by decide) (by omega) (by rw [v129, l129]; exact okm)) ?_
              rintro M132 ⟨F132, l132, w132⟩
              have FB : frE wE M M132 := fe_tr (fe_tr F (fe_le F129 (fun q j h => wE_C (by rcases h with h | h; exact Or.inl h; exact Or.inr (Or.inl h))))) (fe_le F132 (fun q j h => by rcases h with h | h | h; exact wE_C (Or.inl h); exact wE_C (Or.inr (Or.inl h)); exact wE_C (Or.inr (Or.inr (Or.inl h.1)))))
              obtain ⟨q0, q1, q3, q7, q8⟩ := wE_c FB
              have v132 : mv M132 100 = mv Mw 100 := (mv_fe F132 (fun q j e h8 hq => by (try dsimp only [stE] at e hq); omega)).trans v129
              have hwk : wk M132 = apW (mv Mw 100) (dc M c) := by rw [w132, v129, w129]
              refine at_aload dx_136_133 rfl ?_
              refine at_iload dx_136_134 rfl ?_
              refine at_callVV dx_136_135 rfl lc_856 rfl (x_edits2 rc (by omega) (MI_wE hM FB) ⟨by rw [q1]; omega, by rw [v132, q0]; exact okm, l132, by rw [v132, q3]; exact hwk, by rw [hwk]; exact Bm⟩) ?_
              rintro M135 ⟨k1, k2, k3, k4, k5⟩
              refine at_iload dx_136_136 rfl ?_
              refine at_iretI dx_136_137 rn ?_
              exact KM_ed FB k1 k2
        · skip
          refine at_const (x := 2) dx_136_81 rfl ?_
          refine at_goto dx_136_82 ?_
          refine at_callVI dx_136_94 rfl lc_856 rfl (m_fails2 (by decide)) ?_
          rintro x94 M94 r94 ⟨f94, h94⟩; replace h94 := ite01 h94
          replace F : frE wE M _ := fe_tr F (fe_le f94 (fun q j h => by obtain ⟨rfl, rfl⟩ := h; exact wE_31))
          obtain rfl : x94 = 1 := by omega
          refine at_zeqR dx_136_95 (by decide) (fun c => absurd c (by decide)) (fun _ => ?_)
          refine at_const (x := 0) dx_136_96 rfl ?_
          refine at_iretI dx_136_97 (by decide) ?_
          refine KM_OM (cs := csMark f t m z) (c := c) ?_
          have hw1 := fun (e : ¬ w = 0) => (show w = 1 by omega)
          first
          | exact OM_full (MI_wE hM F) F (fun c0 c1 => by omega)
          | (refine OM_nil (MI_wE hM F) F (fun c0 c1 => ?_)
             show cIf _ _ = []
             refine cIf_f (fun hh => ?_)
             obtain ⟨u1, u2, u3⟩ := hh
             have h9 := hdl c0 c1
             first
             | (clear u3; omega)
             | (clear u3; have h0 := hw0 (by assumption); omega)
             | (have hx := (oth_iff (m := m) (z := z) (t := t) (f := f) hR (hM.1 c c0 (by clear u3; omega)).1 u2.1 (by clear u3; omega) hz (by clear u3; omega)).mp u3
                clear u3
                obtain ⟨i, i1, i2, i3⟩ := hx
                have hb1 := (hv (hw1 (by assumption))).mpr ⟨i, i1, by omega, i3⟩
                omega))
      · skip
        refine at_const (x := 1) dx_136_76 rfl ?_
        refine at_goto dx_136_77 ?_
        refine at_callVI dx_136_94 rfl lc_856 rfl (m_fails2 (by decide)) ?_
        rintro x94 M94 r94 ⟨f94, h94⟩; replace h94 := ite01 h94
        replace F : frE wE M _ := fe_tr F (fe_le f94 (fun q j h => by obtain ⟨rfl, rfl⟩ := h; exact wE_31))
        obtain rfl : x94 = 1 := by omega
        refine at_zeqR dx_136_95 (by decide) (fun c => absurd c (by decide)) (fun _ => ?_)
        refine at_const (x := 0) dx_136_96 rfl ?_
        refine at_iretI dx_136_97 (by decide) ?_
        refine KM_OM (cs := csMark f t m z) (c := c) ?_
        have hw1 := fun (e : ¬ w = 0) => (show w = 1 by omega)
        first
        | exact OM_full (MI_wE hM F) F (fun c0 c1 => by omega)
        | (refine OM_nil (MI_wE hM F) F (fun c0 c1 => ?_)
           show cIf _ _ = []
           refine cIf_f (fun hh => ?_)
           obtain ⟨u1, u2, u3⟩ := hh
           have h9 := hdl c0 c1
           first
           | (clear u3; omega)
           | (clear u3; have h0 := hw0 (by assumption); omega)
           | (have hx := (oth_iff (m := m) (z := z) (t := t) (f := f) hR (hM.1 c c0 (by clear u3; omega)).1 u2.1 (by clear u3; omega) hz (by clear u3; omega)).mp u3
              clear u3
              obtain ⟨i, i1, i2, i3⟩ := hx
              have hb1 := (hv (hw1 (by assumption))).mpr ⟨i, i1, by omega, i3⟩
              omega))
    · skip
      refine at_iload dx_136_30 rfl ?_
      refine at_iload dx_136_31 rfl ?_
      refine at_cgeR dx_136_32 rk rt (fun c32 => ?_) (fun c32 => ?_)
      · skip
        refine at_aload dx_136_73 rfl ?_
        refine at_iload dx_136_74 rfl ?_
        refine at_zneR dx_136_75 rw9 (fun c75 => ?_) (fun c75 => ?_)
        · skip
          refine at_iload dx_136_78 rfl ?_
          refine at_iload dx_136_79 rfl ?_
          refine at_cgtR dx_136_80 rt rf (fun c80 => ?_) (fun c80 => ?_)
          · skip
            refine at_aload dx_136_83 rfl ?_
            refine at_getR dx_136_84 lc_856 rfl lt_856_15 ?_
            refine at_iload dx_136_85 rfl ?_
            refine at_aldI dx_136_86 lc_871 ln_871 (by first | omega | (simp (disch := omega) only [um_eq, um_k, um_j]; omega)) (by first | omega | (simp (disch := omega) only [um_eq, um_k, um_j]; omega)) (fun r86 => ?_)
            refine at_const (x := 10) dx_136_87 rfl ?_
            refine at_cgeR dx_136_88 r86 (by decide) (fun c88 => ?_) (fun c88 => ?_)
            · skip
              refine at_const (x := 3) dx_136_93 rfl ?_
              refine at_callVI dx_136_94 rfl lc_856 rfl (m_fails2 (by decide)) ?_
              rintro x94 M94 r94 ⟨f94, h94⟩; replace h94 := ite01 h94
              replace F : frE wE M _ := fe_tr F (fe_le f94 (fun q j h => by obtain ⟨rfl, rfl⟩ := h; exact wE_31))
              obtain rfl : x94 = 1 := by omega
              refine at_zeqR dx_136_95 (by decide) (fun c => absurd c (by decide)) (fun _ => ?_)
              refine at_const (x := 0) dx_136_96 rfl ?_
              refine at_iretI dx_136_97 (by decide) ?_
              refine KM_OM (cs := csMark f t m z) (c := c) ?_
              have hw1 := fun (e : ¬ w = 0) => (show w = 1 by omega)
              first
              | exact OM_full (MI_wE hM F) F (fun c0 c1 => by omega)
              | (refine OM_nil (MI_wE hM F) F (fun c0 c1 => ?_)
                 show cIf _ _ = []
                 refine cIf_f (fun hh => ?_)
                 obtain ⟨u1, u2, u3⟩ := hh
                 have h9 := hdl c0 c1
                 first
                 | (clear u3; omega)
                 | (clear u3; have h0 := hw0 (by assumption); omega)
                 | (have hx := (oth_iff (m := m) (z := z) (t := t) (f := f) hR (hM.1 c c0 (by clear u3; omega)).1 u2.1 (by clear u3; omega) hz (by clear u3; omega)).mp u3
                    clear u3
                    obtain ⟨i, i1, i2, i3⟩ := hx
                    have hb1 := (hv (hw1 (by assumption))).mpr ⟨i, i1, by omega, i3⟩
                    omega))
            · skip
              refine at_iload dx_136_89 rfl ?_
              refine at_zeqR dx_136_90 rb (fun c90 => ?_) (fun c90 => ?_)
              · skip
                refine at_const (x := 3) dx_136_93 rfl ?_
                refine at_callVI dx_136_94 rfl lc_856 rfl (m_fails2 (by decide)) ?_
                rintro x94 M94 r94 ⟨f94, h94⟩; replace h94 := ite01 h94
                replace F : frE wE M _ := fe_tr F (fe_le f94 (fun q j h => by obtain ⟨rfl, rfl⟩ := h; exact wE_31))
                obtain rfl : x94 = 1 := by omega
                refine at_zeqR dx_136_95 (by decide) (fun c => absurd c (by decide)) (fun _ => ?_)
                refine at_const (x := 0) dx_136_96 rfl ?_
                refine at_iretI dx_136_97 (by decide) ?_
                refine KM_OM (cs := csMark f t m z) (c := c) ?_
                have hw1 := fun (e : ¬ w = 0) => (show w = 1 by omega)
                first
                | exact OM_full (MI_wE hM F) F (fun c0 c1 => by omega)
                | (refine OM_nil (MI_wE hM F) F (fun c0 c1 => ?_)
                   show cIf _ _ = []
                   refine cIf_f (fun hh => ?_)
                   obtain ⟨u1, u2, u3⟩ := hh
                   have h9 := hdl c0 c1
                   first
                   | (clear u3; omega)
                   | (clear u3; have h0 := hw0 (by assumption); omega)
                   | (have hx := (oth_iff (m := m) (z := z) (t := t) (f := f) hR (hM.1 c c0 (by clear u3; omega)).1 u2.1 (by clear u3; omega) hz (by clear u3; omega)).mp u3
                      clear u3
                      obtain ⟨i, i1, i2, i3⟩ := hx
                      have hb1 := (hv (hw1 (by assumption))).mpr ⟨i, i1, by omega, i3⟩
                      omega))
              · skip
                refine at_const (x := 0) dx_136_91 rfl ?_
                refine at_goto dx_136_92 ?_
                refine at_callVI dx_136_94 rfl lc_856 rfl (m_fails2 (by decide)) ?_
                rintro x94 M94 r94 ⟨f94, h94⟩; replace h94 := ite01 h94
                replace F : frE wE M _ := fe_tr F (fe_le f94 (fun q j h => by obtain ⟨rfl, rfl⟩ := h; exact wE_31))
                obtain rfl : x94 = 0 := by omega
                refine at_zeqR dx_136_95 (by decide) (fun _ => ?_) (fun c => absurd c (by decide))
                refine at_aload dx_136_98 rfl ?_
                refine at_const (x := 100) dx_136_99 rfl ?_
                refine at_const (x := 0) dx_136_100 rfl ?_
                refine at_callVV dx_136_101 rfl lc_856 rfl (m_empties100 (by decide)) ?_
                rintro M101 ⟨f101, t101a, t101b, t101c, t101d, t101e⟩
                replace F : frE wE M _ := fe_tr F (fe_le f101 (fun q j h => wE_T (by (try dsimp only at h); omega)))
                refine at_aload dx_136_102 rfl ?_
                refine at_getR dx_136_103 lc_856 rfl lt_856_4 ?_
                refine at_const (x := 100) dx_136_104 rfl ?_
                refine at_const (x := 1) dx_136_105 rfl ?_
                refine at_astZ dx_136_106 lc_861 ln_861 (by decide) (by decide) (Or.inr rfl) ?_
                refine at_aload dx_136_107 rfl ?_
                refine at_getR dx_136_108 lc_856 rfl lt_856_5 ?_
                refine at_const (x := 100) dx_136_109 rfl ?_
                refine at_iload dx_136_110 rfl ?_
                refine at_astZ dx_136_111 lc_862 ln_862 (by decide) (by decide) (by assumption) ?_
                refine at_aload dx_136_112 rfl ?_
                refine at_getR dx_136_113 lc_856 rfl lt_856_6 ?_
                refine at_const (x := 100) dx_136_114 rfl ?_
                refine at_iload dx_136_115 rfl ?_
                refine at_astI dx_136_116 lc_863 ln_863 (by decide) (by decide) rm ?_
                refine at_aload dx_136_117 rfl ?_
                refine at_getR dx_136_118 lc_856 rfl lt_856_8 ?_
                refine at_const (x := 200) dx_136_119 rfl ?_
                refine at_iload dx_136_120 rfl ?_
                refine at_astI dx_136_121 lc_865 ln_865 (by decide) (by decide) rf ?_
                refine at_aload dx_136_122 rfl ?_
                refine at_getR dx_136_123 lc_856 rfl lt_856_8 ?_
                refine at_const (x := 201) dx_136_124 rfl ?_
                refine at_iload dx_136_125 rfl ?_
                refine at_astI dx_136_126 lc_865 ln_865 (by decide) (by decide) rt ?_
                refine at_mem (fun Mw hMw => ?_)
                have fw : frE (fun q j => ((861 ≤ q ∧ q ≤ 864) ∧ j = 100) ∨ ((865 ≤ q ∧ q ≤ 867) ∧ (j = 200 ∨ j = 201))) M101 Mw := by rw [hMw]; (repeat (first | exact fe_rf | refine fe_ums ?_ (by (try dsimp only); first | done | omega)))
                replace F : frE wE M _ := fe_tr F (fe_le fw (fun q j h => wE_T (by (try dsimp only at h); omega)))
                have nq : ∀ q j, (q = 864 ∧ j = 100) ∨ ((q = 866 ∨ q = 867) ∧ (j = 200 ∨ j = 201)) → Mw q j = M101 q j := fun q j hq => by rw [hMw]; rcases hq with ⟨rfl, rfl⟩ | ⟨rfl | rfl, rfl | rfl⟩ <;> simp (disch := omega) only [um_k, um_j]
                have nw0 : Mw 861 100 = 1 := by rw [hMw]; simp (disch := omega) only [um_eq, um_k, um_j]
                have nw1 : Mw 862 100 = z := by rw [hMw]; simp (disch := omega) only [um_eq, um_k, um_j]
                have nw2 : Mw 863 100 = m := by rw [hMw]; simp (disch := omega) only [um_eq, um_k, um_j]
                have nw3 : Mw 864 100 = 0 := by rw [nq _ _ (by omega)]; omega
                have nw4 : Mw 865 200 = f := by rw [hMw]; simp (disch := omega) only [um_eq, um_k, um_j]
                have nw5 : Mw 865 201 = t := by rw [hMw]; simp (disch := omega) only [um_eq, um_k, um_j]
                have nw6 : Mw 866 200 = 0 ∧ Mw 866 201 = 0 := by rw [nq _ _ (by omega), nq _ _ (by omega)]; omega
                have nw7 : Mw 867 200 = 0 ∧ Mw 867 201 = 0 := by rw [nq _ _ (by omega), nq _ _ (by omega)]; omega
                have hw1 : w = 1 := by omega
                have hvx : HXm M c f k z m := (hv hw1).mp (by omega)
                obtain ⟨g0, g1, g3, g7, g8⟩ := wE_c F
                have hSc := hM.1 c (by omega) (by omega)
                have hdl1 := hdl (by omega) (by omega)
                have hDW : cWD (mv Mw 100) (2, ([f, t, m, z], [])) := by
                  refine ⟨(mv Mw 100).2, ?_⟩
                  unfold mv
                  dsimp only
                  rw [nw0, nw1, nw2, nw3, show (2 * 100 : Int) = 200 from rfl, show (200 + 1 : Int) = 201 from rfl, nw4, nw5, nw6.1, nw6.2, nw7.1, nw7.2]
                have hSM : smD (2, ([f, t, m, z], [])) := ⟨by omega, hz⟩
                have hok : okD (2, ([f, t, m, z], [])) (dc M c) := ⟨by omega, by omega, by omega⟩
                have okm : okW (mv Mw 100) (M 860 c) := (okW_D hDW hSM hdl1.symm).mpr hok
                have hap : apW (mv Mw 100) (dc M c) = eD (2, ([f, t, m, z], [])) (dc M c) := by
                  obtain ⟨R9, e9⟩ := hDW
                  rw [e9, eD_2, ← mkF_L hz (by omega) (fun j hj => by rw [dc_len] at hj; rw [dc_at (by omega)]; exact hR _ _)]
                  unfold apW
                  dsimp only
                  rw [if_pos (by decide)]
                refine at_aload dx_136_127 rfl ?_
                refine at_iload dx_136_128 rfl ?_
                refine at_callVV dx_136_129 rfl lc_856 rfl (m_looksAt rc (by omega) (by rw [g0]; omega)) ?_
                rintro M129 ⟨F129, l129, w129⟩
                have v129 : mv M129 100 = mv Mw 100 := mv_fe F129 (fun q j e h8 hq => by (try dsimp only [stE] at e hq); omega)
                rw [g0] at l129
                rw [g3] at w129
                have Bm : Bal (apW (mv Mw 100) (dc M c)) := by
                  rw [apW_eq, if_pos (by omega)]
                  refine Bal_mk (MI_bal hM (by omega)) (by omega) (fun j hj => ?_)
                  rw [dc_len] at hj
                  rw [dc_at (by omega)]
                  exact hR _ _
                refine at_aload dx_136_130 rfl ?_
                refine at_const (x := 100) dx_136_131 rfl ?_
                refine at_callVV dx_136_132 rfl lc_856 rfl (m_does (s := 100) (by decide) (by decide) (by omega) (by rw [v129, l129]; exact okm)) ?_
                rintro M132 ⟨F132, l132, w132⟩
                have FB : frE wE M M132 := fe_tr (fe_tr F (fe_le F129 (fun q j h => wE_C (by rcases h with h | h; exact Or.inl h; exact Or.inr (Or.inl h))))) (fe_le F132 (fun q j h => by rcases h with h | h | h; exact wE_C (Or.inl h); exact wE_C (Or.inr (Or.inl h)); exact wE_C (Or.inr (Or.inr (Or.inl h.1)))))
                obtain ⟨q0, q1, q3, q7, q8⟩ := wE_c FB
                have v132 : mv M132 100 = mv Mw 100 := (mv_fe F132 (fun q j e h8 hq => by (try dsimp only [stE] at e hq); omega)).trans v129
                have hwk : wk M132 = apW (mv Mw 100) (dc M c) := by rw [w132, v129, w129]
                refine at_aload dx_136_133 rfl ?_
                refine at_iload dx_136_134 rfl ?_
                refine at_callVV dx_136_135 rfl lc_856 rfl (x_edits2 rc (by omega) (MI_wE hM FB) ⟨by rw [q1]; omega, by rw [v132, q0]; exact okm, l132, by rw [v132, q3]; exact hwk, by rw [hwk]; exact Bm⟩) ?_
                rintro M135 ⟨k1, k2, k3, k4, k5⟩
                refine at_iload dx_136_136 rfl ?_
                refine at_iretI dx_136_137 rn ?_
                exact KM_ed FB k1 k2
          · skip
            refine at_const (x := 2) dx_136_81 rfl ?_
            refine at_goto dx_136_82 ?_
            refine at_callVI dx_136_94 rfl lc_856 rfl (m_fails2 (by decide)) ?_
            rintro x94 M94 r94 ⟨f94, h94⟩; replace h94 := ite01 h94
            replace F : frE wE M _ := fe_tr F (fe_le f94 (fun q j h => by obtain ⟨rfl, rfl⟩ := h; exact wE_31))
            obtain rfl : x94 = 1 := by omega
            refine at_zeqR dx_136_95 (by decide) (fun c => absurd c (by decide)) (fun _ => ?_)
            refine at_const (x := 0) dx_136_96 rfl ?_
            refine at_iretI dx_136_97 (by decide) ?_
            refine KM_OM (cs := csMark f t m z) (c := c) ?_
            have hw1 := fun (e : ¬ w = 0) => (show w = 1 by omega)
            first
            | exact OM_full (MI_wE hM F) F (fun c0 c1 => by omega)
            | (refine OM_nil (MI_wE hM F) F (fun c0 c1 => ?_)
               show cIf _ _ = []
               refine cIf_f (fun hh => ?_)
               obtain ⟨u1, u2, u3⟩ := hh
               have h9 := hdl c0 c1
               first
               | (clear u3; omega)
               | (clear u3; have h0 := hw0 (by assumption); omega)
               | (have hx := (oth_iff (m := m) (z := z) (t := t) (f := f) hR (hM.1 c c0 (by clear u3; omega)).1 u2.1 (by clear u3; omega) hz (by clear u3; omega)).mp u3
                  clear u3
                  obtain ⟨i, i1, i2, i3⟩ := hx
                  have hb1 := (hv (hw1 (by assumption))).mpr ⟨i, i1, by omega, i3⟩
                  omega))
        · skip
          refine at_const (x := 1) dx_136_76 rfl ?_
          refine at_goto dx_136_77 ?_
          refine at_callVI dx_136_94 rfl lc_856 rfl (m_fails2 (by decide)) ?_
          rintro x94 M94 r94 ⟨f94, h94⟩; replace h94 := ite01 h94
          replace F : frE wE M _ := fe_tr F (fe_le f94 (fun q j h => by obtain ⟨rfl, rfl⟩ := h; exact wE_31))
          obtain rfl : x94 = 1 := by omega
          refine at_zeqR dx_136_95 (by decide) (fun c => absurd c (by decide)) (fun _ => ?_)
          refine at_const (x := 0) dx_136_96 rfl ?_
          refine at_iretI dx_136_97 (by decide) ?_
          refine KM_OM (cs := csMark f t m z) (c := c) ?_
          have hw1 := fun (e : ¬ w = 0) => (show w = 1 by omega)
          first
          | exact OM_full (MI_wE hM F) F (fun c0 c1 => by omega)
          | (refine OM_nil (MI_wE hM F) F (fun c0 c1 => ?_)
             show cIf _ _ = []
             refine cIf_f (fun hh => ?_)
             obtain ⟨u1, u2, u3⟩ := hh
             have h9 := hdl c0 c1
             first
             | (clear u3; omega)
             | (clear u3; have h0 := hw0 (by assumption); omega)
             | (have hx := (oth_iff (m := m) (z := z) (t := t) (f := f) hR (hM.1 c c0 (by clear u3; omega)).1 u2.1 (by clear u3; omega) hz (by clear u3; omega)).mp u3
                clear u3
                obtain ⟨i, i1, i2, i3⟩ := hx
                have hb1 := (hv (hw1 (by assumption))).mpr ⟨i, i1, by omega, i3⟩
                omega))
      · skip
        refine at_aload dx_136_33 rfl ?_
        refine at_iload dx_136_34 rfl ?_
        refine at_iload dx_136_35 rfl ?_
        refine at_callVI dx_136_36 rfl lc_856 rfl (m_tokenOf rc rk (by omega) (by have := hM.1 c (by omega) (by omega); omega)) ?_
        rintro x36 M9 r36 ⟨e9, h36⟩; replace e9 := e9.symm; subst e9
        refine at_istore dx_136_37 ?_
        refine at_iload dx_136_38 rfl ?_
        refine at_iload dx_136_39 rfl ?_
        refine at_const (x := 100) dx_136_40 rfl ?_
        refine at_cltR dx_136_41 r36 (by decide) (fun c41 => ?_) (fun c41 => ?_)
        · skip
          refine at_const (x := 0) dx_136_44 rfl ?_
          refine at_addW dx_136_45 ?_
          refine at_istore dx_136_46 ?_
          refine at_iload dx_136_47 rfl ?_
          refine at_zneR dx_136_48 rb (fun c48 => ?_) (fun c48 => ?_)
          · skip
            refine at_const (x := 1) dx_136_67 rfl ?_
            refine at_goto dx_136_68 ?_
            refine at_istore dx_136_70 ?_
            refine at_iincR (y := 1) dx_136_71 rfl rfl (by constructor <;> omega) (fun r71 => ?_)
            refine at_goto dx_136_72 ?_
            refine at_wk (ls := [vr 856, vi _, vi _, vi _, vi _, vi _, vi _, vi _, vi _, vi _]) ⟨Or.inl rfl, Or.inl rfl, Or.inl rfl, Or.inl rfl, Or.inl rfl, Or.inl rfl, Or.inl rfl, Or.inl rfl, Or.inl rfl, Or.inl rfl, trivial⟩ ?_
            exact ih _ (by omega) _ _ _ _ rw9 (by first | assumption | exact inR_wr _) (by first | assumption | decide) r71 (by first | assumption | exact Or.inl rfl | exact Or.inr rfl) hw0 (by omega) (fun e => oth_step (hv e) (by omega) (by show _ ↔ (_ ∨ OTH z m (M 859 (60 * c + k))); unfold OTH; rw [← h36]; omega)) rfl
          · skip
            refine at_iload dx_136_49 rfl ?_
            refine at_const (x := 100) dx_136_50 rfl ?_
            refine at_cltR dx_136_51 r36 (by decide) (fun c51 => ?_) (fun c51 => ?_)
            · skip
              refine at_const (x := 0) dx_136_69 rfl ?_
              refine at_istore dx_136_70 ?_
              refine at_iincR (y := 1) dx_136_71 rfl rfl (by constructor <;> omega) (fun r71 => ?_)
              refine at_goto dx_136_72 ?_
              refine at_wk (ls := [vr 856, vi _, vi _, vi _, vi _, vi _, vi _, vi _, vi _, vi _]) ⟨Or.inl rfl, Or.inl rfl, Or.inl rfl, Or.inl rfl, Or.inl rfl, Or.inl rfl, Or.inl rfl, Or.inl rfl, Or.inl rfl, Or.inl rfl, trivial⟩ ?_
              exact ih _ (by omega) _ _ _ _ rw9 (by first | assumption | exact inR_wr _) (by first | assumption | decide) r71 (by first | assumption | exact Or.inl rfl | exact Or.inr rfl) hw0 (by omega) (fun e => oth_step (hv e) (by omega) (by show _ ↔ (_ ∨ OTH z m (M 859 (60 * c + k))); unfold OTH; rw [← h36]; omega)) rfl
            · skip
              refine at_iload dx_136_52 rfl ?_
              refine at_const (x := 100) dx_136_53 rfl ?_
              refine at_subR dx_136_54 (by constructor <;> omega) (fun r54 => ?_)
              refine at_const (x := 4) dx_136_55 rfl ?_
              refine at_rem dx_136_56 (by decide) ?_
              refine at_iload dx_136_57 rfl ?_
              refine at_shr dx_136_58 ?_
              refine at_const (x := 1) dx_136_59 rfl ?_
              refine at_and dx_136_60 ?_
              refine at_iload dx_136_61 rfl ?_
              refine at_zeqR dx_136_62 rz (fun c62 => ?_) (fun c62 => ?_)
              · skip
                refine at_const (x := 1) dx_136_65 rfl ?_
                refine at_cneR dx_136_66 (inR_and _ _) (by decide) (fun c66 => ?_) (fun c66 => ?_)
                · skip
                  refine at_const (x := 0) dx_136_69 rfl ?_
                  refine at_istore dx_136_70 ?_
                  refine at_iincR (y := 1) dx_136_71 rfl rfl (by constructor <;> omega) (fun r71 => ?_)
                  refine at_goto dx_136_72 ?_
                  refine at_wk (ls := [vr 856, vi _, vi _, vi _, vi _, vi _, vi _, vi _, vi _, vi _]) ⟨Or.inl rfl, Or.inl rfl, Or.inl rfl, Or.inl rfl, Or.inl rfl, Or.inl rfl, Or.inl rfl, Or.inl rfl, Or.inl rfl, Or.inl rfl, trivial⟩ ?_
                  exact ih _ (by omega) _ _ _ _ rw9 (by first | assumption | exact inR_wr _) (by first | assumption | decide) r71 (by first | assumption | exact Or.inl rfl | exact Or.inr rfl) hw0 (by omega) (fun e => oth_step (hv e) (by omega) (by show _ ↔ (_ ∨ OTH z m (M 859 (60 * c + k))); unfold OTH; rw [← h36]; omega)) rfl
                · skip
                  refine at_const (x := 1) dx_136_67 rfl ?_
                  refine at_goto dx_136_68 ?_
                  refine at_istore dx_136_70 ?_
                  refine at_iincR (y := 1) dx_136_71 rfl rfl (by constructor <;> omega) (fun r71 => ?_)
                  refine at_goto dx_136_72 ?_
                  refine at_wk (ls := [vr 856, vi _, vi _, vi _, vi _, vi _, vi _, vi _, vi _, vi _]) ⟨Or.inl rfl, Or.inl rfl, Or.inl rfl, Or.inl rfl, Or.inl rfl, Or.inl rfl, Or.inl rfl, Or.inl rfl, Or.inl rfl, Or.inl rfl, trivial⟩ ?_
                  exact ih _ (by omega) _ _ _ _ rw9 (by first | assumption | exact inR_wr _) (by first | assumption | decide) r71 (by first | assumption | exact Or.inl rfl | exact Or.inr rfl) hw0 (by omega) (fun e => oth_step (hv e) (by omega) (by show _ ↔ (_ ∨ OTH z m (M 859 (60 * c + k))); unfold OTH; rw [← h36]; omega)) rfl
              · skip
                refine at_const (x := 0) dx_136_63 rfl ?_
                refine at_goto dx_136_64 ?_
                refine at_cneR dx_136_66 (inR_and _ _) (by decide) (fun c66 => ?_) (fun c66 => ?_)
                · skip
                  refine at_const (x := 0) dx_136_69 rfl ?_
                  refine at_istore dx_136_70 ?_
                  refine at_iincR (y := 1) dx_136_71 rfl rfl (by constructor <;> omega) (fun r71 => ?_)
                  refine at_goto dx_136_72 ?_
                  refine at_wk (ls := [vr 856, vi _, vi _, vi _, vi _, vi _, vi _, vi _, vi _, vi _]) ⟨Or.inl rfl, Or.inl rfl, Or.inl rfl, Or.inl rfl, Or.inl rfl, Or.inl rfl, Or.inl rfl, Or.inl rfl, Or.inl rfl, Or.inl rfl, trivial⟩ ?_
                  exact ih _ (by omega) _ _ _ _ rw9 (by first | assumption | exact inR_wr _) (by first | assumption | decide) r71 (by first | assumption | exact Or.inl rfl | exact Or.inr rfl) hw0 (by omega) (fun e => oth_step (hv e) (by omega) (by show _ ↔ (_ ∨ OTH z m (M 859 (60 * c + k))); unfold OTH; rw [← h36]; omega)) rfl
                · skip
                  refine at_const (x := 1) dx_136_67 rfl ?_
                  refine at_goto dx_136_68 ?_
                  refine at_istore dx_136_70 ?_
                  refine at_iincR (y := 1) dx_136_71 rfl rfl (by constructor <;> omega) (fun r71 => ?_)
                  refine at_goto dx_136_72 ?_
                  refine at_wk (ls := [vr 856, vi _, vi _, vi _, vi _, vi _, vi _, vi _, vi _, vi _]) ⟨Or.inl rfl, Or.inl rfl, Or.inl rfl, Or.inl rfl, Or.inl rfl, Or.inl rfl, Or.inl rfl, Or.inl rfl, Or.inl rfl, Or.inl rfl, trivial⟩ ?_
                  exact ih _ (by omega) _ _ _ _ rw9 (by first | assumption | exact inR_wr _) (by first | assumption | decide) r71 (by first | assumption | exact Or.inl rfl | exact Or.inr rfl) hw0 (by omega) (fun e => oth_step (hv e) (by omega) (by show _ ↔ (_ ∨ OTH z m (M 859 (60 * c + k))); unfold OTH; rw [← h36]; omega)) rfl
        · skip
          refine at_const (x := 1) dx_136_42 rfl ?_
          refine at_goto dx_136_43 ?_
          refine at_addW dx_136_45 ?_
          refine at_istore dx_136_46 ?_
          refine at_iload dx_136_47 rfl ?_
          refine at_zneR dx_136_48 rb (fun c48 => ?_) (fun c48 => ?_)
          · skip
            refine at_const (x := 1) dx_136_67 rfl ?_
            refine at_goto dx_136_68 ?_
            refine at_istore dx_136_70 ?_
            refine at_iincR (y := 1) dx_136_71 rfl rfl (by constructor <;> omega) (fun r71 => ?_)
            refine at_goto dx_136_72 ?_
            refine at_wk (ls := [vr 856, vi _, vi _, vi _, vi _, vi _, vi _, vi _, vi _, vi _]) ⟨Or.inl rfl, Or.inl rfl, Or.inl rfl, Or.inl rfl, Or.inl rfl, Or.inl rfl, Or.inl rfl, Or.inl rfl, Or.inl rfl, Or.inl rfl, trivial⟩ ?_
            exact ih _ (by omega) _ _ _ _ rw9 (by first | assumption | exact inR_wr _) (by first | assumption | decide) r71 (by first | assumption | exact Or.inl rfl | exact Or.inr rfl) hw0 (by omega) (fun e => oth_step (hv e) (by omega) (by show _ ↔ (_ ∨ OTH z m (M 859 (60 * c + k))); unfold OTH; rw [← h36]; omega)) rfl
          · skip
            refine at_iload dx_136_49 rfl ?_
            refine at_const (x := 100) dx_136_50 rfl ?_
            refine at_cltR dx_136_51 r36 (by decide) (fun c51 => ?_) (fun c51 => ?_)
            · skip
              refine at_const (x := 0) dx_136_69 rfl ?_
              refine at_istore dx_136_70 ?_
              refine at_iincR (y := 1) dx_136_71 rfl rfl (by constructor <;> omega) (fun r71 => ?_)
              refine at_goto dx_136_72 ?_
              refine at_wk (ls := [vr 856, vi _, vi _, vi _, vi _, vi _, vi _, vi _, vi _, vi _]) ⟨Or.inl rfl, Or.inl rfl, Or.inl rfl, Or.inl rfl, Or.inl rfl, Or.inl rfl, Or.inl rfl, Or.inl rfl, Or.inl rfl, Or.inl rfl, trivial⟩ ?_
              exact ih _ (by omega) _ _ _ _ rw9 (by first | assumption | exact inR_wr _) (by first | assumption | decide) r71 (by first | assumption | exact Or.inl rfl | exact Or.inr rfl) hw0 (by omega) (fun e => oth_step (hv e) (by omega) (by show _ ↔ (_ ∨ OTH z m (M 859 (60 * c + k))); unfold OTH; rw [← h36]; omega)) rfl
            · skip
              refine at_iload dx_136_52 rfl ?_
              refine at_const (x := 100) dx_136_53 rfl ?_
              refine at_subR dx_136_54 (by constructor <;> omega) (fun r54 => ?_)
              refine at_const (x := 4) dx_136_55 rfl ?_
              refine at_rem dx_136_56 (by decide) ?_
              refine at_iload dx_136_57 rfl ?_
              refine at_shr dx_136_58 ?_
              refine at_const (x := 1) dx_136_59 rfl ?_
              refine at_and dx_136_60 ?_
              refine at_iload dx_136_61 rfl ?_
              refine at_zeqR dx_136_62 rz (fun c62 => ?_) (fun c62 => ?_)
              · skip
                refine at_const (x := 1) dx_136_65 rfl ?_
                refine at_cneR dx_136_66 (inR_and _ _) (by decide) (fun c66 => ?_) (fun c66 => ?_)
                · skip
                  refine at_const (x := 0) dx_136_69 rfl ?_
                  refine at_istore dx_136_70 ?_
                  refine at_iincR (y := 1) dx_136_71 rfl rfl (by constructor <;> omega) (fun r71 => ?_)
                  refine at_goto dx_136_72 ?_
                  refine at_wk (ls := [vr 856, vi _, vi _, vi _, vi _, vi _, vi _, vi _, vi _, vi _]) ⟨Or.inl rfl, Or.inl rfl, Or.inl rfl, Or.inl rfl, Or.inl rfl, Or.inl rfl, Or.inl rfl, Or.inl rfl, Or.inl rfl, Or.inl rfl, trivial⟩ ?_
                  exact ih _ (by omega) _ _ _ _ rw9 (by first | assumption | exact inR_wr _) (by first | assumption | decide) r71 (by first | assumption | exact Or.inl rfl | exact Or.inr rfl) hw0 (by omega) (fun e => oth_step (hv e) (by omega) (by show _ ↔ (_ ∨ OTH z m (M 859 (60 * c + k))); unfold OTH; rw [← h36]; omega)) rfl
                · skip
                  refine at_const (x := 1) dx_136_67 rfl ?_
                  refine at_goto dx_136_68 ?_
                  refine at_istore dx_136_70 ?_
                  refine at_iincR (y := 1) dx_136_71 rfl rfl (by constructor <;> omega) (fun r71 => ?_)
                  refine at_goto dx_136_72 ?_
                  refine at_wk (ls := [vr 856, vi _, vi _, vi _, vi _, vi _, vi _, vi _, vi _, vi _]) ⟨Or.inl rfl, Or.inl rfl, Or.inl rfl, Or.inl rfl, Or.inl rfl, Or.inl rfl, Or.inl rfl, Or.inl rfl, Or.inl rfl, Or.inl rfl, trivial⟩ ?_
                  exact ih _ (by omega) _ _ _ _ rw9 (by first | assumption | exact inR_wr _) (by first | assumption | decide) r71 (by first | assumption | exact Or.inl rfl | exact Or.inr rfl) hw0 (by omega) (fun e => oth_step (hv e) (by omega) (by show _ ↔ (_ ∨ OTH z m (M 859 (60 * c + k))); unfold OTH; rw [← h36]; omega)) rfl
              · skip
                refine at_const (x := 0) dx_136_63 rfl ?_
                refine at_goto dx_136_64 ?_
                refine at_cneR dx_136_66 (inR_and _ _) (by decide) (fun c66 => ?_) (fun c66 => ?_)
                · skip
                  refine at_const (x := 0) dx_136_69 rfl ?_
                  refine at_istore dx_136_70 ?_
                  refine at_iincR (y := 1) dx_136_71 rfl rfl (by constructor <;> omega) (fun r71 => ?_)
                  refine at_goto dx_136_72 ?_
                  refine at_wk (ls := [vr 856, vi _, vi _, vi _, vi _, vi _, vi _, vi _, vi _, vi _]) ⟨Or.inl rfl, Or.inl rfl, Or.inl rfl, Or.inl rfl, Or.inl rfl, Or.inl rfl, Or.inl rfl, Or.inl rfl, Or.inl rfl, Or.inl rfl, trivial⟩ ?_
                  exact ih _ (by omega) _ _ _ _ rw9 (by first | assumption | exact inR_wr _) (by first | assumption | decide) r71 (by first | assumption | exact Or.inl rfl | exact Or.inr rfl) hw0 (by omega) (fun e => oth_step (hv e) (by omega) (by show _ ↔ (_ ∨ OTH z m (M 859 (60 * c + k))); unfold OTH; rw [← h36]; omega)) rfl
                · skip
                  refine at_const (x := 1) dx_136_67 rfl ?_
                  refine at_goto dx_136_68 ?_
                  refine at_istore dx_136_70 ?_
                  refine at_iincR (y := 1) dx_136_71 rfl rfl (by constructor <;> omega) (fun r71 => ?_)
                  refine at_goto dx_136_72 ?_
                  refine at_wk (ls := [vr 856, vi _, vi _, vi _, vi _, vi _, vi _, vi _, vi _, vi _]) ⟨Or.inl rfl, Or.inl rfl, Or.inl rfl, Or.inl rfl, Or.inl rfl, Or.inl rfl, Or.inl rfl, Or.inl rfl, Or.inl rfl, Or.inl rfl, trivial⟩ ?_
                  exact ih _ (by omega) _ _ _ _ rw9 (by first | assumption | exact inR_wr _) (by first | assumption | decide) r71 (by first | assumption | exact Or.inl rfl | exact Or.inr rfl) hw0 (by omega) (fun e => oth_step (hv e) (by omega) (by show _ ↔ (_ ∨ OTH z m (M 859 (60 * c + k))); unfold OTH; rw [← h36]; omega)) rfl
  refine at_iload dx_136_0 rfl ?_
  refine at_callSI dx_136_1 rfl rfl (m_isClient rc) ?_
  rintro x1 M9 r1 ⟨e9, h1⟩; replace e9 := e9.symm; subst e9; replace h1 := ite01 h1
  refine at_zeqR dx_136_2 r1 (fun c2 => ?_) (fun c2 => ?_)
  · skip
    refine at_const (x := 0) dx_136_20 rfl ?_
    refine at_istore dx_136_21 ?_
    refine at_const (x := 0) dx_136_22 rfl ?_
    refine at_istore dx_136_23 ?_
    refine at_const (x := 0) dx_136_24 rfl ?_
    refine at_istore dx_136_25 ?_
    refine at_iload dx_136_26 rfl ?_
    refine at_istore dx_136_27 ?_
    exact lp _ _ 0 0 _ (by first | assumption | decide) (by decide) (by decide) rf (Or.inl rfl) (by omega) (by omega) (fun _ => ⟨fun e => absurd e (by decide), fun ⟨i, i1, i2, _⟩ => by omega⟩) rfl
  · skip
    refine at_aload dx_136_3 rfl ?_
    refine at_iload dx_136_4 rfl ?_
    refine at_iload dx_136_5 rfl ?_
    refine at_callVI dx_136_6 rfl lc_856 rfl (m_isPlace rc rf) ?_
    rintro x6 M9 r6 ⟨e9, h6⟩; replace e9 := e9.symm; subst e9; replace h6 := ite01 h6
    refine at_zeqR dx_136_7 r6 (fun c7 => ?_) (fun c7 => ?_)
    · skip
      refine at_const (x := 0) dx_136_20 rfl ?_
      refine at_istore dx_136_21 ?_
      refine at_const (x := 0) dx_136_22 rfl ?_
      refine at_istore dx_136_23 ?_
      refine at_const (x := 0) dx_136_24 rfl ?_
      refine at_istore dx_136_25 ?_
      refine at_iload dx_136_26 rfl ?_
      refine at_istore dx_136_27 ?_
      exact lp _ _ 0 0 _ (by first | assumption | decide) (by decide) (by decide) rf (Or.inl rfl) (by omega) (by omega) (fun _ => ⟨fun e => absurd e (by decide), fun ⟨i, i1, i2, _⟩ => by omega⟩) rfl
    · skip
      refine at_aload dx_136_8 rfl ?_
      refine at_iload dx_136_9 rfl ?_
      refine at_iload dx_136_10 rfl ?_
      refine at_callVI dx_136_11 rfl lc_856 rfl (m_isPlace rc rt) ?_
      rintro x11 M9 r11 ⟨e9, h11⟩; replace e9 := e9.symm; subst e9; replace h11 := ite01 h11
      refine at_zeqR dx_136_12 r11 (fun c12 => ?_) (fun c12 => ?_)
      · skip
        refine at_const (x := 0) dx_136_20 rfl ?_
        refine at_istore dx_136_21 ?_
        refine at_const (x := 0) dx_136_22 rfl ?_
        refine at_istore dx_136_23 ?_
        refine at_const (x := 0) dx_136_24 rfl ?_
        refine at_istore dx_136_25 ?_
        refine at_iload dx_136_26 rfl ?_
        refine at_istore dx_136_27 ?_
        exact lp _ _ 0 0 _ (by first | assumption | decide) (by decide) (by decide) rf (Or.inl rfl) (by omega) (by omega) (fun _ => ⟨fun e => absurd e (by decide), fun ⟨i, i1, i2, _⟩ => by omega⟩) rfl
      · skip
        refine at_iload dx_136_13 rfl ?_
        refine at_const (x := 0) dx_136_14 rfl ?_
        refine at_const (x := 1) dx_136_15 rfl ?_
        refine at_callSI dx_136_16 rfl rfl (m_isIn rm (by decide) (by decide)) ?_
        rintro x16 M9 r16 ⟨e9, h16⟩; replace e9 := e9.symm; subst e9; replace h16 := ite01 h16
        refine at_zeqR dx_136_17 r16 (fun c17 => ?_) (fun c17 => ?_)
        · skip
          refine at_const (x := 0) dx_136_20 rfl ?_
          refine at_istore dx_136_21 ?_
          refine at_const (x := 0) dx_136_22 rfl ?_
          refine at_istore dx_136_23 ?_
          refine at_const (x := 0) dx_136_24 rfl ?_
          refine at_istore dx_136_25 ?_
          refine at_iload dx_136_26 rfl ?_
          refine at_istore dx_136_27 ?_
          exact lp _ _ 0 0 _ (by first | assumption | decide) (by decide) (by decide) rf (Or.inl rfl) (by omega) (by omega) (fun _ => ⟨fun e => absurd e (by decide), fun ⟨i, i1, i2, _⟩ => by omega⟩) rfl
        · skip
          refine at_const (x := 1) dx_136_18 rfl ?_
          refine at_goto dx_136_19 ?_
          refine at_istore dx_136_21 ?_
          refine at_const (x := 0) dx_136_22 rfl ?_
          refine at_istore dx_136_23 ?_
          refine at_const (x := 0) dx_136_24 rfl ?_
          refine at_istore dx_136_25 ?_
          refine at_iload dx_136_26 rfl ?_
          refine at_istore dx_136_27 ?_
          exact lp _ _ 0 0 _ (by first | assumption | decide) (by decide) (by decide) rf (Or.inl rfl) (by omega) (by omega) (fun _ => ⟨fun e => absurd e (by decide), fun ⟨i, i1, i2, _⟩ => by omega⟩) rfl

