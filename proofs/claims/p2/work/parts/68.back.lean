/-! ===== taking back, on both sides ===== -/
abbrev tE (c : Int) (q : Nat) (j : Int) : Prop := wE q j ∨ (q = 859 ∧ 60 * c ≤ j ∧ j < 60 * c + 60) ∨ ((q = 860 ∨ q = 871) ∧ j = c)
/-- what taking back comes to, of the reference -/
noncomputable def TM (c : Int) (M M' : mem) : Prop := (((0 ≤ c ∧ c ≤ 2) ∧ 0 < M 871 c) ∧ MI M' ∧ frE (tE c) M M' ∧ M' 871 c = M 871 c - 1) ∨ (¬ ((0 ≤ c ∧ c ≤ 2) ∧ 0 < M 871 c) ∧ MI M' ∧ frE wE M M')
set_option maxRecDepth 100000 in
set_option maxHeartbeats 4000000 in
theorem y_takeBack {X : scr} {M : mem} {c : Int} (rc : inR c) (hM : MI M) : At X 0 143 0 [vr 856, vi c] [] M (qI (fun _ M' => TM c M M')) := by
  have F : frE wE M M := fe_rf
  have hS := fun h1 h2 => hM.1 c h1 h2
  have lp : ∀ (n9 : Nat) (k z : Int) (b : List Int) (M1 : mem) (rz : inR z) (rk : inR k) (hc : 0 ≤ c ∧ c ≤ 2) (hk : 0 ≤ k ∧ k ≤ M 871 c - 1) (hn : (M 871 c - 1 - k).toNat = n9) (F : frE (fun q j => q = 877 ∨ (q = 856 ∧ (j = 23 ∨ j = 31)) ∨ q = 868 ∨ (q = 871 ∧ j = c)) M M1) (e1 : M1 871 c = M 871 c - 1) (hl : 0 ≤ M1 856 23 ∧ M1 856 23 ≤ 60) (b4 : RunW (lgW M (M 870 c)) [1, 0] b) (b5 : RunW (pdW M c (M 871 c)) b (dc M c)) (w : RunW (pdW M c k) b (wk M1)), At X 0 143 36 [vr 856, vi c, vi z, vi k] [] M1 (qI (fun _ M' => TM c M M')) := by
    intro n9
    induction n9 using Nat.strongRecOn with
    | ind n9 ih =>
    intro k z b M1 rz rk hc hk hn F e1 hl b4 b5 w
    have nx := fun (h : k < M 871 c) => RunW_next (f := fun i : Int => mv M (60 + 10 * c + i)) hk.1 h b5 w
    have el : ((wk M1).length : Int) = M1 856 23 := by rw [wk_len]; omega
    have hmc := hM.2.2.2.2 c hc.1 hc.2
    unfold MC at hmc
    obtain ⟨c1, c2, c3, -⟩ := hmc
    have em : k < 10 → mv M1 (60 + 10 * c + k) = mv M (60 + 10 * c + k) := fun h => mv_fe F (fun q j e h8 hq => by (try dsimp only [stE] at e hq); omega)
    refine at_iload dx_143_36 rfl ?_
    refine at_aload dx_143_37 rfl ?_
    refine at_getR dx_143_38 lc_856 rfl lt_856_15 ?_
    refine at_iload dx_143_39 rfl ?_
    refine at_aldI dx_143_40 lc_871 ln_871 (by first | omega | (simp (disch := omega) only [um_eq, um_k, um_j]; omega)) (by first | omega | (simp (disch := omega) only [um_eq, um_k, um_j]; omega)) (fun r40 => ?_)
    refine at_cgeR dx_143_41 rk r40 (fun c41 => ?_) (fun c41 => ?_)
    · skip
      refine at_aload dx_143_49 rfl ?_
      refine at_iload dx_143_50 rfl ?_
      refine at_callVV dx_143_51 rfl lc_856 rfl (m_keeps rc (by omega) hl) ?_
      rintro M51 ⟨F51, s51, d51⟩
      refine at_aload dx_143_52 rfl ?_
      refine at_getR dx_143_53 lc_856 rfl lt_856_15 ?_
      refine at_iload dx_143_54 rfl ?_
      refine at_aldI dx_143_55 lc_871 ln_871 (by first | omega | (simp (disch := omega) only [um_eq, um_k, um_j]; omega)) (by first | omega | (simp (disch := omega) only [um_eq, um_k, um_j]; omega)) (fun r55 => ?_)
      refine at_iretI dx_143_56 r55 ?_
      have hkp : k = M 871 c - 1 := by omega
      subst hkp
      have FC : frE (fun q j => sqE q j ∨ ceE c q j) M M51 := fe_tr (fe_le F (fun q j h => by
        rcases h with h | ⟨h1, h2⟩ | h | h
        · exact Or.inl (sq_C (Or.inl h))
        · exact Or.inl (Or.inl ⟨h1, by omega, by omega⟩)
        · exact Or.inl (sq_C (Or.inr (Or.inr (Or.inl h))))
        · exact Or.inr (Or.inr (Or.inl ⟨Or.inr (Or.inr (Or.inl h.1)), h.2⟩)))) (fe_le F51 (fun q j h => by
        rcases h with h | h
        · exact Or.inr (Or.inr (Or.inl ⟨Or.inl h.1, h.2⟩))
        · exact Or.inr (Or.inl h)))
      have g1 : M51 871 c = M 871 c - 1 := by rw [F51 871 c (by (try dsimp only [stE, sqE, ceE]); first | done | omega), e1]
      have FT : frE (tE c) M M51 := fe_tr (fe_le F (fun q j h => by
        rcases h with h | ⟨h1, h2⟩ | h | h
        · exact Or.inl (wE_C (Or.inl h))
        · exact Or.inl (Or.inl ⟨h1, by omega⟩)
        · exact Or.inl (wE_C (Or.inr (Or.inr (Or.inl h))))
        · exact Or.inr (Or.inr ⟨Or.inr h.1, h.2⟩))) (fe_le F51 (fun q j h => by
        rcases h with h | h
        · exact Or.inr (Or.inr ⟨Or.inl h.1, h.2⟩)
        · exact Or.inr (Or.inl h)))
      refine Or.inl ⟨⟨hc, by omega⟩, MI_cl hM hc FC (by rw [s51]; exact hl) ⟨?_, ?_, ?_, b, ?_, ?_⟩, FT, g1⟩
      · rw [F51 870 c (by (try dsimp only [stE, sqE, ceE]); first | done | omega), F51 856 13 (by (try dsimp only [stE, sqE, ceE]); first | done | omega), F 870 c (by (try dsimp only [stE, sqE, ceE]); first | done | omega), F 856 13 (by (try dsimp only [stE, sqE, ceE]); first | done | omega)]; exact c1
      · rw [g1]; omega
      · rw [F51 874 c (by (try dsimp only [stE, sqE, ceE]); first | done | omega), F 874 c (by (try dsimp only [stE, sqE, ceE]); first | done | omega)]; exact c3
      · rw [F51 870 c (by (try dsimp only [stE, sqE, ceE]); first | done | omega), F 870 c (by (try dsimp only [stE, sqE, ceE]); first | done | omega), lgW_fe F51 (fun q j e => by (try dsimp only at e); omega), lgW_fe F (fun q j e => by (try dsimp only at e); omega)]; exact b4
      · rw [g1, d51, pdW_fe F51 (fun q j e => by (try dsimp only at e); omega), pdW_fe F (fun q j e => by (try dsimp only at e); omega)]; exact w
    · skip
      refine at_aload dx_143_42 rfl ?_
      refine at_iload dx_143_43 rfl ?_
      refine at_iload dx_143_44 rfl ?_
      refine at_callSI dx_143_45 rfl rfl (m_place rc rk (by omega) (by omega)) ?_
      rintro x45 M9 r45 ⟨e9, h45⟩; replace e9 := e9.symm; subst e9; subst h45
      refine at_callVV dx_143_46 rfl lc_856 rfl (m_does r45 (by omega) hl (by rw [em (by omega), ← el]; exact (nx (by omega)).1)) ?_
      rintro M46 ⟨F46, l46, w46⟩
      have f46 : frE (fun q j => q = 877 ∨ (q = 856 ∧ j = 23) ∨ q = 868) M1 M46 := fe_le F46 (fun q j h => by (try dsimp only at h ⊢); omega)
      refine at_iincR (y := 1) dx_143_47 rfl rfl (by constructor <;> omega) (fun r47 => ?_)
      refine at_goto dx_143_48 ?_
      obtain ⟨n1, n2, n3⟩ := nx (by omega)
      exact ih _ (by omega) (k + 1) _ b _ rz r47 hc (by omega) rfl (fe_tr F (fe_le f46 (fun q j h => by (try dsimp only [stE, sqE, ceE] at h ⊢); first | done | omega))) (by rw [f46 871 c (by (try dsimp only [stE, sqE, ceE]); first | done | omega), e1]) l46 b4 b5 (by rw [w46, em (by omega)]; exact n3)
  refine at_iload dx_143_0 rfl ?_
  refine at_callSI dx_143_1 rfl rfl (m_isClient rc) ?_
  rintro x1 M9 r1 ⟨e9, h1⟩; replace e9 := e9.symm; subst e9; replace h1 := ite01 h1
  refine at_istore dx_143_2 ?_
  refine at_aload dx_143_3 rfl ?_
  refine at_iload dx_143_4 rfl ?_
  refine at_zneR dx_143_5 r1 (fun c5 => ?_) (fun c5 => ?_)
  · skip
    refine at_aload dx_143_8 rfl ?_
    refine at_getR dx_143_9 lc_856 rfl lt_856_15 ?_
    refine at_iload dx_143_10 rfl ?_
    refine at_aldI dx_143_11 lc_871 ln_871 (by first | omega | (simp (disch := omega) only [um_eq, um_k, um_j]; omega)) (by first | omega | (simp (disch := omega) only [um_eq, um_k, um_j]; omega)) (fun r11 => ?_)
    refine at_zneR dx_143_12 r11 (fun c12 => ?_) (fun c12 => ?_)
    · skip
      refine at_const (x := 0) dx_143_15 rfl ?_
      refine at_callVI dx_143_16 rfl lc_856 rfl (m_fails2 (by decide)) ?_
      rintro x16 M16 r16 ⟨f16, h16⟩; replace h16 := ite01 h16
      replace F : frE wE M _ := fe_tr F (fe_le f16 (fun q j h => by obtain ⟨rfl, rfl⟩ := h; exact wE_31))
      obtain rfl : x16 = 0 := by omega
      refine at_zeqR dx_143_17 (by decide) (fun _ => ?_) (fun c => absurd c (by decide))
      have hmc := hM.2.2.2.2 c (by omega) (by omega)
      unfold MC at hmc
      obtain ⟨b1, b2, b3, b, b4, b5⟩ := hmc
      have e871 : M16 871 c = M 871 c := f16 871 c (by (try dsimp only [stE, sqE, ceE]); first | done | omega)
      refine at_aload dx_143_20 rfl ?_
      refine at_getR dx_143_21 lc_856 rfl lt_856_15 ?_
      refine at_iload dx_143_22 rfl ?_
      refine at_dup2 dx_143_23 rfl rfl ?_
      refine at_aldI dx_143_24 lc_871 ln_871 (by first | omega | (simp (disch := omega) only [um_eq, um_k, um_j]; omega)) (by first | omega | (simp (disch := omega) only [um_eq, um_k, um_j]; omega)) (fun r24 => ?_)
      refine at_const (x := 1) dx_143_25 rfl ?_
      refine at_subR dx_143_26 (by constructor <;> omega) (fun r26 => ?_)
      refine at_astI dx_143_27 lc_871 ln_871 (by first | omega | (simp (disch := omega) only [um_eq, um_k, um_j]; omega)) (by first | omega | (simp (disch := omega) only [um_eq, um_k, um_j]; omega)) r26 ?_
      refine at_mem (fun Mu hMu => ?_)
      have Fu : frE (fun q j => q = 871 ∧ j = c) M16 Mu := by rw [hMu]; exact fe_um ⟨rfl, rfl⟩
      have u1 : Mu 871 c = M 871 c - 1 := by rw [hMu, um_eq, e871]
      refine at_aload dx_143_28 rfl ?_
      refine at_aload dx_143_29 rfl ?_
      refine at_getR dx_143_30 lc_856 rfl lt_856_14 ?_
      refine at_iload dx_143_31 rfl ?_
      refine at_aldI dx_143_32 lc_870 ln_870 (by first | omega | (simp (disch := omega) only [um_eq, um_k, um_j]; omega)) (by first | omega | (simp (disch := omega) only [um_eq, um_k, um_j]; omega)) (fun r32 => ?_)
      refine at_callVV dx_143_33 rfl lc_856 rfl (m_builds (b := b) r32 (by rw [Fu 870 c (by (try dsimp only [stE, sqE, ceE]); first | done | omega), f16 870 c (by (try dsimp only [stE, sqE, ceE]); first | done | omega)]; omega) (by rw [Fu 870 c (by (try dsimp only [stE, sqE, ceE]); first | done | omega), f16 870 c (by (try dsimp only [stE, sqE, ceE]); first | done | omega), lgW_fe Fu (fun q j e => by (try dsimp only at e); omega), lgW_fe f16 (fun q j e => by (try dsimp only at e); omega)]; exact b4)) ?_
      rintro M33 ⟨F33, l33, w33⟩
      refine at_const (x := 0) dx_143_34 rfl ?_
      refine at_istore dx_143_35 ?_
      exact lp _ 0 _ b M33 r1 (by decide) (by omega) (by omega) rfl (fe_tr (fe_tr (fe_le f16 (fun q j h => by (try dsimp only [stE, sqE, ceE] at h ⊢); first | done | omega)) (fe_le Fu (fun q j h => by (try dsimp only [stE, sqE, ceE] at h ⊢); first | done | omega))) (fe_le F33 (fun q j h => by (try dsimp only [stE, sqE, ceE] at h ⊢); first | done | omega))) (by rw [F33 871 c (by (try dsimp only [stE, sqE, ceE]); first | done | omega), u1]) l33 b4 b5 (by rw [w33]; rfl)
    · skip
      refine at_const (x := 2) dx_143_13 rfl ?_
      refine at_goto dx_143_14 ?_
      refine at_callVI dx_143_16 rfl lc_856 rfl (m_fails2 (by decide)) ?_
      rintro x16 M16 r16 ⟨f16, h16⟩; replace h16 := ite01 h16
      replace F : frE wE M _ := fe_tr F (fe_le f16 (fun q j h => by obtain ⟨rfl, rfl⟩ := h; exact wE_31))
      obtain rfl : x16 = 1 := by omega
      refine at_zeqR dx_143_17 (by decide) (fun c => absurd c (by decide)) (fun _ => ?_)
      refine at_const (x := 0) dx_143_18 rfl ?_
      refine at_iretI dx_143_19 (by decide) ?_
      exact Or.inr ⟨by omega, MI_wE hM F, F⟩
  · skip
    refine at_const (x := 1) dx_143_6 rfl ?_
    refine at_goto dx_143_7 ?_
    refine at_callVI dx_143_16 rfl lc_856 rfl (m_fails2 (by decide)) ?_
    rintro x16 M16 r16 ⟨f16, h16⟩; replace h16 := ite01 h16
    replace F : frE wE M _ := fe_tr F (fe_le f16 (fun q j h => by obtain ⟨rfl, rfl⟩ := h; exact wE_31))
    obtain rfl : x16 = 1 := by omega
    refine at_zeqR dx_143_17 (by decide) (fun c => absurd c (by decide)) (fun _ => ?_)
    refine at_const (x := 0) dx_143_18 rfl ?_
    refine at_iretI dx_143_19 (by decide) ?_
    exact Or.inr ⟨by omega, MI_wE hM F, F⟩

/-- cells of a client that taking back changes, besides its count -/
abbrev tz (c q : Nat) : Prop := wq q ∨ (c + 8 ≤ q ∧ q < c + 88 ∧ (q % 8 = 4 ∨ q % 8 = 5))
abbrev tq (c q : Nat) : Prop := tz c q ∨ q = c ∨ q = c + 4 ∨ q = c + 5
noncomputable def TC (x : Int) (M M' : mem) : Prop := (((0 ≤ x ∧ x < 3) ∧ 0 < M (cl x) 2) ∧ CI M' ∧ fr (tq (cl x)) M M' ∧ M' (cl x) 0 = M (cl x) 0 ∧ M' (cl x) 2 = M (cl x) 2 - 1) ∨ (¬ ((0 ≤ x ∧ x < 3) ∧ 0 < M (cl x) 2) ∧ CI M' ∧ fr wq M M')
theorem TC_no {x : Int} {M M' : mem} (h : ¬ (0 ≤ x ∧ x < 3)) (hC : CI M') (f : fr wq M M') : TC x M M' := Or.inr ⟨fun e => h e.1, hC, f⟩
theorem TC_0 {x : Int} {c : Nat} {M M' : mem} (hcx : c = 592 + 88 * x.toNat) (h : ¬ 0 < M c 2) (hC : CI M') (f : fr wq M M') : TC x M M' := by
  have e : c = cl x := hcx
  subst e
  exact Or.inr ⟨fun e => h e.2, hC, f⟩
theorem TC_1 {x : Int} {c : Nat} {M M' : mem} (hcx : c = 592 + 88 * x.toNat) (h0 : 0 ≤ x ∧ x < 3) (h : 0 < M c 2) (hC : CI M') (f : fr (tq c) M M') (h1 : M' c 0 = M c 0) (h2 : M' c 2 = M c 2 - 1) : TC x M M' := by
  have e : c = cl x := hcx
  subst e
  exact Or.inl ⟨⟨h0, h⟩, hC, f, h1, h2⟩
set_option maxRecDepth 100000 in
set_option maxHeartbeats 4000000 in
theorem x_takeBack {X : scr} {M : mem} {x : Int} (rx : inR x) (hC : CI M) : At X 0 58 0 [vr 0, vi x] [] M (qT (qI (fun _ M' => TC x M M')) (fun e M' => e ∈ [0, 2] ∧ TC x M M')) := by
  have F : fr wq M M := fr_rf
  have T : TI M := hC.1
  have G : RI M := hC.2.1
  have lp : ∀ (n : Nat) (c : Nat) (i z : Int) (M1 : mem) (hc : ly_c c = 0) (ri : inR i) (h0 : 0 ≤ i ∧ i ≤ z ∧ z < M c 2) (hn : (z - i).toNat = n) (F : fr (tq c) M M1) (hcx : c = 592 + 88 * x.toNat) (h03 : 0 ≤ x ∧ x < 3) (hp0 : 0 < M c 2) (hz1 : z = M c 2 - 1) (T : TI M1) (G : RI M1) (e0 : M1 c 0 = M c 0) (e2 : M1 c 2 = z) (w1 : Run (pdV M c i) (tk M (c + 2)) (tk M1 (c + 4))), At X 0 58 21 [vr 0, vi x, vr c, vi i] [] M1 (qT (qI (fun _ M' => TC x M M')) (fun e M' => e ∈ [0, 2] ∧ TC x M M')) := by
    intro n
    induction n using Nat.strongRecOn with
    | ind n ih =>
    intro c i z M1 hc ri h0 hn F hcx h03 hp0 hz1 T G e0 e2 w1
    have h8 := cl_al hc
    obtain ⟨a1, a2, a3, a4, a5, a6⟩ := hC.2.2.2.2.2 c hc
    have nx := fun (h : i < z) => Run_next (f := fun i : Nat => sv M (c + 8 + 8 * i)) h0.1 (show i < M c 2 by omega) a6 w1
    refine at_iload dx_58_21 rfl ?_
    refine at_aload dx_58_22 rfl ?_
    refine at_getI 2 dx_58_23 hc rfl rfl (fun r23 => ?_)
    refine at_cgeR dx_58_24 ri r23 (fun c24 => ?_) (fun c24 => ?_)
    · skip
      refine at_aload dx_58_47 rfl ?_
      refine at_getI 2 dx_58_48 hc rfl rfl (fun r48 => ?_)
      refine at_iretIT dx_58_49 r48 ?_
      have hiz : i = z := by omega
      subst hiz
      have eb : tk M1 (c + 2) = tk M (c + 2) := tk_fr F (by (try dsimp only [blk, sq, cq, lo, wq, pq, tz]); first | done | omega) (by (try dsimp only [blk, sq, cq, lo, wq, pq, tz]); first | done | omega)
      have e03 : M1 0 3 = M 0 3 := F 0 3 (by (try dsimp only [blk, sq, cq, lo, wq, pq, tz]); first | done | omega)
      refine TC_1 hcx h03 hp0 (CI_cl hC hc (fr_le F (fun q h => by (try dsimp only [blk, sq, cq, lo, wq, pq, tz] at h ⊢); first | done | omega)) T G ⟨?_, ?_, ?_, ?_, ?_, ?_⟩) F e0 (e2.trans hz1)
      · rw [e0]; exact a1
      · rw [e0, e03]; exact a2
      · omega
      · omega
      · rw [e0, eb, lgV_cg F (by have := hC.2.2.1; omega) (fun q hP => by dsimp only [tq, tz, wq] at hP; omega)]; exact a5
      · rw [e2, eb, pdV_cg F hc (by omega) (fun q hP => by dsimp only [tq, tz, wq] at hP; omega)]; exact w1
    · skip
      refine at_iload dx_58_25 rfl ?_
      refine at_aload dx_58_26 rfl ?_
      refine at_getR dx_58_27 hc rfl (cl_t3 hc) ?_
      refine at_alen dx_58_28 (cl_c1 hc) rfl (cl_n1 hc) ?_
      refine at_cgeR dx_58_29 ri (by decide) (fun c29 => ?_) (fun c29 => ?_)
      · skip
        refine at_aload dx_58_47 rfl ?_
        refine at_getI 2 dx_58_48 hc rfl rfl (fun r48 => ?_)
        refine at_iretIT dx_58_49 r48 ?_
        have hiz : i = z := by omega
        subst hiz
        have eb : tk M1 (c + 2) = tk M (c + 2) := tk_fr F (by (try dsimp only [blk, sq, cq, lo, wq, pq, tz]); first | done | omega) (by (try dsimp only [blk, sq, cq, lo, wq, pq, tz]); first | done | omega)
        have e03 : M1 0 3 = M 0 3 := F 0 3 (by (try dsimp only [blk, sq, cq, lo, wq, pq, tz]); first | done | omega)
        refine TC_1 hcx h03 hp0 (CI_cl hC hc (fr_le F (fun q h => by (try dsimp only [blk, sq, cq, lo, wq, pq, tz] at h ⊢); first | done | omega)) T G ⟨?_, ?_, ?_, ?_, ?_, ?_⟩) F e0 (e2.trans hz1)
        · rw [e0]; exact a1
        · rw [e0, e03]; exact a2
        · omega
        · omega
        · rw [e0, eb, lgV_cg F (by have := hC.2.2.1; omega) (fun q hP => by dsimp only [tq, tz, wq] at hP; omega)]; exact a5
        · rw [e2, eb, pdV_cg F hc (by omega) (fun q hP => by dsimp only [tq, tz, wq] at hP; omega)]; exact w1
      · skip
        refine at_aload dx_58_30 rfl ?_
        refine at_getR dx_58_31 hc rfl (cl_t3 hc) ?_
        refine at_iload dx_58_32 rfl ?_
        refine at_aldS dx_58_33 (cl_c1 hc) (cl_n1 hc) (by first | omega | (simp (disch := omega) only [um_eq, um_k, um_j]; omega)) (by first | omega | (simp (disch := omega) only [um_eq, um_k, um_j]; omega)) (pd_t hc h0.1 (by omega)) ?_
        refine at_aload dx_58_34 rfl ?_
        refine at_getR dx_58_35 hc rfl (cl_t5 hc) ?_
        refine at_aload dx_58_36 rfl ?_
        refine at_getR dx_58_37 lc_0 rfl lt_0_9 ?_
        refine at_callVI dx_58_38 rfl (pd_c hc h0.1 (by omega)) rfl (c_applyTo (pd_c hc h0.1 (by omega)) (cl_c4 hc) lc_20 (by omega) (by omega) (by omega) (by omega) (by omega) T) ?_
        rintro x38 M38 r38 ⟨f38, i38, b38, w38, t38⟩
        refine at_zeqR dx_58_39 r38 (fun c39 => ?_) (fun c39 => ?_)
        · skip
          refine at_iincR (y := 1) dx_58_45 rfl rfl (by (have := (hC.2.2.2.2.2 c hc); constructor <;> omega)) (fun r45 => ?_)
          refine at_goto dx_58_46 ?_
          have sK : sv M1 (c + 8 + 8 * i.toNat) = sv M (c + 8 + 8 * i.toNat) := sv_fr F (by (try dsimp only [blk, sq, cq, lo, wq, pq, tz]); first | done | omega) (by (try dsimp only [blk, sq, cq, lo, wq, pq, tz]); first | done | omega) (by (try dsimp only [blk, sq, cq, lo, wq, pq, tz]); first | done | omega) (by (try dsimp only [blk, sq, cq, lo, wq, pq, tz]); first | done | omega) (by (try dsimp only [blk, sq, cq, lo, wq, pq, tz]); first | done | omega) (by (try dsimp only [blk, sq, cq, lo, wq, pq, tz]); first | done | omega)
          obtain ⟨n1, n2⟩ := nx (by omega)
          first
          | (exact absurd (w38.mpr (by rw [sK]; exact n1)) (by omega))
          | (refine ih _ (by omega) c (i + 1) z M44 hc r45 (by omega) rfl (fr_tr (fr_tr F (fr_le f38 (fun q h => by (try dsimp only [blk, sq, cq, lo, wq, pq, tz] at h ⊢); first | done | omega))) (fr_le f44 (fun q h => by (try dsimp only [blk, sq, cq, lo, wq, pq, tz] at h ⊢); first | done | omega))) hcx h03 hp0 hz1 T44 (RI_fr f44 (by (try dsimp only [blk, sq, cq, lo, wq, pq, tz]); first | done | omega) (RI_fr f38 (by (try dsimp only [blk, sq, cq, lo, wq, pq, tz]); first | done | omega) G)) (by rw [f44 c 0 (by (try dsimp only [blk, sq, cq, lo, wq, pq, tz]); first | done | omega), f38 c 0 (by (try dsimp only [blk, sq, cq, lo, wq, pq, tz]); first | done | omega), e0]) (by rw [f44 c 2 (by (try dsimp only [blk, sq, cq, lo, wq, pq, tz]); first | done | omega), f38 c 2 (by (try dsimp only [blk, sq, cq, lo, wq, pq, tz]); first | done | omega), e2]) ?_
             have t9 := t38 (by omega)
             rw [sK] at t9
             rw [t44, t9]; exact n2)
        · skip
          refine at_aload dx_58_40 rfl ?_
          refine at_getR dx_58_41 hc rfl (cl_t5 hc) ?_
          refine at_aload dx_58_42 rfl ?_
          refine at_getR dx_58_43 lc_0 rfl lt_0_9 ?_
          refine at_callVV dx_58_44 rfl (cl_c4 hc) rfl (c_become (cl_c4 hc) lc_20 (by omega) (i38 _ lc_20)) ?_
          rintro M44 ⟨f44, i44, t44⟩
          have T44 : TI M44 := TI_fr i38 f44 (fun q hq hP => by
            rcases hP with h | h
            · subst h; exact i44
            · have := tk_e hq; omega)
          refine at_iincR (y := 1) dx_58_45 rfl rfl (by (have := (hC.2.2.2.2.2 c hc); constructor <;> omega)) (fun r45 => ?_)
          refine at_goto dx_58_46 ?_
          have sK : sv M1 (c + 8 + 8 * i.toNat) = sv M (c + 8 + 8 * i.toNat) := sv_fr F (by (try dsimp only [blk, sq, cq, lo, wq, pq, tz]); first | done | omega) (by (try dsimp only [blk, sq, cq, lo, wq, pq, tz]); first | done | omega) (by (try dsimp only [blk, sq, cq, lo, wq, pq, tz]); first | done | omega) (by (try dsimp only [blk, sq, cq, lo, wq, pq, tz]); first | done | omega) (by (try dsimp only [blk, sq, cq, lo, wq, pq, tz]); first | done | omega) (by (try dsimp only [blk, sq, cq, lo, wq, pq, tz]); first | done | omega)
          obtain ⟨n1, n2⟩ := nx (by omega)
          first
          | (exact absurd (w38.mpr (by rw [sK]; exact n1)) (by omega))
          | (refine ih _ (by omega) c (i + 1) z M44 hc r45 (by omega) rfl (fr_tr (fr_tr F (fr_le f38 (fun q h => by (try dsimp only [blk, sq, cq, lo, wq, pq, tz] at h ⊢); first | done | omega))) (fr_le f44 (fun q h => by (try dsimp only [blk, sq, cq, lo, wq, pq, tz] at h ⊢); first | done | omega))) hcx h03 hp0 hz1 T44 (RI_fr f44 (by (try dsimp only [blk, sq, cq, lo, wq, pq, tz]); first | done | omega) (RI_fr f38 (by (try dsimp only [blk, sq, cq, lo, wq, pq, tz]); first | done | omega) G)) (by rw [f44 c 0 (by (try dsimp only [blk, sq, cq, lo, wq, pq, tz]); first | done | omega), f38 c 0 (by (try dsimp only [blk, sq, cq, lo, wq, pq, tz]); first | done | omega), e0]) (by rw [f44 c 2 (by (try dsimp only [blk, sq, cq, lo, wq, pq, tz]); first | done | omega), f38 c 2 (by (try dsimp only [blk, sq, cq, lo, wq, pq, tz]); first | done | omega), e2]) ?_
             have t9 := t38 (by omega)
             rw [sK] at t9
             rw [t44, t9]; exact n2)
  refine at_aload dx_58_0 rfl ?_
  refine at_iload dx_58_1 rfl ?_
  refine at_callVRT dx_58_2 rfl lc_0 rfl (x_clientOf rx) ?_ ?_
  rotate_left
  · rintro e M9 ⟨he, e9, hno⟩; replace e9 := e9.symm; subst e9; exact Or.inr ⟨e, rfl, rfl, (by simp only [List.mem_cons, List.not_mem_nil, or_false]; omega), TC_no hno hC fr_rf⟩
  rintro c M9 ⟨e9, h0, h3, hcx, hc⟩; replace e9 := e9.symm; subst e9
  have h8 := cl_al hc
  refine at_astore dx_58_3 ?_
  refine at_aload dx_58_4 rfl ?_
  refine at_getI 2 dx_58_5 hc rfl rfl (fun r5 => ?_)
  refine at_zneR dx_58_6 r5 (fun c6 => ?_) (fun c6 => ?_)
  · skip
    refine at_aload dx_58_8 rfl ?_
    refine at_dup dx_58_9 rfl ?_
    refine at_getI 2 dx_58_10 hc rfl rfl (fun r10 => ?_)
    refine at_const (x := 1) dx_58_11 rfl ?_
    refine at_subR dx_58_12 (by (have := (hC.2.2.2.2.2 c hc); constructor <;> omega)) (fun r12 => ?_)
    refine at_putI 2 dx_58_13 hc rfl rfl r12 ?_
    have hu1 := (hC.2.2.2.2.2 c hc)
    have fu : fr (fun q => q = c) M (um M c 2 (M c 2 - 1)) := fr_um rfl
    have Tu : TI (um M c 2 (M c 2 - 1)) := TI_um hC.1 (by rw [hc]; decide)
    refine at_aload dx_58_14 rfl ?_
    refine at_getR dx_58_15 hc rfl (cl_t5 hc) ?_
    refine at_aload dx_58_16 rfl ?_
    refine at_getR dx_58_17 hc rfl (cl_t4 hc) ?_
    refine at_callVV dx_58_18 rfl (cl_c4 hc) rfl (c_become (cl_c4 hc) (cl_c2 hc) (by omega) (Tu _ (cl_c2 hc))) ?_
    rintro M18 ⟨f18, i18, t18⟩
    have T18 : TI M18 := TI_fr Tu f18 (fun q hq hP => by
      rcases hP with h | h
      · subst h; exact i18
      · have := tk_e hq; omega)
    refine at_const (x := 0) dx_58_19 rfl ?_
    refine at_istore dx_58_20 ?_
    refine lp _ c 0 (M c 2 - 1) M18 hc (by decide) (by omega) rfl (fr_tr (fr_le fu (fun q h => by (try dsimp only [blk, sq, cq, lo, wq, pq, tz] at h ⊢); first | done | omega)) (fr_le f18 (fun q h => by (try dsimp only [blk, sq, cq, lo, wq, pq, tz] at h ⊢); first | done | omega))) hcx ⟨h0, h3⟩ (by have := (hC.2.2.2.2.2 c hc).2.2.1; omega) rfl T18 (RI_fr f18 (by (try dsimp only [blk, sq, cq, lo, wq, pq, tz]); first | done | omega) (RI_fr fu (by (try dsimp only [blk, sq, cq, lo, wq, pq, tz]); first | done | omega) hC.2.1)) (by rw [f18 c 0 (by (try dsimp only [blk, sq, cq, lo, wq, pq, tz]); first | done | omega), um_j (by decide)]) (by rw [f18 c 2 (by (try dsimp only [blk, sq, cq, lo, wq, pq, tz]); first | done | omega), um_eq]) ?_
    rw [t18, tk_fr fu (by (try dsimp only [blk, sq, cq, lo, wq, pq, tz]); first | done | omega) (by (try dsimp only [blk, sq, cq, lo, wq, pq, tz]); first | done | omega)]; rfl
  · skip
    refine at_thrT dx_58_7 rfl ?_
    exact ⟨by decide, TC_0 hcx (by have := (hC.2.2.2.2.2 c hc).2.2.1; omega) hC fr_rf⟩
