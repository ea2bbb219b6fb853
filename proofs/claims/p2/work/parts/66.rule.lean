/-! ===== the rules, on both sides ===== -/
noncomputable def updI (K : Int → Int) (i a : Int) : Int → Int := fun j => if j = i then a else K j
theorem um_updI {M : mem} {q : Nat} {i a : Int} : (um M q i a) q = updI (M q) i a := funext (fun j => by
  unfold um updI
  by_cases e : j = i
  · rw [if_pos ⟨rfl, e⟩, if_pos e]
  · rw [if_neg (fun h => e h.2), if_neg e])
theorem updI_back {K : Int → Int} {i a : Int} : updI (updI K i a) i (K i) = K := funext (fun j => by
  unfold updI
  by_cases e : j = i
  · rw [if_pos e, e]
  · rw [if_neg e, if_neg e])
abbrev RTy (t : Int) : Prop := 0 ≤ t ∧ t ≤ 5
abbrev RAr (e a b : Int) : Prop := (0 ≤ e ∧ e ≤ 2) ∧ (0 ≤ a ∧ a ≤ 126 ∧ a % 2 = 0) ∧ 0 ≤ b ∧ b ≤ 3
theorem ev_a : (List.range 127).all (fun n => decide (ii_and (n : Int) 1 = (n : Int) % 2)) = true := by decide +kernel
theorem ev_and {a : Int} (h0 : 0 ≤ a) (h1 : a ≤ 126) : ii_and a 1 = a % 2 := by
  have h := of_decide_eq_true (List.all_eq_true.mp ev_a a.toNat (List.mem_range.mpr (by omega)))
  rwa [Int.toNat_of_nonneg h0] at h
theorem ev_b : (List.range 127).all (fun n => decide (ii_rem (n : Int) 2 = (n : Int) % 2)) = true := by decide +kernel
theorem ev_rem {a : Int} (h0 : 0 ≤ a) (h1 : a ≤ 126) : ii_rem a 2 = a % 2 := by
  have h := of_decide_eq_true (List.all_eq_true.mp ev_b a.toNat (List.mem_range.mpr (by omega)))
  rwa [Int.toNat_of_nonneg h0] at h
noncomputable def NoPd (M : mem) : Prop := ∀ y : Int, 0 ≤ y → y < 3 → M (cl y) 2 = 0
noncomputable def CanC (M : mem) (t e a b : Int) : Prop := M 0 3 = 0 ∧ NoPd M ∧ acc (updI (M 2) (3 * t + e) a) (updI (M 3) (3 * t + e) b) [1, 0]
abbrev w2 (q : Nat) : Prop := wq q ∨ q = 2 ∨ q = 3
theorem GR_updI {K Q : Int → Int} {i a b : Int} (hG : GR K Q) (ha : 0 ≤ a ∧ a ≤ 126) (hb : 0 ≤ b ∧ b ≤ 3) : GR (updI K i a) (updI Q i b) := fun j h0 h1 => by
  unfold updI
  by_cases e : j = i
  · rw [if_pos e, if_pos e]; exact ⟨ha, hb⟩
  · rw [if_neg e, if_neg e]; exact hG j h0 h1

set_option maxRecDepth 100000 in
set_option maxHeartbeats 4000000 in
theorem x_isAnyPending {X : scr} {M : mem} (hp : ∀ y : Int, 0 ≤ y → y < 3 → 0 ≤ M (cl y) 2) : At X 0 77 0 [vr 0] [] M (qI (fun x M' => M' = M ∧ ((x = 0 ∧ NoPd M) ∨ (x = 1 ∧ ¬ NoPd M)))) := by
  have lp : ∀ (n : Nat) (i : Int) (ri : inR i) (hi : 0 ≤ i) (hn : (3 - i).toNat = n) (hv : ∀ y : Int, 0 ≤ y → y < i → M (cl y) 2 = 0), At X 0 77 2 [vr 0, vi i] [] M (qI (fun x M' => M' = M ∧ ((x = 0 ∧ NoPd M) ∨ (x = 1 ∧ ¬ NoPd M)))) := by
    intro n
    induction n using Nat.strongRecOn with
    | ind n ih =>
    intro i ri hi hn hv
    refine at_iload dx_77_2 rfl ?_
    refine at_aload dx_77_3 rfl ?_
    refine at_getR dx_77_4 lc_0 rfl lt_0_4 ?_
    refine at_alen dx_77_5 lc_9 rfl ln_9 ?_
    refine at_cgeR dx_77_6 ri (by decide) (fun c6 => ?_) (fun c6 => ?_)
    · skip
      refine at_const (x := 0) dx_77_17 rfl ?_
      refine at_zretI dx_77_18 (Or.inl rfl) ?_
      exact ⟨rfl, Or.inl ⟨rfl, fun y h1 h2 => hv y h1 (by omega)⟩⟩
    · skip
      refine at_aload dx_77_7 rfl ?_
      refine at_getR dx_77_8 lc_0 rfl lt_0_4 ?_
      refine at_iload dx_77_9 rfl ?_
      refine at_aldC dx_77_10 lc_9 ln_9 (by first | omega | (simp (disch := omega) only [um_eq, um_k, um_j]; omega)) (by first | omega | (simp (disch := omega) only [um_eq, um_k, um_j]; omega)) (cs_t (by omega) (by omega)) ?_
      refine at_getI 2 dx_77_11 (cs_c hi (by omega)) rfl rfl (fun r11 => ?_)
      refine at_zleR dx_77_12 r11 (fun c12 => ?_) (fun c12 => ?_)
      · skip
        refine at_iincR (y := 1) dx_77_15 rfl rfl (by constructor <;> omega) (fun r15 => ?_)
        refine at_goto dx_77_16 ?_
        exact ih _ (by omega) _ r15 (by omega) rfl (fun y h1 h2 => by
          by_cases e : y = i
          · rw [e]
            have h9 := hp i hi (by omega)
            have h8 : M (cl i) 2 ≤ 0 := by show M (592 + 88 * i.toNat) 2 ≤ 0; omega
            omega
          · exact hv y h1 (by omega))
      · skip
        refine at_const (x := 1) dx_77_13 rfl ?_
        refine at_zretI dx_77_14 (Or.inr rfl) ?_
        refine ⟨rfl, Or.inr ⟨rfl, fun h => ?_⟩⟩
        have h9 : M (592 + 88 * i.toNat) 2 = 0 := h i hi (by omega)
        omega
  refine at_const (x := 0) dx_77_0 rfl ?_
  refine at_istore dx_77_1 ?_
  exact lp _ 0 (by decide) (by decide) rfl (fun y h1 h2 => by omega)

set_option maxRecDepth 100000 in
set_option maxHeartbeats 4000000 in
theorem x_isFirstValidWith {X : scr} {M : mem} {t e a b : Int} (ht : inR t) (he : inR e) (ha : inR a) (hb : inR b) (hC : CI M) (ht5 : 0 ≤ t ∧ t ≤ 5) (he2 : 0 ≤ e ∧ e ≤ 2) : At X 0 78 0 [vr 0, vi t, vi e, vi a, vi b] [] M (qI (fun x M' => fr w2 M M' ∧ CI M' ∧ M' 2 = M 2 ∧ M' 3 = M 3 ∧ (x = 0 ∨ x = 1) ∧ (x = 1 ↔ acc (updI (M 2) (3 * t + e) a) (updI (M 3) (3 * t + e) b) [1, 0]))) := by
  refine at_aload dx_78_0 rfl ?_
  refine at_getR dx_78_1 lc_0 rfl lt_0_0 ?_
  refine at_iload dx_78_2 rfl ?_
  refine at_iload dx_78_3 rfl ?_
  refine at_callVI dx_78_4 rfl lc_1 rfl (x_kindsOf ht he ht5 he2) ?_
  rintro x4 M9 r4 ⟨e9, h4⟩; replace e9 := e9.symm; subst e9
  refine at_istore dx_78_5 ?_
  refine at_aload dx_78_6 rfl ?_
  refine at_getR dx_78_7 lc_0 rfl lt_0_0 ?_
  refine at_iload dx_78_8 rfl ?_
  refine at_iload dx_78_9 rfl ?_
  refine at_callVI dx_78_10 rfl lc_1 rfl (x_quantityOf ht he ht5 he2) ?_
  rintro x10 M9 r10 ⟨e9, h10⟩; replace e9 := e9.symm; subst e9
  refine at_istore dx_78_11 ?_
  refine at_aload dx_78_12 rfl ?_
  refine at_getR dx_78_13 lc_0 rfl lt_0_0 ?_
  refine at_iload dx_78_14 rfl ?_
  refine at_iload dx_78_15 rfl ?_
  refine at_iload dx_78_16 rfl ?_
  refine at_iload dx_78_17 rfl ?_
  refine at_callVV dx_78_18 rfl lc_1 rfl (x_setElement ht he ha hb ht5 he2) ?_
  intro M18 e18
  have f18 : fr w2 M M18 := by rw [e18]; exact fr_ums (fr_um (Or.inr (Or.inl rfl))) (Or.inr (Or.inr rfl))
  have u2 : M18 2 = updI (M 2) (3 * t + e) a := by rw [e18, show (um (um M 2 (3 * t + e) a) 3 (3 * t + e) b) 2 = (um M 2 (3 * t + e) a) 2 from funext (fun j => um_k (by decide)), um_updI]
  have u3 : M18 3 = updI (M 3) (3 * t + e) b := by rw [e18, um_updI, show (um M 2 (3 * t + e) a) 3 = M 3 from funext (fun j => um_k (by decide))]
  refine at_aload dx_78_19 rfl ?_
  refine at_getR dx_78_20 lc_0 rfl lt_0_9 ?_
  refine at_callVV dx_78_21 rfl lc_20 rfl (c_becomeFirst lc_20) ?_
  rintro M21 ⟨f21, i21, t21⟩
  have v2 : M21 2 = M18 2 := funext (fun j => f21 2 j (by (try dsimp only [blk, sq, cq, lo, wq, pq, w2]); first | done | omega))
  have v3 : M21 3 = M18 3 := funext (fun j => f21 3 j (by (try dsimp only [blk, sq, cq, lo, wq, pq, w2]); first | done | omega))
  refine at_aload dx_78_22 rfl ?_
  refine at_getR dx_78_23 lc_0 rfl lt_0_0 ?_
  refine at_aload dx_78_24 rfl ?_
  refine at_getR dx_78_25 lc_0 rfl lt_0_9 ?_
  refine at_callVI dx_78_26 rfl lc_1 rfl (x_accepts lc_20 i21) ?_
  rintro x26 M26 r26 ⟨f26, hx, ha6⟩
  rw [v2, v3, u2, u3, t21] at ha6
  have y2 : M26 2 = updI (M 2) (3 * t + e) a := (funext (fun j => f26 2 j (by (try dsimp only [blk, sq, cq, lo, wq, pq, w2]); first | done | omega)) : M26 2 = M21 2).trans (v2.trans u2)
  have y3 : M26 3 = updI (M 3) (3 * t + e) b := (funext (fun j => f26 3 j (by (try dsimp only [blk, sq, cq, lo, wq, pq, w2]); first | done | omega)) : M26 3 = M21 3).trans (v3.trans u3)
  refine at_istore dx_78_27 ?_
  refine at_aload dx_78_28 rfl ?_
  refine at_getR dx_78_29 lc_0 rfl lt_0_0 ?_
  refine at_iload dx_78_30 rfl ?_
  refine at_iload dx_78_31 rfl ?_
  refine at_iload dx_78_32 rfl ?_
  refine at_iload dx_78_33 rfl ?_
  refine at_callVV dx_78_34 rfl lc_1 rfl (x_setElement ht he r4 r10 ht5 he2) ?_
  intro M34 e34
  refine at_iload dx_78_35 rfl ?_
  refine at_zretI dx_78_36 hx ?_
  have f34 : fr w2 M26 M34 := by rw [e34]; exact fr_ums (fr_um (Or.inr (Or.inl rfl))) (Or.inr (Or.inr rfl))
  have FS : fr w2 M M34 := fr_tr (fr_tr (fr_tr f18 (fr_le f21 (fun q h => by (try dsimp only [blk, sq, cq, lo, wq, pq, w2] at h ⊢); first | done | omega))) (fr_le f26 (fun q h => by (try dsimp only [blk, sq, cq, lo, wq, pq, w2] at h ⊢); first | done | omega))) f34
  have g2 : fr (fun q => (2 ≤ q ∧ q ≤ 5) ∨ q = 20 ∨ q = 21) M M34 := by
    have g18 : fr (fun q => (2 ≤ q ∧ q ≤ 5) ∨ q = 20 ∨ q = 21) M M18 := by rw [e18]; exact fr_ums (fr_um (by decide)) (by decide)
    have g34 : fr (fun q => (2 ≤ q ∧ q ≤ 5) ∨ q = 20 ∨ q = 21) M26 M34 := by rw [e34]; exact fr_ums (fr_um (by decide)) (by decide)
    exact fr_tr (fr_tr (fr_tr g18 (fr_le f21 (fun q h => by (try dsimp only [blk, sq, cq, lo, wq, pq, w2] at h ⊢); first | done | omega))) (fr_le f26 (fun q h => by (try dsimp only [blk, sq, cq, lo, wq, pq, w2] at h ⊢); first | done | omega))) g34
  have FQ : fr sq M M34 := fr_le g2 (fun q h => by dsimp only [sq] at h ⊢; omega)
  have z2 : M34 2 = M 2 := by
    rw [e34, show (um (um M26 2 (3 * t + e) x4) 3 (3 * t + e) x10) 2 = (um M26 2 (3 * t + e) x4) 2 from funext (fun j => um_k (by decide)), um_updI, y2, h4, updI_back]
  have z3 : M34 3 = M 3 := by
    rw [e34, um_updI, show (um M26 2 (3 * t + e) x4) 3 = M26 3 from funext (fun j => um_k (by decide)), y3, h10, updI_back]
  refine ⟨FS, CI_sq hC FQ (TI_fr hC.1 g2 (fun k hk hP => ?_)) (RI_fr g2 (by decide) hC.2.1), z2, z3, hx, ha6⟩
  have hk2 := tk_e hk
  have e20 : k = 20 := by
    rcases hP with h | h | h
    · exfalso; omega
    · exact h
    · exfalso; omega
  subst e20
  have g5 : fr (fun q => q = 2 ∨ q = 3) M26 M34 := by rw [e34]; exact fr_ums (fr_um (Or.inl rfl)) (Or.inr rfl)
  exact tkI_fr g5 (by decide) (tkI_fr f26 (by decide) i21)

set_option maxRecDepth 100000 in
set_option maxHeartbeats 4000000 in
theorem x_rule {X : scr} {M : mem} {t e a b : Int} (rt : inR t) (re : inR e) (ra : inR a) (rb : inR b) (hC : CI M) : At X 0 47 0 [vr 0, vi t, vi e, vi a, vi b] [] M (qT (qV (fun M' => RTy t ∧ RAr e a b ∧ CanC M t e a b ∧ CI M' ∧ fr w2 M M' ∧ M' 2 = updI (M 2) (3 * t + e) a ∧ M' 3 = updI (M 3) (3 * t + e) b)) (fun e' M' => e' ∈ [0, 1, 2] ∧ CI M' ∧ fr w2 M M' ∧ M' 2 = M 2 ∧ M' 3 = M 3 ∧ ((e' = 0 ∧ ¬ RTy t) ∨ (e' = 1 ∧ RTy t ∧ ¬ RAr e a b) ∨ (e' = 2 ∧ RTy t ∧ RAr e a b ∧ ¬ CanC M t e a b)))) := by
  have hcl : ∀ y : Int, 0 ≤ y → y < 3 → 0 ≤ M (cl y) 2 := fun y h0 h1 => (hC.2.2.2.2.2 (cl y) (cs_c h0 h1)).2.2.1
  have hev := fun (h0 : 0 ≤ a) (h1 : a ≤ 126) => ev_and h0 h1
  refine at_iload dx_47_0 rfl ?_
  refine at_zltR dx_47_1 rt (fun c1 => ?_) (fun c1 => ?_)
  · skip
    refine at_thrT dx_47_5 rfl ?_
    exact ⟨by decide, hC, fr_rf, rfl, rfl, Or.inl ⟨rfl, by omega⟩⟩
  · skip
    refine at_iload dx_47_2 rfl ?_
    refine at_const (x := 6) dx_47_3 rfl ?_
    refine at_cltR dx_47_4 rt (by decide) (fun c4 => ?_) (fun c4 => ?_)
    · skip
      refine at_iload dx_47_6 rfl ?_
      refine at_zltR dx_47_7 re (fun c7 => ?_) (fun c7 => ?_)
      · skip
        refine at_thrT dx_47_11 rfl ?_
        exact ⟨by decide, hC, fr_rf, rfl, rfl, Or.inr (Or.inl ⟨rfl, by omega, by omega⟩)⟩
      · skip
        refine at_iload dx_47_8 rfl ?_
        refine at_const (x := 3) dx_47_9 rfl ?_
        refine at_cltR dx_47_10 re (by decide) (fun c10 => ?_) (fun c10 => ?_)
        · skip
          refine at_iload dx_47_12 rfl ?_
          refine at_zltR dx_47_13 ra (fun c13 => ?_) (fun c13 => ?_)
          · skip
            refine at_thrT dx_47_21 rfl ?_
            exact ⟨by decide, hC, fr_rf, rfl, rfl, Or.inr (Or.inl ⟨rfl, by omega, fun h => by first | omega | (have := hev h.2.1.1 h.2.1.2.1; omega)⟩)⟩
          · skip
            refine at_iload dx_47_14 rfl ?_
            refine at_const (x := 126) dx_47_15 rfl ?_
            refine at_cgtR dx_47_16 ra (by decide) (fun c16 => ?_) (fun c16 => ?_)
            · skip
              refine at_thrT dx_47_21 rfl ?_
              exact ⟨by decide, hC, fr_rf, rfl, rfl, Or.inr (Or.inl ⟨rfl, by omega, fun h => by first | omega | (have := hev h.2.1.1 h.2.1.2.1; omega)⟩)⟩
            · skip
              refine at_iload dx_47_17 rfl ?_
              refine at_const (x := 1) dx_47_18 rfl ?_
              refine at_and dx_47_19 ?_
              refine at_zeqR dx_47_20 (inR_and _ _) (fun c20 => ?_) (fun c20 => ?_)
              · skip
                refine at_iload dx_47_22 rfl ?_
                refine at_zltR dx_47_23 rb (fun c23 => ?_) (fun c23 => ?_)
                · skip
                  refine at_thrT dx_47_27 rfl ?_
                  exact ⟨by decide, hC, fr_rf, rfl, rfl, Or.inr (Or.inl ⟨rfl, by omega, by omega⟩)⟩
                · skip
                  refine at_iload dx_47_24 rfl ?_
                  refine at_const (x := 3) dx_47_25 rfl ?_
                  refine at_cleR dx_47_26 rb (by decide) (fun c26 => ?_) (fun c26 => ?_)
                  · skip
                    refine at_aload dx_47_28 rfl ?_
                    refine at_getI 3 dx_47_29 lc_0 rfl rfl (fun r29 => ?_)
                    refine at_zgtR dx_47_30 r29 (fun c30 => ?_) (fun c30 => ?_)
                    · skip
                      refine at_thrT dx_47_34 rfl ?_
                      exact ⟨by decide, hC, fr_rf, rfl, rfl, Or.inr (Or.inr ⟨rfl, by omega, by have := hev (by omega) (by omega); omega, fun h => by first | (have := h.1; omega) | (rcases h32 with ⟨h9, -⟩ | ⟨-, h9⟩; omega; exact h9 h.2.1)⟩)⟩
                    · skip
                      refine at_aload dx_47_31 rfl ?_
                      refine at_callVI dx_47_32 rfl lc_0 rfl (x_isAnyPending hcl) ?_
                      rintro x32 M9 r32 ⟨e9, h32⟩; replace e9 := e9.symm; subst e9
                      refine at_zeqR dx_47_33 r32 (fun c33 => ?_) (fun c33 => ?_)
                      · skip
                        refine at_aload dx_47_35 rfl ?_
                        refine at_iload dx_47_36 rfl ?_
                        refine at_iload dx_47_37 rfl ?_
                        refine at_iload dx_47_38 rfl ?_
                        refine at_iload dx_47_39 rfl ?_
                        have hra : RAr e a b := by have := hev (by omega) (by omega); omega
                        refine at_callVI dx_47_40 rfl lc_0 rfl (x_isFirstValidWith rt re ra rb hC (by omega) (by omega)) ?_
                        rintro x40 M40 r40 ⟨f40, C40, y2, y3, b40, w40⟩
                        refine at_zneR dx_47_41 r40 (fun c41 => ?_) (fun c41 => ?_)
                        · skip
                          refine at_aload dx_47_43 rfl ?_
                          refine at_getR dx_47_44 lc_0 rfl lt_0_0 ?_
                          refine at_iload dx_47_45 rfl ?_
                          refine at_iload dx_47_46 rfl ?_
                          refine at_iload dx_47_47 rfl ?_
                          refine at_iload dx_47_48 rfl ?_
                          refine at_callVV dx_47_49 rfl lc_1 rfl (x_setElement rt re ra rb (by omega) (by omega)) ?_
                          intro M49 e49
                          refine at_vretVT dx_47_50 ?_
                          have f49 : fr (fun q => q = 2 ∨ q = 3) M40 M49 := by rw [e49]; exact fr_ums (fr_um (Or.inl rfl)) (Or.inr rfl)
                          have hnp : NoPd M := by rcases h32 with ⟨-, h9⟩ | ⟨h9, -⟩; exact h9; omega
                          refine ⟨by omega, hra, ⟨by have := hC.2.2.1; omega, hnp, w40.mp (by omega)⟩, CI_sq C40 (fr_le f49 (fun q h => by (try dsimp only [blk, sq, cq, lo, wq, pq, w2] at h ⊢); first | done | omega)) (TI_no C40.1 f49 (fun q hq hP => by have := tk_e hq; omega)) (RI_fr f49 (by decide) C40.2.1), fr_tr f40 (fr_le f49 (fun q h => by (try dsimp only [blk, sq, cq, lo, wq, pq, w2] at h ⊢); first | done | omega)), ?_, ?_⟩
                          · rw [e49, show (um (um M40 2 (3 * t + e) a) 3 (3 * t + e) b) 2 = (um M40 2 (3 * t + e) a) 2 from funext (fun j => um_k (by decide)), um_updI, y2]
                          · rw [e49, um_updI, show (um M40 2 (3 * t + e) a) 3 = M40 3 from funext (fun j => um_k (by decide)), y3]
                        · skip
                          refine at_thrT dx_47_42 rfl ?_
                          exact ⟨by decide, C40, f40, y2, y3, Or.inr (Or.inr ⟨rfl, by omega, hra, fun h => absurd (w40.mpr h.2.2) (by omega)⟩)⟩
                      · skip
                        refine at_thrT dx_47_34 rfl ?_
                        exact ⟨by decide, hC, fr_rf, rfl, rfl, Or.inr (Or.inr ⟨rfl, by omega, by have := hev (by omega) (by omega); omega, fun h => by first | (have := h.1; omega) | (rcases h32 with ⟨h9, -⟩ | ⟨-, h9⟩; omega; exact h9 h.2.1)⟩)⟩
                  · skip
                    refine at_thrT dx_47_27 rfl ?_
                    exact ⟨by decide, hC, fr_rf, rfl, rfl, Or.inr (Or.inl ⟨rfl, by omega, by omega⟩)⟩
              · skip
                refine at_thrT dx_47_21 rfl ?_
                exact ⟨by decide, hC, fr_rf, rfl, rfl, Or.inr (Or.inl ⟨rfl, by omega, fun h => by first | omega | (have := hev h.2.1.1 h.2.1.2.1; omega)⟩)⟩
        · skip
          refine at_thrT dx_47_11 rfl ?_
          exact ⟨by decide, hC, fr_rf, rfl, rfl, Or.inr (Or.inl ⟨rfl, by omega, by omega⟩)⟩
    · skip
      refine at_thrT dx_47_5 rfl ?_
      exact ⟨by decide, hC, fr_rf, rfl, rfl, Or.inl ⟨rfl, by omega⟩⟩
