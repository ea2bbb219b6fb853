/-! ===== the rules, on both sides ===== -/
def RuC (t e a b k : Int) (A A' : mem) : Prop :=
  (k = 0 ∧ RTy t ∧ RAr e a b ∧ CanC A t e a b ∧ CI A' ∧ fr w2 A A' ∧ A' 2 = updI (A 2) (3 * t + e) a ∧ A' 3 = updI (A 3) (3 * t + e) b) ∨
  (CI A' ∧ fr w2 A A' ∧ A' 2 = A 2 ∧ A' 3 = A 3 ∧ ((k = 1 ∧ ¬ RTy t) ∨ (k = 2 ∧ RTy t ∧ ¬ RAr e a b) ∨ (k = 3 ∧ RTy t ∧ RAr e a b ∧ ¬ CanC A t e a b)))
def RuM (t e a b : Int) (M M' : mem) : Prop := MI M' ∧ frE w2E M M' ∧ ((M' 856 31 = 1 ∧ ¬ RTy t ∧ M' 857 = M 857 ∧ M' 858 = M 858) ∨ (M' 856 31 = 2 ∧ RTy t ∧ ¬ RAr e a b ∧ M' 857 = M 857 ∧ M' 858 = M 858) ∨ (M' 856 31 = 3 ∧ RTy t ∧ RAr e a b ∧ ¬ CanM M t e a b ∧ M' 857 = M 857 ∧ M' 858 = M 858) ∨ (M' 856 31 = 0 ∧ RTy t ∧ RAr e a b ∧ CanM M t e a b ∧ M' 857 = updI (M 857) (3 * t + e) a ∧ M' 858 = updI (M 858) (3 * t + e) b))
theorem w2_wq {A A' : mem} (f : fr w2 A A') (k2 : A' 2 = A 2) (k3 : A' 3 = A 3) : fr wq A A' := fun q j hq => by
  by_cases h2 : q = 2
  · rw [h2, k2]
  · by_cases h3 : q = 3
    · rw [h3, k3]
    · exact f q j (fun e => by
        rcases e with e | e | e
        · exact hq e
        · exact h2 e
        · exact h3 e)
theorem w2_wE {B B' : mem} (f : frE w2E B B') (k2 : B' 857 = B 857) (k3 : B' 858 = B 858) : frE wE B B' := fun q j hq => by
  by_cases h2 : q = 857
  · rw [h2, k2]
  · by_cases h3 : q = 858
    · rw [h3, k3]
    · exact f q j (fun e => by
        rcases e with e | e | e
        · exact hq e
        · exact h2 e
        · exact h3 e)
theorem RuM_hi {t e a b : Int} {M M' : mem} (h : RuM t e a b M M') : fr hi M M' := fe_fr h.2.1 (fun q j h => by
  rcases h with h | h | h
  · exact (kE_w h).1
  · dsimp only [hi]; omega
  · dsimp only [hi]; omega)
theorem Can_iff {A B : mem} (h : R2 A B) (t e a b : Int) : CanC A t e a b ↔ CanM B t e a b := by
  obtain ⟨hC, hB, hE⟩ := h
  rcases hE with ⟨e1, e2, e3, e4, e5, e6⟩ | hE
  · have hn : ∀ y : Int, 0 ≤ y → y < 3 → A (cl y) 2 = B 871 y := fun y y0 y3 => by
      obtain ⟨Ds, d1, d2, -⟩ := e6 y y0 y3
      omega
    unfold CanC CanM
    rw [e3, e4]
    exact ⟨fun ⟨h1, h2, h3⟩ => ⟨e2, fun y y0 y3 => by rw [← hn y y0 y3]; exact h2 y y0 y3, h3⟩, fun ⟨h1, h2, h3⟩ => ⟨e1, fun y y0 y3 => by rw [hn y y0 y3]; exact h2 y y0 y3, h3⟩⟩
  · exact ⟨fun h => absurd h.1 (by omega), fun h => absurd h.1 (by omega)⟩
theorem R2_rule {t e a b k : Int} {A A' B B' : mem} (h : R2 A B) (h1 : RuC t e a b k A A') (h2 : RuM t e a b B B') : R2 A' B' ∧ B' 856 31 = k := by
  have hcan := Can_iff h t e a b
  obtain ⟨m1, g, h2⟩ := h2
  rcases h1 with ⟨k0, ht, ha, hc, c1, f, u2, u3⟩ | ⟨c1, f, u2, u3, h1⟩
  · rcases h2 with ⟨-, h2, -⟩ | ⟨-, -, h2, -⟩ | ⟨-, -, -, h2, -⟩ | ⟨v, -, -, hcm, v2, v3⟩
    · exact absurd ht h2
    · exact absurd ha h2
    · exact absurd (hcan.mp hc) h2
    · refine ⟨?_, v.trans k0.symm⟩
      have hE := R2_1 h hc.1
      obtain ⟨hC, hB, -⟩ := h
      obtain ⟨e1, e2, e3, e4, e5, e6⟩ := hE
      have f03 : A' 0 3 = A 0 3 := f 0 3 (by dsimp only [w2, wq]; omega)
      have f13 : B' 856 13 = B 856 13 := g 856 13 (fun e => by
        rcases e with e | e | e
        · rcases e with e | e | e | e | e | e <;> omega
        · omega
        · omega)
      have g9 : ∀ (q : Nat) (j : Int), (859 ≤ q ∧ q ≤ 860) ∨ (870 ≤ q ∧ q ≤ 876) → B' q j = B q j := fun q j hq => g q j (fun e => by
        rcases e with e | e | e
        · rcases e with e | e | e | e | e | e <;> omega
        · omega
        · omega)
      have ec : ∀ c, cpM B' c = cpM B c := fun c => cpM_cg (g9 874 c (by omega)) (funext (fun j => g9 873 j (by omega)))
      have ed : ∀ c, dc B' c = dc B c := fun c => dc_cg (g9 860 c (by omega)) (fun j _ => g9 859 _ (by omega))
      refine ⟨c1, ⟨m1, by rw [v2, v3]; exact GR_updI hB.2.1 ⟨ha.2.1.1, ha.2.1.2.1⟩ ha.2.2, fun c c0 c2 => by rw [ec]; exact hB.2.2 c c0 c2⟩, Or.inl ⟨f03.trans e1, f13.trans e2, by rw [u2, v2, e3], by rw [u3, v3, e4], by rw [u2, u3]; exact hc.2.2, fun x x0 x3 => ?_⟩⟩
      have hcl : cl x = 592 + 88 * x.toNat := rfl
      obtain ⟨Ds, d1, d2, d3, d4, d5, d6⟩ := e6 x x0 x3
      have hz := hc.2.1 x x0 x3
      have hnil : Ds = [] := List.length_eq_zero_iff.mp (by omega)
      subst hnil
      have t4 : tk A' (cl x + 4) = tk A (cl x + 4) := tk_cg (fun q j hq => f q j (by dsimp only [w2, wq]; omega))
      have t6 : tk A' (cl x + 6) = tk A (cl x + 6) := tk_cg (fun q j hq => f q j (by dsimp only [w2, wq]; omega))
      refine ⟨[], ?_, ?_, (fun i D hD => by cases hD), ?_, ?_, ?_⟩
      · rw [f (cl x) 2 (by dsimp only [w2, wq]; omega)]; exact d1
      · rw [g9 871 x (by omega)]; exact d2
      · rw [t4]; exact d4
      · rw [ed, t4]; exact d5
      · rw [ec, t6]; exact d6
  · rcases h2 with ⟨v, h2, v2, v3⟩ | ⟨v, ht, h2, v2, v3⟩ | ⟨v, ht, ha, h2, v2, v3⟩ | ⟨v, ht, ha, hcm, -, -⟩
    · refine ⟨R2_w h c1 (w2_wq f u2 u3) m1 (w2_wE g v2 v3), ?_⟩
      rcases h1 with ⟨k0, -⟩ | ⟨-, h1, -⟩ | ⟨-, h1, -⟩
      · rw [v, k0]
      · exact absurd h1 h2
      · exact absurd h1 h2
    · refine ⟨R2_w h c1 (w2_wq f u2 u3) m1 (w2_wE g v2 v3), ?_⟩
      rcases h1 with ⟨-, h1⟩ | ⟨k0, -⟩ | ⟨-, -, h1, -⟩
      · exact absurd ht h1
      · rw [v, k0]
      · exact absurd h1 h2
    · refine ⟨R2_w h c1 (w2_wq f u2 u3) m1 (w2_wE g v2 v3), ?_⟩
      rcases h1 with ⟨-, h1⟩ | ⟨-, -, h1⟩ | ⟨k0, -⟩
      · exact absurd ht h1
      · exact absurd ha h1
      · rw [v, k0]
    · rcases h1 with ⟨-, h1⟩ | ⟨-, -, h1⟩ | ⟨-, -, -, h1⟩
      · exact absurd ht h1
      · exact absurd ha h1
      · exact absurd (hcan.mpr hcm) h1
/-! ===== contracts by what is so between two calls ===== -/
theorem R2_mid {M M1 M' : mem} (h : R2 M M) (f : fr lo M M1) (f1 : fr (fun q => q = 883) M1 M') : R2 M M' := R2_B h (fr_tr (fr_le f (fun q e => Or.inl e)) (fr_le f1 (fun q e => Or.inr e)))
theorem R2_fin {M1 M' M2 : mem} (h : R2 M1 M2) (f1 : fr (fun q => q = 883) M1 M') (f2 : fr hi M' M2) : R2 M2 M2 := R2_A h (fr_tr (fr_le f1 (fun q e => by (try dsimp only at e); dsimp only [hi]; omega)) f2)
theorem rng_lo {M1 M' : mem} (hr : ∀ (q : Nat) (j : Int), inR (M' q j)) (f1 : fr (fun q => q = 883) M1 M') : ∀ (q : Nat) (j : Int), q < 856 → inR (M1 q j) := fun q j hq => by
  have h := hr q j
  rwa [f1 q j (by (try dsimp only); omega)] at h
theorem z_rule {X : scr} {M : mem} {t e a b : Int} (rt : inR t) (re : inR e) (ra : inR a) (rb : inR b) (hR : R2 M M) : At X 0 47 0 [vr 0, vi t, vi e, vi a, vi b] [] M (qT (qV (fun M' => RuC t e a b 0 M M')) (fun e' M' => e' ∈ [0, 1, 2] ∧ RuC t e a b ((e' : Int) + 1) M M')) := At.mono (x_rule rt re ra rb hR.1) (fun t' v M1 h => by
  rcases h with ⟨h1, h2, h3⟩ | ⟨e', h1, h2, h3, h4, h5, h6, h7, h8⟩
  · obtain ⟨a1, a2, a3, a4, a5, a6, a7⟩ := h3
    exact Or.inl ⟨h1, h2, Or.inl ⟨rfl, a1, a2, a3, a4, a5, a6, a7⟩⟩
  · refine Or.inr ⟨e', h1, h2, h3, Or.inr ⟨h4, h5, h6, h7, ?_⟩⟩
    rcases h8 with ⟨rfl, h8⟩ | ⟨rfl, h8⟩ | ⟨rfl, h8⟩
    · exact Or.inl ⟨rfl, h8⟩
    · exact Or.inr (Or.inl ⟨rfl, h8⟩)
    · exact Or.inr (Or.inr ⟨rfl, h8⟩))
theorem z_copy {X : scr} {M : mem} {x f t : Int} (rx : inR x) (rf : inR f) (rt : inR t) (hR : R2 M M) : At X 0 56 0 [vr 0, vi x, vi f, vi t] [] M (qT (qI (fun _ M' => (M 0 3 = 0 ∧ CpC x f t M M') ∨ (M 0 3 ≠ 0 ∧ WC M M'))) (fun e M' => e ∈ [0, 1] ∧ ((M 0 3 = 0 ∧ CpC x f t M M') ∨ (M 0 3 ≠ 0 ∧ WC M M')))) := by
  by_cases h0 : M 0 3 = 0
  · have hE := R2_1 hR h0
    refine At.mono (x_copy rx rf rt hR.1 (fun a b => ?_)) (fun t' v M1 h => ?_)
    · obtain ⟨Ds, d1, d2, d3, d4, d5, d6⟩ := hE.2.2.2.2.2 x a b
      rw [← d5]
      exact MI_bal hR.2.1.1 (by omega)
    · rcases h with ⟨h1, y, h2, h3, h4⟩ | ⟨e', h1, h2, h3, h4⟩
      · exact Or.inl ⟨h1, y, h2, h3, Or.inl ⟨h0, h4⟩⟩
      · exact Or.inr ⟨e', h1, h2, h3, Or.inl ⟨h0, h4⟩⟩
  · refine At.mono (w_copy rx rf rt hR.1) (fun t' v M1 h => ?_)
    rcases h with ⟨h1, y, h2, h3, h4⟩ | ⟨e', h1, h2, h3, h4⟩
    · exact Or.inl ⟨h1, y, h2, h3, Or.inr ⟨h0, h4⟩⟩
    · exact Or.inr ⟨e', h1, h2, h3, Or.inr ⟨h0, h4⟩⟩
theorem z_revert {X : scr} {M : mem} {x s : Int} (rx : inR x) (rs : inR s) (hR : R2 M M) : At X 0 59 0 [vr 0, vi x, vi s] [] M (qT (qI (fun _ M' => (M 0 3 = 0 ∧ M' = M) ∨ (M 0 3 ≠ 0 ∧ WC M M'))) (fun e M' => e ∈ [0, 2] ∧ ((M 0 3 = 0 ∧ M' = M) ∨ (M 0 3 ≠ 0 ∧ WC M M')))) := by
  by_cases h0 : M 0 3 = 0
  · refine At.mono (x_revert0 rx rs hR.1 h0) (fun t' v M1 h => ?_)
    rcases h with ⟨h1, y, h2, h3, h4⟩ | ⟨e', h1, h2, h3, h4⟩
    · exact h4.elim
    · exact Or.inr ⟨e', h1, h2, h3, Or.inl ⟨h0, h4⟩⟩
  · refine At.mono (w_revert rx rs hR.1) (fun t' v M1 h => ?_)
    rcases h with ⟨h1, y, h2, h3, h4⟩ | ⟨e', h1, h2, h3, h4⟩
    · exact Or.inl ⟨h1, y, h2, h3, Or.inr ⟨h0, h4⟩⟩
    · exact Or.inr ⟨e', h1, h2, h3, Or.inr ⟨h0, h4⟩⟩
theorem z_receive {X : scr} {M : mem} {x : Int} (rx : inR x) (hR : R2 M M) : At X 0 61 0 [vr 0, vi x] [] M (qT (qI (fun _ M' => (M 0 3 = 0 ∧ RC0 x M M') ∨ (M 0 3 ≠ 0 ∧ WC M M'))) (fun e M' => e ∈ [0] ∧ ((M 0 3 = 0 ∧ RC0 x M M') ∨ (M 0 3 ≠ 0 ∧ WC M M')))) := by
  by_cases h0 : M 0 3 = 0
  · have hE := R2_1 hR h0
    refine At.mono (x_receive0 rx hR.1 h0 (fun a b => E1_PV hE a b)) (fun t' v M1 h => ?_)
    rcases h with ⟨h1, y, h2, h3, h4⟩ | ⟨e', h1, h2, h3, h4, h5⟩
    · exact Or.inl ⟨h1, y, h2, h3, Or.inl ⟨h0, Or.inl h4⟩⟩
    · exact Or.inr ⟨e', h1, h2, by rw [h3]; decide, Or.inl ⟨h0, Or.inr h5⟩⟩
  · refine At.mono (w_receive rx hR.1) (fun t' v M1 h => ?_)
    rcases h with ⟨h1, y, h2, h3, h4⟩ | ⟨e', h1, h2, h3, h4⟩
    · exact Or.inl ⟨h1, y, h2, h3, Or.inr ⟨h0, h4⟩⟩
    · exact Or.inr ⟨e', h1, h2, h3, Or.inr ⟨h0, h4⟩⟩
theorem z_mark {X : scr} {A M : mem} {c f t m z : Int} (rc : inR c) (rf : inR f) (rt : inR t) (rm : inR m) (rz : inR z) (hR : R2 A M) (hz : z = 0 ∨ z = 1) : At X 0 136 0 [vr 856, vi c, vi f, vi t, vi m, vi z] [] M (qI (fun _ M' => (A 0 3 = 0 ∧ OM c (csMark f t m z) M M') ∨ (A 0 3 ≠ 0 ∧ KM M M'))) := by
  by_cases h0 : A 0 3 = 0
  · have hE := R2_1 hR h0
    refine At.mono (y_mark rc rf rt rm rz hR.2.1.1 hR.2.1.2.1 (E1_acc hE) hz) (fun t' v M1 h => ?_)
    obtain ⟨h1, y, h2, h3, h4⟩ := h
    exact ⟨h1, y, h2, h3, Or.inl ⟨h0, h4⟩⟩
  · refine At.mono (y_mark2 rc rf rt rm rz hR.2.1.1 hR.2.1.2.1 hz) (fun t' v M1 h => ?_)
    obtain ⟨h1, y, h2, h3, h4⟩ := h
    exact ⟨h1, y, h2, h3, Or.inr ⟨h0, h4⟩⟩
theorem CpC_lo {x f t : Int} {M M' : mem} (h : (M 0 3 = 0 ∧ CpC x f t M M') ∨ (M 0 3 ≠ 0 ∧ WC M M')) : fr lo M M' := by
  have hcl : cl x = 592 + 88 * x.toNat := rfl
  rcases h with ⟨-, ⟨⟨⟨h0, h3⟩, -⟩, -, f1, -⟩ | ⟨-, -, f1⟩⟩ | ⟨-, w⟩
  · exact fr_le f1 (fun q e => by dsimp only [pcE, wq, lo] at e ⊢; omega)
  · exact fr_le f1 (fun q e => by dsimp only [wq, lo] at e ⊢; omega)
  · exact w.2.1
theorem RC_lo {x : Int} {M M' : mem} (h : (M 0 3 = 0 ∧ RC0 x M M') ∨ (M 0 3 ≠ 0 ∧ WC M M')) : fr lo M M' := by
  have hcl : cl x = 592 + 88 * x.toNat := rfl
  rcases h with ⟨-, ⟨⟨h0, h3⟩, -, f1, -⟩ | rfl⟩ | ⟨-, w⟩
  · exact fr_le f1 (fun q e => by dsimp only [wq, lo] at e ⊢; omega)
  · exact fr_rf
  · exact w.2.1
theorem Rv_lo {M M' : mem} (h : (M 0 3 = 0 ∧ M' = M) ∨ (M 0 3 ≠ 0 ∧ WC M M')) : fr lo M M' := by
  rcases h with ⟨-, rfl⟩ | ⟨-, w⟩
  · exact fr_rf
  · exact w.2.1
theorem SC_lo {x : Int} {M M' : mem} (h : SC x M M') : fr lo M M' := by
  have hcl : cl x = 592 + 88 * x.toNat := rfl
  rcases h with ⟨⟨⟨h0, h3⟩, -⟩, -, f1, -⟩ | ⟨-, -, f1⟩
  · exact fr_le f1 (fun q e => by dsimp only [sE, lo] at e ⊢; omega)
  · exact fr_le f1 (fun q e => by dsimp only [wq, lo] at e ⊢; omega)
theorem SM_hi {c : Int} {M M' : mem} (h : SM c M M') : fr hi M M' := by
  rcases h with ⟨-, -, g, -⟩ | ⟨-, -, g⟩
  · exact fe_fr g (fun q j e => by dsimp only [snE, hi] at e ⊢; omega)
  · exact fe_fr g (fun q j e => (kE_w e).1)
theorem RuC_lo {t e a b k : Int} {M M' : mem} (h : RuC t e a b k M M') : fr lo M M' := by
  rcases h with ⟨-, -, -, -, -, f1, -⟩ | ⟨-, f1, -⟩
  · exact fr_le f1 (fun q e => by dsimp only [w2, wq, lo] at e ⊢; omega)
  · exact fr_le f1 (fun q e => by dsimp only [w2, wq, lo] at e ⊢; omega)
theorem wq_lo {M M' : mem} (f : fr wq M M') : fr lo M M' := fr_le f (fun q e => by dsimp only [wq, lo] at e ⊢; omega)
