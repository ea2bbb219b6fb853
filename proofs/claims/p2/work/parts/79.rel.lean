/-! ===== both sides between two calls ===== -/
theorem ly_5 {k : Nat} (h : ly_c k = 5) : k < 856 := by
  by_cases e : k < 884
  · have h9 : ∀ i : Fin 884, ly_c i.val = 5 → i.val < 856 := by decide +kernel
    exact h9 ⟨k, e⟩ h
  · have hq := ly_big (k := k) (by omega)
    omega
theorem CI_fr {M M' : mem} (hC : CI M) (h : fr hi M M') : CI M' := by
  have g : ∀ j, M' 0 j = M 0 j := fun j => h 0 j (by unfold hi; omega)
  obtain ⟨hT, hR, b1, b2, b3, b4⟩ := hC
  refine ⟨TI_fr hT h (fun k hk hP => by have := ly_5 hk; unfold hi at hP; omega), RI_fr h (by unfold hi; omega) hR, by rw [g]; exact b1, by rw [g]; exact b2, ?_, fun c hc => ?_⟩
  · rw [g, tk_fr h (by unfold hi; omega) (by unfold hi; omega), lgV_cg h (by omega) (fun q hP => by unfold hi at hP; omega)]
    exact b3
  · have h9 := cl_al hc
    exact CC_fr h hc (fun q hP => by unfold hi at hP; omega) (fun q hP => by unfold hi at hP; omega) (by omega) (b4 c hc)
theorem MI_fx {M M' : mem} (hM : MI M) (h : fr (fun q => q < 856 ∨ q = 883) M M') : MI M' := by
  have F : frE (fun q j => q < 856 ∨ q = 883) M M' := fun q j hq => h q j hq
  obtain ⟨a1, a2, a3, a4, a5⟩ := hM
  have g : ∀ (q : Nat) (j : Int), 856 ≤ q → q ≠ 883 → M' q j = M q j := fun q j hq h3 => h q j (by (try dsimp only); omega)
  have d : ∀ c : Int, dc M' c = dc M c := fun c => dc_cg (g 860 c (by decide) (by decide)) (fun j _ => g 859 _ (by decide) (by decide))
  refine ⟨fun d h0 h3 => by rw [g 860 d (by decide) (by decide)]; exact a1 d h0 h3, by rw [g 856 13 (by decide) (by decide)]; exact a2, by rw [g 856 19 (by decide) (by decide)]; exact a3, ?_, fun c h0 h2 => ?_⟩
  · rw [g 856 13 (by decide) (by decide), lgW_fe F (fun q j e => by (try dsimp only at e); omega), d]; exact a4
  · have h9 := a5 c h0 h2
    unfold MC at h9 ⊢
    rw [g 870 c (by decide) (by decide), g 871 c (by decide) (by decide), g 874 c (by decide) (by decide), g 856 13 (by decide) (by decide), lgW_fe F (fun q j e => by (try dsimp only at e); omega), d, pdW_fe F (fun q j e => by (try dsimp only at e); omega)]
    exact h9
def E1c (A B : mem) (x : Int) : Prop := ∃ Ds : List gD, (Ds.length : Int) = A (cl x) 2 ∧ (Ds.length : Int) = B 871 x ∧
  (∀ (i : Nat) (D : gD), Ds[i]? = some D → (smD D ∧ okN D ∧ inL D.2.2) ∧ cVD (sv A (pst (cl x) i)) D ∧ cWD (mv B (60 + 10 * x + (i : Int))) D) ∧
  RD (A 2) (A 3) Ds [1, 0] (tk A (cl x + 4)) ∧ dc B x = tk A (cl x + 4) ∧ cpM B x = tk A (cl x + 6)
def E1 (A B : mem) : Prop := A 0 3 = 0 ∧ B 856 13 = 0 ∧ A 2 = B 857 ∧ A 3 = B 858 ∧ acc (A 2) (A 3) [1, 0] ∧ ∀ x : Int, 0 ≤ x → x < 3 → E1c A B x
abbrev cpI (B : mem) : Prop := ∀ c : Int, 0 ≤ c → c ≤ 2 → dsm (cpM B c) (cpM B c).length = 0
abbrev CB (B : mem) : Prop := MI B ∧ GR (B 857) (B 858) ∧ cpI B
def R2 (A B : mem) : Prop := CI A ∧ CB B ∧ (E1 A B ∨ (0 < A 0 3 ∧ 0 < B 856 13))
theorem cl_c {x : Int} (h0 : 0 ≤ x) (h3 : x < 3) : ly_c (cl x) = 0 := cs_c h0 h3
theorem E1c_A {A A' B : mem} {x : Int} (h : E1c A B x) (e2 : A' (cl x) 2 = A (cl x) 2) (es : ∀ i : Nat, (i : Int) < A (cl x) 2 → sv A' (pst (cl x) i) = sv A (pst (cl x) i)) (e4 : tk A' (cl x + 4) = tk A (cl x + 4)) (e6 : tk A' (cl x + 6) = tk A (cl x + 6)) (k2 : A' 2 = A 2) (k3 : A' 3 = A 3) : E1c A' B x := by
  obtain ⟨Ds, h1, h2, h3, h4, h5, h6⟩ := h
  refine ⟨Ds, h1.trans e2.symm, h2, fun i D hD => ?_, by rw [k2, k3, e4]; exact h4, by rw [e4]; exact h5, by rw [e6]; exact h6⟩
  obtain ⟨hi, -⟩ := List.getElem?_eq_some_iff.mp hD
  rw [es i (by omega)]
  exact h3 i D hD
theorem E1c_B {A B B' : mem} {x : Int} (h : E1c A B x) (e2 : B' 871 x = B 871 x) (es : ∀ i : Nat, (i : Int) < B 871 x → mv B' (60 + 10 * x + (i : Int)) = mv B (60 + 10 * x + (i : Int))) (e4 : dc B' x = dc B x) (e6 : cpM B' x = cpM B x) : E1c A B' x := by
  obtain ⟨Ds, h1, h2, h3, h4, h5, h6⟩ := h
  refine ⟨Ds, h1, h2.trans e2.symm, fun i D hD => ?_, h4, e4.trans h5, e6.trans h6⟩
  obtain ⟨hi, -⟩ := List.getElem?_eq_some_iff.mp hD
  rw [es i (by omega)]
  exact h3 i D hD
abbrev nC (y : Int) (q : Nat) : Prop := q = 2 ∨ q = 3 ∨ q = cl y ∨ (cl y + 4 ≤ q ∧ q ≤ cl y + 7) ∨ (cl y + 8 ≤ q ∧ q < cl y + 88 ∧ q % 8 ≠ 4 ∧ q % 8 ≠ 5)
abbrev nB (y : Int) (q : Nat) (j : Int) : Prop := ((q = 860 ∨ q = 871 ∨ q = 874) ∧ j = y) ∨ ((q = 859 ∨ q = 873) ∧ 60 * y ≤ j ∧ j < 60 * y + 60) ∨ ((861 ≤ q ∧ q ≤ 864) ∧ 60 + 10 * y ≤ j ∧ j < 70 + 10 * y) ∨ ((865 ≤ q ∧ q ≤ 867) ∧ 120 + 20 * y ≤ j ∧ j < 140 + 20 * y) ∨ (q = 869 ∧ 3600 + 600 * y ≤ j ∧ j < 4200 + 600 * y)
theorem E1c_fr {A A' B : mem} {P : Nat → Prop} {y : Int} (hC : CI A) (hy : 0 ≤ y ∧ y < 3) (f : fr P A A') (hP : ∀ q, P q → ¬ nC y q) (h : E1c A B y) : E1c A' B y := by
  have hcl : cl y = 592 + 88 * y.toNat := rfl
  have hCc := hC.2.2.2.2.2 (cl y) (cl_c hy.1 hy.2)
  have g : ∀ q, nC y q → ∀ j, A' q j = A q j := fun q hq j => f q j (fun e => hP q e hq)
  refine E1c_A h (g _ (by dsimp only [nC]; omega) 2) (fun i hi => sv_cg (fun q j hq => g q (by dsimp only [nC]; unfold pst at hq; omega) j)) (tk_cg (fun q j hq => g q (by dsimp only [nC]; omega) j)) (tk_cg (fun q j hq => g q (by dsimp only [nC]; omega) j)) (funext (fun j => g 2 (Or.inl rfl) j)) (funext (fun j => g 3 (Or.inr (Or.inl rfl)) j))
theorem cpM_fe {P : Nat → Int → Prop} {B B' : mem} {y : Int} (h : frE P B B') (hl : B 874 y ≤ 60) (h1 : ¬ P 874 y) (h2 : ∀ j, 60 * y ≤ j → j < 60 * y + 60 → ¬ P 873 j) : cpM B' y = cpM B y := by
  unfold cpM
  rw [h 874 y h1]
  apply List.map_congr_left
  intro j hj
  have hj := List.mem_range.mp hj
  exact h 873 _ (h2 _ (by omega) (by omega))
theorem E1c_fe {A B B' : mem} {P : Nat → Int → Prop} {y : Int} (hM : MI B) (hy : 0 ≤ y ∧ y < 3) (f : frE P B B') (hP : ∀ q j, P q j → ¬ nB y q j) (h : E1c A B y) : E1c A B' y := by
  have hs := hM.1 y hy.1 (by omega)
  have hmc := hM.2.2.2.2 y hy.1 (by omega)
  unfold MC at hmc
  obtain ⟨-, m2, m3, -⟩ := hmc
  refine E1c_B h (f _ _ (fun e => hP _ _ e (Or.inl ⟨by decide, rfl⟩))) (fun i hi => mv_fe f (fun q j e h8 hq => hP q j hq (by dsimp only [stE, nB] at e ⊢; omega))) (dc_fe f hs.2 (fun e => hP _ _ e (Or.inl ⟨by decide, rfl⟩)) (fun j h1 h2 e => hP _ _ e (Or.inr (Or.inl ⟨Or.inl rfl, h1, h2⟩)))) (cpM_fe f m3.2 (fun e => hP _ _ e (Or.inl ⟨by decide, rfl⟩)) (fun j h1 h2 e => hP _ _ e (Or.inr (Or.inl ⟨Or.inr rfl, h1, h2⟩))))
theorem cpM_k {B B' : mem} (F : frE kE B B') (c : Int) : cpM B' c = cpM B c := cpM_cg (F 874 c (fun e => e.2.2.2.2.2 rfl)) (funext (fun j => F 873 j (fun e => e.2.2.2.2.1 rfl)))
theorem CB_k {B B' : mem} (h : CB B) (k : KM B B') : CB B' := by
  obtain ⟨h1, h2, h3⟩ := h
  have e7 : B' 857 = B 857 := funext (fun j => k.2 857 j (fun e => e.2.2.1 rfl))
  have e8 : B' 858 = B 858 := funext (fun j => k.2 858 j (fun e => e.2.2.2.1 rfl))
  refine ⟨k.1, by rw [e7, e8]; exact h2, fun c h0 h9 => ?_⟩
  rw [cpM_k k.2]
  exact h3 c h0 h9
theorem kE_13 {B B' : mem} (F : frE kE B B') : B' 856 13 = B 856 13 := F 856 13 (fun e => e.2.1 rfl rfl)
/-- behind the first confirming -/
theorem R2_1 {A B : mem} (h : R2 A B) (h0 : A 0 3 = 0) : E1 A B := by
  rcases h.2.2 with hE | hE
  · exact hE
  · omega
theorem R2_2 {A A' B B' : mem} (h : R2 A B) (h1 : A 0 3 ≠ 0) (w : WC A A') (k : KM B B') : R2 A' B' := by
  obtain ⟨hC, hB, hE⟩ := h
  refine ⟨w.1, CB_k hB k, Or.inr ?_⟩
  rcases hE with hE | hE
  · exact absurd hE.1 h1
  · rw [w.2.2, kE_13 k.2]
    exact hE
/-- the two sides looked at one after the other -/
theorem R2_A {A A' B : mem} (h : R2 A B) (f : fr hi A A') : R2 A' B := by
  obtain ⟨hC, hB, hE⟩ := h
  refine ⟨CI_fr hC f, hB, ?_⟩
  have g : ∀ j, A' 0 j = A 0 j := fun j => f 0 j (by unfold hi; omega)
  have k2 : A' 2 = A 2 := funext (fun j => f 2 j (by unfold hi; omega))
  have k3 : A' 3 = A 3 := funext (fun j => f 3 j (by unfold hi; omega))
  rcases hE with ⟨e1, e2, e3, e4, e5, e6⟩ | hE
  · refine Or.inl ⟨by rw [g]; exact e1, e2, by rw [k2]; exact e3, by rw [k3]; exact e4, by rw [k2, k3]; exact e5, fun x h0 h3 => E1c_fr hC ⟨h0, h3⟩ f (fun q e n => ?_) (e6 x h0 h3)⟩
    have hcl : cl x = 592 + 88 * x.toNat := rfl
    dsimp only [hi, nC] at e n
    omega
  · rw [← g] at hE
    exact Or.inr hE
theorem R2_B {A B B' : mem} (h : R2 A B) (f : fr (fun q => q < 856 ∨ q = 883) B B') : R2 A B' := by
  obtain ⟨hC, ⟨b1, b2, b3⟩, hE⟩ := h
  have F : frE (fun q j => q < 856 ∨ q = 883) B B' := fun q j hq => f q j hq
  have g : ∀ (q : Nat), 856 ≤ q → q ≠ 883 → ∀ j, B' q j = B q j := fun q hq h3 j => f q j (by (try dsimp only); omega)
  have e7 : B' 857 = B 857 := funext (fun j => g 857 (by decide) (by decide) j)
  have e8 : B' 858 = B 858 := funext (fun j => g 858 (by decide) (by decide) j)
  have ec : ∀ c, cpM B' c = cpM B c := fun c => cpM_cg (g 874 (by decide) (by decide) c) (funext (fun j => g 873 (by decide) (by decide) j))
  refine ⟨hC, ⟨MI_fx b1 f, by rw [e7, e8]; exact b2, fun c h0 h2 => by rw [ec]; exact b3 c h0 h2⟩, ?_⟩
  rcases hE with ⟨e1, e2, e3, e4, e5, e6⟩ | hE
  · refine Or.inl ⟨e1, by rw [g 856 (by decide) (by decide)]; exact e2, by rw [e7]; exact e3, by rw [e8]; exact e4, e5, fun x h0 h3 => E1c_fe b1 ⟨h0, h3⟩ F (fun q j e n => ?_) (e6 x h0 h3)⟩
    (try dsimp only [nB] at e n)
    omega
  · rw [← g 856 (by decide) (by decide)] at hE
    exact Or.inr hE
/-- nothing of the pending steps, of the documents, of what is copied has changed -/
abbrev qC (q : Nat) : Prop := wq q ∨ q = 0 ∨ q = 10 ∨ q = 11
abbrev qM (q : Nat) (j : Int) : Prop := wE q j ∨ (q = 856 ∧ j = 19) ∨ q = 875 ∨ q = 876
theorem qM_k {q : Nat} {j : Int} (h : qM q j) : kE q j := by
  rcases h with h | ⟨h1, h2⟩ | h | h
  · exact kE_w h
  · exact ⟨by omega, fun _ => by omega, by omega, by omega, by omega, by omega⟩
  · exact kE_of (by omega) (by omega) (by omega)
  · exact kE_of (by omega) (by omega) (by omega)
theorem nC_q {y : Int} (hy : 0 ≤ y ∧ y < 3) {q : Nat} (h : qC q) : ¬ nC y q := by
  have hcl : cl y = 592 + 88 * y.toNat := rfl
  intro n
  dsimp only [qC, wq, nC] at h n
  omega
theorem nB_q {y : Int} (hy : 0 ≤ y ∧ y < 3) {q : Nat} {j : Int} (h : qM q j) : ¬ nB y q j := by
  intro n
  dsimp only [nB] at n
  rcases h with (⟨h1, h2⟩ | ⟨h1, h2⟩ | ⟨h1, h2⟩ | h | ⟨h1, h2⟩ | h) | ⟨h1, h2⟩ | h | h <;> omega
theorem R2_q {A A' B B' : mem} (h : R2 A B) (hC' : CI A') (f : fr qC A A') (f03 : A' 0 3 = A 0 3) (hM' : MI B') (F : frE qM B B') : R2 A' B' := by
  obtain ⟨hC, hB, hE⟩ := h
  have k : KM B B' := ⟨hM', fe_le F (fun q j h => qM_k h)⟩
  have k2 : A' 2 = A 2 := funext (fun j => f 2 j (by dsimp only [qC, wq]; omega))
  have k3 : A' 3 = A 3 := funext (fun j => f 3 j (by dsimp only [qC, wq]; omega))
  have e7 : B' 857 = B 857 := funext (fun j => k.2 857 j (fun e => e.2.2.1 rfl))
  have e8 : B' 858 = B 858 := funext (fun j => k.2 858 j (fun e => e.2.2.2.1 rfl))
  refine ⟨hC', CB_k hB k, ?_⟩
  rcases hE with ⟨e1, e2, e3, e4, e5, e6⟩ | hE
  · exact Or.inl ⟨by rw [f03]; exact e1, by rw [kE_13 k.2]; exact e2, by rw [k2, e7]; exact e3, by rw [k3, e8]; exact e4, by rw [k2, k3]; exact e5, fun x h0 h3 => E1c_fe hB.1 ⟨h0, h3⟩ F (fun q j e => nB_q ⟨h0, h3⟩ e) (E1c_fr hC ⟨h0, h3⟩ f (fun q e => nC_q ⟨h0, h3⟩ e) (e6 x h0 h3))⟩
  · rw [← f03, ← kE_13 k.2] at hE
    exact Or.inr hE
theorem R2_w {A A' B B' : mem} (h : R2 A B) (hC' : CI A') (f : fr wq A A') (hM' : MI B') (F : frE wE B B') : R2 A' B' := R2_q h hC' (fr_le f (fun q h => Or.inl h)) (f 0 3 (by dsimp only [wq]; omega)) hM' (fe_le F (fun q j h => Or.inl h))
