/-! ===== the calls of the class: the rest ===== -/
theorem TI_add {M : mem} {k : Nat} {t : Int} (hT : TI M) (hk : ly_c k = 5) : TI (addM M k t) := TI_fr hT (addM_fr M k t) (fun q hq hP => by
  rcases hP with h | h
  · subst h; exact addM_I (hT _ hq)
  · have := tk_e hq; have := tk_e hk; omega)
theorem CI_07 {M : mem} {v : Int} (hC : CI M) (hv : 0 ≤ v ∧ v ≤ 10) : CI (um M 0 7 v) := by
  have hf : fr (fun q => q = 0) M (um M 0 7 v) := fr_um rfl
  have e3 : um M 0 7 v 0 3 = M 0 3 := um_j (by decide)
  obtain ⟨a1, a2, a3, a4, a5, a6⟩ := hC
  refine ⟨TI_um a1 (by rw [lc_0]; decide), RI_fr hf (by decide) a2, by rw [e3]; exact a3, by rw [um_eq]; exact hv, ?_, fun c hc => ?_⟩
  · rw [e3, tk_fr hf (by decide) (by decide), lgV_cg hf (by omega) (fun q hP => by (try dsimp only at hP); omega)]
    exact a5
  · have h8 := cl_al hc
    obtain ⟨b1, b2, b3, b4, b5, b6⟩ := a6 c hc
    have ec : ∀ j, um M 0 7 v c j = M c j := fun j => hf c j (by (try dsimp only); omega)
    unfold CC
    rw [e3, ec, ec, tk_fr hf (by (try dsimp only); omega) (by (try dsimp only); omega), tk_fr hf (by (try dsimp only); omega) (by (try dsimp only); omega), lgV_cg hf (by omega) (fun q hP => by (try dsimp only at hP); omega), pdV_cg hf hc (by omega) (fun q hP => by (try dsimp only at hP); omega)]
    exact ⟨b1, b2, b3, b4, b5, b6⟩
theorem Run_det (a : List sV) : ∀ l x y, Run a l x → Run a l y → x = y := by
  induction a with
  | nil =>
    intro l x y h1 h2
    have h1 : x = l := h1
    have h2 : y = l := h2
    rw [h1, h2]
  | cons v vs ih => intro l x y h1 h2; exact ih _ _ _ h1.2 h2.2
theorem range_app {i n : Int} (h0 : 0 ≤ i) (h1 : i ≤ n) (f : Nat → sV) : ∃ r, (List.range n.toNat).map f = (List.range i.toNat).map f ++ r :=
  ⟨((List.range (n.toNat - i.toNat)).map (fun j => i.toNat + j)).map f, by
    rw [← List.map_append]
    congr 1
    have h2 : n.toNat = i.toNat + (n.toNat - i.toNat) := by omega
    rw [← List.range_add, ← h2]⟩
/-- what a prefix comes to, and that the next step lies within it -/
theorem Run_next {f : Nat → sV} {i n : Int} {l d x : List Int} (h0 : 0 ≤ i) (h1 : i < n) (h : Run ((List.range n.toNat).map f) l x) (hd : Run ((List.range i.toNat).map f) l d) : okV (f i.toNat) d ∧ Run ((List.range (i + 1).toNat).map f) l (apV (f i.toNat) d) := by
  obtain ⟨r, hr⟩ := range_app (i := i + 1) (n := n) (by omega) (by omega) f
  rw [hr] at h
  obtain ⟨l', h2, -⟩ := (Run_app _ _ _ _).mp h
  have h3 : (List.range (i + 1).toNat).map f = (List.range i.toNat).map f ++ [f i.toNat] := by
    rw [show (i + 1).toNat = i.toNat + 1 by omega, List.range_succ, List.map_append]
    rfl
  rw [h3] at h2 ⊢
  obtain ⟨l2, h4, h5⟩ := (Run_app _ _ _ _).mp h2
  have h6 := Run_det _ _ _ _ h4 hd
  subst h6
  exact ⟨h5.1, (Run_app _ _ _ _).mpr ⟨_, hd, h5.1, rfl⟩⟩
theorem Run_end {f : Nat → sV} {i n : Int} {l x : List Int} (h0 : 0 ≤ i) (h1 : i ≤ n) (h : Run ((List.range n.toNat).map f) l x) : ∃ d, Run ((List.range i.toNat).map f) l d := by
  obtain ⟨r, hr⟩ := range_app (i := i) (n := n) h0 h1 f
  rw [hr] at h
  obtain ⟨l', h2, -⟩ := (Run_app _ _ _ _).mp h
  exact ⟨l', h2⟩
theorem c_addW {X : scr} {M : mem} {k : Nat} {t : Int} (hk : ly_c k = 5) (ht : inR t) (hT : TI M) : At X 0 38 0 [vr k, vi t] [] M (qV (fun M' => fr (fun q => q = k ∨ q = k + 1) M M' ∧ TI M' ∧ tk M' k = (tk M k ++ [t]).take 60)) := At.mono (c_add hk ht (hT k hk)) (fun t v M1 h => by
  obtain ⟨h0, h1, hM1⟩ := h
  subst hM1
  exact ⟨h0, h1, addM_fr _ _ _, TI_add hT hk, addM_tk (hT k hk)⟩)
theorem c_clearW {X : scr} {M : mem} {k : Nat} (hk : ly_c k = 5) (hT : TI M) : At X 0 36 0 [vr k] [] M (qV (fun M' => fr (fun q => q = k) M M' ∧ TI M' ∧ tk M' k = [])) := At.mono (c_clear hk) (fun t v M1 h => by
  obtain ⟨h0, h1, hM1⟩ := h
  subst hM1
  refine ⟨h0, h1, fr_um rfl, TI_fr (P := fun q => q = k) hT (fr_um rfl) (fun q hq hP => ?_), ?_⟩
  · replace hP : q = k := hP
    subst hP; unfold tkI; rw [um_eq]; omega
  · unfold tk; rw [um_eq]; rfl)
