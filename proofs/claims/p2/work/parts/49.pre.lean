/-! ===== the reference: a row made longer ===== -/
theorem row_next {M1 M9 : mem} {Ln : Int → Int} {q p R L : Int} (hR : RowOK M1 Ln) (eR : M1 856 24 = R) (hR84 : 0 ≤ R ∧ R < 84) (hq : 0 ≤ q ∧ q ≤ 9) (e24 : M9 856 24 = R + 1)
    (g : ∀ (x : Nat) (j : Int), (861 ≤ x ∧ x ≤ 864 ∧ 0 ≤ j ∧ j < 90 + q) ∨ (865 ≤ x ∧ x ≤ 867 ∧ 0 ≤ j ∧ j < 180 + 2 * q) ∨ (x = 869 ∧ 0 ≤ j ∧ j < 5400 + 60 * q) → M9 x j = M1 x j)
    (g8 : ∀ j : Int, 0 ≤ j → j < R → M9 878 j = M1 878 j ∧ M9 879 j = M1 879 j ∧ (j ≠ p → M9 880 j = M1 880 j))
    (hp : 0 ≤ p ∧ p < R) (gp : M9 880 p = R) (p1 : M1 879 p = 1) (x1 : M9 878 R = 90 + q) (x2 : M9 879 R = 0) (x3 : M9 880 R = -1)
    (wB : ∀ j : Int, 0 ≤ j → j < R → M1 878 j < 90 + q) (sm : smE M9 (M1 878 p) (90 + q))
    (ok : okW (mv M9 (90 + q)) (Ln R)) (eL : L = lenW (mv M9 (90 + q)) (Ln R)) (b0 : 0 ≤ Ln R ∧ Ln R ≤ 60) (b1 : 0 ≤ L ∧ L ≤ 60) : RowOK M9 (fun j => if j = R + 1 then L else Ln j) := by
  subst eR
  obtain ⟨hr, hk⟩ := hR
  refine ⟨by omega, fun k k0 k1 => ?_⟩
  rw [e24] at k1
  by_cases e : k = M1 856 24
  · subst e
    unfold RowK
    dsimp only
    rw [x1, x2, x3, if_neg (by omega : ¬ M1 856 24 = M1 856 24 + 1), if_pos rfl]
    exact ⟨by omega, b0, b1, Or.inl ⟨rfl, ok, eL⟩, Or.inl rfl⟩
  · obtain ⟨a1, a2, a3, a4, a5⟩ := hk k k0 (by omega)
    obtain ⟨e8, e9, e0⟩ := g8 k k0 (by omega)
    have hs := wB k k0 (by omega)
    have gm : ∀ s : Int, 0 ≤ s → s < 90 + q → mv M9 s = mv M1 s := fun s h0 h1 => mv_fe (P := fun x j => M9 x j ≠ M1 x j) (fun x j h => Decidable.of_not_not h) (fun x j h h8 hq => hq (g x j (by dsimp only [stE] at h; omega)))
    unfold RowK
    dsimp only
    rw [e8, e9, if_neg (by omega : ¬ k = M1 856 24 + 1), if_neg (by omega : ¬ k + 1 = M1 856 24 + 1), gm _ a1.1 hs]
    refine ⟨a1, a2, a3, a4, ?_⟩
    by_cases ek : k = p
    · subst ek
      rw [gp, e24, x1]
      exact Or.inr ⟨by omega, by omega, p1, x2, sm⟩
    · rw [e0 ek, e24]
      rcases a5 with a5 | ⟨c1, c2, c3, c4, c5⟩
      · exact Or.inl a5
      · obtain ⟨d1, -, -, -, -⟩ := hk (M1 880 k) (by omega) c2
        obtain ⟨f8, f9, -⟩ := g8 (M1 880 k) (by omega) c2
        have ht := wB (M1 880 k) (by omega) c2
        refine Or.inr ⟨c1, by omega, c3, by rw [f9]; exact c4, ?_⟩
        rw [f8]
        obtain ⟨d2, d3, d4, d5⟩ := c5
        unfold smE
        rw [g 861 _ (by omega), g 861 _ (by omega), g 864 _ (by omega), g 864 _ (by omega), g 867 _ (by omega), g 867 _ (by omega), g 867 _ (by omega), g 867 _ (by omega)]
        exact ⟨d2, d3, d4, d5⟩
/-- a step tried and kept: its numbers fit the document -/
theorem okX_of {M5 M6 : mem} {L L' : Int} (hu : okW (mv M5 100) L) (F : frE FSx M5 M6) (hx : PSx M5 M6 L') (h1 : M5 861 100 = 0 → M5 864 100 = 1 → M6 865 201 = M5 865 201 ∧ M6 866 201 = M5 866 201) (h2 : M5 861 100 ≠ 0 → M6 866 200 = M5 866 200 ∧ M6 866 201 = M5 866 201) : okX (mv M6 100) L' := by
  have hu := okW100.mp hu
  have g1 : M6 861 100 = M5 861 100 := F 861 100 (by dsimp only [FSx]; omega)
  have g3 : M6 863 100 = M5 863 100 := F 863 100 (by dsimp only [FSx]; omega)
  have g4 : M6 864 100 = M5 864 100 := F 864 100 (by dsimp only [FSx]; omega)
  have g7 : M6 867 200 = M5 867 200 := F 867 200 (by dsimp only [FSx]; omega)
  have g8 : M6 867 201 = M5 867 201 := F 867 201 (by dsimp only [FSx]; omega)
  unfold PSx at hx
  refine okX100.mpr ?_
  by_cases e : M5 861 100 = 0
  · have h3 := h1 e
    right
    refine ⟨by omega, by omega, by omega, by omega, by omega, by omega, by omega, fun h => ?_, fun h => ?_⟩
    · have h3 := h3 (by omega)
      omega
    · omega
  · have h3 := h2 e
    left
    refine ⟨by omega, by omega, by omega, by omega, by omega, by omega, by omega, by omega, by omega⟩
theorem PSi_of {M : mem} {L : Int} (hu : okW (mv M 100) L) : PSi M L := by
  have hu := okW100.mp hu
  unfold PSi
  rcases hu with ⟨h1, h2, h3, h4, h5⟩ | ⟨h1, h2, h3, h4, h5, h6, h7, h8, h9, h10, h11⟩
  · exact Or.inl ⟨h1, by omega, by omega, by omega⟩
  · exact Or.inr ⟨h1, h2, by omega, fun h => by have := h10 h; omega⟩
theorem fb_S {c x j} {s : Int} (hs : 90 ≤ s) (h : stE s x j) : FBx c x j := by
  rcases h with ⟨h1, h2⟩ | ⟨h1, h2⟩ | ⟨h1, h2, h3⟩
  · exact Or.inr (Or.inr (Or.inl ⟨h1, by omega⟩))
  · exact Or.inr (Or.inr (Or.inr (Or.inl ⟨h1, by omega⟩)))
  · rcases (show x = 868 ∨ x = 869 by omega) with h9 | h9
    · exact Or.inr (Or.inr (Or.inr (Or.inr (Or.inl h9))))
    · exact Or.inr (Or.inr (Or.inr (Or.inr (Or.inr (Or.inl ⟨h9, by omega⟩)))))
theorem fb_X {c x j} (h : FSx x j) : FBx c x j := by
  rcases h with ⟨h1, h2⟩ | ⟨h1, h2⟩
  · exact Or.inr (Or.inl ⟨h1, Or.inr h2⟩)
  · exact Or.inr (Or.inr (Or.inr (Or.inl ⟨by omega, by omega⟩)))
theorem fb_L {c x j} (h : x = 877 ∨ (x = 856 ∧ j = 23)) : FBx c x j := by
  rcases h with h | ⟨h1, h2⟩
  · exact Or.inr (Or.inr (Or.inr (Or.inr (Or.inr (Or.inr (Or.inr (Or.inl h)))))))
  · exact Or.inr (Or.inl ⟨h1, Or.inl h2⟩)
theorem fb_G {c x j} (h : x = 877 ∨ (x = 856 ∧ j = 23) ∨ (x = 868 ∧ 60 * 100 ≤ j ∧ j < 60 * 100 + 60) ∨ x = 881 ∨ x = 882) : FBx c x j := by
  rcases h with h | h | h | h | h
  · exact fb_L (Or.inl h)
  · exact fb_L (Or.inr h)
  · exact Or.inr (Or.inr (Or.inr (Or.inr (Or.inl h.1))))
  · exact Or.inr (Or.inr (Or.inr (Or.inr (Or.inr (Or.inr (Or.inr (Or.inr (Or.inl h))))))))
  · exact Or.inr (Or.inr (Or.inr (Or.inr (Or.inr (Or.inr (Or.inr (Or.inr (Or.inr (Or.inl h)))))))))
theorem fb_K {c x j} (h : (x = 860 ∧ j = c) ∨ (x = 859 ∧ 60 * c ≤ j ∧ j < 60 * c + 60)) : FBx c x j := by
  rcases h with h | h
  · exact Or.inr (Or.inr (Or.inr (Or.inr (Or.inr (Or.inr (Or.inr (Or.inr (Or.inr (Or.inr (Or.inr h))))))))))
  · exact Or.inr (Or.inr (Or.inr (Or.inr (Or.inr (Or.inr (Or.inr (Or.inr (Or.inr (Or.inr (Or.inl h))))))))))
/-- no row, no pending step, no log, no version is among what the loop writes -/
theorem fb_no {c : Int} {x : Nat} {j : Int} (hc : 0 ≤ c ∧ c ≤ 2) (h : ((861 ≤ x ∧ x ≤ 864) ∧ j < 90) ∨ ((865 ≤ x ∧ x ≤ 867) ∧ j < 180) ∨ (x = 869 ∧ j < 5400) ∨ (x = 870 ∨ x = 871 ∨ x = 873 ∨ x = 874) ∨ (x = 856 ∧ j ≠ 24 ∧ j ≠ 23 ∧ j ≠ 28) ∨ (x = 860 ∧ j ≠ c) ∨ (x = 859 ∧ (j < 60 * c ∨ 60 * c + 60 ≤ j))) : ¬ FBx c x j := by
  intro h9
  dsimp only [FBx, FRo] at h9
  rcases h9 with h9 | h9 | h9 | h9 | h9 | h9 | h9 | h9 | h9 | h9 | h9 | h9 <;> omega
theorem fb_all {c : Int} {x : Nat} {j : Int} (h : FBx c x j) : sqE x j ∨ ceE c x j := by
  rcases h with h | ⟨h1, h2⟩ | h | h | h | h | h | h | h | h | h | h
  · exact Or.inl (sq_R h)
  · exact Or.inl (Or.inl ⟨h1, by omega, by omega⟩)
  · exact Or.inl (sq_T (Or.inl h))
  · exact Or.inl (sq_T (Or.inr (Or.inl h)))
  · exact Or.inl (sq_T (Or.inr (Or.inr (Or.inl h))))
  · exact Or.inl (sq_T (Or.inr (Or.inr (Or.inr h))))
  · exact Or.inl (Or.inr (Or.inr (Or.inr (Or.inr (Or.inr (Or.inr (Or.inl (by omega))))))))
  · exact Or.inl (sq_C (Or.inl h))
  · exact Or.inl (sq_C (Or.inr (Or.inr (Or.inr (Or.inl h)))))
  · exact Or.inl (sq_C (Or.inr (Or.inr (Or.inr (Or.inr h)))))
  · exact Or.inr (Or.inl h)
  · exact Or.inr (Or.inr (Or.inl ⟨Or.inl h.1, h.2⟩))
/-- the cells that keeping the rebased steps writes -/
abbrev FPx (c : Int) (x : Nat) (j : Int) : Prop := ((861 ≤ x ∧ x ≤ 864) ∧ 60 + 10 * c ≤ j ∧ j < 70 + 10 * c) ∨ ((865 ≤ x ∧ x ≤ 867) ∧ 120 + 20 * c ≤ j ∧ j < 140 + 20 * c) ∨ x = 868 ∨ (x = 869 ∧ 3600 + 600 * c ≤ j ∧ j < 4200 + 600 * c)
theorem fp_S {c s : Int} {x : Nat} {j : Int} (hs : 60 + 10 * c ≤ s ∧ s < 70 + 10 * c) (h : stE s x j) : FPx c x j := by
  rcases h with ⟨h1, h2⟩ | ⟨h1, h2⟩ | ⟨h1, h2, h3⟩
  · exact Or.inl ⟨h1, by omega⟩
  · exact Or.inr (Or.inl ⟨h1, by omega⟩)
  · rcases (show x = 868 ∨ x = 869 by omega) with h9 | h9
    · exact Or.inr (Or.inr (Or.inl h9))
    · exact Or.inr (Or.inr (Or.inr ⟨h9, by omega⟩))
theorem rebased {M M0 M1 MF : mem} {c q : Int} (hM : MI M) (hc : 0 ≤ c ∧ c ≤ 2) (hq : 0 ≤ q ∧ q ≤ M 871 c) (F0 : frE (FBx c) M M0) (hS : 0 ≤ M0 860 c ∧ M0 860 c ≤ 60) (hrun : RunW (kpV M0 q) (dc M 3) (dc M0 c)) (F1 : frE (FPx c) M0 M1) (hw : ∀ j : Int, 0 ≤ j → j < q → mv M1 (60 + 10 * c + j) = mv M0 (90 + j))
    (e : MF = um (um M1 871 c q) 870 c (M 856 13)) : MI MF ∧ frE (fun x j => sqE x j ∨ ceE c x j) M MF := by
  have FF : frE (fun x j => (x = 870 ∨ x = 871) ∧ j = c) M1 MF := by rw [e]; exact fe_ums (fe_um ⟨Or.inr rfl, rfl⟩) ⟨Or.inl rfl, rfl⟩
  have f0 : MF 870 c = M 856 13 := by rw [e, um_eq]
  have f1 : MF 871 c = q := by rw [e, um_k (by decide), um_eq]
  clear e
  have G : frE (fun x j => sqE x j ∨ ceE c x j) M MF := fe_tr (fe_tr (fe_le F0 (fun x j h => fb_all h)) (fe_le F1 (fun x j h => by
    rcases h with h | h | h | h
    · exact Or.inr (Or.inr (Or.inr (Or.inl h)))
    · exact Or.inr (Or.inr (Or.inr (Or.inr (Or.inl h))))
    · exact Or.inl (sq_T (Or.inr (Or.inr (Or.inl h))))
    · exact Or.inr (Or.inr (Or.inr (Or.inr (Or.inr h)))))) ) (fe_le FF (fun x j h => Or.inr (Or.inr (Or.inl ⟨by rcases h.1 with h | h; exact Or.inr (Or.inl h); exact Or.inr (Or.inr (Or.inl h)), h.2⟩))))
  have z1 : ∀ (x : Nat) (j : Int), (x = 860 ∨ x = 859) → MF x j = M0 x j := fun x j h => by
    rw [FF x j (by omega), F1 x j (by dsimp only [FPx]; omega)]
  have es : MF 860 c = M0 860 c := z1 860 c (Or.inl rfl)
  have ed : dc MF c = dc M0 c := dc_cg es (fun j _ => z1 859 _ (Or.inr rfl))
  have hmc := hM.2.2.2.2 c hc.1 hc.2
  have h13 := hM.2.1
  have e13 : MF 856 13 = M 856 13 := G 856 13 (by dsimp only [sqE, ceE]; omega)
  refine ⟨MI_cl hM hc G (by rw [es]; exact hS) ?_, G⟩
  unfold MC at hmc ⊢
  rw [f0, f1, e13, FF 874 c (by omega), F1 874 c (by dsimp only [FPx]; omega), F0 874 c (fb_no hc (by omega)), lgW_fe G (fun x j e => by dsimp only [sqE, ceE] at e; omega), ed]
  refine ⟨by omega, by omega, hmc.2.2.1, dc M 3, hM.2.2.2.1, ?_⟩
  have ek : pdW MF c q = kpV M0 q := by
    unfold pdW kpV
    apply List.map_congr_left
    intro i hi
    have := List.mem_range.mp hi
    rw [← hw i (by omega) (by omega)]
    exact mv_fe FF (fun x j h h8 hq => by dsimp only [stE] at h; omega)
  rw [ek]
  exact hrun
