/-! ===== the reference: the calls that edit ===== -/
theorem ite01 {p : Prop} {dp : Decidable p} {x : Int} (h : x = @ite Int p dp 1 0) : (x = 0 ∧ ¬ p) ∨ (x = 1 ∧ p) := by
  by_cases hp : p
  · rw [if_pos hp] at h; exact Or.inr ⟨h, hp⟩
  · rw [if_neg hp] at h; exact Or.inl ⟨h, hp⟩
abbrev ready (M : mem) (c : Int) : Prop := M 871 c < 10 ∧ okW (mv M 100) (M 860 c) ∧ (0 ≤ M 856 23 ∧ M 856 23 ≤ 60) ∧ wk M = apW (mv M 100) (dc M c) ∧ Bal (wk M)
theorem sq_31 : sqE 856 31 := Or.inl ⟨rfl, by decide, by decide⟩
theorem sq_C {q : Nat} {j : Int} (h : q = 877 ∨ (q = 856 ∧ j = 23) ∨ q = 868 ∨ q = 881 ∨ q = 882) : sqE q j := by
  rcases h with rfl | ⟨rfl, rfl⟩ | rfl | rfl | rfl
  · exact Or.inr (Or.inr (Or.inr (Or.inr (Or.inr (Or.inr (Or.inr (by decide)))))))
  · exact Or.inl ⟨rfl, by decide, by decide⟩
  · exact Or.inr (Or.inr (Or.inr (Or.inr (Or.inl rfl))))
  · exact Or.inr (Or.inr (Or.inr (Or.inr (Or.inr (Or.inr (Or.inr (by decide)))))))
  · exact Or.inr (Or.inr (Or.inr (Or.inr (Or.inr (Or.inr (Or.inr (by decide)))))))
theorem sq_T {q : Nat} {j : Int} (h : ((861 ≤ q ∧ q ≤ 864) ∧ 90 ≤ j) ∨ ((865 ≤ q ∧ q ≤ 867) ∧ 180 ≤ j) ∨ q = 868 ∨ (q = 869 ∧ 5400 ≤ j)) : sqE q j := by
  rcases h with h | h | h | h
  · exact Or.inr (Or.inr (Or.inl h))
  · exact Or.inr (Or.inr (Or.inr (Or.inl h)))
  · exact Or.inr (Or.inr (Or.inr (Or.inr (Or.inl h))))
  · exact Or.inr (Or.inr (Or.inr (Or.inr (Or.inr (Or.inl h)))))
theorem sq_hi {q : Nat} {j : Int} (h : sqE q j) : hi q := by
  rcases h with h | h | h | h | h | h | h | h
  · exact Nat.le_of_eq h.1.symm
  · rcases h with h | h <;> (subst h; decide)
  · exact Nat.le_trans (by decide) h.1.1
  · exact Nat.le_trans (by decide) h.1.1
  · subst h; decide
  · exact h.1 ▸ (by decide : 856 ≤ 869)
  · exact Nat.le_trans (by decide) h.1
  · exact Nat.le_trans (by decide) h.1
theorem ready_fe {P : Nat → Int → Prop} {M M' : mem} {c : Int} (hr : ready M c) (hc : 0 ≤ c ∧ c ≤ 2) (hsz : M 860 c ≤ 60) (h : frE P M M') (hp : ∀ q j, P q j → (q = 856 ∧ j ≠ 23) ∨ q = 868 ∨ q = 881 ∨ q = 882) : ready M' c := by
  obtain ⟨a1, a2, a3, a4, a5⟩ := hr
  have g : ∀ (q : Nat) (j : Int), (q = 856 ∧ j = 23) ∨ (q ≠ 856 ∧ q ≠ 868 ∧ q ≠ 881 ∧ q ≠ 882) → M' q j = M q j := fun q j hq => h q j (fun e => by have := hp q j e; omega)
  have wkE : wk M' = wk M := wk_cg (g 856 23 (by decide)) (fun j _ => g 877 j (Or.inr (by decide)))
  have mvE : mv M' 100 = mv M 100 := mv_fe h (fun q j e h8 hq => by have := hp q j hq; omega)
  have dcE : dc M' c = dc M c := dc_cg (g 860 c (Or.inr (by decide))) (fun j _ => g 859 _ (Or.inr (by decide)))
  unfold ready
  rw [g 871 c (Or.inr (by decide)), g 860 c (Or.inr (by decide)), g 856 23 (by decide), wkE, mvE, dcE]
  exact ⟨a1, a2, a3, a4, a5⟩
theorem m_canEdit2 {X : scr} {M : mem} {c : Int} (rc : inR c) (hc : 0 ≤ c ∧ c ≤ 2) (hM : MI M) (hw : okX (mv M 100) (M 860 c)) : At X 0 122 0 [vr 856, vi c] [] M (qI (fun x M' => frE (fun q j => q = 877 ∨ (q = 856 ∧ j = 23) ∨ q = 868 ∨ q = 881 ∨ q = 882) M M' ∧ (x = 0 ∨ x = 1) ∧ (x = 1 → ready M' c))) := At.mono (m_canEdit rc hc hM hw) (fun t v M1 h => by
  obtain ⟨h0, x, h1, h2, F, b, w⟩ := h
  refine ⟨h0, x, h1, h2, F, b, fun e => ?_⟩
  obtain ⟨a1, a2, a3, a4, a5⟩ := w e
  have g : ∀ (q : Nat) (j : Int), (q ≠ 856 ∧ q ≠ 868 ∧ q ≠ 877 ∧ q ≠ 881 ∧ q ≠ 882) → M1 q j = M q j := fun q j hq => F q j (fun e => by (try dsimp only at e); omega)
  have mvE : mv M1 100 = mv M 100 := mv_fe F (fun q j e h8 hq => by (try dsimp only at hq); omega)
  have dcE : dc M1 c = dc M c := dc_cg (g 860 c (by decide)) (fun j _ => g 859 _ (by decide))
  unfold ready
  rw [g 871 c (by decide), g 860 c (by decide), mvE, dcE]
  exact ⟨a1, a2, a3, a4, a5⟩)
abbrev eq9 (M M' : mem) : Prop := M' 861 100 = M 861 100 ∧ M' 864 100 = M 864 100 ∧ M' 863 100 = M 863 100 ∧ M' 865 200 = M 865 200 ∧ M' 865 201 = M 865 201 ∧ M' 866 200 = M 866 200 ∧ M' 866 201 = M 866 201
theorem m_adds0 {X : scr} {M : mem} {t : Int} (rt : inR t) (hp : (0 ≤ M 867 200 ∧ M 867 200 ≤ 100) ∧ (0 ≤ M 867 201 ∧ M 867 201 ≤ 100)) : At X 0 106 0 [vr 856, vi 100, vi 0, vi t] [] M (qV (fun M' => frE (fun q j => (q = 869 ∧ 6000 ≤ j) ∨ (q = 867 ∧ j = 200)) M M' ∧ eq9 M M' ∧ M' 867 200 = M 867 200 + 1 ∧ M' 867 201 = M 867 201)) := At.mono (m_adds (s := 100) (r := 0) (by decide) (by decide) rt (by decide) (by decide) hp) (fun x v M1 h => by
  obtain ⟨h0, h1, e⟩ := h
  have e : M1 = um (if M 867 200 + M 867 201 < 60 then um M 869 (6000 + (M 867 200 + M 867 201)) t else M) 867 200 (M 867 200 + 1) := e
  refine ⟨h0, h1, ?_⟩
  rw [e]
  split
  · exact ⟨fe_ums (fe_um (Or.inl ⟨rfl, by omega⟩)) (Or.inr ⟨rfl, rfl⟩), ⟨rfl, rfl, rfl, rfl, rfl, rfl, rfl⟩, um_eq _ _ _ _, rfl⟩
  · exact ⟨fe_um (Or.inr ⟨rfl, rfl⟩), ⟨rfl, rfl, rfl, rfl, rfl, rfl, rfl⟩, um_eq _ _ _ _, rfl⟩)
theorem m_adds1 {X : scr} {M : mem} {t : Int} (rt : inR t) (hp : (0 ≤ M 867 200 ∧ M 867 200 ≤ 100) ∧ (0 ≤ M 867 201 ∧ M 867 201 ≤ 100)) : At X 0 106 0 [vr 856, vi 100, vi 1, vi t] [] M (qV (fun M' => frE (fun q j => (q = 869 ∧ 6000 ≤ j) ∨ (q = 867 ∧ j = 201)) M M' ∧ eq9 M M' ∧ M' 867 201 = M 867 201 + 1 ∧ M' 867 200 = M 867 200)) := At.mono (m_adds (s := 100) (r := 1) (by decide) (by decide) rt (by decide) (by decide) hp) (fun x v M1 h => by
  obtain ⟨h0, h1, e⟩ := h
  have e : M1 = um (if M 867 200 + M 867 201 < 60 then um M 869 (6000 + (M 867 200 + M 867 201)) t else M) 867 201 (M 867 201 + 1) := e
  refine ⟨h0, h1, ?_⟩
  rw [e]
  split
  · exact ⟨fe_ums (fe_um (Or.inl ⟨rfl, by omega⟩)) (Or.inr ⟨rfl, rfl⟩), ⟨rfl, rfl, rfl, rfl, rfl, rfl, rfl⟩, um_eq _ _ _ _, rfl⟩
  · exact ⟨fe_um (Or.inr ⟨rfl, rfl⟩), ⟨rfl, rfl, rfl, rfl, rfl, rfl, rfl⟩, um_eq _ _ _ _, rfl⟩)
theorem m_edits2 {X : scr} {M : mem} {c : Int} (rc : inR c) (hc : 0 ≤ c ∧ c ≤ 2) (hM : MI M) (hr : ready M c) : At X 0 123 0 [vr 856, vi c] [] M (qV (fun M' => MI M' ∧ fr hi M M')) := m_edits rc hc hM hr.1 hr.2.1 hr.2.2.1 hr.2.2.2.1 hr.2.2.2.2
theorem m_fails2 {X : scr} {M : mem} {n : Int} (rn : inR n) : At X 0 92 0 [vr 856, vi n] [] M (qI (fun x M' => frE (fun q j => q = 856 ∧ j = 31) M M' ∧ x = if 0 < n then 1 else 0)) := At.mono (m_fails rn) (fun t v M1 h => by
  obtain ⟨h0, x, h1, h2, e, h3⟩ := h
  subst e
  exact ⟨h0, x, h1, h2, fe_um ⟨rfl, rfl⟩, h3⟩)
