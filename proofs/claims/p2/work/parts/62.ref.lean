/-! ===== the reference's edits one by one, exact ===== -/
abbrev RS1 (M : mem) (s t : Int) (P : List Int) : Prop := M 861 100 = 0 ∧ M 864 100 = 1 ∧ (M 865 200 = s ∧ M 865 201 = 0) ∧ (M 866 200 = t ∧ M 866 201 = 0) ∧ (M 867 200 = (P.length : Int) ∧ M 867 201 = 0) ∧ ∀ j : Nat, j < P.length → j < 60 → M 869 (6000 + (j : Int)) = P.getD j 0
theorem mv_R {M : mem} {P : List Int} (h : ∀ j : Nat, j < P.length → j < 60 → M 869 (6000 + (j : Int)) = P.getD j 0) (hP : P.length ≤ 60) : (mv M 100).2.take P.length = P := by
  unfold mv
  dsimp only
  apply List.ext_getElem?
  intro n
  rw [List.getElem?_take]
  by_cases hn : n < P.length
  · rw [if_pos hn, List.getElem?_map, List.getElem?_range (by omega), List.getElem?_eq_getElem hn]
    show some (M 869 (60 * 100 + (n : Int))) = _
    have h9 := h n hn (by omega)
    rw [show (60 * 100 + (n : Int)) = 6000 + (n : Int) by omega, h9, List.getD_eq_getElem?_getD, List.getElem?_eq_getElem hn]
    rfl
  · rw [if_neg hn, List.getElem?_eq_none (by omega)]
theorem RS1_D {M : mem} {s t : Int} {P : List Int} (h : RS1 M s t P) (hP : P.length ≤ 60) : cWD (mv M 100) (0, ([s, t], P)) := by
  obtain ⟨h1, h2, h3, h4, h5, h6⟩ := h
  have hR := mv_R h6 hP
  refine ⟨M 862 100, M 863 100, (mv M 100).2, ?_, hR⟩
  unfold mv
  dsimp only
  rw [h1, h2, show (2 * 100 : Int) = 200 from rfl, show (200 + 1 : Int) = 201 from rfl, h3.1, h3.2, h4.1, h4.2, h5.1, h5.2]
theorem wE_31 : wE 856 31 := Or.inl ⟨rfl, by decide⟩
theorem wE_C {q : Nat} {j : Int} (h : q = 877 ∨ (q = 856 ∧ j = 23) ∨ q = 868 ∨ q = 881 ∨ q = 882) : wE q j := by
  rcases h with rfl | ⟨rfl, rfl⟩ | rfl | rfl | rfl
  · exact Or.inr (Or.inr (Or.inr (Or.inr (Or.inr (by decide)))))
  · exact Or.inl ⟨rfl, Or.inl rfl⟩
  · exact Or.inr (Or.inr (Or.inr (Or.inl rfl)))
  · exact Or.inr (Or.inr (Or.inr (Or.inr (Or.inr (by decide)))))
  · exact Or.inr (Or.inr (Or.inr (Or.inr (Or.inr (by decide)))))
theorem wE_T {q : Nat} {j : Int} (h : ((861 ≤ q ∧ q ≤ 864) ∧ 90 ≤ j) ∨ ((865 ≤ q ∧ q ≤ 867) ∧ 180 ≤ j) ∨ q = 868 ∨ (q = 869 ∧ 5400 ≤ j)) : wE q j := by
  rcases h with h | h | h | h
  · exact Or.inr (Or.inl h)
  · exact Or.inr (Or.inr (Or.inl h))
  · exact Or.inr (Or.inr (Or.inr (Or.inl h)))
  · exact Or.inr (Or.inr (Or.inr (Or.inr (Or.inl h))))
theorem wE_sq {q : Nat} {j : Int} (h : wE q j) : sqE q j := by
  rcases h with h | h | h | h | h | h
  · exact Or.inl ⟨h.1, by omega, by omega⟩
  · exact sq_T (Or.inl h)
  · exact sq_T (Or.inr (Or.inl h))
  · exact sq_T (Or.inr (Or.inr (Or.inl h)))
  · exact sq_T (Or.inr (Or.inr (Or.inr h)))
  · exact Or.inr (Or.inr (Or.inr (Or.inr (Or.inr (Or.inr (Or.inr ⟨by omega, by omega⟩))))))
section REX
variable {M M1 M2 M3 M' : mem} {c x : Int} {D : gD} {cs : cfn}
theorem wE_c (F : frE wE M M1) : (∀ d : Int, M1 860 d = M 860 d) ∧ (∀ d : Int, M1 871 d = M 871 d) ∧ (∀ d : Int, dc M1 d = dc M d) ∧ M1 857 = M 857 ∧ M1 858 = M 858 := by
  have g : ∀ (q : Nat) (j : Int), (q = 857 ∨ q = 858 ∨ q = 859 ∨ q = 860 ∨ q = 871) → M1 q j = M q j := fun q j hq => F q j (fun e => by
    rcases e with e | e | e | e | e | e <;> omega)
  exact ⟨fun d => g 860 d (by decide), fun d => g 871 d (by decide), fun d => dc_cg (g 860 d (by decide)) (fun j _ => g 859 _ (by decide)), funext (fun j => g 857 j (by decide)), funext (fun j => g 858 j (by decide))⟩
theorem MI_wE (hM : MI M) (F : frE wE M M1) : MI M1 := MI_sq hM (fe_le F (fun q j h => wE_sq h))
theorem can_iff (hM : MI M) (hc : 0 ≤ c ∧ c ≤ 2) (F : frE wE M M1) (hD : cWD (mv M1 100) D) (hs : smD D) (h2 : D.1 ≠ 2) (h : x = 1 ↔ M1 871 c < 10 ∧ okW (mv M1 100) (M1 860 c) ∧ acc (M1 857) (M1 858) (apW (mv M1 100) (dc M1 c))) : x = 1 ↔ M 871 c < 10 ∧ gd (M 857) (M 858) (dc M c) D := by
  obtain ⟨g0, g1, g3, g7, g8⟩ := wE_c F
  have hsz := hM.1 c hc.1 (by omega)
  rw [g0, g1, g3, g7, g8, okW_D hD hs (l := dc M c) (by rw [dc_len]; omega)] at h
  rw [h]
  constructor
  · rintro ⟨a, b, d⟩
    rw [apW_D hD hs b h2] at d
    exact ⟨a, b, d⟩
  · rintro ⟨a, b, d⟩
    rw [← apW_D hD hs b h2] at d
    exact ⟨a, b, d⟩
theorem OM_nil (hM' : MI M') (F : frE wE M M') (h : 0 ≤ c → c < 3 → cs (dc M c) (cpM M c) = []) : OM c cs M M' := by
  by_cases hc : 0 ≤ c ∧ c < 3
  · exact Or.inl ⟨hc.1, hc.2, Or.inr ⟨hM', F, fun ⟨_, D, hD, _⟩ => by rw [h hc.1 hc.2] at hD; cases hD⟩⟩
  · exact Or.inr ⟨hc, hM', F⟩
theorem OM_no (hc : 0 ≤ c ∧ c ≤ 2) (hM' : MI M') (F : frE wE M M') (hcs : cs (dc M c) (cpM M c) = [D]) (h : ¬ (M 871 c < 10 ∧ gd (M 857) (M 858) (dc M c) D)) : OM c cs M M' :=
  Or.inl ⟨hc.1, by omega, Or.inr ⟨hM', F, fun ⟨a, D', hD, b⟩ => by
    rw [hcs] at hD
    rw [List.mem_singleton.mp hD] at b
    exact h ⟨a, b⟩⟩⟩
theorem OM_out (hM : MI M) (hc : 0 ≤ c ∧ c ≤ 2) (F : frE wE M M1) (hD : cWD (mv M1 100) D) (hs : smD D) (h2 : D.1 ≠ 2) (hcs : cs (dc M c) (cpM M c) = [D]) (F2 : frE (fun q j => q = 877 ∨ (q = 856 ∧ j = 23) ∨ q = 868 ∨ q = 881 ∨ q = 882) M1 M2) (F3 : frE (fun q j => q = 856 ∧ j = 31) M2 M3) (hg : M 871 c < 10 ∧ gd (M 857) (M 858) (dc M c) D)
    (k1 : MI M') (k2 : frE (fun q j => (q = 859 ∧ 60 * c ≤ j ∧ j < 60 * c + 60) ∨ ((q = 860 ∨ q = 871) ∧ j = c) ∨ stE (60 + 10 * c + M3 871 c) q j) M3 M') (k3 : M' 871 c = M3 871 c + 1) (k4 : mv M' (60 + 10 * c + M3 871 c) = mv M3 100) (k5 : dc M' c = apW (mv M3 100) (dc M3 c)) : OM c cs M M' := by
  have F13 : frE wE M M3 := fe_tr F (fe_tr (fe_le F2 (fun q j h => wE_C h)) (fe_le F3 (fun q j h => by obtain ⟨rfl, rfl⟩ := h; exact wE_31)))
  obtain ⟨g0, g1, g3, g7, g8⟩ := wE_c F13
  have mk : mv M3 100 = mv M1 100 := by
    rw [mv_fe F3 (fun q j e h8 hq => by (try dsimp only [stE] at e hq); omega), mv_fe F2 (fun q j e h8 hq => by (try dsimp only [stE] at e hq); omega)]
  rw [g1] at k2 k3 k4
  rw [mk] at k4 k5
  rw [g3] at k5
  have hb := hM.2.2.2.2 c hc.1 hc.2
  refine Or.inl ⟨hc.1, by omega, Or.inl ⟨k1, ⟨hb.2.1.1, hg.1⟩, D, hs, ⟨[], [], hcs, hg.2, fun x hx => by cases hx⟩, fe_tr (fe_le F13 (fun q j h => Or.inl h)) (fe_le k2 (fun q j h => Or.inr h)), k3, ?_, ?_⟩⟩
  · rw [k4]; exact hD
  · rw [k5, apW_D hD hs hg.2.1 h2]
end REX
theorem x_canEdit2 {X : scr} {M : mem} {c : Int} (rc : inR c) (hc : 0 ≤ c ∧ c ≤ 2) (hM : MI M) (hw : okX (mv M 100) (M 860 c)) (hG : GR (M 857) (M 858)) : At X 0 122 0 [vr 856, vi c] [] M (qI (fun x M' => frE (fun q j => q = 877 ∨ (q = 856 ∧ j = 23) ∨ q = 868 ∨ q = 881 ∨ q = 882) M M' ∧ (x = 0 ∨ x = 1) ∧ (x = 1 → ready M' c) ∧ (x = 1 ↔ M 871 c < 10 ∧ okW (mv M 100) (M 860 c) ∧ acc (M 857) (M 858) (apW (mv M 100) (dc M c))))) := At.mono (x_canEdit rc hc hM hw hG) (fun t v M1 h => by
  obtain ⟨h0, x, h1, h2, F, b, w, z⟩ := h
  refine ⟨h0, x, h1, h2, F, b, fun e => ?_, z⟩
  obtain ⟨a1, a2, a3, a4, a5⟩ := w e
  have g : ∀ (q : Nat) (j : Int), (q ≠ 856 ∧ q ≠ 868 ∧ q ≠ 877 ∧ q ≠ 881 ∧ q ≠ 882) → M1 q j = M q j := fun q j hq => F q j (fun e => by (try dsimp only at e); omega)
  have mvE : mv M1 100 = mv M 100 := mv_fe F (fun q j e h8 hq => by (try dsimp only at hq); omega)
  have dcE : dc M1 c = dc M c := dc_cg (g 860 c (by decide)) (fun j _ => g 859 _ (by decide))
  unfold ready
  rw [g 871 c (by decide), g 860 c (by decide), mvE, dcE]
  exact ⟨a1, a2, a3, a4, a5⟩)
theorem x_tries {X : scr} {M : mem} {a l : Int} (ra : inR a) (rl : inR l) : At X 0 124 0 [vr 856, vi a, vi l] [] M (qV (fun M' => frE wE M M' ∧ RS1 M' a l [])) := At.mono (m_tries ra rl) (fun t v M1 h => by
  obtain ⟨h0, h1, F, a1, a2, a3, a4, a5⟩ := h
  exact ⟨h0, h1, fe_le F (fun q j h => wE_T (by (try dsimp only at h); omega)), a1, a2, a3, a4, a5, fun j hj => absurd hj (Nat.not_lt_zero j)⟩)
theorem x_adds0 {X : scr} {M : mem} {t s l : Int} {P : List Int} (rt : inR t) (h : RS1 M s l P) (hP : P.length ≤ 99) : At X 0 106 0 [vr 856, vi 100, vi 0, vi t] [] M (qV (fun M' => frE wE M M' ∧ RS1 M' s l (P ++ [t]))) := At.mono (m_adds (s := 100) (r := 0) (by decide) (by decide) rt (by decide) (by decide) (by obtain ⟨h1, h2, h3, h4, h5, h6⟩ := h; simp only [show (2 * 100 : Int) = 200 from rfl, show (200 + 1 : Int) = 201 from rfl]; omega)) (fun x v M1 h9 => by
  obtain ⟨h1, h2, h3, h4, h5, h6⟩ := h
  obtain ⟨q0, q1, e⟩ := h9
  have e : M1 = um (if M 867 200 + M 867 201 < 60 then um M 869 (6000 + (M 867 200 + M 867 201)) t else M) 867 200 (M 867 200 + 1) := e
  refine ⟨q0, q1, ?_⟩
  rw [e, h5.1, h5.2, Int.add_zero]
  have hl : (P ++ [t]).length = P.length + 1 := by rw [List.length_append]; rfl
  have hg : ∀ j : Nat, j < P.length → (P ++ [t]).getD j 0 = P.getD j 0 := fun j hj => by rw [List.getD_eq_getElem?_getD, List.getD_eq_getElem?_getD, List.getElem?_append_left hj]
  have ht : (P ++ [t]).getD P.length 0 = t := by rw [List.getD_eq_getElem?_getD, List.getElem?_append_right (Nat.le_refl _), Nat.sub_self]; rfl
  split
  · refine ⟨fe_ums (fe_um (wE_T (Or.inr (Or.inr (Or.inr ⟨rfl, by omega⟩))))) (wE_T (Or.inr (Or.inl ⟨by decide, by decide⟩))), ?_, ?_, ⟨?_, ?_⟩, ⟨?_, ?_⟩, ⟨?_, ?_⟩, fun j hj h60 => ?_⟩
    · rw [um_k (by decide), um_k (by decide)]; exact h1
    · rw [um_k (by decide), um_k (by decide)]; exact h2
    · rw [um_k (by decide), um_k (by decide)]; exact h3.1
    · rw [um_k (by decide), um_k (by decide)]; exact h3.2
    · rw [um_k (by decide), um_k (by decide)]; exact h4.1
    · rw [um_k (by decide), um_k (by decide)]; exact h4.2
    · rw [um_eq, hl]; omega
    · rw [um_j (by decide), um_k (by decide)]; exact h5.2
    · rw [um_k (by decide)]
      by_cases ej : j = P.length
      · subst ej; rw [um_eq, ht]
      · rw [um_j (by omega), hg j (by omega)]; exact h6 j (by omega) h60
  · refine ⟨fe_um (wE_T (Or.inr (Or.inl ⟨by decide, by decide⟩))), ?_, ?_, ⟨?_, ?_⟩, ⟨?_, ?_⟩, ⟨?_, ?_⟩, fun j hj h60 => ?_⟩
    · rw [um_k (by decide)]; exact h1
    · rw [um_k (by decide)]; exact h2
    · rw [um_k (by decide)]; exact h3.1
    · rw [um_k (by decide)]; exact h3.2
    · rw [um_k (by decide)]; exact h4.1
    · rw [um_k (by decide)]; exact h4.2
    · rw [um_eq, hl]; omega
    · rw [um_j (by decide)]; exact h5.2
    · rw [um_k (by decide), hg j (by omega)]; exact h6 j (by omega) h60)
theorem x_edits2 {X : scr} {M : mem} {c : Int} (rc : inR c) (hc : 0 ≤ c ∧ c ≤ 2) (hM : MI M) (hr : ready M c) : At X 0 123 0 [vr 856, vi c] [] M (qV (fun M' => MI M' ∧ frE (fun q j => (q = 859 ∧ 60 * c ≤ j ∧ j < 60 * c + 60) ∨ ((q = 860 ∨ q = 871) ∧ j = c) ∨ stE (60 + 10 * c + M 871 c) q j) M M' ∧ M' 871 c = M 871 c + 1 ∧ mv M' (60 + 10 * c + M 871 c) = mv M 100 ∧ dc M' c = apW (mv M 100) (dc M c))) := x_edits rc hc hM hr.1 hr.2.1 hr.2.2.1 hr.2.2.2.1 hr.2.2.2.2

set_option maxRecDepth 100000 in
set_option maxHeartbeats 4000000 in
theorem y_type {X : scr} {M : mem} {c p l : Int} (rc : inR c) (rp : inR p) (rl : inR l) (hM : MI M) (hG : GR (M 857) (M 858)) : At X 0 125 0 [vr 856, vi c, vi p, vi l] [] M (qI (fun _ M' => OM c (csType p l) M M')) := by
  have F : frE wE M M := fe_rf
  have hS := fun h1 h2 => hM.1 c h1 h2
  have hdl : 0 ≤ c → c < 3 → ((dc M c).length : Int) = M 860 c := fun h1 h2 => by have := hM.1 c h1 (by omega); rw [dc_len]; omega
  refine at_iload dx_125_0 rfl ?_
  refine at_callSI dx_125_1 rfl rfl (m_isClient rc) ?_
  rintro x1 M9 r1 ⟨e9, h1⟩; replace e9 := e9.symm; subst e9; replace h1 := ite01 h1
  refine at_zeqR dx_125_2 r1 (fun c2 => ?_) (fun c2 => ?_)
  · skip
    refine at_const (x := 0) dx_125_15 rfl ?_
    refine at_istore dx_125_16 ?_
    refine at_iload dx_125_17 rfl ?_
    refine at_zeqR dx_125_18 (by decide) (fun _ => ?_) (fun c => absurd c (by decide))
    refine at_aload dx_125_32 rfl ?_
    refine at_iload dx_125_33 rfl ?_
    refine at_zneR dx_125_34 (by decide) (fun c => absurd c (by decide)) (fun _ => ?_)
    refine at_const (x := 1) dx_125_35 rfl ?_
    refine at_goto dx_125_36 ?_
    refine at_callVI dx_125_44 rfl lc_856 rfl (m_fails2 (by decide)) ?_
    rintro x44 M44 r44 ⟨f44, h44⟩; replace h44 := ite01 h44
    replace F : frE wE M _ := fe_tr F (fe_le f44 (fun q j h => by obtain ⟨rfl, rfl⟩ := h; exact wE_31))
    obtain rfl : x44 = 1 := by omega
    refine at_zeqR dx_125_45 (by decide) (fun c => absurd c (by decide)) (fun _ => ?_)
    refine at_const (x := 0) dx_125_46 rfl ?_
    refine at_iretI dx_125_47 (by decide) ?_
    first
    | exact OM_out hM (by omega) F1 hDW hSM h2D hCS f39 f44 (hcan.mp (by omega)) k1 k2 k3 k4 k5
    | exact OM_no (by omega) (MI_wE hM F) F hCS (fun e => absurd (hcan.mpr e) (by omega))
    | exact OM_nil (MI_wE hM F) F (fun c0 c1 => by show cIf _ _ = []; exact cIf_f (fun hh => by have := hdl c0 c1; omega))
  · skip
    refine at_aload dx_125_3 rfl ?_
    refine at_iload dx_125_4 rfl ?_
    refine at_iload dx_125_5 rfl ?_
    refine at_callVI dx_125_6 rfl lc_856 rfl (m_isPlace rc rp) ?_
    rintro x6 M9 r6 ⟨e9, h6⟩; replace e9 := e9.symm; subst e9; replace h6 := ite01 h6
    refine at_zeqR dx_125_7 r6 (fun c7 => ?_) (fun c7 => ?_)
    · skip
      refine at_const (x := 0) dx_125_15 rfl ?_
      refine at_istore dx_125_16 ?_
      refine at_iload dx_125_17 rfl ?_
      refine at_zeqR dx_125_18 (by decide) (fun _ => ?_) (fun c => absurd c (by decide))
      refine at_aload dx_125_32 rfl ?_
      refine at_iload dx_125_33 rfl ?_
      refine at_zneR dx_125_34 (by decide) (fun c => absurd c (by decide)) (fun _ => ?_)
      refine at_const (x := 1) dx_125_35 rfl ?_
      refine at_goto dx_125_36 ?_
      refine at_callVI dx_125_44 rfl lc_856 rfl (m_fails2 (by decide)) ?_
      rintro x44 M44 r44 ⟨f44, h44⟩; replace h44 := ite01 h44
      replace F : frE wE M _ := fe_tr F (fe_le f44 (fun q j h => by obtain ⟨rfl, rfl⟩ := h; exact wE_31))
      obtain rfl : x44 = 1 := by omega
      refine at_zeqR dx_125_45 (by decide) (fun c => absurd c (by decide)) (fun _ => ?_)
      refine at_const (x := 0) dx_125_46 rfl ?_
      refine at_iretI dx_125_47 (by decide) ?_
      first
      | exact OM_out hM (by omega) F1 hDW hSM h2D hCS f39 f44 (hcan.mp (by omega)) k1 k2 k3 k4 k5
      | exact OM_no (by omega) (MI_wE hM F) F hCS (fun e => absurd (hcan.mpr e) (by omega))
      | exact OM_nil (MI_wE hM F) F (fun c0 c1 => by show cIf _ _ = []; exact cIf_f (fun hh => by have := hdl c0 c1; omega))
    · skip
      refine at_iload dx_125_8 rfl ?_
      refine at_const (x := 0) dx_125_9 rfl ?_
      refine at_const (x := 25) dx_125_10 rfl ?_
      refine at_callSI dx_125_11 rfl rfl (m_isIn rl (by decide) (by decide)) ?_
      rintro x11 M9 r11 ⟨e9, h11⟩; replace e9 := e9.symm; subst e9; replace h11 := ite01 h11
      refine at_zeqR dx_125_12 r11 (fun c12 => ?_) (fun c12 => ?_)
      · skip
        refine at_const (x := 0) dx_125_15 rfl ?_
        refine at_istore dx_125_16 ?_
        refine at_iload dx_125_17 rfl ?_
        refine at_zeqR dx_125_18 (by decide) (fun _ => ?_) (fun c => absurd c (by decide))
        refine at_aload dx_125_32 rfl ?_
        refine at_iload dx_125_33 rfl ?_
        refine at_zneR dx_125_34 (by decide) (fun c => absurd c (by decide)) (fun _ => ?_)
        refine at_const (x := 1) dx_125_35 rfl ?_
        refine at_goto dx_125_36 ?_
        refine at_callVI dx_125_44 rfl lc_856 rfl (m_fails2 (by decide)) ?_
        rintro x44 M44 r44 ⟨f44, h44⟩; replace h44 := ite01 h44
        replace F : frE wE M _ := fe_tr F (fe_le f44 (fun q j h => by obtain ⟨rfl, rfl⟩ := h; exact wE_31))
        obtain rfl : x44 = 1 := by omega
        refine at_zeqR dx_125_45 (by decide) (fun c => absurd c (by decide)) (fun _ => ?_)
        refine at_const (x := 0) dx_125_46 rfl ?_
        refine at_iretI dx_125_47 (by decide) ?_
        first
        | exact OM_out hM (by omega) F1 hDW hSM h2D hCS f39 f44 (hcan.mp (by omega)) k1 k2 k3 k4 k5
        | exact OM_no (by omega) (MI_wE hM F) F hCS (fun e => absurd (hcan.mpr e) (by omega))
        | exact OM_nil (MI_wE hM F) F (fun c0 c1 => by show cIf _ _ = []; exact cIf_f (fun hh => by have := hdl c0 c1; omega))
      · skip
        refine at_const (x := 1) dx_125_13 rfl ?_
        refine at_goto dx_125_14 ?_
        refine at_istore dx_125_16 ?_
        refine at_iload dx_125_17 rfl ?_
        refine at_zeqR dx_125_18 (by decide) (fun c => absurd c (by decide)) (fun _ => ?_)
        refine at_aload dx_125_19 rfl ?_
        refine at_iload dx_125_20 rfl ?_
        refine at_const (x := 0) dx_125_21 rfl ?_
        refine at_callVV dx_125_22 rfl lc_856 rfl (x_tries rp (by decide)) ?_
        rintro M22 ⟨f22, d22⟩
        replace F : frE wE M _ := fe_tr F f22
        refine at_aload dx_125_23 rfl ?_
        refine at_const (x := 100) dx_125_24 rfl ?_
        refine at_const (x := 0) dx_125_25 rfl ?_
        refine at_const (x := 100) dx_125_26 rfl ?_
        refine at_const (x := 4) dx_125_27 rfl ?_
        refine at_iload dx_125_28 rfl ?_
        refine at_mulR dx_125_29 (by (constructor <;> omega)) (fun r29 => ?_)
        refine at_addR dx_125_30 (by (constructor <;> omega)) (fun r30 => ?_)
        refine at_callVV dx_125_31 rfl lc_856 rfl (x_adds0 r30 d22 (by simp)) ?_
        rintro M31 ⟨f31, d31⟩
        replace F : frE wE M _ := fe_tr F f31
        refine at_aload dx_125_32 rfl ?_
        refine at_iload dx_125_33 rfl ?_
        refine at_zneR dx_125_34 (by decide) (fun _ => ?_) (fun c => absurd c (by decide))
        refine at_aload dx_125_37 rfl ?_
        refine at_iload dx_125_38 rfl ?_
        refine at_callVI dx_125_39 rfl lc_856 rfl (x_canEdit2 rc (by omega) (MI_wE hM F) (okX100.mpr (by obtain ⟨y1, y2, y3, y4, y5, y6⟩ := d31; have y7 := (wE_c F).1 c; simp only [List.length_append, List.length_cons, List.length_nil] at y5; omega)) (by rw [(wE_c F).2.2.2.1, (wE_c F).2.2.2.2]; exact hG)) ?_
        rintro x39 M39 r39 ⟨f39, b39, hrd, hcn⟩
        have F1 := F
        have hDW : cWD (mv M31 100) (0, ([p, 0], [100 + 4 * l])) := RS1_D d31 (Nat.le_of_ble_eq_true rfl)
        have hSM : smD (0, ([p, 0], [100 + 4 * l])) := ⟨by have := hS (by omega) (by omega); omega, by decide, Nat.le_of_ble_eq_true rfl⟩
        have hCS : (csType p l) (dc M c) (cpM M c) = [(0, ([p, 0], [100 + 4 * l]))] := by show cIf _ _ = _; exact cIf_t (by have := hdl (by omega) (by omega); omega)
        have h2D : ((0, ([p, 0], [100 + 4 * l])) : gD).1 ≠ 2 := by show ¬ ((0 : Nat) = 2); decide
        have hcan := can_iff hM (by omega) F1 hDW hSM h2D hcn
        replace F : frE wE M _ := fe_tr F (fe_le f39 (fun q j h => wE_C h))
        refine at_zeqR dx_125_40 r39 (fun c40 => ?_) (fun c40 => ?_)
        · skip
          refine at_const (x := 2) dx_125_43 rfl ?_
          refine at_callVI dx_125_44 rfl lc_856 rfl (m_fails2 (by decide)) ?_
          rintro x44 M44 r44 ⟨f44, h44⟩; replace h44 := ite01 h44
          replace F : frE wE M _ := fe_tr F (fe_le f44 (fun q j h => by obtain ⟨rfl, rfl⟩ := h; exact wE_31))
          obtain rfl : x44 = 1 := by omega
          refine at_zeqR dx_125_45 (by decide) (fun c => absurd c (by decide)) (fun _ => ?_)
          refine at_const (x := 0) dx_125_46 rfl ?_
          refine at_iretI dx_125_47 (by decide) ?_
          first
          | exact OM_out hM (by omega) F1 hDW hSM h2D hCS f39 f44 (hcan.mp (by omega)) k1 k2 k3 k4 k5
          | exact OM_no (by omega) (MI_wE hM F) F hCS (fun e => absurd (hcan.mpr e) (by omega))
          | exact OM_nil (MI_wE hM F) F (fun c0 c1 => by show cIf _ _ = []; exact cIf_f (fun hh => by have := hdl c0 c1; omega))
        · skip
          refine at_const (x := 0) dx_125_41 rfl ?_
          refine at_goto dx_125_42 ?_
          refine at_callVI dx_125_44 rfl lc_856 rfl (m_fails2 (by decide)) ?_
          rintro x44 M44 r44 ⟨f44, h44⟩; replace h44 := ite01 h44
          replace F : frE wE M _ := fe_tr F (fe_le f44 (fun q j h => by obtain ⟨rfl, rfl⟩ := h; exact wE_31))
          obtain rfl : x44 = 0 := by omega
          refine at_zeqR dx_125_45 (by decide) (fun _ => ?_) (fun c => absurd c (by decide))
          refine at_aload dx_125_48 rfl ?_
          refine at_iload dx_125_49 rfl ?_
          refine at_callVV dx_125_50 rfl lc_856 rfl (x_edits2 rc (by omega) (MI_wE hM F) (ready_fe (hrd (by omega)) (by omega) (by have := (wE_c F1).1 c; have := hM.1 c (by omega) (by omega); first | omega | (rw [f39 860 c (by omega)]; omega)) f44 (fun q j h => Or.inl ⟨h.1, by rw [h.2]; decide⟩))) ?_
          rintro M50 ⟨k1, k2, k3, k4, k5⟩
          refine at_aload dx_125_51 rfl ?_
          refine at_getR dx_125_52 lc_856 rfl lt_856_3 ?_
          refine at_iload dx_125_53 rfl ?_
          refine at_aldI dx_125_54 lc_860 ln_860 (by first | omega | (simp (disch := omega) only [um_eq, um_k, um_j]; omega)) (by first | omega | (simp (disch := omega) only [um_eq, um_k, um_j]; omega)) (fun r54 => ?_)
          refine at_iretI dx_125_55 r54 ?_
          first
          | exact OM_out hM (by omega) F1 hDW hSM h2D hCS f39 f44 (hcan.mp (by omega)) k1 k2 k3 k4 k5
          | exact OM_no (by omega) (MI_wE hM F) F hCS (fun e => absurd (hcan.mpr e) (by omega))
          | exact OM_nil (MI_wE hM F) F (fun c0 c1 => by show cIf _ _ = []; exact cIf_f (fun hh => by have := hdl c0 c1; omega))

set_option maxRecDepth 100000 in
set_option maxHeartbeats 4000000 in
theorem y_erase {X : scr} {M : mem} {c f t : Int} (rc : inR c) (rf : inR f) (rt : inR t) (hM : MI M) (hG : GR (M 857) (M 858)) : At X 0 126 0 [vr 856, vi c, vi f, vi t] [] M (qI (fun _ M' => OM c (csErase f t) M M')) := by
  have F : frE wE M M := fe_rf
  have hS := fun h1 h2 => hM.1 c h1 h2
  have hdl : 0 ≤ c → c < 3 → ((dc M c).length : Int) = M 860 c := fun h1 h2 => by have := hM.1 c h1 (by omega); rw [dc_len]; omega
  refine at_iload dx_126_0 rfl ?_
  refine at_callSI dx_126_1 rfl rfl (m_isClient rc) ?_
  rintro x1 M9 r1 ⟨e9, h1⟩; replace e9 := e9.symm; subst e9; replace h1 := ite01 h1
  refine at_zeqR dx_126_2 r1 (fun c2 => ?_) (fun c2 => ?_)
  · skip
    refine at_const (x := 0) dx_126_15 rfl ?_
    refine at_istore dx_126_16 ?_
    refine at_iload dx_126_17 rfl ?_
    refine at_zeqR dx_126_18 (by decide) (fun _ => ?_) (fun c => absurd c (by decide))
    refine at_aload dx_126_28 rfl ?_
    refine at_iload dx_126_29 rfl ?_
    refine at_zneR dx_126_30 (by decide) (fun c => absurd c (by decide)) (fun _ => ?_)
    refine at_const (x := 1) dx_126_31 rfl ?_
    refine at_goto dx_126_32 ?_
    refine at_callVI dx_126_45 rfl lc_856 rfl (m_fails2 (by decide)) ?_
    rintro x45 M45 r45 ⟨f45, h45⟩; replace h45 := ite01 h45
    replace F : frE wE M _ := fe_tr F (fe_le f45 (fun q j h => by obtain ⟨rfl, rfl⟩ := h; exact wE_31))
    obtain rfl : x45 = 1 := by omega
    refine at_zeqR dx_126_46 (by decide) (fun c => absurd c (by decide)) (fun _ => ?_)
    refine at_const (x := 0) dx_126_47 rfl ?_
    refine at_iretI dx_126_48 (by decide) ?_
    first
    | exact OM_out hM (by omega) F1 hDW hSM h2D hCS f40 f45 (hcan.mp (by omega)) k1 k2 k3 k4 k5
    | exact OM_no (by omega) (MI_wE hM F) F hCS (fun e => absurd (hcan.mpr e) (by omega))
    | exact OM_nil (MI_wE hM F) F (fun c0 c1 => by show cIf _ _ = []; exact cIf_f (fun hh => by have := hdl c0 c1; omega))
  · skip
    refine at_aload dx_126_3 rfl ?_
    refine at_iload dx_126_4 rfl ?_
    refine at_iload dx_126_5 rfl ?_
    refine at_callVI dx_126_6 rfl lc_856 rfl (m_isPlace rc rf) ?_
    rintro x6 M9 r6 ⟨e9, h6⟩; replace e9 := e9.symm; subst e9; replace h6 := ite01 h6
    refine at_zeqR dx_126_7 r6 (fun c7 => ?_) (fun c7 => ?_)
    · skip
      refine at_const (x := 0) dx_126_15 rfl ?_
      refine at_istore dx_126_16 ?_
      refine at_iload dx_126_17 rfl ?_
      refine at_zeqR dx_126_18 (by decide) (fun _ => ?_) (fun c => absurd c (by decide))
      refine at_aload dx_126_28 rfl ?_
      refine at_iload dx_126_29 rfl ?_
      refine at_zneR dx_126_30 (by decide) (fun c => absurd c (by decide)) (fun _ => ?_)
      refine at_const (x := 1) dx_126_31 rfl ?_
      refine at_goto dx_126_32 ?_
      refine at_callVI dx_126_45 rfl lc_856 rfl (m_fails2 (by decide)) ?_
      rintro x45 M45 r45 ⟨f45, h45⟩; replace h45 := ite01 h45
      replace F : frE wE M _ := fe_tr F (fe_le f45 (fun q j h => by obtain ⟨rfl, rfl⟩ := h; exact wE_31))
      obtain rfl : x45 = 1 := by omega
      refine at_zeqR dx_126_46 (by decide) (fun c => absurd c (by decide)) (fun _ => ?_)
      refine at_const (x := 0) dx_126_47 rfl ?_
      refine at_iretI dx_126_48 (by decide) ?_
      first
      | exact OM_out hM (by omega) F1 hDW hSM h2D hCS f40 f45 (hcan.mp (by omega)) k1 k2 k3 k4 k5
      | exact OM_no (by omega) (MI_wE hM F) F hCS (fun e => absurd (hcan.mpr e) (by omega))
      | exact OM_nil (MI_wE hM F) F (fun c0 c1 => by show cIf _ _ = []; exact cIf_f (fun hh => by have := hdl c0 c1; omega))
    · skip
      refine at_aload dx_126_8 rfl ?_
      refine at_iload dx_126_9 rfl ?_
      refine at_iload dx_126_10 rfl ?_
      refine at_callVI dx_126_11 rfl lc_856 rfl (m_isPlace rc rt) ?_
      rintro x11 M9 r11 ⟨e9, h11⟩; replace e9 := e9.symm; subst e9; replace h11 := ite01 h11
      refine at_zeqR dx_126_12 r11 (fun c12 => ?_) (fun c12 => ?_)
      · skip
        refine at_const (x := 0) dx_126_15 rfl ?_
        refine at_istore dx_126_16 ?_
        refine at_iload dx_126_17 rfl ?_
        refine at_zeqR dx_126_18 (by decide) (fun _ => ?_) (fun c => absurd c (by decide))
        refine at_aload dx_126_28 rfl ?_
        refine at_iload dx_126_29 rfl ?_
        refine at_zneR dx_126_30 (by decide) (fun c => absurd c (by decide)) (fun _ => ?_)
        refine at_const (x := 1) dx_126_31 rfl ?_
        refine at_goto dx_126_32 ?_
        refine at_callVI dx_126_45 rfl lc_856 rfl (m_fails2 (by decide)) ?_
        rintro x45 M45 r45 ⟨f45, h45⟩; replace h45 := ite01 h45
        replace F : frE wE M _ := fe_tr F (fe_le f45 (fun q j h => by obtain ⟨rfl, rfl⟩ := h; exact wE_31))
        obtain rfl : x45 = 1 := by omega
        refine at_zeqR dx_126_46 (by decide) (fun c => absurd c (by decide)) (fun _ => ?_)
        refine at_const (x := 0) dx_126_47 rfl ?_
        refine at_iretI dx_126_48 (by decide) ?_
        first
        | exact OM_out hM (by omega) F1 hDW hSM h2D hCS f40 f45 (hcan.mp (by omega)) k1 k2 k3 k4 k5
        | exact OM_no (by omega) (MI_wE hM F) F hCS (fun e => absurd (hcan.mpr e) (by omega))
        | exact OM_nil (MI_wE hM F) F (fun c0 c1 => by show cIf _ _ = []; exact cIf_f (fun hh => by have := hdl c0 c1; omega))
      · skip
        refine at_const (x := 1) dx_126_13 rfl ?_
        refine at_goto dx_126_14 ?_
        refine at_istore dx_126_16 ?_
        refine at_iload dx_126_17 rfl ?_
        refine at_zeqR dx_126_18 (by decide) (fun c => absurd c (by decide)) (fun _ => ?_)
        refine at_iload dx_126_19 rfl ?_
        refine at_iload dx_126_20 rfl ?_
        refine at_cleR dx_126_21 rt rf (fun c21 => ?_) (fun c21 => ?_)
        · skip
          refine at_aload dx_126_28 rfl ?_
          refine at_iload dx_126_29 rfl ?_
          refine at_zneR dx_126_30 (by decide) (fun _ => ?_) (fun c => absurd c (by decide))
          refine at_iload dx_126_33 rfl ?_
          refine at_iload dx_126_34 rfl ?_
          refine at_cgtR dx_126_35 rt rf (fun c35 => ?_) (fun c35 => ?_)
          · skip
            refine at_aload dx_126_38 rfl ?_
            refine at_iload dx_126_39 rfl ?_
            exfalso; omega
          · skip
            refine at_const (x := 2) dx_126_36 rfl ?_
            refine at_goto dx_126_37 ?_
            refine at_callVI dx_126_45 rfl lc_856 rfl (m_fails2 (by decide)) ?_
            rintro x45 M45 r45 ⟨f45, h45⟩; replace h45 := ite01 h45
            replace F : frE wE M _ := fe_tr F (fe_le f45 (fun q j h => by obtain ⟨rfl, rfl⟩ := h; exact wE_31))
            obtain rfl : x45 = 1 := by omega
            refine at_zeqR dx_126_46 (by decide) (fun c => absurd c (by decide)) (fun _ => ?_)
            refine at_const (x := 0) dx_126_47 rfl ?_
            refine at_iretI dx_126_48 (by decide) ?_
            first
            | exact OM_out hM (by omega) F1 hDW hSM h2D hCS f40 f45 (hcan.mp (by omega)) k1 k2 k3 k4 k5
            | exact OM_no (by omega) (MI_wE hM F) F hCS (fun e => absurd (hcan.mpr e) (by omega))
            | exact OM_nil (MI_wE hM F) F (fun c0 c1 => by show cIf _ _ = []; exact cIf_f (fun hh => by have := hdl c0 c1; omega))
        · skip
          refine at_aload dx_126_22 rfl ?_
          refine at_iload dx_126_23 rfl ?_
          refine at_iload dx_126_24 rfl ?_
          refine at_iload dx_126_25 rfl ?_
          refine at_subR dx_126_26 (by constructor <;> omega) (fun r26 => ?_)
          refine at_callVV dx_126_27 rfl lc_856 rfl (x_tries rf r26) ?_
          rintro M27 ⟨f27, d27⟩
          replace F : frE wE M _ := fe_tr F f27
          refine at_aload dx_126_28 rfl ?_
          refine at_iload dx_126_29 rfl ?_
          refine at_zneR dx_126_30 (by decide) (fun _ => ?_) (fun c => absurd c (by decide))
          refine at_iload dx_126_33 rfl ?_
          refine at_iload dx_126_34 rfl ?_
          refine at_cgtR dx_126_35 rt rf (fun c35 => ?_) (fun c35 => ?_)
          · skip
            refine at_aload dx_126_38 rfl ?_
            refine at_iload dx_126_39 rfl ?_
            refine at_callVI dx_126_40 rfl lc_856 rfl (x_canEdit2 rc (by omega) (MI_wE hM F) (okX100.mpr (by obtain ⟨y1, y2, y3, y4, y5, y6⟩ := d27; have y7 := (wE_c F).1 c; simp only [List.length_append, List.length_cons, List.length_nil] at y5; omega)) (by rw [(wE_c F).2.2.2.1, (wE_c F).2.2.2.2]; exact hG)) ?_
            rintro x40 M40 r40 ⟨f40, b40, hrd, hcn⟩
            have F1 := F
            have hDW : cWD (mv M27 100) (0, ([f, t - f], [])) := RS1_D d27 (Nat.le_of_ble_eq_true rfl)
            have hSM : smD (0, ([f, t - f], [])) := ⟨by have := hS (by omega) (by omega); omega, by have := hS (by omega) (by omega); omega, Nat.le_of_ble_eq_true rfl⟩
            have hCS : (csErase f t) (dc M c) (cpM M c) = [(0, ([f, t - f], []))] := by show cIf _ _ = _; exact cIf_t (by have := hdl (by omega) (by omega); omega)
            have h2D : ((0, ([f, t - f], [])) : gD).1 ≠ 2 := by show ¬ ((0 : Nat) = 2); decide
            have hcan := can_iff hM (by omega) F1 hDW hSM h2D hcn
            replace F : frE wE M _ := fe_tr F (fe_le f40 (fun q j h => wE_C h))
            refine at_zeqR dx_126_41 r40 (fun c41 => ?_) (fun c41 => ?_)
            · skip
              refine at_const (x := 3) dx_126_44 rfl ?_
              refine at_callVI dx_126_45 rfl lc_856 rfl (m_fails2 (by decide)) ?_
              rintro x45 M45 r45 ⟨f45, h45⟩; replace h45 := ite01 h45
              replace F : frE wE M _ := fe_tr F (fe_le f45 (fun q j h => by obtain ⟨rfl, rfl⟩ := h; exact wE_31))
              obtain rfl : x45 = 1 := by omega
              refine at_zeqR dx_126_46 (by decide) (fun c => absurd c (by decide)) (fun _ => ?_)
              refine at_const (x := 0) dx_126_47 rfl ?_
              refine at_iretI dx_126_48 (by decide) ?_
              first
              | exact OM_out hM (by omega) F1 hDW hSM h2D hCS f40 f45 (hcan.mp (by omega)) k1 k2 k3 k4 k5
              | exact OM_no (by omega) (MI_wE hM F) F hCS (fun e => absurd (hcan.mpr e) (by omega))
              | exact OM_nil (MI_wE hM F) F (fun c0 c1 => by show cIf _ _ = []; exact cIf_f (fun hh => by have := hdl c0 c1; omega))
            · skip
              refine at_const (x := 0) dx_126_42 rfl ?_
              refine at_goto dx_126_43 ?_
              refine at_callVI dx_126_45 rfl lc_856 rfl (m_fails2 (by decide)) ?_
              rintro x45 M45 r45 ⟨f45, h45⟩; replace h45 := ite01 h45
              replace F : frE wE M _ := fe_tr F (fe_le f45 (fun q j h => by obtain ⟨rfl, rfl⟩ := h; exact wE_31))
              obtain rfl : x45 = 0 := by omega
              refine at_zeqR dx_126_46 (by decide) (fun _ => ?_) (fun c => absurd c (by decide))
              refine at_aload dx_126_49 rfl ?_
              refine at_iload dx_126_50 rfl ?_
              refine at_callVV dx_126_51 rfl lc_856 rfl (x_edits2 rc (by omega) (MI_wE hM F) (ready_fe (hrd (by omega)) (by omega) (by have := (wE_c F1).1 c; have := hM.1 c (by omega) (by omega); first | omega | (rw [f40 860 c (by omega)]; omega)) f45 (fun q j h => Or.inl ⟨h.1, by rw [h.2]; decide⟩))) ?_
              rintro M51 ⟨k1, k2, k3, k4, k5⟩
              refine at_aload dx_126_52 rfl ?_
              refine at_getR dx_126_53 lc_856 rfl lt_856_3 ?_
              refine at_iload dx_126_54 rfl ?_
              refine at_aldI dx_126_55 lc_860 ln_860 (by first | omega | (simp (disch := omega) only [um_eq, um_k, um_j]; omega)) (by first | omega | (simp (disch := omega) only [um_eq, um_k, um_j]; omega)) (fun r55 => ?_)
              refine at_iretI dx_126_56 r55 ?_
              first
              | exact OM_out hM (by omega) F1 hDW hSM h2D hCS f40 f45 (hcan.mp (by omega)) k1 k2 k3 k4 k5
              | exact OM_no (by omega) (MI_wE hM F) F hCS (fun e => absurd (hcan.mpr e) (by omega))
              | exact OM_nil (MI_wE hM F) F (fun c0 c1 => by show cIf _ _ = []; exact cIf_f (fun hh => by have := hdl c0 c1; omega))
          · skip
            refine at_const (x := 2) dx_126_36 rfl ?_
            refine at_goto dx_126_37 ?_
            refine at_callVI dx_126_45 rfl lc_856 rfl (m_fails2 (by decide)) ?_
            rintro x45 M45 r45 ⟨f45, h45⟩; replace h45 := ite01 h45
            replace F : frE wE M _ := fe_tr F (fe_le f45 (fun q j h => by obtain ⟨rfl, rfl⟩ := h; exact wE_31))
            obtain rfl : x45 = 1 := by omega
            refine at_zeqR dx_126_46 (by decide) (fun c => absurd c (by decide)) (fun _ => ?_)
            refine at_const (x := 0) dx_126_47 rfl ?_
            refine at_iretI dx_126_48 (by decide) ?_
            first
            | exact OM_out hM (by omega) F1 hDW hSM h2D hCS f40 f45 (hcan.mp (by omega)) k1 k2 k3 k4 k5
            | exact OM_no (by omega) (MI_wE hM F) F hCS (fun e => absurd (hcan.mpr e) (by omega))
            | exact OM_nil (MI_wE hM F) F (fun c0 c1 => by show cIf _ _ = []; exact cIf_f (fun hh => by have := hdl c0 c1; omega))
