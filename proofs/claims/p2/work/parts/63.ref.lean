/-! ===== nodes around and closed, of the reference; more of its edits ===== -/
noncomputable def stkB (M : mem) : Nat → List Int
  | 0 => []
  | d + 1 => M 881 ((d : Int) + 1) :: stkB M d
theorem stkB_len {M : mem} (d : Nat) : (stkB M d).length = d := by
  induction d with
  | zero => rfl
  | succ d ih => show (stkB M d).length + 1 = d + 1; rw [ih]
theorem stkB_cg {M M' : mem} {d : Nat} (h : ∀ j : Int, 1 ≤ j → j ≤ d → M' 881 j = M 881 j) : stkB M' d = stkB M d := by
  induction d with
  | zero => rfl
  | succ d ih =>
    show M' 881 ((d : Int) + 1) :: stkB M' d = M 881 ((d : Int) + 1) :: stkB M d
    rw [h _ (by omega) (by omega), ih (fun j h0 h1 => h j h0 (by omega))]
theorem stkB_push {M : mem} {d x : Int} (hd : 0 ≤ d) : stkB (um M 881 (d + 1) x) (d + 1).toNat = x :: stkB M d.toNat := by
  rw [show (d + 1).toNat = d.toNat + 1 by omega]
  show (um M 881 (d + 1) x) 881 (((d.toNat : Nat) : Int) + 1) :: stkB (um M 881 (d + 1) x) d.toNat = _
  rw [Int.toNat_of_nonneg hd, um_eq, stkB_cg (fun j h0 h1 => um_j (by omega))]
theorem stkB_pop {M : mem} {d : Int} (hd : 0 < d) : stkB M d.toNat = M 881 d :: stkB M (d - 1).toNat := by
  rw [show d.toNat = (d - 1).toNat + 1 by omega]
  show M 881 ((((d - 1).toNat : Nat) : Int) + 1) :: _ = _
  rw [Int.toNat_of_nonneg (by omega), show d - 1 + 1 = d by omega]
theorem dcc_dch (t : Int) : dcc t = dch t := rfl
theorem hat_of {M : mem} {c : Int} (hl : 0 ≤ M 860 c) (q : Int) : (0 ≤ q ∧ q < M 860 c ∧ atL (dc M c) q = M 859 (60 * c + q)) ∨ ((q < 0 ∨ M 860 c ≤ q) ∧ atL (dc M c) q = -1) := by
  by_cases h : 0 ≤ q ∧ q < M 860 c
  · refine Or.inl ⟨h.1, h.2, ?_⟩
    have h9 := dc_at (M := M) (d := c) (j := q.toNat) (by omega)
    rw [Int.toNat_of_nonneg h.1] at h9
    rw [atL_get h.1 (by rw [dc_len]; omega), h9]
  · refine Or.inr ⟨by omega, ?_⟩
    unfold atL
    by_cases h0 : 0 ≤ q
    · rw [if_pos h0, List.getD_eq_getElem?_getD, List.getElem?_eq_none (by rw [dc_len]; omega)]
      rfl
    · rw [if_neg h0]
abbrev RS2 (M : mem) (s0 t0 p0 s1 t1 p1 : Int) (P : List Int) : Prop := M 861 100 = 0 ∧ M 864 100 = 2 ∧ (M 865 200 = s0 ∧ M 865 201 = s1) ∧ (M 866 200 = t0 ∧ M 866 201 = t1) ∧ (M 867 200 = p0 ∧ M 867 201 = p1 ∧ p0 + p1 = (P.length : Int)) ∧ ∀ j : Nat, j < P.length → j < 60 → M 869 (6000 + (j : Int)) = P.getD j 0
theorem RS2_D {M : mem} {s0 t0 p0 s1 t1 p1 : Int} {P : List Int} (h : RS2 M s0 t0 p0 s1 t1 p1 P) (hP : P.length ≤ 60) : cWD (mv M 100) (1, ([s0, t0, p0, s1, t1, p1], P)) := by
  obtain ⟨h1, h2, h3, h4, h5, h6⟩ := h
  have hR := mv_R h6 hP
  refine ⟨M 862 100, M 863 100, (mv M 100).2, ?_, hR⟩
  unfold mv
  dsimp only
  rw [h1, h2, show (2 * 100 : Int) = 200 from rfl, show (200 + 1 : Int) = 201 from rfl, h3.1, h3.2, h4.1, h4.2, h5.1, h5.2.1]
theorem x_addsW {X : scr} {M : mem} {t r s0 t0 p0 s1 t1 p1 : Int} {P : List Int} (rt : inR t) (hr : r = 0 ∨ r = 1) (h : RS2 M s0 t0 p0 s1 t1 p1 P) (hb : (0 ≤ p0 ∧ p0 ≤ 20) ∧ 0 ≤ p1 ∧ p1 ≤ 20) : At X 0 106 0 [vr 856, vi 100, vi r, vi t] [] M (qV (fun M' => frE wE M M' ∧ RS2 M' s0 t0 (if r = 0 then p0 + 1 else p0) s1 t1 (if r = 0 then p1 else p1 + 1) (P ++ [t]))) := At.mono (m_adds (s := 100) (r := r) (by decide) (by rcases hr with rfl | rfl <;> decide) rt (by decide) (by omega) (by obtain ⟨h1, h2, h3, h4, h5, h6⟩ := h; simp only [show (2 * 100 : Int) = 200 from rfl, show (200 + 1 : Int) = 201 from rfl]; omega)) (fun x v M1 h9 => by
  obtain ⟨h1, h2, h3, h4, h5, h6⟩ := h
  obtain ⟨q0, q1, e⟩ := h9
  have e : M1 = um (if M 867 200 + M 867 201 < 60 then um M 869 (6000 + (M 867 200 + M 867 201)) t else M) 867 (200 + r) (((if M 867 200 + M 867 201 < 60 then um M 869 (6000 + (M 867 200 + M 867 201)) t else M)) 867 (200 + r) + 1) := by
    rw [e]
    refine congrArg (fun z => um _ 867 (200 + r) z) ?_
    split <;> rfl
  refine ⟨q0, q1, ?_⟩
  have hl : (P ++ [t]).length = P.length + 1 := by rw [List.length_append]; rfl
  have hg : ∀ j : Nat, j < P.length → (P ++ [t]).getD j 0 = P.getD j 0 := fun j hj => by rw [List.getD_eq_getElem?_getD, List.getD_eq_getElem?_getD, List.getElem?_append_left hj]
  have ht : (P ++ [t]).getD P.length 0 = t := by rw [List.getD_eq_getElem?_getD, List.getElem?_append_right (Nat.le_refl _), Nat.sub_self]; rfl
  rw [h5.1, h5.2.1, if_pos (by omega)] at e
  rw [e]
  refine ⟨fe_ums (fe_um (wE_T (Or.inr (Or.inr (Or.inr ⟨rfl, by omega⟩))))) (wE_T (Or.inr (Or.inl ⟨by decide, by omega⟩))), ?_, ?_, ⟨?_, ?_⟩, ⟨?_, ?_⟩, ⟨?_, ?_, ?_⟩, fun j hj h60 => ?_⟩
  · rw [um_k (by decide), um_k (by decide)]; exact h1
  · rw [um_k (by decide), um_k (by decide)]; exact h2
  · rw [um_k (by decide), um_k (by decide)]; exact h3.1
  · rw [um_k (by decide), um_k (by decide)]; exact h3.2
  · rw [um_k (by decide), um_k (by decide)]; exact h4.1
  · rw [um_k (by decide), um_k (by decide)]; exact h4.2
  · rcases hr with rfl | rfl
    · rw [if_pos rfl, show (200 + 0 : Int) = 200 from rfl, um_eq, um_k (by decide), h5.1]
    · rw [if_neg (by decide), show (200 + 1 : Int) = 201 from rfl, um_j (by decide), um_k (by decide), h5.1]
  · rcases hr with rfl | rfl
    · rw [if_pos rfl, show (200 + 0 : Int) = 200 from rfl, um_j (by decide), um_k (by decide), h5.2.1]
    · rw [if_neg (by decide), show (200 + 1 : Int) = 201 from rfl, um_eq, um_k (by decide), h5.2.1]
  · rw [hl]
    rcases hr with rfl | rfl
    · rw [if_pos rfl, if_pos rfl]; omega
    · rw [if_neg (by decide), if_neg (by decide)]; omega
  · rw [um_k (by decide), h5.2.2]
    by_cases ej : j = P.length
    · subst ej; rw [um_eq, ht]
    · rw [um_j (by omega), hg j (by omega)]; exact h6 j (by omega) h60)

set_option maxRecDepth 100000 in
set_option maxHeartbeats 4000000 in
theorem x_depthAt {X : scr} {M : mem} {d p : Int} (rd : inR d) (rp : inR p) (hd : 0 ≤ d ∧ d ≤ 3) (hl : 0 ≤ M 860 d ∧ M 860 d ≤ 60) (hp : 0 ≤ p ∧ p ≤ M 860 d) (hB : Bal (dc M d)) : At X 0 127 0 [vr 856, vi d, vi p] [] M (qI (fun x M' => frE (fun q j => q = 881) M M' ∧ (0 ≤ x ∧ x ≤ 60) ∧ (∀ j : Int, 0 ≤ j → j ≤ x → 0 ≤ M' 881 j ∧ M' 881 j ≤ 5) ∧ M' 881 0 = 0 ∧ stkB M' x.toNat = opn ((dc M d).take p.toNat))) := by
  have lp : ∀ (n : Nat) (x k : Int) (M1 : mem) (rx : inR x) (rk : inR k) (hk : 0 ≤ k ∧ k ≤ p) (hn : (p - k).toNat = n) (F : frE (fun q j => q = 881) M M1) (w1 : x = dsm (dc M d) k.toNat) (ho : ∀ j : Int, 0 ≤ j → j ≤ x → 0 ≤ M1 881 j ∧ M1 881 j ≤ 5) (h00 : M1 881 0 = 0) (hv : opn ((dc M d).take k.toNat) = stkB M1 x.toNat), At X 0 127 9 [vr 856, vi d, vi p, vi x, vi k] [] M1 (qI (fun x M' => frE (fun q j => q = 881) M M' ∧ (0 ≤ x ∧ x ≤ 60) ∧ (∀ j : Int, 0 ≤ j → j ≤ x → 0 ≤ M' 881 j ∧ M' 881 j ≤ 5) ∧ M' 881 0 = 0 ∧ stkB M' x.toNat = opn ((dc M d).take p.toNat))) := by
    intro n
    induction n using Nat.strongRecOn with
    | ind n ih =>
    intro x k M1 rx rk hk hn F w1 ho h00 hv
    have hst : k < p → opn ((dc M d).take (k + 1).toNat) = ops (stkB M1 x.toNat) (M 859 (60 * d + k)) := fun hh => by
      have h9 := dc_at (M := M) (d := d) (j := k.toNat) (by omega)
      rw [Int.toNat_of_nonneg hk.1] at h9
      rw [show (k + 1).toNat = k.toNat + 1 by omega, opn_take (by rw [dc_len]; omega), hv, h9]
    have eD : M1 859 (60 * d + k) = M 859 (60 * d + k) := F 859 _ (by (try dsimp only [stE]); first | done | omega)
    have hx0 : 0 ≤ x := by rw [w1]; exact hB.1 _ (by rw [dc_len]; omega)
    have hx1 : x ≤ k := by have := dsm_le (dc M d) k.toNat; omega
    have hs : k < p → dsm (dc M d) (k + 1).toNat = x + dch (M 859 (60 * d + k)) := fun hh => by
      have h9 := dc_at (M := M) (d := d) (j := k.toNat) (by omega)
      rw [Int.toNat_of_nonneg hk.1] at h9
      rw [show (k + 1).toNat = k.toNat + 1 by omega, dsm_step, h9, ← w1]
    have hs0 : k < p → 0 ≤ dsm (dc M d) (k + 1).toNat := fun hh => hB.1 _ (by rw [dc_len]; omega)
    refine at_iload dx_127_9 rfl ?_
    refine at_iload dx_127_10 rfl ?_
    refine at_cgeR dx_127_11 rk rp (fun c11 => ?_) (fun c11 => ?_)
    · skip
      refine at_iload dx_127_36 rfl ?_
      refine at_iretI dx_127_37 rx ?_
      have hkp : k = p := by omega
      subst hkp
      exact ⟨F, by omega, ho, h00, hv.symm⟩
    · skip
      refine at_aload dx_127_12 rfl ?_
      refine at_getR dx_127_13 lc_856 rfl lt_856_2 ?_
      refine at_const (x := 60) dx_127_14 rfl ?_
      refine at_iload dx_127_15 rfl ?_
      refine at_mulR dx_127_16 (by constructor <;> omega) (fun r16 => ?_)
      refine at_iload dx_127_17 rfl ?_
      refine at_addR dx_127_18 (by constructor <;> omega) (fun r18 => ?_)
      refine at_aldI dx_127_19 lc_859 ln_859 (by first | omega | (simp (disch := omega) only [um_eq, um_k, um_j]; omega)) (by first | omega | (simp (disch := omega) only [um_eq, um_k, um_j]; omega)) (fun r19 => ?_)
      refine at_istore dx_127_20 ?_
      refine at_iload dx_127_21 rfl ?_
      refine at_zneR dx_127_22 r19 (fun c22 => ?_) (fun c22 => ?_)
      · skip
        refine at_iload dx_127_25 rfl ?_
        refine at_callSI dx_127_26 rfl rfl (m_opens r19) ?_
        rintro x26 M9 r26 ⟨e9, h26⟩; replace e9 := e9.symm; subst e9
        refine at_zeqR dx_127_27 r26 (fun c27 => ?_) (fun c27 => ?_)
        · skip
          refine at_iincR (y := 1) dx_127_34 rfl rfl (by constructor <;> omega) (fun r34 => ?_)
          refine at_goto dx_127_35 ?_
          refine at_wk (ls := [vr 856, vi _, vi _, vi _, vi _]) ⟨Or.inl rfl, Or.inl rfl, Or.inl rfl, Or.inl rfl, Or.inl rfl, trivial⟩ ?_
          have hq := hs (by omega)
          have hq0 := hs0 (by omega)
          first
          | (exfalso; omega)
          | (have hz : dch (M 859 (60 * d + k)) = -1 := by unfold dch; rw [if_pos (by omega)]
             rw [hz] at hq
             exact ih _ (by omega) _ _ _ r23 r34 (by omega) rfl F hq.symm (fun j h1 h2 => ho j h1 (by omega)) h00 (by rw [hst (by omega)]; unfold ops; rw [if_neg (by omega), if_pos (by omega), stkB_pop (by omega)]; show stkB M1 (x - 1).toNat = stkB M1 (x + -1).toNat; rw [show x + -1 = x - 1 by omega]))
          | (have hn5 : ¬ (1 ≤ M 859 (60 * d + k) ∧ M 859 (60 * d + k) ≤ 5) := fun hh => by rw [if_pos (by omega)] at h26; omega
             have hz : dch (M 859 (60 * d + k)) = 0 := by unfold dch; rw [if_neg (by omega), if_neg hn5]
             rw [hz, Int.add_zero] at hq
             exact ih _ (by omega) _ _ _ rx r34 (by omega) rfl F hq.symm ho h00 (by rw [hst (by omega)]; unfold ops; rw [if_neg hn5, if_neg (by omega)]))
          | (have hy5 : 1 ≤ M 859 (60 * d + k) ∧ M 859 (60 * d + k) ≤ 5 := by split at h26 <;> omega
             have hz : dch (M 859 (60 * d + k)) = 1 := by unfold dch; rw [if_neg (by omega), if_pos hy5]
             rw [hz] at hq
             refine ih _ (by omega) _ _ _ r28 r34 (by omega) rfl (fe_ums F rfl) hq.symm (fun j h1 h2 => ?_) (by rw [um_j (by omega)]; exact h00) (by rw [hst (by omega), ← eD, stkB_push hx0]; unfold ops; rw [if_pos (by rw [eD]; exact hy5)])
             by_cases ej : j = x + 1
             · subst ej; rw [um_eq]; omega
             · rw [um_j ej]; exact ho j h1 (by omega))
        · skip
          refine at_iincR (y := 1) dx_127_28 rfl rfl (by constructor <;> omega) (fun r28 => ?_)
          refine at_aload dx_127_29 rfl ?_
          refine at_getR dx_127_30 lc_856 rfl lt_856_29 ?_
          refine at_iload dx_127_31 rfl ?_
          refine at_iload dx_127_32 rfl ?_
          refine at_astI dx_127_33 lc_881 ln_881 (by first | omega | (simp (disch := omega) only [um_eq, um_k, um_j]; omega)) (by first | omega | (simp (disch := omega) only [um_eq, um_k, um_j]; omega)) r19 ?_
          refine at_iincR (y := 1) dx_127_34 rfl rfl (by constructor <;> omega) (fun r34 => ?_)
          refine at_goto dx_127_35 ?_
          refine at_wk (ls := [vr 856, vi _, vi _, vi _, vi _]) ⟨Or.inl rfl, Or.inl rfl, Or.inl rfl, Or.inl rfl, Or.inl rfl, trivial⟩ ?_
          have hq := hs (by omega)
          have hq0 := hs0 (by omega)
          first
          | (exfalso; omega)
          | (have hz : dch (M 859 (60 * d + k)) = -1 := by unfold dch; rw [if_pos (by omega)]
             rw [hz] at hq
             exact ih _ (by omega) _ _ _ r23 r34 (by omega) rfl F hq.symm (fun j h1 h2 => ho j h1 (by omega)) h00 (by rw [hst (by omega)]; unfold ops; rw [if_neg (by omega), if_pos (by omega), stkB_pop (by omega)]; show stkB M1 (x - 1).toNat = stkB M1 (x + -1).toNat; rw [show x + -1 = x - 1 by omega]))
          | (have hn5 : ¬ (1 ≤ M 859 (60 * d + k) ∧ M 859 (60 * d + k) ≤ 5) := fun hh => by rw [if_pos (by omega)] at h26; omega
             have hz : dch (M 859 (60 * d + k)) = 0 := by unfold dch; rw [if_neg (by omega), if_neg hn5]
             rw [hz, Int.add_zero] at hq
             exact ih _ (by omega) _ _ _ rx r34 (by omega) rfl F hq.symm ho h00 (by rw [hst (by omega)]; unfold ops; rw [if_neg hn5, if_neg (by omega)]))
          | (have hy5 : 1 ≤ M 859 (60 * d + k) ∧ M 859 (60 * d + k) ≤ 5 := by split at h26 <;> omega
             have hz : dch (M 859 (60 * d + k)) = 1 := by unfold dch; rw [if_neg (by omega), if_pos hy5]
             rw [hz] at hq
             refine ih _ (by omega) _ _ _ r28 r34 (by omega) rfl (fe_ums F rfl) hq.symm (fun j h1 h2 => ?_) (by rw [um_j (by omega)]; exact h00) (by rw [hst (by omega), ← eD, stkB_push hx0]; unfold ops; rw [if_pos (by rw [eD]; exact hy5)])
             by_cases ej : j = x + 1
             · subst ej; rw [um_eq]; omega
             · rw [um_j ej]; exact ho j h1 (by omega))
      · skip
        refine at_iincR (y := -1) dx_127_23 rfl rfl (by constructor <;> omega) (fun r23 => ?_)
        refine at_goto dx_127_24 ?_
        refine at_iincR (y := 1) dx_127_34 rfl rfl (by constructor <;> omega) (fun r34 => ?_)
        refine at_goto dx_127_35 ?_
        refine at_wk (ls := [vr 856, vi _, vi _, vi _, vi _]) ⟨Or.inl rfl, Or.inl rfl, Or.inl rfl, Or.inl rfl, Or.inl rfl, trivial⟩ ?_
        have hq := hs (by omega)
        have hq0 := hs0 (by omega)
        first
        | (exfalso; omega)
        | (have hz : dch (M 859 (60 * d + k)) = -1 := by unfold dch; rw [if_pos (by omega)]
           rw [hz] at hq
           exact ih _ (by omega) _ _ _ r23 r34 (by omega) rfl F hq.symm (fun j h1 h2 => ho j h1 (by omega)) h00 (by rw [hst (by omega)]; unfold ops; rw [if_neg (by omega), if_pos (by omega), stkB_pop (by omega)]; show stkB M1 (x - 1).toNat = stkB M1 (x + -1).toNat; rw [show x + -1 = x - 1 by omega]))
        | (have hn5 : ¬ (1 ≤ M 859 (60 * d + k) ∧ M 859 (60 * d + k) ≤ 5) := fun hh => by rw [if_pos (by omega)] at h26; omega
           have hz : dch (M 859 (60 * d + k)) = 0 := by unfold dch; rw [if_neg (by omega), if_neg hn5]
           rw [hz, Int.add_zero] at hq
           exact ih _ (by omega) _ _ _ rx r34 (by omega) rfl F hq.symm ho h00 (by rw [hst (by omega)]; unfold ops; rw [if_neg hn5, if_neg (by omega)]))
        | (have hy5 : 1 ≤ M 859 (60 * d + k) ∧ M 859 (60 * d + k) ≤ 5 := by split at h26 <;> omega
           have hz : dch (M 859 (60 * d + k)) = 1 := by unfold dch; rw [if_neg (by omega), if_pos hy5]
           rw [hz] at hq
           refine ih _ (by omega) _ _ _ r28 r34 (by omega) rfl (fe_ums F rfl) hq.symm (fun j h1 h2 => ?_) (by rw [um_j (by omega)]; exact h00) (by rw [hst (by omega), ← eD, stkB_push hx0]; unfold ops; rw [if_pos (by rw [eD]; exact hy5)])
           by_cases ej : j = x + 1
           · subst ej; rw [um_eq]; omega
           · rw [um_j ej]; exact ho j h1 (by omega))
  refine at_const (x := 0) dx_127_0 rfl ?_
  refine at_istore dx_127_1 ?_
  refine at_aload dx_127_2 rfl ?_
  refine at_getR dx_127_3 lc_856 rfl lt_856_29 ?_
  refine at_const (x := 0) dx_127_4 rfl ?_
  refine at_const (x := 0) dx_127_5 rfl ?_
  refine at_astI dx_127_6 lc_881 ln_881 (by decide) (by decide) (by decide) ?_
  refine at_const (x := 0) dx_127_7 rfl ?_
  refine at_istore dx_127_8 ?_
  exact lp _ 0 0 _ (by decide) (by decide) (by omega) rfl (by (repeat (first | exact fe_rf | refine fe_ums ?_ (by (try dsimp only); first | done | omega)))) rfl (fun j h1 h2 => by rw [show j = 0 by omega, um_eq]; decide) (by rw [um_eq]) rfl

set_option maxRecDepth 100000 in
set_option maxHeartbeats 4000000 in
theorem x_closing {X : scr} {M : mem} {d p : Int} (rd : inR d) (rp : inR p) (hd : 0 ≤ d ∧ d ≤ 3) (hl : 0 ≤ M 860 d ∧ M 860 d ≤ 60) (hp : 0 ≤ p ∧ p < M 860 d) (ho : 1 ≤ M 859 (60 * d + p) ∧ M 859 (60 * d + p) ≤ 5) (hB : Bal (dc M d)) : At X 0 133 0 [vr 856, vi d, vi p] [] M (qI (fun x M' => M' = M ∧ x = fcl ((dc M d).drop p.toNat) 0 p ∧ p < x ∧ x < M 860 d)) := by
  have hdl : ((dc M d).length : Int) = M 860 d := by rw [dc_len]; omega
  have lp : ∀ (n : Nat) (x k : Int) (rx : inR x) (rk : inR k) (hk : p ≤ k ∧ k < M 860 d) (hx : 0 ≤ x ∧ x ≤ 100) (hpk : p = k → x = 1) (hn : (M 860 d - k).toNat = n) (w1 : x = dsm (dc M d) (k + 1).toNat - dsm (dc M d) p.toNat) (hv : (0 < x → fcl ((dc M d).drop (k + 1).toNat) x (k + 1) = fcl ((dc M d).drop p.toNat) 0 p) ∧ (x = 0 → k = fcl ((dc M d).drop p.toNat) 0 p)), At X 0 133 4 [vr 856, vi d, vi p, vi x, vi k] [] M (qI (fun x M' => M' = M ∧ x = fcl ((dc M d).drop p.toNat) 0 p ∧ p < x ∧ x < M 860 d)) := by
    intro n
    induction n using Nat.strongRecOn with
    | ind n ih =>
    intro x k rx rk hk hx hpk hn w1 hv
    have hend : 0 < x → k + 1 < M 860 d := fun h0 => by
      by_cases e : k + 1 < M 860 d
      · exact e
      · exfalso
        have e2 : (k + 1).toNat = (dc M d).length := by omega
        rw [e2, hB.2] at w1
        have := hB.1 p.toNat (by omega)
        omega
    have hs : 0 < x → dsm (dc M d) (k + 1 + 1).toNat = dsm (dc M d) (k + 1).toNat + dch (M 859 (60 * d + (k + 1))) := fun hh => by
      have h8 := hend hh
      have h9 := dc_at (M := M) (d := d) (j := (k + 1).toNat) (by omega)
      rw [Int.toNat_of_nonneg (by omega)] at h9
      rw [show (k + 1 + 1).toNat = (k + 1).toNat + 1 by omega, dsm_step, h9]
    have hbnd : 0 < x → dsm (dc M d) (k + 1 + 1).toNat ≤ 61 ∧ 0 ≤ dsm (dc M d) p.toNat := fun hh => ⟨by have := dsm_le (dc M d) (k + 1 + 1).toNat; have := hend hh; omega, hB.1 _ (by omega)⟩
    refine at_iload dx_133_4 rfl ?_
    refine at_zleR dx_133_5 rx (fun c5 => ?_) (fun c5 => ?_)
    · skip
      refine at_iload dx_133_26 rfl ?_
      refine at_iretI dx_133_27 rk ?_
      exact ⟨rfl, hv.2 (by omega), by by_cases e : p = k; (have := hpk e; omega); omega, hk.2⟩
    · skip
      refine at_iincR (y := 1) dx_133_6 rfl rfl (by constructor <;> omega) (fun r6 => ?_)
      have he7 := hend (by omega)
      refine at_aload dx_133_7 rfl ?_
      refine at_iload dx_133_8 rfl ?_
      refine at_iload dx_133_9 rfl ?_
      refine at_callVI dx_133_10 rfl lc_856 rfl (m_tokenOf rd r6 (by omega) (by omega)) ?_
      rintro x10 M9 r10 ⟨e9, h10⟩; replace e9 := e9.symm; subst e9
      refine at_istore dx_133_11 ?_
      refine at_iload dx_133_12 rfl ?_
      refine at_iload dx_133_13 rfl ?_
      refine at_zneR dx_133_14 r10 (fun c14 => ?_) (fun c14 => ?_)
      · skip
        refine at_iload dx_133_17 rfl ?_
        refine at_callSI dx_133_18 rfl rfl (m_opens r10) ?_
        rintro x18 M9 r18 ⟨e9, h18⟩; replace e9 := e9.symm; subst e9
        refine at_zeqR dx_133_19 r18 (fun c19 => ?_) (fun c19 => ?_)
        · skip
          refine at_const (x := 0) dx_133_22 rfl ?_
          refine at_addR dx_133_23 (by constructor <;> omega) (fun r23 => ?_)
          refine at_istore dx_133_24 ?_
          refine at_goto dx_133_25 ?_
          refine at_wk (ls := [vr 856, vi _, vi _, vi _, vi _]) ⟨Or.inl rfl, Or.inl rfl, Or.inl rfl, Or.inl rfl, Or.inl rfl, trivial⟩ ?_
          have hq := hs (by omega)
          have hb9 := hbnd (by omega)
          have he9 := hend (by omega)
          have hz : dch (M 859 (60 * d + (k + 1))) = 0 := by
            unfold dch
            first
            | (rw [if_pos (by omega)]; done)
            | (rw [if_neg (by omega), if_pos (by split at h18 <;> omega)]; done)
            | (rw [if_neg (by omega), if_neg (fun hh => by rw [if_pos (by omega)] at h18; omega)]; done)
          have h9 := dc_at (M := M) (d := d) (j := (k + 1).toNat) (by omega)
          rw [Int.toNat_of_nonneg (by omega)] at h9
          have hv1 := hv.1 (by omega)
          rw [drop_cons (i := k + 1) (by omega) (by omega), h9] at hv1
          replace hv1 : (if x + dch (M 859 (60 * d + (k + 1))) = 0 then k + 1 else fcl ((dc M d).drop (k + 1 + 1).toNat) (x + dch (M 859 (60 * d + (k + 1)))) (k + 1 + 1)) = fcl ((dc M d).drop p.toNat) 0 p := hv1
          rw [hz] at hv1
          refine ih _ (by omega) _ _ r23 r6 (by omega) (by omega) (fun e => by omega) rfl (by omega) ⟨fun e => ?_, fun e => ?_⟩
          · rw [if_neg (by omega)] at hv1; exact hv1
          · rw [if_pos (by omega)] at hv1; exact hv1
        · skip
          refine at_const (x := 1) dx_133_20 rfl ?_
          refine at_goto dx_133_21 ?_
          refine at_addR dx_133_23 (by constructor <;> omega) (fun r23 => ?_)
          refine at_istore dx_133_24 ?_
          refine at_goto dx_133_25 ?_
          refine at_wk (ls := [vr 856, vi _, vi _, vi _, vi _]) ⟨Or.inl rfl, Or.inl rfl, Or.inl rfl, Or.inl rfl, Or.inl rfl, trivial⟩ ?_
          have hq := hs (by omega)
          have hb9 := hbnd (by omega)
          have he9 := hend (by omega)
          have hz : dch (M 859 (60 * d + (k + 1))) = 1 := by
            unfold dch
            first
            | (rw [if_pos (by omega)]; done)
            | (rw [if_neg (by omega), if_pos (by split at h18 <;> omega)]; done)
            | (rw [if_neg (by omega), if_neg (fun hh => by rw [if_pos (by omega)] at h18; omega)]; done)
          have h9 := dc_at (M := M) (d := d) (j := (k + 1).toNat) (by omega)
          rw [Int.toNat_of_nonneg (by omega)] at h9
          have hv1 := hv.1 (by omega)
          rw [drop_cons (i := k + 1) (by omega) (by omega), h9] at hv1
          replace hv1 : (if x + dch (M 859 (60 * d + (k + 1))) = 0 then k + 1 else fcl ((dc M d).drop (k + 1 + 1).toNat) (x + dch (M 859 (60 * d + (k + 1)))) (k + 1 + 1)) = fcl ((dc M d).drop p.toNat) 0 p := hv1
          rw [hz] at hv1
          refine ih _ (by omega) _ _ r23 r6 (by omega) (by omega) (fun e => by omega) rfl (by omega) ⟨fun e => ?_, fun e => ?_⟩
          · rw [if_neg (by omega)] at hv1; exact hv1
          · rw [if_pos (by omega)] at hv1; exact hv1
      · skip
        refine at_const (x := -1) dx_133_15 rfl ?_
        refine at_goto dx_133_16 ?_
        refine at_addR dx_133_23 (by constructor <;> omega) (fun r23 => ?_)
        refine at_istore dx_133_24 ?_
        refine at_goto dx_133_25 ?_
        refine at_wk (ls := [vr 856, vi _, vi _, vi _, vi _]) ⟨Or.inl rfl, Or.inl rfl, Or.inl rfl, Or.inl rfl, Or.inl rfl, trivial⟩ ?_
        have hq := hs (by omega)
        have hb9 := hbnd (by omega)
        have he9 := hend (by omega)
        have hz : dch (M 859 (60 * d + (k + 1))) = -1 := by
          unfold dch
          first
          | (rw [if_pos (by omega)]; done)
          | (rw [if_neg (by omega), if_pos (by split at h18 <;> omega)]; done)
          | (rw [if_neg (by omega), if_neg (fun hh => by rw [if_pos (by omega)] at h18; omega)]; done)
        have h9 := dc_at (M := M) (d := d) (j := (k + 1).toNat) (by omega)
        rw [Int.toNat_of_nonneg (by omega)] at h9
        have hv1 := hv.1 (by omega)
        rw [drop_cons (i := k + 1) (by omega) (by omega), h9] at hv1
        replace hv1 : (if x + dch (M 859 (60 * d + (k + 1))) = 0 then k + 1 else fcl ((dc M d).drop (k + 1 + 1).toNat) (x + dch (M 859 (60 * d + (k + 1)))) (k + 1 + 1)) = fcl ((dc M d).drop p.toNat) 0 p := hv1
        rw [hz] at hv1
        refine ih _ (by omega) _ _ r23 r6 (by omega) (by omega) (fun e => by omega) rfl (by omega) ⟨fun e => ?_, fun e => ?_⟩
        · rw [if_neg (by omega)] at hv1; exact hv1
        · rw [if_pos (by omega)] at hv1; exact hv1
  refine at_const (x := 1) dx_133_0 rfl ?_
  refine at_istore dx_133_1 ?_
  refine at_iload dx_133_2 rfl ?_
  refine at_istore dx_133_3 ?_
  exact lp _ 1 _ (by decide) rp (by omega) (by decide) (fun _ => rfl) rfl (by
    have h9 := dc_at (M := M) (d := d) (j := p.toNat) (by omega)
    rw [Int.toNat_of_nonneg hp.1] at h9
    rw [show (p + 1).toNat = p.toNat + 1 by omega, dsm_step, h9]
    have hz : dch (M 859 (60 * d + p)) = 1 := by unfold dch; rw [if_neg (by omega), if_pos ho]
    omega) (by
    have h9 := dc_at (M := M) (d := d) (j := p.toNat) (by omega)
    rw [Int.toNat_of_nonneg hp.1] at h9
    have hz : dcc (M 859 (60 * d + p)) = 1 := by unfold dcc; rw [if_neg (by omega), if_pos ho]
    refine ⟨fun _ => ?_, fun e => absurd e (by decide)⟩
    rw [drop_cons (i := p) hp.1 (by omega), h9]
    show _ = if 0 + dcc (M 859 (60 * d + p)) = 0 then p else fcl _ (0 + dcc (M 859 (60 * d + p))) (p + 1)
    rw [hz, if_neg (by decide)]
    rfl)

set_option maxRecDepth 100000 in
set_option maxHeartbeats 4000000 in
theorem y_setType {X : scr} {M : mem} {c p y : Int} (rc : inR c) (rp : inR p) (ry : inR y) (hM : MI M) (hG : GR (M 857) (M 858)) : At X 0 135 0 [vr 856, vi c, vi p, vi y] [] M (qI (fun _ M' => OM c (csSetType p y) M M')) := by
  have F : frE wE M M := fe_rf
  have hS := fun h1 h2 => hM.1 c h1 h2
  have hdl : 0 ≤ c → c < 3 → ((dc M c).length : Int) = M 860 c := fun h1 h2 => by have := hM.1 c h1 (by omega); rw [dc_len]; omega
  have hat : 0 ≤ c → c < 3 → ∀ q, _ := fun h1 h2 => hat_of (M := M) (c := c) (hM.1 c h1 (by omega)).1
  refine at_iload dx_135_0 rfl ?_
  refine at_callSI dx_135_1 rfl rfl (m_isClient rc) ?_
  rintro x1 M9 r1 ⟨e9, h1⟩; replace e9 := e9.symm; subst e9; replace h1 := ite01 h1
  refine at_zeqR dx_135_2 r1 (fun c2 => ?_) (fun c2 => ?_)
  · skip
    refine at_const (x := 0) dx_135_13 rfl ?_
    refine at_istore dx_135_14 ?_
    refine at_iload dx_135_15 rfl ?_
    refine at_zeqR dx_135_16 (by decide) (fun _ => ?_) (fun c => absurd c (by decide))
    refine at_const (x := 0) dx_135_30 rfl ?_
    refine at_istore dx_135_31 ?_
    refine at_iload dx_135_32 rfl ?_
    refine at_zeqR dx_135_33 (by decide) (fun _ => ?_) (fun c => absurd c (by decide))
    refine at_const (x := 0) dx_135_39 rfl ?_
    refine at_istore dx_135_40 ?_
    refine at_iload dx_135_41 rfl ?_
    refine at_zeqR dx_135_42 (by decide) (fun _ => ?_) (fun c => absurd c (by decide))
    refine at_aload dx_135_52 rfl ?_
    refine at_iload dx_135_53 rfl ?_
    refine at_zneR dx_135_54 (by decide) (fun c => absurd c (by decide)) (fun _ => ?_)
    refine at_const (x := 1) dx_135_55 rfl ?_
    refine at_goto dx_135_56 ?_
    refine at_callVI dx_135_66 rfl lc_856 rfl (m_fails2 (by decide)) ?_
    rintro x66 M66 r66 ⟨f66, h66⟩; replace h66 := ite01 h66
    replace F : frE wE M _ := fe_tr F (fe_le f66 (fun q j h => by obtain ⟨rfl, rfl⟩ := h; exact wE_31))
    obtain rfl : x66 = 1 := by omega
    refine at_zeqR dx_135_67 (by decide) (fun c => absurd c (by decide)) (fun _ => ?_)
    refine at_const (x := 0) dx_135_68 rfl ?_
    refine at_iretI dx_135_69 (by decide) ?_
    first
    | exact OM_out hM (by omega) F1 hDW hSM h2D hCS f61 f66 (hcan.mp (by omega)) k1 k2 k3 k4 k5
    | exact OM_no (by omega) (MI_wE hM F) F hCS (fun e => absurd (hcan.mpr e) (by omega))
    | exact OM_nil (MI_wE hM F) F (fun c0 c1 => by show cIf _ _ = []; exact cIf_f (fun hh => by have := hdl c0 c1; have := hat c0 c1 p; omega))
  · skip
    refine at_aload dx_135_3 rfl ?_
    refine at_iload dx_135_4 rfl ?_
    refine at_iload dx_135_5 rfl ?_
    refine at_callVI dx_135_6 rfl lc_856 rfl (m_isPlace rc rp) ?_
    rintro x6 M9 r6 ⟨e9, h6⟩; replace e9 := e9.symm; subst e9; replace h6 := ite01 h6
    refine at_zeqR dx_135_7 r6 (fun c7 => ?_) (fun c7 => ?_)
    · skip
      refine at_const (x := 0) dx_135_13 rfl ?_
      refine at_istore dx_135_14 ?_
      refine at_iload dx_135_15 rfl ?_
      refine at_zeqR dx_135_16 (by decide) (fun _ => ?_) (fun c => absurd c (by decide))
      refine at_const (x := 0) dx_135_30 rfl ?_
      refine at_istore dx_135_31 ?_
      refine at_iload dx_135_32 rfl ?_
      refine at_zeqR dx_135_33 (by decide) (fun _ => ?_) (fun c => absurd c (by decide))
      refine at_const (x := 0) dx_135_39 rfl ?_
      refine at_istore dx_135_40 ?_
      refine at_iload dx_135_41 rfl ?_
      refine at_zeqR dx_135_42 (by decide) (fun _ => ?_) (fun c => absurd c (by decide))
      refine at_aload dx_135_52 rfl ?_
      refine at_iload dx_135_53 rfl ?_
      refine at_zneR dx_135_54 (by decide) (fun c => absurd c (by decide)) (fun _ => ?_)
      refine at_const (x := 1) dx_135_55 rfl ?_
      refine at_goto dx_135_56 ?_
      refine at_callVI dx_135_66 rfl lc_856 rfl (m_fails2 (by decide)) ?_
      rintro x66 M66 r66 ⟨f66, h66⟩; replace h66 := ite01 h66
      replace F : frE wE M _ := fe_tr F (fe_le f66 (fun q j h => by obtain ⟨rfl, rfl⟩ := h; exact wE_31))
      obtain rfl : x66 = 1 := by omega
      refine at_zeqR dx_135_67 (by decide) (fun c => absurd c (by decide)) (fun _ => ?_)
      refine at_const (x := 0) dx_135_68 rfl ?_
      refine at_iretI dx_135_69 (by decide) ?_
      first
      | exact OM_out hM (by omega) F1 hDW hSM h2D hCS f61 f66 (hcan.mp (by omega)) k1 k2 k3 k4 k5
      | exact OM_no (by omega) (MI_wE hM F) F hCS (fun e => absurd (hcan.mpr e) (by omega))
      | exact OM_nil (MI_wE hM F) F (fun c0 c1 => by show cIf _ _ = []; exact cIf_f (fun hh => by have := hdl c0 c1; have := hat c0 c1 p; omega))
    · skip
      refine at_iload dx_135_8 rfl ?_
      refine at_callSI dx_135_9 rfl rfl (m_opens ry) ?_
      rintro x9 M9 r9 ⟨e9, h9⟩; replace e9 := e9.symm; subst e9; replace h9 := ite01 h9
      refine at_zeqR dx_135_10 r9 (fun c10 => ?_) (fun c10 => ?_)
      · skip
        refine at_const (x := 0) dx_135_13 rfl ?_
        refine at_istore dx_135_14 ?_
        refine at_iload dx_135_15 rfl ?_
        refine at_zeqR dx_135_16 (by decide) (fun _ => ?_) (fun c => absurd c (by decide))
        refine at_const (x := 0) dx_135_30 rfl ?_
        refine at_istore dx_135_31 ?_
        refine at_iload dx_135_32 rfl ?_
        refine at_zeqR dx_135_33 (by decide) (fun _ => ?_) (fun c => absurd c (by decide))
        refine at_const (x := 0) dx_135_39 rfl ?_
        refine at_istore dx_135_40 ?_
        refine at_iload dx_135_41 rfl ?_
        refine at_zeqR dx_135_42 (by decide) (fun _ => ?_) (fun c => absurd c (by decide))
        refine at_aload dx_135_52 rfl ?_
        refine at_iload dx_135_53 rfl ?_
        refine at_zneR dx_135_54 (by decide) (fun c => absurd c (by decide)) (fun _ => ?_)
        refine at_const (x := 1) dx_135_55 rfl ?_
        refine at_goto dx_135_56 ?_
        refine at_callVI dx_135_66 rfl lc_856 rfl (m_fails2 (by decide)) ?_
        rintro x66 M66 r66 ⟨f66, h66⟩; replace h66 := ite01 h66
        replace F : frE wE M _ := fe_tr F (fe_le f66 (fun q j h => by obtain ⟨rfl, rfl⟩ := h; exact wE_31))
        obtain rfl : x66 = 1 := by omega
        refine at_zeqR dx_135_67 (by decide) (fun c => absurd c (by decide)) (fun _ => ?_)
        refine at_const (x := 0) dx_135_68 rfl ?_
        refine at_iretI dx_135_69 (by decide) ?_
        first
        | exact OM_out hM (by omega) F1 hDW hSM h2D hCS f61 f66 (hcan.mp (by omega)) k1 k2 k3 k4 k5
        | exact OM_no (by omega) (MI_wE hM F) F hCS (fun e => absurd (hcan.mpr e) (by omega))
        | exact OM_nil (MI_wE hM F) F (fun c0 c1 => by show cIf _ _ = []; exact cIf_f (fun hh => by have := hdl c0 c1; have := hat c0 c1 p; omega))
      · skip
        refine at_const (x := 1) dx_135_11 rfl ?_
        refine at_goto dx_135_12 ?_
        refine at_istore dx_135_14 ?_
        refine at_iload dx_135_15 rfl ?_
        refine at_zeqR dx_135_16 (by decide) (fun c => absurd c (by decide)) (fun _ => ?_)
        refine at_aload dx_135_17 rfl ?_
        refine at_iload dx_135_18 rfl ?_
        refine at_iload dx_135_19 rfl ?_
        refine at_callVI dx_135_20 rfl lc_856 rfl (m_opensAt rc rp (by omega) (by omega) (by have := hM.1 c (by omega) (by omega); omega)) ?_
        rintro x20 M9 r20 ⟨e9, h20⟩; replace e9 := e9.symm; subst e9; replace h20 := ite01 h20
        refine at_zeqR dx_135_21 r20 (fun c21 => ?_) (fun c21 => ?_)
        · skip
          refine at_const (x := 0) dx_135_30 rfl ?_
          refine at_istore dx_135_31 ?_
          refine at_iload dx_135_32 rfl ?_
          refine at_zeqR dx_135_33 (by decide) (fun _ => ?_) (fun c => absurd c (by decide))
          refine at_const (x := 0) dx_135_39 rfl ?_
          refine at_istore dx_135_40 ?_
          refine at_iload dx_135_41 rfl ?_
          refine at_zeqR dx_135_42 (by decide) (fun _ => ?_) (fun c => absurd c (by decide))
          refine at_aload dx_135_52 rfl ?_
          refine at_iload dx_135_53 rfl ?_
          refine at_zneR dx_135_54 (by decide) (fun _ => ?_) (fun c => absurd c (by decide))
          refine at_iload dx_135_57 rfl ?_
          refine at_zeqR dx_135_58 (by decide) (fun _ => ?_) (fun c => absurd c (by decide))
          refine at_const (x := 2) dx_135_65 rfl ?_
          refine at_callVI dx_135_66 rfl lc_856 rfl (m_fails2 (by decide)) ?_
          rintro x66 M66 r66 ⟨f66, h66⟩; replace h66 := ite01 h66
          replace F : frE wE M _ := fe_tr F (fe_le f66 (fun q j h => by obtain ⟨rfl, rfl⟩ := h; exact wE_31))
          obtain rfl : x66 = 1 := by omega
          refine at_zeqR dx_135_67 (by decide) (fun c => absurd c (by decide)) (fun _ => ?_)
          refine at_const (x := 0) dx_135_68 rfl ?_
          refine at_iretI dx_135_69 (by decide) ?_
          first
          | exact OM_out hM (by omega) F1 hDW hSM h2D hCS f61 f66 (hcan.mp (by omega)) k1 k2 k3 k4 k5
          | exact OM_no (by omega) (MI_wE hM F) F hCS (fun e => absurd (hcan.mpr e) (by omega))
          | exact OM_nil (MI_wE hM F) F (fun c0 c1 => by show cIf _ _ = []; exact cIf_f (fun hh => by have := hdl c0 c1; have := hat c0 c1 p; omega))
        · skip
          refine at_aload dx_135_22 rfl ?_
          refine at_iload dx_135_23 rfl ?_
          refine at_iload dx_135_24 rfl ?_
          refine at_callVI dx_135_25 rfl lc_856 rfl (m_tokenOf rc rp (by omega) (by have := hM.1 c (by omega) (by omega); omega)) ?_
          rintro x25 M9 r25 ⟨e9, h25⟩; replace e9 := e9.symm; subst e9
          refine at_iload dx_135_26 rfl ?_
          refine at_ceqR dx_135_27 r25 ry (fun c27 => ?_) (fun c27 => ?_)
          · skip
            refine at_const (x := 0) dx_135_30 rfl ?_
            refine at_istore dx_135_31 ?_
            refine at_iload dx_135_32 rfl ?_
            refine at_zeqR dx_135_33 (by decide) (fun _ => ?_) (fun c => absurd c (by decide))
            refine at_const (x := 0) dx_135_39 rfl ?_
            refine at_istore dx_135_40 ?_
            refine at_iload dx_135_41 rfl ?_
            refine at_zeqR dx_135_42 (by decide) (fun _ => ?_) (fun c => absurd c (by decide))
            refine at_aload dx_135_52 rfl ?_
            refine at_iload dx_135_53 rfl ?_
            refine at_zneR dx_135_54 (by decide) (fun _ => ?_) (fun c => absurd c (by decide))
            refine at_iload dx_135_57 rfl ?_
            refine at_zeqR dx_135_58 (by decide) (fun _ => ?_) (fun c => absurd c (by decide))
            refine at_const (x := 2) dx_135_65 rfl ?_
            refine at_callVI dx_135_66 rfl lc_856 rfl (m_fails2 (by decide)) ?_
            rintro x66 M66 r66 ⟨f66, h66⟩; replace h66 := ite01 h66
            replace F : frE wE M _ := fe_tr F (fe_le f66 (fun q j h => by obtain ⟨rfl, rfl⟩ := h; exact wE_31))
            obtain rfl : x66 = 1 := by omega
            refine at_zeqR dx_135_67 (by decide) (fun c => absurd c (by decide)) (fun _ => ?_)
            refine at_const (x := 0) dx_135_68 rfl ?_
            refine at_iretI dx_135_69 (by decide) ?_
            first
            | exact OM_out hM (by omega) F1 hDW hSM h2D hCS f61 f66 (hcan.mp (by omega)) k1 k2 k3 k4 k5
            | exact OM_no (by omega) (MI_wE hM F) F hCS (fun e => absurd (hcan.mpr e) (by omega))
            | exact OM_nil (MI_wE hM F) F (fun c0 c1 => by show cIf _ _ = []; exact cIf_f (fun hh => by have := hdl c0 c1; have := hat c0 c1 p; omega))
          · skip
            refine at_const (x := 1) dx_135_28 rfl ?_
            refine at_goto dx_135_29 ?_
            refine at_istore dx_135_31 ?_
            refine at_iload dx_135_32 rfl ?_
            refine at_zeqR dx_135_33 (by decide) (fun c => absurd c (by decide)) (fun _ => ?_)
            refine at_aload dx_135_34 rfl ?_
            refine at_iload dx_135_35 rfl ?_
            refine at_iload dx_135_36 rfl ?_
            refine at_callVI dx_135_37 rfl lc_856 rfl (m_tokenOf rc rp (by omega) (by have := hM.1 c (by omega) (by omega); omega)) ?_
            rintro x37 M9 r37 ⟨e9, h37⟩; replace e9 := e9.symm; subst e9
            refine at_goto dx_135_38 ?_
            refine at_istore dx_135_40 ?_
            refine at_iload dx_135_41 rfl ?_
            refine at_zeqR dx_135_42 (by decide) (fun c => absurd c (by decide)) (fun _ => ?_)
            refine at_aload dx_135_43 rfl ?_
            refine at_iload dx_135_44 rfl ?_
            refine at_const (x := 1) dx_135_45 rfl ?_
            refine at_callVV dx_135_46 rfl lc_856 rfl (x_tries rp (by decide)) ?_
            rintro M46 ⟨f46, d46⟩
            replace F : frE wE M _ := fe_tr F f46
            refine at_aload dx_135_47 rfl ?_
            refine at_const (x := 100) dx_135_48 rfl ?_
            refine at_const (x := 0) dx_135_49 rfl ?_
            refine at_iload dx_135_50 rfl ?_
            refine at_callVV dx_135_51 rfl lc_856 rfl (x_adds0 ry d46 (by simp)) ?_
            rintro M51 ⟨f51, d51⟩
            replace F : frE wE M _ := fe_tr F f51
            refine at_aload dx_135_52 rfl ?_
            refine at_iload dx_135_53 rfl ?_
            refine at_zneR dx_135_54 (by decide) (fun _ => ?_) (fun c => absurd c (by decide))
            refine at_iload dx_135_57 rfl ?_
            refine at_zeqR dx_135_58 (by decide) (fun c => absurd c (by decide)) (fun _ => ?_)
            refine at_aload dx_135_59 rfl ?_
            refine at_iload dx_135_60 rfl ?_
            refine at_callVI dx_135_61 rfl lc_856 rfl (x_canEdit2 rc (by omega) (MI_wE hM F) (okX100.mpr (by obtain ⟨y1, y2, y3, y4, y5, y6⟩ := d51; have y7 := (wE_c F).1 c; simp only [List.length_append, List.length_cons, List.length_nil] at y5; omega)) (by rw [(wE_c F).2.2.2.1, (wE_c F).2.2.2.2]; exact hG)) ?_
            rintro x61 M61 r61 ⟨f61, b61, hrd, hcn⟩
            have F1 := F
            have hDW : cWD (mv M51 100) (0, ([p, 1], [y])) := RS1_D d51 (Nat.le_of_ble_eq_true rfl)
            have hSM : smD (0, ([p, 1], [y])) := ⟨by have := hS (by omega) (by omega); omega, by decide, Nat.le_of_ble_eq_true rfl⟩
            have hCS : (csSetType p y) (dc M c) (cpM M c) = [(0, ([p, 1], [y]))] := by show cIf _ _ = _; exact cIf_t (by have := hdl (by omega) (by omega); have := hat (by omega) (by omega) p; omega)
            have h2D : ((0, ([p, 1], [y])) : gD).1 ≠ 2 := by show ¬ ((0 : Nat) = 2); decide
            have hcan := can_iff hM (by omega) F1 hDW hSM h2D hcn
            replace F : frE wE M _ := fe_tr F (fe_le f61 (fun q j h => wE_C h))
            refine at_zeqR dx_135_62 r61 (fun c62 => ?_) (fun c62 => ?_)
            · skip
              refine at_const (x := 2) dx_135_65 rfl ?_
              refine at_callVI dx_135_66 rfl lc_856 rfl (m_fails2 (by decide)) ?_
              rintro x66 M66 r66 ⟨f66, h66⟩; replace h66 := ite01 h66
              replace F : frE wE M _ := fe_tr F (fe_le f66 (fun q j h => by obtain ⟨rfl, rfl⟩ := h; exact wE_31))
              obtain rfl : x66 = 1 := by omega
              refine at_zeqR dx_135_67 (by decide) (fun c => absurd c (by decide)) (fun _ => ?_)
              refine at_const (x := 0) dx_135_68 rfl ?_
              refine at_iretI dx_135_69 (by decide) ?_
              first
              | exact OM_out hM (by omega) F1 hDW hSM h2D hCS f61 f66 (hcan.mp (by omega)) k1 k2 k3 k4 k5
              | exact OM_no (by omega) (MI_wE hM F) F hCS (fun e => absurd (hcan.mpr e) (by omega))
              | exact OM_nil (MI_wE hM F) F (fun c0 c1 => by show cIf _ _ = []; exact cIf_f (fun hh => by have := hdl c0 c1; have := hat c0 c1 p; omega))
            · skip
              refine at_const (x := 0) dx_135_63 rfl ?_
              refine at_goto dx_135_64 ?_
              refine at_callVI dx_135_66 rfl lc_856 rfl (m_fails2 (by decide)) ?_
              rintro x66 M66 r66 ⟨f66, h66⟩; replace h66 := ite01 h66
              replace F : frE wE M _ := fe_tr F (fe_le f66 (fun q j h => by obtain ⟨rfl, rfl⟩ := h; exact wE_31))
              obtain rfl : x66 = 0 := by omega
              refine at_zeqR dx_135_67 (by decide) (fun _ => ?_) (fun c => absurd c (by decide))
              refine at_aload dx_135_70 rfl ?_
              refine at_iload dx_135_71 rfl ?_
              refine at_callVV dx_135_72 rfl lc_856 rfl (x_edits2 rc (by omega) (MI_wE hM F) (ready_fe (hrd (by omega)) (by omega) (by have := (wE_c F1).1 c; have := hM.1 c (by omega) (by omega); first | omega | (rw [f61 860 c (by omega)]; omega)) f66 (fun q j h => Or.inl ⟨h.1, by rw [h.2]; decide⟩))) ?_
              rintro M72 ⟨k1, k2, k3, k4, k5⟩
              refine at_iload dx_135_73 rfl ?_
              refine at_iretI dx_135_74 r37 ?_
              first
              | exact OM_out hM (by omega) F1 hDW hSM h2D hCS f61 f66 (hcan.mp (by omega)) k1 k2 k3 k4 k5
              | exact OM_no (by omega) (MI_wE hM F) F hCS (fun e => absurd (hcan.mpr e) (by omega))
              | exact OM_nil (MI_wE hM F) F (fun c0 c1 => by show cIf _ _ = []; exact cIf_f (fun hh => by have := hdl c0 c1; have := hat c0 c1 p; omega))

set_option maxRecDepth 100000 in
set_option maxHeartbeats 4000000 in
theorem y_join {X : scr} {M : mem} {c p : Int} (rc : inR c) (rp : inR p) (hM : MI M) (hG : GR (M 857) (M 858)) : At X 0 131 0 [vr 856, vi c, vi p] [] M (qI (fun _ M' => OM c (csJoin p) M M')) := by
  have F : frE wE M M := fe_rf
  have hS := fun h1 h2 => hM.1 c h1 h2
  have hdl : 0 ≤ c → c < 3 → ((dc M c).length : Int) = M 860 c := fun h1 h2 => by have := hM.1 c h1 (by omega); rw [dc_len]; omega
  have hat : 0 ≤ c → c < 3 → ∀ q, _ := fun h1 h2 => hat_of (M := M) (c := c) (hM.1 c h1 (by omega)).1
  refine at_iload dx_131_0 rfl ?_
  refine at_callSI dx_131_1 rfl rfl (m_isClient rc) ?_
  rintro x1 M9 r1 ⟨e9, h1⟩; replace e9 := e9.symm; subst e9; replace h1 := ite01 h1
  refine at_zeqR dx_131_2 r1 (fun c2 => ?_) (fun c2 => ?_)
  · skip
    refine at_const (x := 0) dx_131_10 rfl ?_
    refine at_istore dx_131_11 ?_
    refine at_iload dx_131_12 rfl ?_
    refine at_zeqR dx_131_13 (by decide) (fun _ => ?_) (fun c => absurd c (by decide))
    refine at_const (x := 0) dx_131_30 rfl ?_
    refine at_istore dx_131_31 ?_
    refine at_iload dx_131_32 rfl ?_
    refine at_zeqR dx_131_33 (by decide) (fun _ => ?_) (fun c => absurd c (by decide))
    refine at_const (x := 0) dx_131_39 rfl ?_
    refine at_istore dx_131_40 ?_
    refine at_iload dx_131_41 rfl ?_
    refine at_zeqR dx_131_42 (by decide) (fun _ => ?_) (fun c => absurd c (by decide))
    refine at_aload dx_131_49 rfl ?_
    refine at_iload dx_131_50 rfl ?_
    refine at_zneR dx_131_51 (by decide) (fun c => absurd c (by decide)) (fun _ => ?_)
    refine at_const (x := 1) dx_131_52 rfl ?_
    refine at_goto dx_131_53 ?_
    refine at_callVI dx_131_63 rfl lc_856 rfl (m_fails2 (by decide)) ?_
    rintro x63 M63 r63 ⟨f63, h63⟩; replace h63 := ite01 h63
    replace F : frE wE M _ := fe_tr F (fe_le f63 (fun q j h => by obtain ⟨rfl, rfl⟩ := h; exact wE_31))
    obtain rfl : x63 = 1 := by omega
    refine at_zeqR dx_131_64 (by decide) (fun c => absurd c (by decide)) (fun _ => ?_)
    refine at_const (x := 0) dx_131_65 rfl ?_
    refine at_iretI dx_131_66 (by decide) ?_
    first
    | exact OM_out hM (by omega) F1 hDW hSM h2D hCS f58 f63 (hcan.mp (by omega)) k1 k2 k3 k4 k5
    | exact OM_no (by omega) (MI_wE hM F) F hCS (fun e => absurd (hcan.mpr e) (by omega))
    | exact OM_nil (MI_wE hM F) F (fun c0 c1 => by show cIf _ _ = []; exact cIf_f (fun hh => by have := hdl c0 c1; have := hat c0 c1 p; have := hat c0 c1 (p - 1); omega))
  · skip
    refine at_aload dx_131_3 rfl ?_
    refine at_iload dx_131_4 rfl ?_
    refine at_iload dx_131_5 rfl ?_
    refine at_callVI dx_131_6 rfl lc_856 rfl (m_isPlace rc rp) ?_
    rintro x6 M9 r6 ⟨e9, h6⟩; replace e9 := e9.symm; subst e9; replace h6 := ite01 h6
    refine at_zeqR dx_131_7 r6 (fun c7 => ?_) (fun c7 => ?_)
    · skip
      refine at_const (x := 0) dx_131_10 rfl ?_
      refine at_istore dx_131_11 ?_
      refine at_iload dx_131_12 rfl ?_
      refine at_zeqR dx_131_13 (by decide) (fun _ => ?_) (fun c => absurd c (by decide))
      refine at_const (x := 0) dx_131_30 rfl ?_
      refine at_istore dx_131_31 ?_
      refine at_iload dx_131_32 rfl ?_
      refine at_zeqR dx_131_33 (by decide) (fun _ => ?_) (fun c => absurd c (by decide))
      refine at_const (x := 0) dx_131_39 rfl ?_
      refine at_istore dx_131_40 ?_
      refine at_iload dx_131_41 rfl ?_
      refine at_zeqR dx_131_42 (by decide) (fun _ => ?_) (fun c => absurd c (by decide))
      refine at_aload dx_131_49 rfl ?_
      refine at_iload dx_131_50 rfl ?_
      refine at_zneR dx_131_51 (by decide) (fun c => absurd c (by decide)) (fun _ => ?_)
      refine at_const (x := 1) dx_131_52 rfl ?_
      refine at_goto dx_131_53 ?_
      refine at_callVI dx_131_63 rfl lc_856 rfl (m_fails2 (by decide)) ?_
      rintro x63 M63 r63 ⟨f63, h63⟩; replace h63 := ite01 h63
      replace F : frE wE M _ := fe_tr F (fe_le f63 (fun q j h => by obtain ⟨rfl, rfl⟩ := h; exact wE_31))
      obtain rfl : x63 = 1 := by omega
      refine at_zeqR dx_131_64 (by decide) (fun c => absurd c (by decide)) (fun _ => ?_)
      refine at_const (x := 0) dx_131_65 rfl ?_
      refine at_iretI dx_131_66 (by decide) ?_
      first
      | exact OM_out hM (by omega) F1 hDW hSM h2D hCS f58 f63 (hcan.mp (by omega)) k1 k2 k3 k4 k5
      | exact OM_no (by omega) (MI_wE hM F) F hCS (fun e => absurd (hcan.mpr e) (by omega))
      | exact OM_nil (MI_wE hM F) F (fun c0 c1 => by show cIf _ _ = []; exact cIf_f (fun hh => by have := hdl c0 c1; have := hat c0 c1 p; have := hat c0 c1 (p - 1); omega))
    · skip
      refine at_const (x := 1) dx_131_8 rfl ?_
      refine at_goto dx_131_9 ?_
      refine at_istore dx_131_11 ?_
      refine at_iload dx_131_12 rfl ?_
      refine at_zeqR dx_131_13 (by decide) (fun c => absurd c (by decide)) (fun _ => ?_)
      refine at_iload dx_131_14 rfl ?_
      refine at_zleR dx_131_15 rp (fun c15 => ?_) (fun c15 => ?_)
      · skip
        refine at_const (x := 0) dx_131_30 rfl ?_
        refine at_istore dx_131_31 ?_
        refine at_iload dx_131_32 rfl ?_
        refine at_zeqR dx_131_33 (by decide) (fun _ => ?_) (fun c => absurd c (by decide))
        refine at_const (x := 0) dx_131_39 rfl ?_
        refine at_istore dx_131_40 ?_
        refine at_iload dx_131_41 rfl ?_
        refine at_zeqR dx_131_42 (by decide) (fun _ => ?_) (fun c => absurd c (by decide))
        refine at_aload dx_131_49 rfl ?_
        refine at_iload dx_131_50 rfl ?_
        refine at_zneR dx_131_51 (by decide) (fun _ => ?_) (fun c => absurd c (by decide))
        refine at_iload dx_131_54 rfl ?_
        refine at_zeqR dx_131_55 (by decide) (fun _ => ?_) (fun c => absurd c (by decide))
        refine at_const (x := 2) dx_131_62 rfl ?_
        refine at_callVI dx_131_63 rfl lc_856 rfl (m_fails2 (by decide)) ?_
        rintro x63 M63 r63 ⟨f63, h63⟩; replace h63 := ite01 h63
        replace F : frE wE M _ := fe_tr F (fe_le f63 (fun q j h => by obtain ⟨rfl, rfl⟩ := h; exact wE_31))
        obtain rfl : x63 = 1 := by omega
        refine at_zeqR dx_131_64 (by decide) (fun c => absurd c (by decide)) (fun _ => ?_)
        refine at_const (x := 0) dx_131_65 rfl ?_
        refine at_iretI dx_131_66 (by decide) ?_
        first
        | exact OM_out hM (by omega) F1 hDW hSM h2D hCS f58 f63 (hcan.mp (by omega)) k1 k2 k3 k4 k5
        | exact OM_no (by omega) (MI_wE hM F) F hCS (fun e => absurd (hcan.mpr e) (by omega))
        | exact OM_nil (MI_wE hM F) F (fun c0 c1 => by show cIf _ _ = []; exact cIf_f (fun hh => by have := hdl c0 c1; have := hat c0 c1 p; have := hat c0 c1 (p - 1); omega))
      · skip
        refine at_aload dx_131_16 rfl ?_
        refine at_iload dx_131_17 rfl ?_
        refine at_iload dx_131_18 rfl ?_
        refine at_callVI dx_131_19 rfl lc_856 rfl (m_opensAt rc rp (by omega) (by omega) (by have := hM.1 c (by omega) (by omega); omega)) ?_
        rintro x19 M9 r19 ⟨e9, h19⟩; replace e9 := e9.symm; subst e9; replace h19 := ite01 h19
        refine at_zeqR dx_131_20 r19 (fun c20 => ?_) (fun c20 => ?_)
        · skip
          refine at_const (x := 0) dx_131_30 rfl ?_
          refine at_istore dx_131_31 ?_
          refine at_iload dx_131_32 rfl ?_
          refine at_zeqR dx_131_33 (by decide) (fun _ => ?_) (fun c => absurd c (by decide))
          refine at_const (x := 0) dx_131_39 rfl ?_
          refine at_istore dx_131_40 ?_
          refine at_iload dx_131_41 rfl ?_
          refine at_zeqR dx_131_42 (by decide) (fun _ => ?_) (fun c => absurd c (by decide))
          refine at_aload dx_131_49 rfl ?_
          refine at_iload dx_131_50 rfl ?_
          refine at_zneR dx_131_51 (by decide) (fun _ => ?_) (fun c => absurd c (by decide))
          refine at_iload dx_131_54 rfl ?_
          refine at_zeqR dx_131_55 (by decide) (fun _ => ?_) (fun c => absurd c (by decide))
          refine at_const (x := 2) dx_131_62 rfl ?_
          refine at_callVI dx_131_63 rfl lc_856 rfl (m_fails2 (by decide)) ?_
          rintro x63 M63 r63 ⟨f63, h63⟩; replace h63 := ite01 h63
          replace F : frE wE M _ := fe_tr F (fe_le f63 (fun q j h => by obtain ⟨rfl, rfl⟩ := h; exact wE_31))
          obtain rfl : x63 = 1 := by omega
          refine at_zeqR dx_131_64 (by decide) (fun c => absurd c (by decide)) (fun _ => ?_)
          refine at_const (x := 0) dx_131_65 rfl ?_
          refine at_iretI dx_131_66 (by decide) ?_
          first
          | exact OM_out hM (by omega) F1 hDW hSM h2D hCS f58 f63 (hcan.mp (by omega)) k1 k2 k3 k4 k5
          | exact OM_no (by omega) (MI_wE hM F) F hCS (fun e => absurd (hcan.mpr e) (by omega))
          | exact OM_nil (MI_wE hM F) F (fun c0 c1 => by show cIf _ _ = []; exact cIf_f (fun hh => by have := hdl c0 c1; have := hat c0 c1 p; have := hat c0 c1 (p - 1); omega))
        · skip
          refine at_aload dx_131_21 rfl ?_
          refine at_iload dx_131_22 rfl ?_
          refine at_iload dx_131_23 rfl ?_
          refine at_const (x := 1) dx_131_24 rfl ?_
          refine at_subR dx_131_25 (by constructor <;> omega) (fun r25 => ?_)
          refine at_callVI dx_131_26 rfl lc_856 rfl (m_tokenOf rc r25 (by omega) (by have := hM.1 c (by omega) (by omega); omega)) ?_
          rintro x26 M9 r26 ⟨e9, h26⟩; replace e9 := e9.symm; subst e9
          refine at_zneR dx_131_27 r26 (fun c27 => ?_) (fun c27 => ?_)
          · skip
            refine at_const (x := 0) dx_131_30 rfl ?_
            refine at_istore dx_131_31 ?_
            refine at_iload dx_131_32 rfl ?_
            refine at_zeqR dx_131_33 (by decide) (fun _ => ?_) (fun c => absurd c (by decide))
            refine at_const (x := 0) dx_131_39 rfl ?_
            refine at_istore dx_131_40 ?_
            refine at_iload dx_131_41 rfl ?_
            refine at_zeqR dx_131_42 (by decide) (fun _ => ?_) (fun c => absurd c (by decide))
            refine at_aload dx_131_49 rfl ?_
            refine at_iload dx_131_50 rfl ?_
            refine at_zneR dx_131_51 (by decide) (fun _ => ?_) (fun c => absurd c (by decide))
            refine at_iload dx_131_54 rfl ?_
            refine at_zeqR dx_131_55 (by decide) (fun _ => ?_) (fun c => absurd c (by decide))
            refine at_const (x := 2) dx_131_62 rfl ?_
            refine at_callVI dx_131_63 rfl lc_856 rfl (m_fails2 (by decide)) ?_
            rintro x63 M63 r63 ⟨f63, h63⟩; replace h63 := ite01 h63
            replace F : frE wE M _ := fe_tr F (fe_le f63 (fun q j h => by obtain ⟨rfl, rfl⟩ := h; exact wE_31))
            obtain rfl : x63 = 1 := by omega
            refine at_zeqR dx_131_64 (by decide) (fun c => absurd c (by decide)) (fun _ => ?_)
            refine at_const (x := 0) dx_131_65 rfl ?_
            refine at_iretI dx_131_66 (by decide) ?_
            first
            | exact OM_out hM (by omega) F1 hDW hSM h2D hCS f58 f63 (hcan.mp (by omega)) k1 k2 k3 k4 k5
            | exact OM_no (by omega) (MI_wE hM F) F hCS (fun e => absurd (hcan.mpr e) (by omega))
            | exact OM_nil (MI_wE hM F) F (fun c0 c1 => by show cIf _ _ = []; exact cIf_f (fun hh => by have := hdl c0 c1; have := hat c0 c1 p; have := hat c0 c1 (p - 1); omega))
          · skip
            refine at_const (x := 1) dx_131_28 rfl ?_
            refine at_goto dx_131_29 ?_
            refine at_istore dx_131_31 ?_
            refine at_iload dx_131_32 rfl ?_
            refine at_zeqR dx_131_33 (by decide) (fun c => absurd c (by decide)) (fun _ => ?_)
            refine at_aload dx_131_34 rfl ?_
            refine at_iload dx_131_35 rfl ?_
            refine at_iload dx_131_36 rfl ?_
            refine at_callVI dx_131_37 rfl lc_856 rfl (m_tokenOf rc rp (by omega) (by have := hM.1 c (by omega) (by omega); omega)) ?_
            rintro x37 M9 r37 ⟨e9, h37⟩; replace e9 := e9.symm; subst e9
            refine at_goto dx_131_38 ?_
            refine at_istore dx_131_40 ?_
            refine at_iload dx_131_41 rfl ?_
            refine at_zeqR dx_131_42 (by decide) (fun c => absurd c (by decide)) (fun _ => ?_)
            refine at_aload dx_131_43 rfl ?_
            refine at_iload dx_131_44 rfl ?_
            refine at_const (x := 1) dx_131_45 rfl ?_
            refine at_subR dx_131_46 (by constructor <;> omega) (fun r46 => ?_)
            refine at_const (x := 2) dx_131_47 rfl ?_
            refine at_callVV dx_131_48 rfl lc_856 rfl (x_tries r46 (by decide)) ?_
            rintro M48 ⟨f48, d48⟩
            replace F : frE wE M _ := fe_tr F f48
            refine at_aload dx_131_49 rfl ?_
            refine at_iload dx_131_50 rfl ?_
            refine at_zneR dx_131_51 (by decide) (fun _ => ?_) (fun c => absurd c (by decide))
            refine at_iload dx_131_54 rfl ?_
            refine at_zeqR dx_131_55 (by decide) (fun c => absurd c (by decide)) (fun _ => ?_)
            refine at_aload dx_131_56 rfl ?_
            refine at_iload dx_131_57 rfl ?_
            refine at_callVI dx_131_58 rfl lc_856 rfl (x_canEdit2 rc (by omega) (MI_wE hM F) (okX100.mpr (by obtain ⟨y1, y2, y3, y4, y5, y6⟩ := d48; have y7 := (wE_c F).1 c; simp only [List.length_append, List.length_cons, List.length_nil] at y5; omega)) (by rw [(wE_c F).2.2.2.1, (wE_c F).2.2.2.2]; exact hG)) ?_
            rintro x58 M58 r58 ⟨f58, b58, hrd, hcn⟩
            have F1 := F
            have hDW : cWD (mv M48 100) (0, ([p - 1, 2], [])) := RS1_D d48 (Nat.le_of_ble_eq_true rfl)
            have hSM : smD (0, ([p - 1, 2], [])) := ⟨by have := hS (by omega) (by omega); omega, by decide, Nat.le_of_ble_eq_true rfl⟩
            have hCS : (csJoin p) (dc M c) (cpM M c) = [(0, ([p - 1, 2], []))] := by show cIf _ _ = _; exact cIf_t (by have := hdl (by omega) (by omega); have := hat (by omega) (by omega) p; have := hat (by omega) (by omega) (p - 1); omega)
            have h2D : ((0, ([p - 1, 2], [])) : gD).1 ≠ 2 := by show ¬ ((0 : Nat) = 2); decide
            have hcan := can_iff hM (by omega) F1 hDW hSM h2D hcn
            replace F : frE wE M _ := fe_tr F (fe_le f58 (fun q j h => wE_C h))
            refine at_zeqR dx_131_59 r58 (fun c59 => ?_) (fun c59 => ?_)
            · skip
              refine at_const (x := 2) dx_131_62 rfl ?_
              refine at_callVI dx_131_63 rfl lc_856 rfl (m_fails2 (by decide)) ?_
              rintro x63 M63 r63 ⟨f63, h63⟩; replace h63 := ite01 h63
              replace F : frE wE M _ := fe_tr F (fe_le f63 (fun q j h => by obtain ⟨rfl, rfl⟩ := h; exact wE_31))
              obtain rfl : x63 = 1 := by omega
              refine at_zeqR dx_131_64 (by decide) (fun c => absurd c (by decide)) (fun _ => ?_)
              refine at_const (x := 0) dx_131_65 rfl ?_
              refine at_iretI dx_131_66 (by decide) ?_
              first
              | exact OM_out hM (by omega) F1 hDW hSM h2D hCS f58 f63 (hcan.mp (by omega)) k1 k2 k3 k4 k5
              | exact OM_no (by omega) (MI_wE hM F) F hCS (fun e => absurd (hcan.mpr e) (by omega))
              | exact OM_nil (MI_wE hM F) F (fun c0 c1 => by show cIf _ _ = []; exact cIf_f (fun hh => by have := hdl c0 c1; have := hat c0 c1 p; have := hat c0 c1 (p - 1); omega))
            · skip
              refine at_const (x := 0) dx_131_60 rfl ?_
              refine at_goto dx_131_61 ?_
              refine at_callVI dx_131_63 rfl lc_856 rfl (m_fails2 (by decide)) ?_
              rintro x63 M63 r63 ⟨f63, h63⟩; replace h63 := ite01 h63
              replace F : frE wE M _ := fe_tr F (fe_le f63 (fun q j h => by obtain ⟨rfl, rfl⟩ := h; exact wE_31))
              obtain rfl : x63 = 0 := by omega
              refine at_zeqR dx_131_64 (by decide) (fun _ => ?_) (fun c => absurd c (by decide))
              refine at_aload dx_131_67 rfl ?_
              refine at_iload dx_131_68 rfl ?_
              refine at_callVV dx_131_69 rfl lc_856 rfl (x_edits2 rc (by omega) (MI_wE hM F) (ready_fe (hrd (by omega)) (by omega) (by have := (wE_c F1).1 c; have := hM.1 c (by omega) (by omega); first | omega | (rw [f58 860 c (by omega)]; omega)) f63 (fun q j h => Or.inl ⟨h.1, by rw [h.2]; decide⟩))) ?_
              rintro M69 ⟨k1, k2, k3, k4, k5⟩
              refine at_iload dx_131_70 rfl ?_
              refine at_iretI dx_131_71 r37 ?_
              first
              | exact OM_out hM (by omega) F1 hDW hSM h2D hCS f58 f63 (hcan.mp (by omega)) k1 k2 k3 k4 k5
              | exact OM_no (by omega) (MI_wE hM F) F hCS (fun e => absurd (hcan.mpr e) (by omega))
              | exact OM_nil (MI_wE hM F) F (fun c0 c1 => by show cIf _ _ = []; exact cIf_f (fun hh => by have := hdl c0 c1; have := hat c0 c1 p; have := hat c0 c1 (p - 1); omega))
