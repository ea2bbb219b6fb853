/-! ===== the reference: what its rows say ===== -/
noncomputable def frE (P : Nat → Int → Prop) (M M' : mem) : Prop := ∀ (q : Nat) (j : Int), ¬ P q j → M' q j = M q j
section FE
variable {P P' : Nat → Int → Prop} {M M1 M2 : mem} {k : Nat} {j v : Int}
theorem fe_rf : frE P M M := fun _ _ _ => rfl
theorem fe_tr (h1 : frE P M M1) (h2 : frE P M1 M2) : frE P M M2 := fun q j h => (h2 q j h).trans (h1 q j h)
theorem fe_le (h : frE P M M1) (hp : ∀ q j, P q j → P' q j) : frE P' M M1 := fun q j hq => h q j (fun e => hq (hp q j e))
theorem fe_um (hk : P k j) : frE P M (um M k j v) := fun q j' hq => by
  by_cases e : q = k
  · subst e
    exact um_j (fun e2 => hq (by subst e2; exact hk))
  · exact um_k e
theorem fe_ums (h : frE P M M1) (hk : P k j) : frE P M (um M1 k j v) := fe_tr h (fe_um hk)
theorem fe_fr (h : frE P M M1) {R : Nat → Prop} (hp : ∀ q j, P q j → R q) : fr R M M1 := fun q j hq => h q j (fun e => hq (hp q j e))
end FE
/-- the cells of a step -/
abbrev stE (s : Int) (q : Nat) (j : Int) : Prop := ((861 ≤ q ∧ q ≤ 864) ∧ j = s) ∨ ((865 ≤ q ∧ q ≤ 867) ∧ (j = 2 * s ∨ j = 2 * s + 1)) ∨ ((868 ≤ q ∧ q ≤ 869) ∧ 60 * s ≤ j ∧ j < 60 * s + 60)
noncomputable def mv (M : mem) (s : Int) : sV := ([M 861 s, M 862 s, M 863 s, M 864 s, M 865 (2 * s), M 865 (2 * s + 1), M 866 (2 * s), M 866 (2 * s + 1), M 867 (2 * s), M 867 (2 * s + 1)], (List.range 60).map (fun j : Nat => M 869 (60 * s + j)))
theorem mv_fe {P : Nat → Int → Prop} {M M' : mem} {s : Int} (h : frE P M M') (hp : ∀ q j, stE s q j → q ≠ 868 → ¬ P q j) : mv M' s = mv M s := by
  unfold mv
  rw [h 861 _ (hp _ _ (by omega) (by decide)), h 862 _ (hp _ _ (by omega) (by decide)), h 863 _ (hp _ _ (by omega) (by decide)), h 864 _ (hp _ _ (by omega) (by decide)), h 865 _ (hp _ _ (by omega) (by decide)), h 865 _ (hp _ _ (by omega) (by decide)), h 866 _ (hp _ _ (by omega) (by decide)), h 866 _ (hp _ _ (by omega) (by decide)), h 867 _ (hp _ _ (by omega) (by decide)), h 867 _ (hp _ _ (by omega) (by decide))]
  congr 1
  apply List.map_congr_left
  intro j hj
  have := List.mem_range.mp hj
  exact h 869 _ (hp _ _ (by omega) (by decide))
noncomputable def dch (t : Int) : Int := if t = 0 then -1 else if 1 ≤ t ∧ t ≤ 5 then 1 else 0
noncomputable def dsm (l : List Int) : Nat → Int
  | 0 => 0
  | i + 1 => dsm l i + dch (l.getD i 0)
abbrev Bal (l : List Int) : Prop := (∀ i, i ≤ l.length → 0 ≤ dsm l i) ∧ dsm l l.length = 0
noncomputable def wk (M : mem) : List Int := (List.range (M 856 23).toNat).map (fun j : Nat => M 877 j)
noncomputable def dc (M : mem) (d : Int) : List Int := (List.range (M 860 d).toNat).map (fun j : Nat => M 859 (60 * d + j))
theorem wk_len {M : mem} : (wk M).length = (M 856 23).toNat := by
  unfold wk; rw [List.length_map, List.length_range]
theorem dc_len {M : mem} {d : Int} : (dc M d).length = (M 860 d).toNat := by
  unfold dc; rw [List.length_map, List.length_range]
theorem wk_at {M : mem} {j : Nat} (h : (j : Int) < M 856 23) : (wk M).getD j 0 = M 877 j := by
  unfold wk
  rw [List.getD_eq_getElem?_getD, List.getElem?_map, List.getElem?_range (by omega)]
  rfl
theorem dc_at {M : mem} {d : Int} {j : Nat} (h : (j : Int) < M 860 d) : (dc M d).getD j 0 = M 859 (60 * d + j) := by
  unfold dc
  rw [List.getD_eq_getElem?_getD, List.getElem?_map, List.getElem?_range (by omega)]
  rfl
theorem wk_cg {M M' : mem} (h1 : M' 856 23 = M 856 23) (h2 : ∀ j : Nat, (j : Int) < M 856 23 → M' 877 j = M 877 j) : wk M' = wk M := by
  unfold wk
  rw [h1]
  apply List.map_congr_left
  intro j hj
  exact h2 j (by have := List.mem_range.mp hj; omega)
theorem dc_cg {M M' : mem} {d : Int} (h1 : M' 860 d = M 860 d) (h2 : ∀ j : Nat, (j : Int) < M 860 d → M' 859 (60 * d + j) = M 859 (60 * d + j)) : dc M' d = dc M d := by
  unfold dc
  rw [h1]
  apply List.map_congr_left
  intro j hj
  exact h2 j (by have := List.mem_range.mp hj; omega)

set_option maxRecDepth 100000 in
set_option maxHeartbeats 4000000 in
theorem m_fails {X : scr} {M : mem} {n : Int} (rn : inR n) : At X 0 92 0 [vr 856, vi n] [] M (qI (fun x M' => M' = um M 856 31 n ∧ x = if 0 < n then 1 else 0)) := by
  refine at_aload dx_92_0 rfl ?_
  refine at_iload dx_92_1 rfl ?_
  refine at_putI 31 dx_92_2 lc_856 rfl rfl rn ?_
  refine at_iload dx_92_3 rfl ?_
  refine at_zleR dx_92_4 rn (fun c4 => ?_) (fun c4 => ?_)
  · skip
    refine at_const (x := 0) dx_92_7 rfl ?_
    refine at_zretI dx_92_8 (Or.inl rfl) ?_
    refine ⟨rfl, ?_⟩; rw [if_neg (by omega)]
  · skip
    refine at_const (x := 1) dx_92_5 rfl ?_
    refine at_goto dx_92_6 ?_
    refine at_zretI dx_92_8 (Or.inr rfl) ?_
    refine ⟨rfl, ?_⟩; rw [if_pos (by omega)]

set_option maxRecDepth 100000 in
set_option maxHeartbeats 4000000 in
theorem m_isIn {X : scr} {M : mem} {v a b : Int} (rv : inR v) (ra : inR a) (rb : inR b) : At X 0 93 0 [vi v, vi a, vi b] [] M (qI (fun x M' => M' = M ∧ x = if a ≤ v ∧ v ≤ b then 1 else 0)) := by
  refine at_iload dx_93_0 rfl ?_
  refine at_iload dx_93_1 rfl ?_
  refine at_cltR dx_93_2 rv ra (fun c2 => ?_) (fun c2 => ?_)
  · skip
    refine at_const (x := 0) dx_93_8 rfl ?_
    refine at_zretI dx_93_9 (Or.inl rfl) ?_
    refine ⟨rfl, ?_⟩; rw [if_neg (by omega)]
  · skip
    refine at_iload dx_93_3 rfl ?_
    refine at_iload dx_93_4 rfl ?_
    refine at_cgtR dx_93_5 rv rb (fun c5 => ?_) (fun c5 => ?_)
    · skip
      refine at_const (x := 0) dx_93_8 rfl ?_
      refine at_zretI dx_93_9 (Or.inl rfl) ?_
      refine ⟨rfl, ?_⟩; rw [if_neg (by omega)]
    · skip
      refine at_const (x := 1) dx_93_6 rfl ?_
      refine at_goto dx_93_7 ?_
      refine at_zretI dx_93_9 (Or.inr rfl) ?_
      refine ⟨rfl, ?_⟩; rw [if_pos (by omega)]

set_option maxRecDepth 100000 in
set_option maxHeartbeats 4000000 in
theorem m_isClient {X : scr} {M : mem} {c : Int} (rc : inR c) : At X 0 94 0 [vi c] [] M (qI (fun x M' => M' = M ∧ x = if 0 ≤ c ∧ c ≤ 2 then 1 else 0)) := by
  refine at_iload dx_94_0 rfl ?_
  refine at_const (x := 0) dx_94_1 rfl ?_
  refine at_const (x := 2) dx_94_2 rfl ?_
  refine at_callSI dx_94_3 rfl rfl (m_isIn rc (by decide) (by decide)) ?_
  rintro x3 M9 r3 ⟨e9, h3⟩; replace e9 := e9.symm; subst e9
  refine at_zretI dx_94_4 (by rw [h3]; split <;> simp) ?_
  exact ⟨rfl, h3⟩

set_option maxRecDepth 100000 in
set_option maxHeartbeats 4000000 in
theorem m_opens {X : scr} {M : mem} {t : Int} (rt : inR t) : At X 0 96 0 [vi t] [] M (qI (fun x M' => M' = M ∧ x = if 1 ≤ t ∧ t ≤ 5 then 1 else 0)) := by
  refine at_iload dx_96_0 rfl ?_
  refine at_const (x := 1) dx_96_1 rfl ?_
  refine at_const (x := 5) dx_96_2 rfl ?_
  refine at_callSI dx_96_3 rfl rfl (m_isIn rt (by decide) (by decide)) ?_
  rintro x3 M9 r3 ⟨e9, h3⟩; replace e9 := e9.symm; subst e9
  refine at_zretI dx_96_4 (by rw [h3]; split <;> simp) ?_
  exact ⟨rfl, h3⟩

set_option maxRecDepth 100000 in
set_option maxHeartbeats 4000000 in
theorem m_isPlace {X : scr} {M : mem} {d p : Int} (rd : inR d) (rp : inR p) : At X 0 95 0 [vr 856, vi d, vi p] [] M (qI (fun x M' => M' = M ∧ x = if (0 ≤ d ∧ d ≤ 3) ∧ 0 ≤ p ∧ p ≤ M 860 d then 1 else 0)) := by
  refine at_iload dx_95_0 rfl ?_
  refine at_const (x := 0) dx_95_1 rfl ?_
  refine at_const (x := 3) dx_95_2 rfl ?_
  refine at_callSI dx_95_3 rfl rfl (m_isIn rd (by decide) (by decide)) ?_
  rintro x3 M9 r3 ⟨e9, h3⟩; replace e9 := e9.symm; subst e9
  refine at_zeqR dx_95_4 r3 (fun c4 => ?_) (fun c4 => ?_)
  · skip
    refine at_const (x := 0) dx_95_15 rfl ?_
    refine at_zretI dx_95_16 (Or.inl rfl) ?_
    refine ⟨rfl, ?_⟩; rw [if_neg (fun hh => by first | (rw [if_pos (by omega)] at h3; omega) | (rw [if_pos (by omega)] at h11; omega))]
  · skip
    refine at_iload dx_95_5 rfl ?_
    refine at_const (x := 0) dx_95_6 rfl ?_
    refine at_aload dx_95_7 rfl ?_
    refine at_getR dx_95_8 lc_856 rfl lt_856_3 ?_
    refine at_iload dx_95_9 rfl ?_
    refine at_aldI dx_95_10 lc_860 ln_860 (by split at h3 <;> omega) (by split at h3 <;> omega) (fun r10 => ?_)
    refine at_callSI dx_95_11 rfl rfl (m_isIn rp (by decide) r10) ?_
    rintro x11 M9 r11 ⟨e9, h11⟩; replace e9 := e9.symm; subst e9
    refine at_zeqR dx_95_12 r11 (fun c12 => ?_) (fun c12 => ?_)
    · skip
      refine at_const (x := 0) dx_95_15 rfl ?_
      refine at_zretI dx_95_16 (Or.inl rfl) ?_
      refine ⟨rfl, ?_⟩; rw [if_neg (fun hh => by first | (rw [if_pos (by omega)] at h3; omega) | (rw [if_pos (by omega)] at h11; omega))]
    · skip
      refine at_const (x := 1) dx_95_13 rfl ?_
      refine at_goto dx_95_14 ?_
      refine at_zretI dx_95_16 (Or.inr rfl) ?_
      refine ⟨rfl, ?_⟩; rw [if_pos (by split at h3 <;> split at h11 <;> omega)]

set_option maxRecDepth 100000 in
set_option maxHeartbeats 4000000 in
theorem m_sets {X : scr} {M : mem} {t e a b : Int} (rt : inR t) (re : inR e) (ra : inR a) (rb : inR b) (ht : 0 ≤ t ∧ t ≤ 5) (he : 0 ≤ e ∧ e ≤ 2) : At X 0 97 0 [vr 856, vi t, vi e, vi a, vi b] [] M (qV (fun M' => M' = um (um M 857 (3 * t + e) a) 858 (3 * t + e) b)) := by
  refine at_aload dx_97_0 rfl ?_
  refine at_getR dx_97_1 lc_856 rfl lt_856_0 ?_
  refine at_const (x := 3) dx_97_2 rfl ?_
  refine at_iload dx_97_3 rfl ?_
  refine at_mulR dx_97_4 (by constructor <;> omega) (fun r4 => ?_)
  refine at_iload dx_97_5 rfl ?_
  refine at_addR dx_97_6 (by constructor <;> omega) (fun r6 => ?_)
  refine at_iload dx_97_7 rfl ?_
  refine at_astI dx_97_8 lc_857 ln_857 (by first | omega | (simp (disch := omega) only [um_eq, um_k, um_j]; omega)) (by first | omega | (simp (disch := omega) only [um_eq, um_k, um_j]; omega)) ra ?_
  refine at_aload dx_97_9 rfl ?_
  refine at_getR dx_97_10 lc_856 rfl lt_856_1 ?_
  refine at_const (x := 3) dx_97_11 rfl ?_
  refine at_iload dx_97_12 rfl ?_
  refine at_mulR dx_97_13 (by constructor <;> omega) (fun r13 => ?_)
  refine at_iload dx_97_14 rfl ?_
  refine at_addR dx_97_15 (by constructor <;> omega) (fun r15 => ?_)
  refine at_iload dx_97_16 rfl ?_
  refine at_astI dx_97_17 lc_858 ln_858 (by first | omega | (simp (disch := omega) only [um_eq, um_k, um_j]; omega)) (by first | omega | (simp (disch := omega) only [um_eq, um_k, um_j]; omega)) rb ?_
  refine at_vretV dx_97_18 ?_
  exact rfl

set_option maxRecDepth 100000 in
set_option maxHeartbeats 4000000 in
theorem m_isDone {X : scr} {M : mem} {e z : Int} (re : inR e) (rz : inR z) (he : 0 ≤ e ∧ e ≤ 17) : At X 0 98 0 [vr 856, vi e, vi z] [] M (qI (fun x M' => M' = M ∧ x = if M 857 e = 0 ∨ z ≠ 0 ∨ M 858 e = 1 ∨ M 858 e = 2 then 1 else 0)) := by
  refine at_aload dx_98_0 rfl ?_
  refine at_getR dx_98_1 lc_856 rfl lt_856_1 ?_
  refine at_iload dx_98_2 rfl ?_
  refine at_aldI dx_98_3 lc_858 ln_858 (by first | omega | (simp (disch := omega) only [um_eq, um_k, um_j]; omega)) (by first | omega | (simp (disch := omega) only [um_eq, um_k, um_j]; omega)) (fun r3 => ?_)
  refine at_istore dx_98_4 ?_
  refine at_aload dx_98_5 rfl ?_
  refine at_getR dx_98_6 lc_856 rfl lt_856_0 ?_
  refine at_iload dx_98_7 rfl ?_
  refine at_aldI dx_98_8 lc_857 ln_857 (by first | omega | (simp (disch := omega) only [um_eq, um_k, um_j]; omega)) (by first | omega | (simp (disch := omega) only [um_eq, um_k, um_j]; omega)) (fun r8 => ?_)
  refine at_zeqR dx_98_9 r8 (fun c9 => ?_) (fun c9 => ?_)
  · skip
    refine at_const (x := 1) dx_98_18 rfl ?_
    refine at_goto dx_98_19 ?_
    refine at_zretI dx_98_21 (Or.inr rfl) ?_
    refine ⟨rfl, ?_⟩; rw [if_pos (by omega)]
  · skip
    refine at_iload dx_98_10 rfl ?_
    refine at_zneR dx_98_11 rz (fun c11 => ?_) (fun c11 => ?_)
    · skip
      refine at_const (x := 1) dx_98_18 rfl ?_
      refine at_goto dx_98_19 ?_
      refine at_zretI dx_98_21 (Or.inr rfl) ?_
      refine ⟨rfl, ?_⟩; rw [if_pos (by omega)]
    · skip
      refine at_iload dx_98_12 rfl ?_
      refine at_const (x := 1) dx_98_13 rfl ?_
      refine at_ceqR dx_98_14 r3 (by decide) (fun c14 => ?_) (fun c14 => ?_)
      · skip
        refine at_const (x := 1) dx_98_18 rfl ?_
        refine at_goto dx_98_19 ?_
        refine at_zretI dx_98_21 (Or.inr rfl) ?_
        refine ⟨rfl, ?_⟩; rw [if_pos (by omega)]
      · skip
        refine at_iload dx_98_15 rfl ?_
        refine at_const (x := 2) dx_98_16 rfl ?_
        refine at_cneR dx_98_17 r3 (by decide) (fun c17 => ?_) (fun c17 => ?_)
        · skip
          refine at_const (x := 0) dx_98_20 rfl ?_
          refine at_zretI dx_98_21 (Or.inl rfl) ?_
          refine ⟨rfl, ?_⟩; rw [if_neg (by omega)]
        · skip
          refine at_const (x := 1) dx_98_18 rfl ?_
          refine at_goto dx_98_19 ?_
          refine at_zretI dx_98_21 (Or.inr rfl) ?_
          refine ⟨rfl, ?_⟩; rw [if_pos (by omega)]

set_option maxRecDepth 100000 in
set_option maxHeartbeats 4000000 in
theorem m_spreads {X : scr} {M : mem} {t a : Int} (rt : inR t) (ra : inR a) (ht : 0 ≤ t ∧ t ≤ 5) : At X 0 99 0 [vr 856, vi t, vi a] [] M (qI (fun x M' => M' = M)) := by
  have lp : ∀ (n : Nat) (c e : Int) (rc : inR c) (re : inR e) (h0 : 0 ≤ e) (hn : (3 - e).toNat = n), At X 0 99 4 [vr 856, vi t, vi a, vi c, vi e] [] M (qI (fun x M' => M' = M)) := by
    intro n
    induction n using Nat.strongRecOn with
    | ind n ih =>
    intro c e rc re h0 hn
    refine at_iload dx_99_4 rfl ?_
    refine at_const (x := 3) dx_99_5 rfl ?_
    refine at_cgeR dx_99_6 re (by decide) (fun c6 => ?_) (fun c6 => ?_)
    · skip
      refine at_iload dx_99_65 rfl ?_
      refine at_iretI dx_99_66 rc ?_
      exact rfl
    · skip
      refine at_iload dx_99_7 rfl ?_
      refine at_const (x := 2) dx_99_8 rfl ?_
      refine at_iload dx_99_9 rfl ?_
      refine at_mulR dx_99_10 (by constructor <;> omega) (fun r10 => ?_)
      refine at_shr dx_99_11 ?_
      refine at_const (x := 1) dx_99_12 rfl ?_
      refine at_and dx_99_13 ?_
      refine at_const (x := 1) dx_99_14 rfl ?_
      refine at_cneR dx_99_15 (inR_and _ _) (by decide) (fun c15 => ?_) (fun c15 => ?_)
      · skip
        refine at_iload dx_99_25 rfl ?_
        refine at_const (x := 2) dx_99_26 rfl ?_
        refine at_iload dx_99_27 rfl ?_
        refine at_mulR dx_99_28 (by constructor <;> omega) (fun r28 => ?_)
        refine at_const (x := 1) dx_99_29 rfl ?_
        refine at_addR dx_99_30 (by constructor <;> omega) (fun r30 => ?_)
        refine at_shr dx_99_31 ?_
        refine at_const (x := 1) dx_99_32 rfl ?_
        refine at_and dx_99_33 ?_
        refine at_const (x := 1) dx_99_34 rfl ?_
        refine at_cneR dx_99_35 (inR_and _ _) (by decide) (fun c35 => ?_) (fun c35 => ?_)
        · skip
          refine at_const (x := 0) dx_99_47 rfl ?_
          refine at_istore dx_99_48 ?_
          refine at_iload dx_99_49 rfl ?_
          refine at_iload dx_99_50 rfl ?_
          refine at_zeqR dx_99_51 (by decide) (fun _ => ?_) (fun c => absurd c (by decide))
          refine at_const (x := 0) dx_99_60 rfl ?_
          refine at_or dx_99_61 ?_
          refine at_istore dx_99_62 ?_
          refine at_iincR (y := 1) dx_99_63 rfl rfl (by constructor <;> omega) (fun r63 => ?_)
          refine at_goto dx_99_64 ?_
          refine at_wk (ls := [vr 856, vi _, vi _, vi _, vi _]) ⟨Or.inl rfl, Or.inl rfl, Or.inl rfl, Or.inl rfl, Or.inl rfl, trivial⟩ ?_
          exact ih _ (by omega) _ _ (inR_or _ _) r63 (by omega) rfl
        · skip
          refine at_aload dx_99_36 rfl ?_
          refine at_const (x := 3) dx_99_37 rfl ?_
          refine at_iload dx_99_38 rfl ?_
          refine at_mulR dx_99_39 (by constructor <;> omega) (fun r39 => ?_)
          refine at_iload dx_99_40 rfl ?_
          refine at_addR dx_99_41 (by constructor <;> omega) (fun r41 => ?_)
          refine at_const (x := 1) dx_99_42 rfl ?_
          refine at_callVI dx_99_43 rfl lc_856 rfl (m_isDone r41 (by decide) (by omega)) ?_
          rintro x43 M9 r43 ⟨e9, h43⟩; replace e9 := e9.symm; subst e9
          refine at_zeqR dx_99_44 r43 (fun c44 => ?_) (fun c44 => ?_)
          · skip
            refine at_const (x := 0) dx_99_47 rfl ?_
            refine at_istore dx_99_48 ?_
            refine at_iload dx_99_49 rfl ?_
            refine at_iload dx_99_50 rfl ?_
            refine at_zeqR dx_99_51 (by decide) (fun _ => ?_) (fun c => absurd c (by decide))
            refine at_const (x := 0) dx_99_60 rfl ?_
            refine at_or dx_99_61 ?_
            refine at_istore dx_99_62 ?_
            refine at_iincR (y := 1) dx_99_63 rfl rfl (by constructor <;> omega) (fun r63 => ?_)
            refine at_goto dx_99_64 ?_
            refine at_wk (ls := [vr 856, vi _, vi _, vi _, vi _]) ⟨Or.inl rfl, Or.inl rfl, Or.inl rfl, Or.inl rfl, Or.inl rfl, trivial⟩ ?_
            exact ih _ (by omega) _ _ (inR_or _ _) r63 (by omega) rfl
          · skip
            refine at_const (x := 1) dx_99_45 rfl ?_
            refine at_goto dx_99_46 ?_
            refine at_istore dx_99_48 ?_
            refine at_iload dx_99_49 rfl ?_
            refine at_iload dx_99_50 rfl ?_
            refine at_zeqR dx_99_51 (by decide) (fun c => absurd c (by decide)) (fun _ => ?_)
            refine at_const (x := 1) dx_99_52 rfl ?_
            refine at_const (x := 2) dx_99_53 rfl ?_
            refine at_iload dx_99_54 rfl ?_
            refine at_mulR dx_99_55 (by constructor <;> omega) (fun r55 => ?_)
            refine at_const (x := 2) dx_99_56 rfl ?_
            refine at_addR dx_99_57 (by constructor <;> omega) (fun r57 => ?_)
            refine at_shl dx_99_58 ?_
            refine at_goto dx_99_59 ?_
            refine at_or dx_99_61 ?_
            refine at_istore dx_99_62 ?_
            refine at_iincR (y := 1) dx_99_63 rfl rfl (by constructor <;> omega) (fun r63 => ?_)
            refine at_goto dx_99_64 ?_
            refine at_wk (ls := [vr 856, vi _, vi _, vi _, vi _]) ⟨Or.inl rfl, Or.inl rfl, Or.inl rfl, Or.inl rfl, Or.inl rfl, trivial⟩ ?_
            exact ih _ (by omega) _ _ (inR_or _ _) r63 (by omega) rfl
      · skip
        refine at_aload dx_99_16 rfl ?_
        refine at_const (x := 3) dx_99_17 rfl ?_
        refine at_iload dx_99_18 rfl ?_
        refine at_mulR dx_99_19 (by constructor <;> omega) (fun r19 => ?_)
        refine at_iload dx_99_20 rfl ?_
        refine at_addR dx_99_21 (by constructor <;> omega) (fun r21 => ?_)
        refine at_const (x := 0) dx_99_22 rfl ?_
        refine at_callVI dx_99_23 rfl lc_856 rfl (m_isDone r21 (by decide) (by omega)) ?_
        rintro x23 M9 r23 ⟨e9, h23⟩; replace e9 := e9.symm; subst e9
        refine at_zneR dx_99_24 r23 (fun c24 => ?_) (fun c24 => ?_)
        · skip
          refine at_const (x := 1) dx_99_45 rfl ?_
          refine at_goto dx_99_46 ?_
          refine at_istore dx_99_48 ?_
          refine at_iload dx_99_49 rfl ?_
          refine at_iload dx_99_50 rfl ?_
          refine at_zeqR dx_99_51 (by decide) (fun c => absurd c (by decide)) (fun _ => ?_)
          refine at_const (x := 1) dx_99_52 rfl ?_
          refine at_const (x := 2) dx_99_53 rfl ?_
          refine at_iload dx_99_54 rfl ?_
          refine at_mulR dx_99_55 (by constructor <;> omega) (fun r55 => ?_)
          refine at_const (x := 2) dx_99_56 rfl ?_
          refine at_addR dx_99_57 (by constructor <;> omega) (fun r57 => ?_)
          refine at_shl dx_99_58 ?_
          refine at_goto dx_99_59 ?_
          refine at_or dx_99_61 ?_
          refine at_istore dx_99_62 ?_
          refine at_iincR (y := 1) dx_99_63 rfl rfl (by constructor <;> omega) (fun r63 => ?_)
          refine at_goto dx_99_64 ?_
          refine at_wk (ls := [vr 856, vi _, vi _, vi _, vi _]) ⟨Or.inl rfl, Or.inl rfl, Or.inl rfl, Or.inl rfl, Or.inl rfl, trivial⟩ ?_
          exact ih _ (by omega) _ _ (inR_or _ _) r63 (by omega) rfl
        · skip
          refine at_iload dx_99_25 rfl ?_
          refine at_const (x := 2) dx_99_26 rfl ?_
          refine at_iload dx_99_27 rfl ?_
          refine at_mulR dx_99_28 (by constructor <;> omega) (fun r28 => ?_)
          refine at_const (x := 1) dx_99_29 rfl ?_
          refine at_addR dx_99_30 (by constructor <;> omega) (fun r30 => ?_)
          refine at_shr dx_99_31 ?_
          refine at_const (x := 1) dx_99_32 rfl ?_
          refine at_and dx_99_33 ?_
          refine at_const (x := 1) dx_99_34 rfl ?_
          refine at_cneR dx_99_35 (inR_and _ _) (by decide) (fun c35 => ?_) (fun c35 => ?_)
          · skip
            refine at_const (x := 0) dx_99_47 rfl ?_
            refine at_istore dx_99_48 ?_
            refine at_iload dx_99_49 rfl ?_
            refine at_iload dx_99_50 rfl ?_
            refine at_zeqR dx_99_51 (by decide) (fun _ => ?_) (fun c => absurd c (by decide))
            refine at_const (x := 0) dx_99_60 rfl ?_
            refine at_or dx_99_61 ?_
            refine at_istore dx_99_62 ?_
            refine at_iincR (y := 1) dx_99_63 rfl rfl (by constructor <;> omega) (fun r63 => ?_)
            refine at_goto dx_99_64 ?_
            refine at_wk (ls := [vr 856, vi _, vi _, vi _, vi _]) ⟨Or.inl rfl, Or.inl rfl, Or.inl rfl, Or.inl rfl, Or.inl rfl, trivial⟩ ?_
            exact ih _ (by omega) _ _ (inR_or _ _) r63 (by omega) rfl
          · skip
            refine at_aload dx_99_36 rfl ?_
            refine at_const (x := 3) dx_99_37 rfl ?_
            refine at_iload dx_99_38 rfl ?_
            refine at_mulR dx_99_39 (by constructor <;> omega) (fun r39 => ?_)
            refine at_iload dx_99_40 rfl ?_
            refine at_addR dx_99_41 (by constructor <;> omega) (fun r41 => ?_)
            refine at_const (x := 1) dx_99_42 rfl ?_
            refine at_callVI dx_99_43 rfl lc_856 rfl (m_isDone r41 (by decide) (by omega)) ?_
            rintro x43 M9 r43 ⟨e9, h43⟩; replace e9 := e9.symm; subst e9
            refine at_zeqR dx_99_44 r43 (fun c44 => ?_) (fun c44 => ?_)
            · skip
              refine at_const (x := 0) dx_99_47 rfl ?_
              refine at_istore dx_99_48 ?_
              refine at_iload dx_99_49 rfl ?_
              refine at_iload dx_99_50 rfl ?_
              refine at_zeqR dx_99_51 (by decide) (fun _ => ?_) (fun c => absurd c (by decide))
              refine at_const (x := 0) dx_99_60 rfl ?_
              refine at_or dx_99_61 ?_
              refine at_istore dx_99_62 ?_
              refine at_iincR (y := 1) dx_99_63 rfl rfl (by constructor <;> omega) (fun r63 => ?_)
              refine at_goto dx_99_64 ?_
              refine at_wk (ls := [vr 856, vi _, vi _, vi _, vi _]) ⟨Or.inl rfl, Or.inl rfl, Or.inl rfl, Or.inl rfl, Or.inl rfl, trivial⟩ ?_
              exact ih _ (by omega) _ _ (inR_or _ _) r63 (by omega) rfl
            · skip
              refine at_const (x := 1) dx_99_45 rfl ?_
              refine at_goto dx_99_46 ?_
              refine at_istore dx_99_48 ?_
              refine at_iload dx_99_49 rfl ?_
              refine at_iload dx_99_50 rfl ?_
              refine at_zeqR dx_99_51 (by decide) (fun c => absurd c (by decide)) (fun _ => ?_)
              refine at_const (x := 1) dx_99_52 rfl ?_
              refine at_const (x := 2) dx_99_53 rfl ?_
              refine at_iload dx_99_54 rfl ?_
              refine at_mulR dx_99_55 (by constructor <;> omega) (fun r55 => ?_)
              refine at_const (x := 2) dx_99_56 rfl ?_
              refine at_addR dx_99_57 (by constructor <;> omega) (fun r57 => ?_)
              refine at_shl dx_99_58 ?_
              refine at_goto dx_99_59 ?_
              refine at_or dx_99_61 ?_
              refine at_istore dx_99_62 ?_
              refine at_iincR (y := 1) dx_99_63 rfl rfl (by constructor <;> omega) (fun r63 => ?_)
              refine at_goto dx_99_64 ?_
              refine at_wk (ls := [vr 856, vi _, vi _, vi _, vi _]) ⟨Or.inl rfl, Or.inl rfl, Or.inl rfl, Or.inl rfl, Or.inl rfl, trivial⟩ ?_
              exact ih _ (by omega) _ _ (inR_or _ _) r63 (by omega) rfl
  refine at_iload dx_99_0 rfl ?_
  refine at_istore dx_99_1 ?_
  refine at_const (x := 0) dx_99_2 rfl ?_
  refine at_istore dx_99_3 ?_
  exact lp _ _ 0 ra (by decide) (by decide) rfl

set_option maxRecDepth 100000 in
set_option maxHeartbeats 4000000 in
theorem m_follows {X : scr} {M : mem} {t a k : Int} (rt : inR t) (ra : inR a) (rk : inR k) (ht : 0 ≤ t ∧ t ≤ 5) : At X 0 100 0 [vr 856, vi t, vi a, vi k] [] M (qI (fun x M' => M' = M)) := by
  have lp : ∀ (n : Nat) (c e : Int) (rc : inR c) (re : inR e) (h0 : 0 ≤ e) (hn : (3 - e).toNat = n), At X 0 100 4 [vr 856, vi t, vi a, vi k, vi c, vi e] [] M (qI (fun x M' => M' = M)) := by
    intro n
    induction n using Nat.strongRecOn with
    | ind n ih =>
    intro c e rc re h0 hn
    refine at_iload dx_100_4 rfl ?_
    refine at_const (x := 3) dx_100_5 rfl ?_
    refine at_cgeR dx_100_6 re (by decide) (fun c6 => ?_) (fun c6 => ?_)
    · skip
      refine at_aload dx_100_75 rfl ?_
      refine at_iload dx_100_76 rfl ?_
      refine at_iload dx_100_77 rfl ?_
      refine at_callVI dx_100_78 rfl lc_856 rfl (m_spreads rt rc (by omega)) ?_
      intro x78 M9 r78 e9; replace e9 := Eq.symm e9; subst e9
      refine at_iretI dx_100_79 r78 ?_
      exact rfl
    · skip
      refine at_const (x := 3) dx_100_7 rfl ?_
      refine at_iload dx_100_8 rfl ?_
      refine at_mulR dx_100_9 (by constructor <;> omega) (fun r9 => ?_)
      refine at_iload dx_100_10 rfl ?_
      refine at_addR dx_100_11 (by constructor <;> omega) (fun r11 => ?_)
      refine at_istore dx_100_12 ?_
      refine at_aload dx_100_13 rfl ?_
      refine at_getR dx_100_14 lc_856 rfl lt_856_0 ?_
      refine at_iload dx_100_15 rfl ?_
      refine at_aldI dx_100_16 lc_857 ln_857 (by first | omega | (simp (disch := omega) only [um_eq, um_k, um_j]; omega)) (by first | omega | (simp (disch := omega) only [um_eq, um_k, um_j]; omega)) (fun r16 => ?_)
      refine at_iload dx_100_17 rfl ?_
      refine at_shr dx_100_18 ?_
      refine at_const (x := 1) dx_100_19 rfl ?_
      refine at_and dx_100_20 ?_
      refine at_const (x := 1) dx_100_21 rfl ?_
      refine at_cneR dx_100_22 (inR_and _ _) (by decide) (fun c22 => ?_) (fun c22 => ?_)
      · skip
        refine at_const (x := 0) dx_100_25 rfl ?_
        refine at_istore dx_100_26 ?_
        refine at_iload dx_100_27 rfl ?_
        refine at_const (x := 2) dx_100_28 rfl ?_
        refine at_iload dx_100_29 rfl ?_
        refine at_mulR dx_100_30 (by constructor <;> omega) (fun r30 => ?_)
        refine at_shr dx_100_31 ?_
        refine at_const (x := 1) dx_100_32 rfl ?_
        refine at_and dx_100_33 ?_
        refine at_const (x := 1) dx_100_34 rfl ?_
        refine at_ceqR dx_100_35 (inR_and _ _) (by decide) (fun c35 => ?_) (fun c35 => ?_)
        · skip
          refine at_const (x := 1) dx_100_53 rfl ?_
          refine at_goto dx_100_54 ?_
          refine at_istore dx_100_56 ?_
          refine at_iload dx_100_57 rfl ?_
          refine at_iload dx_100_58 rfl ?_
          refine at_zeqR dx_100_59 (by decide) (fun _ => ?_) (fun c => absurd c (by decide))
          refine at_const (x := 0) dx_100_70 rfl ?_
          refine at_or dx_100_71 ?_
          refine at_istore dx_100_72 ?_
          refine at_iincR (y := 1) dx_100_73 rfl rfl (by constructor <;> omega) (fun r73 => ?_)
          refine at_goto dx_100_74 ?_
          refine at_wk (ls := [vr 856, vi _, vi _, vi _, vi _, vi _]) ⟨Or.inl rfl, Or.inl rfl, Or.inl rfl, Or.inl rfl, Or.inl rfl, Or.inl rfl, trivial⟩ ?_
          exact ih _ (by omega) _ _ (inR_or _ _) r73 (by omega) rfl
        · skip
          refine at_iload dx_100_36 rfl ?_
          refine at_const (x := 2) dx_100_37 rfl ?_
          refine at_iload dx_100_38 rfl ?_
          refine at_mulR dx_100_39 (by constructor <;> omega) (fun r39 => ?_)
          refine at_const (x := 1) dx_100_40 rfl ?_
          refine at_addR dx_100_41 (by constructor <;> omega) (fun r41 => ?_)
          refine at_shr dx_100_42 ?_
          refine at_const (x := 1) dx_100_43 rfl ?_
          refine at_and dx_100_44 ?_
          refine at_const (x := 1) dx_100_45 rfl ?_
          refine at_cneR dx_100_46 (inR_and _ _) (by decide) (fun c46 => ?_) (fun c46 => ?_)
          · skip
            refine at_const (x := 0) dx_100_55 rfl ?_
            refine at_istore dx_100_56 ?_
            refine at_iload dx_100_57 rfl ?_
            refine at_iload dx_100_58 rfl ?_
            refine at_zeqR dx_100_59 (by decide) (fun _ => ?_) (fun c => absurd c (by decide))
            refine at_const (x := 0) dx_100_70 rfl ?_
            refine at_or dx_100_71 ?_
            refine at_istore dx_100_72 ?_
            refine at_iincR (y := 1) dx_100_73 rfl rfl (by constructor <;> omega) (fun r73 => ?_)
            refine at_goto dx_100_74 ?_
            refine at_wk (ls := [vr 856, vi _, vi _, vi _, vi _, vi _]) ⟨Or.inl rfl, Or.inl rfl, Or.inl rfl, Or.inl rfl, Or.inl rfl, Or.inl rfl, trivial⟩ ?_
            exact ih _ (by omega) _ _ (inR_or _ _) r73 (by omega) rfl
          · skip
            refine at_aload dx_100_47 rfl ?_
            refine at_getR dx_100_48 lc_856 rfl lt_856_1 ?_
            refine at_iload dx_100_49 rfl ?_
            refine at_aldI dx_100_50 lc_858 ln_858 (by first | omega | (simp (disch := omega) only [um_eq, um_k, um_j]; omega)) (by first | omega | (simp (disch := omega) only [um_eq, um_k, um_j]; omega)) (fun r50 => ?_)
            refine at_const (x := 1) dx_100_51 rfl ?_
            refine at_cleR dx_100_52 r50 (by decide) (fun c52 => ?_) (fun c52 => ?_)
            · skip
              refine at_const (x := 0) dx_100_55 rfl ?_
              refine at_istore dx_100_56 ?_
              refine at_iload dx_100_57 rfl ?_
              refine at_iload dx_100_58 rfl ?_
              refine at_zeqR dx_100_59 (by decide) (fun _ => ?_) (fun c => absurd c (by decide))
              refine at_const (x := 0) dx_100_70 rfl ?_
              refine at_or dx_100_71 ?_
              refine at_istore dx_100_72 ?_
              refine at_iincR (y := 1) dx_100_73 rfl rfl (by constructor <;> omega) (fun r73 => ?_)
              refine at_goto dx_100_74 ?_
              refine at_wk (ls := [vr 856, vi _, vi _, vi _, vi _, vi _]) ⟨Or.inl rfl, Or.inl rfl, Or.inl rfl, Or.inl rfl, Or.inl rfl, Or.inl rfl, trivial⟩ ?_
              exact ih _ (by omega) _ _ (inR_or _ _) r73 (by omega) rfl
            · skip
              refine at_const (x := 1) dx_100_53 rfl ?_
              refine at_goto dx_100_54 ?_
              refine at_istore dx_100_56 ?_
              refine at_iload dx_100_57 rfl ?_
              refine at_iload dx_100_58 rfl ?_
              refine at_zeqR dx_100_59 (by decide) (fun _ => ?_) (fun c => absurd c (by decide))
              refine at_const (x := 0) dx_100_70 rfl ?_
              refine at_or dx_100_71 ?_
              refine at_istore dx_100_72 ?_
              refine at_iincR (y := 1) dx_100_73 rfl rfl (by constructor <;> omega) (fun r73 => ?_)
              refine at_goto dx_100_74 ?_
              refine at_wk (ls := [vr 856, vi _, vi _, vi _, vi _, vi _]) ⟨Or.inl rfl, Or.inl rfl, Or.inl rfl, Or.inl rfl, Or.inl rfl, Or.inl rfl, trivial⟩ ?_
              exact ih _ (by omega) _ _ (inR_or _ _) r73 (by omega) rfl
      · skip
        refine at_const (x := 1) dx_100_23 rfl ?_
        refine at_goto dx_100_24 ?_
        refine at_istore dx_100_26 ?_
        refine at_iload dx_100_27 rfl ?_
        refine at_const (x := 2) dx_100_28 rfl ?_
        refine at_iload dx_100_29 rfl ?_
        refine at_mulR dx_100_30 (by constructor <;> omega) (fun r30 => ?_)
        refine at_shr dx_100_31 ?_
        refine at_const (x := 1) dx_100_32 rfl ?_
        refine at_and dx_100_33 ?_
        refine at_const (x := 1) dx_100_34 rfl ?_
        refine at_ceqR dx_100_35 (inR_and _ _) (by decide) (fun c35 => ?_) (fun c35 => ?_)
        · skip
          refine at_const (x := 1) dx_100_53 rfl ?_
          refine at_goto dx_100_54 ?_
          refine at_istore dx_100_56 ?_
          refine at_iload dx_100_57 rfl ?_
          refine at_iload dx_100_58 rfl ?_
          refine at_zeqR dx_100_59 (by decide) (fun c => absurd c (by decide)) (fun _ => ?_)
          refine at_iload dx_100_60 rfl ?_
          refine at_zeqR dx_100_61 (by decide) (fun c => absurd c (by decide)) (fun _ => ?_)
          refine at_const (x := 1) dx_100_62 rfl ?_
          refine at_const (x := 2) dx_100_63 rfl ?_
          refine at_iload dx_100_64 rfl ?_
          refine at_mulR dx_100_65 (by constructor <;> omega) (fun r65 => ?_)
          refine at_const (x := 1) dx_100_66 rfl ?_
          refine at_addR dx_100_67 (by constructor <;> omega) (fun r67 => ?_)
          refine at_shl dx_100_68 ?_
          refine at_goto dx_100_69 ?_
          refine at_or dx_100_71 ?_
          refine at_istore dx_100_72 ?_
          refine at_iincR (y := 1) dx_100_73 rfl rfl (by constructor <;> omega) (fun r73 => ?_)
          refine at_goto dx_100_74 ?_
          refine at_wk (ls := [vr 856, vi _, vi _, vi _, vi _, vi _]) ⟨Or.inl rfl, Or.inl rfl, Or.inl rfl, Or.inl rfl, Or.inl rfl, Or.inl rfl, trivial⟩ ?_
          exact ih _ (by omega) _ _ (inR_or _ _) r73 (by omega) rfl
        · skip
          refine at_iload dx_100_36 rfl ?_
          refine at_const (x := 2) dx_100_37 rfl ?_
          refine at_iload dx_100_38 rfl ?_
          refine at_mulR dx_100_39 (by constructor <;> omega) (fun r39 => ?_)
          refine at_const (x := 1) dx_100_40 rfl ?_
          refine at_addR dx_100_41 (by constructor <;> omega) (fun r41 => ?_)
          refine at_shr dx_100_42 ?_
          refine at_const (x := 1) dx_100_43 rfl ?_
          refine at_and dx_100_44 ?_
          refine at_const (x := 1) dx_100_45 rfl ?_
          refine at_cneR dx_100_46 (inR_and _ _) (by decide) (fun c46 => ?_) (fun c46 => ?_)
          · skip
            refine at_const (x := 0) dx_100_55 rfl ?_
            refine at_istore dx_100_56 ?_
            refine at_iload dx_100_57 rfl ?_
            refine at_iload dx_100_58 rfl ?_
            refine at_zeqR dx_100_59 (by decide) (fun c => absurd c (by decide)) (fun _ => ?_)
            refine at_iload dx_100_60 rfl ?_
            refine at_zeqR dx_100_61 (by decide) (fun _ => ?_) (fun c => absurd c (by decide))
            refine at_const (x := 0) dx_100_70 rfl ?_
            refine at_or dx_100_71 ?_
            refine at_istore dx_100_72 ?_
            refine at_iincR (y := 1) dx_100_73 rfl rfl (by constructor <;> omega) (fun r73 => ?_)
            refine at_goto dx_100_74 ?_
            refine at_wk (ls := [vr 856, vi _, vi _, vi _, vi _, vi _]) ⟨Or.inl rfl, Or.inl rfl, Or.inl rfl, Or.inl rfl, Or.inl rfl, Or.inl rfl, trivial⟩ ?_
            exact ih _ (by omega) _ _ (inR_or _ _) r73 (by omega) rfl
          · skip
            refine at_aload dx_100_47 rfl ?_
            refine at_getR dx_100_48 lc_856 rfl lt_856_1 ?_
            refine at_iload dx_100_49 rfl ?_
            refine at_aldI dx_100_50 lc_858 ln_858 (by first | omega | (simp (disch := omega) only [um_eq, um_k, um_j]; omega)) (by first | omega | (simp (disch := omega) only [um_eq, um_k, um_j]; omega)) (fun r50 => ?_)
            refine at_const (x := 1) dx_100_51 rfl ?_
            refine at_cleR dx_100_52 r50 (by decide) (fun c52 => ?_) (fun c52 => ?_)
            · skip
              refine at_const (x := 0) dx_100_55 rfl ?_
              refine at_istore dx_100_56 ?_
              refine at_iload dx_100_57 rfl ?_
              refine at_iload dx_100_58 rfl ?_
              refine at_zeqR dx_100_59 (by decide) (fun c => absurd c (by decide)) (fun _ => ?_)
              refine at_iload dx_100_60 rfl ?_
              refine at_zeqR dx_100_61 (by decide) (fun _ => ?_) (fun c => absurd c (by decide))
              refine at_const (x := 0) dx_100_70 rfl ?_
              refine at_or dx_100_71 ?_
              refine at_istore dx_100_72 ?_
              refine at_iincR (y := 1) dx_100_73 rfl rfl (by constructor <;> omega) (fun r73 => ?_)
              refine at_goto dx_100_74 ?_
              refine at_wk (ls := [vr 856, vi _, vi _, vi _, vi _, vi _]) ⟨Or.inl rfl, Or.inl rfl, Or.inl rfl, Or.inl rfl, Or.inl rfl, Or.inl rfl, trivial⟩ ?_
              exact ih _ (by omega) _ _ (inR_or _ _) r73 (by omega) rfl
            · skip
              refine at_const (x := 1) dx_100_53 rfl ?_
              refine at_goto dx_100_54 ?_
              refine at_istore dx_100_56 ?_
              refine at_iload dx_100_57 rfl ?_
              refine at_iload dx_100_58 rfl ?_
              refine at_zeqR dx_100_59 (by decide) (fun c => absurd c (by decide)) (fun _ => ?_)
              refine at_iload dx_100_60 rfl ?_
              refine at_zeqR dx_100_61 (by decide) (fun c => absurd c (by decide)) (fun _ => ?_)
              refine at_const (x := 1) dx_100_62 rfl ?_
              refine at_const (x := 2) dx_100_63 rfl ?_
              refine at_iload dx_100_64 rfl ?_
              refine at_mulR dx_100_65 (by constructor <;> omega) (fun r65 => ?_)
              refine at_const (x := 1) dx_100_66 rfl ?_
              refine at_addR dx_100_67 (by constructor <;> omega) (fun r67 => ?_)
              refine at_shl dx_100_68 ?_
              refine at_goto dx_100_69 ?_
              refine at_or dx_100_71 ?_
              refine at_istore dx_100_72 ?_
              refine at_iincR (y := 1) dx_100_73 rfl rfl (by constructor <;> omega) (fun r73 => ?_)
              refine at_goto dx_100_74 ?_
              refine at_wk (ls := [vr 856, vi _, vi _, vi _, vi _, vi _]) ⟨Or.inl rfl, Or.inl rfl, Or.inl rfl, Or.inl rfl, Or.inl rfl, Or.inl rfl, trivial⟩ ?_
              exact ih _ (by omega) _ _ (inR_or _ _) r73 (by omega) rfl
  refine at_const (x := 0) dx_100_0 rfl ?_
  refine at_istore dx_100_1 ?_
  refine at_const (x := 0) dx_100_2 rfl ?_
  refine at_istore dx_100_3 ?_
  exact lp _ _ 0 (by decide) (by decide) (by decide) rfl

set_option maxRecDepth 100000 in
set_option maxHeartbeats 4000000 in
theorem m_isValid {X : scr} {M : mem} (hl : 0 ≤ M 856 23) : At X 0 101 0 [vr 856] [] M (qI (fun x M' => frE (fun q _ => q = 881 ∨ q = 882) M M' ∧ (x = 0 ∨ x = 1) ∧ (x = 1 → M 856 23 ≤ 60 ∧ Bal (wk M)))) := by
  have lp : ∀ (n : Nat) (d k : Int) (M1 : mem) (rd : inR d) (rk : inR k) (hk : 0 ≤ k ∧ k ≤ M 856 23) (hl6 : M 856 23 ≤ 60) (hd : 0 ≤ d ∧ d ≤ k) (hn : (M 856 23 - k).toNat = n) (F : frE (fun q _ => q = 881 ∨ q = 882) M M1) (ho : (∀ j : Int, 0 ≤ j → j ≤ d → 0 ≤ M1 881 j ∧ M1 881 j ≤ 5)) (w1 : dsm (wk M) k.toNat = d) (w2 : ∀ i, i ≤ k.toNat → 0 ≤ dsm (wk M) i), At X 0 101 23 [vr 856, vi d, vi k] [] M1 (qI (fun x M' => frE (fun q _ => q = 881 ∨ q = 882) M M' ∧ (x = 0 ∨ x = 1) ∧ (x = 1 → M 856 23 ≤ 60 ∧ Bal (wk M)))) := by
    intro n
    induction n using Nat.strongRecOn with
    | ind n ih =>
    intro d k M1 rd rk hk hl6 hd hn F ho w1 w2
    have el : M1 856 23 = M 856 23 := F 856 23 (by (try dsimp only [stE]); first | done | omega)
    have ew : M1 877 k = M 877 k := F 877 k (by (try dsimp only [stE]); first | done | omega)
    have hod := ho d hd.1 (Int.le_refl d)
    have hs : k < M 856 23 → dsm (wk M) (k + 1).toNat = d + dch (M 877 k) := fun hh => by
      rw [show (k + 1).toNat = k.toNat + 1 by omega]
      show dsm (wk M) k.toNat + dch ((wk M).getD k.toNat 0) = _
      rw [wk_at (by omega), w1, Int.toNat_of_nonneg hk.1]
    have hw : ∀ z, dsm (wk M) (k + 1).toNat = z → 0 ≤ z → ∀ i, i ≤ (k + 1).toNat → 0 ≤ dsm (wk M) i := fun z hz h0 i hi => by
      by_cases e : i = (k + 1).toNat
      · rw [e, hz]; exact h0
      · exact w2 i (by omega)
    refine at_iload dx_101_23 rfl ?_
    refine at_aload dx_101_24 rfl ?_
    refine at_getI 23 dx_101_25 lc_856 rfl rfl (fun r25 => ?_)
    refine at_cgeR dx_101_26 rk r25 (fun c26 => ?_) (fun c26 => ?_)
    · skip
      refine at_iload dx_101_89 rfl ?_
      refine at_zneR dx_101_90 rd (fun c90 => ?_) (fun c90 => ?_)
      · skip
        refine at_const (x := 0) dx_101_103 rfl ?_
        refine at_zretI dx_101_104 (Or.inl rfl) ?_
        first
        | exact ⟨F, Or.inl rfl, fun e => absurd e (by decide)⟩
        | (refine ⟨F, Or.inr rfl, fun _ => ⟨hl6, ?_⟩⟩
           have hkl : k = M 856 23 := by omega
           subst hkl
           rw [← wk_len] at w1 w2
           exact ⟨w2, by rw [w1]; omega⟩)
      · skip
        refine at_aload dx_101_91 rfl ?_
        refine at_getR dx_101_92 lc_856 rfl lt_856_30 ?_
        refine at_const (x := 0) dx_101_93 rfl ?_
        refine at_aldI dx_101_94 lc_882 ln_882 (by decide) (by decide) (fun r94 => ?_)
        refine at_const (x := 6) dx_101_95 rfl ?_
        refine at_shr dx_101_96 ?_
        refine at_const (x := 1) dx_101_97 rfl ?_
        refine at_and dx_101_98 ?_
        refine at_const (x := 1) dx_101_99 rfl ?_
        refine at_cneR dx_101_100 (inR_and _ _) (by decide) (fun c100 => ?_) (fun c100 => ?_)
        · skip
          refine at_const (x := 0) dx_101_103 rfl ?_
          refine at_zretI dx_101_104 (Or.inl rfl) ?_
          first
          | exact ⟨F, Or.inl rfl, fun e => absurd e (by decide)⟩
          | (refine ⟨F, Or.inr rfl, fun _ => ⟨hl6, ?_⟩⟩
             have hkl : k = M 856 23 := by omega
             subst hkl
             rw [← wk_len] at w1 w2
             exact ⟨w2, by rw [w1]; omega⟩)
        · skip
          refine at_const (x := 1) dx_101_101 rfl ?_
          refine at_goto dx_101_102 ?_
          refine at_zretI dx_101_104 (Or.inr rfl) ?_
          first
          | exact ⟨F, Or.inl rfl, fun e => absurd e (by decide)⟩
          | (refine ⟨F, Or.inr rfl, fun _ => ⟨hl6, ?_⟩⟩
             have hkl : k = M 856 23 := by omega
             subst hkl
             rw [← wk_len] at w1 w2
             exact ⟨w2, by rw [w1]; omega⟩)
    · skip
      refine at_aload dx_101_27 rfl ?_
      refine at_getR dx_101_28 lc_856 rfl lt_856_22 ?_
      refine at_iload dx_101_29 rfl ?_
      refine at_aldI dx_101_30 lc_877 ln_877 (by first | omega | (simp (disch := omega) only [um_eq, um_k, um_j]; omega)) (by first | omega | (simp (disch := omega) only [um_eq, um_k, um_j]; omega)) (fun r30 => ?_)
      refine at_istore dx_101_31 ?_
      refine at_iload dx_101_32 rfl ?_
      refine at_zneR dx_101_33 r30 (fun c33 => ?_) (fun c33 => ?_)
      · skip
        refine at_iload dx_101_49 rfl ?_
        refine at_callSI dx_101_50 rfl rfl (m_opens r30) ?_
        rintro x50 M9 r50 ⟨e9, h50⟩; replace e9 := e9.symm; subst e9
        refine at_istore dx_101_51 ?_
        refine at_aload dx_101_52 rfl ?_
        refine at_getR dx_101_53 lc_856 rfl lt_856_30 ?_
        refine at_iload dx_101_54 rfl ?_
        refine at_aload dx_101_55 rfl ?_
        refine at_aload dx_101_56 rfl ?_
        refine at_getR dx_101_57 lc_856 rfl lt_856_29 ?_
        refine at_iload dx_101_58 rfl ?_
        refine at_aldI dx_101_59 lc_881 ln_881 (by first | omega | (simp (disch := omega) only [um_eq, um_k, um_j]; omega)) (by first | omega | (simp (disch := omega) only [um_eq, um_k, um_j]; omega)) (fun r59 => ?_)
        refine at_aload dx_101_60 rfl ?_
        refine at_getR dx_101_61 lc_856 rfl lt_856_30 ?_
        refine at_iload dx_101_62 rfl ?_
        refine at_aldI dx_101_63 lc_882 ln_882 (by first | omega | (simp (disch := omega) only [um_eq, um_k, um_j]; omega)) (by first | omega | (simp (disch := omega) only [um_eq, um_k, um_j]; omega)) (fun r63 => ?_)
        refine at_iload dx_101_64 rfl ?_
        refine at_zeqR dx_101_65 r50 (fun c65 => ?_) (fun c65 => ?_)
        · skip
          refine at_const (x := 6) dx_101_68 rfl ?_
          refine at_callVI dx_101_69 rfl lc_856 rfl (m_follows r59 r63 (by decide) (by omega)) ?_
          intro x69 M9 r69 e9; replace e9 := Eq.symm e9; subst e9
          refine at_astI dx_101_70 lc_882 ln_882 (by first | omega | (simp (disch := omega) only [um_eq, um_k, um_j]; omega)) (by first | omega | (simp (disch := omega) only [um_eq, um_k, um_j]; omega)) r69 ?_
          refine at_iload dx_101_71 rfl ?_
          refine at_zeqR dx_101_72 r50 (fun c72 => ?_) (fun c72 => ?_)
          · skip
            refine at_iincR (y := 1) dx_101_87 rfl rfl (by constructor <;> omega) (fun r87 => ?_)
            refine at_goto dx_101_88 ?_
            refine at_wk (ls := [vr 856, vi _, vi _]) ⟨Or.inl rfl, Or.inl rfl, Or.inl rfl, trivial⟩ ?_
            first
            | (exfalso; omega)
            | (have hz : dch (M 877 k) = -1 := by unfold dch; rw [if_pos (by omega)]
               have hq := hs (by omega)
               rw [hz] at hq
               exact ih _ (by omega) _ _ _ r47 r87 (by omega) hl6 (by omega) rfl F (fun j h1 h2 => ho j h1 (by omega)) hq (hw _ hq (by omega)))
            | (have hn5 : ¬ (1 ≤ M 877 k ∧ M 877 k ≤ 5) := fun hh => by rw [if_pos (by omega)] at h50; omega
               have hz : dch (M 877 k) = 0 := by unfold dch; rw [if_neg (by omega), if_neg hn5]
               have hq := hs (by omega)
               rw [hz, Int.add_zero] at hq
               exact ih _ (by omega) _ _ _ rd r87 (by omega) hl6 (by omega) rfl (fe_ums F (by (try dsimp only [stE]); first | done | omega)) (fun j h1 h2 => by rw [um_k (by decide)]; exact ho j h1 h2) hq (hw _ hq (by omega)))
            | (have hy5 : 1 ≤ M 877 k ∧ M 877 k ≤ 5 := by split at h50 <;> omega
               have hz : dch (M 877 k) = 1 := by unfold dch; rw [if_neg (by omega), if_pos hy5]
               have hq := hs (by omega)
               rw [hz] at hq
               refine ih _ (by omega) _ _ _ r73 r87 (by omega) hl6 (by omega) rfl (fe_ums (fe_ums (fe_ums F (by (try dsimp only [stE]); first | done | omega)) (by (try dsimp only [stE]); first | done | omega)) (by (try dsimp only [stE]); first | done | omega)) (fun j h1 h2 => ?_) hq (hw _ hq (by omega))
               rw [um_k (by decide)]
               by_cases ej : j = d + 1
               · subst ej; rw [um_eq]; omega
               · rw [um_j ej, um_k (by decide)]; exact ho j h1 (by omega))
          · skip
            refine at_iincR (y := 1) dx_101_73 rfl rfl (by constructor <;> omega) (fun r73 => ?_)
            refine at_aload dx_101_74 rfl ?_
            refine at_getR dx_101_75 lc_856 rfl lt_856_29 ?_
            refine at_iload dx_101_76 rfl ?_
            refine at_iload dx_101_77 rfl ?_
            refine at_astI dx_101_78 lc_881 ln_881 (by first | omega | (simp (disch := omega) only [um_eq, um_k, um_j]; omega)) (by first | omega | (simp (disch := omega) only [um_eq, um_k, um_j]; omega)) r30 ?_
            refine at_aload dx_101_79 rfl ?_
            refine at_getR dx_101_80 lc_856 rfl lt_856_30 ?_
            refine at_iload dx_101_81 rfl ?_
            refine at_aload dx_101_82 rfl ?_
            refine at_iload dx_101_83 rfl ?_
            refine at_const (x := 1) dx_101_84 rfl ?_
            refine at_callVI dx_101_85 rfl lc_856 rfl (m_spreads r30 (by decide) (by omega)) ?_
            intro x85 M9 r85 e9; replace e9 := Eq.symm e9; subst e9
            refine at_astI dx_101_86 lc_882 ln_882 (by first | omega | (simp (disch := omega) only [um_eq, um_k, um_j]; omega)) (by first | omega | (simp (disch := omega) only [um_eq, um_k, um_j]; omega)) r85 ?_
            refine at_iincR (y := 1) dx_101_87 rfl rfl (by constructor <;> omega) (fun r87 => ?_)
            refine at_goto dx_101_88 ?_
            refine at_wk (ls := [vr 856, vi _, vi _]) ⟨Or.inl rfl, Or.inl rfl, Or.inl rfl, trivial⟩ ?_
            first
            | (exfalso; omega)
            | (have hz : dch (M 877 k) = -1 := by unfold dch; rw [if_pos (by omega)]
               have hq := hs (by omega)
               rw [hz] at hq
               exact ih _ (by omega) _ _ _ r47 r87 (by omega) hl6 (by omega) rfl F (fun j h1 h2 => ho j h1 (by omega)) hq (hw _ hq (by omega)))
            | (have hn5 : ¬ (1 ≤ M 877 k ∧ M 877 k ≤ 5) := fun hh => by rw [if_pos (by omega)] at h50; omega
               have hz : dch (M 877 k) = 0 := by unfold dch; rw [if_neg (by omega), if_neg hn5]
               have hq := hs (by omega)
               rw [hz, Int.add_zero] at hq
               exact ih _ (by omega) _ _ _ rd r87 (by omega) hl6 (by omega) rfl (fe_ums F (by (try dsimp only [stE]); first | done | omega)) (fun j h1 h2 => by rw [um_k (by decide)]; exact ho j h1 h2) hq (hw _ hq (by omega)))
            | (have hy5 : 1 ≤ M 877 k ∧ M 877 k ≤ 5 := by split at h50 <;> omega
               have hz : dch (M 877 k) = 1 := by unfold dch; rw [if_neg (by omega), if_pos hy5]
               have hq := hs (by omega)
               rw [hz] at hq
               refine ih _ (by omega) _ _ _ r73 r87 (by omega) hl6 (by omega) rfl (fe_ums (fe_ums (fe_ums F (by (try dsimp only [stE]); first | done | omega)) (by (try dsimp only [stE]); first | done | omega)) (by (try dsimp only [stE]); first | done | omega)) (fun j h1 h2 => ?_) hq (hw _ hq (by omega))
               rw [um_k (by decide)]
               by_cases ej : j = d + 1
               · subst ej; rw [um_eq]; omega
               · rw [um_j ej, um_k (by decide)]; exact ho j h1 (by omega))
        · skip
          refine at_iload dx_101_66 rfl ?_
          refine at_goto dx_101_67 ?_
          refine at_callVI dx_101_69 rfl lc_856 rfl (m_follows r59 r63 r30 (by omega)) ?_
          intro x69 M9 r69 e9; replace e9 := Eq.symm e9; subst e9
          refine at_astI dx_101_70 lc_882 ln_882 (by first | omega | (simp (disch := omega) only [um_eq, um_k, um_j]; omega)) (by first | omega | (simp (disch := omega) only [um_eq, um_k, um_j]; omega)) r69 ?_
          refine at_iload dx_101_71 rfl ?_
          refine at_zeqR dx_101_72 r50 (fun c72 => ?_) (fun c72 => ?_)
          · skip
            refine at_iincR (y := 1) dx_101_87 rfl rfl (by constructor <;> omega) (fun r87 => ?_)
            refine at_goto dx_101_88 ?_
            refine at_wk (ls := [vr 856, vi _, vi _]) ⟨Or.inl rfl, Or.inl rfl, Or.inl rfl, trivial⟩ ?_
            first
            | (exfalso; omega)
            | (have hz : dch (M 877 k) = -1 := by unfold dch; rw [if_pos (by omega)]
               have hq := hs (by omega)
               rw [hz] at hq
               exact ih _ (by omega) _ _ _ r47 r87 (by omega) hl6 (by omega) rfl F (fun j h1 h2 => ho j h1 (by omega)) hq (hw _ hq (by omega)))
            | (have hn5 : ¬ (1 ≤ M 877 k ∧ M 877 k ≤ 5) := fun hh => by rw [if_pos (by omega)] at h50; omega
               have hz : dch (M 877 k) = 0 := by unfold dch; rw [if_neg (by omega), if_neg hn5]
               have hq := hs (by omega)
               rw [hz, Int.add_zero] at hq
               exact ih _ (by omega) _ _ _ rd r87 (by omega) hl6 (by omega) rfl (fe_ums F (by (try dsimp only [stE]); first | done | omega)) (fun j h1 h2 => by rw [um_k (by decide)]; exact ho j h1 h2) hq (hw _ hq (by omega)))
            | (have hy5 : 1 ≤ M 877 k ∧ M 877 k ≤ 5 := by split at h50 <;> omega
               have hz : dch (M 877 k) = 1 := by unfold dch; rw [if_neg (by omega), if_pos hy5]
               have hq := hs (by omega)
               rw [hz] at hq
               refine ih _ (by omega) _ _ _ r73 r87 (by omega) hl6 (by omega) rfl (fe_ums (fe_ums (fe_ums F (by (try dsimp only [stE]); first | done | omega)) (by (try dsimp only [stE]); first | done | omega)) (by (try dsimp only [stE]); first | done | omega)) (fun j h1 h2 => ?_) hq (hw _ hq (by omega))
               rw [um_k (by decide)]
               by_cases ej : j = d + 1
               · subst ej; rw [um_eq]; omega
               · rw [um_j ej, um_k (by decide)]; exact ho j h1 (by omega))
          · skip
            refine at_iincR (y := 1) dx_101_73 rfl rfl (by constructor <;> omega) (fun r73 => ?_)
            refine at_aload dx_101_74 rfl ?_
            refine at_getR dx_101_75 lc_856 rfl lt_856_29 ?_
            refine at_iload dx_101_76 rfl ?_
            refine at_iload dx_101_77 rfl ?_
            refine at_astI dx_101_78 lc_881 ln_881 (by first | omega | (simp (disch := omega) only [um_eq, um_k, um_j]; omega)) (by first | omega | (simp (disch := omega) only [um_eq, um_k, um_j]; omega)) r30 ?_
            refine at_aload dx_101_79 rfl ?_
            refine at_getR dx_101_80 lc_856 rfl lt_856_30 ?_
            refine at_iload dx_101_81 rfl ?_
            refine at_aload dx_101_82 rfl ?_
            refine at_iload dx_101_83 rfl ?_
            refine at_const (x := 1) dx_101_84 rfl ?_
            refine at_callVI dx_101_85 rfl lc_856 rfl (m_spreads r30 (by decide) (by omega)) ?_
            intro x85 M9 r85 e9; replace e9 := Eq.symm e9; subst e9
            refine at_astI dx_101_86 lc_882 ln_882 (by first | omega | (simp (disch := omega) only [um_eq, um_k, um_j]; omega)) (by first | omega | (simp (disch := omega) only [um_eq, um_k, um_j]; omega)) r85 ?_
            refine at_iincR (y := 1) dx_101_87 rfl rfl (by constructor <;> omega) (fun r87 => ?_)
            refine at_goto dx_101_88 ?_
            refine at_wk (ls := [vr 856, vi _, vi _]) ⟨Or.inl rfl, Or.inl rfl, Or.inl rfl, trivial⟩ ?_
            first
            | (exfalso; omega)
            | (have hz : dch (M 877 k) = -1 := by unfold dch; rw [if_pos (by omega)]
               have hq := hs (by omega)
               rw [hz] at hq
               exact ih _ (by omega) _ _ _ r47 r87 (by omega) hl6 (by omega) rfl F (fun j h1 h2 => ho j h1 (by omega)) hq (hw _ hq (by omega)))
            | (have hn5 : ¬ (1 ≤ M 877 k ∧ M 877 k ≤ 5) := fun hh => by rw [if_pos (by omega)] at h50; omega
               have hz : dch (M 877 k) = 0 := by unfold dch; rw [if_neg (by omega), if_neg hn5]
               have hq := hs (by omega)
               rw [hz, Int.add_zero] at hq
               exact ih _ (by omega) _ _ _ rd r87 (by omega) hl6 (by omega) rfl (fe_ums F (by (try dsimp only [stE]); first | done | omega)) (fun j h1 h2 => by rw [um_k (by decide)]; exact ho j h1 h2) hq (hw _ hq (by omega)))
            | (have hy5 : 1 ≤ M 877 k ∧ M 877 k ≤ 5 := by split at h50 <;> omega
               have hz : dch (M 877 k) = 1 := by unfold dch; rw [if_neg (by omega), if_pos hy5]
               have hq := hs (by omega)
               rw [hz] at hq
               refine ih _ (by omega) _ _ _ r73 r87 (by omega) hl6 (by omega) rfl (fe_ums (fe_ums (fe_ums F (by (try dsimp only [stE]); first | done | omega)) (by (try dsimp only [stE]); first | done | omega)) (by (try dsimp only [stE]); first | done | omega)) (fun j h1 h2 => ?_) hq (hw _ hq (by omega))
               rw [um_k (by decide)]
               by_cases ej : j = d + 1
               · subst ej; rw [um_eq]; omega
               · rw [um_j ej, um_k (by decide)]; exact ho j h1 (by omega))
      · skip
        refine at_iload dx_101_34 rfl ?_
        refine at_zeqR dx_101_35 rd (fun c35 => ?_) (fun c35 => ?_)
        · skip
          refine at_const (x := 0) dx_101_45 rfl ?_
          refine at_zretI dx_101_46 (Or.inl rfl) ?_
          exact ⟨F, Or.inl rfl, fun e => absurd e (by decide)⟩
        · skip
          refine at_aload dx_101_36 rfl ?_
          refine at_getR dx_101_37 lc_856 rfl lt_856_30 ?_
          refine at_iload dx_101_38 rfl ?_
          refine at_aldI dx_101_39 lc_882 ln_882 (by first | omega | (simp (disch := omega) only [um_eq, um_k, um_j]; omega)) (by first | omega | (simp (disch := omega) only [um_eq, um_k, um_j]; omega)) (fun r39 => ?_)
          refine at_const (x := 6) dx_101_40 rfl ?_
          refine at_shr dx_101_41 ?_
          refine at_const (x := 1) dx_101_42 rfl ?_
          refine at_and dx_101_43 ?_
          refine at_zneR dx_101_44 (inR_and _ _) (fun c44 => ?_) (fun c44 => ?_)
          · skip
            refine at_iincR (y := -1) dx_101_47 rfl rfl (by constructor <;> omega) (fun r47 => ?_)
            refine at_goto dx_101_48 ?_
            refine at_iincR (y := 1) dx_101_87 rfl rfl (by constructor <;> omega) (fun r87 => ?_)
            refine at_goto dx_101_88 ?_
            refine at_wk (ls := [vr 856, vi _, vi _]) ⟨Or.inl rfl, Or.inl rfl, Or.inl rfl, trivial⟩ ?_
            first
            | (exfalso; omega)
            | (have hz : dch (M 877 k) = -1 := by unfold dch; rw [if_pos (by omega)]
               have hq := hs (by omega)
               rw [hz] at hq
               exact ih _ (by omega) _ _ _ r47 r87 (by omega) hl6 (by omega) rfl F (fun j h1 h2 => ho j h1 (by omega)) hq (hw _ hq (by omega)))
            | (have hn5 : ¬ (1 ≤ M 877 k ∧ M 877 k ≤ 5) := fun hh => by rw [if_pos (by omega)] at h50; omega
               have hz : dch (M 877 k) = 0 := by unfold dch; rw [if_neg (by omega), if_neg hn5]
               have hq := hs (by omega)
               rw [hz, Int.add_zero] at hq
               exact ih _ (by omega) _ _ _ rd r87 (by omega) hl6 (by omega) rfl (fe_ums F (by (try dsimp only [stE]); first | done | omega)) (fun j h1 h2 => by rw [um_k (by decide)]; exact ho j h1 h2) hq (hw _ hq (by omega)))
            | (have hy5 : 1 ≤ M 877 k ∧ M 877 k ≤ 5 := by split at h50 <;> omega
               have hz : dch (M 877 k) = 1 := by unfold dch; rw [if_neg (by omega), if_pos hy5]
               have hq := hs (by omega)
               rw [hz] at hq
               refine ih _ (by omega) _ _ _ r73 r87 (by omega) hl6 (by omega) rfl (fe_ums (fe_ums (fe_ums F (by (try dsimp only [stE]); first | done | omega)) (by (try dsimp only [stE]); first | done | omega)) (by (try dsimp only [stE]); first | done | omega)) (fun j h1 h2 => ?_) hq (hw _ hq (by omega))
               rw [um_k (by decide)]
               by_cases ej : j = d + 1
               · subst ej; rw [um_eq]; omega
               · rw [um_j ej, um_k (by decide)]; exact ho j h1 (by omega))
          · skip
            refine at_const (x := 0) dx_101_45 rfl ?_
            refine at_zretI dx_101_46 (Or.inl rfl) ?_
            exact ⟨F, Or.inl rfl, fun e => absurd e (by decide)⟩
  refine at_aload dx_101_0 rfl ?_
  refine at_getI 23 dx_101_1 lc_856 rfl rfl (fun r1 => ?_)
  refine at_const (x := 60) dx_101_2 rfl ?_
  refine at_cleR dx_101_3 r1 (by decide) (fun c3 => ?_) (fun c3 => ?_)
  · skip
    refine at_const (x := 0) dx_101_6 rfl ?_
    refine at_istore dx_101_7 ?_
    refine at_aload dx_101_8 rfl ?_
    refine at_getR dx_101_9 lc_856 rfl lt_856_29 ?_
    refine at_const (x := 0) dx_101_10 rfl ?_
    refine at_const (x := 0) dx_101_11 rfl ?_
    refine at_astI dx_101_12 lc_881 ln_881 (by decide) (by decide) (by decide) ?_
    refine at_aload dx_101_13 rfl ?_
    refine at_getR dx_101_14 lc_856 rfl lt_856_30 ?_
    refine at_const (x := 0) dx_101_15 rfl ?_
    refine at_aload dx_101_16 rfl ?_
    refine at_const (x := 0) dx_101_17 rfl ?_
    refine at_const (x := 1) dx_101_18 rfl ?_
    refine at_callVI dx_101_19 rfl lc_856 rfl (m_spreads (by decide) (by decide) (by omega)) ?_
    intro x19 M9 r19 e9; replace e9 := Eq.symm e9; subst e9
    refine at_astI dx_101_20 lc_882 ln_882 (by decide) (by decide) r19 ?_
    refine at_const (x := 0) dx_101_21 rfl ?_
    refine at_istore dx_101_22 ?_
    exact lp _ 0 0 _ (by decide) (by decide) (by omega) (by omega) (by decide) rfl (by (repeat (first | exact fe_rf | refine fe_ums ?_ (by (try dsimp only); first | done | omega)))) (fun j h1 h2 => by rw [show j = 0 by omega]; simp (disch := omega) only [um_eq, um_k]; decide) rfl (fun i hi => by rw [show i = 0 by omega]; exact Int.le_refl _)
  · skip
    refine at_const (x := 0) dx_101_4 rfl ?_
    refine at_zretI dx_101_5 (Or.inl rfl) ?_
    exact ⟨fe_rf, Or.inl rfl, fun e => absurd e (by decide)⟩
