/-! ===== what is so of the class between two calls ===== -/
noncomputable def Run : List sV → List Int → List Int → Prop
  | [], l, l' => l' = l
  | v :: vs, l, l' => okV v l ∧ Run vs (apV v l) l'
theorem Run_app (a b : List sV) : ∀ l l'', Run (a ++ b) l l'' ↔ ∃ l', Run a l l' ∧ Run b l' l'' := by
  induction a with
  | nil =>
    intro l l''
    constructor
    · intro h; exact ⟨l, rfl, h⟩
    · rintro ⟨l', h1, h2⟩
      have h1 : l' = l := h1
      subst h1
      exact h2
  | cons v vs ih =>
    intro l l''
    constructor
    · rintro ⟨h1, h2⟩
      obtain ⟨l', h3, h4⟩ := (ih _ _).mp h2
      exact ⟨l', ⟨h1, h3⟩, h4⟩
    · rintro ⟨l', ⟨h1, h3⟩, h4⟩
      exact ⟨h1, (ih _ _).mpr ⟨l', h3, h4⟩⟩
theorem Run_one {v : sV} {l l' : List Int} : Run [v] l l' ↔ okV v l ∧ l' = apV v l := Iff.rfl
noncomputable def lgV (M : mem) (n : Int) : List sV := (List.range n.toNat).map (fun i : Nat => sv M (32 + 8 * i))
noncomputable def pdV (M : mem) (c : Nat) (n : Int) : List sV := (List.range n.toNat).map (fun i : Nat => sv M (c + 8 + 8 * i))
theorem lgV_succ {M : mem} {n : Int} (h : 0 ≤ n) : lgV M (n + 1) = lgV M n ++ [sv M (32 + 8 * n.toNat)] := by
  unfold lgV
  rw [show (n + 1).toNat = n.toNat + 1 by omega, List.range_succ, List.map_append]
  rfl
theorem pdV_succ {M : mem} {c : Nat} {n : Int} (h : 0 ≤ n) : pdV M c (n + 1) = pdV M c n ++ [sv M (c + 8 + 8 * n.toNat)] := by
  unfold pdV
  rw [show (n + 1).toNat = n.toNat + 1 by omega, List.range_succ, List.map_append]
  rfl
/-- cells whose contents nothing rests on between two calls -/
abbrev sq (q : Nat) : Prop := (2 ≤ q ∧ q ≤ 5) ∨ q = 10 ∨ q = 11 ∨ (12 ≤ q ∧ q ≤ 23) ∨ (25 ≤ q ∧ q ≤ 31) ∨ (32 ≤ q ∧ q < 512 ∧ (q % 8 = 4 ∨ q % 8 = 5)) ∨ (512 ≤ q ∧ q < 592) ∨ (592 ≤ q ∧ q < 856 ∧ ((q - 592) % 88 = 6 ∨ (q - 592) % 88 = 7 ∨ (8 ≤ (q - 592) % 88 ∧ (q % 8 = 4 ∨ q % 8 = 5))))
abbrev CC (M : mem) (c : Nat) : Prop := 0 ≤ M c 0 ∧ M c 0 ≤ M 0 3 ∧ 0 ≤ M c 2 ∧ M c 2 ≤ 10 ∧ Run (lgV M (M c 0)) [1, 0] (tk M (c + 2)) ∧ Run (pdV M c (M c 2)) (tk M (c + 2)) (tk M (c + 4))
abbrev CI (M : mem) : Prop := TI M ∧ RI M ∧ (0 ≤ M 0 3 ∧ M 0 3 ≤ 60) ∧ (0 ≤ M 0 7 ∧ M 0 7 ≤ 10) ∧ Run (lgV M (M 0 3)) [1, 0] (tk M 6) ∧ ∀ c, ly_c c = 0 → CC M c
theorem sv_cg {M M' : mem} {s : Nat} (g : ∀ q j, (q = s ∨ q = s + 1 ∨ q = s + 2 ∨ q = s + 3 ∨ q = s + 6 ∨ q = s + 7) → M' q j = M q j) : sv M' s = sv M s :=
  sv_fr (P := fun q => ¬ (q = s ∨ q = s + 1 ∨ q = s + 2 ∨ q = s + 3 ∨ q = s + 6 ∨ q = s + 7)) (fun q j h => g q j (Classical.not_not.mp h)) (fun h => h (by omega)) (fun h => h (by omega)) (fun h => h (by omega)) (fun h => h (by omega)) (fun h => h (by omega)) (fun h => h (by omega))
theorem tk_cg {M M' : mem} {k : Nat} (g : ∀ q j, (q = k ∨ q = k + 1) → M' q j = M q j) : tk M' k = tk M k :=
  tk_fr (P := fun q => ¬ (q = k ∨ q = k + 1)) (fun q j h => g q j (Classical.not_not.mp h)) (fun h => h (by omega)) (fun h => h (by omega))
theorem lgV_cg {P : Nat → Prop} {M M' : mem} {n : Int} (hf : fr P M M') (hn : n ≤ 60) (hP : ∀ q, P q → ¬ (32 ≤ q ∧ q < 32 + 8 * n.toNat ∧ q % 8 ≠ 4 ∧ q % 8 ≠ 5)) : lgV M' n = lgV M n := by
  unfold lgV
  apply List.map_congr_left
  intro i hi
  have := List.mem_range.mp hi
  exact sv_cg (fun q j h => hf q j (fun hq => hP q hq (by omega)))
theorem pdV_cg {P : Nat → Prop} {M M' : mem} {c : Nat} {n : Int} (hf : fr P M M') (hc : ly_c c = 0) (hn : n ≤ 10) (hP : ∀ q, P q → ¬ (c + 8 ≤ q ∧ q < c + 8 + 8 * n.toNat ∧ q % 8 ≠ 4 ∧ q % 8 ≠ 5)) : pdV M' c n = pdV M c n := by
  have h8 := cl_al hc
  unfold pdV
  apply List.map_congr_left
  intro i hi
  have := List.mem_range.mp hi
  exact sv_cg (fun q j h => hf q j (fun hq => hP q hq (by omega)))
theorem CC_fr {P : Nat → Prop} {M M' : mem} {c : Nat} (hf : fr P M M') (hc : ly_c c = 0) (h0 : ∀ q, P q → q ≠ 0 ∧ ¬ (32 ≤ q ∧ q < 512 ∧ q % 8 ≠ 4 ∧ q % 8 ≠ 5)) (hq : ∀ q, P q → ¬ (c ≤ q ∧ q < c + 6) ∧ ¬ (c + 8 ≤ q ∧ q < c + 88 ∧ q % 8 ≠ 4 ∧ q % 8 ≠ 5)) (h3 : M 0 3 ≤ 60) (h : CC M c) : CC M' c := by
  obtain ⟨a1, a2, a3, a4, a5, a6⟩ := h
  have h8 := cl_al hc
  have e0 : M' 0 3 = M 0 3 := hf 0 3 (fun e => (h0 0 e).1 rfl)
  have ec : ∀ j, M' c j = M c j := fun j => hf c j (fun e => (hq c e).1 (by omega))
  have t2 : tk M' (c + 2) = tk M (c + 2) := tk_fr hf (fun e => (hq _ e).1 (by omega)) (fun e => (hq _ e).1 (by omega))
  have t4 : tk M' (c + 4) = tk M (c + 4) := tk_fr hf (fun e => (hq _ e).1 (by omega)) (fun e => (hq _ e).1 (by omega))
  unfold CC
  rw [e0, ec 0, ec 2, t2, t4, lgV_cg hf (by omega) (fun q hP => by have := (h0 q hP).2; omega), pdV_cg hf hc (by omega) (fun q hP => by have := (hq q hP).2; omega)]
  exact ⟨a1, a2, a3, a4, a5, a6⟩
/-- the cells of one client -/
abbrev cq (c q : Nat) : Prop := c ≤ q ∧ q < c + 88
theorem CI_cl {M M' : mem} {c : Nat} (hC : CI M) (hc : ly_c c = 0) (hf : fr (fun q => sq q ∨ cq c q) M M') (hT : TI M') (hR : RI M') (hcc : CC M' c) : CI M' := by
  obtain ⟨-, -, b1, b2, b3, b4⟩ := hC
  have h8 := cl_al hc
  have e0 : ∀ j, M' 0 j = M 0 j := fun j => hf 0 j (by dsimp only [sq, cq]; omega)
  have t6 : tk M' 6 = tk M 6 := tk_fr hf (by dsimp only [sq, cq]; omega) (by dsimp only [sq, cq]; omega)
  refine ⟨hT, hR, by rw [e0]; exact b1, by rw [e0]; exact b2, ?_, fun c' hc' => ?_⟩
  · rw [e0, t6, lgV_cg hf (by omega) (fun q hP => by dsimp only [sq, cq] at hP; omega)]
    exact b3
  · by_cases e : c' = c
    · subst e; exact hcc
    · have h9 := cl_al hc'
      exact CC_fr hf hc' (fun q hP => by dsimp only [sq, cq] at hP; omega) (fun q hP => by dsimp only [sq, cq] at hP; omega) (by omega) (b4 c' hc')
theorem CI_sq {M M' : mem} (hC : CI M) (hf : fr sq M M') (hT : TI M') (hR : RI M') : CI M' :=
  CI_cl (c := 592) hC (by decide +kernel) (fr_le hf (fun q h => Or.inl h)) hT hR (CC_fr hf (by decide +kernel) (fun q hP => by dsimp only [sq] at hP; omega) (fun q hP => by dsimp only [sq] at hP; omega) (by have := hC.2.2.1; omega) (hC.2.2.2.2.2 592 (by decide +kernel)))
theorem CI_R {M : mem} (h : CI M) : RI M := h.2.1
theorem CI_T {M : mem} (h : CI M) : TI M := h.1
theorem RI_fr {P : Nat → Prop} {M M' : mem} (hf : fr P M M') (h : ¬ P 25) (hI : RI M) : RI M' := by
  unfold RI
  rw [hf 25 3 h]
  exact hI
abbrev lo (q : Nat) : Prop := q < 856

set_option maxRecDepth 100000 in
set_option maxHeartbeats 4000000 in
theorem c_clientOf {X : scr} {M : mem} {x : Int} (hx : inR x) : At X 0 72 0 [vr 0, vi x] [] M (qT (qR (fun k M' => M' = M ∧ 0 ≤ x ∧ x < 3 ∧ k = 592 + 88 * x.toNat ∧ ly_c k = 0)) (fun e M' => e = 0 ∧ M' = M)) := by
  refine at_iload dx_72_0 rfl ?_
  refine at_zltR dx_72_1 hx (fun c1 => ?_) (fun c1 => ?_)
  · skip
    refine at_thrTW dx_72_7 rfl ?_
    exact ⟨rfl, rfl⟩
  · skip
    refine at_iload dx_72_2 rfl ?_
    refine at_aload dx_72_3 rfl ?_
    refine at_getR dx_72_4 lc_0 rfl lt_0_4 ?_
    refine at_alen dx_72_5 lc_9 rfl ln_9 ?_
    refine at_cltR dx_72_6 hx (by decide) (fun c6 => ?_) (fun c6 => ?_)
    · skip
      refine at_aload dx_72_8 rfl ?_
      refine at_getR dx_72_9 lc_0 rfl lt_0_4 ?_
      refine at_iload dx_72_10 rfl ?_
      refine at_aldC dx_72_11 lc_9 ln_9 (by first | omega | (simp (disch := omega) only [um_eq, um_k, um_j]; omega)) (by first | omega | (simp (disch := omega) only [um_eq, um_k, um_j]; omega)) (cs_t (by omega) (by omega)) ?_
      refine at_aretRT dx_72_12 ?_
      exact ⟨rfl, by omega, by omega, rfl, cs_c (by omega) (by omega)⟩
    · skip
      refine at_thrTW dx_72_7 rfl ?_
      exact ⟨rfl, rfl⟩

set_option maxRecDepth 100000 in
set_option maxHeartbeats 4000000 in
theorem c_checkPosition {X : scr} {M : mem} {b : Nat} {p : Int} (hb : ly_c b = 5) (hp : inR p) : At X 0 74 0 [vr b, vi p] [] M (qT (qV (fun M' => M' = M ∧ 0 ≤ p ∧ p ≤ M b 1)) (fun e M' => e = 0 ∧ M' = M)) := by
  refine at_iload dx_74_0 rfl ?_
  refine at_zltR dx_74_1 hp (fun c1 => ?_) (fun c1 => ?_)
  · skip
    refine at_thrTW dx_74_6 rfl ?_
    exact ⟨rfl, rfl⟩
  · skip
    refine at_iload dx_74_2 rfl ?_
    refine at_aload dx_74_3 rfl ?_
    refine at_getI 1 dx_74_4 hb rfl rfl (fun r4 => ?_)
    refine at_cleR dx_74_5 hp r4 (fun c5 => ?_) (fun c5 => ?_)
    · skip
      refine at_vretVT dx_74_7 ?_
      exact ⟨rfl, by omega, by omega⟩
    · skip
      refine at_thrTW dx_74_6 rfl ?_
      exact ⟨rfl, rfl⟩

set_option maxRecDepth 100000 in
set_option maxHeartbeats 4000000 in
theorem c_checkStretch {X : scr} {M : mem} {b : Nat} {f t : Int} (hb : ly_c b = 5) (hf : inR f) (ht : inR t) : At X 0 75 0 [vr b, vi f, vi t] [] M (qT (qV (fun M' => M' = M ∧ 0 ≤ f ∧ f < t ∧ t ≤ M b 1)) (fun e M' => e ≤ 1 ∧ M' = M)) := by
  refine at_aload dx_75_0 rfl ?_
  refine at_iload dx_75_1 rfl ?_
  refine at_callSVT dx_75_2 rfl rfl (c_checkPosition hb hf) ?_ ?_
  rotate_left
  · rintro e M9 ⟨he, e9⟩; replace e9 := e9.symm; subst e9; exact Or.inr ⟨e, rfl, rfl, by omega, rfl⟩
  rintro M9 ⟨e9, p2, q2⟩; replace e9 := e9.symm; subst e9
  refine at_aload dx_75_3 rfl ?_
  refine at_iload dx_75_4 rfl ?_
  refine at_callSVT dx_75_5 rfl rfl (c_checkPosition hb ht) ?_ ?_
  rotate_left
  · rintro e M9 ⟨he, e9⟩; replace e9 := e9.symm; subst e9; exact Or.inr ⟨e, rfl, rfl, by omega, rfl⟩
  rintro M9 ⟨e9, p5, q5⟩; replace e9 := e9.symm; subst e9
  refine at_iload dx_75_6 rfl ?_
  refine at_iload dx_75_7 rfl ?_
  refine at_cgtR dx_75_8 ht hf (fun c8 => ?_) (fun c8 => ?_)
  · skip
    refine at_vretVT dx_75_10 ?_
    exact ⟨rfl, by omega, by omega, by omega⟩
  · skip
    refine at_thrTW dx_75_9 rfl ?_
    exact ⟨by decide, rfl⟩

set_option maxRecDepth 100000 in
set_option maxHeartbeats 4000000 in
theorem c_checkNodeType {X : scr} {M : mem} {t : Int} (ht : inR t) : At X 0 76 0 [vi t] [] M (qT (qV (fun M' => M' = M ∧ 1 ≤ t ∧ t ≤ 5)) (fun e M' => e = 0 ∧ M' = M)) := by
  refine at_iload dx_76_0 rfl ?_
  refine at_callSI dx_76_1 rfl rfl (c_isOpening ht) ?_
  rintro x1 M9 r1 ⟨e9, h1⟩; replace e9 := e9.symm; subst e9
  refine at_zneR dx_76_2 r1 (fun c2 => ?_) (fun c2 => ?_)
  · skip
    refine at_vretVT dx_76_4 ?_
    exact ⟨rfl, by split at h1 <;> omega, by split at h1 <;> omega⟩
  · skip
    refine at_thrTW dx_76_3 rfl ?_
    exact ⟨rfl, rfl⟩

set_option maxRecDepth 100000 in
set_option maxHeartbeats 4000000 in
theorem c_isAnyPending {X : scr} {M : mem}  : At X 0 77 0 [vr 0] [] M (qI (fun x M' => M' = M ∧ (x = 0 ∨ x = 1))) := by
  have lp : ∀ (n : Nat) (i : Int) (ri : inR i) (hi : 0 ≤ i) (hn : (3 - i).toNat = n), At X 0 77 2 [vr 0, vi i] [] M (qI (fun x M' => M' = M ∧ (x = 0 ∨ x = 1))) := by
    intro n
    induction n using Nat.strongRecOn with
    | ind n ih =>
    intro i ri hi hn
    refine at_iload dx_77_2 rfl ?_
    refine at_aload dx_77_3 rfl ?_
    refine at_getR dx_77_4 lc_0 rfl lt_0_4 ?_
    refine at_alen dx_77_5 lc_9 rfl ln_9 ?_
    refine at_cgeR dx_77_6 ri (by decide) (fun c6 => ?_) (fun c6 => ?_)
    · skip
      refine at_const (x := 0) dx_77_17 rfl ?_
      refine at_zretI dx_77_18 (Or.inl rfl) ?_
      exact ⟨rfl, Or.inl rfl⟩
    · skip
      refine at_aload dx_77_7 rfl ?_
      refine at_getR dx_77_8 lc_0 rfl lt_0_4 ?_
      refine at_iload dx_77_9 rfl ?_
      refine at_aldC dx_77_10 lc_9 ln_9 (by first | omega | (simp (disch := omega) only [um_eq, um_k, um_j]; omega)) (by first | omega | (simp (disch := omega) only [um_eq, um_k, um_j]; omega)) (cs_t (by omega) (by omega)) ?_
      refine at_getI 2 dx_77_11 (cs_c hi (by omega)) rfl rfl (fun r11 => ?_)
      refine at_zleR dx_77_12 r11 (fun c12 => ?_) (fun c12 => ?_)
      · skip
        refine at_iincR (y := 1) dx_77_15 rfl rfl (by constructor <;> omega) (fun r15 => ?_)
        refine at_goto dx_77_16 ?_
        exact ih _ (by omega) _ r15 (by omega) rfl
      · skip
        refine at_const (x := 1) dx_77_13 rfl ?_
        refine at_zretI dx_77_14 (Or.inr rfl) ?_
        exact ⟨rfl, Or.inr rfl⟩
  refine at_const (x := 0) dx_77_0 rfl ?_
  refine at_istore dx_77_1 ?_
  exact lp _ 0 (by decide) (by decide) rfl

set_option maxRecDepth 100000 in
set_option maxHeartbeats 4000000 in
theorem c_innermost {X : scr} {M : mem} {d : Int} (hd : inR d) : At X 0 79 0 [vr 0, vi d] [] M (qI (fun x M' => M' = M)) := by
  refine at_iload dx_79_0 rfl ?_
  refine at_zleR dx_79_1 hd (fun c1 => ?_) (fun c1 => ?_)
  · skip
    refine at_const (x := 0) dx_79_14 rfl ?_
    refine at_iretI dx_79_15 (by decide) ?_
    exact rfl
  · skip
    refine at_iload dx_79_2 rfl ?_
    refine at_aload dx_79_3 rfl ?_
    refine at_getR dx_79_4 lc_0 rfl lt_0_14 ?_
    refine at_alen dx_79_5 lc_31 rfl ln_31 ?_
    refine at_cgtR dx_79_6 hd (by decide) (fun c6 => ?_) (fun c6 => ?_)
    · skip
      refine at_const (x := 0) dx_79_14 rfl ?_
      refine at_iretI dx_79_15 (by decide) ?_
      exact rfl
    · skip
      refine at_aload dx_79_7 rfl ?_
      refine at_getR dx_79_8 lc_0 rfl lt_0_14 ?_
      refine at_iload dx_79_9 rfl ?_
      refine at_const (x := 1) dx_79_10 rfl ?_
      refine at_subR dx_79_11 (by constructor <;> omega) (fun r11 => ?_)
      refine at_aldI dx_79_12 lc_31 ln_31 (by first | omega | (simp (disch := omega) only [um_eq, um_k, um_j]; omega)) (by first | omega | (simp (disch := omega) only [um_eq, um_k, um_j]; omega)) (fun r12 => ?_)
      refine at_goto dx_79_13 ?_
      refine at_iretI dx_79_15 r12 ?_
      exact rfl

set_option maxRecDepth 100000 in
set_option maxHeartbeats 4000000 in
theorem c_isFirstValidWith {X : scr} {M : mem} {t e a b : Int} (ht : inR t) (he : inR e) (ha : inR a) (hb : inR b) (hC : CI M) : At X 0 78 0 [vr 0, vi t, vi e, vi a, vi b] [] M (qI (fun x M' => fr sq M M' ∧ CI M' ∧ (x = 0 ∨ x = 1))) := by
  refine at_aload dx_78_0 rfl ?_
  refine at_getR dx_78_1 lc_0 rfl lt_0_0 ?_
  refine at_iload dx_78_2 rfl ?_
  refine at_iload dx_78_3 rfl ?_
  refine at_callVI dx_78_4 rfl lc_1 rfl (c_kindsOf ht he) ?_
  intro x4 M9 r4 e9; replace e9 := Eq.symm e9; subst e9
  refine at_istore dx_78_5 ?_
  refine at_aload dx_78_6 rfl ?_
  refine at_getR dx_78_7 lc_0 rfl lt_0_0 ?_
  refine at_iload dx_78_8 rfl ?_
  refine at_iload dx_78_9 rfl ?_
  refine at_callVI dx_78_10 rfl lc_1 rfl (c_quantityOf ht he) ?_
  intro x10 M9 r10 e9; replace e9 := Eq.symm e9; subst e9
  refine at_istore dx_78_11 ?_
  refine at_aload dx_78_12 rfl ?_
  refine at_getR dx_78_13 lc_0 rfl lt_0_0 ?_
  refine at_iload dx_78_14 rfl ?_
  refine at_iload dx_78_15 rfl ?_
  refine at_iload dx_78_16 rfl ?_
  refine at_iload dx_78_17 rfl ?_
  refine at_callVV dx_78_18 rfl lc_1 rfl (c_setElement ht he ha hb) ?_
  intro M18 f18
  refine at_aload dx_78_19 rfl ?_
  refine at_getR dx_78_20 lc_0 rfl lt_0_9 ?_
  refine at_callVV dx_78_21 rfl lc_20 rfl (c_becomeFirst lc_20) ?_
  rintro M21 ⟨f21, i21, t21⟩
  refine at_aload dx_78_22 rfl ?_
  refine at_getR dx_78_23 lc_0 rfl lt_0_0 ?_
  refine at_aload dx_78_24 rfl ?_
  refine at_getR dx_78_25 lc_0 rfl lt_0_9 ?_
  refine at_callVI dx_78_26 rfl lc_1 rfl (c_accepts lc_20 i21) ?_
  rintro x26 M26 r26 ⟨f26, hx⟩
  refine at_istore dx_78_27 ?_
  refine at_aload dx_78_28 rfl ?_
  refine at_getR dx_78_29 lc_0 rfl lt_0_0 ?_
  refine at_iload dx_78_30 rfl ?_
  refine at_iload dx_78_31 rfl ?_
  refine at_iload dx_78_32 rfl ?_
  refine at_iload dx_78_33 rfl ?_
  refine at_callVV dx_78_34 rfl lc_1 rfl (c_setElement ht he r4 r10) ?_
  intro M34 f34
  refine at_iload dx_78_35 rfl ?_
  refine at_zretI dx_78_36 hx ?_
  have F : fr (fun q => (2 ≤ q ∧ q ≤ 5) ∨ q = 20 ∨ q = 21) M M34 := fr_tr (fr_tr (fr_tr (fr_le f18 (fun q h => by (try dsimp only [blk] at h ⊢); first | done | omega)) (fr_le f21 (fun q h => by (try dsimp only [blk] at h ⊢); first | done | omega))) (fr_le f26 (fun q h => by (try dsimp only [blk] at h ⊢); first | done | omega))) (fr_le f34 (fun q h => by (try dsimp only [blk] at h ⊢); first | done | omega))
  have FS : fr sq M M34 := fr_le F (fun q h => by dsimp only [sq] at h ⊢; omega)
  refine ⟨FS, CI_sq hC FS (TI_fr hC.1 F (fun k hk hP => ?_)) (RI_fr F (by omega) hC.2.1), hx⟩
  have hk2 := tk_e hk
  have e20 : k = 20 := by
    rcases hP with h | h | h
    · omega
    · exact h
    · omega
  subst e20
  exact tkI_fr f34 (by (try dsimp only [blk]); first | done | omega) (tkI_fr f26 (by (try dsimp only [blk]); first | done | omega) i21)

set_option maxRecDepth 100000 in
set_option maxHeartbeats 4000000 in
theorem c_isPossible {X : scr} {M : mem} {s b : Nat} (hs : ly_c s = 4) (hb : ly_c b = 5) (h1 : b ≠ s + 4) (h2 : b ≠ s + 6) (h3 : b ≠ 20) (hT : TI M) : At X 0 80 0 [vr 0, vr s, vr b] [] M (qI (fun x M' => fr (fun q => q = 20 ∨ q = 21 ∨ q = s + 4 ∨ q = s + 5 ∨ q = 4 ∨ q = 5) M M' ∧ TI M' ∧ (x = 0 ∨ x = 1) ∧ (x = 1 → okV (sv M s) (tk M b) ∧ tk M' 20 = apV (sv M s) (tk M b)))) := by
  have es := st_ev hs
  have ea := st_al hs
  refine at_aload dx_80_0 rfl ?_
  refine at_aload dx_80_1 rfl ?_
  refine at_aload dx_80_2 rfl ?_
  refine at_getR dx_80_3 lc_0 rfl lt_0_9 ?_
  refine at_callVI dx_80_4 rfl hs rfl (c_applyTo hs hb lc_20 (by omega) h1 h2 (by omega) (by omega) hT) ?_
  rintro x4 M4 r4 ⟨f4, i4, b4, w4, t4⟩
  refine at_zeqR dx_80_5 r4 (fun c5 => ?_) (fun c5 => ?_)
  · skip
    refine at_const (x := 0) dx_80_14 rfl ?_
    refine at_zretI dx_80_15 (Or.inl rfl) ?_
    first | exact ⟨fr_tr (fr_le f4 (fun q h => by (try dsimp only [blk] at h ⊢); first | done | omega)) (fr_le f10 (fun q h => by (try dsimp only [blk] at h ⊢); first | done | omega)), TI_no i4 f10 (fun k hk hP => by have := tk_e hk; omega), Or.inl rfl, fun e => absurd e (by decide)⟩ | exact ⟨fr_le f4 (fun q h => by (try dsimp only [blk] at h ⊢); first | done | omega), i4, Or.inl rfl, fun e => absurd e (by decide)⟩
  · skip
    refine at_aload dx_80_6 rfl ?_
    refine at_getR dx_80_7 lc_0 rfl lt_0_0 ?_
    refine at_aload dx_80_8 rfl ?_
    refine at_getR dx_80_9 lc_0 rfl lt_0_9 ?_
    refine at_callVI dx_80_10 rfl lc_1 rfl (c_accepts lc_20 (i4 _ lc_20)) ?_
    rintro x10 M10 r10 ⟨f10, hx⟩
    refine at_zeqR dx_80_11 r10 (fun c11 => ?_) (fun c11 => ?_)
    · skip
      refine at_const (x := 0) dx_80_14 rfl ?_
      refine at_zretI dx_80_15 (Or.inl rfl) ?_
      first | exact ⟨fr_tr (fr_le f4 (fun q h => by (try dsimp only [blk] at h ⊢); first | done | omega)) (fr_le f10 (fun q h => by (try dsimp only [blk] at h ⊢); first | done | omega)), TI_no i4 f10 (fun k hk hP => by have := tk_e hk; omega), Or.inl rfl, fun e => absurd e (by decide)⟩ | exact ⟨fr_le f4 (fun q h => by (try dsimp only [blk] at h ⊢); first | done | omega), i4, Or.inl rfl, fun e => absurd e (by decide)⟩
    · skip
      refine at_const (x := 1) dx_80_12 rfl ?_
      refine at_goto dx_80_13 ?_
      refine at_zretI dx_80_15 (Or.inr rfl) ?_
      have h41 : x4 = 1 := by omega
      exact ⟨fr_tr (fr_le f4 (fun q h => by (try dsimp only [blk] at h ⊢); first | done | omega)) (fr_le f10 (fun q h => by (try dsimp only [blk] at h ⊢); first | done | omega)), TI_no i4 f10 (fun k hk hP => by have := tk_e hk; omega), Or.inr rfl, fun _ => ⟨w4.mp h41, (tk_fr f10 (by (try dsimp only [blk]); first | done | omega) (by (try dsimp only [blk]); first | done | omega)).trans (t4 h41)⟩⟩
