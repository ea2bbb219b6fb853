/-! ===== rows of tokens: what they say ===== -/
noncomputable def fr (P : Nat → Prop) (M M' : mem) : Prop := ∀ (q : Nat) (j : Int), ¬ P q → M' q j = M q j
section FR
variable {P P' : Nat → Prop} {M M1 M2 : mem} {k : Nat} {j v : Int}
theorem fr_rf : fr P M M := fun _ _ _ => rfl
theorem fr_tr (h1 : fr P M M1) (h2 : fr P M1 M2) : fr P M M2 := fun q j h => (h2 q j h).trans (h1 q j h)
theorem fr_le (h : fr P M M1) (hp : ∀ q, P q → P' q) : fr P' M M1 := fun q j hq => h q j (fun e => hq (hp q e))
theorem fr_um (hk : P k) : fr P M (um M k j v) := fun q j' hq => um_k (fun e => hq (by subst e; exact hk))
theorem fr_ums (h : fr P M M1) (hk : P k) : fr P M (um M1 k j v) := fr_tr h (fr_um hk)
end FR
noncomputable def tk (M : mem) (k : Nat) : List Int := (List.range (M k 1).toNat).map (fun j : Nat => M (k + 1) (j : Int))
noncomputable def atM (M : mem) (k : Nat) (p : Int) : Int := if 0 ≤ p ∧ p < M k 1 then M (k + 1) p else -1
noncomputable def atL (l : List Int) (p : Int) : Int := if 0 ≤ p then l.getD p.toNat (-1) else -1
abbrev tkI (M : mem) (k : Nat) : Prop := 0 ≤ M k 1 ∧ M k 1 ≤ 60
noncomputable def slc (l : List Int) (f t : Int) : List Int := (List.range (t - f).toNat).map (fun j : Nat => atL l (f + j))
noncomputable def addM (M : mem) (k : Nat) (t : Int) : mem := if M k 1 < 60 then um (um M (k + 1) (M k 1) t) k 1 (M k 1 + 1) else M
section TK
variable {P : Nat → Prop} {M M' : mem} {k : Nat} {p t f : Int} {l : List Int}
theorem tk_len : (tk M k).length = (M k 1).toNat := by
  unfold tk
  rw [List.length_map, List.length_range]
theorem tk_len60 (h : tkI M k) : (tk M k).length ≤ 60 := by
  rw [tk_len]; omega
theorem tk_at {j : Nat} (h : (j : Int) < M k 1) : (tk M k)[j]? = some (M (k + 1) j) := by
  unfold tk
  rw [List.getElem?_map, List.getElem?_range (by omega)]
  rfl
theorem atM_eq : atM M k p = atL (tk M k) p := by
  unfold atM atL
  by_cases h0 : 0 ≤ p
  · rw [if_pos h0, List.getD_eq_getElem?_getD]
    by_cases h1 : p < M k 1
    · rw [if_pos ⟨h0, h1⟩, tk_at (by omega), Int.toNat_of_nonneg h0]
      rfl
    · rw [if_neg (fun h => h1 h.2), List.getElem?_eq_none (by rw [tk_len]; omega)]
      rfl
  · rw [if_neg h0, if_neg (fun h => h0 h.1)]
theorem tk_congr (h1 : M' k 1 = M k 1) (h2 : ∀ j : Nat, (j : Int) < M k 1 → M' (k + 1) j = M (k + 1) j) : tk M' k = tk M k := by
  unfold tk
  rw [h1]
  apply List.map_congr_left
  intro j hj
  exact h2 j (by have := List.mem_range.mp hj; omega)
theorem tk_fr (h : fr P M M') (h1 : ¬ P k) (h2 : ¬ P (k + 1)) : tk M' k = tk M k := tk_congr (h k 1 h1) (fun j _ => h (k + 1) j h2)
theorem tkI_fr (h : fr P M M') (h1 : ¬ P k) (hI : tkI M k) : tkI M' k := by
  unfold tkI
  rw [h k 1 h1]
  exact hI
theorem slc_nil (h : t ≤ f) : slc l f t = [] := by
  unfold slc
  rw [show (t - f).toNat = 0 by omega]
  rfl
theorem slc_cons (h : f < t) : slc l f t = atL l f :: slc l (f + 1) t := by
  unfold slc
  rw [show (t - f).toNat = (t - (f + 1)).toNat + 1 by omega, List.range_succ_eq_map, List.map_cons, List.map_map]
  congr 1
  · rw [show f + ((0 : Nat) : Int) = f by omega]
  · apply List.map_congr_left
    intro j _
    show atL l (f + ((j + 1 : Nat) : Int)) = atL l (f + 1 + (j : Int))
    rw [show f + ((j + 1 : Nat) : Int) = f + 1 + (j : Int) by omega]
theorem slc_all (M : mem) (k : Nat) : slc (tk M k) 0 (M k 1) = tk M k := by
  unfold slc
  rw [show (M k 1 - 0).toNat = (tk M k).length by rw [tk_len]; omega]
  apply List.ext_getElem?
  intro j
  rw [List.getElem?_map]
  by_cases hj : j < (tk M k).length
  · rw [List.getElem?_range hj]
    show some (atL (tk M k) (0 + (j : Int))) = _
    unfold atL
    rw [if_pos (by omega), show ((0 : Int) + (j : Int)).toNat = j by omega, List.getD_eq_getElem?_getD, List.getElem?_eq_getElem hj]
    rfl
  · rw [List.getElem?_eq_none (by rw [List.length_range]; omega), List.getElem?_eq_none (by omega)]
    rfl
theorem take_take_app (A B : List Int) (n : Nat) : (A.take n ++ B).take n = (A ++ B).take n := by
  rw [List.take_append, List.take_append, List.take_take, List.length_take, Nat.min_self, show n - min n A.length = n - A.length by omega]
theorem addM_fr (M : mem) (k : Nat) (t : Int) : fr (fun q => q = k ∨ q = k + 1) M (addM M k t) := by
  unfold addM
  split
  · exact fr_ums (fr_um (Or.inr rfl)) (Or.inl rfl)
  · exact fr_rf
theorem addM_I (h : tkI M k) : tkI (addM M k t) k := by
  unfold addM
  split
  · unfold tkI
    rw [um_eq]
    omega
  · exact h
theorem addM_tk (h : tkI M k) : tk (addM M k t) k = (tk M k ++ [t]).take 60 := by
  have hl := tk_len (M := M) (k := k)
  unfold addM
  split
  · rw [List.take_of_length_le (by rw [List.length_append, hl]; show _ + 1 ≤ 60; omega)]
    unfold tk
    rw [um_eq, show (M k 1 + 1).toNat = (M k 1).toNat + 1 by omega, List.range_succ, List.map_append]
    congr 1
    · apply List.map_congr_left
      intro j hj
      have := List.mem_range.mp hj
      rw [um_k (by omega), um_j (by omega)]
    · show [um (um M (k + 1) (M k 1) t) k 1 (M k 1 + 1) (k + 1) (((M k 1).toNat : Nat) : Int)] = [t]
      rw [um_k (by omega), Int.toNat_of_nonneg h.1, um_eq]
  · rw [List.take_append, List.take_of_length_le (by omega), show 60 - (tk M k).length = 0 by omega]
    simp
end TK


set_option maxRecDepth 100000 in
set_option maxHeartbeats 4000000 in
theorem c_at {X : scr} {M : mem} {k : Nat} {p : Int} (hk : ly_c k = 5) (hp : inR p) (hc : tkI M k) : At X 0 37 0 [vr k, vi p] [] M (qI (fun x M' => M' = M ∧ x = atL (tk M k) p)) := by
  refine at_iload dx_37_0 rfl ?_
  refine at_zltR dx_37_1 hp (fun c1 => ?_) (fun c1 => ?_)
  · skip
    refine at_const (x := -1) dx_37_11 rfl ?_
    refine at_iretI dx_37_12 (by decide) ?_
    refine ⟨rfl, ?_⟩; rw [← atM_eq]; unfold atM; first | (exfalso; omega) | rw [if_pos (by omega)] | rw [if_neg (by omega)]
  · skip
    refine at_iload dx_37_2 rfl ?_
    refine at_aload dx_37_3 rfl ?_
    refine at_getI 1 dx_37_4 hk rfl rfl (fun r4 => ?_)
    refine at_cgeR dx_37_5 hp r4 (fun c5 => ?_) (fun c5 => ?_)
    · skip
      refine at_const (x := -1) dx_37_11 rfl ?_
      refine at_iretI dx_37_12 (by decide) ?_
      refine ⟨rfl, ?_⟩; rw [← atM_eq]; unfold atM; first | (exfalso; omega) | rw [if_pos (by omega)] | rw [if_neg (by omega)]
    · skip
      refine at_iload dx_37_6 rfl ?_
      refine at_aload dx_37_7 rfl ?_
      refine at_getR dx_37_8 hk rfl (tk_t hk) ?_
      refine at_alen dx_37_9 (tk_c hk) rfl (tk_n hk) ?_
      refine at_cltR dx_37_10 hp (by decide) (fun c10 => ?_) (fun c10 => ?_)
      · skip
        refine at_aload dx_37_13 rfl ?_
        refine at_getR dx_37_14 hk rfl (tk_t hk) ?_
        refine at_iload dx_37_15 rfl ?_
        refine at_aldI dx_37_16 (tk_c hk) (tk_n hk) (by omega) (by omega) (fun r16 => ?_)
        refine at_iretI dx_37_17 r16 ?_
        refine ⟨rfl, ?_⟩; rw [← atM_eq]; unfold atM; first | (exfalso; omega) | rw [if_pos (by omega)] | rw [if_neg (by omega)]
      · skip
        refine at_const (x := -1) dx_37_11 rfl ?_
        refine at_iretI dx_37_12 (by decide) ?_
        refine ⟨rfl, ?_⟩; rw [← atM_eq]; unfold atM; first | (exfalso; omega) | rw [if_pos (by omega)] | rw [if_neg (by omega)]

set_option maxRecDepth 100000 in
set_option maxHeartbeats 4000000 in
theorem c_clear {X : scr} {M : mem} {k : Nat} (hk : ly_c k = 5) : At X 0 36 0 [vr k] [] M (qV (fun M' => M' = um M k 1 0)) := by
  refine at_aload dx_36_0 rfl ?_
  refine at_const (x := 0) dx_36_1 rfl ?_
  refine at_putI 1 dx_36_2 hk rfl rfl (by decide) ?_
  refine at_vretV dx_36_3 ?_
  exact rfl

set_option maxRecDepth 100000 in
set_option maxHeartbeats 4000000 in
theorem c_add {X : scr} {M : mem} {k : Nat} {t : Int} (hk : ly_c k = 5) (ht : inR t) (hc : tkI M k) : At X 0 38 0 [vr k, vi t] [] M (qV (fun M' => M' = addM M k t)) := by
  have hr0 : inR (M k 1) := by constructor <;> omega
  refine at_aload dx_38_0 rfl ?_
  refine at_getI 1 dx_38_1 hk rfl rfl (fun r1 => ?_)
  refine at_zltR dx_38_2 r1 (fun c2 => ?_) (fun c2 => ?_)
  · skip
    refine at_vretV dx_38_21 ?_
    unfold addM; first | (exfalso; omega) | (rw [if_pos (by omega), e9]; done) | (rw [if_neg (by omega)]; done)
  · skip
    refine at_aload dx_38_3 rfl ?_
    refine at_getI 1 dx_38_4 hk rfl rfl (fun r4 => ?_)
    refine at_aload dx_38_5 rfl ?_
    refine at_getR dx_38_6 hk rfl (tk_t hk) ?_
    refine at_alen dx_38_7 (tk_c hk) rfl (tk_n hk) ?_
    refine at_cgeR dx_38_8 r4 (by decide) (fun c8 => ?_) (fun c8 => ?_)
    · skip
      refine at_vretV dx_38_21 ?_
      unfold addM; first | (exfalso; omega) | (rw [if_pos (by omega), e9]; done) | (rw [if_neg (by omega)]; done)
    · skip
      refine at_aload dx_38_9 rfl ?_
      refine at_getR dx_38_10 hk rfl (tk_t hk) ?_
      refine at_aload dx_38_11 rfl ?_
      refine at_getI 1 dx_38_12 hk rfl rfl (fun r12 => ?_)
      refine at_iload dx_38_13 rfl ?_
      refine at_astI dx_38_14 (tk_c hk) (tk_n hk) (by omega) (by omega) ht ?_
      have e9 : um M (k + 1) (M k 1) t k 1 = M k 1 := um_k (by omega)
      refine at_aload dx_38_15 rfl ?_
      refine at_dup dx_38_16 rfl ?_
      refine at_getI 1 dx_38_17 hk rfl rfl (fun r17 => ?_)
      refine at_const (x := 1) dx_38_18 rfl ?_
      refine at_addR dx_38_19 (by (first | (rw [e9]; constructor <;> omega) | (constructor <;> omega))) (fun r19 => ?_)
      refine at_putI 1 dx_38_20 hk rfl rfl r19 ?_
      refine at_vretV dx_38_21 ?_
      unfold addM; first | (exfalso; omega) | (rw [if_pos (by omega), e9]; done) | (rw [if_neg (by omega)]; done)

set_option maxRecDepth 100000 in
set_option maxHeartbeats 4000000 in
theorem c_addSlice {X : scr} {M : mem} {k s : Nat} {f t : Int} (hk : ly_c k = 5) (hs : ly_c s = 5) (hne : k ≠ s) (hf : inR f) (ht : inR t) (hc : tkI M k) (hd : tkI M s) : At X 0 39 0 [vr k, vr s, vi f, vi t] [] M (qV (fun M' => fr (fun q => q = k ∨ q = k + 1) M M' ∧ tkI M' k ∧ tk M' k = (tk M k ++ slc (tk M s) f t).take 60)) := by
  have e1 := tk_e hk
  have e2 := tk_e hs
  have lp : ∀ (n : Nat) (i : Int) (M1 : mem) (ri : inR i) (hn : (t - i).toNat = n) (h1 : fr (fun q => q = k ∨ q = k + 1) M M1) (h2 : tkI M1 k) (h3 : (tk M1 k ++ slc (tk M s) i t).take 60 = (tk M k ++ slc (tk M s) f t).take 60), At X 0 39 2 [vr k, vr s, vi f, vi t, vi i] [] M1 (qV (fun M' => fr (fun q => q = k ∨ q = k + 1) M M' ∧ tkI M' k ∧ tk M' k = (tk M k ++ slc (tk M s) f t).take 60)) := by
    intro n
    induction n using Nat.strongRecOn with
    | ind n ih =>
    intro i M1 ri hn h1 h2 h3
    have hd1 : tkI M1 s := tkI_fr h1 (by omega) hd
    have e3 : tk M1 s = tk M s := tk_fr h1 (by omega) (by omega)
    refine at_iload dx_39_2 rfl ?_
    refine at_iload dx_39_3 rfl ?_
    refine at_cgeR dx_39_4 ri ht (fun c4 => ?_) (fun c4 => ?_)
    · skip
      refine at_vretV dx_39_12 ?_
      rw [slc_nil c4, List.append_nil, List.take_of_length_le (tk_len60 h2)] at h3; exact ⟨h1, h2, h3⟩
    · skip
      refine at_aload dx_39_5 rfl ?_
      refine at_aload dx_39_6 rfl ?_
      refine at_iload dx_39_7 rfl ?_
      refine at_callVI dx_39_8 rfl hs rfl (c_at hs ri hd1) ?_
      rintro x8 _ r8 ⟨rfl, h8⟩
      refine at_callVV dx_39_9 rfl hk rfl (c_add hk r8 h2) ?_
      rintro _ rfl
      refine at_iincR (y := 1) dx_39_10 rfl rfl (by constructor <;> omega) (fun r10 => ?_)
      refine at_goto dx_39_11 ?_
      exact ih _ (by omega) _ _ r10 rfl (fr_tr h1 (addM_fr _ _ _)) (addM_I h2) (by rw [addM_tk h2, take_take_app, List.append_assoc, h8, e3, ← h3, slc_cons c4]; rfl)
  refine at_iload dx_39_0 rfl ?_
  refine at_istore dx_39_1 ?_
  exact lp _ f M hf rfl fr_rf hc rfl

set_option maxRecDepth 100000 in
set_option maxHeartbeats 4000000 in
theorem c_become {X : scr} {M : mem} {k s : Nat} (hk : ly_c k = 5) (hs : ly_c s = 5) (hne : k ≠ s) (hd : tkI M s) : At X 0 40 0 [vr k, vr s] [] M (qV (fun M' => fr (fun q => q = k ∨ q = k + 1) M M' ∧ tkI M' k ∧ tk M' k = tk M s)) := by
  have e1 := tk_e hk
  have e2 := tk_e hs
  have e3 : fr (fun q => q = k ∨ q = k + 1) M (um M k 1 0) := fr_um (Or.inl rfl)
  have e4 : tk (um M k 1 0) s = tk M s := tk_fr e3 (by omega) (by omega)
  have e5 : tkI (um M k 1 0) s := tkI_fr e3 (by omega) hd
  have e6 : tkI (um M k 1 0) k := by unfold tkI; rw [um_eq]; omega
  have e7 : tk (um M k 1 0) k = [] := by unfold tk; rw [um_eq]; rfl
  refine at_aload dx_40_0 rfl ?_
  refine at_callVV dx_40_1 rfl hk rfl (c_clear hk) ?_
  rintro _ rfl
  refine at_aload dx_40_2 rfl ?_
  refine at_aload dx_40_3 rfl ?_
  refine at_const (x := 0) dx_40_4 rfl ?_
  refine at_aload dx_40_5 rfl ?_
  refine at_getI 1 dx_40_6 hs rfl rfl (fun r6 => ?_)
  refine at_callVV dx_40_7 rfl hk rfl (c_addSlice hk hs hne (by decide) r6 e6 e5) ?_
  rintro M1 ⟨h1, h2, h3⟩
  refine at_vretV dx_40_8 ?_
  rw [slc_all, e4, e7, List.nil_append, List.take_of_length_le (tk_len60 hd)] at h3; exact ⟨fr_tr e3 h1, h2, h3⟩

set_option maxRecDepth 100000 in
set_option maxHeartbeats 4000000 in
theorem c_becomeFirst {X : scr} {M : mem} {k : Nat} (hk : ly_c k = 5) : At X 0 41 0 [vr k] [] M (qV (fun M' => fr (fun q => q = k ∨ q = k + 1) M M' ∧ tkI M' k ∧ tk M' k = [1, 0])) := by
  have e3 : fr (fun q => q = k ∨ q = k + 1) M (um M k 1 0) := fr_um (Or.inl rfl)
  have e6 : tkI (um M k 1 0) k := by unfold tkI; rw [um_eq]; omega
  have e7 : tk (um M k 1 0) k = [] := by unfold tk; rw [um_eq]; rfl
  refine at_aload dx_41_0 rfl ?_
  refine at_callVV dx_41_1 rfl hk rfl (c_clear hk) ?_
  rintro _ rfl
  refine at_aload dx_41_2 rfl ?_
  refine at_const (x := 1) dx_41_3 rfl ?_
  refine at_callVV dx_41_4 rfl hk rfl (c_add hk (by decide) e6) ?_
  rintro _ rfl
  refine at_aload dx_41_5 rfl ?_
  refine at_const (x := 0) dx_41_6 rfl ?_
  refine at_callVV dx_41_7 rfl hk rfl (c_add hk (by decide) (addM_I e6)) ?_
  rintro _ rfl
  refine at_vretV dx_41_8 ?_
  refine ⟨fr_tr e3 (fr_tr (addM_fr _ _ _) (addM_fr _ _ _)), addM_I (addM_I e6), ?_⟩; rw [addM_tk (addM_I e6), addM_tk e6, e7]; rfl

set_option maxRecDepth 100000 in
set_option maxHeartbeats 4000000 in
theorem c_isLike {X : scr} {M : mem} {k s : Nat} (hk : ly_c k = 5) (hs : ly_c s = 5) (hc : tkI M k) (hd : tkI M s) : At X 0 42 0 [vr k, vr s] [] M (qI (fun x M' => M' = M ∧ (x = 0 ∨ x = 1) ∧ (x = 1 ↔ tk M k = tk M s))) := by
  have lp : ∀ (n : Nat) (i : Int) (ri : inR i) (hi : 0 ≤ i) (hn : (M k 1 - i).toNat = n) (h1 : M k 1 = M s 1) (h3 : ∀ j : Nat, (j : Int) < i → (j : Int) < M k 1 → atL (tk M k) j = atL (tk M s) j), At X 0 42 9 [vr k, vr s, vi i] [] M (qI (fun x M' => M' = M ∧ (x = 0 ∨ x = 1) ∧ (x = 1 ↔ tk M k = tk M s))) := by
    intro n
    induction n using Nat.strongRecOn with
    | ind n ih =>
    intro i ri hi hn h1 h3
    refine at_iload dx_42_9 rfl ?_
    refine at_aload dx_42_10 rfl ?_
    refine at_getI 1 dx_42_11 hk rfl rfl (fun r11 => ?_)
    refine at_cgeR dx_42_12 ri r11 (fun c12 => ?_) (fun c12 => ?_)
    · skip
      refine at_const (x := 1) dx_42_24 rfl ?_
      refine at_zretI dx_42_25 (Or.inr rfl) ?_
      refine ⟨rfl, Or.inr rfl, fun _ => ?_, fun _ => rfl⟩
      unfold tk; rw [h1]; apply List.map_congr_left
      intro j hj; have hj2 := List.mem_range.mp hj
      have := h3 j (by omega) (by omega)
      rw [← atM_eq, ← atM_eq] at this; unfold atM at this; rw [if_pos (by omega), if_pos (by omega)] at this; exact this
    · skip
      refine at_aload dx_42_13 rfl ?_
      refine at_iload dx_42_14 rfl ?_
      refine at_callVI dx_42_15 rfl hk rfl (c_at hk ri hc) ?_
      rintro x15 _ r15 ⟨rfl, h15⟩
      refine at_aload dx_42_16 rfl ?_
      refine at_iload dx_42_17 rfl ?_
      refine at_callVI dx_42_18 rfl hs rfl (c_at hs ri hd) ?_
      rintro x18 _ r18 ⟨rfl, h18⟩
      refine at_ceqR dx_42_19 r15 r18 (fun c19 => ?_) (fun c19 => ?_)
      · skip
        refine at_iincR (y := 1) dx_42_22 rfl rfl (by constructor <;> omega) (fun r22 => ?_)
        refine at_goto dx_42_23 ?_
        exact ih _ (by omega) _ r22 (by omega) rfl h1 (fun j hj hj2 => by
          by_cases e : (j : Int) = i
          · rw [e, ← h15, ← h18]; exact c19
          · exact h3 j (by omega) hj2)
      · skip
        refine at_const (x := 0) dx_42_20 rfl ?_
        refine at_zretI dx_42_21 (Or.inl rfl) ?_
        refine ⟨rfl, Or.inl rfl, fun e => absurd e (by decide), fun e => absurd ?_ c19⟩
        rw [h15, h18, e]
  refine at_aload dx_42_0 rfl ?_
  refine at_getI 1 dx_42_1 hk rfl rfl (fun r1 => ?_)
  refine at_aload dx_42_2 rfl ?_
  refine at_getI 1 dx_42_3 hs rfl rfl (fun r3 => ?_)
  refine at_ceqR dx_42_4 r1 r3 (fun c4 => ?_) (fun c4 => ?_)
  · skip
    refine at_const (x := 0) dx_42_7 rfl ?_
    refine at_istore dx_42_8 ?_
    exact lp _ 0 (by decide) (by decide) rfl c4 (fun j h _ => by omega)
  · skip
    refine at_const (x := 0) dx_42_5 rfl ?_
    refine at_zretI dx_42_6 (Or.inl rfl) ?_
    refine ⟨rfl, Or.inl rfl, fun e => absurd e (by decide), fun e => absurd ?_ c4⟩
    have := congrArg List.length e; rw [tk_len, tk_len] at this; omega
