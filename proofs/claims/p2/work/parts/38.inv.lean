/-! ===== what is so of the reference between two calls ===== -/
noncomputable def RunW : List sV → List Int → List Int → Prop
  | [], l, l' => l' = l
  | v :: vs, l, l' => okW v (l.length : Int) ∧ Bal (apW v l) ∧ RunW vs (apW v l) l'
theorem RunW_app (a b : List sV) : ∀ l l'', RunW (a ++ b) l l'' ↔ ∃ l', RunW a l l' ∧ RunW b l' l'' := by
  induction a with
  | nil =>
    intro l l''
    constructor
    · intro h; exact ⟨l, rfl, h⟩
    · rintro ⟨l', h1, h2⟩
      have h1 : l' = l := h1
      subst h1
      exact h2
  | cons v vs ih =>
    intro l l''
    constructor
    · rintro ⟨h1, h2, h3⟩
      obtain ⟨l', h4, h5⟩ := (ih _ _).mp h3
      exact ⟨l', ⟨h1, h2, h4⟩, h5⟩
    · rintro ⟨l', ⟨h1, h2, h3⟩, h4⟩
      exact ⟨h1, h2, (ih _ _).mpr ⟨l', h3, h4⟩⟩
theorem RunW_det (a : List sV) : ∀ l x y, RunW a l x → RunW a l y → x = y := by
  induction a with
  | nil =>
    intro l x y h1 h2
    have h1 : x = l := h1
    have h2 : y = l := h2
    rw [h1, h2]
  | cons v vs ih => intro l x y h1 h2; exact ih _ _ _ h1.2.2 h2.2.2
theorem RunW_bal (a : List sV) : ∀ l x, Bal l → RunW a l x → Bal x := by
  induction a with
  | nil => intro l x hB h; have h : x = l := h; subst h; exact hB
  | cons v vs ih => intro l x hB h; exact ih _ _ h.2.1 h.2.2
noncomputable def lgW (M : mem) (n : Int) : List sV := (List.range n.toNat).map (fun i : Nat => mv M (i : Int))
noncomputable def pdW (M : mem) (c n : Int) : List sV := (List.range n.toNat).map (fun i : Nat => mv M (60 + 10 * c + (i : Int)))
theorem lgW_succ {M : mem} {n : Int} (h : 0 ≤ n) : lgW M (n + 1) = lgW M n ++ [mv M n] := by
  unfold lgW
  rw [show (n + 1).toNat = n.toNat + 1 by omega, List.range_succ, List.map_append]
  show _ ++ [mv M ((n.toNat : Nat) : Int)] = _
  rw [Int.toNat_of_nonneg h]
theorem pdW_succ {M : mem} {c n : Int} (h : 0 ≤ n) : pdW M c (n + 1) = pdW M c n ++ [mv M (60 + 10 * c + n)] := by
  unfold pdW
  rw [show (n + 1).toNat = n.toNat + 1 by omega, List.range_succ, List.map_append]
  show _ ++ [mv M (60 + 10 * c + ((n.toNat : Nat) : Int))] = _
  rw [Int.toNat_of_nonneg h]
/-- a prefix of a row of steps, and the next one -/
theorem RunW_next {f : Int → sV} {i n : Int} {l d x : List Int} (h0 : 0 ≤ i) (h1 : i < n) (h : RunW ((List.range n.toNat).map (fun i : Nat => f i)) l x) (hd : RunW ((List.range i.toNat).map (fun i : Nat => f i)) l d) : okW (f i) (d.length : Int) ∧ Bal (apW (f i) d) ∧ RunW ((List.range (i + 1).toNat).map (fun i : Nat => f i)) l (apW (f i) d) := by
  obtain ⟨r, hr⟩ := range_app (i := i + 1) (n := n) (by omega) (by omega) (fun i : Nat => f i)
  rw [hr] at h
  obtain ⟨l', h2, -⟩ := (RunW_app _ _ _ _).mp h
  have h3 : (List.range (i + 1).toNat).map (fun i : Nat => f i) = (List.range i.toNat).map (fun i : Nat => f i) ++ [f i] := by
    rw [show (i + 1).toNat = i.toNat + 1 by omega, List.range_succ, List.map_append]
    show _ ++ [f ((i.toNat : Nat) : Int)] = _
    rw [Int.toNat_of_nonneg h0]
  rw [h3] at h2 ⊢
  obtain ⟨l2, h4, h5⟩ := (RunW_app _ _ _ _).mp h2
  have h6 := RunW_det _ _ _ _ h4 hd
  subst h6
  exact ⟨h5.1, h5.2.1, (RunW_app _ _ _ _).mpr ⟨_, hd, h5.1, h5.2.1, rfl⟩⟩
theorem RunW_end {f : Int → sV} {i n : Int} {l x : List Int} (h0 : 0 ≤ i) (h1 : i ≤ n) (h : RunW ((List.range n.toNat).map (fun i : Nat => f i)) l x) : ∃ d, RunW ((List.range i.toNat).map (fun i : Nat => f i)) l d := by
  obtain ⟨r, hr⟩ := range_app (i := i) (n := n) h0 h1 (fun i : Nat => f i)
  rw [hr] at h
  obtain ⟨l', h2, -⟩ := (RunW_app _ _ _ _).mp h
  exact ⟨l', h2⟩
theorem Bal10 : Bal [1, 0] := by
  refine ⟨fun i hi => ?_, ?_⟩
  · have hi : i ≤ 2 := hi
    rcases (show i = 0 ∨ i = 1 ∨ i = 2 by omega) with rfl | rfl | rfl <;> decide +kernel
  · decide +kernel
/-- cells of the reference whose contents nothing rests on between two calls -/
abbrev sqE (q : Nat) (j : Int) : Prop := (q = 856 ∧ j ≠ 13 ∧ j ≠ 19) ∨ (q = 857 ∨ q = 858) ∨ ((861 ≤ q ∧ q ≤ 864) ∧ 90 ≤ j) ∨ ((865 ≤ q ∧ q ≤ 867) ∧ 180 ≤ j) ∨ q = 868 ∨ (q = 869 ∧ 5400 ≤ j) ∨ (872 ≤ q ∧ q ≤ 873) ∨ (875 ≤ q ∧ q ≤ 883)
/-- the cells of one client -/
abbrev ceE (c : Int) (q : Nat) (j : Int) : Prop := (q = 859 ∧ 60 * c ≤ j ∧ j < 60 * c + 60) ∨ ((q = 860 ∨ q = 870 ∨ q = 871 ∨ q = 874) ∧ j = c) ∨ ((861 ≤ q ∧ q ≤ 864) ∧ 60 + 10 * c ≤ j ∧ j < 70 + 10 * c) ∨ ((865 ≤ q ∧ q ≤ 867) ∧ 120 + 20 * c ≤ j ∧ j < 140 + 20 * c) ∨ (q = 869 ∧ 3600 + 600 * c ≤ j ∧ j < 4200 + 600 * c)
abbrev MC (M : mem) (c : Int) : Prop := (0 ≤ M 870 c ∧ M 870 c ≤ M 856 13) ∧ (0 ≤ M 871 c ∧ M 871 c ≤ 10) ∧ (0 ≤ M 874 c ∧ M 874 c ≤ 60) ∧ ∃ b, RunW (lgW M (M 870 c)) [1, 0] b ∧ RunW (pdW M c (M 871 c)) b (dc M c)
abbrev MI (M : mem) : Prop := (∀ d : Int, 0 ≤ d → d ≤ 3 → 0 ≤ M 860 d ∧ M 860 d ≤ 60) ∧ (0 ≤ M 856 13 ∧ M 856 13 ≤ 60) ∧ (0 ≤ M 856 19 ∧ M 856 19 ≤ 10) ∧ RunW (lgW M (M 856 13)) [1, 0] (dc M 3) ∧ ∀ c : Int, 0 ≤ c → c ≤ 2 → MC M c
theorem lgW_fe {P : Nat → Int → Prop} {M M' : mem} {n : Int} (h : frE P M M') (hp : ∀ q j, P q j → ¬ (((861 ≤ q ∧ q ≤ 864) ∧ 0 ≤ j ∧ j < n) ∨ ((865 ≤ q ∧ q ≤ 867) ∧ 0 ≤ j ∧ j < 2 * n) ∨ (q = 869 ∧ 0 ≤ j ∧ j < 60 * n))) : lgW M' n = lgW M n := by
  unfold lgW
  apply List.map_congr_left
  intro i hi
  have := List.mem_range.mp hi
  exact mv_fe h (fun q j e h8 hq => hp q j hq (by omega))
theorem pdW_fe {P : Nat → Int → Prop} {M M' : mem} {c n : Int} (h : frE P M M') (hp : ∀ q j, P q j → ¬ (((861 ≤ q ∧ q ≤ 864) ∧ 60 + 10 * c ≤ j ∧ j < 60 + 10 * c + n) ∨ ((865 ≤ q ∧ q ≤ 867) ∧ 120 + 20 * c ≤ j ∧ j < 120 + 20 * c + 2 * n) ∨ (q = 869 ∧ 3600 + 600 * c ≤ j ∧ j < 3600 + 600 * c + 60 * n))) : pdW M' c n = pdW M c n := by
  unfold pdW
  apply List.map_congr_left
  intro i hi
  have := List.mem_range.mp hi
  exact mv_fe h (fun q j e h8 hq => hp q j hq (by omega))
theorem dc_fe {P : Nat → Int → Prop} {M M' : mem} {d : Int} (h : frE P M M') (hl : M 860 d ≤ 60) (h1 : ¬ P 860 d) (h2 : ∀ j, 60 * d ≤ j → j < 60 * d + 60 → ¬ P 859 j) : dc M' d = dc M d :=
  dc_cg (h 860 d h1) (fun j hj => h 859 _ (h2 _ (by omega) (by omega)))
theorem MI_cl {M M' : mem} {c : Int} (hM : MI M) (hc : 0 ≤ c ∧ c ≤ 2) (h : frE (fun q j => sqE q j ∨ ceE c q j) M M') (hs : 0 ≤ M' 860 c ∧ M' 860 c ≤ 60) (hcc : MC M' c) : MI M' := by
  obtain ⟨a1, a2, a3, a4, a5⟩ := hM
  have e13 : M' 856 13 = M 856 13 := h 856 13 (by dsimp only [sqE, ceE]; omega)
  have e19 : M' 856 19 = M 856 19 := h 856 19 (by dsimp only [sqE, ceE]; omega)
  have lg : ∀ n : Int, n ≤ 60 → lgW M' n = lgW M n := fun n hn => lgW_fe h (fun q j e => by dsimp only [sqE, ceE] at e; omega)
  have ed : ∀ d : Int, 0 ≤ d → d ≤ 3 → d ≠ c → M' 860 d = M 860 d ∧ dc M' d = dc M d := fun d h0 h3 hne =>
    ⟨h 860 d (by dsimp only [sqE, ceE]; omega), dc_fe h (a1 d h0 h3).2 (by dsimp only [sqE, ceE]; omega) (fun j h1 h2 => by dsimp only [sqE, ceE]; omega)⟩
  refine ⟨fun d h0 h3 => ?_, by rw [e13]; exact a2, by rw [e19]; exact a3, ?_, fun c' h0 h2 => ?_⟩
  · by_cases e : d = c
    · subst e; exact hs
    · rw [(ed d h0 h3 e).1]; exact a1 d h0 h3
  · rw [e13, lg _ a2.2, (ed 3 (by decide) (by decide) (by omega)).2]; exact a4
  · by_cases e : c' = c
    · subst e; exact hcc
    · obtain ⟨b1, b2, b3, b, b4, b5⟩ := a5 c' h0 h2
      unfold MC
      rw [h 870 c' (by dsimp only [sqE, ceE]; omega), h 871 c' (by dsimp only [sqE, ceE]; omega), h 874 c' (by dsimp only [sqE, ceE]; omega), e13, lg _ (by omega), (ed c' h0 (by omega) e).2, pdW_fe h (fun q j e => by dsimp only [sqE, ceE] at e; omega)]
      exact ⟨b1, b2, b3, b, b4, b5⟩
theorem MC_fe {P : Nat → Int → Prop} {M M' : mem} {c : Int} (hM : MI M) (hc : 0 ≤ c ∧ c ≤ 2) (h : frE P M M') (hp : ∀ q j, P q j → sqE q j) : MC M' c := by
  obtain ⟨a1, a2, a3, a4, a5⟩ := hM
  obtain ⟨b1, b2, b3, b, b4, b5⟩ := a5 c hc.1 hc.2
  have h := fe_le h hp
  unfold MC
  rw [h 870 c (by dsimp only [sqE]; omega), h 871 c (by dsimp only [sqE]; omega), h 874 c (by dsimp only [sqE]; omega), h 856 13 (by dsimp only [sqE]; omega), lgW_fe h (fun q j e => by dsimp only [sqE] at e; omega), dc_fe h (a1 c hc.1 (by omega)).2 (by dsimp only [sqE]; omega) (fun j h1 h2 => by dsimp only [sqE]; omega), pdW_fe h (fun q j e => by dsimp only [sqE] at e; omega)]
  exact ⟨b1, b2, b3, b, b4, b5⟩
theorem MI_sq {M M' : mem} (hM : MI M) (h : frE sqE M M') : MI M' :=
  MI_cl (c := 0) hM (by decide) (fe_le h (fun q j e => Or.inl e)) (by rw [h 860 0 (by dsimp only [sqE]; omega)]; exact hM.1 0 (by decide) (by decide)) (MC_fe hM (by decide) h (fun q j e => e))
theorem MI_bal {M : mem} {c : Int} (hM : MI M) (hc : 0 ≤ c ∧ c ≤ 3) : Bal (dc M c) := by
  obtain ⟨a1, a2, a3, a4, a5⟩ := hM
  by_cases e : c = 3
  · subst e; exact RunW_bal _ _ _ Bal10 a4
  · obtain ⟨b1, b2, b3, b, b4, b5⟩ := a5 c hc.1 (by omega)
    exact RunW_bal _ _ _ (RunW_bal _ _ _ Bal10 b4) b5
theorem okX100 {M : mem} {n : Int} : okX (mv M 100) n ↔ ((M 861 100 ≠ 0 ∧ 0 ≤ M 865 200 ∧ M 865 200 ≤ M 865 201 ∧ M 865 201 ≤ n ∧ (M 863 100 = 0 ∨ M 863 100 = 1) ∧ M 866 200 = 0 ∧ M 866 201 = 0 ∧ M 867 200 = 0 ∧ M 867 201 = 0) ∨
    (M 861 100 = 0 ∧ (M 864 100 = 1 ∨ M 864 100 = 2) ∧ 0 ≤ M 865 200 ∧ 0 ≤ M 866 200 ∧ M 865 200 + M 866 200 ≤ n ∧ (0 ≤ M 867 200 ∧ M 867 200 ≤ 100) ∧ (0 ≤ M 867 201 ∧ M 867 201 ≤ 100) ∧ (M 864 100 = 1 → M 867 201 = 0 ∧ M 866 201 = 0 ∧ M 865 201 = 0) ∧ (M 864 100 = 2 → M 865 200 + M 866 200 ≤ M 865 201 ∧ 0 ≤ M 866 201 ∧ M 865 201 + M 866 201 ≤ n))) := Iff.rfl
abbrev hi (q : Nat) : Prop := 856 ≤ q
