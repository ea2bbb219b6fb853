/-! ===== the first memory ===== -/
noncomputable def e0A : List (Nat × List Int) := [(2, [54, 0, 0, 64, 0, 0, 8, 0, 0, 2, 6, 0, 6, 0, 0, 2, 22]), (3, [3, 0, 0, 2, 0, 0, 3, 0, 0, 0, 2, 0, 3, 0, 0, 0, 2]), (6, [0, 2]), (7, [1]), (594, [0, 2]), (595, [1]), (596, [0, 2]), (597, [1]), (682, [0, 2]), (683, [1]), (684, [0, 2]), (685, [1]), (770, [0, 2]), (771, [1]), (772, [0, 2]), (773, [1]), (857, [54, 0, 0, 64, 0, 0, 8, 0, 0, 2, 6, 0, 6, 0, 0, 2, 22]), (858, [3, 0, 0, 2, 0, 0, 3, 0, 0, 0, 2, 0, 3, 0, 0, 0, 2]), (859, [1, 0, 0, 0, 0, 0, 0, 0, 0, 0, 0, 0, 0, 0, 0, 0, 0, 0, 0, 0, 0, 0, 0, 0, 0, 0, 0, 0, 0, 0, 0, 0, 0, 0, 0, 0, 0, 0, 0, 0, 0, 0, 0, 0, 0, 0, 0, 0, 0, 0, 0, 0, 0, 0, 0, 0, 0, 0, 0, 0, 1, 0, 0, 0, 0, 0, 0, 0, 0, 0, 0, 0, 0, 0, 0, 0, 0, 0, 0, 0, 0, 0, 0, 0, 0, 0, 0, 0, 0, 0, 0, 0, 0, 0, 0, 0, 0, 0, 0, 0, 0, 0, 0, 0, 0, 0, 0, 0, 0, 0, 0, 0, 0, 0, 0, 0, 0, 0, 0, 0, 1, 0, 0, 0, 0, 0, 0, 0, 0, 0, 0, 0, 0, 0, 0, 0, 0, 0, 0, 0, 0, 0, 0, 0, 0, 0, 0, 0, 0, 0, 0, 0, 0, 0, 0, 0, 0, 0, 0, 0, 0, 0, 0, 0, 0, 0, 0, 0, 0, 0, 0, 0, 0, 0, 0, 0, 0, 0, 0, 0, 1]), (860, [2, 2, 2, 2])]
noncomputable def e0k : List (Nat × List Int) → Nat → List Int
  | [], _ => []
  | q :: r, k => cond (Nat.beq q.1 k) q.2 (e0k r k)
noncomputable def e0 (k : Nat) : List Int := e0k e0A k
noncomputable def M0 : mem := fun k j => cond (Nat.beq k 26) (-1) ((e0 k).getD j.toNat 0)
noncomputable def e0_q (q : Nat × List Int) : Bool := q.2.all (fun x => decide (0 ≤ x) && decide (x ≤ 64)) && ((Nat.beq (ly_c q.1) 8 || (Nat.beq (ly_c q.1) 5 && (decide (0 ≤ q.2.getD 1 0) && decide (q.2.getD 1 0 ≤ 60)))) && !(Nat.beq q.1 26))
theorem e0_all : e0A.all e0_q = true := by decide +kernel
theorem e0_in (l : List (Nat × List Int)) (k : Nat) : e0k l k = [] ∨ (k, e0k l k) ∈ l := by
  induction l with
  | nil => exact Or.inl rfl
  | cons q r ih =>
    show cond (Nat.beq q.1 k) q.2 (e0k r k) = [] ∨ (k, cond (Nat.beq q.1 k) q.2 (e0k r k)) ∈ q :: r
    cases hb : Nat.beq q.1 k with
    | true =>
      have e := Nat.eq_of_beq_eq_true hb
      subst e
      exact Or.inr List.mem_cons_self
    | false =>
      rcases ih with h | h
      · exact Or.inl h
      · exact Or.inr (List.mem_cons_of_mem _ h)
theorem e0_k (k : Nat) : e0 k = [] ∨ e0_q (k, e0 k) = true := by
  rcases e0_in e0A k with h | h
  · exact Or.inl h
  · exact Or.inr (List.all_eq_true.mp e0_all _ h)
theorem M0_26 (j : Int) : M0 26 j = -1 := rfl
theorem M0_n {k : Nat} (h : k ≠ 26) (j : Int) : M0 k j = (e0 k).getD j.toNat 0 := by
  unfold M0
  cases hb : Nat.beq k 26 with
  | true => exact absurd (Nat.eq_of_beq_eq_true hb) h
  | false => rfl
theorem M0_0 {k : Nat} (h : k ≠ 26) (he : e0 k = []) (j : Int) : M0 k j = 0 := by
  rw [M0_n h, he]
  rfl
theorem M0_b (k : Nat) (j : Int) : M0 k j = -1 ∨ (0 ≤ M0 k j ∧ M0 k j ≤ 64) := by
  by_cases hk : k = 26
  · subst hk
    exact Or.inl rfl
  · rcases e0_k k with he | he
    · rw [M0_0 hk he]
      omega
    · rw [M0_n hk]
      have h1 := (sx_a2 he).1
      rw [List.getD_eq_getElem?_getD]
      cases h2 : (e0 k)[j.toNat]? with
      | none =>
        exact Or.inr ⟨Int.le_refl 0, by show (0 : Int) ≤ 64; decide⟩
      | some x =>
        have h4 := List.all_eq_true.mp h1 x (List.mem_of_getElem? h2)
        simp only [Bool.and_eq_true, decide_eq_true_eq] at h4
        exact Or.inr h4
theorem M0_R (k : Nat) (j : Int) : inR (M0 k j) := by
  have h := M0_b k j
  omega
theorem e0_k1 {k j : Nat} (h : ly_k (ly_c k) j = 1) : M0 k j = 0 ∨ M0 k j = 1 := by
  by_cases hk : k = 26
  · exfalso
    subst hk
    rw [lc_26] at h
    exact absurd h (by show ¬ (4 = 1); decide)
  · rcases e0_k k with he | he
    · exact Or.inl (M0_0 hk he _)
    · exfalso
      have h3 := (sx_a2 (sx_a2 he).2).1
      rcases Bool.or_eq_true_iff.mp h3 with h4 | h4
      · have h5 : ly_c k = 8 := Nat.eq_of_beq_eq_true h4
        rw [h5] at h
        exact absurd h (by show ¬ (0 = 1); decide)
      · have h5 : ly_c k = 5 := Nat.eq_of_beq_eq_true (sx_a2 h4).1
        rw [h5] at h
        have h6 : (sx_nff 5).getD j 9 = 1 := h
        match j, h6 with
        | 0, h6 => exact absurd h6 (by decide)
        | 1, h6 => exact absurd h6 (by decide)
        | j + 2, h6 => exact absurd h6 (by show ¬ (9 = 1); decide)
noncomputable def e0_13 (k : Nat) : Bool := !(Nat.beq (ly_c k) 13) || Nat.beq k 26
theorem e0_13A : ∀ k ∈ List.range 884, e0_13 k = true := by decide +kernel
theorem e0_k13 {k j : Nat} (h : ly_c k = 13) (h0 : 0 ≤ M0 k j) : ly_c (M0 k j).toNat = 4 := by
  exfalso
  have hq := e0_13A k (List.mem_range.mpr (ly_big (k := k) (by omega)))
  unfold e0_13 at hq
  rw [h] at hq
  have e : k = 26 := Nat.eq_of_beq_eq_true hq
  subst e
  have h1 : M0 26 j = -1 := rfl
  omega
theorem M0_CI : CI M0 := by
  refine ⟨fun k hk => ?_, ?_, ?_, ?_, ?_, fun c hc => ?_⟩
  · have hk6 : k ≠ 26 := fun e => by rw [e, lc_26] at hk; exact absurd hk (by decide)
    unfold tkI
    rcases e0_k k with he | he
    · rw [M0_0 hk6 he]
      decide
    · have h3 := (sx_a2 (sx_a2 he).2).1
      have h4 : (Nat.beq (ly_c k) 8 || (Nat.beq (ly_c k) 5 && (decide (0 ≤ (e0 k).getD 1 0) && decide ((e0 k).getD 1 0 ≤ 60)))) = true := h3
      rw [hk] at h4
      have h5 : (decide (0 ≤ (e0 k).getD 1 0) && decide ((e0 k).getD 1 0 ≤ 60)) = true := h4
      rw [M0_n hk6]
      simpa using h5
  · have e : M0 25 3 = 0 := by decide +kernel
    unfold RI
    omega
  · have e : M0 0 3 = 0 := by decide +kernel
    omega
  · have e : M0 0 7 = 0 := by decide +kernel
    omega
  · have e : M0 0 3 = 0 := by decide +kernel
    rw [e]
    show tk M0 6 = [1, 0]
    decide +kernel
  · have e03 : M0 0 3 = 0 := by decide +kernel
    rcases cl_al hc with h | h | h

    · subst h
      have a0 : M0 592 0 = 0 := by decide +kernel
      have a2 : M0 592 2 = 0 := by decide +kernel
      have t2 : tk M0 (592 + 2) = [1, 0] := by decide +kernel
      have t4 : tk M0 (592 + 4) = [1, 0] := by decide +kernel
      unfold CC
      rw [a0, a2, e03, t2, t4]
      exact ⟨by decide, by decide, by decide, by decide, rfl, rfl⟩
    · subst h
      have a0 : M0 680 0 = 0 := by decide +kernel
      have a2 : M0 680 2 = 0 := by decide +kernel
      have t2 : tk M0 (680 + 2) = [1, 0] := by decide +kernel
      have t4 : tk M0 (680 + 4) = [1, 0] := by decide +kernel
      unfold CC
      rw [a0, a2, e03, t2, t4]
      exact ⟨by decide, by decide, by decide, by decide, rfl, rfl⟩
    · subst h
      have a0 : M0 768 0 = 0 := by decide +kernel
      have a2 : M0 768 2 = 0 := by decide +kernel
      have t2 : tk M0 (768 + 2) = [1, 0] := by decide +kernel
      have t4 : tk M0 (768 + 4) = [1, 0] := by decide +kernel
      unfold CC
      rw [a0, a2, e03, t2, t4]
      exact ⟨by decide, by decide, by decide, by decide, rfl, rfl⟩
theorem M0_MC (c : Int) (h0 : 0 ≤ c) (h2 : c ≤ 2) : MC M0 c := by
  have e13 : M0 856 13 = 0 := by decide +kernel
  have key : ∀ c : Nat, c < 3 → (M0 870 (c : Int) = 0 ∧ M0 871 (c : Int) = 0 ∧ M0 874 (c : Int) = 0 ∧ dc M0 (c : Int) = [1, 0]) := by decide +kernel
  obtain ⟨n, rfl⟩ : ∃ n : Nat, c = n := ⟨c.toNat, by omega⟩
  obtain ⟨k1, k2, k3, k4⟩ := key n (by omega)
  unfold MC
  rw [k1, k2, k3, k4, e13]
  exact ⟨by decide, by decide, by decide, [1, 0], rfl, rfl⟩
theorem M0_MI : MI M0 := by
  have e13 : M0 856 13 = 0 := by decide +kernel
  have e19 : M0 856 19 = 0 := by decide +kernel
  refine ⟨fun d h0 h3 => ?_, by omega, by omega, ?_, M0_MC⟩
  · have key : ∀ d : Nat, d < 4 → M0 860 (d : Int) = 2 := by decide +kernel
    obtain ⟨n, rfl⟩ : ∃ n : Nat, d = n := ⟨d.toNat, by omega⟩
    have := key n (by omega)
    omega
  · rw [e13]
    show dc M0 3 = [1, 0]
    decide +kernel
theorem M0_GR : GR (M0 857) (M0 858) := fun i h0 h17 => by
  have key : ∀ n : Nat, n < 18 → (0 ≤ M0 857 (n : Int) ∧ M0 857 (n : Int) ≤ 126) ∧ 0 ≤ M0 858 (n : Int) ∧ M0 858 (n : Int) ≤ 3 := by decide +kernel
  obtain ⟨n, rfl⟩ : ∃ n : Nat, i = n := ⟨i.toNat, by omega⟩
  exact key n (by omega)
theorem M0_acc : accR (M0 2) (M0 3) [1, 0] = some [(0, 86)] := by decide +kernel
theorem M0_E1 : E1 M0 M0 := by
  have q2 : e0 2 = e0 857 := by decide +kernel
  have q3 : e0 3 = e0 858 := by decide +kernel
  have k2 : M0 2 = M0 857 := funext (fun j => by rw [M0_n (by decide), M0_n (by decide), q2])
  have k3 : M0 3 = M0 858 := funext (fun j => by rw [M0_n (by decide), M0_n (by decide), q3])
  refine ⟨by decide +kernel, by decide +kernel, k2, k3, ⟨0, 86, M0_acc, by decide +kernel⟩, fun x h0 h3 => ?_⟩
  have key : ∀ n : Nat, n < 3 → M0 (592 + 88 * n) 2 = 0 ∧ M0 871 (n : Int) = 0 ∧ tk M0 (592 + 88 * n + 4) = [1, 0] ∧ dc M0 (n : Int) = [1, 0] ∧ tk M0 (592 + 88 * n + 6) = [] ∧ cpM M0 (n : Int) = [] := by decide +kernel
  obtain ⟨n, rfl⟩ : ∃ n : Nat, x = n := ⟨x.toNat, by omega⟩
  have hcl : cl (n : Int) = 592 + 88 * n := rfl
  obtain ⟨a1, a2, a3, a4, a5, a6⟩ := key n (by omega)
  refine ⟨[], ?_, ?_, (fun i D hD => by cases hD), ?_, ?_, ?_⟩
  · rw [hcl, a1]; rfl
  · rw [a2]; rfl
  · rw [hcl]; exact a3
  · rw [hcl, a3]; exact a4
  · rw [hcl, a5]; exact a6
theorem M0_R2 : R2 M0 M0 := by
  refine ⟨M0_CI, ⟨M0_MI, M0_GR, fun c h0 h2 => ?_⟩, Or.inl M0_E1⟩
  have key : ∀ n : Nat, n < 3 → cpM M0 (n : Int) = [] := by decide +kernel
  obtain ⟨n, rfl⟩ : ∃ n : Nat, c = n := ⟨c.toNat, by omega⟩
  rw [key n (by omega)]
  rfl
