/-! ===== the reference: receiving ===== -/
noncomputable def kpV (M : mem) (q : Int) : List sV := (List.range q.toNat).map (fun i : Nat => mv M (90 + (i : Int)))
theorem kpV_succ {M : mem} {q : Int} (h : 0 ≤ q) : kpV M (q + 1) = kpV M q ++ [mv M (90 + q)] := by
  unfold kpV
  rw [show (q + 1).toNat = q.toNat + 1 by omega, List.range_succ, List.map_append]
  show _ ++ [mv M (90 + ((q.toNat : Nat) : Int))] = _
  rw [Int.toNat_of_nonneg h]
theorem kpV_fe {P : Nat → Int → Prop} {M M' : mem} {q : Int} (h : frE P M M') (hp : ∀ x j, P x j → ¬ (((861 ≤ x ∧ x ≤ 864) ∧ 90 ≤ j ∧ j < 90 + q) ∨ ((865 ≤ x ∧ x ≤ 867) ∧ 180 ≤ j ∧ j < 180 + 2 * q) ∨ (x = 869 ∧ 5400 ≤ j ∧ j < 5400 + 60 * q))) : kpV M' q = kpV M q := by
  unfold kpV
  apply List.map_congr_left
  intro i hi
  have := List.mem_range.mp hi
  exact mv_fe h (fun x j e h8 hq => hp x j hq (by omega))
/-- lengths along a row: the client's documents backwards, then the log's -/
noncomputable def Ln0 (M : mem) (c j : Int) : Int := if j ≤ M 871 c then Lc (fun i => mv M (cs M c i)) [1, 0] (M 870 c + M 871 c - j) else Lc (fun i => mv M i) [1, 0] (M 870 c + (j - M 871 c))
theorem Lc_cs {M : mem} {c : Int} (h : 0 ≤ M 870 c) : Lc (fun i => mv M (cs M c i)) [1, 0] (M 870 c) = Lc (fun i => mv M i) [1, 0] (M 870 c) := by
  unfold Lc
  congr 3
  apply List.map_congr_left
  intro i hi
  have := List.mem_range.mp hi
  show mv M (cs M c i) = mv M i
  unfold cs
  rw [if_pos (by omega)]
abbrev FBx (c : Int) (x : Nat) (j : Int) : Prop := FRo x j ∨ (x = 856 ∧ (j = 23 ∨ j = 28)) ∨ ((861 ≤ x ∧ x ≤ 864) ∧ 90 ≤ j) ∨ ((865 ≤ x ∧ x ≤ 867) ∧ 180 ≤ j) ∨ x = 868 ∨ (x = 869 ∧ 5400 ≤ j) ∨ x = 872 ∨ x = 877 ∨ x = 881 ∨ x = 882 ∨ (x = 859 ∧ 60 * c ≤ j ∧ j < 60 * c + 60) ∨ (x = 860 ∧ j = c)
theorem row0 {M M1 : mem} {c : Int} (hM : MI M) (hc : 0 ≤ c ∧ c ≤ 2) (hmv : ∀ s : Int, 0 ≤ s → s ≤ 89 → mv M1 s = mv M s) (er : M1 856 24 = M 871 c + (M 856 13 - M 870 c))
    (wA : ∀ j : Int, 0 ≤ j → j < M 871 c → M1 878 j = 60 + 10 * c + (M 871 c - 1 - j) ∧ M1 879 j = 1 ∧ M1 880 j = -1) (wB : ∀ j : Int, M 871 c ≤ j → j < M 871 c + (M 856 13 - M 870 c) → M1 878 j = M 870 c + (j - M 871 c) ∧ M1 879 j = 0 ∧ M1 880 j = -1) :
    RowOK M1 (Ln0 M c) ∧ Ln0 M c (M 871 c + (M 856 13 - M 870 c)) = M 860 3 ∧ ∀ k : Int, 0 ≤ k → k < M 871 c → okW (mv M (60 + 10 * c + k)) (Ln0 M c (M 871 c - k)) := by
  obtain ⟨a1, a2, a3, a4, a5⟩ := hM
  have hmc := a5 c hc.1 hc.2
  unfold MC at hmc
  obtain ⟨b1, b2, b3, b, b4, b5⟩ := hmc
  have hrun := cs_run b1.1 b2.1 b4 b5
  have hlog : RunW ((List.range (M 856 13).toNat).map (fun i : Nat => (fun i : Int => mv M i) i)) [1, 0] (dc M 3) := a4
  have hcs : ∀ i : Int, M 870 c ≤ i → cs M c i = 60 + 10 * c + (i - M 870 c) := fun i h => by unfold cs; rw [if_neg (by omega)]
  refine ⟨⟨by omega, fun j h0 h1 => ?_⟩, ?_, fun k h0 h1 => ?_⟩
  · by_cases hj : j < M 871 c
    · obtain ⟨q1, q2, q3⟩ := wA j h0 hj
      obtain ⟨s1, s2⟩ := Lc_step (g := fun i => mv M (cs M c i)) (i := M 870 c + M 871 c - (j + 1)) (by decide) hrun (by omega) (by omega)
      unfold RowK
      rw [q1, q2, q3, hmv _ (by omega) (by omega)]
      have e1 : Ln0 M c j = Lc (fun i => mv M (cs M c i)) [1, 0] (M 870 c + M 871 c - j) := by unfold Ln0; rw [if_pos (by omega)]
      have e2 : Ln0 M c (j + 1) = Lc (fun i => mv M (cs M c i)) [1, 0] (M 870 c + M 871 c - (j + 1)) := by unfold Ln0; rw [if_pos (by omega)]
      rw [e1, e2]
      rw [show M 870 c + M 871 c - (j + 1) + 1 = M 870 c + M 871 c - j by omega, hcs _ (by omega)] at s2
      rw [hcs _ (by omega)] at s1
      rw [show 60 + 10 * c + (M 871 c - 1 - j) = 60 + 10 * c + (M 870 c + M 871 c - (j + 1) - M 870 c) by omega]
      exact ⟨by omega, Lc_r (by decide) hrun (by omega) (by omega), Lc_r (by decide) hrun (by omega) (by omega), Or.inr ⟨rfl, s1, s2⟩, Or.inl rfl⟩
    · obtain ⟨q1, q2, q3⟩ := wB j (by omega) (by omega)
      obtain ⟨s1, s2⟩ := Lc_step (g := fun i => mv M i) (i := M 870 c + (j - M 871 c)) (by decide) hlog (by omega) (by omega)
      unfold RowK
      rw [q1, q2, q3, hmv _ (by omega) (by omega)]
      have e1 : Ln0 M c j = Lc (fun i => mv M i) [1, 0] (M 870 c + (j - M 871 c)) := by
        unfold Ln0
        by_cases e : j ≤ M 871 c
        · rw [if_pos e, show M 870 c + M 871 c - j = M 870 c by omega, Lc_cs b1.1, show M 870 c + (j - M 871 c) = M 870 c by omega]
        · rw [if_neg e]
      have e2 : Ln0 M c (j + 1) = Lc (fun i => mv M i) [1, 0] (M 870 c + (j - M 871 c) + 1) := by unfold Ln0; rw [if_neg (by omega)]; congr 1; omega
      rw [e1, e2]
      refine ⟨by omega, Lc_r (by decide) hlog (by omega) (by omega), Lc_r (by decide) hlog (by omega) (by omega), Or.inl ⟨rfl, s1, s2⟩, Or.inl rfl⟩
  · unfold Ln0
    have e3 : ((dc M 3).length : Int) = M 860 3 := by
      have := a1 3 (by decide) (by decide)
      rw [dc_len]; omega
    by_cases e : M 871 c + (M 856 13 - M 870 c) ≤ M 871 c
    · rw [if_pos e, show M 870 c + M 871 c - (M 871 c + (M 856 13 - M 870 c)) = M 870 c by omega, Lc_cs b1.1, ← e3, ← Lc_end hlog, show M 870 c = M 856 13 by omega]
    · rw [if_neg e, show M 870 c + (M 871 c + (M 856 13 - M 870 c) - M 871 c) = M 856 13 by omega, Lc_end hlog, e3]
  · obtain ⟨s1, s2⟩ := Lc_step (g := fun i => mv M (cs M c i)) (i := M 870 c + k) (by decide) hrun (by omega) (by omega)
    unfold Ln0
    rw [if_pos (by omega), show M 870 c + M 871 c - (M 871 c - k) = M 870 c + k by omega]
    rw [hcs _ (by omega), show M 870 c + k - M 870 c = k by omega] at s1
    exact s1
