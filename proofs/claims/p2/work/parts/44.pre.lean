/-! ===== the reference: the documents of a row of steps, reverting ===== -/
noncomputable def runA (vs : List sV) (l : List Int) : List Int := vs.foldl (fun l v => apW v l) l
theorem runA_of (vs : List sV) : ∀ l x, RunW vs l x → x = runA vs l := by
  induction vs with
  | nil => intro l x h; exact h
  | cons v vs ih => intro l x h; exact ih _ _ h.2.2
/-- the length of the document behind the first i steps -/
noncomputable def Lc (g : Int → sV) (l : List Int) (i : Int) : Int := ((runA ((List.range i.toNat).map (fun i : Nat => g i)) l).length : Int)
theorem apW_lenv {v : sV} {l : List Int} (h : okW v (l.length : Int)) : ((apW v l).length : Int) = lenW v (l.length : Int) := by
  have h0 := h
  unfold okW at h
  split at h
  · next im is mb rg s0 s1 t0 t1 p0 p1 P =>
    unfold apW lenW
    dsimp only
    split
    · rw [mkF_len]; omega
    · split
      · rw [splF_len, splF_len]; omega
      · rw [splF_len]; omega
  · exact h.elim
theorem Lc_step {g : Int → sV} {l x : List Int} {N i : Int} (hl : l.length ≤ 60) (h : RunW ((List.range N.toNat).map (fun i : Nat => g i)) l x) (h0 : 0 ≤ i) (h1 : i < N) : okW (g i) (Lc g l i) ∧ Lc g l (i + 1) = lenW (g i) (Lc g l i) := by
  obtain ⟨d, hd⟩ := RunW_end (f := g) h0 (by omega) h
  obtain ⟨n1, n2, n3⟩ := RunW_next (f := g) h0 h1 h hd
  have e1 := runA_of _ _ _ hd
  have e2 := runA_of _ _ _ n3
  unfold Lc
  rw [← e1, ← e2]
  exact ⟨n1, apW_lenv n1⟩
theorem lenW_60 {v : sV} {n : Int} (h : okW v n) (hn : 0 ≤ n ∧ n ≤ 60) : 0 ≤ lenW v n ∧ lenW v n ≤ 60 := by
  unfold okW at h
  split at h
  · unfold lenW; dsimp only; omega
  · exact h.elim
theorem Lc_60 {g : Int → sV} {l x : List Int} {N : Int} (hl : l.length ≤ 60) (h : RunW ((List.range N.toNat).map (fun i : Nat => g i)) l x) : ∀ n : Nat, (n : Int) ≤ N → 0 ≤ Lc g l n ∧ Lc g l n ≤ 60
  | 0, _ => by
    show 0 ≤ (l.length : Int) ∧ (l.length : Int) ≤ 60
    omega
  | n + 1, hn => by
    have h1 := Lc_60 hl h n (by omega)
    obtain ⟨h2, h3⟩ := Lc_step (i := (n : Int)) hl h (by omega) (by omega)
    have h4 := lenW_60 h2 h1
    rw [show ((n + 1 : Nat) : Int) = (n : Int) + 1 by omega, h3]
    exact h4
theorem Lc_r {g : Int → sV} {l x : List Int} {N i : Int} (hl : l.length ≤ 60) (h : RunW ((List.range N.toNat).map (fun i : Nat => g i)) l x) (h0 : 0 ≤ i) (h1 : i ≤ N) : 0 ≤ Lc g l i ∧ Lc g l i ≤ 60 := by
  have h2 := Lc_60 hl h i.toNat (by omega)
  rw [Int.toNat_of_nonneg h0] at h2
  exact h2
theorem Lc_end {g : Int → sV} {l x : List Int} {N : Int} (h : RunW ((List.range N.toNat).map (fun i : Nat => g i)) l x) : Lc g l N = (x.length : Int) := by
  unfold Lc
  rw [← runA_of _ _ _ h]
/-- a client's steps: those of the log that it has, then its own -/
noncomputable def cs (M : mem) (c i : Int) : Int := if i < M 870 c then i else 60 + 10 * c + (i - M 870 c)
theorem cs_run {M : mem} {c : Int} {b x : List Int} (h0 : 0 ≤ M 870 c) (h1 : 0 ≤ M 871 c) (h4 : RunW (lgW M (M 870 c)) [1, 0] b) (h5 : RunW (pdW M c (M 871 c)) b x) : RunW ((List.range (M 870 c + M 871 c).toNat).map (fun i : Nat => mv M (cs M c i))) [1, 0] x := by
  have e : (List.range (M 870 c + M 871 c).toNat).map (fun i : Nat => mv M (cs M c i)) = lgW M (M 870 c) ++ pdW M c (M 871 c) := by
    rw [show (M 870 c + M 871 c).toNat = (M 870 c).toNat + (M 871 c).toNat by omega, List.range_add, List.map_append, List.map_map]
    unfold lgW pdW
    congr 1
    · apply List.map_congr_left
      intro i hi
      have := List.mem_range.mp hi
      show mv M (cs M c i) = mv M i
      unfold cs
      rw [if_pos (by omega)]
    · apply List.map_congr_left
      intro i hi
      have := List.mem_range.mp hi
      show mv M (cs M c (((M 870 c).toNat + i : Nat) : Int)) = _
      unfold cs
      rw [if_neg (by omega)]
      congr 1
      omega
  rw [e]
  exact (RunW_app _ _ _ _).mpr ⟨b, h4, h5⟩
abbrev FRo (q : Nat) (j : Int) : Prop := (q = 856 ∧ j = 24) ∨ (878 ≤ q ∧ q ≤ 880)
theorem m_enters2 {X : scr} {M : mem} {s z : Int} (rs : inR s) (rz : inR z) (hz : z = 0 ∨ z = 1) (hr : 0 ≤ M 856 24 ∧ M 856 24 < 84) : At X 0 120 0 [vr 856, vi s, vi z] [] M (qV (fun M' => frE FRo M M' ∧ M' 856 24 = M 856 24 + 1 ∧ M' 878 (M 856 24) = s ∧ M' 879 (M 856 24) = z ∧ M' 880 (M 856 24) = -1 ∧ ∀ j, j ≠ M 856 24 → M' 878 j = M 878 j ∧ M' 879 j = M 879 j ∧ M' 880 j = M 880 j)) := At.mono (m_enters rs rz hz hr) (fun t v M1 h => by
  obtain ⟨h0, h1, e⟩ := h
  subst e
  refine ⟨h0, h1, fe_ums (fe_ums (fe_ums (fe_um (Or.inr (by decide))) (Or.inr (by decide))) (Or.inr (by decide))) (Or.inl ⟨rfl, rfl⟩), um_eq _ _ _ _, ?_, ?_, ?_, fun j hj => ⟨?_, ?_, ?_⟩⟩ <;> simp (disch := omega) only [um_eq, um_k, um_j])
