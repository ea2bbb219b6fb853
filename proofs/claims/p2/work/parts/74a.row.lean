/-! ===== receiving while nothing is confirmed: each pending step comes out as it was ===== -/
abbrev okT (M : mem) (s : Nat) : Prop := okS M s ∧ (M s 0 ≠ 0 → 0 ≤ M s 1 ∧ M s 1 < M s 2 ∧ M s 2 ≤ 60)
theorem okT_u {M M' : mem} {s t : Nat} (h : sv M' s = sv M t) (ht : okT M t) : okT M' s := by
  unfold sv at h
  have h1 := congrArg Prod.fst h
  dsimp only at h1
  simp only [List.cons.injEq] at h1
  obtain ⟨e0, e1, e2, -, -, h5, h6, h7, h8, h9, h10, h11, -⟩ := h1
  unfold okT okS at ht ⊢
  rw [e0, e1, e2, h5, h6, h7, h8, h9, h10, h11]
  exact ht
def PV (M : mem) (c n : Nat) (f : Nat → List Int) : Prop := f 0 = [1, 0] ∧ f n = tk M (c + 4) ∧ ∀ j : Nat, j < n → okT M (pst c j) ∧ okV (sv M (pst c j)) (f j) ∧ f (j + 1) = apV (sv M (pst c j)) (f j) ∧ acc (M 2) (M 3) (f (j + 1))
abbrev rq4 (q : Nat) : Prop := q = 25 ∨ q = 26 ∨ q = 27 ∨ q = 28
theorem TI_rq {M M' : mem} (hT : TI M) (f : fr rq4 M M') : TI M' := TI_no hT f (fun q hq hP => by
  rcases hP with h | h | h | h
  · rw [h, lc_25] at hq; exact absurd hq (by decide)
  · rw [h, lc_26] at hq; exact absurd hq (by decide)
  · rw [h, lc_27] at hq; exact absurd hq (by decide)
  · rw [h, lc_28] at hq; exact absurd hq (by decide))
theorem TI_bec {M M' : mem} {k : Nat} (hk : ly_c k = 5) (hT : TI M) (f : fr (fun q => q = k ∨ q = k + 1) M M') (i : tkI M' k) : TI M' := TI_fr hT f (fun q hq hP => by
  rcases hP with h | h
  · subst h; exact i
  · have h1 := tk_e hq; have h2 := tk_e hk; omega)
theorem rw_next {M1 M2 : mem} {c n i : Nat} (hc : ly_c c = 0) (hi : i < n ∧ n ≤ 10) (hR : RWx M1 c n i) (es : sv M1 (512 + 8 * i) = sv M1 (pst c i)) (f : fr rq4 M1 M2) (e1 : M2 25 3 = M1 25 3 + 1)
    (e2 : M2 26 (M1 25 3) = ((512 + 8 * i : Nat) : Int)) (e3 : M2 27 (M1 25 3) = 0) (e4 : M2 28 (M1 25 3) = -1) (e5 : M2 28 ((n : Int) - 1 - (i : Int)) = M1 25 3)
    (g : ∀ j, j ≠ M1 25 3 → M2 26 j = M1 26 j ∧ M2 27 j = M1 27 j ∧ (j ≠ (n : Int) - 1 - (i : Int) → M2 28 j = M1 28 j)) : RWx M2 c n (i + 1) := by
  have h8 := cl_al hc
  obtain ⟨a1, a2, a3, a4, a5, a6⟩ := hR
  have s1 : ∀ k, k ≤ i → sv M2 (512 + 8 * k) = sv M1 (512 + 8 * k) := fun k hk => sv_cg (fun q j h => f q j (by dsimp only [rq4]; omega))
  have s2 : ∀ k, sv M2 (pst c k) = sv M1 (pst c k) := fun k => sv_cg (fun q j h => f q j (by dsimp only [rq4]; unfold pst at h; omega))
  refine ⟨by rw [e1, a1]; omega, fun k h0 h1 => ?_, fun k h0 h1 => ?_, fun k h0 => ?_, fun k h0 => ?_, fun k h0 => ?_⟩
  · obtain ⟨g1, g2, -⟩ := g k (by omega)
    rw [g1, g2]
    exact a2 k h0 h1
  · by_cases e : k = (n : Int) - 1 - (i : Int)
    · rw [e, e5, a1]
      omega
    · rw [(g k (by omega)).2.2 e]
      exact a3 k (by omega) h1
  · by_cases e : k = i
    · subst e
      rw [a1] at e2 e3 e4
      exact ⟨e2, e3, e4⟩
    · obtain ⟨g1, g2, g3⟩ := g ((n : Int) + (k : Int)) (by omega)
      rw [g1, g2, g3 (by omega)]
      exact a4 k (by omega)
  · rw [s1 k (by omega), s2 k]
    by_cases e : k = i
    · subst e
      exact es
    · exact a5 k (by omega)
  · have h9 := a6 k h0
    have y : ∀ o : Nat, o ≤ 3 → ∀ j, M2 (pst c k + o) j = M1 (pst c k + o) j := fun o ho j => f _ j (by dsimp only [rq4]; unfold pst; omega)
    unfold okS at h9 ⊢
    rw [show M2 (pst c k) 5 = M1 (pst c k) 5 from y 0 (by omega) 5, y 1 (by omega), y 2 (by omega), y 3 (by omega), y 1 (by omega), y 2 (by omega), y 3 (by omega)]
    exact h9
abbrev mz (c q : Nat) : Prop := wq q ∨ q = c + 4 ∨ q = c + 5
abbrev mzy (c q : Nat) : Prop := mz c q ∨ (c + 8 ≤ q ∧ q < c + 88)
abbrev mzz (c q : Nat) : Prop := mz c q ∨ q = c ∨ (c + 8 ≤ q ∧ q < c + 88)
theorem pst_c {c n j : Nat} (hc : ly_c c = 0) (h : j < 10) : ly_c (pst c j) = 4 := pd_c hc (x := (j : Int)) (by omega) (by omega)
theorem mps_c {j : Nat} (h : j < 10) : ly_c (512 + 8 * j) = 4 := mp_c (x := (j : Int)) (by omega) (by omega)

set_option maxRecDepth 100000 in
set_option maxHeartbeats 4000000 in
theorem x_addMap {X : scr} {M : mem} {t : Nat} {z : Int} (ht : ly_c t = 4) (hz : z = 0 ∨ z = 1) (rz : inR z) (hI : 0 ≤ M 25 3 ∧ M 25 3 < 80) : At X 0 11 0 [vr 25, vr t, vi z] [] M (qV (fun M' => fr rq4 M M' ∧ M' 25 3 = M 25 3 + 1 ∧ M' 26 (M 25 3) = (t : Int) ∧ M' 27 (M 25 3) = z ∧ M' 28 (M 25 3) = -1 ∧ ∀ j, j ≠ M 25 3 → M' 26 j = M 26 j ∧ M' 27 j = M 27 j ∧ M' 28 j = M 28 j)) := by
  refine at_aload dx_11_0 rfl ?_
  refine at_getI 3 dx_11_1 lc_25 rfl rfl (fun r1 => ?_)
  refine at_zltR dx_11_2 r1 (fun c2 => ?_) (fun c2 => ?_)
  · exfalso; omega
  · skip
    refine at_aload dx_11_3 rfl ?_
    refine at_getI 3 dx_11_4 lc_25 rfl rfl (fun r4 => ?_)
    refine at_const (x := 80) dx_11_5 rfl ?_
    refine at_cgeR dx_11_6 r4 (by decide) (fun c6 => ?_) (fun c6 => ?_)
    · exfalso; omega
    · skip
      refine at_aload dx_11_7 rfl ?_
      refine at_getR dx_11_8 lc_25 rfl lt_25_0 ?_
      refine at_aload dx_11_9 rfl ?_
      refine at_getI 3 dx_11_10 lc_25 rfl rfl (fun r10 => ?_)
      refine at_aload dx_11_11 rfl ?_
      refine at_astD dx_11_12 lc_26 ln_26 (by first | omega | (simp (disch := omega) only [um_eq, um_k, um_j]; omega)) (by first | omega | (simp (disch := omega) only [um_eq, um_k, um_j]; omega)) ht ?_
      refine at_aload dx_11_13 rfl ?_
      refine at_getR dx_11_14 lc_25 rfl lt_25_1 ?_
      refine at_aload dx_11_15 rfl ?_
      refine at_getI 3 dx_11_16 lc_25 rfl rfl (fun r16 => ?_)
      refine at_iload dx_11_17 rfl ?_
      refine at_astZ dx_11_18 lc_27 ln_27 (by first | omega | (simp (disch := omega) only [um_eq, um_k, um_j]; omega)) (by first | omega | (simp (disch := omega) only [um_eq, um_k, um_j]; omega)) hz ?_
      refine at_aload dx_11_19 rfl ?_
      refine at_getR dx_11_20 lc_25 rfl lt_25_2 ?_
      refine at_aload dx_11_21 rfl ?_
      refine at_getI 3 dx_11_22 lc_25 rfl rfl (fun r22 => ?_)
      refine at_const (x := -1) dx_11_23 rfl ?_
      refine at_astI dx_11_24 lc_28 ln_28 (by first | omega | (simp (disch := omega) only [um_eq, um_k, um_j]; omega)) (by first | omega | (simp (disch := omega) only [um_eq, um_k, um_j]; omega)) (by decide) ?_
      refine at_aload dx_11_25 rfl ?_
      refine at_dup dx_11_26 rfl ?_
      refine at_getI 3 dx_11_27 lc_25 rfl rfl (fun r27 => ?_)
      refine at_const (x := 1) dx_11_28 rfl ?_
      refine at_addR dx_11_29 (by (simp (disch := omega) only [um_eq, um_k, um_j]; constructor <;> omega)) (fun r29 => ?_)
      refine at_putI 3 dx_11_30 lc_25 rfl rfl r29 ?_
      refine at_vretV dx_11_31 ?_
      refine ⟨by (repeat (first | exact fr_rf | refine fr_ums ?_ (by (try dsimp only [blk]); first | done | omega))), ?_, ?_, ?_, ?_, fun j hj => ⟨?_, ?_, ?_⟩⟩ <;> simp (disch := omega) only [um_eq, um_k, um_j]

set_option maxRecDepth 100000 in
set_option maxHeartbeats 4000000 in
theorem x_addPartner {X : scr} {M : mem} {t : Nat} {z : Int} (ht : ly_c t = 4) (hz : inR z) (hI : 0 ≤ z ∧ z < M 25 3 ∧ M 25 3 < 80) : At X 0 12 0 [vr 25, vr t, vi z] [] M (qV (fun M' => fr rq4 M M' ∧ M' 25 3 = M 25 3 + 1 ∧ M' 26 (M 25 3) = (t : Int) ∧ M' 27 (M 25 3) = 0 ∧ M' 28 (M 25 3) = -1 ∧ M' 28 z = M 25 3 ∧ ∀ j, j ≠ M 25 3 → M' 26 j = M 26 j ∧ M' 27 j = M 27 j ∧ (j ≠ z → M' 28 j = M 28 j))) := by
  refine at_iload dx_12_0 rfl ?_
  refine at_zltR dx_12_1 hz (fun c1 => ?_) (fun c1 => ?_)
  · exfalso; omega
  · skip
    refine at_iload dx_12_2 rfl ?_
    refine at_aload dx_12_3 rfl ?_
    refine at_getI 3 dx_12_4 lc_25 rfl rfl (fun r4 => ?_)
    refine at_cgeR dx_12_5 hz r4 (fun c5 => ?_) (fun c5 => ?_)
    · exfalso; omega
    · skip
      refine at_iload dx_12_6 rfl ?_
      refine at_const (x := 80) dx_12_7 rfl ?_
      refine at_cgeR dx_12_8 hz (by decide) (fun c8 => ?_) (fun c8 => ?_)
      · exfalso; omega
      · skip
        refine at_aload dx_12_9 rfl ?_
        refine at_getR dx_12_10 lc_25 rfl lt_25_2 ?_
        refine at_iload dx_12_11 rfl ?_
        refine at_aload dx_12_12 rfl ?_
        refine at_getI 3 dx_12_13 lc_25 rfl rfl (fun r13 => ?_)
        refine at_astI dx_12_14 lc_28 ln_28 (by first | omega | (simp (disch := omega) only [um_eq, um_k, um_j]; omega)) (by first | omega | (simp (disch := omega) only [um_eq, um_k, um_j]; omega)) r13 ?_
        refine at_aload dx_12_15 rfl ?_
        refine at_aload dx_12_16 rfl ?_
        refine at_const (x := 0) dx_12_17 rfl ?_
        refine at_callVV dx_12_18 rfl lc_25 rfl (x_addMap ht (Or.inl rfl) (by decide) (by simp (disch := omega) only [um_eq, um_k, um_j]; omega)) ?_
        have e3 : um M 28 z (M 25 3) 25 3 = M 25 3 := um_k (by decide)
        rintro M1 ⟨f1, w1, w2, w3, w4, w5⟩
        rw [e3] at w1 w2 w3 w4 w5
        refine at_vretV dx_12_19 ?_
        refine ⟨fr_tr (fr_um (by dsimp only [rq4]; omega)) f1, w1, w2, w3, w4, ?_, fun j hj => ?_⟩
        · rw [(w5 z (by omega)).2.2, um_eq]
        · obtain ⟨y1, y2, y3⟩ := w5 j hj
          rw [y1, y2]
          exact ⟨um_k (by decide), um_k (by decide), fun hz2 => by rw [y3, um_j hz2]⟩

set_option maxRecDepth 100000 in
set_option maxHeartbeats 4000000 in
theorem x_addConfirmedMaps0 {X : scr} {M : mem} {f t : Int} (hf : inR f) (ht : inR t) (h : t ≤ f) : At X 0 85 0 [vr 0, vi f, vi t] [] M (qV (fun M' => M' = M)) := by
  refine at_iload dx_85_0 rfl ?_
  refine at_istore dx_85_1 ?_
  refine at_iload dx_85_2 rfl ?_
  refine at_iload dx_85_3 rfl ?_
  refine at_cgeR dx_85_4 hf ht (fun c4 => ?_) (fun c4 => ?_)
  rotate_left
  · exfalso; omega
  · skip
    refine at_vretV dx_85_22 ?_
    exact rfl

