/-! ===== positions carried through the pending steps' inverses and back, exact ===== -/
abbrev pst (c : Nat) (j : Nat) : Nat := c + 8 + 8 * j
def Up (M : mem) (c i : Nat) (rt p0 : Int) : Nat → Int → Prop
  | 0, q => q = p0
  | m + 1, q => (-3000 ≤ q ∧ q ≤ 3000) ∧ ∀ q2 bt hd rg of : Int, CYf M (pst c (i - 1 - m)) rt q q2 bt hd rg of → bt = 0 ∧ Up M c i rt p0 m q2
def CPI (M : mem) (c n i : Nat) (rt p0 q kk : Int) : Prop := ∃ j : Nat, j ≤ i ∧ ((kk = (n : Int) - (j : Int) ∧ p0 - 120 * ((i : Int) - (j : Int)) ≤ q ∧ q ≤ p0 + 120 * ((i : Int) - (j : Int))) ∨ kk = (n : Int) + (j : Int)) ∧ Up M c i rt p0 (i - j) q
/-- the row of maps while the i-th pending step of n is mapped -/
def RWx (M : mem) (c n i : Nat) : Prop :=
  M 25 3 = (n : Int) + (i : Int) ∧ (∀ k : Int, 0 ≤ k → k < (n : Int) → M 26 k = ((pst c ((n : Int) - 1 - k).toNat : Nat) : Int) ∧ M 27 k = 1) ∧
  (∀ k : Int, (n : Int) - (i : Int) ≤ k → k < (n : Int) → M 28 k = (n : Int) + ((n : Int) - 1 - k)) ∧
  (∀ k : Nat, k < i → M 26 ((n : Int) + (k : Int)) = ((512 + 8 * k : Nat) : Int) ∧ M 27 ((n : Int) + (k : Int)) = 0 ∧ M 28 ((n : Int) + (k : Int)) = -1) ∧
  (∀ k : Nat, k < i → sv M (512 + 8 * k) = sv M (pst c k)) ∧ ∀ k : Nat, k < n → okS M (pst c k)
theorem cpi_start {M : mem} {c n i : Nat} {rt p0 : Int} : CPI M c n i rt p0 p0 ((n : Int) - (i : Int)) := ⟨i, Nat.le_refl i, Or.inl ⟨rfl, by omega, by omega⟩, by rw [Nat.sub_self]; rfl⟩
theorem cpi_end {M : mem} {c n i : Nat} {rt p0 q kk : Int} (h : CPI M c n i rt p0 q kk) (hk : (n : Int) + (i : Int) ≤ kk) : q = p0 := by
  obtain ⟨j, h1, h2, h3⟩ := h
  have e : i - j = 0 := by omega
  rw [e] at h3
  exact h3
theorem cpi_b {M : mem} {c n i : Nat} {rt p0 q kk : Int} (h : CPI M c n i rt p0 q kk) (hi : i ≤ n ∧ n ≤ 10) (hp : -200 ≤ p0 ∧ p0 ≤ 200) (hk : (n : Int) - (i : Int) ≤ kk ∧ kk < (n : Int) + (i : Int)) : -5000 ≤ q ∧ q ≤ 5000 := by
  obtain ⟨j, h1, h2, h3⟩ := h
  rcases h2 with ⟨h2, h4, h5⟩ | h2
  · omega
  · obtain ⟨m, hm⟩ : ∃ m, i - j = m + 1 := ⟨i - j - 1, by omega⟩
    rw [hm] at h3
    have := h3.1
    omega
theorem sv_u {M : mem} {s t : Nat} (h : sv M s = sv M t) : M s 5 = M t 5 ∧ M (s + 1) 0 = M (t + 1) 0 ∧ M (s + 2) 0 = M (t + 2) 0 ∧ M (s + 3) 0 = M (t + 3) 0 ∧ M (s + 1) 1 = M (t + 1) 1 ∧ M (s + 2) 1 = M (t + 2) 1 ∧ M (s + 3) 1 = M (t + 3) 1 := by
  unfold sv at h
  have h1 := congrArg Prod.fst h
  dsimp only at h1
  simp only [List.cons.injEq] at h1
  obtain ⟨-, -, -, -, -, h5, h6, h7, h8, h9, h10, h11, -⟩ := h1
  exact ⟨h5, h6, h8, h10, h7, h9, h11⟩
theorem okS_u {M : mem} {s t : Nat} (h : sv M s = sv M t) (ht : okS M t) : okS M s := by
  obtain ⟨e1, e2, e3, e4, e5, e6, e7⟩ := sv_u h
  unfold okS
  rw [e1, e2, e3, e4, e5, e6, e7]
  exact ht
theorem CYf_u {M : mem} {s t : Nat} (h : sv M s = sv M t) {rt p p' bt hd rg of : Int} (g : CYf M s rt p p' bt hd rg of) : CYf M t rt p p' bt hd rg of := by
  obtain ⟨e1, e2, e3, e4, e5, e6, e7⟩ := sv_u h
  unfold CYf at g ⊢
  rw [← e1, ← e2, ← e3, ← e4, ← e5, ← e6, ← e7]
  exact g
/-- which step lies at a place of the row -/
theorem rw_st {M : mem} {c n i : Nat} (hR : RWx M c n i) (hc : ly_c c = 0) (hi : i ≤ n ∧ n ≤ 10) {kk : Int} (h0 : 0 ≤ kk) (h1 : kk < (n : Int) + (i : Int)) : 0 ≤ M 26 kk ∧ okS M (M 26 kk).toNat ∧ ly_c (M 26 kk).toNat = 4 ∧ (M 27 kk = 0 ∨ M 27 kk = 1) := by
  obtain ⟨a1, a2, a3, a4, a5, a6⟩ := hR
  by_cases h : kk < (n : Int)
  · obtain ⟨b1, b2⟩ := a2 kk h0 h
    rw [b1, b2, Int.toNat_natCast]
    refine ⟨by omega, a6 _ (by omega), ?_, Or.inr rfl⟩
    have h9 := pd_c hc (x := ((n : Int) - 1 - kk)) (by omega) (by omega)
    exact h9
  · obtain ⟨k, hk⟩ : ∃ k : Nat, kk = (n : Int) + (k : Int) := ⟨(kk - n).toNat, by omega⟩
    subst hk
    obtain ⟨b1, b2, b3⟩ := a4 k (by omega)
    rw [b1, b2, Int.toNat_natCast]
    refine ⟨by omega, okS_u (a5 k (by omega)) (a6 k (by omega)), ?_, Or.inl rfl⟩
    have h9 := mp_c (x := (k : Int)) (by omega) (by omega)
    exact h9
/-- one map of the row -/
theorem cpi_step {M : mem} {c n i : Nat} {rt p0 q kk q2 bt hd rg of : Int} (h : CPI M c n i rt p0 q kk) (hR : RWx M c n i) (hi : i ≤ n ∧ n ≤ 10) (hp : -200 ≤ p0 ∧ p0 ≤ 200) (hrt : rt = 0 ∨ rt = 1) (hk : (n : Int) - (i : Int) ≤ kk ∧ kk < (n : Int) + (i : Int))
    (w0 : M 27 kk = 0 → CYf M (M 26 kk).toNat rt q q2 bt hd rg of) (w1 : M 27 kk = 1 → CYr M (M 26 kk).toNat rt q q2 bt hd rg of) :
    (M 28 kk = -1 ∧ bt = 0 ∧ CPI M c n i rt p0 q2 (kk + 1)) ∨
    ((0 ≤ M 28 kk ∧ M 28 kk < (n : Int) + (i : Int) ∧ (n : Int) ≤ M 28 kk ∧ kk < (n : Int)) ∧ ((hd = 0 ∧ bt = 0 ∧ CPI M c n i rt p0 q2 (kk + 1)) ∨ (hd = 1 ∧ (rg = 0 ∨ rg = 1) ∧ (0 ≤ of ∧ of ≤ 60) ∧ psM M (M 26 (M 28 kk)).toNat rg + of = q ∧ CPI M c n i rt p0 q (M 28 kk + 1)))) := by
  obtain ⟨a1, a2, a3, a4, a5, a6⟩ := hR
  obtain ⟨j, h1, h2, h3⟩ := h
  by_cases hkn : kk < (n : Int)
  · obtain ⟨b1, b2⟩ := a2 kk (by omega) hkn
    rcases h2 with ⟨h2, h4, h5⟩ | h2
    · obtain ⟨m, hm⟩ : ∃ m, j = m + 1 := ⟨j - 1, by omega⟩
      subst hm
      have em : ((n : Int) - 1 - kk).toNat = m := by omega
      rw [em] at b1
      have hN := a6 m (by omega)
      have w := w1 b2
      rw [b1, Int.toNat_natCast] at w
      have e3 := a3 kk (by omega) hkn
      have e3' : M 28 kk = (n : Int) + (m : Int) := by omega
      refine Or.inr ⟨by omega, ?_⟩
      rcases cy_back hN hrt w with ⟨d1, d2, d3, d4⟩ | ⟨d1, d2, d3, d4⟩
      · obtain ⟨f1, f2, f3⟩ := a4 m (by omega)
        obtain ⟨s1, s2, s3, s4, s5, s6, s7⟩ := sv_u (a5 m (by omega))
        obtain ⟨⟨v1, v2⟩, v3, v4⟩ := hN
        obtain ⟨⟨u1, u2⟩, ⟨u3, u4⟩, u5, u6⟩ := v3 d2
        refine Or.inr ⟨d1, by omega, d4, ?_, m + 1, h1, Or.inr (by omega), h3⟩
        rw [e3', f1, Int.toNat_natCast]
        rcases d3 with ⟨g1, g2⟩ | ⟨g1, g2, g3⟩
        · rw [g1, psM_0, s2]
          exact g2
        · obtain ⟨⟨y1, y2⟩, -⟩ := v4 g2
          rw [g1, psM_1 (by omega) (by omega) (by omega), s5, s4, s3]
          exact g3
      · refine Or.inl ⟨d1, d2, m, by omega, Or.inl ⟨by omega, by omega, by omega⟩, ?_⟩
        rw [show i - m = (i - (m + 1)) + 1 by omega]
        refine ⟨by omega, fun q3 bt3 hd3 rg3 of3 g => ?_⟩
        rw [show i - 1 - (i - (m + 1)) = m by omega] at g
        obtain ⟨k1, k2⟩ := d4 _ _ _ _ _ g
        rw [k2]
        exact ⟨k1, h3⟩
    · exfalso
      omega
  · have hj : kk = (n : Int) + (j : Int) := by
      rcases h2 with ⟨h2, -⟩ | h2
      · omega
      · exact h2
    subst hj
    obtain ⟨b1, b2, b3⟩ := a4 j (by omega)
    have w := w0 b2
    rw [b1, Int.toNat_natCast] at w
    have w' := CYf_u (a5 j (by omega)) w
    rw [show i - j = (i - (j + 1)) + 1 by omega] at h3
    obtain ⟨g1, g2⟩ := h3
    rw [show i - 1 - (i - (j + 1)) = j by omega] at g2
    obtain ⟨k1, k2⟩ := g2 _ _ _ _ _ w'
    exact Or.inl ⟨b3, k1, j + 1, by omega, Or.inr (by omega), k2⟩
theorem RWx_cg {P : Nat → Prop} {M M' : mem} {c n i : Nat} (hc : ly_c c = 0) (hi : i ≤ n ∧ n ≤ 10) (hf : fr P M M') (hP : ∀ q, P q → ¬ ((25 ≤ q ∧ q ≤ 28) ∨ (512 ≤ q ∧ q < 512 + 8 * i ∧ q % 8 ≠ 4 ∧ q % 8 ≠ 5) ∨ (c + 8 ≤ q ∧ q < c + 8 + 8 * n ∧ q % 8 ≠ 4 ∧ q % 8 ≠ 5))) (hR : RWx M c n i) : RWx M' c n i := by
  have h8 := cl_al hc
  obtain ⟨a1, a2, a3, a4, a5, a6⟩ := hR
  have g : ∀ q j, (25 ≤ q ∧ q ≤ 28) → M' q j = M q j := fun q j h => hf q j (fun e => hP q e (Or.inl h))
  have g2 : ∀ k : Nat, k < n → ∀ o : Nat, o ≤ 3 → ∀ j, M' (pst c k + o) j = M (pst c k + o) j := fun k hk o ho j => hf _ j (fun e => hP _ e (Or.inr (Or.inr (by unfold pst; omega))))
  refine ⟨by rw [g 25 _ (by omega)]; exact a1, fun k h0 h1 => ?_, fun k h0 h1 => ?_, fun k h0 => ?_, fun k h0 => ?_, fun k h0 => ?_⟩
  · rw [g 26 _ (by omega), g 27 _ (by omega)]; exact a2 k h0 h1
  · rw [g 28 _ (by omega)]; exact a3 k h0 h1
  · rw [g 26 _ (by omega), g 27 _ (by omega), g 28 _ (by omega)]; exact a4 k h0
  · have e1 : sv M' (512 + 8 * k) = sv M (512 + 8 * k) := sv_cg (fun q j h => hf q j (fun e => hP q e (Or.inr (Or.inl (by omega)))))
    have e2 : sv M' (pst c k) = sv M (pst c k) := sv_cg (fun q j h => hf q j (fun e => hP q e (Or.inr (Or.inr (by unfold pst at h; omega)))))
    rw [e1, e2]
    exact a5 k h0
  · have h9 := a6 k h0
    have y := g2 k h0
    unfold okS at h9 ⊢
    rw [show M' (pst c k) 5 = M (pst c k) 5 from y 0 (by omega) 5, y 1 (by omega), y 2 (by omega), y 3 (by omega), y 1 (by omega), y 2 (by omega), y 3 (by omega)]
    exact h9
theorem um_self (M : mem) (k : Nat) (j : Int) {v : Int} (h : v = M k j) : um M k j v = M := by
  subst h
  funext k' j'
  unfold um
  split
  · next e => rw [e.1, e.2]
  · rfl
theorem cpi_at {M : mem} {c n i : Nat} {rt p0 q kk q' kk' : Int} (h : CPI M c n i rt p0 q kk) (e1 : q' = q) (e2 : kk' = kk) : CPI M c n i rt p0 q' kk' := by
  subst e1 e2
  exact h
theorem st_29 {M M1 : mem} {s : Nat} (h : fr (fun q => q = 29) M M1) (hs : ly_c s = 4) : M1 s 5 = M s 5 ∧ M1 (s + 1) 0 = M (s + 1) 0 ∧ M1 (s + 2) 0 = M (s + 2) 0 ∧ M1 (s + 3) 0 = M (s + 3) 0 ∧ M1 (s + 1) 1 = M (s + 1) 1 ∧ M1 (s + 2) 1 = M (s + 2) 1 ∧ M1 (s + 3) 1 = M (s + 3) 1 := by
  have h8 := st_al hs
  exact ⟨h _ _ (by omega), h _ _ (by omega), h _ _ (by omega), h _ _ (by omega), h _ _ (by omega), h _ _ (by omega), h _ _ (by omega)⟩
theorem okS_29 {M M1 : mem} {s : Nat} (h : fr (fun q => q = 29) M M1) (hs : ly_c s = 4) (g : okS M s) : okS M1 s := by
  obtain ⟨e1, e2, e3, e4, e5, e6, e7⟩ := st_29 h hs
  unfold okS
  rw [e1, e2, e3, e4, e5, e6, e7]
  exact g
theorem CYf_29 {M M1 : mem} {s : Nat} (h : fr (fun q => q = 29) M M1) (hs : ly_c s = 4) {rt p p' bt hd rg of : Int} (g : CYf M1 s rt p p' bt hd rg of) : CYf M s rt p p' bt hd rg of := by
  obtain ⟨e1, e2, e3, e4, e5, e6, e7⟩ := st_29 h hs
  unfold CYf at g ⊢
  rw [← e1, ← e2, ← e3, ← e4, ← e5, ← e6, ← e7]
  exact g
theorem CYr_29 {M M1 : mem} {s : Nat} (h : fr (fun q => q = 29) M M1) (hs : ly_c s = 4) {rt p p' bt hd rg of : Int} (g : CYr M1 s rt p p' bt hd rg of) : CYr M s rt p p' bt hd rg of := by
  obtain ⟨e1, e2, e3, e4, e5, e6, e7⟩ := st_29 h hs
  unfold CYr at g ⊢
  rw [← e1, ← e2, ← e3, ← e4, ← e5, ← e6, ← e7]
  exact g
theorem psM_29 {M M1 : mem} {s : Nat} {r : Int} (h : fr (fun q => q = 29) M M1) (hs : ly_c s = 4) : psM M1 s r = psM M s r := by
  obtain ⟨e1, e2, e3, e4, e5, e6, e7⟩ := st_29 h hs
  unfold psM
  rw [e2, e3, e4, e5]
theorem RWx_29 {M M1 : mem} {c n i : Nat} (hc : ly_c c = 0) (hi : i ≤ n ∧ n ≤ 10) (h : fr (fun q => q = 29) M M1) (hR : RWx M c n i) : RWx M1 c n i := by
  have h8 := cl_al hc
  exact RWx_cg hc hi h (fun q e => by (try dsimp only at e); omega) hR
theorem um2_self {M : mem} {a b : Nat} {j k v w : Int} (h1 : v = M a j) (h2 : w = M b k) : um (um M a j v) b k w = M := by
  rw [um_self M a j h1, um_self M b k h2]

set_option maxRecDepth 100000 in
set_option maxHeartbeats 4000000 in
theorem x_carryPosition {X : scr} {M : mem} {p z f : Int} {c n i : Nat} (hp : inR p) (hz : z = 0 ∨ z = 1) (rz : inR z) (hf : inR f) (ef : f = (n : Int) - (i : Int)) (hc : ly_c c = 0) (hi : i ≤ n ∧ n ≤ 10) (hb : -200 ≤ p ∧ p ≤ 200) (hR : RWx M c n i) : At X 0 16 0 [vr 25, vi p, vi z, vi f] [] M (qI (fun x M' => fr (fun q => q = 29) M M' ∧ x = p ∧ M' 29 2 = 0)) := by
  have lp : ∀ (m : Nat) (kk mp : Int) (M1 : mem) (rk : inR kk) (rm : inR mp) (h0 : 0 ≤ mp ∧ mp ≤ kk - f ∧ f ≤ kk ∧ kk ≤ (n : Int) + (i : Int)) (hn : ((n : Int) + (i : Int) - kk).toNat = m) (h1 : fr (fun q => q = 29) M M1) (h2 : M1 29 1 = z) (h3 : M1 29 2 = 0) (h4 : CPI M c n i z p (M1 29 0) kk), At X 0 16 11 [vr 25, vi p, vi z, vi f, vi kk, vi mp] [] M1 (qI (fun x M' => fr (fun q => q = 29) M M' ∧ x = p ∧ M' 29 2 = 0)) := by
    intro m
    induction m using Nat.strongRecOn with
    | ind m ih =>
    intro kk mp M1 rk rm h0 hn h1 h2 h3 h4
    have g25 : M1 25 3 = (n : Int) + (i : Int) := (h1 25 3 (by decide)).trans hR.1
    refine at_iload dx_16_11 rfl ?_
    refine at_const (x := 80) dx_16_12 rfl ?_
    refine at_cgeR dx_16_13 rm (by decide) (fun c13 => ?_) (fun c13 => ?_)
    · exfalso; omega
    · skip
      refine at_iload dx_16_14 rfl ?_
      refine at_aload dx_16_15 rfl ?_
      refine at_getI 3 dx_16_16 lc_25 rfl rfl (fun r16 => ?_)
      refine at_cgeR dx_16_17 rk r16 (fun c17 => ?_) (fun c17 => ?_)
      · skip
        refine at_aload dx_16_92 rfl ?_
        refine at_getR dx_16_93 lc_25 rfl lt_25_4 ?_
        refine at_getI 0 dx_16_94 lc_29 rfl rfl (fun r94 => ?_)
        refine at_iretI dx_16_95 r94 ?_
        exact ⟨h1, cpi_end h4 (by omega), h3⟩
      · skip
        refine at_iload dx_16_18 rfl ?_
        refine at_const (x := 80) dx_16_19 rfl ?_
        refine at_cgeR dx_16_20 rk (by decide) (fun c20 => ?_) (fun c20 => ?_)
        · exfalso; omega
        · skip
          obtain ⟨q1, q2, q3, q4⟩ := rw_st hR hc hi (kk := kk) (by omega) (by omega)
          have g26 : M1 26 kk = M 26 kk := h1 26 kk (by decide)
          have g27 : M1 27 kk = M 27 kk := h1 27 kk (by decide)
          have hq5 := cpi_b h4 hi hb ⟨by omega, by omega⟩
          refine at_iload dx_16_21 rfl ?_
          refine at_const (x := 1) dx_16_22 rfl ?_
          refine at_addR dx_16_23 (by constructor <;> omega) (fun r23 => ?_)
          refine at_istore dx_16_24 ?_
          refine at_aload dx_16_25 rfl ?_
          refine at_getR dx_16_26 lc_25 rfl lt_25_0 ?_
          refine at_iload dx_16_27 rfl ?_
          refine at_aldD dx_16_28 lc_26 ln_26 (by first | omega | (simp (disch := omega) only [um_eq, um_k, um_j]; omega)) (by first | omega | (simp (disch := omega) only [um_eq, um_k, um_j]; omega)) (fun c28 => ?_) (fun c28 e28 => ?_)
          · skip
            refine at_astore0 dx_16_29 ?_
            refine at_aload0 dx_16_30 rfl ?_
            refine at_nullY dx_16_31 ?_
            refine at_iload dx_16_88 rfl ?_
            refine at_istore dx_16_89 ?_
            refine at_iincR (y := 1) dx_16_90 rfl rfl (by constructor <;> omega) (fun r90 => ?_)
            refine at_goto dx_16_91 ?_
            refine at_wk (ls := [vr 25, vi _, vi _, vi _, vi _, vi _]) ⟨Or.inl rfl, Or.inl rfl, Or.inl rfl, Or.inl rfl, Or.inl rfl, Or.inl rfl, trivial⟩ ?_
            first
            | (exfalso; omega)
            | (rcases hS with ⟨t1, t2, t3⟩ | ⟨t1, ⟨t2, t3, t4⟩ | ⟨t2, t3⟩⟩
               · exact ih _ (by omega) _ _ _ r23 r90 (by omega) rfl F2 (l1.trans h2) (l2.trans h3) t3
               · exact ih _ (by omega) _ _ _ r23 r90 (by omega) rfl F2 (l1.trans h2) (l2.trans h3) t4
               · exfalso; omega)
            | (rcases hS with ⟨t1, t2, t3⟩ | ⟨t1, ⟨t2, t3, t4⟩ | ⟨t2, t3⟩⟩ <;> (exfalso; omega))
            | exact ih _ (by omega) _ _ _ r77 r90 (by omega) rfl (fr_ums F2 rfl) (by rw [um_j (by decide)]; exact l1.trans h2) (by rw [um_j (by decide)]; exact l2.trans h3) (cpi_at hJ.2.1 (by rw [um_eq]; exact e73) (by omega))
          · skip
            refine at_astore dx_16_29 ?_
            refine at_aload dx_16_30 rfl ?_
            refine at_nullN dx_16_31 ?_
            refine at_aload dx_16_32 rfl ?_
            refine at_aload dx_16_33 rfl ?_
            refine at_getR dx_16_34 lc_25 rfl lt_25_4 ?_
            refine at_aload dx_16_35 rfl ?_
            refine at_getR dx_16_36 lc_25 rfl lt_25_1 ?_
            refine at_iload dx_16_37 rfl ?_
            refine at_aldZ dx_16_38 lc_27 ln_27 (by first | omega | (simp (disch := omega) only [um_eq, um_k, um_j]; omega)) (by first | omega | (simp (disch := omega) only [um_eq, um_k, um_j]; omega)) (fun r38 => ?_)
            refine at_callVV dx_16_39 rfl e28 rfl (x_carry e28 (okS_29 h1 e28 (by rw [g26]; exact q2)) hq5 (by rw [h2]; exact hz) (by rw [g27]; exact q4)) ?_
            rintro M2 ⟨f2, l1, l2, y0, y1⟩
            have F2 := fr_tr h1 f2
            have m28 : M2 28 kk = M 28 kk := F2 28 kk (by decide)
            have hS := cpi_step (q2 := M2 29 0) (bt := M2 29 5) (hd := M2 29 6) (rg := M2 29 3) (of := M2 29 4) h4 hR hi hb hz ⟨by omega, by omega⟩ (fun e => by have y := y0 (g27.trans e); rw [g26, h2] at y; exact CYf_29 h1 q3 y) (fun e => by have y := y1 (g27.trans e); rw [g26, h2] at y; exact CYr_29 h1 q3 y)
            refine at_aload dx_16_40 rfl ?_
            refine at_getR dx_16_41 lc_25 rfl lt_25_2 ?_
            refine at_iload dx_16_42 rfl ?_
            refine at_aldI dx_16_43 lc_28 ln_28 (by first | omega | (simp (disch := omega) only [um_eq, um_k, um_j]; omega)) (by first | omega | (simp (disch := omega) only [um_eq, um_k, um_j]; omega)) (fun r43 => ?_)
            refine at_istore dx_16_44 ?_
            refine at_iload dx_16_45 rfl ?_
            refine at_zltR dx_16_46 r43 (fun c46 => ?_) (fun c46 => ?_)
            · skip
              refine at_null dx_16_55 ?_
              refine at_astore0 dx_16_56 ?_
              refine at_aload dx_16_57 rfl ?_
              refine at_getR dx_16_58 lc_25 rfl lt_25_4 ?_
              refine at_getI 6 dx_16_59 lc_29 rfl rfl (fun r59 => ?_)
              refine at_zeqR dx_16_60 r59 (fun c60 => ?_) (fun c60 => ?_)
              · skip
                refine at_aload dx_16_80 rfl ?_
                refine at_getR dx_16_81 lc_25 rfl lt_25_4 ?_
                refine at_getI 5 dx_16_82 lc_29 rfl rfl (fun r82 => ?_)
                refine at_zeqR dx_16_83 r82 (fun c83 => ?_) (fun c83 => ?_)
                · skip
                  refine at_iload dx_16_88 rfl ?_
                  refine at_istore dx_16_89 ?_
                  refine at_iincR (y := 1) dx_16_90 rfl rfl (by constructor <;> omega) (fun r90 => ?_)
                  refine at_goto dx_16_91 ?_
                  refine at_wk (ls := [vr 25, vi _, vi _, vi _, vi _, vi _]) ⟨Or.inl rfl, Or.inl rfl, Or.inl rfl, Or.inl rfl, Or.inl rfl, Or.inl rfl, trivial⟩ ?_
                  first
                  | (exfalso; omega)
                  | (rcases hS with ⟨t1, t2, t3⟩ | ⟨t1, ⟨t2, t3, t4⟩ | ⟨t2, t3⟩⟩
                     · exact ih _ (by omega) _ _ _ r23 r90 (by omega) rfl F2 (l1.trans h2) (l2.trans h3) t3
                     · exact ih _ (by omega) _ _ _ r23 r90 (by omega) rfl F2 (l1.trans h2) (l2.trans h3) t4
                     · exfalso; omega)
                  | (rcases hS with ⟨t1, t2, t3⟩ | ⟨t1, ⟨t2, t3, t4⟩ | ⟨t2, t3⟩⟩ <;> (exfalso; omega))
                  | exact ih _ (by omega) _ _ _ r77 r90 (by omega) rfl (fr_ums F2 rfl) (by rw [um_j (by decide)]; exact l1.trans h2) (by rw [um_j (by decide)]; exact l2.trans h3) (cpi_at hJ.2.1 (by rw [um_eq]; exact e73) (by omega))
                · skip
                  refine at_aload dx_16_84 rfl ?_
                  refine at_getR dx_16_85 lc_25 rfl lt_25_4 ?_
                  refine at_const (x := 1) dx_16_86 rfl ?_
                  refine at_putZ 2 dx_16_87 lc_29 rfl rfl (Or.inr rfl) ?_
                  refine at_iload dx_16_88 rfl ?_
                  refine at_istore dx_16_89 ?_
                  refine at_iincR (y := 1) dx_16_90 rfl rfl (by constructor <;> omega) (fun r90 => ?_)
                  refine at_goto dx_16_91 ?_
                  refine at_wk (ls := [vr 25, vi _, vi _, vi _, vi _, vi _]) ⟨Or.inl rfl, Or.inl rfl, Or.inl rfl, Or.inl rfl, Or.inl rfl, Or.inl rfl, trivial⟩ ?_
                  first
                  | (exfalso; omega)
                  | (rcases hS with ⟨t1, t2, t3⟩ | ⟨t1, ⟨t2, t3, t4⟩ | ⟨t2, t3⟩⟩
                     · exact ih _ (by omega) _ _ _ r23 r90 (by omega) rfl F2 (l1.trans h2) (l2.trans h3) t3
                     · exact ih _ (by omega) _ _ _ r23 r90 (by omega) rfl F2 (l1.trans h2) (l2.trans h3) t4
                     · exfalso; omega)
                  | (rcases hS with ⟨t1, t2, t3⟩ | ⟨t1, ⟨t2, t3, t4⟩ | ⟨t2, t3⟩⟩ <;> (exfalso; omega))
                  | exact ih _ (by omega) _ _ _ r77 r90 (by omega) rfl (fr_ums F2 rfl) (by rw [um_j (by decide)]; exact l1.trans h2) (by rw [um_j (by decide)]; exact l2.trans h3) (cpi_at hJ.2.1 (by rw [um_eq]; exact e73) (by omega))
              · skip
                refine at_aload0 dx_16_61 rfl ?_
                refine at_nullY dx_16_62 ?_
                refine at_aload dx_16_80 rfl ?_
                refine at_getR dx_16_81 lc_25 rfl lt_25_4 ?_
                refine at_getI 5 dx_16_82 lc_29 rfl rfl (fun r82 => ?_)
                refine at_zeqR dx_16_83 r82 (fun c83 => ?_) (fun c83 => ?_)
                · skip
                  refine at_iload dx_16_88 rfl ?_
                  refine at_istore dx_16_89 ?_
                  refine at_iincR (y := 1) dx_16_90 rfl rfl (by constructor <;> omega) (fun r90 => ?_)
                  refine at_goto dx_16_91 ?_
                  refine at_wk (ls := [vr 25, vi _, vi _, vi _, vi _, vi _]) ⟨Or.inl rfl, Or.inl rfl, Or.inl rfl, Or.inl rfl, Or.inl rfl, Or.inl rfl, trivial⟩ ?_
                  first
                  | (exfalso; omega)
                  | (rcases hS with ⟨t1, t2, t3⟩ | ⟨t1, ⟨t2, t3, t4⟩ | ⟨t2, t3⟩⟩
                     · exact ih _ (by omega) _ _ _ r23 r90 (by omega) rfl F2 (l1.trans h2) (l2.trans h3) t3
                     · exact ih _ (by omega) _ _ _ r23 r90 (by omega) rfl F2 (l1.trans h2) (l2.trans h3) t4
                     · exfalso; omega)
                  | (rcases hS with ⟨t1, t2, t3⟩ | ⟨t1, ⟨t2, t3, t4⟩ | ⟨t2, t3⟩⟩ <;> (exfalso; omega))
                  | exact ih _ (by omega) _ _ _ r77 r90 (by omega) rfl (fr_ums F2 rfl) (by rw [um_j (by decide)]; exact l1.trans h2) (by rw [um_j (by decide)]; exact l2.trans h3) (cpi_at hJ.2.1 (by rw [um_eq]; exact e73) (by omega))
                · skip
                  refine at_aload dx_16_84 rfl ?_
                  refine at_getR dx_16_85 lc_25 rfl lt_25_4 ?_
                  refine at_const (x := 1) dx_16_86 rfl ?_
                  refine at_putZ 2 dx_16_87 lc_29 rfl rfl (Or.inr rfl) ?_
                  refine at_iload dx_16_88 rfl ?_
                  refine at_istore dx_16_89 ?_
                  refine at_iincR (y := 1) dx_16_90 rfl rfl (by constructor <;> omega) (fun r90 => ?_)
                  refine at_goto dx_16_91 ?_
                  refine at_wk (ls := [vr 25, vi _, vi _, vi _, vi _, vi _]) ⟨Or.inl rfl, Or.inl rfl, Or.inl rfl, Or.inl rfl, Or.inl rfl, Or.inl rfl, trivial⟩ ?_
                  first
                  | (exfalso; omega)
                  | (rcases hS with ⟨t1, t2, t3⟩ | ⟨t1, ⟨t2, t3, t4⟩ | ⟨t2, t3⟩⟩
                     · exact ih _ (by omega) _ _ _ r23 r90 (by omega) rfl F2 (l1.trans h2) (l2.trans h3) t3
                     · exact ih _ (by omega) _ _ _ r23 r90 (by omega) rfl F2 (l1.trans h2) (l2.trans h3) t4
                     · exfalso; omega)
                  | (rcases hS with ⟨t1, t2, t3⟩ | ⟨t1, ⟨t2, t3, t4⟩ | ⟨t2, t3⟩⟩ <;> (exfalso; omega))
                  | exact ih _ (by omega) _ _ _ r77 r90 (by omega) rfl (fr_ums F2 rfl) (by rw [um_j (by decide)]; exact l1.trans h2) (by rw [um_j (by decide)]; exact l2.trans h3) (cpi_at hJ.2.1 (by rw [um_eq]; exact e73) (by omega))
            · skip
              refine at_iload dx_16_47 rfl ?_
              refine at_const (x := 80) dx_16_48 rfl ?_
              refine at_cgeR dx_16_49 r43 (by decide) (fun c49 => ?_) (fun c49 => ?_)
              · skip
                refine at_null dx_16_55 ?_
                refine at_astore0 dx_16_56 ?_
                refine at_aload dx_16_57 rfl ?_
                refine at_getR dx_16_58 lc_25 rfl lt_25_4 ?_
                refine at_getI 6 dx_16_59 lc_29 rfl rfl (fun r59 => ?_)
                refine at_zeqR dx_16_60 r59 (fun c60 => ?_) (fun c60 => ?_)
                · skip
                  refine at_aload dx_16_80 rfl ?_
                  refine at_getR dx_16_81 lc_25 rfl lt_25_4 ?_
                  refine at_getI 5 dx_16_82 lc_29 rfl rfl (fun r82 => ?_)
                  refine at_zeqR dx_16_83 r82 (fun c83 => ?_) (fun c83 => ?_)
                  · skip
                    refine at_iload dx_16_88 rfl ?_
                    refine at_istore dx_16_89 ?_
                    refine at_iincR (y := 1) dx_16_90 rfl rfl (by constructor <;> omega) (fun r90 => ?_)
                    refine at_goto dx_16_91 ?_
                    refine at_wk (ls := [vr 25, vi _, vi _, vi _, vi _, vi _]) ⟨Or.inl rfl, Or.inl rfl, Or.inl rfl, Or.inl rfl, Or.inl rfl, Or.inl rfl, trivial⟩ ?_
                    first
                    | (exfalso; omega)
                    | (rcases hS with ⟨t1, t2, t3⟩ | ⟨t1, ⟨t2, t3, t4⟩ | ⟨t2, t3⟩⟩
                       · exact ih _ (by omega) _ _ _ r23 r90 (by omega) rfl F2 (l1.trans h2) (l2.trans h3) t3
                       · exact ih _ (by omega) _ _ _ r23 r90 (by omega) rfl F2 (l1.trans h2) (l2.trans h3) t4
                       · exfalso; omega)
                    | (rcases hS with ⟨t1, t2, t3⟩ | ⟨t1, ⟨t2, t3, t4⟩ | ⟨t2, t3⟩⟩ <;> (exfalso; omega))
                    | exact ih _ (by omega) _ _ _ r77 r90 (by omega) rfl (fr_ums F2 rfl) (by rw [um_j (by decide)]; exact l1.trans h2) (by rw [um_j (by decide)]; exact l2.trans h3) (cpi_at hJ.2.1 (by rw [um_eq]; exact e73) (by omega))
                  · skip
                    refine at_aload dx_16_84 rfl ?_
                    refine at_getR dx_16_85 lc_25 rfl lt_25_4 ?_
                    refine at_const (x := 1) dx_16_86 rfl ?_
                    refine at_putZ 2 dx_16_87 lc_29 rfl rfl (Or.inr rfl) ?_
                    refine at_iload dx_16_88 rfl ?_
                    refine at_istore dx_16_89 ?_
                    refine at_iincR (y := 1) dx_16_90 rfl rfl (by constructor <;> omega) (fun r90 => ?_)
                    refine at_goto dx_16_91 ?_
                    refine at_wk (ls := [vr 25, vi _, vi _, vi _, vi _, vi _]) ⟨Or.inl rfl, Or.inl rfl, Or.inl rfl, Or.inl rfl, Or.inl rfl, Or.inl rfl, trivial⟩ ?_
                    first
                    | (exfalso; omega)
                    | (rcases hS with ⟨t1, t2, t3⟩ | ⟨t1, ⟨t2, t3, t4⟩ | ⟨t2, t3⟩⟩
                       · exact ih _ (by omega) _ _ _ r23 r90 (by omega) rfl F2 (l1.trans h2) (l2.trans h3) t3
                       · exact ih _ (by omega) _ _ _ r23 r90 (by omega) rfl F2 (l1.trans h2) (l2.trans h3) t4
                       · exfalso; omega)
                    | (rcases hS with ⟨t1, t2, t3⟩ | ⟨t1, ⟨t2, t3, t4⟩ | ⟨t2, t3⟩⟩ <;> (exfalso; omega))
                    | exact ih _ (by omega) _ _ _ r77 r90 (by omega) rfl (fr_ums F2 rfl) (by rw [um_j (by decide)]; exact l1.trans h2) (by rw [um_j (by decide)]; exact l2.trans h3) (cpi_at hJ.2.1 (by rw [um_eq]; exact e73) (by omega))
                · skip
                  refine at_aload0 dx_16_61 rfl ?_
                  refine at_nullY dx_16_62 ?_
                  refine at_aload dx_16_80 rfl ?_
                  refine at_getR dx_16_81 lc_25 rfl lt_25_4 ?_
                  refine at_getI 5 dx_16_82 lc_29 rfl rfl (fun r82 => ?_)
                  refine at_zeqR dx_16_83 r82 (fun c83 => ?_) (fun c83 => ?_)
                  · skip
                    refine at_iload dx_16_88 rfl ?_
                    refine at_istore dx_16_89 ?_
                    refine at_iincR (y := 1) dx_16_90 rfl rfl (by constructor <;> omega) (fun r90 => ?_)
                    refine at_goto dx_16_91 ?_
                    refine at_wk (ls := [vr 25, vi _, vi _, vi _, vi _, vi _]) ⟨Or.inl rfl, Or.inl rfl, Or.inl rfl, Or.inl rfl, Or.inl rfl, Or.inl rfl, trivial⟩ ?_
                    first
                    | (exfalso; omega)
                    | (rcases hS with ⟨t1, t2, t3⟩ | ⟨t1, ⟨t2, t3, t4⟩ | ⟨t2, t3⟩⟩
                       · exact ih _ (by omega) _ _ _ r23 r90 (by omega) rfl F2 (l1.trans h2) (l2.trans h3) t3
                       · exact ih _ (by omega) _ _ _ r23 r90 (by omega) rfl F2 (l1.trans h2) (l2.trans h3) t4
                       · exfalso; omega)
                    | (rcases hS with ⟨t1, t2, t3⟩ | ⟨t1, ⟨t2, t3, t4⟩ | ⟨t2, t3⟩⟩ <;> (exfalso; omega))
                    | exact ih _ (by omega) _ _ _ r77 r90 (by omega) rfl (fr_ums F2 rfl) (by rw [um_j (by decide)]; exact l1.trans h2) (by rw [um_j (by decide)]; exact l2.trans h3) (cpi_at hJ.2.1 (by rw [um_eq]; exact e73) (by omega))
                  · skip
                    refine at_aload dx_16_84 rfl ?_
                    refine at_getR dx_16_85 lc_25 rfl lt_25_4 ?_
                    refine at_const (x := 1) dx_16_86 rfl ?_
                    refine at_putZ 2 dx_16_87 lc_29 rfl rfl (Or.inr rfl) ?_
                    refine at_iload dx_16_88 rfl ?_
                    refine at_istore dx_16_89 ?_
                    refine at_iincR (y := 1) dx_16_90 rfl rfl (by constructor <;> omega) (fun r90 => ?_)
                    refine at_goto dx_16_91 ?_
                    refine at_wk (ls := [vr 25, vi _, vi _, vi _, vi _, vi _]) ⟨Or.inl rfl, Or.inl rfl, Or.inl rfl, Or.inl rfl, Or.inl rfl, Or.inl rfl, trivial⟩ ?_
                    first
                    | (exfalso; omega)
                    | (rcases hS with ⟨t1, t2, t3⟩ | ⟨t1, ⟨t2, t3, t4⟩ | ⟨t2, t3⟩⟩
                       · exact ih _ (by omega) _ _ _ r23 r90 (by omega) rfl F2 (l1.trans h2) (l2.trans h3) t3
                       · exact ih _ (by omega) _ _ _ r23 r90 (by omega) rfl F2 (l1.trans h2) (l2.trans h3) t4
                       · exfalso; omega)
                    | (rcases hS with ⟨t1, t2, t3⟩ | ⟨t1, ⟨t2, t3, t4⟩ | ⟨t2, t3⟩⟩ <;> (exfalso; omega))
                    | exact ih _ (by omega) _ _ _ r77 r90 (by omega) rfl (fr_ums F2 rfl) (by rw [um_j (by decide)]; exact l1.trans h2) (by rw [um_j (by decide)]; exact l2.trans h3) (cpi_at hJ.2.1 (by rw [um_eq]; exact e73) (by omega))
              · skip
                have z53 : 0 ≤ M2 26 (M2 28 kk) := by
                  rcases hS with ⟨t1, -, -⟩ | ⟨t1, -⟩
                  · exfalso; omega
                  · have t9 := (rw_st hR hc hi (kk := M 28 kk) (by omega) (by omega)).1
                    rw [m28, F2 26 (M 28 kk) (by decide)]
                    exact t9
                refine at_aload dx_16_50 rfl ?_
                refine at_getR dx_16_51 lc_25 rfl lt_25_0 ?_
                refine at_iload dx_16_52 rfl ?_
                refine at_aldD dx_16_53 lc_26 ln_26 (by first | omega | (simp (disch := omega) only [um_eq, um_k, um_j]; omega)) (by first | omega | (simp (disch := omega) only [um_eq, um_k, um_j]; omega)) (fun c53 => ?_) (fun c53 e53 => ?_)
                · skip
                  refine at_goto dx_16_54 ?_
                  refine at_astore0 dx_16_56 ?_
                  refine at_aload dx_16_57 rfl ?_
                  refine at_getR dx_16_58 lc_25 rfl lt_25_4 ?_
                  refine at_getI 6 dx_16_59 lc_29 rfl rfl (fun r59 => ?_)
                  refine at_zeqR dx_16_60 r59 (fun c60 => ?_) (fun c60 => ?_)
                  · skip
                    refine at_aload dx_16_80 rfl ?_
                    refine at_getR dx_16_81 lc_25 rfl lt_25_4 ?_
                    refine at_getI 5 dx_16_82 lc_29 rfl rfl (fun r82 => ?_)
                    refine at_zeqR dx_16_83 r82 (fun c83 => ?_) (fun c83 => ?_)
                    · skip
                      refine at_iload dx_16_88 rfl ?_
                      refine at_istore dx_16_89 ?_
                      refine at_iincR (y := 1) dx_16_90 rfl rfl (by constructor <;> omega) (fun r90 => ?_)
                      refine at_goto dx_16_91 ?_
                      refine at_wk (ls := [vr 25, vi _, vi _, vi _, vi _, vi _]) ⟨Or.inl rfl, Or.inl rfl, Or.inl rfl, Or.inl rfl, Or.inl rfl, Or.inl rfl, trivial⟩ ?_
                      first
                      | (exfalso; omega)
                      | (rcases hS with ⟨t1, t2, t3⟩ | ⟨t1, ⟨t2, t3, t4⟩ | ⟨t2, t3⟩⟩
                         · exact ih _ (by omega) _ _ _ r23 r90 (by omega) rfl F2 (l1.trans h2) (l2.trans h3) t3
                         · exact ih _ (by omega) _ _ _ r23 r90 (by omega) rfl F2 (l1.trans h2) (l2.trans h3) t4
                         · exfalso; omega)
                      | (rcases hS with ⟨t1, t2, t3⟩ | ⟨t1, ⟨t2, t3, t4⟩ | ⟨t2, t3⟩⟩ <;> (exfalso; omega))
                      | exact ih _ (by omega) _ _ _ r77 r90 (by omega) rfl (fr_ums F2 rfl) (by rw [um_j (by decide)]; exact l1.trans h2) (by rw [um_j (by decide)]; exact l2.trans h3) (cpi_at hJ.2.1 (by rw [um_eq]; exact e73) (by omega))
                    · skip
                      refine at_aload dx_16_84 rfl ?_
                      refine at_getR dx_16_85 lc_25 rfl lt_25_4 ?_
                      refine at_const (x := 1) dx_16_86 rfl ?_
                      refine at_putZ 2 dx_16_87 lc_29 rfl rfl (Or.inr rfl) ?_
                      refine at_iload dx_16_88 rfl ?_
                      refine at_istore dx_16_89 ?_
                      refine at_iincR (y := 1) dx_16_90 rfl rfl (by constructor <;> omega) (fun r90 => ?_)
                      refine at_goto dx_16_91 ?_
                      refine at_wk (ls := [vr 25, vi _, vi _, vi _, vi _, vi _]) ⟨Or.inl rfl, Or.inl rfl, Or.inl rfl, Or.inl rfl, Or.inl rfl, Or.inl rfl, trivial⟩ ?_
                      first
                      | (exfalso; omega)
                      | (rcases hS with ⟨t1, t2, t3⟩ | ⟨t1, ⟨t2, t3, t4⟩ | ⟨t2, t3⟩⟩
                         · exact ih _ (by omega) _ _ _ r23 r90 (by omega) rfl F2 (l1.trans h2) (l2.trans h3) t3
                         · exact ih _ (by omega) _ _ _ r23 r90 (by omega) rfl F2 (l1.trans h2) (l2.trans h3) t4
                         · exfalso; omega)
                      | (rcases hS with ⟨t1, t2, t3⟩ | ⟨t1, ⟨t2, t3, t4⟩ | ⟨t2, t3⟩⟩ <;> (exfalso; omega))
                      | exact ih _ (by omega) _ _ _ r77 r90 (by omega) rfl (fr_ums F2 rfl) (by rw [um_j (by decide)]; exact l1.trans h2) (by rw [um_j (by decide)]; exact l2.trans h3) (cpi_at hJ.2.1 (by rw [um_eq]; exact e73) (by omega))
                  · skip
                    refine at_aload0 dx_16_61 rfl ?_
                    refine at_nullY dx_16_62 ?_
                    refine at_aload dx_16_80 rfl ?_
                    refine at_getR dx_16_81 lc_25 rfl lt_25_4 ?_
                    refine at_getI 5 dx_16_82 lc_29 rfl rfl (fun r82 => ?_)
                    refine at_zeqR dx_16_83 r82 (fun c83 => ?_) (fun c83 => ?_)
                    · skip
                      refine at_iload dx_16_88 rfl ?_
                      refine at_istore dx_16_89 ?_
                      refine at_iincR (y := 1) dx_16_90 rfl rfl (by constructor <;> omega) (fun r90 => ?_)
                      refine at_goto dx_16_91 ?_
                      refine at_wk (ls := [vr 25, vi _, vi _, vi _, vi _, vi _]) ⟨Or.inl rfl, Or.inl rfl, Or.inl rfl, Or.inl rfl, Or.inl rfl, Or.inl rfl, trivial⟩ ?_
                      first
                      | (exfalso; omega)
                      | (rcases hS with ⟨t1, t2, t3⟩ | ⟨t1, ⟨t2, t3, t4⟩ | ⟨t2, t3⟩⟩
                         · exact ih _ (by omega) _ _ _ r23 r90 (by omega) rfl F2 (l1.trans h2) (l2.trans h3) t3
                         · exact ih _ (by omega) _ _ _ r23 r90 (by omega) rfl F2 (l1.trans h2) (l2.trans h3) t4
                         · exfalso; omega)
                      | (rcases hS with ⟨t1, t2, t3⟩ | ⟨t1, ⟨t2, t3, t4⟩ | ⟨t2, t3⟩⟩ <;> (exfalso; omega))
                      | exact ih _ (by omega) _ _ _ r77 r90 (by omega) rfl (fr_ums F2 rfl) (by rw [um_j (by decide)]; exact l1.trans h2) (by rw [um_j (by decide)]; exact l2.trans h3) (cpi_at hJ.2.1 (by rw [um_eq]; exact e73) (by omega))
                    · skip
                      refine at_aload dx_16_84 rfl ?_
                      refine at_getR dx_16_85 lc_25 rfl lt_25_4 ?_
                      refine at_const (x := 1) dx_16_86 rfl ?_
                      refine at_putZ 2 dx_16_87 lc_29 rfl rfl (Or.inr rfl) ?_
                      refine at_iload dx_16_88 rfl ?_
                      refine at_istore dx_16_89 ?_
                      refine at_iincR (y := 1) dx_16_90 rfl rfl (by constructor <;> omega) (fun r90 => ?_)
                      refine at_goto dx_16_91 ?_
                      refine at_wk (ls := [vr 25, vi _, vi _, vi _, vi _, vi _]) ⟨Or.inl rfl, Or.inl rfl, Or.inl rfl, Or.inl rfl, Or.inl rfl, Or.inl rfl, trivial⟩ ?_
                      first
                      | (exfalso; omega)
                      | (rcases hS with ⟨t1, t2, t3⟩ | ⟨t1, ⟨t2, t3, t4⟩ | ⟨t2, t3⟩⟩
                         · exact ih _ (by omega) _ _ _ r23 r90 (by omega) rfl F2 (l1.trans h2) (l2.trans h3) t3
                         · exact ih _ (by omega) _ _ _ r23 r90 (by omega) rfl F2 (l1.trans h2) (l2.trans h3) t4
                         · exfalso; omega)
                      | (rcases hS with ⟨t1, t2, t3⟩ | ⟨t1, ⟨t2, t3, t4⟩ | ⟨t2, t3⟩⟩ <;> (exfalso; omega))
                      | exact ih _ (by omega) _ _ _ r77 r90 (by omega) rfl (fr_ums F2 rfl) (by rw [um_j (by decide)]; exact l1.trans h2) (by rw [um_j (by decide)]; exact l2.trans h3) (cpi_at hJ.2.1 (by rw [um_eq]; exact e73) (by omega))
                · skip
                  refine at_goto dx_16_54 ?_
                  refine at_astore dx_16_56 ?_
                  refine at_aload dx_16_57 rfl ?_
                  refine at_getR dx_16_58 lc_25 rfl lt_25_4 ?_
                  refine at_getI 6 dx_16_59 lc_29 rfl rfl (fun r59 => ?_)
                  refine at_zeqR dx_16_60 r59 (fun c60 => ?_) (fun c60 => ?_)
                  · skip
                    refine at_aload dx_16_80 rfl ?_
                    refine at_getR dx_16_81 lc_25 rfl lt_25_4 ?_
                    refine at_getI 5 dx_16_82 lc_29 rfl rfl (fun r82 => ?_)
                    refine at_zeqR dx_16_83 r82 (fun c83 => ?_) (fun c83 => ?_)
                    · skip
                      refine at_iload dx_16_88 rfl ?_
                      refine at_istore dx_16_89 ?_
                      refine at_iincR (y := 1) dx_16_90 rfl rfl (by constructor <;> omega) (fun r90 => ?_)
                      refine at_goto dx_16_91 ?_
                      refine at_wk (ls := [vr 25, vi _, vi _, vi _, vi _, vi _]) ⟨Or.inl rfl, Or.inl rfl, Or.inl rfl, Or.inl rfl, Or.inl rfl, Or.inl rfl, trivial⟩ ?_
                      first
                      | (exfalso; omega)
                      | (rcases hS with ⟨t1, t2, t3⟩ | ⟨t1, ⟨t2, t3, t4⟩ | ⟨t2, t3⟩⟩
                         · exact ih _ (by omega) _ _ _ r23 r90 (by omega) rfl F2 (l1.trans h2) (l2.trans h3) t3
                         · exact ih _ (by omega) _ _ _ r23 r90 (by omega) rfl F2 (l1.trans h2) (l2.trans h3) t4
                         · exfalso; omega)
                      | (rcases hS with ⟨t1, t2, t3⟩ | ⟨t1, ⟨t2, t3, t4⟩ | ⟨t2, t3⟩⟩ <;> (exfalso; omega))
                      | exact ih _ (by omega) _ _ _ r77 r90 (by omega) rfl (fr_ums F2 rfl) (by rw [um_j (by decide)]; exact l1.trans h2) (by rw [um_j (by decide)]; exact l2.trans h3) (cpi_at hJ.2.1 (by rw [um_eq]; exact e73) (by omega))
                    · skip
                      refine at_aload dx_16_84 rfl ?_
                      refine at_getR dx_16_85 lc_25 rfl lt_25_4 ?_
                      refine at_const (x := 1) dx_16_86 rfl ?_
                      refine at_putZ 2 dx_16_87 lc_29 rfl rfl (Or.inr rfl) ?_
                      refine at_iload dx_16_88 rfl ?_
                      refine at_istore dx_16_89 ?_
                      refine at_iincR (y := 1) dx_16_90 rfl rfl (by constructor <;> omega) (fun r90 => ?_)
                      refine at_goto dx_16_91 ?_
                      refine at_wk (ls := [vr 25, vi _, vi _, vi _, vi _, vi _]) ⟨Or.inl rfl, Or.inl rfl, Or.inl rfl, Or.inl rfl, Or.inl rfl, Or.inl rfl, trivial⟩ ?_
                      first
                      | (exfalso; omega)
                      | (rcases hS with ⟨t1, t2, t3⟩ | ⟨t1, ⟨t2, t3, t4⟩ | ⟨t2, t3⟩⟩
                         · exact ih _ (by omega) _ _ _ r23 r90 (by omega) rfl F2 (l1.trans h2) (l2.trans h3) t3
                         · exact ih _ (by omega) _ _ _ r23 r90 (by omega) rfl F2 (l1.trans h2) (l2.trans h3) t4
                         · exfalso; omega)
                      | (rcases hS with ⟨t1, t2, t3⟩ | ⟨t1, ⟨t2, t3, t4⟩ | ⟨t2, t3⟩⟩ <;> (exfalso; omega))
                      | exact ih _ (by omega) _ _ _ r77 r90 (by omega) rfl (fr_ums F2 rfl) (by rw [um_j (by decide)]; exact l1.trans h2) (by rw [um_j (by decide)]; exact l2.trans h3) (cpi_at hJ.2.1 (by rw [um_eq]; exact e73) (by omega))
                  · skip
                    refine at_aload dx_16_61 rfl ?_
                    refine at_nullN dx_16_62 ?_
                    have hJ : psM M (M 26 (M 28 kk)).toNat (M2 29 3) + M2 29 4 = M1 29 0 ∧ CPI M c n i z p (M1 29 0) (M 28 kk + 1) ∧ M 28 kk < (n : Int) + (i : Int) ∧ kk < M 28 kk := by
                      rcases hS with ⟨t1, -, -⟩ | ⟨t1, ⟨t2, -⟩ | ⟨-, -, -, t3, t4⟩⟩
                      · exfalso; omega
                      · exfalso; omega
                      · exact ⟨t3, t4, by omega, by omega⟩
                    refine at_aload dx_16_63 rfl ?_
                    refine at_getR dx_16_64 lc_25 rfl lt_25_4 ?_
                    refine at_aload dx_16_65 rfl ?_
                    refine at_aload dx_16_66 rfl ?_
                    refine at_getR dx_16_67 lc_25 rfl lt_25_4 ?_
                    refine at_getI 3 dx_16_68 lc_29 rfl rfl (fun r68 => ?_)
                    refine at_callVI dx_16_69 rfl e53 rfl (c_putStart e53 r68) ?_
                    rintro x69 M9 r69 ⟨e9, h69⟩; replace e9 := e9.symm; subst e9
                    rw [psM_29 F2 e53, m28, F2 26 (M 28 kk) (by decide)] at h69
                    have e73 : x69 + M2 29 4 = M1 29 0 := by rw [h69]; exact hJ.1
                    refine at_aload dx_16_70 rfl ?_
                    refine at_getR dx_16_71 lc_25 rfl lt_25_4 ?_
                    refine at_getI 4 dx_16_72 lc_29 rfl rfl (fun r72 => ?_)
                    refine at_addR dx_16_73 (by (rw [e73]; constructor <;> omega)) (fun r73 => ?_)
                    refine at_putI 0 dx_16_74 lc_29 rfl rfl r73 ?_
                    refine at_iload dx_16_75 rfl ?_
                    refine at_const (x := 1) dx_16_76 rfl ?_
                    refine at_addR dx_16_77 (by constructor <;> omega) (fun r77 => ?_)
                    refine at_istore dx_16_78 ?_
                    refine at_goto dx_16_79 ?_
                    refine at_iload dx_16_88 rfl ?_
                    refine at_istore dx_16_89 ?_
                    refine at_iincR (y := 1) dx_16_90 rfl rfl (by constructor <;> omega) (fun r90 => ?_)
                    refine at_goto dx_16_91 ?_
                    refine at_wk (ls := [vr 25, vi _, vi _, vi _, vi _, vi _]) ⟨Or.inl rfl, Or.inl rfl, Or.inl rfl, Or.inl rfl, Or.inl rfl, Or.inl rfl, trivial⟩ ?_
                    first
                    | (exfalso; omega)
                    | (rcases hS with ⟨t1, t2, t3⟩ | ⟨t1, ⟨t2, t3, t4⟩ | ⟨t2, t3⟩⟩
                       · exact ih _ (by omega) _ _ _ r23 r90 (by omega) rfl F2 (l1.trans h2) (l2.trans h3) t3
                       · exact ih _ (by omega) _ _ _ r23 r90 (by omega) rfl F2 (l1.trans h2) (l2.trans h3) t4
                       · exfalso; omega)
                    | (rcases hS with ⟨t1, t2, t3⟩ | ⟨t1, ⟨t2, t3, t4⟩ | ⟨t2, t3⟩⟩ <;> (exfalso; omega))
                    | exact ih _ (by omega) _ _ _ r77 r90 (by omega) rfl (fr_ums F2 rfl) (by rw [um_j (by decide)]; exact l1.trans h2) (by rw [um_j (by decide)]; exact l2.trans h3) (cpi_at hJ.2.1 (by rw [um_eq]; exact e73) (by omega))
  refine at_aload dx_16_0 rfl ?_
  refine at_getR dx_16_1 lc_25 rfl lt_25_4 ?_
  refine at_iload dx_16_2 rfl ?_
  refine at_iload dx_16_3 rfl ?_
  refine at_callVV dx_16_4 rfl lc_29 rfl (x_begin hp hz rz) ?_
  rintro M1 ⟨f1, g0, g1, g2⟩
  refine at_iload dx_16_5 rfl ?_
  refine at_const (x := 0) dx_16_6 rfl ?_
  refine at_maxR dx_16_7 rfl hf (by decide) (fun c7 => ?_) (fun c7 => ?_)
  · skip
    refine at_istore dx_16_8 ?_
    refine at_const (x := 0) dx_16_9 rfl ?_
    refine at_istore dx_16_10 ?_
    first | (exact lp _ _ 0 _ hf (by decide) (by omega) rfl f1 g1 g2 (cpi_at cpi_start g0 ef)) | (exact lp _ 0 0 _ (by decide) (by decide) (by omega) rfl f1 g1 g2 (cpi_at cpi_start g0 (by omega)))
  · skip
    refine at_istore dx_16_8 ?_
    refine at_const (x := 0) dx_16_9 rfl ?_
    refine at_istore dx_16_10 ?_
    first | (exact lp _ _ 0 _ hf (by decide) (by omega) rfl f1 g1 g2 (cpi_at cpi_start g0 ef)) | (exact lp _ 0 0 _ (by decide) (by decide) (by omega) rfl f1 g1 g2 (cpi_at cpi_start g0 (by omega)))

set_option maxRecDepth 100000 in
set_option maxHeartbeats 4000000 in
theorem x_carryMarking {X : scr} {M : mem} {f : Int} {c n i s : Nat} (hf : inR f) (ef : f = (n : Int) - (i : Int)) (hc : ly_c c = 0) (hi : i ≤ n ∧ n ≤ 10) (hR : RWx M c n i) (hs : ly_c s = 4) (hm : 0 ≤ M s 1 ∧ M s 1 < M s 2 ∧ M s 2 ≤ 60) : At X 0 14 0 [vr 25, vr s, vi f] [] M (qI (fun x M' => x = 1 ∧ fr (fun q => q = 29) M M')) := by
  have h8 := st_al hs
  have F : fr (fun q => q = 29) M M := fr_rf
  refine at_aload dx_14_0 rfl ?_
  refine at_aload dx_14_1 rfl ?_
  refine at_aload dx_14_2 rfl ?_
  refine at_getI 1 dx_14_3 hs rfl rfl (fun r3 => ?_)
  refine at_const (x := 1) dx_14_4 rfl ?_
  refine at_iload dx_14_5 rfl ?_
  refine at_callVI dx_14_6 rfl lc_25 rfl (x_carryPosition r3 (Or.inr rfl) (by decide) hf ef hc hi (by omega) (RWx_29 hc hi F hR)) ?_
  rintro x6 M6 r6 ⟨f6, e6, l6⟩
  replace F : fr (fun q => q = 29) M _ := fr_tr F f6
  obtain ⟨b1, b2, b3, b4, b5, b6, b7⟩ := st_29 F hs
  have b8 : M6 s 1 = M s 1 := F _ _ (by omega)
  have b9 : M6 s 2 = M s 2 := F _ _ (by omega)
  refine at_putI 1 dx_14_7 hs rfl rfl r6 ?_
  rw [um_self M6 s 1 (by omega)]
  refine at_aload dx_14_8 rfl ?_
  refine at_aload dx_14_9 rfl ?_
  refine at_aload dx_14_10 rfl ?_
  refine at_getI 2 dx_14_11 hs rfl rfl (fun r11 => ?_)
  refine at_const (x := 0) dx_14_12 rfl ?_
  refine at_iload dx_14_13 rfl ?_
  refine at_callVI dx_14_14 rfl lc_25 rfl (x_carryPosition r11 (Or.inl rfl) (by decide) hf ef hc hi (by omega) (RWx_29 hc hi F hR)) ?_
  rintro x14 M14 r14 ⟨f14, e14, l14⟩
  replace F : fr (fun q => q = 29) M _ := fr_tr F f14
  obtain ⟨b1, b2, b3, b4, b5, b6, b7⟩ := st_29 F hs
  have b8 : M14 s 1 = M s 1 := F _ _ (by omega)
  have b9 : M14 s 2 = M s 2 := F _ _ (by omega)
  refine at_putI 2 dx_14_15 hs rfl rfl r14 ?_
  rw [um_self M14 s 2 (by omega)]
  refine at_aload dx_14_16 rfl ?_
  refine at_getI 2 dx_14_17 hs rfl rfl (fun r17 => ?_)
  refine at_aload dx_14_18 rfl ?_
  refine at_getI 1 dx_14_19 hs rfl rfl (fun r19 => ?_)
  refine at_cleR dx_14_20 r17 r19 (fun c20 => ?_) (fun c20 => ?_)
  · exfalso; omega
  · skip
    refine at_const (x := 1) dx_14_21 rfl ?_
    refine at_goto dx_14_22 ?_
    refine at_zretI dx_14_24 (Or.inr rfl) ?_
    exact ⟨rfl, F⟩

set_option maxRecDepth 100000 in
set_option maxHeartbeats 4000000 in
theorem x_carryChange {X : scr} {M : mem} {f : Int} {c n i s : Nat} (hf : inR f) (ef : f = (n : Int) - (i : Int)) (hc : ly_c c = 0) (hi : i ≤ n ∧ n ≤ 10) (hR : RWx M c n i) (hs : ly_c s = 4) (hV : okS M s) : At X 0 15 0 [vr 25, vr s, vi f] [] M (qI (fun x M' => x = 1 ∧ fr (fun q => q = 29) M M')) := by
  have h8 := st_al hs
  have F : fr (fun q => q = 29) M M := fr_rf
  obtain ⟨⟨v1, v2⟩, v3, v4⟩ := hV
  refine at_const (x := 0) dx_15_0 rfl ?_
  refine at_istore dx_15_1 ?_
  refine at_const (x := 0) dx_15_2 rfl ?_
  refine at_istore dx_15_3 ?_
  refine at_iload dx_15_4 rfl ?_
  refine at_aload dx_15_5 rfl ?_
  refine at_getI 5 dx_15_6 hs rfl rfl (fun r6 => ?_)
  refine at_cgeR dx_15_7 (by decide) r6 (fun c7 => ?_) (fun c7 => ?_)
  · skip
    refine at_const (x := 1) dx_15_73 rfl ?_
    refine at_zretI dx_15_74 (Or.inr rfl) ?_
    exact ⟨rfl, F⟩
  · skip
    refine at_iload dx_15_8 rfl ?_
    refine at_const (x := 2) dx_15_9 rfl ?_
    refine at_cgeR dx_15_10 (by decide) (by decide) (fun c => absurd c (by decide)) (fun _ => ?_)
    have hq3 : 0 < M s 5 := by omega
    obtain ⟨⟨u1, u2⟩, ⟨u3, u4⟩, u5, u6⟩ := v3 hq3
    have v5 : M s 5 = 2 → ((M (s + 1) 0 + M (s + 2) 0 ≤ M (s + 1) 1 ∧ M (s + 1) 1 ≤ 60) ∧ (0 ≤ M (s + 2) 1 ∧ M (s + 2) 1 ≤ 60) ∧ (0 ≤ M (s + 3) 1 ∧ M (s + 3) 1 ≤ 60)) := fun e => by obtain ⟨w1, w2, w3, w4⟩ := v4 e; exact ⟨w1, w2, w3⟩
    refine at_aload dx_15_11 rfl ?_
    refine at_getR dx_15_12 hs rfl (st_t6 hs) ?_
    refine at_iload dx_15_13 rfl ?_
    refine at_aldI dx_15_14 (st_c1 hs) (st_n1 hs) (by decide) (by decide) (fun r14 => ?_)
    refine at_aload dx_15_15 rfl ?_
    refine at_getR dx_15_16 hs rfl (st_t7 hs) ?_
    refine at_iload dx_15_17 rfl ?_
    refine at_aldI dx_15_18 (st_c2 hs) (st_n2 hs) (by decide) (by decide) (fun r18 => ?_)
    refine at_addR dx_15_19 (by constructor <;> omega) (fun r19 => ?_)
    refine at_istore dx_15_20 ?_
    refine at_aload dx_15_21 rfl ?_
    refine at_aload dx_15_22 rfl ?_
    refine at_getR dx_15_23 hs rfl (st_t6 hs) ?_
    refine at_iload dx_15_24 rfl ?_
    refine at_aldI dx_15_25 (st_c1 hs) (st_n1 hs) (by decide) (by decide) (fun r25 => ?_)
    refine at_const (x := 1) dx_15_26 rfl ?_
    refine at_iload dx_15_27 rfl ?_
    refine at_callVI dx_15_28 rfl lc_25 rfl (x_carryPosition r25 (Or.inr rfl) (by decide) hf ef hc hi (by omega) (RWx_29 hc hi F hR)) ?_
    rintro x28a M28 r28a ⟨f28, e28, l28⟩
    replace F : fr (fun q => q = 29) M _ := fr_tr F f28
    obtain ⟨b1, b2, b3, b4, b5, b6, b7⟩ := st_29 F hs
    have b8 : M28 s 1 = M s 1 := F _ _ (by omega)
    have b9 : M28 s 2 = M s 2 := F _ _ (by omega)
    refine at_istore dx_15_29 ?_
    refine at_aload dx_15_30 rfl ?_
    refine at_getR dx_15_31 lc_25 rfl lt_25_4 ?_
    refine at_getI 2 dx_15_32 lc_29 rfl rfl (fun r32 => ?_)
    refine at_istore dx_15_33 ?_
    refine at_iload dx_15_34 rfl ?_
    refine at_aload dx_15_35 rfl ?_
    refine at_iload dx_15_36 rfl ?_
    refine at_const (x := 0) dx_15_37 rfl ?_
    refine at_iload dx_15_38 rfl ?_
    refine at_callVI dx_15_39 rfl lc_25 rfl (x_carryPosition r19 (Or.inl rfl) (by decide) hf ef hc hi (by omega) (RWx_29 hc hi F hR)) ?_
    rintro x39a M39 r39a ⟨f39, e39, l39⟩
    replace F : fr (fun q => q = 29) M _ := fr_tr F f39
    obtain ⟨b1, b2, b3, b4, b5, b6, b7⟩ := st_29 F hs
    have b8 : M39 s 1 = M s 1 := F _ _ (by omega)
    have b9 : M39 s 2 = M s 2 := F _ _ (by omega)
    refine at_maxR dx_15_40 rfl r28a r39a (fun c40 => ?_) (fun c40 => ?_)
    · skip
      refine at_istore dx_15_41 ?_
      refine at_aload dx_15_42 rfl ?_
      refine at_getR dx_15_43 lc_25 rfl lt_25_4 ?_
      refine at_getI 2 dx_15_44 lc_29 rfl rfl (fun r44 => ?_)
      refine at_istore dx_15_45 ?_
      refine at_iload dx_15_46 rfl ?_
      refine at_zeqR dx_15_47 r32 (fun c47 => ?_) (fun c47 => ?_)
      rotate_left
      · exfalso; omega
      · skip
        refine at_iload dx_15_50 rfl ?_
        refine at_zleR dx_15_51 (by decide) (fun _ => ?_) (fun c => absurd c (by decide))
        refine at_aload dx_15_57 rfl ?_
        refine at_getR dx_15_58 hs rfl (st_t6 hs) ?_
        refine at_iload dx_15_59 rfl ?_
        refine at_iload dx_15_60 rfl ?_
        refine at_astI dx_15_61 (st_c1 hs) (st_n1 hs) (by decide) (by decide) r28a ?_
        refine at_aload dx_15_62 rfl ?_
        refine at_getR dx_15_63 hs rfl (st_t7 hs) ?_
        refine at_iload dx_15_64 rfl ?_
        refine at_iload dx_15_65 rfl ?_
        refine at_iload dx_15_66 rfl ?_
        refine at_subR dx_15_67 (by constructor <;> omega) (fun r67 => ?_)
        refine at_astI dx_15_68 (st_c2 hs) (st_n2 hs) (by decide) (by decide) r67 ?_
        rw [um2_self (M := M39) (by omega) (by omega)]
        refine at_iload dx_15_69 rfl ?_
        refine at_istore dx_15_70 ?_
        refine at_iincC (y := 1) (z := 1) dx_15_71 rfl rfl (by decide +kernel) ?_
        refine at_goto dx_15_72 ?_
        refine at_iload dx_15_4 rfl ?_
        refine at_aload dx_15_5 rfl ?_
        refine at_getI 5 dx_15_6 hs rfl rfl (fun r6 => ?_)
        refine at_cgeR dx_15_7 (by decide) r6 (fun c7 => ?_) (fun c7 => ?_)
        · skip
          refine at_const (x := 1) dx_15_73 rfl ?_
          refine at_zretI dx_15_74 (Or.inr rfl) ?_
          exact ⟨rfl, F⟩
        · skip
          refine at_iload dx_15_8 rfl ?_
          refine at_const (x := 2) dx_15_9 rfl ?_
          refine at_cgeR dx_15_10 (by decide) (by decide) (fun c => absurd c (by decide)) (fun _ => ?_)
          have hq3 : 0 < M s 5 := by omega
          obtain ⟨⟨u1, u2⟩, ⟨u3, u4⟩, u5, u6⟩ := v3 hq3
          have v5 : M s 5 = 2 → ((M (s + 1) 0 + M (s + 2) 0 ≤ M (s + 1) 1 ∧ M (s + 1) 1 ≤ 60) ∧ (0 ≤ M (s + 2) 1 ∧ M (s + 2) 1 ≤ 60) ∧ (0 ≤ M (s + 3) 1 ∧ M (s + 3) 1 ≤ 60)) := fun e => by obtain ⟨w1, w2, w3, w4⟩ := v4 e; exact ⟨w1, w2, w3⟩
          refine at_aload dx_15_11 rfl ?_
          refine at_getR dx_15_12 hs rfl (st_t6 hs) ?_
          refine at_iload dx_15_13 rfl ?_
          refine at_aldI dx_15_14 (st_c1 hs) (st_n1 hs) (by decide) (by decide) (fun r14 => ?_)
          refine at_aload dx_15_15 rfl ?_
          refine at_getR dx_15_16 hs rfl (st_t7 hs) ?_
          refine at_iload dx_15_17 rfl ?_
          refine at_aldI dx_15_18 (st_c2 hs) (st_n2 hs) (by decide) (by decide) (fun r18 => ?_)
          refine at_addR dx_15_19 (by constructor <;> omega) (fun r19 => ?_)
          refine at_istore dx_15_20 ?_
          refine at_aload dx_15_21 rfl ?_
          refine at_aload dx_15_22 rfl ?_
          refine at_getR dx_15_23 hs rfl (st_t6 hs) ?_
          refine at_iload dx_15_24 rfl ?_
          refine at_aldI dx_15_25 (st_c1 hs) (st_n1 hs) (by decide) (by decide) (fun r25 => ?_)
          refine at_const (x := 1) dx_15_26 rfl ?_
          refine at_iload dx_15_27 rfl ?_
          refine at_callVI dx_15_28 rfl lc_25 rfl (x_carryPosition r25 (Or.inr rfl) (by decide) hf ef hc hi (by omega) (RWx_29 hc hi F hR)) ?_
          rintro x28b M28 r28b ⟨f28, e28, l28⟩
          replace F : fr (fun q => q = 29) M _ := fr_tr F f28
          obtain ⟨b1, b2, b3, b4, b5, b6, b7⟩ := st_29 F hs
          have b8 : M28 s 1 = M s 1 := F _ _ (by omega)
          have b9 : M28 s 2 = M s 2 := F _ _ (by omega)
          refine at_istore dx_15_29 ?_
          refine at_aload dx_15_30 rfl ?_
          refine at_getR dx_15_31 lc_25 rfl lt_25_4 ?_
          refine at_getI 2 dx_15_32 lc_29 rfl rfl (fun r32 => ?_)
          refine at_istore dx_15_33 ?_
          refine at_iload dx_15_34 rfl ?_
          refine at_aload dx_15_35 rfl ?_
          refine at_iload dx_15_36 rfl ?_
          refine at_const (x := 0) dx_15_37 rfl ?_
          refine at_iload dx_15_38 rfl ?_
          refine at_callVI dx_15_39 rfl lc_25 rfl (x_carryPosition r19 (Or.inl rfl) (by decide) hf ef hc hi (by omega) (RWx_29 hc hi F hR)) ?_
          rintro x39b M39 r39b ⟨f39, e39, l39⟩
          replace F : fr (fun q => q = 29) M _ := fr_tr F f39
          obtain ⟨b1, b2, b3, b4, b5, b6, b7⟩ := st_29 F hs
          have b8 : M39 s 1 = M s 1 := F _ _ (by omega)
          have b9 : M39 s 2 = M s 2 := F _ _ (by omega)
          refine at_maxR dx_15_40 rfl r28b r39b (fun c40 => ?_) (fun c40 => ?_)
          · skip
            refine at_istore dx_15_41 ?_
            refine at_aload dx_15_42 rfl ?_
            refine at_getR dx_15_43 lc_25 rfl lt_25_4 ?_
            refine at_getI 2 dx_15_44 lc_29 rfl rfl (fun r44 => ?_)
            refine at_istore dx_15_45 ?_
            refine at_iload dx_15_46 rfl ?_
            refine at_zeqR dx_15_47 r32 (fun c47 => ?_) (fun c47 => ?_)
            rotate_left
            · exfalso; omega
            · skip
              refine at_iload dx_15_50 rfl ?_
              refine at_zleR dx_15_51 (by decide) (fun c => absurd c (by decide)) (fun _ => ?_)
              refine at_iload dx_15_52 rfl ?_
              refine at_iload dx_15_53 rfl ?_
              refine at_cgeR dx_15_54 r28b r39a (fun c54 => ?_) (fun c54 => ?_)
              rotate_left
              · exfalso; omega
              · skip
                refine at_aload dx_15_57 rfl ?_
                refine at_getR dx_15_58 hs rfl (st_t6 hs) ?_
                refine at_iload dx_15_59 rfl ?_
                refine at_iload dx_15_60 rfl ?_
                refine at_astI dx_15_61 (st_c1 hs) (st_n1 hs) (by decide) (by decide) r28b ?_
                refine at_aload dx_15_62 rfl ?_
                refine at_getR dx_15_63 hs rfl (st_t7 hs) ?_
                refine at_iload dx_15_64 rfl ?_
                refine at_iload dx_15_65 rfl ?_
                refine at_iload dx_15_66 rfl ?_
                refine at_subR dx_15_67 (by constructor <;> omega) (fun r67 => ?_)
                refine at_astI dx_15_68 (st_c2 hs) (st_n2 hs) (by decide) (by decide) r67 ?_
                rw [um2_self (M := M39) (by omega) (by omega)]
                refine at_iload dx_15_69 rfl ?_
                refine at_istore dx_15_70 ?_
                refine at_iincC (y := 1) (z := 2) dx_15_71 rfl rfl (by decide +kernel) ?_
                refine at_goto dx_15_72 ?_
                refine at_iload dx_15_4 rfl ?_
                refine at_aload dx_15_5 rfl ?_
                refine at_getI 5 dx_15_6 hs rfl rfl (fun r6 => ?_)
                refine at_cgeR dx_15_7 (by decide) r6 (fun c7 => ?_) (fun c7 => ?_)
                · skip
                  refine at_const (x := 1) dx_15_73 rfl ?_
                  refine at_zretI dx_15_74 (Or.inr rfl) ?_
                  exact ⟨rfl, F⟩
                · skip
                  refine at_iload dx_15_8 rfl ?_
                  refine at_const (x := 2) dx_15_9 rfl ?_
                  refine at_cgeR dx_15_10 (by decide) (by decide) (fun _ => ?_) (fun c => absurd c (by decide))
                  refine at_const (x := 1) dx_15_73 rfl ?_
                  refine at_zretI dx_15_74 (Or.inr rfl) ?_
                  exact ⟨rfl, F⟩
          · skip
            refine at_istore dx_15_41 ?_
            refine at_aload dx_15_42 rfl ?_
            refine at_getR dx_15_43 lc_25 rfl lt_25_4 ?_
            refine at_getI 2 dx_15_44 lc_29 rfl rfl (fun r44 => ?_)
            refine at_istore dx_15_45 ?_
            refine at_iload dx_15_46 rfl ?_
            refine at_zeqR dx_15_47 r32 (fun c47 => ?_) (fun c47 => ?_)
            rotate_left
            · exfalso; omega
            · skip
              refine at_iload dx_15_50 rfl ?_
              refine at_zleR dx_15_51 (by decide) (fun c => absurd c (by decide)) (fun _ => ?_)
              refine at_iload dx_15_52 rfl ?_
              refine at_iload dx_15_53 rfl ?_
              refine at_cgeR dx_15_54 r28b r39a (fun c54 => ?_) (fun c54 => ?_)
              rotate_left
              · exfalso; omega
              · skip
                refine at_aload dx_15_57 rfl ?_
                refine at_getR dx_15_58 hs rfl (st_t6 hs) ?_
                refine at_iload dx_15_59 rfl ?_
                refine at_iload dx_15_60 rfl ?_
                refine at_astI dx_15_61 (st_c1 hs) (st_n1 hs) (by decide) (by decide) r28b ?_
                refine at_aload dx_15_62 rfl ?_
                refine at_getR dx_15_63 hs rfl (st_t7 hs) ?_
                refine at_iload dx_15_64 rfl ?_
                refine at_iload dx_15_65 rfl ?_
                refine at_iload dx_15_66 rfl ?_
                refine at_subR dx_15_67 (by constructor <;> omega) (fun r67 => ?_)
                refine at_astI dx_15_68 (st_c2 hs) (st_n2 hs) (by decide) (by decide) r67 ?_
                rw [um2_self (M := M39) (by omega) (by omega)]
                refine at_iload dx_15_69 rfl ?_
                refine at_istore dx_15_70 ?_
                refine at_iincC (y := 1) (z := 2) dx_15_71 rfl rfl (by decide +kernel) ?_
                refine at_goto dx_15_72 ?_
                refine at_iload dx_15_4 rfl ?_
                refine at_aload dx_15_5 rfl ?_
                refine at_getI 5 dx_15_6 hs rfl rfl (fun r6 => ?_)
                refine at_cgeR dx_15_7 (by decide) r6 (fun c7 => ?_) (fun c7 => ?_)
                · skip
                  refine at_const (x := 1) dx_15_73 rfl ?_
                  refine at_zretI dx_15_74 (Or.inr rfl) ?_
                  exact ⟨rfl, F⟩
                · skip
                  refine at_iload dx_15_8 rfl ?_
                  refine at_const (x := 2) dx_15_9 rfl ?_
                  refine at_cgeR dx_15_10 (by decide) (by decide) (fun _ => ?_) (fun c => absurd c (by decide))
                  refine at_const (x := 1) dx_15_73 rfl ?_
                  refine at_zretI dx_15_74 (Or.inr rfl) ?_
                  exact ⟨rfl, F⟩
    · skip
      refine at_istore dx_15_41 ?_
      refine at_aload dx_15_42 rfl ?_
      refine at_getR dx_15_43 lc_25 rfl lt_25_4 ?_
      refine at_getI 2 dx_15_44 lc_29 rfl rfl (fun r44 => ?_)
      refine at_istore dx_15_45 ?_
      refine at_iload dx_15_46 rfl ?_
      refine at_zeqR dx_15_47 r32 (fun c47 => ?_) (fun c47 => ?_)
      rotate_left
      · exfalso; omega
      · skip
        refine at_iload dx_15_50 rfl ?_
        refine at_zleR dx_15_51 (by decide) (fun _ => ?_) (fun c => absurd c (by decide))
        refine at_aload dx_15_57 rfl ?_
        refine at_getR dx_15_58 hs rfl (st_t6 hs) ?_
        refine at_iload dx_15_59 rfl ?_
        refine at_iload dx_15_60 rfl ?_
        refine at_astI dx_15_61 (st_c1 hs) (st_n1 hs) (by decide) (by decide) r28a ?_
        refine at_aload dx_15_62 rfl ?_
        refine at_getR dx_15_63 hs rfl (st_t7 hs) ?_
        refine at_iload dx_15_64 rfl ?_
        refine at_iload dx_15_65 rfl ?_
        refine at_iload dx_15_66 rfl ?_
        refine at_subR dx_15_67 (by constructor <;> omega) (fun r67 => ?_)
        refine at_astI dx_15_68 (st_c2 hs) (st_n2 hs) (by decide) (by decide) r67 ?_
        rw [um2_self (M := M39) (by omega) (by omega)]
        refine at_iload dx_15_69 rfl ?_
        refine at_istore dx_15_70 ?_
        refine at_iincC (y := 1) (z := 1) dx_15_71 rfl rfl (by decide +kernel) ?_
        refine at_goto dx_15_72 ?_
        refine at_iload dx_15_4 rfl ?_
        refine at_aload dx_15_5 rfl ?_
        refine at_getI 5 dx_15_6 hs rfl rfl (fun r6 => ?_)
        refine at_cgeR dx_15_7 (by decide) r6 (fun c7 => ?_) (fun c7 => ?_)
        · skip
          refine at_const (x := 1) dx_15_73 rfl ?_
          refine at_zretI dx_15_74 (Or.inr rfl) ?_
          exact ⟨rfl, F⟩
        · skip
          refine at_iload dx_15_8 rfl ?_
          refine at_const (x := 2) dx_15_9 rfl ?_
          refine at_cgeR dx_15_10 (by decide) (by decide) (fun c => absurd c (by decide)) (fun _ => ?_)
          have hq3 : 0 < M s 5 := by omega
          obtain ⟨⟨u1, u2⟩, ⟨u3, u4⟩, u5, u6⟩ := v3 hq3
          have v5 : M s 5 = 2 → ((M (s + 1) 0 + M (s + 2) 0 ≤ M (s + 1) 1 ∧ M (s + 1) 1 ≤ 60) ∧ (0 ≤ M (s + 2) 1 ∧ M (s + 2) 1 ≤ 60) ∧ (0 ≤ M (s + 3) 1 ∧ M (s + 3) 1 ≤ 60)) := fun e => by obtain ⟨w1, w2, w3, w4⟩ := v4 e; exact ⟨w1, w2, w3⟩
          refine at_aload dx_15_11 rfl ?_
          refine at_getR dx_15_12 hs rfl (st_t6 hs) ?_
          refine at_iload dx_15_13 rfl ?_
          refine at_aldI dx_15_14 (st_c1 hs) (st_n1 hs) (by decide) (by decide) (fun r14 => ?_)
          refine at_aload dx_15_15 rfl ?_
          refine at_getR dx_15_16 hs rfl (st_t7 hs) ?_
          refine at_iload dx_15_17 rfl ?_
          refine at_aldI dx_15_18 (st_c2 hs) (st_n2 hs) (by decide) (by decide) (fun r18 => ?_)
          refine at_addR dx_15_19 (by constructor <;> omega) (fun r19 => ?_)
          refine at_istore dx_15_20 ?_
          refine at_aload dx_15_21 rfl ?_
          refine at_aload dx_15_22 rfl ?_
          refine at_getR dx_15_23 hs rfl (st_t6 hs) ?_
          refine at_iload dx_15_24 rfl ?_
          refine at_aldI dx_15_25 (st_c1 hs) (st_n1 hs) (by decide) (by decide) (fun r25 => ?_)
          refine at_const (x := 1) dx_15_26 rfl ?_
          refine at_iload dx_15_27 rfl ?_
          refine at_callVI dx_15_28 rfl lc_25 rfl (x_carryPosition r25 (Or.inr rfl) (by decide) hf ef hc hi (by omega) (RWx_29 hc hi F hR)) ?_
          rintro x28b M28 r28b ⟨f28, e28, l28⟩
          replace F : fr (fun q => q = 29) M _ := fr_tr F f28
          obtain ⟨b1, b2, b3, b4, b5, b6, b7⟩ := st_29 F hs
          have b8 : M28 s 1 = M s 1 := F _ _ (by omega)
          have b9 : M28 s 2 = M s 2 := F _ _ (by omega)
          refine at_istore dx_15_29 ?_
          refine at_aload dx_15_30 rfl ?_
          refine at_getR dx_15_31 lc_25 rfl lt_25_4 ?_
          refine at_getI 2 dx_15_32 lc_29 rfl rfl (fun r32 => ?_)
          refine at_istore dx_15_33 ?_
          refine at_iload dx_15_34 rfl ?_
          refine at_aload dx_15_35 rfl ?_
          refine at_iload dx_15_36 rfl ?_
          refine at_const (x := 0) dx_15_37 rfl ?_
          refine at_iload dx_15_38 rfl ?_
          refine at_callVI dx_15_39 rfl lc_25 rfl (x_carryPosition r19 (Or.inl rfl) (by decide) hf ef hc hi (by omega) (RWx_29 hc hi F hR)) ?_
          rintro x39b M39 r39b ⟨f39, e39, l39⟩
          replace F : fr (fun q => q = 29) M _ := fr_tr F f39
          obtain ⟨b1, b2, b3, b4, b5, b6, b7⟩ := st_29 F hs
          have b8 : M39 s 1 = M s 1 := F _ _ (by omega)
          have b9 : M39 s 2 = M s 2 := F _ _ (by omega)
          refine at_maxR dx_15_40 rfl r28b r39b (fun c40 => ?_) (fun c40 => ?_)
          · skip
            refine at_istore dx_15_41 ?_
            refine at_aload dx_15_42 rfl ?_
            refine at_getR dx_15_43 lc_25 rfl lt_25_4 ?_
            refine at_getI 2 dx_15_44 lc_29 rfl rfl (fun r44 => ?_)
            refine at_istore dx_15_45 ?_
            refine at_iload dx_15_46 rfl ?_
            refine at_zeqR dx_15_47 r32 (fun c47 => ?_) (fun c47 => ?_)
            rotate_left
            · exfalso; omega
            · skip
              refine at_iload dx_15_50 rfl ?_
              refine at_zleR dx_15_51 (by decide) (fun c => absurd c (by decide)) (fun _ => ?_)
              refine at_iload dx_15_52 rfl ?_
              refine at_iload dx_15_53 rfl ?_
              refine at_cgeR dx_15_54 r28b r28a (fun c54 => ?_) (fun c54 => ?_)
              rotate_left
              · exfalso; omega
              · skip
                refine at_aload dx_15_57 rfl ?_
                refine at_getR dx_15_58 hs rfl (st_t6 hs) ?_
                refine at_iload dx_15_59 rfl ?_
                refine at_iload dx_15_60 rfl ?_
                refine at_astI dx_15_61 (st_c1 hs) (st_n1 hs) (by decide) (by decide) r28b ?_
                refine at_aload dx_15_62 rfl ?_
                refine at_getR dx_15_63 hs rfl (st_t7 hs) ?_
                refine at_iload dx_15_64 rfl ?_
                refine at_iload dx_15_65 rfl ?_
                refine at_iload dx_15_66 rfl ?_
                refine at_subR dx_15_67 (by constructor <;> omega) (fun r67 => ?_)
                refine at_astI dx_15_68 (st_c2 hs) (st_n2 hs) (by decide) (by decide) r67 ?_
                rw [um2_self (M := M39) (by omega) (by omega)]
                refine at_iload dx_15_69 rfl ?_
                refine at_istore dx_15_70 ?_
                refine at_iincC (y := 1) (z := 2) dx_15_71 rfl rfl (by decide +kernel) ?_
                refine at_goto dx_15_72 ?_
                refine at_iload dx_15_4 rfl ?_
                refine at_aload dx_15_5 rfl ?_
                refine at_getI 5 dx_15_6 hs rfl rfl (fun r6 => ?_)
                refine at_cgeR dx_15_7 (by decide) r6 (fun c7 => ?_) (fun c7 => ?_)
                · skip
                  refine at_const (x := 1) dx_15_73 rfl ?_
                  refine at_zretI dx_15_74 (Or.inr rfl) ?_
                  exact ⟨rfl, F⟩
                · skip
                  refine at_iload dx_15_8 rfl ?_
                  refine at_const (x := 2) dx_15_9 rfl ?_
                  refine at_cgeR dx_15_10 (by decide) (by decide) (fun _ => ?_) (fun c => absurd c (by decide))
                  refine at_const (x := 1) dx_15_73 rfl ?_
                  refine at_zretI dx_15_74 (Or.inr rfl) ?_
                  exact ⟨rfl, F⟩
          · skip
            refine at_istore dx_15_41 ?_
            refine at_aload dx_15_42 rfl ?_
            refine at_getR dx_15_43 lc_25 rfl lt_25_4 ?_
            refine at_getI 2 dx_15_44 lc_29 rfl rfl (fun r44 => ?_)
            refine at_istore dx_15_45 ?_
            refine at_iload dx_15_46 rfl ?_
            refine at_zeqR dx_15_47 r32 (fun c47 => ?_) (fun c47 => ?_)
            rotate_left
            · exfalso; omega
            · skip
              refine at_iload dx_15_50 rfl ?_
              refine at_zleR dx_15_51 (by decide) (fun c => absurd c (by decide)) (fun _ => ?_)
              refine at_iload dx_15_52 rfl ?_
              refine at_iload dx_15_53 rfl ?_
              refine at_cgeR dx_15_54 r28b r28a (fun c54 => ?_) (fun c54 => ?_)
              rotate_left
              · exfalso; omega
              · skip
                refine at_aload dx_15_57 rfl ?_
                refine at_getR dx_15_58 hs rfl (st_t6 hs) ?_
                refine at_iload dx_15_59 rfl ?_
                refine at_iload dx_15_60 rfl ?_
                refine at_astI dx_15_61 (st_c1 hs) (st_n1 hs) (by decide) (by decide) r28b ?_
                refine at_aload dx_15_62 rfl ?_
                refine at_getR dx_15_63 hs rfl (st_t7 hs) ?_
                refine at_iload dx_15_64 rfl ?_
                refine at_iload dx_15_65 rfl ?_
                refine at_iload dx_15_66 rfl ?_
                refine at_subR dx_15_67 (by constructor <;> omega) (fun r67 => ?_)
                refine at_astI dx_15_68 (st_c2 hs) (st_n2 hs) (by decide) (by decide) r67 ?_
                rw [um2_self (M := M39) (by omega) (by omega)]
                refine at_iload dx_15_69 rfl ?_
                refine at_istore dx_15_70 ?_
                refine at_iincC (y := 1) (z := 2) dx_15_71 rfl rfl (by decide +kernel) ?_
                refine at_goto dx_15_72 ?_
                refine at_iload dx_15_4 rfl ?_
                refine at_aload dx_15_5 rfl ?_
                refine at_getI 5 dx_15_6 hs rfl rfl (fun r6 => ?_)
                refine at_cgeR dx_15_7 (by decide) r6 (fun c7 => ?_) (fun c7 => ?_)
                · skip
                  refine at_const (x := 1) dx_15_73 rfl ?_
                  refine at_zretI dx_15_74 (Or.inr rfl) ?_
                  exact ⟨rfl, F⟩
                · skip
                  refine at_iload dx_15_8 rfl ?_
                  refine at_const (x := 2) dx_15_9 rfl ?_
                  refine at_cgeR dx_15_10 (by decide) (by decide) (fun _ => ?_) (fun c => absurd c (by decide))
                  refine at_const (x := 1) dx_15_73 rfl ?_
                  refine at_zretI dx_15_74 (Or.inr rfl) ?_
                  exact ⟨rfl, F⟩

set_option maxRecDepth 100000 in
set_option maxHeartbeats 4000000 in
theorem x_carryStep {X : scr} {M : mem} {f : Int} {c n i s : Nat} (hf : inR f) (ef : f = (n : Int) - (i : Int)) (hc : ly_c c = 0) (hi : i ≤ n ∧ n ≤ 10) (hR : RWx M c n i) (hs : ly_c s = 4) (hV : okS M s) (hm : M s 0 ≠ 0 → 0 ≤ M s 1 ∧ M s 1 < M s 2 ∧ M s 2 ≤ 60) : At X 0 13 0 [vr 25, vr s, vi f] [] M (qI (fun x M' => x = 1 ∧ fr (fun q => q = 29) M M')) := by
  refine at_aload dx_13_0 rfl ?_
  refine at_getI 0 dx_13_1 hs rfl rfl (fun r1 => ?_)
  refine at_zeqR dx_13_2 r1 (fun c2 => ?_) (fun c2 => ?_)
  · skip
    refine at_aload dx_13_8 rfl ?_
    refine at_aload dx_13_9 rfl ?_
    refine at_iload dx_13_10 rfl ?_
    refine at_callVI dx_13_11 rfl lc_25 rfl (x_carryChange hf ef hc hi hR hs hV) ?_
    rintro x M1 rx ⟨f1, hx⟩
    refine at_zretI dx_13_12 (Or.inr f1) ?_
    exact ⟨f1, hx⟩
  · skip
    refine at_aload dx_13_3 rfl ?_
    refine at_aload dx_13_4 rfl ?_
    refine at_iload dx_13_5 rfl ?_
    refine at_callVI dx_13_6 rfl lc_25 rfl (x_carryMarking hf ef hc hi hR hs (hm (by assumption))) ?_
    rintro x M1 rx ⟨f1, hx⟩
    refine at_goto dx_13_7 ?_
    refine at_zretI dx_13_12 (Or.inr f1) ?_
    exact ⟨f1, hx⟩
