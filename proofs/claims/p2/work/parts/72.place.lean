/-! ===== a place on its way through maps, exact ===== -/
abbrev okN7 (rc s0 t0 p0 s1 t1 p1 : Int) : Prop := (0 ≤ rc ∧ rc ≤ 2) ∧ (0 < rc → (0 ≤ s0 ∧ s0 ≤ 60) ∧ (0 ≤ t0 ∧ t0 ≤ 60) ∧ (0 ≤ p0 ∧ p0 ≤ 60)) ∧ (rc = 2 → (s0 + t0 ≤ s1 ∧ s1 ≤ 60) ∧ (0 ≤ t1 ∧ t1 ≤ 60) ∧ (0 ≤ p1 ∧ p1 ≤ 60) ∧ (s0 + t0 < s1 ∨ (p0 = 0 ∧ p1 = 0 ∧ 0 < t0 ∧ 0 < t1)))
def ENT (rt p st en ns ne p' bt hd : Int) : Prop :=
  (p = st ∧ p ≠ en ∧ p' = ns ∧ bt = 0 ∧ hd = rt) ∨ (p = en ∧ p ≠ st ∧ p' = ne ∧ bt = 0 ∧ hd = 1 - rt) ∨ (p = st ∧ p = en ∧ ((rt = 1 ∧ p' = ne) ∨ (rt = 0 ∧ p' = ns)) ∧ bt = 0 ∧ hd = 0) ∨ (p ≠ st ∧ p ≠ en ∧ ((rt = 1 ∧ p' = ne) ∨ (rt = 0 ∧ p' = ns)) ∧ bt = 1 ∧ hd = 1)
theorem ENT_cg {rt p st en ns ne p' bt hd rt2 p2 st2 en2 ns2 ne2 : Int} (h1 : rt = rt2) (h2 : p = p2) (h3 : st = st2) (h4 : en = en2) (h5 : ns = ns2) (h6 : ne = ne2) (h : ENT rt p st en ns ne p' bt hd) : ENT rt2 p2 st2 en2 ns2 ne2 p' bt hd := by
  subst h1 h2 h3 h4 h5 h6
  exact h
def CYg (rc rt p p' bt hd rg of st0 en0 ns0 ne0 st1 en1 ns1 ne1 : Int) : Prop :=
  (bt = 0 ∧ hd = 0 ∧ ((rc = 0 ∧ p' = p) ∨ (0 < rc ∧ p < st0 ∧ p' = p) ∨ (rc = 1 ∧ en0 < p ∧ p' = p + (ne0 - en0)) ∨ (rc = 2 ∧ en0 < p ∧ p < st1 ∧ p' = p + (ne0 - en0)) ∨ (rc = 2 ∧ en0 < p ∧ en1 < p ∧ p' = p + (ne1 - en1)))) ∨
  (0 < rc ∧ st0 ≤ p ∧ p ≤ en0 ∧ rg = 0 ∧ of = p - st0 ∧ ENT rt p st0 en0 ns0 ne0 p' bt hd) ∨
  (rc = 2 ∧ en0 < p ∧ st1 ≤ p ∧ p ≤ en1 ∧ rg = 1 ∧ of = p - st1 ∧ ENT rt p st1 en1 ns1 ne1 p' bt hd)
theorem cy_back {rc s0 t0 p0 s1 t1 p1 rt p p' bt hd rg of : Int} (hN : okN7 rc s0 t0 p0 s1 t1 p1) (hrt : rt = 0 ∨ rt = 1) (h : CYg rc rt p p' bt hd rg of s0 (s0 + p0) s0 (s0 + t0) (s1 + p0 - t0) (s1 + p0 - t0 + p1) s1 (s1 + t1)) :
    (hd = 1 ∧ 0 < rc ∧ ((rg = 0 ∧ s0 + of = p) ∨ (rg = 1 ∧ rc = 2 ∧ s1 + p0 - t0 + of = p)) ∧ (0 ≤ of ∧ of ≤ 60)) ∨
    (hd = 0 ∧ bt = 0 ∧ (p - 120 ≤ p' ∧ p' ≤ p + 120) ∧ ∀ p2 bt2 hd2 rg2 of2 : Int, CYg rc rt p' p2 bt2 hd2 rg2 of2 s0 (s0 + t0) s0 (s0 + p0) s1 (s1 + t1) (s1 + p0 - t0) (s1 + p0 - t0 + p1) → bt2 = 0 ∧ p2 = p) := by
  obtain ⟨⟨n1, n2⟩, n3, n4⟩ := hN
  rcases h with ⟨a1, a2, h⟩ | ⟨a1, a2, a3, a4, a5, h⟩ | ⟨a1, a2, a3, a4, a5, a6, h⟩
  · rcases h with ⟨b1, b2⟩ | ⟨b1, b2, b3⟩ | ⟨b1, b2, b3⟩ | ⟨b1, b2, b3, b4⟩ | ⟨b1, b2, b3, b4⟩
    · refine Or.inr ⟨a2, a1, by omega, fun p2 bt2 hd2 rg2 of2 h2 => ?_⟩
      unfold CYg at h2
      rcases h2 with ⟨g1, g2, g⟩ | ⟨g1, -⟩ | ⟨g1, -⟩
      · omega
      · omega
      · omega
    · obtain ⟨m1, m2, m3⟩ := n3 b1
      refine Or.inr ⟨a2, a1, by omega, fun p2 bt2 hd2 rg2 of2 h2 => ?_⟩
      rcases h2 with ⟨g1, g2, g⟩ | ⟨g1, g2, -⟩ | ⟨g1, g2, -⟩
      · omega
      · omega
      · omega
    · obtain ⟨m1, m2, m3⟩ := n3 (by omega)
      refine Or.inr ⟨a2, a1, by omega, fun p2 bt2 hd2 rg2 of2 h2 => ?_⟩
      rcases h2 with ⟨g1, g2, g⟩ | ⟨g1, g2, g3, -⟩ | ⟨g1, g2, -⟩
      · omega
      · omega
      · omega
    · obtain ⟨m1, m2, m3⟩ := n3 (by omega)
      obtain ⟨m4, m5, m6, m7⟩ := n4 b1
      refine Or.inr ⟨a2, a1, by omega, fun p2 bt2 hd2 rg2 of2 h2 => ?_⟩
      rcases h2 with ⟨g1, g2, g⟩ | ⟨g1, g2, g3, -⟩ | ⟨g1, g2, g3, -⟩
      · omega
      · omega
      · omega
    · obtain ⟨m1, m2, m3⟩ := n3 (by omega)
      obtain ⟨m4, m5, m6, m7⟩ := n4 b1
      refine Or.inr ⟨a2, a1, by omega, fun p2 bt2 hd2 rg2 of2 h2 => ?_⟩
      rcases h2 with ⟨g1, g2, g⟩ | ⟨g1, g2, g3, -⟩ | ⟨g1, g2, g3, g4, -⟩
      · omega
      · omega
      · omega
  · obtain ⟨m1, m2, m3⟩ := n3 a1
    have ho : 0 ≤ of ∧ of ≤ 60 := by omega
    rcases h with ⟨b1, b2, b3, b4, b5⟩ | ⟨b1, b2, b3, b4, b5⟩ | ⟨b1, b2, b3, b4, b5⟩ | ⟨b1, b2, b3, b4, b5⟩
    · rcases hrt with hr | hr
      · refine Or.inr ⟨by omega, b4, by omega, fun p2 bt2 hd2 rg2 of2 h2 => ?_⟩
        rcases h2 with ⟨g1, g2, g⟩ | ⟨g1, g2, g3, g4, g5, g⟩ | ⟨g1, g2, g3, g4, -⟩
        · omega
        · rcases g with g | g | g | g <;> omega
        · omega
      · exact Or.inl ⟨by omega, a1, Or.inl ⟨a4, by omega⟩, ho⟩
    · rcases hrt with hr | hr
      · exact Or.inl ⟨by omega, a1, Or.inl ⟨a4, by omega⟩, ho⟩
      · refine Or.inr ⟨by omega, b4, by omega, fun p2 bt2 hd2 rg2 of2 h2 => ?_⟩
        rcases h2 with ⟨g1, g2, g⟩ | ⟨g1, g2, g3, g4, g5, g⟩ | ⟨g1, g2, g3, g4, -⟩
        · omega
        · rcases g with g | g | g | g <;> omega
        · omega
    · refine Or.inr ⟨b5, b4, by omega, fun p2 bt2 hd2 rg2 of2 h2 => ?_⟩
      rcases h2 with ⟨g1, g2, g⟩ | ⟨g1, g2, g3, g4, g5, g⟩ | ⟨g1, g2, g3, g4, -⟩
      · omega
      · rcases g with g | g | g | g <;> omega
      · omega
    · exact Or.inl ⟨b5, a1, Or.inl ⟨a4, by omega⟩, ho⟩
  · obtain ⟨m1, m2, m3⟩ := n3 (by omega)
    obtain ⟨m4, m5, m6, m7⟩ := n4 a1
    have ho : 0 ≤ of ∧ of ≤ 60 := by omega
    rcases h with ⟨b1, b2, b3, b4, b5⟩ | ⟨b1, b2, b3, b4, b5⟩ | ⟨b1, b2, b3, b4, b5⟩ | ⟨b1, b2, b3, b4, b5⟩
    · rcases hrt with hr | hr
      · refine Or.inr ⟨by omega, b4, by omega, fun p2 bt2 hd2 rg2 of2 h2 => ?_⟩
        rcases h2 with ⟨g1, g2, g⟩ | ⟨g1, g2, g3, g4, g5, g⟩ | ⟨g1, g2, g3, g4, g5, g6, g⟩
        · omega
        · rcases g with g | g | g | g <;> omega
        · rcases g with g | g | g | g <;> omega
      · exact Or.inl ⟨by omega, by omega, Or.inr ⟨a5, a1, by omega⟩, ho⟩
    · rcases hrt with hr | hr
      · exact Or.inl ⟨by omega, by omega, Or.inr ⟨a5, a1, by omega⟩, ho⟩
      · refine Or.inr ⟨by omega, b4, by omega, fun p2 bt2 hd2 rg2 of2 h2 => ?_⟩
        rcases h2 with ⟨g1, g2, g⟩ | ⟨g1, g2, g3, g4, g5, g⟩ | ⟨g1, g2, g3, g4, g5, g6, g⟩
        · omega
        · rcases g with g | g | g | g <;> omega
        · rcases g with g | g | g | g <;> omega
    · refine Or.inr ⟨b5, b4, by omega, fun p2 bt2 hd2 rg2 of2 h2 => ?_⟩
      rcases h2 with ⟨g1, g2, g⟩ | ⟨g1, g2, g3, g4, g5, g⟩ | ⟨g1, g2, g3, g4, g5, g6, g⟩
      · omega
      · rcases g with g | g | g | g <;> omega
      · rcases g with g | g | g | g <;> omega
    · exact Or.inl ⟨b5, by omega, Or.inr ⟨a5, a1, by omega⟩, ho⟩
abbrev okS (M : mem) (s : Nat) : Prop := okN7 (M s 5) (M (s + 1) 0) (M (s + 2) 0) (M (s + 3) 0) (M (s + 1) 1) (M (s + 2) 1) (M (s + 3) 1)
abbrev CYf (M : mem) (s : Nat) (rt p p' bt hd rg of : Int) : Prop := CYg (M s 5) rt p p' bt hd rg of (M (s + 1) 0) (M (s + 1) 0 + M (s + 2) 0) (M (s + 1) 0) (M (s + 1) 0 + M (s + 3) 0) (M (s + 1) 1) (M (s + 1) 1 + M (s + 2) 1) (M (s + 1) 1 + M (s + 3) 0 - M (s + 2) 0) (M (s + 1) 1 + M (s + 3) 0 - M (s + 2) 0 + M (s + 3) 1)
abbrev CYr (M : mem) (s : Nat) (rt p p' bt hd rg of : Int) : Prop := CYg (M s 5) rt p p' bt hd rg of (M (s + 1) 0) (M (s + 1) 0 + M (s + 3) 0) (M (s + 1) 0) (M (s + 1) 0 + M (s + 2) 0) (M (s + 1) 1 + M (s + 3) 0 - M (s + 2) 0) (M (s + 1) 1 + M (s + 3) 0 - M (s + 2) 0 + M (s + 3) 1) (M (s + 1) 1) (M (s + 1) 1 + M (s + 2) 1)
theorem psM_0 (M : mem) (s : Nat) : psM M s 0 = M (s + 1) 0 := by
  unfold psM
  rw [if_pos rfl]
theorem psM_1 {M : mem} {s : Nat} (h1 : -1000 ≤ M (s + 1) 1 ∧ M (s + 1) 1 ≤ 1000) (h2 : -1000 ≤ M (s + 3) 0 ∧ M (s + 3) 0 ≤ 1000) (h3 : -1000 ≤ M (s + 2) 0 ∧ M (s + 2) 0 ≤ 1000) : psM M s 1 = M (s + 1) 1 + M (s + 3) 0 - M (s + 2) 0 := by
  unfold psM
  rw [if_neg (by decide), wr_eq (x := M (s + 1) 1 + M (s + 3) 0) (by omega) (by omega), wr_eq (by omega) (by omega)]

set_option maxRecDepth 100000 in
set_option maxHeartbeats 4000000 in
theorem x_leaveRange {X : scr} {M : mem}  : At X 0 19 0 [vr 29] [] M (qV (fun M' => fr (fun q => q = 29) M M' ∧ M' 29 0 = M 29 0 ∧ M' 29 1 = M 29 1 ∧ M' 29 2 = M 29 2 ∧ M' 29 5 = 0 ∧ M' 29 6 = 0)) := by
  refine at_aload dx_19_0 rfl ?_
  refine at_const (x := -1) dx_19_1 rfl ?_
  refine at_putI 3 dx_19_2 lc_29 rfl rfl (by decide) ?_
  refine at_aload dx_19_3 rfl ?_
  refine at_const (x := 0) dx_19_4 rfl ?_
  refine at_putI 4 dx_19_5 lc_29 rfl rfl (by decide) ?_
  refine at_aload dx_19_6 rfl ?_
  refine at_const (x := 0) dx_19_7 rfl ?_
  refine at_putZ 5 dx_19_8 lc_29 rfl rfl (Or.inl rfl) ?_
  refine at_aload dx_19_9 rfl ?_
  refine at_const (x := 0) dx_19_10 rfl ?_
  refine at_putZ 6 dx_19_11 lc_29 rfl rfl (Or.inl rfl) ?_
  refine at_vretV dx_19_12 ?_
  refine ⟨by (repeat (first | exact fr_rf | refine fr_ums ?_ (by (try dsimp only [blk]); first | done | omega))), ?_, ?_, ?_, ?_, ?_⟩ <;> simp (disch := omega) only [um_eq, um_j]

set_option maxRecDepth 100000 in
set_option maxHeartbeats 4000000 in
theorem x_begin {X : scr} {M : mem} {p z : Int} (hp : inR p) (hz : z = 0 ∨ z = 1) (rz : inR z) : At X 0 18 0 [vr 29, vi p, vi z] [] M (qV (fun M' => fr (fun q => q = 29) M M' ∧ M' 29 0 = p ∧ M' 29 1 = z ∧ M' 29 2 = 0)) := by
  refine at_aload dx_18_0 rfl ?_
  refine at_iload dx_18_1 rfl ?_
  refine at_putI 0 dx_18_2 lc_29 rfl rfl hp ?_
  refine at_aload dx_18_3 rfl ?_
  refine at_iload dx_18_4 rfl ?_
  refine at_putZ 1 dx_18_5 lc_29 rfl rfl hz ?_
  refine at_aload dx_18_6 rfl ?_
  refine at_const (x := 0) dx_18_7 rfl ?_
  refine at_putZ 2 dx_18_8 lc_29 rfl rfl (Or.inl rfl) ?_
  refine at_aload dx_18_9 rfl ?_
  refine at_callVV dx_18_10 rfl lc_29 rfl (x_leaveRange) ?_
  rintro M1 ⟨h1, h2, h3, h4, -, -⟩
  refine at_vretV dx_18_11 ?_
  refine ⟨fr_tr ?_ h1, ?_, ?_, ?_⟩
  · (repeat (first | exact fr_rf | refine fr_ums ?_ (by (try dsimp only [blk]); first | done | omega)))
  · rw [h2]; simp (disch := omega) only [um_eq, um_j]
  · rw [h3]; simp (disch := omega) only [um_eq, um_j]
  · rw [h4]; simp (disch := omega) only [um_eq, um_j]

set_option maxRecDepth 100000 in
set_option maxHeartbeats 4000000 in
theorem x_enterRange {X : scr} {M : mem} {g a b c d : Int} (hg : inR g) (ha : inR a) (hb : inR b) (hc : inR c) (hd : inR d) (hpa : inR (M 29 0 - a)) (hrt : M 29 1 = 0 ∨ M 29 1 = 1) : At X 0 20 0 [vr 29, vi g, vi a, vi b, vi c, vi d] [] M (qV (fun M' => fr (fun q => q = 29) M M' ∧ M' 29 1 = M 29 1 ∧ M' 29 2 = M 29 2 ∧ M' 29 3 = g ∧ M' 29 4 = M 29 0 - a ∧ ENT (M 29 1) (M 29 0) a b c d (M' 29 0) (M' 29 5) (M' 29 6))) := by
  refine at_aload dx_20_0 rfl ?_
  refine at_getI 0 dx_20_1 lc_29 rfl rfl (fun r1 => ?_)
  refine at_iload dx_20_2 rfl ?_
  refine at_cneR dx_20_3 r1 ha (fun c3 => ?_) (fun c3 => ?_)
  · skip
    refine at_const (x := 0) dx_20_6 rfl ?_
    refine at_istore dx_20_7 ?_
    refine at_aload dx_20_8 rfl ?_
    refine at_getI 0 dx_20_9 lc_29 rfl rfl (fun r9 => ?_)
    refine at_iload dx_20_10 rfl ?_
    refine at_cneR dx_20_11 r9 hb (fun c11 => ?_) (fun c11 => ?_)
    · skip
      refine at_const (x := 0) dx_20_14 rfl ?_
      refine at_istore dx_20_15 ?_
      refine at_aload dx_20_16 rfl ?_
      refine at_iload dx_20_17 rfl ?_
      refine at_putI 3 dx_20_18 lc_29 rfl rfl hg ?_
      refine at_aload dx_20_19 rfl ?_
      refine at_aload dx_20_20 rfl ?_
      refine at_getI 0 dx_20_21 lc_29 rfl rfl (fun r21 => ?_)
      refine at_iload dx_20_22 rfl ?_
      refine at_subR dx_20_23 (by (simp (disch := omega) only [um_eq, um_k, um_j]; exact hpa)) (fun r23 => ?_)
      refine at_putI 4 dx_20_24 lc_29 rfl rfl r23 ?_
      refine at_aload dx_20_25 rfl ?_
      refine at_iload dx_20_26 rfl ?_
      refine at_zneR dx_20_27 (by decide) (fun c => absurd c (by decide)) (fun _ => ?_)
      refine at_iload dx_20_28 rfl ?_
      refine at_zneR dx_20_29 (by decide) (fun c => absurd c (by decide)) (fun _ => ?_)
      refine at_const (x := 1) dx_20_30 rfl ?_
      refine at_goto dx_20_31 ?_
      refine at_putZ 5 dx_20_33 lc_29 rfl rfl (Or.inr rfl) ?_
      refine at_aload dx_20_34 rfl ?_
      refine at_aload dx_20_35 rfl ?_
      refine at_getI 1 dx_20_36 lc_29 rfl rfl (fun r36 => ?_)
      refine at_zeqR dx_20_37 r36 (fun c37 => ?_) (fun c37 => ?_)
      · skip
        refine at_iload dx_20_44 rfl ?_
        refine at_zneR dx_20_45 (by decide) (fun c => absurd c (by decide)) (fun _ => ?_)
        refine at_const (x := 1) dx_20_46 rfl ?_
        refine at_goto dx_20_47 ?_
        refine at_putZ 6 dx_20_49 lc_29 rfl rfl (Or.inr rfl) ?_
        refine at_iload dx_20_50 rfl ?_
        refine at_zeqR dx_20_51 (by decide) (fun _ => ?_) (fun c => absurd c (by decide))
        refine at_iload dx_20_58 rfl ?_
        refine at_zeqR dx_20_59 (by decide) (fun _ => ?_) (fun c => absurd c (by decide))
        refine at_aload dx_20_66 rfl ?_
        refine at_aload dx_20_67 rfl ?_
        refine at_getI 1 dx_20_68 lc_29 rfl rfl (fun r68 => ?_)
        refine at_zeqR dx_20_69 r68 (fun c69 => ?_) (fun c69 => ?_)
        · skip
          refine at_iload dx_20_72 rfl ?_
          refine at_putI 0 dx_20_73 lc_29 rfl rfl hc ?_
          refine at_vretV dx_20_74 ?_
          (try simp (disch := omega) only [um_eq, um_k, um_j] at c37)
          (try simp (disch := omega) only [um_eq, um_k, um_j] at c69)
          refine ⟨by (repeat (first | exact fr_rf | refine fr_ums ?_ (by (try dsimp only [blk]); first | done | omega))), ?_, ?_, ?_, ?_, ?_⟩
          · simp (disch := omega) only [um_eq, um_k, um_j]
          · simp (disch := omega) only [um_eq, um_k, um_j]
          · simp (disch := omega) only [um_eq, um_k, um_j]
          · simp (disch := omega) only [um_eq, um_k, um_j]
          · simp (disch := omega) only [um_eq, um_k, um_j]
            unfold ENT
            first | (exfalso; omega) | exact Or.inl ⟨by omega, by omega, by omega, by omega, by omega⟩ | exact Or.inr (Or.inl ⟨by omega, by omega, by omega, by omega, by omega⟩) | exact Or.inr (Or.inr (Or.inl ⟨by omega, by omega, by omega, by omega, by omega⟩)) | exact Or.inr (Or.inr (Or.inr ⟨by omega, by omega, by omega, by omega, by omega⟩))
        · skip
          refine at_iload dx_20_70 rfl ?_
          refine at_goto dx_20_71 ?_
          refine at_putI 0 dx_20_73 lc_29 rfl rfl hd ?_
          refine at_vretV dx_20_74 ?_
          (try simp (disch := omega) only [um_eq, um_k, um_j] at c37)
          (try simp (disch := omega) only [um_eq, um_k, um_j] at c69)
          refine ⟨by (repeat (first | exact fr_rf | refine fr_ums ?_ (by (try dsimp only [blk]); first | done | omega))), ?_, ?_, ?_, ?_, ?_⟩
          · simp (disch := omega) only [um_eq, um_k, um_j]
          · simp (disch := omega) only [um_eq, um_k, um_j]
          · simp (disch := omega) only [um_eq, um_k, um_j]
          · simp (disch := omega) only [um_eq, um_k, um_j]
          · simp (disch := omega) only [um_eq, um_k, um_j]
            unfold ENT
            first | (exfalso; omega) | exact Or.inl ⟨by omega, by omega, by omega, by omega, by omega⟩ | exact Or.inr (Or.inl ⟨by omega, by omega, by omega, by omega, by omega⟩) | exact Or.inr (Or.inr (Or.inl ⟨by omega, by omega, by omega, by omega, by omega⟩)) | exact Or.inr (Or.inr (Or.inr ⟨by omega, by omega, by omega, by omega, by omega⟩))
      · skip
        refine at_iload dx_20_38 rfl ?_
        refine at_zneR dx_20_39 (by decide) (fun c => absurd c (by decide)) (fun _ => ?_)
        refine at_const (x := 1) dx_20_40 rfl ?_
        refine at_goto dx_20_41 ?_
        refine at_putZ 6 dx_20_49 lc_29 rfl rfl (Or.inr rfl) ?_
        refine at_iload dx_20_50 rfl ?_
        refine at_zeqR dx_20_51 (by decide) (fun _ => ?_) (fun c => absurd c (by decide))
        refine at_iload dx_20_58 rfl ?_
        refine at_zeqR dx_20_59 (by decide) (fun _ => ?_) (fun c => absurd c (by decide))
        refine at_aload dx_20_66 rfl ?_
        refine at_aload dx_20_67 rfl ?_
        refine at_getI 1 dx_20_68 lc_29 rfl rfl (fun r68 => ?_)
        refine at_zeqR dx_20_69 r68 (fun c69 => ?_) (fun c69 => ?_)
        · skip
          refine at_iload dx_20_72 rfl ?_
          refine at_putI 0 dx_20_73 lc_29 rfl rfl hc ?_
          refine at_vretV dx_20_74 ?_
          (try simp (disch := omega) only [um_eq, um_k, um_j] at c37)
          (try simp (disch := omega) only [um_eq, um_k, um_j] at c69)
          refine ⟨by (repeat (first | exact fr_rf | refine fr_ums ?_ (by (try dsimp only [blk]); first | done | omega))), ?_, ?_, ?_, ?_, ?_⟩
          · simp (disch := omega) only [um_eq, um_k, um_j]
          · simp (disch := omega) only [um_eq, um_k, um_j]
          · simp (disch := omega) only [um_eq, um_k, um_j]
          · simp (disch := omega) only [um_eq, um_k, um_j]
          · simp (disch := omega) only [um_eq, um_k, um_j]
            unfold ENT
            first | (exfalso; omega) | exact Or.inl ⟨by omega, by omega, by omega, by omega, by omega⟩ | exact Or.inr (Or.inl ⟨by omega, by omega, by omega, by omega, by omega⟩) | exact Or.inr (Or.inr (Or.inl ⟨by omega, by omega, by omega, by omega, by omega⟩)) | exact Or.inr (Or.inr (Or.inr ⟨by omega, by omega, by omega, by omega, by omega⟩))
        · skip
          refine at_iload dx_20_70 rfl ?_
          refine at_goto dx_20_71 ?_
          refine at_putI 0 dx_20_73 lc_29 rfl rfl hd ?_
          refine at_vretV dx_20_74 ?_
          (try simp (disch := omega) only [um_eq, um_k, um_j] at c37)
          (try simp (disch := omega) only [um_eq, um_k, um_j] at c69)
          refine ⟨by (repeat (first | exact fr_rf | refine fr_ums ?_ (by (try dsimp only [blk]); first | done | omega))), ?_, ?_, ?_, ?_, ?_⟩
          · simp (disch := omega) only [um_eq, um_k, um_j]
          · simp (disch := omega) only [um_eq, um_k, um_j]
          · simp (disch := omega) only [um_eq, um_k, um_j]
          · simp (disch := omega) only [um_eq, um_k, um_j]
          · simp (disch := omega) only [um_eq, um_k, um_j]
            unfold ENT
            first | (exfalso; omega) | exact Or.inl ⟨by omega, by omega, by omega, by omega, by omega⟩ | exact Or.inr (Or.inl ⟨by omega, by omega, by omega, by omega, by omega⟩) | exact Or.inr (Or.inr (Or.inl ⟨by omega, by omega, by omega, by omega, by omega⟩)) | exact Or.inr (Or.inr (Or.inr ⟨by omega, by omega, by omega, by omega, by omega⟩))
    · skip
      refine at_const (x := 1) dx_20_12 rfl ?_
      refine at_goto dx_20_13 ?_
      refine at_istore dx_20_15 ?_
      refine at_aload dx_20_16 rfl ?_
      refine at_iload dx_20_17 rfl ?_
      refine at_putI 3 dx_20_18 lc_29 rfl rfl hg ?_
      refine at_aload dx_20_19 rfl ?_
      refine at_aload dx_20_20 rfl ?_
      refine at_getI 0 dx_20_21 lc_29 rfl rfl (fun r21 => ?_)
      refine at_iload dx_20_22 rfl ?_
      refine at_subR dx_20_23 (by (simp (disch := omega) only [um_eq, um_k, um_j]; exact hpa)) (fun r23 => ?_)
      refine at_putI 4 dx_20_24 lc_29 rfl rfl r23 ?_
      refine at_aload dx_20_25 rfl ?_
      refine at_iload dx_20_26 rfl ?_
      refine at_zneR dx_20_27 (by decide) (fun c => absurd c (by decide)) (fun _ => ?_)
      refine at_iload dx_20_28 rfl ?_
      refine at_zneR dx_20_29 (by decide) (fun _ => ?_) (fun c => absurd c (by decide))
      refine at_const (x := 0) dx_20_32 rfl ?_
      refine at_putZ 5 dx_20_33 lc_29 rfl rfl (Or.inl rfl) ?_
      refine at_aload dx_20_34 rfl ?_
      refine at_aload dx_20_35 rfl ?_
      refine at_getI 1 dx_20_36 lc_29 rfl rfl (fun r36 => ?_)
      refine at_zeqR dx_20_37 r36 (fun c37 => ?_) (fun c37 => ?_)
      · skip
        refine at_iload dx_20_44 rfl ?_
        refine at_zneR dx_20_45 (by decide) (fun c => absurd c (by decide)) (fun _ => ?_)
        refine at_const (x := 1) dx_20_46 rfl ?_
        refine at_goto dx_20_47 ?_
        refine at_putZ 6 dx_20_49 lc_29 rfl rfl (Or.inr rfl) ?_
        refine at_iload dx_20_50 rfl ?_
        refine at_zeqR dx_20_51 (by decide) (fun _ => ?_) (fun c => absurd c (by decide))
        refine at_iload dx_20_58 rfl ?_
        refine at_zeqR dx_20_59 (by decide) (fun c => absurd c (by decide)) (fun _ => ?_)
        refine at_iload dx_20_60 rfl ?_
        refine at_zneR dx_20_61 (by decide) (fun c => absurd c (by decide)) (fun _ => ?_)
        refine at_aload dx_20_62 rfl ?_
        refine at_iload dx_20_63 rfl ?_
        refine at_putI 0 dx_20_64 lc_29 rfl rfl hd ?_
        refine at_goto dx_20_65 ?_
        refine at_vretV dx_20_74 ?_
        (try simp (disch := omega) only [um_eq, um_k, um_j] at c37)
        (try simp (disch := omega) only [um_eq, um_k, um_j] at c69)
        refine ⟨by (repeat (first | exact fr_rf | refine fr_ums ?_ (by (try dsimp only [blk]); first | done | omega))), ?_, ?_, ?_, ?_, ?_⟩
        · simp (disch := omega) only [um_eq, um_k, um_j]
        · simp (disch := omega) only [um_eq, um_k, um_j]
        · simp (disch := omega) only [um_eq, um_k, um_j]
        · simp (disch := omega) only [um_eq, um_k, um_j]
        · simp (disch := omega) only [um_eq, um_k, um_j]
          unfold ENT
          first | (exfalso; omega) | exact Or.inl ⟨by omega, by omega, by omega, by omega, by omega⟩ | exact Or.inr (Or.inl ⟨by omega, by omega, by omega, by omega, by omega⟩) | exact Or.inr (Or.inr (Or.inl ⟨by omega, by omega, by omega, by omega, by omega⟩)) | exact Or.inr (Or.inr (Or.inr ⟨by omega, by omega, by omega, by omega, by omega⟩))
      · skip
        refine at_iload dx_20_38 rfl ?_
        refine at_zneR dx_20_39 (by decide) (fun _ => ?_) (fun c => absurd c (by decide))
        refine at_const (x := 0) dx_20_42 rfl ?_
        refine at_goto dx_20_43 ?_
        refine at_putZ 6 dx_20_49 lc_29 rfl rfl (Or.inl rfl) ?_
        refine at_iload dx_20_50 rfl ?_
        refine at_zeqR dx_20_51 (by decide) (fun _ => ?_) (fun c => absurd c (by decide))
        refine at_iload dx_20_58 rfl ?_
        refine at_zeqR dx_20_59 (by decide) (fun c => absurd c (by decide)) (fun _ => ?_)
        refine at_iload dx_20_60 rfl ?_
        refine at_zneR dx_20_61 (by decide) (fun c => absurd c (by decide)) (fun _ => ?_)
        refine at_aload dx_20_62 rfl ?_
        refine at_iload dx_20_63 rfl ?_
        refine at_putI 0 dx_20_64 lc_29 rfl rfl hd ?_
        refine at_goto dx_20_65 ?_
        refine at_vretV dx_20_74 ?_
        (try simp (disch := omega) only [um_eq, um_k, um_j] at c37)
        (try simp (disch := omega) only [um_eq, um_k, um_j] at c69)
        refine ⟨by (repeat (first | exact fr_rf | refine fr_ums ?_ (by (try dsimp only [blk]); first | done | omega))), ?_, ?_, ?_, ?_, ?_⟩
        · simp (disch := omega) only [um_eq, um_k, um_j]
        · simp (disch := omega) only [um_eq, um_k, um_j]
        · simp (disch := omega) only [um_eq, um_k, um_j]
        · simp (disch := omega) only [um_eq, um_k, um_j]
        · simp (disch := omega) only [um_eq, um_k, um_j]
          unfold ENT
          first | (exfalso; omega) | exact Or.inl ⟨by omega, by omega, by omega, by omega, by omega⟩ | exact Or.inr (Or.inl ⟨by omega, by omega, by omega, by omega, by omega⟩) | exact Or.inr (Or.inr (Or.inl ⟨by omega, by omega, by omega, by omega, by omega⟩)) | exact Or.inr (Or.inr (Or.inr ⟨by omega, by omega, by omega, by omega, by omega⟩))
  · skip
    refine at_const (x := 1) dx_20_4 rfl ?_
    refine at_goto dx_20_5 ?_
    refine at_istore dx_20_7 ?_
    refine at_aload dx_20_8 rfl ?_
    refine at_getI 0 dx_20_9 lc_29 rfl rfl (fun r9 => ?_)
    refine at_iload dx_20_10 rfl ?_
    refine at_cneR dx_20_11 r9 hb (fun c11 => ?_) (fun c11 => ?_)
    · skip
      refine at_const (x := 0) dx_20_14 rfl ?_
      refine at_istore dx_20_15 ?_
      refine at_aload dx_20_16 rfl ?_
      refine at_iload dx_20_17 rfl ?_
      refine at_putI 3 dx_20_18 lc_29 rfl rfl hg ?_
      refine at_aload dx_20_19 rfl ?_
      refine at_aload dx_20_20 rfl ?_
      refine at_getI 0 dx_20_21 lc_29 rfl rfl (fun r21 => ?_)
      refine at_iload dx_20_22 rfl ?_
      refine at_subR dx_20_23 (by (simp (disch := omega) only [um_eq, um_k, um_j]; exact hpa)) (fun r23 => ?_)
      refine at_putI 4 dx_20_24 lc_29 rfl rfl r23 ?_
      refine at_aload dx_20_25 rfl ?_
      refine at_iload dx_20_26 rfl ?_
      refine at_zneR dx_20_27 (by decide) (fun _ => ?_) (fun c => absurd c (by decide))
      refine at_const (x := 0) dx_20_32 rfl ?_
      refine at_putZ 5 dx_20_33 lc_29 rfl rfl (Or.inl rfl) ?_
      refine at_aload dx_20_34 rfl ?_
      refine at_aload dx_20_35 rfl ?_
      refine at_getI 1 dx_20_36 lc_29 rfl rfl (fun r36 => ?_)
      refine at_zeqR dx_20_37 r36 (fun c37 => ?_) (fun c37 => ?_)
      · skip
        refine at_iload dx_20_44 rfl ?_
        refine at_zneR dx_20_45 (by decide) (fun _ => ?_) (fun c => absurd c (by decide))
        refine at_const (x := 0) dx_20_48 rfl ?_
        refine at_putZ 6 dx_20_49 lc_29 rfl rfl (Or.inl rfl) ?_
        refine at_iload dx_20_50 rfl ?_
        refine at_zeqR dx_20_51 (by decide) (fun c => absurd c (by decide)) (fun _ => ?_)
        refine at_iload dx_20_52 rfl ?_
        refine at_zneR dx_20_53 (by decide) (fun c => absurd c (by decide)) (fun _ => ?_)
        refine at_aload dx_20_54 rfl ?_
        refine at_iload dx_20_55 rfl ?_
        refine at_putI 0 dx_20_56 lc_29 rfl rfl hc ?_
        refine at_goto dx_20_57 ?_
        refine at_vretV dx_20_74 ?_
        (try simp (disch := omega) only [um_eq, um_k, um_j] at c37)
        (try simp (disch := omega) only [um_eq, um_k, um_j] at c69)
        refine ⟨by (repeat (first | exact fr_rf | refine fr_ums ?_ (by (try dsimp only [blk]); first | done | omega))), ?_, ?_, ?_, ?_, ?_⟩
        · simp (disch := omega) only [um_eq, um_k, um_j]
        · simp (disch := omega) only [um_eq, um_k, um_j]
        · simp (disch := omega) only [um_eq, um_k, um_j]
        · simp (disch := omega) only [um_eq, um_k, um_j]
        · simp (disch := omega) only [um_eq, um_k, um_j]
          unfold ENT
          first | (exfalso; omega) | exact Or.inl ⟨by omega, by omega, by omega, by omega, by omega⟩ | exact Or.inr (Or.inl ⟨by omega, by omega, by omega, by omega, by omega⟩) | exact Or.inr (Or.inr (Or.inl ⟨by omega, by omega, by omega, by omega, by omega⟩)) | exact Or.inr (Or.inr (Or.inr ⟨by omega, by omega, by omega, by omega, by omega⟩))
      · skip
        refine at_iload dx_20_38 rfl ?_
        refine at_zneR dx_20_39 (by decide) (fun c => absurd c (by decide)) (fun _ => ?_)
        refine at_const (x := 1) dx_20_40 rfl ?_
        refine at_goto dx_20_41 ?_
        refine at_putZ 6 dx_20_49 lc_29 rfl rfl (Or.inr rfl) ?_
        refine at_iload dx_20_50 rfl ?_
        refine at_zeqR dx_20_51 (by decide) (fun c => absurd c (by decide)) (fun _ => ?_)
        refine at_iload dx_20_52 rfl ?_
        refine at_zneR dx_20_53 (by decide) (fun c => absurd c (by decide)) (fun _ => ?_)
        refine at_aload dx_20_54 rfl ?_
        refine at_iload dx_20_55 rfl ?_
        refine at_putI 0 dx_20_56 lc_29 rfl rfl hc ?_
        refine at_goto dx_20_57 ?_
        refine at_vretV dx_20_74 ?_
        (try simp (disch := omega) only [um_eq, um_k, um_j] at c37)
        (try simp (disch := omega) only [um_eq, um_k, um_j] at c69)
        refine ⟨by (repeat (first | exact fr_rf | refine fr_ums ?_ (by (try dsimp only [blk]); first | done | omega))), ?_, ?_, ?_, ?_, ?_⟩
        · simp (disch := omega) only [um_eq, um_k, um_j]
        · simp (disch := omega) only [um_eq, um_k, um_j]
        · simp (disch := omega) only [um_eq, um_k, um_j]
        · simp (disch := omega) only [um_eq, um_k, um_j]
        · simp (disch := omega) only [um_eq, um_k, um_j]
          unfold ENT
          first | (exfalso; omega) | exact Or.inl ⟨by omega, by omega, by omega, by omega, by omega⟩ | exact Or.inr (Or.inl ⟨by omega, by omega, by omega, by omega, by omega⟩) | exact Or.inr (Or.inr (Or.inl ⟨by omega, by omega, by omega, by omega, by omega⟩)) | exact Or.inr (Or.inr (Or.inr ⟨by omega, by omega, by omega, by omega, by omega⟩))
    · skip
      refine at_const (x := 1) dx_20_12 rfl ?_
      refine at_goto dx_20_13 ?_
      refine at_istore dx_20_15 ?_
      refine at_aload dx_20_16 rfl ?_
      refine at_iload dx_20_17 rfl ?_
      refine at_putI 3 dx_20_18 lc_29 rfl rfl hg ?_
      refine at_aload dx_20_19 rfl ?_
      refine at_aload dx_20_20 rfl ?_
      refine at_getI 0 dx_20_21 lc_29 rfl rfl (fun r21 => ?_)
      refine at_iload dx_20_22 rfl ?_
      refine at_subR dx_20_23 (by (simp (disch := omega) only [um_eq, um_k, um_j]; exact hpa)) (fun r23 => ?_)
      refine at_putI 4 dx_20_24 lc_29 rfl rfl r23 ?_
      refine at_aload dx_20_25 rfl ?_
      refine at_iload dx_20_26 rfl ?_
      refine at_zneR dx_20_27 (by decide) (fun _ => ?_) (fun c => absurd c (by decide))
      refine at_const (x := 0) dx_20_32 rfl ?_
      refine at_putZ 5 dx_20_33 lc_29 rfl rfl (Or.inl rfl) ?_
      refine at_aload dx_20_34 rfl ?_
      refine at_aload dx_20_35 rfl ?_
      refine at_getI 1 dx_20_36 lc_29 rfl rfl (fun r36 => ?_)
      refine at_zeqR dx_20_37 r36 (fun c37 => ?_) (fun c37 => ?_)
      · skip
        refine at_iload dx_20_44 rfl ?_
        refine at_zneR dx_20_45 (by decide) (fun _ => ?_) (fun c => absurd c (by decide))
        refine at_const (x := 0) dx_20_48 rfl ?_
        refine at_putZ 6 dx_20_49 lc_29 rfl rfl (Or.inl rfl) ?_
        refine at_iload dx_20_50 rfl ?_
        refine at_zeqR dx_20_51 (by decide) (fun c => absurd c (by decide)) (fun _ => ?_)
        refine at_iload dx_20_52 rfl ?_
        refine at_zneR dx_20_53 (by decide) (fun _ => ?_) (fun c => absurd c (by decide))
        refine at_iload dx_20_58 rfl ?_
        refine at_zeqR dx_20_59 (by decide) (fun c => absurd c (by decide)) (fun _ => ?_)
        refine at_iload dx_20_60 rfl ?_
        refine at_zneR dx_20_61 (by decide) (fun _ => ?_) (fun c => absurd c (by decide))
        refine at_aload dx_20_66 rfl ?_
        refine at_aload dx_20_67 rfl ?_
        refine at_getI 1 dx_20_68 lc_29 rfl rfl (fun r68 => ?_)
        refine at_zeqR dx_20_69 r68 (fun c69 => ?_) (fun c69 => ?_)
        · skip
          refine at_iload dx_20_72 rfl ?_
          refine at_putI 0 dx_20_73 lc_29 rfl rfl hc ?_
          refine at_vretV dx_20_74 ?_
          (try simp (disch := omega) only [um_eq, um_k, um_j] at c37)
          (try simp (disch := omega) only [um_eq, um_k, um_j] at c69)
          refine ⟨by (repeat (first | exact fr_rf | refine fr_ums ?_ (by (try dsimp only [blk]); first | done | omega))), ?_, ?_, ?_, ?_, ?_⟩
          · simp (disch := omega) only [um_eq, um_k, um_j]
          · simp (disch := omega) only [um_eq, um_k, um_j]
          · simp (disch := omega) only [um_eq, um_k, um_j]
          · simp (disch := omega) only [um_eq, um_k, um_j]
          · simp (disch := omega) only [um_eq, um_k, um_j]
            unfold ENT
            first | (exfalso; omega) | exact Or.inl ⟨by omega, by omega, by omega, by omega, by omega⟩ | exact Or.inr (Or.inl ⟨by omega, by omega, by omega, by omega, by omega⟩) | exact Or.inr (Or.inr (Or.inl ⟨by omega, by omega, by omega, by omega, by omega⟩)) | exact Or.inr (Or.inr (Or.inr ⟨by omega, by omega, by omega, by omega, by omega⟩))
        · skip
          refine at_iload dx_20_70 rfl ?_
          refine at_goto dx_20_71 ?_
          refine at_putI 0 dx_20_73 lc_29 rfl rfl hd ?_
          refine at_vretV dx_20_74 ?_
          (try simp (disch := omega) only [um_eq, um_k, um_j] at c37)
          (try simp (disch := omega) only [um_eq, um_k, um_j] at c69)
          refine ⟨by (repeat (first | exact fr_rf | refine fr_ums ?_ (by (try dsimp only [blk]); first | done | omega))), ?_, ?_, ?_, ?_, ?_⟩
          · simp (disch := omega) only [um_eq, um_k, um_j]
          · simp (disch := omega) only [um_eq, um_k, um_j]
          · simp (disch := omega) only [um_eq, um_k, um_j]
          · simp (disch := omega) only [um_eq, um_k, um_j]
          · simp (disch := omega) only [um_eq, um_k, um_j]
            unfold ENT
            first | (exfalso; omega) | exact Or.inl ⟨by omega, by omega, by omega, by omega, by omega⟩ | exact Or.inr (Or.inl ⟨by omega, by omega, by omega, by omega, by omega⟩) | exact Or.inr (Or.inr (Or.inl ⟨by omega, by omega, by omega, by omega, by omega⟩)) | exact Or.inr (Or.inr (Or.inr ⟨by omega, by omega, by omega, by omega, by omega⟩))
      · skip
        refine at_iload dx_20_38 rfl ?_
        refine at_zneR dx_20_39 (by decide) (fun _ => ?_) (fun c => absurd c (by decide))
        refine at_const (x := 0) dx_20_42 rfl ?_
        refine at_goto dx_20_43 ?_
        refine at_putZ 6 dx_20_49 lc_29 rfl rfl (Or.inl rfl) ?_
        refine at_iload dx_20_50 rfl ?_
        refine at_zeqR dx_20_51 (by decide) (fun c => absurd c (by decide)) (fun _ => ?_)
        refine at_iload dx_20_52 rfl ?_
        refine at_zneR dx_20_53 (by decide) (fun _ => ?_) (fun c => absurd c (by decide))
        refine at_iload dx_20_58 rfl ?_
        refine at_zeqR dx_20_59 (by decide) (fun c => absurd c (by decide)) (fun _ => ?_)
        refine at_iload dx_20_60 rfl ?_
        refine at_zneR dx_20_61 (by decide) (fun _ => ?_) (fun c => absurd c (by decide))
        refine at_aload dx_20_66 rfl ?_
        refine at_aload dx_20_67 rfl ?_
        refine at_getI 1 dx_20_68 lc_29 rfl rfl (fun r68 => ?_)
        refine at_zeqR dx_20_69 r68 (fun c69 => ?_) (fun c69 => ?_)
        · skip
          refine at_iload dx_20_72 rfl ?_
          refine at_putI 0 dx_20_73 lc_29 rfl rfl hc ?_
          refine at_vretV dx_20_74 ?_
          (try simp (disch := omega) only [um_eq, um_k, um_j] at c37)
          (try simp (disch := omega) only [um_eq, um_k, um_j] at c69)
          refine ⟨by (repeat (first | exact fr_rf | refine fr_ums ?_ (by (try dsimp only [blk]); first | done | omega))), ?_, ?_, ?_, ?_, ?_⟩
          · simp (disch := omega) only [um_eq, um_k, um_j]
          · simp (disch := omega) only [um_eq, um_k, um_j]
          · simp (disch := omega) only [um_eq, um_k, um_j]
          · simp (disch := omega) only [um_eq, um_k, um_j]
          · simp (disch := omega) only [um_eq, um_k, um_j]
            unfold ENT
            first | (exfalso; omega) | exact Or.inl ⟨by omega, by omega, by omega, by omega, by omega⟩ | exact Or.inr (Or.inl ⟨by omega, by omega, by omega, by omega, by omega⟩) | exact Or.inr (Or.inr (Or.inl ⟨by omega, by omega, by omega, by omega, by omega⟩)) | exact Or.inr (Or.inr (Or.inr ⟨by omega, by omega, by omega, by omega, by omega⟩))
        · skip
          refine at_iload dx_20_70 rfl ?_
          refine at_goto dx_20_71 ?_
          refine at_putI 0 dx_20_73 lc_29 rfl rfl hd ?_
          refine at_vretV dx_20_74 ?_
          (try simp (disch := omega) only [um_eq, um_k, um_j] at c37)
          (try simp (disch := omega) only [um_eq, um_k, um_j] at c69)
          refine ⟨by (repeat (first | exact fr_rf | refine fr_ums ?_ (by (try dsimp only [blk]); first | done | omega))), ?_, ?_, ?_, ?_, ?_⟩
          · simp (disch := omega) only [um_eq, um_k, um_j]
          · simp (disch := omega) only [um_eq, um_k, um_j]
          · simp (disch := omega) only [um_eq, um_k, um_j]
          · simp (disch := omega) only [um_eq, um_k, um_j]
          · simp (disch := omega) only [um_eq, um_k, um_j]
            unfold ENT
            first | (exfalso; omega) | exact Or.inl ⟨by omega, by omega, by omega, by omega, by omega⟩ | exact Or.inr (Or.inl ⟨by omega, by omega, by omega, by omega, by omega⟩) | exact Or.inr (Or.inr (Or.inl ⟨by omega, by omega, by omega, by omega, by omega⟩)) | exact Or.inr (Or.inr (Or.inr ⟨by omega, by omega, by omega, by omega, by omega⟩))

set_option maxRecDepth 100000 in
set_option maxHeartbeats 4000000 in
theorem x_carry0 {X : scr} {M : mem} {s : Nat} (hs : ly_c s = 4) (hV : okS M s) (hp : -5000 ≤ M 29 0 ∧ M 29 0 ≤ 5000) (hrt : M 29 1 = 0 ∨ M 29 1 = 1) : At X 0 29 0 [vr s, vr 29, vi 0] [] M (qV (fun M' => fr (fun q => q = 29) M M' ∧ M' 29 1 = M 29 1 ∧ M' 29 2 = M 29 2 ∧ CYf M s (M 29 1) (M 29 0) (M' 29 0) (M' 29 5) (M' 29 6) (M' 29 3) (M' 29 4))) := by
  have h8 := st_al hs
  obtain ⟨⟨v1, v2⟩, v3, v4⟩ := hV
  refine at_const (x := 0) dx_29_0 rfl ?_
  refine at_istore dx_29_1 ?_
  refine at_aload dx_29_2 rfl ?_
  refine at_callVV dx_29_3 rfl lc_29 rfl (x_leaveRange) ?_
  rintro M1 ⟨f1, l0, l1, l2, l5, l6⟩
  have a0 : M1 s 5 = M s 5 := f1 _ _ (by omega)
  have a1 : M1 (s + 1) 0 = M (s + 1) 0 := f1 _ _ (by omega)
  have a2 : M1 (s + 2) 0 = M (s + 2) 0 := f1 _ _ (by omega)
  have a3 : M1 (s + 3) 0 = M (s + 3) 0 := f1 _ _ (by omega)
  have a4 : M1 (s + 1) 1 = M (s + 1) 1 := f1 _ _ (by omega)
  have a5 : M1 (s + 2) 1 = M (s + 2) 1 := f1 _ _ (by omega)
  have a6 : M1 (s + 3) 1 = M (s + 3) 1 := f1 _ _ (by omega)
  refine at_const (x := 0) dx_29_4 rfl ?_
  refine at_istore dx_29_5 ?_
  refine at_iload dx_29_6 rfl ?_
  refine at_aload dx_29_7 rfl ?_
  refine at_getI 5 dx_29_8 hs rfl rfl (fun r8 => ?_)
  refine at_cgeR dx_29_9 (by decide) r8 (fun c9 => ?_) (fun c9 => ?_)
  · skip
    refine at_aload dx_29_89 rfl ?_
    refine at_dup dx_29_90 rfl ?_
    refine at_getI 0 dx_29_91 lc_29 rfl rfl (fun r91 => ?_)
    refine at_iload dx_29_92 rfl ?_
    refine at_addR dx_29_93 (by constructor <;> omega) (fun r93 => ?_)
    refine at_putI 0 dx_29_94 lc_29 rfl rfl r93 ?_
    refine at_vretV dx_29_95 ?_
    refine ⟨fr_tr f1 ?_, ?_, ?_, Or.inl ⟨?_, ?_, ?_⟩⟩
    · (repeat (first | exact fr_rf | refine fr_ums ?_ (by (try dsimp only [blk]); first | done | omega)))
    · simp (disch := omega) only [um_eq, um_j]; exact l1
    · simp (disch := omega) only [um_eq, um_j]; exact l2
    · simp (disch := omega) only [um_eq, um_j]; exact l5
    · simp (disch := omega) only [um_eq, um_j]; exact l6
    · simp (disch := omega) only [um_eq, um_j]
      first | exact Or.inl ⟨by omega, by omega⟩ | exact Or.inr (Or.inl ⟨by omega, by omega, by omega⟩) | exact Or.inr (Or.inr (Or.inl ⟨by omega, by omega, by omega⟩)) | exact Or.inr (Or.inr (Or.inr (Or.inl ⟨by omega, by omega, by omega, by omega⟩))) | exact Or.inr (Or.inr (Or.inr (Or.inr ⟨by omega, by omega, by omega, by omega⟩)))
  · skip
    refine at_iload dx_29_10 rfl ?_
    refine at_const (x := 2) dx_29_11 rfl ?_
    refine at_cgeR dx_29_12 (by decide) (by decide) (fun c => absurd c (by decide)) (fun _ => ?_)
    have hq3 : 0 < M s 5 := by omega
    obtain ⟨⟨u1, u2⟩, ⟨u3, u4⟩, u5, u6⟩ := v3 hq3
    have v5 : M s 5 = 2 → ((M (s + 1) 0 + M (s + 2) 0 ≤ M (s + 1) 1 ∧ M (s + 1) 1 ≤ 60) ∧ (0 ≤ M (s + 2) 1 ∧ M (s + 2) 1 ≤ 60) ∧ (0 ≤ M (s + 3) 1 ∧ M (s + 3) 1 ≤ 60)) := fun e => by obtain ⟨w1, w2, w3, w4⟩ := v4 e; exact ⟨w1, w2, w3⟩
    refine at_aload dx_29_13 rfl ?_
    refine at_getR dx_29_14 hs rfl (st_t6 hs) ?_
    refine at_iload dx_29_15 rfl ?_
    refine at_aldI dx_29_16 (st_c1 hs) (st_n1 hs) (by decide) (by decide) (fun r16 => ?_)
    refine at_istore dx_29_17 ?_
    refine at_aload dx_29_18 rfl ?_
    refine at_iload dx_29_19 rfl ?_
    refine at_callVI dx_29_20 rfl hs rfl (c_putStart hs (by decide)) ?_
    rintro x20 M9 r20 ⟨e9, h20⟩; replace e9 := e9.symm; subst e9
    rw [psM_0] at h20
    refine at_istore dx_29_21 ?_
    refine at_iload dx_29_22 rfl ?_
    refine at_zeqR dx_29_23 (by decide) (fun _ => ?_) (fun c => absurd c (by decide))
    refine at_iload dx_29_26 rfl ?_
    refine at_istore dx_29_27 ?_
    refine at_iload dx_29_28 rfl ?_
    refine at_zeqR dx_29_29 (by decide) (fun _ => ?_) (fun c => absurd c (by decide))
    refine at_iload dx_29_37 rfl ?_
    refine at_aload dx_29_38 rfl ?_
    refine at_getR dx_29_39 hs rfl (st_t7 hs) ?_
    refine at_iload dx_29_40 rfl ?_
    refine at_aldI dx_29_41 (st_c2 hs) (st_n2 hs) (by decide) (by decide) (fun r41 => ?_)
    refine at_addR dx_29_42 (by constructor <;> omega) (fun r42 => ?_)
    refine at_istore dx_29_43 ?_
    refine at_iload dx_29_44 rfl ?_
    refine at_zeqR dx_29_45 (by decide) (fun _ => ?_) (fun c => absurd c (by decide))
    refine at_iload dx_29_48 rfl ?_
    refine at_istore dx_29_49 ?_
    refine at_iload dx_29_50 rfl ?_
    refine at_zeqR dx_29_51 (by decide) (fun _ => ?_) (fun c => absurd c (by decide))
    refine at_iload dx_29_59 rfl ?_
    refine at_aload dx_29_60 rfl ?_
    refine at_getR dx_29_61 hs rfl (st_t8 hs) ?_
    refine at_iload dx_29_62 rfl ?_
    refine at_aldI dx_29_63 (st_c3 hs) (st_n3 hs) (by decide) (by decide) (fun r63 => ?_)
    refine at_addR dx_29_64 (by constructor <;> omega) (fun r64 => ?_)
    refine at_istore dx_29_65 ?_
    refine at_aload dx_29_66 rfl ?_
    refine at_getI 0 dx_29_67 lc_29 rfl rfl (fun r67 => ?_)
    refine at_iload dx_29_68 rfl ?_
    refine at_cgeR dx_29_69 r67 r16 (fun c69 => ?_) (fun c69 => ?_)
    · skip
      refine at_aload dx_29_71 rfl ?_
      refine at_getI 0 dx_29_72 lc_29 rfl rfl (fun r72 => ?_)
      refine at_iload dx_29_73 rfl ?_
      refine at_cgtR dx_29_74 r72 r42 (fun c74 => ?_) (fun c74 => ?_)
      · skip
        refine at_iload dx_29_83 rfl ?_
        refine at_iload dx_29_84 rfl ?_
        refine at_subR dx_29_85 (by constructor <;> omega) (fun r85 => ?_)
        refine at_istore dx_29_86 ?_
        refine at_iincC (y := 1) (z := 1) dx_29_87 rfl rfl (by decide +kernel) ?_
        refine at_goto dx_29_88 ?_
        refine at_iload dx_29_6 rfl ?_
        refine at_aload dx_29_7 rfl ?_
        refine at_getI 5 dx_29_8 hs rfl rfl (fun r8 => ?_)
        refine at_cgeR dx_29_9 (by decide) r8 (fun c9 => ?_) (fun c9 => ?_)
        · skip
          refine at_aload dx_29_89 rfl ?_
          refine at_dup dx_29_90 rfl ?_
          refine at_getI 0 dx_29_91 lc_29 rfl rfl (fun r91 => ?_)
          refine at_iload dx_29_92 rfl ?_
          refine at_addR dx_29_93 (by constructor <;> omega) (fun r93 => ?_)
          refine at_putI 0 dx_29_94 lc_29 rfl rfl r93 ?_
          refine at_vretV dx_29_95 ?_
          refine ⟨fr_tr f1 ?_, ?_, ?_, Or.inl ⟨?_, ?_, ?_⟩⟩
          · (repeat (first | exact fr_rf | refine fr_ums ?_ (by (try dsimp only [blk]); first | done | omega)))
          · simp (disch := omega) only [um_eq, um_j]; exact l1
          · simp (disch := omega) only [um_eq, um_j]; exact l2
          · simp (disch := omega) only [um_eq, um_j]; exact l5
          · simp (disch := omega) only [um_eq, um_j]; exact l6
          · simp (disch := omega) only [um_eq, um_j]
            first | exact Or.inl ⟨by omega, by omega⟩ | exact Or.inr (Or.inl ⟨by omega, by omega, by omega⟩) | exact Or.inr (Or.inr (Or.inl ⟨by omega, by omega, by omega⟩)) | exact Or.inr (Or.inr (Or.inr (Or.inl ⟨by omega, by omega, by omega, by omega⟩))) | exact Or.inr (Or.inr (Or.inr (Or.inr ⟨by omega, by omega, by omega, by omega⟩)))
        · skip
          refine at_iload dx_29_10 rfl ?_
          refine at_const (x := 2) dx_29_11 rfl ?_
          refine at_cgeR dx_29_12 (by decide) (by decide) (fun c => absurd c (by decide)) (fun _ => ?_)
          have hq3 : 0 < M s 5 := by omega
          obtain ⟨⟨u1, u2⟩, ⟨u3, u4⟩, u5, u6⟩ := v3 hq3
          have v5 : M s 5 = 2 → ((M (s + 1) 0 + M (s + 2) 0 ≤ M (s + 1) 1 ∧ M (s + 1) 1 ≤ 60) ∧ (0 ≤ M (s + 2) 1 ∧ M (s + 2) 1 ≤ 60) ∧ (0 ≤ M (s + 3) 1 ∧ M (s + 3) 1 ≤ 60)) := fun e => by obtain ⟨w1, w2, w3, w4⟩ := v4 e; exact ⟨w1, w2, w3⟩
          refine at_aload dx_29_13 rfl ?_
          refine at_getR dx_29_14 hs rfl (st_t6 hs) ?_
          refine at_iload dx_29_15 rfl ?_
          refine at_aldI dx_29_16 (st_c1 hs) (st_n1 hs) (by decide) (by decide) (fun r16 => ?_)
          refine at_istore dx_29_17 ?_
          refine at_aload dx_29_18 rfl ?_
          refine at_iload dx_29_19 rfl ?_
          refine at_callVI dx_29_20 rfl hs rfl (c_putStart hs (by decide)) ?_
          rintro x20 M9 r20 ⟨e9, h20⟩; replace e9 := e9.symm; subst e9
          rw [psM_1 (by omega) (by omega) (by omega)] at h20
          refine at_istore dx_29_21 ?_
          refine at_iload dx_29_22 rfl ?_
          refine at_zeqR dx_29_23 (by decide) (fun _ => ?_) (fun c => absurd c (by decide))
          refine at_iload dx_29_26 rfl ?_
          refine at_istore dx_29_27 ?_
          refine at_iload dx_29_28 rfl ?_
          refine at_zeqR dx_29_29 (by decide) (fun _ => ?_) (fun c => absurd c (by decide))
          refine at_iload dx_29_37 rfl ?_
          refine at_aload dx_29_38 rfl ?_
          refine at_getR dx_29_39 hs rfl (st_t7 hs) ?_
          refine at_iload dx_29_40 rfl ?_
          refine at_aldI dx_29_41 (st_c2 hs) (st_n2 hs) (by decide) (by decide) (fun r41 => ?_)
          refine at_addR dx_29_42 (by constructor <;> omega) (fun r42 => ?_)
          refine at_istore dx_29_43 ?_
          refine at_iload dx_29_44 rfl ?_
          refine at_zeqR dx_29_45 (by decide) (fun _ => ?_) (fun c => absurd c (by decide))
          refine at_iload dx_29_48 rfl ?_
          refine at_istore dx_29_49 ?_
          refine at_iload dx_29_50 rfl ?_
          refine at_zeqR dx_29_51 (by decide) (fun _ => ?_) (fun c => absurd c (by decide))
          refine at_iload dx_29_59 rfl ?_
          refine at_aload dx_29_60 rfl ?_
          refine at_getR dx_29_61 hs rfl (st_t8 hs) ?_
          refine at_iload dx_29_62 rfl ?_
          refine at_aldI dx_29_63 (st_c3 hs) (st_n3 hs) (by decide) (by decide) (fun r63 => ?_)
          refine at_addR dx_29_64 (by constructor <;> omega) (fun r64 => ?_)
          refine at_istore dx_29_65 ?_
          refine at_aload dx_29_66 rfl ?_
          refine at_getI 0 dx_29_67 lc_29 rfl rfl (fun r67 => ?_)
          refine at_iload dx_29_68 rfl ?_
          refine at_cgeR dx_29_69 r67 r16 (fun c69 => ?_) (fun c69 => ?_)
          · skip
            refine at_aload dx_29_71 rfl ?_
            refine at_getI 0 dx_29_72 lc_29 rfl rfl (fun r72 => ?_)
            refine at_iload dx_29_73 rfl ?_
            refine at_cgtR dx_29_74 r72 r42 (fun c74 => ?_) (fun c74 => ?_)
            · skip
              refine at_iload dx_29_83 rfl ?_
              refine at_iload dx_29_84 rfl ?_
              refine at_subR dx_29_85 (by constructor <;> omega) (fun r85 => ?_)
              refine at_istore dx_29_86 ?_
              refine at_iincC (y := 1) (z := 2) dx_29_87 rfl rfl (by decide +kernel) ?_
              refine at_goto dx_29_88 ?_
              refine at_iload dx_29_6 rfl ?_
              refine at_aload dx_29_7 rfl ?_
              refine at_getI 5 dx_29_8 hs rfl rfl (fun r8 => ?_)
              refine at_cgeR dx_29_9 (by decide) r8 (fun c9 => ?_) (fun c9 => ?_)
              · skip
                refine at_aload dx_29_89 rfl ?_
                refine at_dup dx_29_90 rfl ?_
                refine at_getI 0 dx_29_91 lc_29 rfl rfl (fun r91 => ?_)
                refine at_iload dx_29_92 rfl ?_
                refine at_addR dx_29_93 (by constructor <;> omega) (fun r93 => ?_)
                refine at_putI 0 dx_29_94 lc_29 rfl rfl r93 ?_
                refine at_vretV dx_29_95 ?_
                refine ⟨fr_tr f1 ?_, ?_, ?_, Or.inl ⟨?_, ?_, ?_⟩⟩
                · (repeat (first | exact fr_rf | refine fr_ums ?_ (by (try dsimp only [blk]); first | done | omega)))
                · simp (disch := omega) only [um_eq, um_j]; exact l1
                · simp (disch := omega) only [um_eq, um_j]; exact l2
                · simp (disch := omega) only [um_eq, um_j]; exact l5
                · simp (disch := omega) only [um_eq, um_j]; exact l6
                · simp (disch := omega) only [um_eq, um_j]
                  first | exact Or.inl ⟨by omega, by omega⟩ | exact Or.inr (Or.inl ⟨by omega, by omega, by omega⟩) | exact Or.inr (Or.inr (Or.inl ⟨by omega, by omega, by omega⟩)) | exact Or.inr (Or.inr (Or.inr (Or.inl ⟨by omega, by omega, by omega, by omega⟩))) | exact Or.inr (Or.inr (Or.inr (Or.inr ⟨by omega, by omega, by omega, by omega⟩)))
              · skip
                refine at_iload dx_29_10 rfl ?_
                refine at_const (x := 2) dx_29_11 rfl ?_
                refine at_cgeR dx_29_12 (by decide) (by decide) (fun _ => ?_) (fun c => absurd c (by decide))
                refine at_aload dx_29_89 rfl ?_
                refine at_dup dx_29_90 rfl ?_
                refine at_getI 0 dx_29_91 lc_29 rfl rfl (fun r91 => ?_)
                refine at_iload dx_29_92 rfl ?_
                refine at_addR dx_29_93 (by constructor <;> omega) (fun r93 => ?_)
                refine at_putI 0 dx_29_94 lc_29 rfl rfl r93 ?_
                refine at_vretV dx_29_95 ?_
                refine ⟨fr_tr f1 ?_, ?_, ?_, Or.inl ⟨?_, ?_, ?_⟩⟩
                · (repeat (first | exact fr_rf | refine fr_ums ?_ (by (try dsimp only [blk]); first | done | omega)))
                · simp (disch := omega) only [um_eq, um_j]; exact l1
                · simp (disch := omega) only [um_eq, um_j]; exact l2
                · simp (disch := omega) only [um_eq, um_j]; exact l5
                · simp (disch := omega) only [um_eq, um_j]; exact l6
                · simp (disch := omega) only [um_eq, um_j]
                  first | exact Or.inl ⟨by omega, by omega⟩ | exact Or.inr (Or.inl ⟨by omega, by omega, by omega⟩) | exact Or.inr (Or.inr (Or.inl ⟨by omega, by omega, by omega⟩)) | exact Or.inr (Or.inr (Or.inr (Or.inl ⟨by omega, by omega, by omega, by omega⟩))) | exact Or.inr (Or.inr (Or.inr (Or.inr ⟨by omega, by omega, by omega, by omega⟩)))
            · skip
              refine at_aload dx_29_75 rfl ?_
              refine at_iload dx_29_76 rfl ?_
              refine at_iload dx_29_77 rfl ?_
              refine at_iload dx_29_78 rfl ?_
              refine at_iload dx_29_79 rfl ?_
              refine at_iload dx_29_80 rfl ?_
              refine at_callVV dx_29_81 rfl lc_29 rfl (x_enterRange (by decide) r16 r42 r20 r64 (by constructor <;> omega) (by omega)) ?_
              rintro M2 ⟨f2, w1, w2, w3, w4, w5⟩
              refine at_vretV dx_29_82 ?_
              refine ⟨fr_tr f1 f2, by rw [w1, l1], by rw [w2, l2], ?_⟩
              first
              | exact Or.inr (Or.inl ⟨by omega, by omega, by omega, by omega, by omega, ENT_cg (by omega) (by omega) (by omega) (by omega) (by omega) (by omega) w5⟩)
              | exact Or.inr (Or.inr ⟨by omega, by omega, by omega, by omega, by omega, by omega, ENT_cg (by omega) (by omega) (by omega) (by omega) (by omega) (by omega) w5⟩)
          · skip
            refine at_goto dx_29_70 ?_
            refine at_aload dx_29_89 rfl ?_
            refine at_dup dx_29_90 rfl ?_
            refine at_getI 0 dx_29_91 lc_29 rfl rfl (fun r91 => ?_)
            refine at_iload dx_29_92 rfl ?_
            refine at_addR dx_29_93 (by constructor <;> omega) (fun r93 => ?_)
            refine at_putI 0 dx_29_94 lc_29 rfl rfl r93 ?_
            refine at_vretV dx_29_95 ?_
            refine ⟨fr_tr f1 ?_, ?_, ?_, Or.inl ⟨?_, ?_, ?_⟩⟩
            · (repeat (first | exact fr_rf | refine fr_ums ?_ (by (try dsimp only [blk]); first | done | omega)))
            · simp (disch := omega) only [um_eq, um_j]; exact l1
            · simp (disch := omega) only [um_eq, um_j]; exact l2
            · simp (disch := omega) only [um_eq, um_j]; exact l5
            · simp (disch := omega) only [um_eq, um_j]; exact l6
            · simp (disch := omega) only [um_eq, um_j]
              first | exact Or.inl ⟨by omega, by omega⟩ | exact Or.inr (Or.inl ⟨by omega, by omega, by omega⟩) | exact Or.inr (Or.inr (Or.inl ⟨by omega, by omega, by omega⟩)) | exact Or.inr (Or.inr (Or.inr (Or.inl ⟨by omega, by omega, by omega, by omega⟩))) | exact Or.inr (Or.inr (Or.inr (Or.inr ⟨by omega, by omega, by omega, by omega⟩)))
      · skip
        refine at_aload dx_29_75 rfl ?_
        refine at_iload dx_29_76 rfl ?_
        refine at_iload dx_29_77 rfl ?_
        refine at_iload dx_29_78 rfl ?_
        refine at_iload dx_29_79 rfl ?_
        refine at_iload dx_29_80 rfl ?_
        refine at_callVV dx_29_81 rfl lc_29 rfl (x_enterRange (by decide) r16 r42 r20 r64 (by constructor <;> omega) (by omega)) ?_
        rintro M2 ⟨f2, w1, w2, w3, w4, w5⟩
        refine at_vretV dx_29_82 ?_
        refine ⟨fr_tr f1 f2, by rw [w1, l1], by rw [w2, l2], ?_⟩
        first
        | exact Or.inr (Or.inl ⟨by omega, by omega, by omega, by omega, by omega, ENT_cg (by omega) (by omega) (by omega) (by omega) (by omega) (by omega) w5⟩)
        | exact Or.inr (Or.inr ⟨by omega, by omega, by omega, by omega, by omega, by omega, ENT_cg (by omega) (by omega) (by omega) (by omega) (by omega) (by omega) w5⟩)
    · skip
      refine at_goto dx_29_70 ?_
      refine at_aload dx_29_89 rfl ?_
      refine at_dup dx_29_90 rfl ?_
      refine at_getI 0 dx_29_91 lc_29 rfl rfl (fun r91 => ?_)
      refine at_iload dx_29_92 rfl ?_
      refine at_addR dx_29_93 (by constructor <;> omega) (fun r93 => ?_)
      refine at_putI 0 dx_29_94 lc_29 rfl rfl r93 ?_
      refine at_vretV dx_29_95 ?_
      refine ⟨fr_tr f1 ?_, ?_, ?_, Or.inl ⟨?_, ?_, ?_⟩⟩
      · (repeat (first | exact fr_rf | refine fr_ums ?_ (by (try dsimp only [blk]); first | done | omega)))
      · simp (disch := omega) only [um_eq, um_j]; exact l1
      · simp (disch := omega) only [um_eq, um_j]; exact l2
      · simp (disch := omega) only [um_eq, um_j]; exact l5
      · simp (disch := omega) only [um_eq, um_j]; exact l6
      · simp (disch := omega) only [um_eq, um_j]
        first | exact Or.inl ⟨by omega, by omega⟩ | exact Or.inr (Or.inl ⟨by omega, by omega, by omega⟩) | exact Or.inr (Or.inr (Or.inl ⟨by omega, by omega, by omega⟩)) | exact Or.inr (Or.inr (Or.inr (Or.inl ⟨by omega, by omega, by omega, by omega⟩))) | exact Or.inr (Or.inr (Or.inr (Or.inr ⟨by omega, by omega, by omega, by omega⟩)))

set_option maxRecDepth 100000 in
set_option maxHeartbeats 4000000 in
theorem x_carry1 {X : scr} {M : mem} {s : Nat} (hs : ly_c s = 4) (hV : okS M s) (hp : -5000 ≤ M 29 0 ∧ M 29 0 ≤ 5000) (hrt : M 29 1 = 0 ∨ M 29 1 = 1) : At X 0 29 0 [vr s, vr 29, vi 1] [] M (qV (fun M' => fr (fun q => q = 29) M M' ∧ M' 29 1 = M 29 1 ∧ M' 29 2 = M 29 2 ∧ CYr M s (M 29 1) (M 29 0) (M' 29 0) (M' 29 5) (M' 29 6) (M' 29 3) (M' 29 4))) := by
  have h8 := st_al hs
  obtain ⟨⟨v1, v2⟩, v3, v4⟩ := hV
  refine at_const (x := 0) dx_29_0 rfl ?_
  refine at_istore dx_29_1 ?_
  refine at_aload dx_29_2 rfl ?_
  refine at_callVV dx_29_3 rfl lc_29 rfl (x_leaveRange) ?_
  rintro M1 ⟨f1, l0, l1, l2, l5, l6⟩
  have a0 : M1 s 5 = M s 5 := f1 _ _ (by omega)
  have a1 : M1 (s + 1) 0 = M (s + 1) 0 := f1 _ _ (by omega)
  have a2 : M1 (s + 2) 0 = M (s + 2) 0 := f1 _ _ (by omega)
  have a3 : M1 (s + 3) 0 = M (s + 3) 0 := f1 _ _ (by omega)
  have a4 : M1 (s + 1) 1 = M (s + 1) 1 := f1 _ _ (by omega)
  have a5 : M1 (s + 2) 1 = M (s + 2) 1 := f1 _ _ (by omega)
  have a6 : M1 (s + 3) 1 = M (s + 3) 1 := f1 _ _ (by omega)
  refine at_const (x := 0) dx_29_4 rfl ?_
  refine at_istore dx_29_5 ?_
  refine at_iload dx_29_6 rfl ?_
  refine at_aload dx_29_7 rfl ?_
  refine at_getI 5 dx_29_8 hs rfl rfl (fun r8 => ?_)
  refine at_cgeR dx_29_9 (by decide) r8 (fun c9 => ?_) (fun c9 => ?_)
  · skip
    refine at_aload dx_29_89 rfl ?_
    refine at_dup dx_29_90 rfl ?_
    refine at_getI 0 dx_29_91 lc_29 rfl rfl (fun r91 => ?_)
    refine at_iload dx_29_92 rfl ?_
    refine at_addR dx_29_93 (by constructor <;> omega) (fun r93 => ?_)
    refine at_putI 0 dx_29_94 lc_29 rfl rfl r93 ?_
    refine at_vretV dx_29_95 ?_
    refine ⟨fr_tr f1 ?_, ?_, ?_, Or.inl ⟨?_, ?_, ?_⟩⟩
    · (repeat (first | exact fr_rf | refine fr_ums ?_ (by (try dsimp only [blk]); first | done | omega)))
    · simp (disch := omega) only [um_eq, um_j]; exact l1
    · simp (disch := omega) only [um_eq, um_j]; exact l2
    · simp (disch := omega) only [um_eq, um_j]; exact l5
    · simp (disch := omega) only [um_eq, um_j]; exact l6
    · simp (disch := omega) only [um_eq, um_j]
      first | exact Or.inl ⟨by omega, by omega⟩ | exact Or.inr (Or.inl ⟨by omega, by omega, by omega⟩) | exact Or.inr (Or.inr (Or.inl ⟨by omega, by omega, by omega⟩)) | exact Or.inr (Or.inr (Or.inr (Or.inl ⟨by omega, by omega, by omega, by omega⟩))) | exact Or.inr (Or.inr (Or.inr (Or.inr ⟨by omega, by omega, by omega, by omega⟩)))
  · skip
    refine at_iload dx_29_10 rfl ?_
    refine at_const (x := 2) dx_29_11 rfl ?_
    refine at_cgeR dx_29_12 (by decide) (by decide) (fun c => absurd c (by decide)) (fun _ => ?_)
    have hq3 : 0 < M s 5 := by omega
    obtain ⟨⟨u1, u2⟩, ⟨u3, u4⟩, u5, u6⟩ := v3 hq3
    have v5 : M s 5 = 2 → ((M (s + 1) 0 + M (s + 2) 0 ≤ M (s + 1) 1 ∧ M (s + 1) 1 ≤ 60) ∧ (0 ≤ M (s + 2) 1 ∧ M (s + 2) 1 ≤ 60) ∧ (0 ≤ M (s + 3) 1 ∧ M (s + 3) 1 ≤ 60)) := fun e => by obtain ⟨w1, w2, w3, w4⟩ := v4 e; exact ⟨w1, w2, w3⟩
    refine at_aload dx_29_13 rfl ?_
    refine at_getR dx_29_14 hs rfl (st_t6 hs) ?_
    refine at_iload dx_29_15 rfl ?_
    refine at_aldI dx_29_16 (st_c1 hs) (st_n1 hs) (by decide) (by decide) (fun r16 => ?_)
    refine at_istore dx_29_17 ?_
    refine at_aload dx_29_18 rfl ?_
    refine at_iload dx_29_19 rfl ?_
    refine at_callVI dx_29_20 rfl hs rfl (c_putStart hs (by decide)) ?_
    rintro x20 M9 r20 ⟨e9, h20⟩; replace e9 := e9.symm; subst e9
    rw [psM_0] at h20
    refine at_istore dx_29_21 ?_
    refine at_iload dx_29_22 rfl ?_
    refine at_zeqR dx_29_23 (by decide) (fun c => absurd c (by decide)) (fun _ => ?_)
    refine at_iload dx_29_24 rfl ?_
    refine at_goto dx_29_25 ?_
    refine at_istore dx_29_27 ?_
    refine at_iload dx_29_28 rfl ?_
    refine at_zeqR dx_29_29 (by decide) (fun c => absurd c (by decide)) (fun _ => ?_)
    refine at_iload dx_29_30 rfl ?_
    refine at_aload dx_29_31 rfl ?_
    refine at_getR dx_29_32 hs rfl (st_t8 hs) ?_
    refine at_iload dx_29_33 rfl ?_
    refine at_aldI dx_29_34 (st_c3 hs) (st_n3 hs) (by decide) (by decide) (fun r34 => ?_)
    refine at_addR dx_29_35 (by constructor <;> omega) (fun r35 => ?_)
    refine at_goto dx_29_36 ?_
    refine at_istore dx_29_43 ?_
    refine at_iload dx_29_44 rfl ?_
    refine at_zeqR dx_29_45 (by decide) (fun c => absurd c (by decide)) (fun _ => ?_)
    refine at_iload dx_29_46 rfl ?_
    refine at_goto dx_29_47 ?_
    refine at_istore dx_29_49 ?_
    refine at_iload dx_29_50 rfl ?_
    refine at_zeqR dx_29_51 (by decide) (fun c => absurd c (by decide)) (fun _ => ?_)
    refine at_iload dx_29_52 rfl ?_
    refine at_aload dx_29_53 rfl ?_
    refine at_getR dx_29_54 hs rfl (st_t7 hs) ?_
    refine at_iload dx_29_55 rfl ?_
    refine at_aldI dx_29_56 (st_c2 hs) (st_n2 hs) (by decide) (by decide) (fun r56 => ?_)
    refine at_addR dx_29_57 (by constructor <;> omega) (fun r57 => ?_)
    refine at_goto dx_29_58 ?_
    refine at_istore dx_29_65 ?_
    refine at_aload dx_29_66 rfl ?_
    refine at_getI 0 dx_29_67 lc_29 rfl rfl (fun r67 => ?_)
    refine at_iload dx_29_68 rfl ?_
    refine at_cgeR dx_29_69 r67 r20 (fun c69 => ?_) (fun c69 => ?_)
    · skip
      refine at_aload dx_29_71 rfl ?_
      refine at_getI 0 dx_29_72 lc_29 rfl rfl (fun r72 => ?_)
      refine at_iload dx_29_73 rfl ?_
      refine at_cgtR dx_29_74 r72 r35 (fun c74 => ?_) (fun c74 => ?_)
      · skip
        refine at_iload dx_29_83 rfl ?_
        refine at_iload dx_29_84 rfl ?_
        refine at_subR dx_29_85 (by constructor <;> omega) (fun r85 => ?_)
        refine at_istore dx_29_86 ?_
        refine at_iincC (y := 1) (z := 1) dx_29_87 rfl rfl (by decide +kernel) ?_
        refine at_goto dx_29_88 ?_
        refine at_iload dx_29_6 rfl ?_
        refine at_aload dx_29_7 rfl ?_
        refine at_getI 5 dx_29_8 hs rfl rfl (fun r8 => ?_)
        refine at_cgeR dx_29_9 (by decide) r8 (fun c9 => ?_) (fun c9 => ?_)
        · skip
          refine at_aload dx_29_89 rfl ?_
          refine at_dup dx_29_90 rfl ?_
          refine at_getI 0 dx_29_91 lc_29 rfl rfl (fun r91 => ?_)
          refine at_iload dx_29_92 rfl ?_
          refine at_addR dx_29_93 (by constructor <;> omega) (fun r93 => ?_)
          refine at_putI 0 dx_29_94 lc_29 rfl rfl r93 ?_
          refine at_vretV dx_29_95 ?_
          refine ⟨fr_tr f1 ?_, ?_, ?_, Or.inl ⟨?_, ?_, ?_⟩⟩
          · (repeat (first | exact fr_rf | refine fr_ums ?_ (by (try dsimp only [blk]); first | done | omega)))
          · simp (disch := omega) only [um_eq, um_j]; exact l1
          · simp (disch := omega) only [um_eq, um_j]; exact l2
          · simp (disch := omega) only [um_eq, um_j]; exact l5
          · simp (disch := omega) only [um_eq, um_j]; exact l6
          · simp (disch := omega) only [um_eq, um_j]
            first | exact Or.inl ⟨by omega, by omega⟩ | exact Or.inr (Or.inl ⟨by omega, by omega, by omega⟩) | exact Or.inr (Or.inr (Or.inl ⟨by omega, by omega, by omega⟩)) | exact Or.inr (Or.inr (Or.inr (Or.inl ⟨by omega, by omega, by omega, by omega⟩))) | exact Or.inr (Or.inr (Or.inr (Or.inr ⟨by omega, by omega, by omega, by omega⟩)))
        · skip
          refine at_iload dx_29_10 rfl ?_
          refine at_const (x := 2) dx_29_11 rfl ?_
          refine at_cgeR dx_29_12 (by decide) (by decide) (fun c => absurd c (by decide)) (fun _ => ?_)
          have hq3 : 0 < M s 5 := by omega
          obtain ⟨⟨u1, u2⟩, ⟨u3, u4⟩, u5, u6⟩ := v3 hq3
          have v5 : M s 5 = 2 → ((M (s + 1) 0 + M (s + 2) 0 ≤ M (s + 1) 1 ∧ M (s + 1) 1 ≤ 60) ∧ (0 ≤ M (s + 2) 1 ∧ M (s + 2) 1 ≤ 60) ∧ (0 ≤ M (s + 3) 1 ∧ M (s + 3) 1 ≤ 60)) := fun e => by obtain ⟨w1, w2, w3, w4⟩ := v4 e; exact ⟨w1, w2, w3⟩
          refine at_aload dx_29_13 rfl ?_
          refine at_getR dx_29_14 hs rfl (st_t6 hs) ?_
          refine at_iload dx_29_15 rfl ?_
          refine at_aldI dx_29_16 (st_c1 hs) (st_n1 hs) (by decide) (by decide) (fun r16 => ?_)
          refine at_istore dx_29_17 ?_
          refine at_aload dx_29_18 rfl ?_
          refine at_iload dx_29_19 rfl ?_
          refine at_callVI dx_29_20 rfl hs rfl (c_putStart hs (by decide)) ?_
          rintro x20 M9 r20 ⟨e9, h20⟩; replace e9 := e9.symm; subst e9
          rw [psM_1 (by omega) (by omega) (by omega)] at h20
          refine at_istore dx_29_21 ?_
          refine at_iload dx_29_22 rfl ?_
          refine at_zeqR dx_29_23 (by decide) (fun c => absurd c (by decide)) (fun _ => ?_)
          refine at_iload dx_29_24 rfl ?_
          refine at_goto dx_29_25 ?_
          refine at_istore dx_29_27 ?_
          refine at_iload dx_29_28 rfl ?_
          refine at_zeqR dx_29_29 (by decide) (fun c => absurd c (by decide)) (fun _ => ?_)
          refine at_iload dx_29_30 rfl ?_
          refine at_aload dx_29_31 rfl ?_
          refine at_getR dx_29_32 hs rfl (st_t8 hs) ?_
          refine at_iload dx_29_33 rfl ?_
          refine at_aldI dx_29_34 (st_c3 hs) (st_n3 hs) (by decide) (by decide) (fun r34 => ?_)
          refine at_addR dx_29_35 (by constructor <;> omega) (fun r35 => ?_)
          refine at_goto dx_29_36 ?_
          refine at_istore dx_29_43 ?_
          refine at_iload dx_29_44 rfl ?_
          refine at_zeqR dx_29_45 (by decide) (fun c => absurd c (by decide)) (fun _ => ?_)
          refine at_iload dx_29_46 rfl ?_
          refine at_goto dx_29_47 ?_
          refine at_istore dx_29_49 ?_
          refine at_iload dx_29_50 rfl ?_
          refine at_zeqR dx_29_51 (by decide) (fun c => absurd c (by decide)) (fun _ => ?_)
          refine at_iload dx_29_52 rfl ?_
          refine at_aload dx_29_53 rfl ?_
          refine at_getR dx_29_54 hs rfl (st_t7 hs) ?_
          refine at_iload dx_29_55 rfl ?_
          refine at_aldI dx_29_56 (st_c2 hs) (st_n2 hs) (by decide) (by decide) (fun r56 => ?_)
          refine at_addR dx_29_57 (by constructor <;> omega) (fun r57 => ?_)
          refine at_goto dx_29_58 ?_
          refine at_istore dx_29_65 ?_
          refine at_aload dx_29_66 rfl ?_
          refine at_getI 0 dx_29_67 lc_29 rfl rfl (fun r67 => ?_)
          refine at_iload dx_29_68 rfl ?_
          refine at_cgeR dx_29_69 r67 r20 (fun c69 => ?_) (fun c69 => ?_)
          · skip
            refine at_aload dx_29_71 rfl ?_
            refine at_getI 0 dx_29_72 lc_29 rfl rfl (fun r72 => ?_)
            refine at_iload dx_29_73 rfl ?_
            refine at_cgtR dx_29_74 r72 r35 (fun c74 => ?_) (fun c74 => ?_)
            · skip
              refine at_iload dx_29_83 rfl ?_
              refine at_iload dx_29_84 rfl ?_
              refine at_subR dx_29_85 (by constructor <;> omega) (fun r85 => ?_)
              refine at_istore dx_29_86 ?_
              refine at_iincC (y := 1) (z := 2) dx_29_87 rfl rfl (by decide +kernel) ?_
              refine at_goto dx_29_88 ?_
              refine at_iload dx_29_6 rfl ?_
              refine at_aload dx_29_7 rfl ?_
              refine at_getI 5 dx_29_8 hs rfl rfl (fun r8 => ?_)
              refine at_cgeR dx_29_9 (by decide) r8 (fun c9 => ?_) (fun c9 => ?_)
              · skip
                refine at_aload dx_29_89 rfl ?_
                refine at_dup dx_29_90 rfl ?_
                refine at_getI 0 dx_29_91 lc_29 rfl rfl (fun r91 => ?_)
                refine at_iload dx_29_92 rfl ?_
                refine at_addR dx_29_93 (by constructor <;> omega) (fun r93 => ?_)
                refine at_putI 0 dx_29_94 lc_29 rfl rfl r93 ?_
                refine at_vretV dx_29_95 ?_
                refine ⟨fr_tr f1 ?_, ?_, ?_, Or.inl ⟨?_, ?_, ?_⟩⟩
                · (repeat (first | exact fr_rf | refine fr_ums ?_ (by (try dsimp only [blk]); first | done | omega)))
                · simp (disch := omega) only [um_eq, um_j]; exact l1
                · simp (disch := omega) only [um_eq, um_j]; exact l2
                · simp (disch := omega) only [um_eq, um_j]; exact l5
                · simp (disch := omega) only [um_eq, um_j]; exact l6
                · simp (disch := omega) only [um_eq, um_j]
                  first | exact Or.inl ⟨by omega, by omega⟩ | exact Or.inr (Or.inl ⟨by omega, by omega, by omega⟩) | exact Or.inr (Or.inr (Or.inl ⟨by omega, by omega, by omega⟩)) | exact Or.inr (Or.inr (Or.inr (Or.inl ⟨by omega, by omega, by omega, by omega⟩))) | exact Or.inr (Or.inr (Or.inr (Or.inr ⟨by omega, by omega, by omega, by omega⟩)))
              · skip
                refine at_iload dx_29_10 rfl ?_
                refine at_const (x := 2) dx_29_11 rfl ?_
                refine at_cgeR dx_29_12 (by decide) (by decide) (fun _ => ?_) (fun c => absurd c (by decide))
                refine at_aload dx_29_89 rfl ?_
                refine at_dup dx_29_90 rfl ?_
                refine at_getI 0 dx_29_91 lc_29 rfl rfl (fun r91 => ?_)
                refine at_iload dx_29_92 rfl ?_
                refine at_addR dx_29_93 (by constructor <;> omega) (fun r93 => ?_)
                refine at_putI 0 dx_29_94 lc_29 rfl rfl r93 ?_
                refine at_vretV dx_29_95 ?_
                refine ⟨fr_tr f1 ?_, ?_, ?_, Or.inl ⟨?_, ?_, ?_⟩⟩
                · (repeat (first | exact fr_rf | refine fr_ums ?_ (by (try dsimp only [blk]); first | done | omega)))
                · simp (disch := omega) only [um_eq, um_j]; exact l1
                · simp (disch := omega) only [um_eq, um_j]; exact l2
                · simp (disch := omega) only [um_eq, um_j]; exact l5
                · simp (disch := omega) only [um_eq, um_j]; exact l6
                · simp (disch := omega) only [um_eq, um_j]
                  first | exact Or.inl ⟨by omega, by omega⟩ | exact Or.inr (Or.inl ⟨by omega, by omega, by omega⟩) | exact Or.inr (Or.inr (Or.inl ⟨by omega, by omega, by omega⟩)) | exact Or.inr (Or.inr (Or.inr (Or.inl ⟨by omega, by omega, by omega, by omega⟩))) | exact Or.inr (Or.inr (Or.inr (Or.inr ⟨by omega, by omega, by omega, by omega⟩)))
            · skip
              refine at_aload dx_29_75 rfl ?_
              refine at_iload dx_29_76 rfl ?_
              refine at_iload dx_29_77 rfl ?_
              refine at_iload dx_29_78 rfl ?_
              refine at_iload dx_29_79 rfl ?_
              refine at_iload dx_29_80 rfl ?_
              refine at_callVV dx_29_81 rfl lc_29 rfl (x_enterRange (by decide) r20 r35 r16 r57 (by constructor <;> omega) (by omega)) ?_
              rintro M2 ⟨f2, w1, w2, w3, w4, w5⟩
              refine at_vretV dx_29_82 ?_
              refine ⟨fr_tr f1 f2, by rw [w1, l1], by rw [w2, l2], ?_⟩
              first
              | exact Or.inr (Or.inl ⟨by omega, by omega, by omega, by omega, by omega, ENT_cg (by omega) (by omega) (by omega) (by omega) (by omega) (by omega) w5⟩)
              | exact Or.inr (Or.inr ⟨by omega, by omega, by omega, by omega, by omega, by omega, ENT_cg (by omega) (by omega) (by omega) (by omega) (by omega) (by omega) w5⟩)
          · skip
            refine at_goto dx_29_70 ?_
            refine at_aload dx_29_89 rfl ?_
            refine at_dup dx_29_90 rfl ?_
            refine at_getI 0 dx_29_91 lc_29 rfl rfl (fun r91 => ?_)
            refine at_iload dx_29_92 rfl ?_
            refine at_addR dx_29_93 (by constructor <;> omega) (fun r93 => ?_)
            refine at_putI 0 dx_29_94 lc_29 rfl rfl r93 ?_
            refine at_vretV dx_29_95 ?_
            refine ⟨fr_tr f1 ?_, ?_, ?_, Or.inl ⟨?_, ?_, ?_⟩⟩
            · (repeat (first | exact fr_rf | refine fr_ums ?_ (by (try dsimp only [blk]); first | done | omega)))
            · simp (disch := omega) only [um_eq, um_j]; exact l1
            · simp (disch := omega) only [um_eq, um_j]; exact l2
            · simp (disch := omega) only [um_eq, um_j]; exact l5
            · simp (disch := omega) only [um_eq, um_j]; exact l6
            · simp (disch := omega) only [um_eq, um_j]
              first | exact Or.inl ⟨by omega, by omega⟩ | exact Or.inr (Or.inl ⟨by omega, by omega, by omega⟩) | exact Or.inr (Or.inr (Or.inl ⟨by omega, by omega, by omega⟩)) | exact Or.inr (Or.inr (Or.inr (Or.inl ⟨by omega, by omega, by omega, by omega⟩))) | exact Or.inr (Or.inr (Or.inr (Or.inr ⟨by omega, by omega, by omega, by omega⟩)))
      · skip
        refine at_aload dx_29_75 rfl ?_
        refine at_iload dx_29_76 rfl ?_
        refine at_iload dx_29_77 rfl ?_
        refine at_iload dx_29_78 rfl ?_
        refine at_iload dx_29_79 rfl ?_
        refine at_iload dx_29_80 rfl ?_
        refine at_callVV dx_29_81 rfl lc_29 rfl (x_enterRange (by decide) r20 r35 r16 r57 (by constructor <;> omega) (by omega)) ?_
        rintro M2 ⟨f2, w1, w2, w3, w4, w5⟩
        refine at_vretV dx_29_82 ?_
        refine ⟨fr_tr f1 f2, by rw [w1, l1], by rw [w2, l2], ?_⟩
        first
        | exact Or.inr (Or.inl ⟨by omega, by omega, by omega, by omega, by omega, ENT_cg (by omega) (by omega) (by omega) (by omega) (by omega) (by omega) w5⟩)
        | exact Or.inr (Or.inr ⟨by omega, by omega, by omega, by omega, by omega, by omega, ENT_cg (by omega) (by omega) (by omega) (by omega) (by omega) (by omega) w5⟩)
    · skip
      refine at_goto dx_29_70 ?_
      refine at_aload dx_29_89 rfl ?_
      refine at_dup dx_29_90 rfl ?_
      refine at_getI 0 dx_29_91 lc_29 rfl rfl (fun r91 => ?_)
      refine at_iload dx_29_92 rfl ?_
      refine at_addR dx_29_93 (by constructor <;> omega) (fun r93 => ?_)
      refine at_putI 0 dx_29_94 lc_29 rfl rfl r93 ?_
      refine at_vretV dx_29_95 ?_
      refine ⟨fr_tr f1 ?_, ?_, ?_, Or.inl ⟨?_, ?_, ?_⟩⟩
      · (repeat (first | exact fr_rf | refine fr_ums ?_ (by (try dsimp only [blk]); first | done | omega)))
      · simp (disch := omega) only [um_eq, um_j]; exact l1
      · simp (disch := omega) only [um_eq, um_j]; exact l2
      · simp (disch := omega) only [um_eq, um_j]; exact l5
      · simp (disch := omega) only [um_eq, um_j]; exact l6
      · simp (disch := omega) only [um_eq, um_j]
        first | exact Or.inl ⟨by omega, by omega⟩ | exact Or.inr (Or.inl ⟨by omega, by omega, by omega⟩) | exact Or.inr (Or.inr (Or.inl ⟨by omega, by omega, by omega⟩)) | exact Or.inr (Or.inr (Or.inr (Or.inl ⟨by omega, by omega, by omega, by omega⟩))) | exact Or.inr (Or.inr (Or.inr (Or.inr ⟨by omega, by omega, by omega, by omega⟩)))

theorem x_carry {X : scr} {M : mem} {s : Nat} {z : Int} (hs : ly_c s = 4) (hV : okS M s) (hp : -5000 ≤ M 29 0 ∧ M 29 0 ≤ 5000) (hrt : M 29 1 = 0 ∨ M 29 1 = 1) (hz : z = 0 ∨ z = 1) : At X 0 29 0 [vr s, vr 29, vi z] [] M (qV (fun M' => fr (fun q => q = 29) M M' ∧ M' 29 1 = M 29 1 ∧ M' 29 2 = M 29 2 ∧ (z = 0 → CYf M s (M 29 1) (M 29 0) (M' 29 0) (M' 29 5) (M' 29 6) (M' 29 3) (M' 29 4)) ∧ (z = 1 → CYr M s (M 29 1) (M 29 0) (M' 29 0) (M' 29 5) (M' 29 6) (M' 29 3) (M' 29 4)))) := by
  rcases hz with rfl | rfl
  · exact At.mono (x_carry0 hs hV hp hrt) (fun t v M1 h => by
      obtain ⟨h1, h2, h3, h4, h5, h6⟩ := h
      exact ⟨h1, h2, h3, h4, h5, fun _ => h6, fun e => absurd e (by decide)⟩)
  · exact At.mono (x_carry1 hs hV hp hrt) (fun t v M1 h => by
      obtain ⟨h1, h2, h3, h4, h5, h6⟩ := h
      exact ⟨h1, h2, h3, h4, h5, fun e => absurd e (by decide), fun _ => h6⟩)
