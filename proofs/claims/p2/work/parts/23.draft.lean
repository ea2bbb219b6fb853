/-! ===== what an edit is, on both sides: a range or two, or a marking ===== -/
abbrev gD : Type := Nat × (List Int × List Int)
noncomputable def okD (D : gD) (l : List Int) : Prop := match D with
  | (0, ([s, t], P)) => 0 ≤ s ∧ 0 ≤ t ∧ s + t ≤ (l.length : Int) ∧ (l.length : Int) - t + (P.length : Int) ≤ 60
  | (1, ([s0, t0, p0, s1, t1, p1], P)) => (0 ≤ s0 ∧ 0 ≤ t0 ∧ s0 + t0 ≤ s1 ∧ 0 ≤ t1 ∧ s1 + t1 ≤ (l.length : Int)) ∧ (0 ≤ p0 ∧ 0 ≤ p1 ∧ p0 + p1 = (P.length : Int)) ∧ (l.length : Int) - t0 - t1 + p0 + p1 ≤ 60
  | (2, ([a, b, _, _], _)) => 0 ≤ a ∧ a ≤ b ∧ b ≤ (l.length : Int)
  | _ => False
noncomputable def smD (D : gD) : Prop := match D with
  | (0, ([s, t], P)) => (0 ≤ s ∧ s ≤ 60) ∧ (0 ≤ t ∧ t ≤ 60) ∧ P.length ≤ 60
  | (1, ([s0, t0, p0, s1, t1, p1], P)) => (0 ≤ s0 ∧ s0 ≤ 60) ∧ (0 ≤ t0 ∧ t0 ≤ 60) ∧ (0 ≤ s1 ∧ s1 ≤ 60) ∧ (0 ≤ t1 ∧ t1 ≤ 60) ∧ (0 ≤ p0 ∧ 0 ≤ p1 ∧ p0 + p1 = (P.length : Int)) ∧ P.length ≤ 60
  | (2, ([_, _, kb, z], _)) => (kb = 0 ∨ kb = 1) ∧ (z = 0 ∨ z = 1)
  | _ => False
noncomputable def eD (D : gD) (l : List Int) : List Int := match D with
  | (0, ([s, t], P)) => l.take s.toNat ++ P ++ l.drop (s + t).toNat
  | (1, ([s0, t0, p0, s1, t1, _], P)) => l.take s0.toNat ++ P.take p0.toNat ++ (l.drop (s0 + t0).toNat).take (s1 - (s0 + t0)).toNat ++ P.drop p0.toNat ++ l.drop (s1 + t1).toNat
  | (2, ([a, b, kb, z], _)) => mkL z (kb + 1) a b l
  | _ => l
noncomputable def cVD (V : sV) (D : gD) : Prop := match D with
  | (0, ([s, t], P)) => ∃ a b c d e f g, V = ([0, a, b, c, d, 1, s, e, t, f, (P.length : Int), g], P)
  | (1, ([s0, t0, p0, s1, t1, p1], P)) => ∃ a b c d, V = ([0, a, b, c, d, 2, s0, s1, t0, t1, p0, p1], P)
  | (2, ([a, b, kb, z], _)) => ∃ d e f g h i P, V = ([1, a, b, kb + 1, z, 0, d, e, f, g, h, i], P)
  | _ => False
noncomputable def cWD (W : sV) (D : gD) : Prop := match D with
  | (0, ([s, t], P)) => ∃ a b R, W = ([0, a, b, 1, s, 0, t, 0, (P.length : Int), 0], R) ∧ R.take P.length = P
  | (1, ([s0, t0, p0, s1, t1, p1], P)) => ∃ a b R, W = ([0, a, b, 2, s0, s1, t0, t1, p0, p1], R) ∧ R.take P.length = P
  | (2, ([a, b, kb, z], _)) => ∃ R, W = ([1, z, kb, 0, a, b, 0, 0, 0, 0], R)
  | _ => False
section DQ
variable {s t s0 t0 p0 s1 t1 p1 a b kb z : Int} {P l : List Int} {V : sV}
theorem okD_0 : okD (0, ([s, t], P)) l = (0 ≤ s ∧ 0 ≤ t ∧ s + t ≤ (l.length : Int) ∧ (l.length : Int) - t + (P.length : Int) ≤ 60) := rfl
theorem okD_1 : okD (1, ([s0, t0, p0, s1, t1, p1], P)) l = ((0 ≤ s0 ∧ 0 ≤ t0 ∧ s0 + t0 ≤ s1 ∧ 0 ≤ t1 ∧ s1 + t1 ≤ (l.length : Int)) ∧ (0 ≤ p0 ∧ 0 ≤ p1 ∧ p0 + p1 = (P.length : Int)) ∧ (l.length : Int) - t0 - t1 + p0 + p1 ≤ 60) := rfl
theorem okD_2 : okD (2, ([a, b, kb, z], P)) l = (0 ≤ a ∧ a ≤ b ∧ b ≤ (l.length : Int)) := rfl
theorem smD_0 : smD (0, ([s, t], P)) = ((0 ≤ s ∧ s ≤ 60) ∧ (0 ≤ t ∧ t ≤ 60) ∧ P.length ≤ 60) := rfl
theorem smD_1 : smD (1, ([s0, t0, p0, s1, t1, p1], P)) = ((0 ≤ s0 ∧ s0 ≤ 60) ∧ (0 ≤ t0 ∧ t0 ≤ 60) ∧ (0 ≤ s1 ∧ s1 ≤ 60) ∧ (0 ≤ t1 ∧ t1 ≤ 60) ∧ (0 ≤ p0 ∧ 0 ≤ p1 ∧ p0 + p1 = (P.length : Int)) ∧ P.length ≤ 60) := rfl
theorem smD_2 : smD (2, ([a, b, kb, z], P)) = ((kb = 0 ∨ kb = 1) ∧ (z = 0 ∨ z = 1)) := rfl
theorem eD_0 : eD (0, ([s, t], P)) l = l.take s.toNat ++ P ++ l.drop (s + t).toNat := rfl
theorem eD_1 : eD (1, ([s0, t0, p0, s1, t1, p1], P)) l = l.take s0.toNat ++ P.take p0.toNat ++ (l.drop (s0 + t0).toNat).take (s1 - (s0 + t0)).toNat ++ P.drop p0.toNat ++ l.drop (s1 + t1).toNat := rfl
theorem eD_2 : eD (2, ([a, b, kb, z], P)) l = mkL z (kb + 1) a b l := rfl
end DQ
theorem slc_eq {l : List Int} {f t : Int} (h0 : 0 ≤ f) (h1 : f ≤ t) (h2 : t ≤ (l.length : Int)) : slc l f t = (l.drop f.toNat).take (t - f).toNat := by
  apply List.ext_getElem?
  intro n
  unfold slc
  rw [List.getElem?_map, List.getElem?_take]
  by_cases hn : n < (t - f).toNat
  · rw [List.getElem?_range hn, if_pos hn, List.getElem?_drop]
    show some (atL l (f + (n : Int))) = _
    rw [atL_get (by omega) (by omega), List.getD_eq_getElem?_getD, show (f + (n : Int)).toNat = f.toNat + n by omega, List.getElem?_eq_getElem (by omega)]
    rfl
  · rw [List.getElem?_eq_none (by rw [List.length_range]; omega), if_neg hn]
    rfl
theorem slc_0 {l : List Int} {t : Int} (h1 : 0 ≤ t) (h2 : t ≤ (l.length : Int)) : slc l 0 t = l.take t.toNat := by
  rw [slc_eq (Int.le_refl 0) h1 h2, Int.sub_zero]
  rfl
theorem slc_e {l : List Int} {f : Int} (h0 : 0 ≤ f) (h2 : f ≤ (l.length : Int)) : slc l f (l.length : Int) = l.drop f.toNat := by
  rw [slc_eq h0 h2 (Int.le_refl _), List.take_of_length_le (by rw [List.length_drop]; omega)]
theorem app60_ok {a b : List Int} (h : a.length + b.length ≤ 60) : app60 a b = a ++ b := List.take_of_length_le (by rw [List.length_append]; omega)
theorem app60_n {b : List Int} (h : b.length ≤ 60) : app60 [] b = b := by
  rw [app60_ok (by show 0 + b.length ≤ 60; omega)]
  rfl
theorem okV_D {V : sV} {D : gD} {l : List Int} (hc : cVD V D) (hs : smD D) (hl : l.length ≤ 60) (h2 : D.1 ≠ 2) : okV V l ↔ okD D l := by
  match D, hc, hs, h2 with
  | (0, ([s, t], P)), hc, hs, _ =>
    obtain ⟨a, b, c, d, e, f, g, rfl⟩ := hc
    rw [okD_0]
    rw [smD_0] at hs
    obtain ⟨h0, h1, h2⟩ := hs
    unfold okV
    dsimp only
    rw [if_pos rfl, if_neg (by omega), if_pos (by omega), wr_eq (x := s + t) (by omega) (by omega), wr_eq (x := (P.length : Int) - t) (by omega) (by omega), wr_eq (by omega) (by omega)]
    omega
  | (1, ([s0, t0, p0, s1, t1, p1], P)), hc, hs, _ =>
    obtain ⟨a, b, c, d, rfl⟩ := hc
    rw [okD_1]
    rw [smD_1] at hs
    obtain ⟨h0, h1, h2, h3, h4, h5⟩ := hs
    unfold okV
    dsimp only
    rw [if_pos rfl, if_neg (by omega), if_neg (by omega), wr_eq (x := s0 + t0) (by omega) (by omega), wr_eq (x := s1 + t1) (by omega) (by omega), wr_eq (x := p0 - t0) (by omega) (by omega), wr_eq (x := p1 - t1) (by omega) (by omega), wr_eq (x := (l.length : Int) + (p0 - t0)) (by omega) (by omega), wr_eq (by omega) (by omega)]
    omega
  | (2, ([a, b, kb, z], _)), hc, hs, h2 => exact absurd rfl h2
theorem apV_D {V : sV} {D : gD} {l : List Int} (hc : cVD V D) (hs : smD D) (hl : l.length ≤ 60) (ho : okD D l) : apV V l = eD D l := by
  match D, hc, hs, ho with
  | (0, ([s, t], P)), hc, hs, ho =>
    obtain ⟨a, b, c, d, e, f, g, rfl⟩ := hc
    rw [smD_0] at hs
    obtain ⟨h0, h1, h2⟩ := hs
    rw [okD_0] at ho
    rw [eD_0]
    unfold apV
    dsimp only
    rw [if_pos rfl, if_neg (by omega), if_pos (by omega), wr_eq (x := s + t) (by omega) (by omega), Int.zero_add, wr_eq (x := (P.length : Int)) (by omega) (by omega), slc_0 (by omega) (by omega), slc_0 (l := P) (by omega) (by omega), slc_e (by omega) (by omega), Int.toNat_natCast, List.take_length]
    rw [app60_n (by rw [List.length_take]; omega), app60_ok (a := l.take s.toNat) (by rw [List.length_take]; omega), app60_ok (by rw [List.length_append, List.length_take, List.length_drop]; omega)]
  | (1, ([s0, t0, p0, s1, t1, p1], P)), hc, hs, ho =>
    obtain ⟨a, b, c, d, rfl⟩ := hc
    rw [smD_1] at hs
    obtain ⟨h0, h1, h2, h3, h4, h5⟩ := hs
    rw [okD_1] at ho
    rw [eD_1]
    unfold apV
    dsimp only
    rw [if_pos rfl, if_neg (by omega), if_neg (by omega), wr_eq (x := s0 + t0) (by omega) (by omega), wr_eq (x := s1 + t1) (by omega) (by omega), Int.zero_add, wr_eq (x := p0) (by omega) (by omega), wr_eq (x := p0 + p1) (by omega) (by omega), slc_0 (by omega) (by omega), slc_0 (l := P) (by omega) (by omega), slc_eq (l := l) (f := s0 + t0) (by omega) (by omega) (by omega), show p0 + p1 = (P.length : Int) by omega, slc_e (l := P) (by omega) (by omega), slc_e (by omega) (by omega)]
    rw [app60_n (by rw [List.length_take]; omega), app60_ok (a := l.take s0.toNat) (by rw [List.length_take, List.length_take]; omega), app60_ok (a := l.take s0.toNat ++ P.take p0.toNat) (by simp only [List.length_append, List.length_take, List.length_drop]; omega), app60_ok (a := l.take s0.toNat ++ P.take p0.toNat ++ (l.drop (s0 + t0).toNat).take (s1 - (s0 + t0)).toNat) (by simp only [List.length_append, List.length_take, List.length_drop]; omega), app60_ok (by simp only [List.length_append, List.length_take, List.length_drop]; omega)]
  | (2, ([a, b, kb, z], _)), hc, hs, ho =>
    obtain ⟨d, e, f, g, h, i, P, rfl⟩ := hc
    rw [eD_2]
    unfold apV
    dsimp only
    rw [if_neg (by decide)]
theorem eD_len {D : gD} {l : List Int} (hl : l.length ≤ 60) (ho : okD D l) : (eD D l).length ≤ 60 := by
  match D, ho with
  | (0, ([s, t], P)), ho =>
    rw [okD_0] at ho
    rw [eD_0]
    simp only [List.length_append, List.length_take, List.length_drop]
    omega
  | (1, ([s0, t0, p0, s1, t1, p1], P)), ho =>
    rw [okD_1] at ho
    rw [eD_1]
    simp only [List.length_append, List.length_take, List.length_drop]
    omega
  | (2, ([a, b, kb, z], _)), ho =>
    rw [eD_2]
    unfold mkL
    rw [List.length_map, List.length_range]
    exact hl
/-! ===== the draft, as it is made ===== -/
abbrev DS0 (M : mem) (s : Nat) : Prop := M s 0 = 0 ∧ M s 5 = 0 ∧ tk M (s + 6) = []
abbrev DS1 (M : mem) (s : Nat) (f t n : Int) (P : List Int) : Prop := M s 0 = 0 ∧ M s 5 = 1 ∧ M (s + 1) 0 = f ∧ M (s + 2) 0 = t ∧ M (s + 3) 0 = n ∧ tk M (s + 6) = P
abbrev DS2 (M : mem) (s : Nat) (f0 t0 n0 f t n : Int) (P : List Int) : Prop := M s 0 = 0 ∧ M s 5 = 2 ∧ (M (s + 1) 0 = f0 ∧ M (s + 2) 0 = t0 ∧ M (s + 3) 0 = n0) ∧ M (s + 1) 1 = f ∧ M (s + 2) 1 = t ∧ M (s + 3) 1 = n ∧ tk M (s + 6) = P
theorem DS1_D {M : mem} {s : Nat} {f t n : Int} {P : List Int} (h : DS1 M s f t n P) (hn : n = (P.length : Int)) : cVD (sv M s) (0, ([f, t], P)) := by
  obtain ⟨h0, h5, h1, h2, h3, h6⟩ := h
  refine ⟨M s 1, M s 2, M s 3, M s 4, M (s + 1) 1, M (s + 2) 1, M (s + 3) 1, ?_⟩
  unfold sv
  rw [h0, h5, h1, h2, h3, h6, hn]
theorem DS2_D {M : mem} {s : Nat} {f0 t0 n0 f t n : Int} {P : List Int} (h : DS2 M s f0 t0 n0 f t n P) : cVD (sv M s) (1, ([f0, t0, n0, f, t, n], P)) := by
  obtain ⟨h0, h5, ⟨a1, a2, a3⟩, h1, h2, h3, h6⟩ := h
  refine ⟨M s 1, M s 2, M s 3, M s 4, ?_⟩
  unfold sv
  rw [h0, h5, h1, h2, h3, h6, a1, a2, a3]
theorem x_becomeChange {X : scr} {M : mem} {s : Nat} (hs : ly_c s = 4) (hT : TI M) : At X 0 22 0 [vr s] [] M (qV (fun M' => fr (blk s) M M' ∧ TI M' ∧ DS0 M' s)) := At.mono (c_becomeChange hs) (fun t v M1 h => by
  obtain ⟨h0, h1, hM1⟩ := h
  have f1 : fr (blk s) M M1 := by rw [hM1]; (repeat (first | exact fr_rf | refine fr_ums ?_ (by (try dsimp only [blk]); first | done | omega)))
  refine ⟨h0, h1, f1, TI_fr hT f1 (fun k hk hP => ?_), ?_, ?_, ?_⟩
  · have hq := hT k hk
    have e1 : k ≠ s := fun e => by rw [e, hs] at hk; exact absurd hk (by decide)
    rw [hM1]; unfold tkI
    by_cases e4 : k = s + 4
    · subst e4; simp (disch := omega) only [um_eq, um_k, um_j]; omega
    · by_cases e6 : k = s + 6
      · subst e6; simp (disch := omega) only [um_eq, um_k, um_j]; omega
      · simp (disch := omega) only [um_eq, um_k, um_j]; exact hq
  · rw [hM1]; simp (disch := omega) only [um_eq, um_k, um_j]
  · rw [hM1]; simp (disch := omega) only [um_eq, um_k, um_j]
  · unfold tk; rw [hM1, um_eq]; rfl)

set_option maxRecDepth 100000 in
set_option maxHeartbeats 4000000 in
theorem x_addRange0 {X : scr} {M : mem} {s : Nat} {f t : Int} (hs : ly_c s = 4) (hf : inR f) (ht : inR t) (hT : TI M) (hD : DS0 M s) : At X 0 23 0 [vr s, vi f, vi t] [] M (qV (fun M' => fr (blk s) M M' ∧ TI M' ∧ DS1 M' s f t 0 [])) := by
  have h5 : M s 5 = 0 := hD.2.1
  refine at_aload dx_23_0 rfl ?_
  refine at_getI 5 dx_23_1 hs rfl rfl (fun r1 => ?_)
  refine at_zltR dx_23_2 r1 (fun c2 => ?_) (fun c2 => ?_)
  · skip
    refine at_vretV dx_23_31 ?_
    first
    | (exfalso; omega)
    | (refine ⟨by (repeat (first | exact fr_rf | refine fr_ums ?_ (by (try dsimp only [blk]); first | done | omega))), by exact TI_um (TI_um (TI_um (TI_um hT (by rw [st_c1 hs]; decide)) (by rw [st_c2 hs]; decide)) (by rw [st_c3 hs]; decide)) (by rw [hs]; decide), ?_⟩
       obtain ⟨d0, -, d6⟩ := hD
       refine ⟨?_, ?_, ?_, ?_, ?_, ?_⟩
       all_goals first | (rw [← d6]; exact tk_fr (P := fun q => q = s ∨ q = s + 1 ∨ q = s + 2 ∨ q = s + 3) (by (repeat (first | exact fr_rf | refine fr_ums ?_ (by (try dsimp only [blk]); first | done | omega)))) (by omega) (by omega)) | (simp (disch := omega) only [um_eq, um_k, um_j, h5]; first | done | omega))
  · skip
    refine at_aload dx_23_3 rfl ?_
    refine at_getI 5 dx_23_4 hs rfl rfl (fun r4 => ?_)
    refine at_const (x := 2) dx_23_5 rfl ?_
    refine at_cgeR dx_23_6 r4 (by decide) (fun c6 => ?_) (fun c6 => ?_)
    · skip
      refine at_vretV dx_23_31 ?_
      first
      | (exfalso; omega)
      | (refine ⟨by (repeat (first | exact fr_rf | refine fr_ums ?_ (by (try dsimp only [blk]); first | done | omega))), by exact TI_um (TI_um (TI_um (TI_um hT (by rw [st_c1 hs]; decide)) (by rw [st_c2 hs]; decide)) (by rw [st_c3 hs]; decide)) (by rw [hs]; decide), ?_⟩
         obtain ⟨d0, -, d6⟩ := hD
         refine ⟨?_, ?_, ?_, ?_, ?_, ?_⟩
         all_goals first | (rw [← d6]; exact tk_fr (P := fun q => q = s ∨ q = s + 1 ∨ q = s + 2 ∨ q = s + 3) (by (repeat (first | exact fr_rf | refine fr_ums ?_ (by (try dsimp only [blk]); first | done | omega)))) (by omega) (by omega)) | (simp (disch := omega) only [um_eq, um_k, um_j, h5]; first | done | omega))
    · skip
      refine at_aload dx_23_7 rfl ?_
      refine at_getR dx_23_8 hs rfl (st_t6 hs) ?_
      refine at_aload dx_23_9 rfl ?_
      refine at_getI 5 dx_23_10 hs rfl rfl (fun r10 => ?_)
      refine at_iload dx_23_11 rfl ?_
      refine at_astI dx_23_12 (st_c1 hs) (st_n1 hs) (by first | omega | (simp (disch := omega) only [um_eq, um_k, um_j]; omega)) (by first | omega | (simp (disch := omega) only [um_eq, um_k, um_j]; omega)) hf ?_
      refine at_aload dx_23_13 rfl ?_
      refine at_getR dx_23_14 hs rfl (st_t7 hs) ?_
      refine at_aload dx_23_15 rfl ?_
      refine at_getI 5 dx_23_16 hs rfl rfl (fun r16 => ?_)
      refine at_iload dx_23_17 rfl ?_
      refine at_astI dx_23_18 (st_c2 hs) (st_n2 hs) (by first | omega | (simp (disch := omega) only [um_eq, um_k, um_j]; omega)) (by first | omega | (simp (disch := omega) only [um_eq, um_k, um_j]; omega)) ht ?_
      refine at_aload dx_23_19 rfl ?_
      refine at_getR dx_23_20 hs rfl (st_t8 hs) ?_
      refine at_aload dx_23_21 rfl ?_
      refine at_getI 5 dx_23_22 hs rfl rfl (fun r22 => ?_)
      refine at_const (x := 0) dx_23_23 rfl ?_
      refine at_astI dx_23_24 (st_c3 hs) (st_n3 hs) (by first | omega | (simp (disch := omega) only [um_eq, um_k, um_j]; omega)) (by first | omega | (simp (disch := omega) only [um_eq, um_k, um_j]; omega)) (by decide) ?_
      refine at_aload dx_23_25 rfl ?_
      refine at_dup dx_23_26 rfl ?_
      refine at_getI 5 dx_23_27 hs rfl rfl (fun r27 => ?_)
      refine at_const (x := 1) dx_23_28 rfl ?_
      refine at_addR dx_23_29 (by (simp (disch := omega) only [um_eq, um_k, um_j]; constructor <;> omega)) (fun r29 => ?_)
      refine at_putI 5 dx_23_30 hs rfl rfl r29 ?_
      refine at_vretV dx_23_31 ?_
      first
      | (exfalso; omega)
      | (refine ⟨by (repeat (first | exact fr_rf | refine fr_ums ?_ (by (try dsimp only [blk]); first | done | omega))), by exact TI_um (TI_um (TI_um (TI_um hT (by rw [st_c1 hs]; decide)) (by rw [st_c2 hs]; decide)) (by rw [st_c3 hs]; decide)) (by rw [hs]; decide), ?_⟩
         obtain ⟨d0, -, d6⟩ := hD
         refine ⟨?_, ?_, ?_, ?_, ?_, ?_⟩
         all_goals first | (rw [← d6]; exact tk_fr (P := fun q => q = s ∨ q = s + 1 ∨ q = s + 2 ∨ q = s + 3) (by (repeat (first | exact fr_rf | refine fr_ums ?_ (by (try dsimp only [blk]); first | done | omega)))) (by omega) (by omega)) | (simp (disch := omega) only [um_eq, um_k, um_j, h5]; first | done | omega))

set_option maxRecDepth 100000 in
set_option maxHeartbeats 4000000 in
theorem x_addRange1 {X : scr} {M : mem} {s : Nat} {f t f0 t0 n0 : Int} {P : List Int} (hs : ly_c s = 4) (hf : inR f) (ht : inR t) (hT : TI M) (hD : DS1 M s f0 t0 n0 P) : At X 0 23 0 [vr s, vi f, vi t] [] M (qV (fun M' => fr (blk s) M M' ∧ TI M' ∧ DS2 M' s f0 t0 n0 f t 0 P)) := by
  have h5 : M s 5 = 1 := hD.2.1
  refine at_aload dx_23_0 rfl ?_
  refine at_getI 5 dx_23_1 hs rfl rfl (fun r1 => ?_)
  refine at_zltR dx_23_2 r1 (fun c2 => ?_) (fun c2 => ?_)
  · skip
    refine at_vretV dx_23_31 ?_
    first
    | (exfalso; omega)
    | (refine ⟨by (repeat (first | exact fr_rf | refine fr_ums ?_ (by (try dsimp only [blk]); first | done | omega))), by exact TI_um (TI_um (TI_um (TI_um hT (by rw [st_c1 hs]; decide)) (by rw [st_c2 hs]; decide)) (by rw [st_c3 hs]; decide)) (by rw [hs]; decide), ?_⟩
       obtain ⟨d0, -, d1, d2, d3, d6⟩ := hD
       refine ⟨?_, ?_, ⟨?_, ?_, ?_⟩, ?_, ?_, ?_, ?_⟩
       all_goals first | (rw [← d6]; exact tk_fr (P := fun q => q = s ∨ q = s + 1 ∨ q = s + 2 ∨ q = s + 3) (by (repeat (first | exact fr_rf | refine fr_ums ?_ (by (try dsimp only [blk]); first | done | omega)))) (by omega) (by omega)) | (simp (disch := omega) only [um_eq, um_k, um_j, h5]; first | done | omega))
  · skip
    refine at_aload dx_23_3 rfl ?_
    refine at_getI 5 dx_23_4 hs rfl rfl (fun r4 => ?_)
    refine at_const (x := 2) dx_23_5 rfl ?_
    refine at_cgeR dx_23_6 r4 (by decide) (fun c6 => ?_) (fun c6 => ?_)
    · skip
      refine at_vretV dx_23_31 ?_
      first
      | (exfalso; omega)
      | (refine ⟨by (repeat (first | exact fr_rf | refine fr_ums ?_ (by (try dsimp only [blk]); first | done | omega))), by exact TI_um (TI_um (TI_um (TI_um hT (by rw [st_c1 hs]; decide)) (by rw [st_c2 hs]; decide)) (by rw [st_c3 hs]; decide)) (by rw [hs]; decide), ?_⟩
         obtain ⟨d0, -, d1, d2, d3, d6⟩ := hD
         refine ⟨?_, ?_, ⟨?_, ?_, ?_⟩, ?_, ?_, ?_, ?_⟩
         all_goals first | (rw [← d6]; exact tk_fr (P := fun q => q = s ∨ q = s + 1 ∨ q = s + 2 ∨ q = s + 3) (by (repeat (first | exact fr_rf | refine fr_ums ?_ (by (try dsimp only [blk]); first | done | omega)))) (by omega) (by omega)) | (simp (disch := omega) only [um_eq, um_k, um_j, h5]; first | done | omega))
    · skip
      refine at_aload dx_23_7 rfl ?_
      refine at_getR dx_23_8 hs rfl (st_t6 hs) ?_
      refine at_aload dx_23_9 rfl ?_
      refine at_getI 5 dx_23_10 hs rfl rfl (fun r10 => ?_)
      refine at_iload dx_23_11 rfl ?_
      refine at_astI dx_23_12 (st_c1 hs) (st_n1 hs) (by first | omega | (simp (disch := omega) only [um_eq, um_k, um_j]; omega)) (by first | omega | (simp (disch := omega) only [um_eq, um_k, um_j]; omega)) hf ?_
      refine at_aload dx_23_13 rfl ?_
      refine at_getR dx_23_14 hs rfl (st_t7 hs) ?_
      refine at_aload dx_23_15 rfl ?_
      refine at_getI 5 dx_23_16 hs rfl rfl (fun r16 => ?_)
      refine at_iload dx_23_17 rfl ?_
      refine at_astI dx_23_18 (st_c2 hs) (st_n2 hs) (by first | omega | (simp (disch := omega) only [um_eq, um_k, um_j]; omega)) (by first | omega | (simp (disch := omega) only [um_eq, um_k, um_j]; omega)) ht ?_
      refine at_aload dx_23_19 rfl ?_
      refine at_getR dx_23_20 hs rfl (st_t8 hs) ?_
      refine at_aload dx_23_21 rfl ?_
      refine at_getI 5 dx_23_22 hs rfl rfl (fun r22 => ?_)
      refine at_const (x := 0) dx_23_23 rfl ?_
      refine at_astI dx_23_24 (st_c3 hs) (st_n3 hs) (by first | omega | (simp (disch := omega) only [um_eq, um_k, um_j]; omega)) (by first | omega | (simp (disch := omega) only [um_eq, um_k, um_j]; omega)) (by decide) ?_
      refine at_aload dx_23_25 rfl ?_
      refine at_dup dx_23_26 rfl ?_
      refine at_getI 5 dx_23_27 hs rfl rfl (fun r27 => ?_)
      refine at_const (x := 1) dx_23_28 rfl ?_
      refine at_addR dx_23_29 (by (simp (disch := omega) only [um_eq, um_k, um_j]; constructor <;> omega)) (fun r29 => ?_)
      refine at_putI 5 dx_23_30 hs rfl rfl r29 ?_
      refine at_vretV dx_23_31 ?_
      first
      | (exfalso; omega)
      | (refine ⟨by (repeat (first | exact fr_rf | refine fr_ums ?_ (by (try dsimp only [blk]); first | done | omega))), by exact TI_um (TI_um (TI_um (TI_um hT (by rw [st_c1 hs]; decide)) (by rw [st_c2 hs]; decide)) (by rw [st_c3 hs]; decide)) (by rw [hs]; decide), ?_⟩
         obtain ⟨d0, -, d1, d2, d3, d6⟩ := hD
         refine ⟨?_, ?_, ⟨?_, ?_, ?_⟩, ?_, ?_, ?_, ?_⟩
         all_goals first | (rw [← d6]; exact tk_fr (P := fun q => q = s ∨ q = s + 1 ∨ q = s + 2 ∨ q = s + 3) (by (repeat (first | exact fr_rf | refine fr_ums ?_ (by (try dsimp only [blk]); first | done | omega)))) (by omega) (by omega)) | (simp (disch := omega) only [um_eq, um_k, um_j, h5]; first | done | omega))

set_option maxRecDepth 100000 in
set_option maxHeartbeats 4000000 in
theorem x_addPut1 {X : scr} {M : mem} {s : Nat} {t f0 t0 n : Int} {P : List Int} (hs : ly_c s = 4) (ht : inR t) (hT : TI M) (hn : 0 ≤ n ∧ n ≤ 60) (hP : P.length < 60) (hD : DS1 M s f0 t0 n P) : At X 0 24 0 [vr s, vi t] [] M (qV (fun M' => fr (blk s) M M' ∧ TI M' ∧ DS1 M' s f0 t0 (n + 1) (P ++ [t]))) := by
  have h5 : M s 5 = 1 := hD.2.1
  have hn3 : M (s + 3) 0 = n := hD.2.2.2.2.1
  refine at_aload dx_24_0 rfl ?_
  refine at_getI 5 dx_24_1 hs rfl rfl (fun r1 => ?_)
  refine at_zleR dx_24_2 r1 (fun c2 => ?_) (fun c2 => ?_)
  · skip
    refine at_vretV dx_24_22 ?_
    first
    | (exfalso; omega)
    | (refine ⟨fr_ums (fr_le e1 (fun q h => by (try dsimp only [blk] at h ⊢); first | done | omega)) (by (try dsimp only [blk]); first | done | omega), TI_um e3 (by rw [st_c3 hs]; decide), ?_⟩
       rw [e2, h5, show (1 : Int) - 1 = 0 from rfl]
       have g : ∀ q j, q = s ∨ q = s + 1 ∨ q = s + 2 ∨ q = s + 3 → addM M (s + 6) t q j = M q j := fun q j hq => e1 q j (by omega)
       obtain ⟨d0, d5, d1, d2, d3, d6⟩ := hD
       refine ⟨?_, ?_, ?_, ?_, ?_, ?_⟩
       all_goals first | (rw [tk_fr (P := fun q => q = s + 3) (fr_um rfl) (by omega) (by omega), et, d6]; done) | (simp (disch := omega) only [um_eq, um_k, um_j]; rw [g _ _ (by omega)]; first | assumption | omega) | (rw [um_eq, g _ _ (by omega)]; omega))
  · skip
    refine at_aload dx_24_3 rfl ?_
    refine at_getI 5 dx_24_4 hs rfl rfl (fun r4 => ?_)
    refine at_const (x := 2) dx_24_5 rfl ?_
    refine at_cgtR dx_24_6 r4 (by decide) (fun c6 => ?_) (fun c6 => ?_)
    · skip
      refine at_vretV dx_24_22 ?_
      first
      | (exfalso; omega)
      | (refine ⟨fr_ums (fr_le e1 (fun q h => by (try dsimp only [blk] at h ⊢); first | done | omega)) (by (try dsimp only [blk]); first | done | omega), TI_um e3 (by rw [st_c3 hs]; decide), ?_⟩
         rw [e2, h5, show (1 : Int) - 1 = 0 from rfl]
         have g : ∀ q j, q = s ∨ q = s + 1 ∨ q = s + 2 ∨ q = s + 3 → addM M (s + 6) t q j = M q j := fun q j hq => e1 q j (by omega)
         obtain ⟨d0, d5, d1, d2, d3, d6⟩ := hD
         refine ⟨?_, ?_, ?_, ?_, ?_, ?_⟩
         all_goals first | (rw [tk_fr (P := fun q => q = s + 3) (fr_um rfl) (by omega) (by omega), et, d6]; done) | (simp (disch := omega) only [um_eq, um_k, um_j]; rw [g _ _ (by omega)]; first | assumption | omega) | (rw [um_eq, g _ _ (by omega)]; omega))
    · skip
      refine at_aload dx_24_7 rfl ?_
      refine at_getR dx_24_8 hs rfl (st_t10 hs) ?_
      refine at_iload dx_24_9 rfl ?_
      refine at_callVV dx_24_10 rfl (st_c6 hs) rfl (c_add (st_c6 hs) ht (hT _ (st_c6 hs))) ?_
      rintro _ rfl
      have e1 := addM_fr M (s + 6) t
      have e2 : addM M (s + 6) t s 5 = M s 5 := e1 _ _ (by omega)
      have g3 : ∀ j, addM M (s + 6) t (s + 3) j = M (s + 3) j := fun j => e1 _ _ (by omega)
      have e3 : TI (addM M (s + 6) t) := TI_fr hT e1 (fun k hk he => by
        rcases he with rfl | rfl
        · exact addM_I (hT _ hk)
        · exact absurd (tk_e hk) (by have := st_ev hs; omega))
      have et : tk (addM M (s + 6) t) (s + 6) = tk M (s + 6) ++ [t] := by rw [addM_tk (hT _ (st_c6 hs))]; exact List.take_of_length_le (by rw [hD.2.2.2.2.2, List.length_append]; show _ + 1 ≤ 60; omega)
      refine at_aload dx_24_11 rfl ?_
      refine at_getR dx_24_12 hs rfl (st_t8 hs) ?_
      refine at_aload dx_24_13 rfl ?_
      refine at_getI 5 dx_24_14 hs rfl rfl (fun r14 => ?_)
      refine at_const (x := 1) dx_24_15 rfl ?_
      refine at_subR dx_24_16 (by (first | (rw [e2]; constructor <;> omega) | (rw [e2, g3, show M s 5 - 1 = 0 by omega, hn3]; constructor <;> omega))) (fun r16 => ?_)
      refine at_dup2 dx_24_17 rfl rfl ?_
      refine at_aldI dx_24_18 (st_c3 hs) (st_n3 hs) (by omega) (by omega) (fun r18 => ?_)
      refine at_const (x := 1) dx_24_19 rfl ?_
      refine at_addR dx_24_20 (by (first | (rw [e2]; constructor <;> omega) | (rw [e2, g3, show M s 5 - 1 = 0 by omega, hn3]; constructor <;> omega))) (fun r20 => ?_)
      refine at_astI dx_24_21 (st_c3 hs) (st_n3 hs) (by omega) (by omega) r20 ?_
      refine at_vretV dx_24_22 ?_
      first
      | (exfalso; omega)
      | (refine ⟨fr_ums (fr_le e1 (fun q h => by (try dsimp only [blk] at h ⊢); first | done | omega)) (by (try dsimp only [blk]); first | done | omega), TI_um e3 (by rw [st_c3 hs]; decide), ?_⟩
         rw [e2, h5, show (1 : Int) - 1 = 0 from rfl]
         have g : ∀ q j, q = s ∨ q = s + 1 ∨ q = s + 2 ∨ q = s + 3 → addM M (s + 6) t q j = M q j := fun q j hq => e1 q j (by omega)
         obtain ⟨d0, d5, d1, d2, d3, d6⟩ := hD
         refine ⟨?_, ?_, ?_, ?_, ?_, ?_⟩
         all_goals first | (rw [tk_fr (P := fun q => q = s + 3) (fr_um rfl) (by omega) (by omega), et, d6]; done) | (simp (disch := omega) only [um_eq, um_k, um_j]; rw [g _ _ (by omega)]; first | assumption | omega) | (rw [um_eq, g _ _ (by omega)]; omega))

set_option maxRecDepth 100000 in
set_option maxHeartbeats 4000000 in
theorem x_addPut2 {X : scr} {M : mem} {s : Nat} {t f0 t0 n n0 f1 t1 : Int} {P : List Int} (hs : ly_c s = 4) (ht : inR t) (hT : TI M) (hn : 0 ≤ n ∧ n ≤ 60) (hP : P.length < 60) (hD : DS2 M s f0 t0 n0 f1 t1 n P) : At X 0 24 0 [vr s, vi t] [] M (qV (fun M' => fr (blk s) M M' ∧ TI M' ∧ DS2 M' s f0 t0 n0 f1 t1 (n + 1) (P ++ [t]))) := by
  have h5 : M s 5 = 2 := hD.2.1
  have hn3 : M (s + 3) 1 = n := hD.2.2.2.2.2.1
  refine at_aload dx_24_0 rfl ?_
  refine at_getI 5 dx_24_1 hs rfl rfl (fun r1 => ?_)
  refine at_zleR dx_24_2 r1 (fun c2 => ?_) (fun c2 => ?_)
  · skip
    refine at_vretV dx_24_22 ?_
    first
    | (exfalso; omega)
    | (refine ⟨fr_ums (fr_le e1 (fun q h => by (try dsimp only [blk] at h ⊢); first | done | omega)) (by (try dsimp only [blk]); first | done | omega), TI_um e3 (by rw [st_c3 hs]; decide), ?_⟩
       rw [e2, h5, show (2 : Int) - 1 = 1 from rfl]
       have g : ∀ q j, q = s ∨ q = s + 1 ∨ q = s + 2 ∨ q = s + 3 → addM M (s + 6) t q j = M q j := fun q j hq => e1 q j (by omega)
       obtain ⟨d0, d5, ⟨b1, b2, b3⟩, d1, d2, d3, d6⟩ := hD
       refine ⟨?_, ?_, ⟨?_, ?_, ?_⟩, ?_, ?_, ?_, ?_⟩
       all_goals first | (rw [tk_fr (P := fun q => q = s + 3) (fr_um rfl) (by omega) (by omega), et, d6]; done) | (simp (disch := omega) only [um_eq, um_k, um_j]; rw [g _ _ (by omega)]; first | assumption | omega) | (rw [um_eq, g _ _ (by omega)]; omega))
  · skip
    refine at_aload dx_24_3 rfl ?_
    refine at_getI 5 dx_24_4 hs rfl rfl (fun r4 => ?_)
    refine at_const (x := 2) dx_24_5 rfl ?_
    refine at_cgtR dx_24_6 r4 (by decide) (fun c6 => ?_) (fun c6 => ?_)
    · skip
      refine at_vretV dx_24_22 ?_
      first
      | (exfalso; omega)
      | (refine ⟨fr_ums (fr_le e1 (fun q h => by (try dsimp only [blk] at h ⊢); first | done | omega)) (by (try dsimp only [blk]); first | done | omega), TI_um e3 (by rw [st_c3 hs]; decide), ?_⟩
         rw [e2, h5, show (2 : Int) - 1 = 1 from rfl]
         have g : ∀ q j, q = s ∨ q = s + 1 ∨ q = s + 2 ∨ q = s + 3 → addM M (s + 6) t q j = M q j := fun q j hq => e1 q j (by omega)
         obtain ⟨d0, d5, ⟨b1, b2, b3⟩, d1, d2, d3, d6⟩ := hD
         refine ⟨?_, ?_, ⟨?_, ?_, ?_⟩, ?_, ?_, ?_, ?_⟩
         all_goals first | (rw [tk_fr (P := fun q => q = s + 3) (fr_um rfl) (by omega) (by omega), et, d6]; done) | (simp (disch := omega) only [um_eq, um_k, um_j]; rw [g _ _ (by omega)]; first | assumption | omega) | (rw [um_eq, g _ _ (by omega)]; omega))
    · skip
      refine at_aload dx_24_7 rfl ?_
      refine at_getR dx_24_8 hs rfl (st_t10 hs) ?_
      refine at_iload dx_24_9 rfl ?_
      refine at_callVV dx_24_10 rfl (st_c6 hs) rfl (c_add (st_c6 hs) ht (hT _ (st_c6 hs))) ?_
      rintro _ rfl
      have e1 := addM_fr M (s + 6) t
      have e2 : addM M (s + 6) t s 5 = M s 5 := e1 _ _ (by omega)
      have g3 : ∀ j, addM M (s + 6) t (s + 3) j = M (s + 3) j := fun j => e1 _ _ (by omega)
      have e3 : TI (addM M (s + 6) t) := TI_fr hT e1 (fun k hk he => by
        rcases he with rfl | rfl
        · exact addM_I (hT _ hk)
        · exact absurd (tk_e hk) (by have := st_ev hs; omega))
      have et : tk (addM M (s + 6) t) (s + 6) = tk M (s + 6) ++ [t] := by rw [addM_tk (hT _ (st_c6 hs))]; exact List.take_of_length_le (by rw [hD.2.2.2.2.2.2, List.length_append]; show _ + 1 ≤ 60; omega)
      refine at_aload dx_24_11 rfl ?_
      refine at_getR dx_24_12 hs rfl (st_t8 hs) ?_
      refine at_aload dx_24_13 rfl ?_
      refine at_getI 5 dx_24_14 hs rfl rfl (fun r14 => ?_)
      refine at_const (x := 1) dx_24_15 rfl ?_
      refine at_subR dx_24_16 (by (first | (rw [e2]; constructor <;> omega) | (rw [e2, g3, show M s 5 - 1 = 1 by omega, hn3]; constructor <;> omega))) (fun r16 => ?_)
      refine at_dup2 dx_24_17 rfl rfl ?_
      refine at_aldI dx_24_18 (st_c3 hs) (st_n3 hs) (by omega) (by omega) (fun r18 => ?_)
      refine at_const (x := 1) dx_24_19 rfl ?_
      refine at_addR dx_24_20 (by (first | (rw [e2]; constructor <;> omega) | (rw [e2, g3, show M s 5 - 1 = 1 by omega, hn3]; constructor <;> omega))) (fun r20 => ?_)
      refine at_astI dx_24_21 (st_c3 hs) (st_n3 hs) (by omega) (by omega) r20 ?_
      refine at_vretV dx_24_22 ?_
      first
      | (exfalso; omega)
      | (refine ⟨fr_ums (fr_le e1 (fun q h => by (try dsimp only [blk] at h ⊢); first | done | omega)) (by (try dsimp only [blk]); first | done | omega), TI_um e3 (by rw [st_c3 hs]; decide), ?_⟩
         rw [e2, h5, show (2 : Int) - 1 = 1 from rfl]
         have g : ∀ q j, q = s ∨ q = s + 1 ∨ q = s + 2 ∨ q = s + 3 → addM M (s + 6) t q j = M q j := fun q j hq => e1 q j (by omega)
         obtain ⟨d0, d5, ⟨b1, b2, b3⟩, d1, d2, d3, d6⟩ := hD
         refine ⟨?_, ?_, ⟨?_, ?_, ?_⟩, ?_, ?_, ?_, ?_⟩
         all_goals first | (rw [tk_fr (P := fun q => q = s + 3) (fr_um rfl) (by omega) (by omega), et, d6]; done) | (simp (disch := omega) only [um_eq, um_k, um_j]; rw [g _ _ (by omega)]; first | assumption | omega) | (rw [um_eq, g _ _ (by omega)]; omega))
