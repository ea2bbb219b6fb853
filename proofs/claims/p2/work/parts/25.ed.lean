/-! ===== the class's edits, exact ===== -/
abbrev gd (K Q : Int → Int) (l : List Int) (D : gD) : Prop := okD D l ∧ acc K Q (eD D l)
/-- the first of some edits that can be made -/
abbrev FST (K Q : Int → Int) (l : List Int) (cs : List gD) (D : gD) : Prop := ∃ pre post, cs = pre ++ D :: post ∧ gd K Q l D ∧ ∀ x ∈ pre, ¬ gd K Q l x
abbrev wq (q : Nat) : Prop := (q = 4 ∨ q = 5) ∨ (12 ≤ q ∧ q ≤ 23) ∨ (25 ≤ q ∧ q ≤ 31) ∨ (512 ≤ q ∧ q < 592)
abbrev pq (c n q : Nat) : Prop := wq q ∨ q = c ∨ q = c + 4 ∨ q = c + 5 ∨ blk (c + 8 + 8 * n) q
noncomputable def cl (x : Int) : Nat := 592 + 88 * x.toNat
/-- an edit of a client has become pending -/
abbrev OutC (M M' : mem) (c : Nat) (cs : List gD) : Prop := CI M' ∧ (0 ≤ M c 2 ∧ M c 2 < 10) ∧ ∃ D, smD D ∧ FST (M 2) (M 3) (tk M (c + 4)) cs D ∧ fr (pq c (M c 2).toNat) M M' ∧ M' c 0 = M c 0 ∧ M' c 2 = M c 2 + 1 ∧ cVD (sv M' (c + 8 + 8 * (M c 2).toNat)) D ∧ tk M' (c + 4) = eD D (tk M (c + 4))
abbrev NoC (M M' : mem) (c : Nat) (cs : List gD) : Prop := CI M' ∧ fr wq M M' ∧ ¬ (M c 2 < 10 ∧ ∃ D ∈ cs, gd (M 2) (M 3) (tk M (c + 4)) D)
abbrev NoX (M M' : mem) : Prop := CI M' ∧ fr wq M M'
/-- what a call of an edit comes to, of the class -/
noncomputable def OC (x : Int) (cs : List Int → List Int → List gD) (M M' : mem) : Prop :=
  (0 ≤ x ∧ x < 3 ∧ (OutC M M' (cl x) (cs (tk M (cl x + 4)) (tk M (cl x + 6))) ∨ NoC M M' (cl x) (cs (tk M (cl x + 4)) (tk M (cl x + 6))))) ∨ (¬ (0 ≤ x ∧ x < 3) ∧ NoX M M')
theorem OC_of {x : Int} {cs : List Int → List Int → List gD} {M M' : mem} {c : Nat} (h0 : 0 ≤ x) (h3 : x < 3) (hcx : c = 592 + 88 * x.toNat) (h : OutC M M' c (cs (tk M (c + 4)) (tk M (c + 6))) ∨ NoC M M' c (cs (tk M (c + 4)) (tk M (c + 6)))) : OC x cs M M' := by
  have e : c = cl x := hcx
  subst e
  exact Or.inl ⟨h0, h3, h⟩
theorem NoC_nil {M M' : mem} {c : Nat} {cs : List gD} (hC : CI M') (f : fr wq M M') (h : cs = []) : NoC M M' c cs := ⟨hC, f, fun ⟨_, D, hD, _⟩ => by rw [h] at hD; cases hD⟩
theorem OC_nil {x : Int} {cs : List Int → List Int → List gD} {M M' : mem} {c : Nat} (h0 : 0 ≤ x) (h3 : x < 3) (hcx : c = 592 + 88 * x.toNat) (hC : CI M') (f : fr wq M M') (h : cs (tk M (c + 4)) (tk M (c + 6)) = []) : OC x cs M M' := OC_of h0 h3 hcx (Or.inr (NoC_nil hC f h))
theorem cVD_2 {V : sV} {D : gD} {l : List Int} (hc : cVD V D) (h : D.1 = 2) : okV V l := by
  match D, hc, h with
  | (2, ([a, b, kb, z], _)), hc, _ =>
    obtain ⟨d, e, f, g, h, i, P, rfl⟩ := hc
    unfold okV
    dsimp only
    rw [if_neg (by decide)]
    trivial
  | (0, _), hc, h => exact absurd h (by show ¬ ((0 : Nat) = 2); decide)
  | (1, _), hc, h => exact absurd h (by show ¬ ((1 : Nat) = 2); decide)
  | (n + 3, _), hc, h => exact absurd h (by show ¬ (n + 3 = 2); omega)
theorem gd_iff {V : sV} {D : gD} {l : List Int} {K Q : Int → Int} (hc : cVD V D) (hs : smD D) (hl : l.length ≤ 60) (hk : D.1 = 2 → okD D l) : (okV V l ∧ acc K Q (apV V l)) ↔ gd K Q l D := by
  have h1 : okV V l ↔ okD D l := by
    by_cases e : D.1 = 2
    · exact ⟨fun _ => hk e, fun _ => cVD_2 hc e⟩
    · exact okV_D hc hs hl e
  constructor
  · rintro ⟨a, b⟩
    have a2 := h1.mp a
    rw [apV_D hc hs hl a2] at b
    exact ⟨a2, b⟩
  · rintro ⟨a, b⟩
    rw [← apV_D hc hs hl a] at b
    exact ⟨h1.mpr a, b⟩
/-- a step has become pending -/
abbrev PND (M M' : mem) (c : Nat) : Prop := CI M' ∧ fr (pq c (M c 2).toNat) M M' ∧ M' c 0 = M c 0 ∧ M' c 2 = M c 2 + 1 ∧ sv M' (c + 8 + 8 * (M c 2).toNat) = sv M 12 ∧ tk M' (c + 4) = apV (sv M 12) (tk M (c + 4)) ∧ (0 ≤ M c 2 ∧ M c 2 < 10) ∧ okV (sv M 12) (tk M (c + 4)) ∧ acc (M 2) (M 3) (apV (sv M 12) (tk M (c + 4)))
abbrev NPD (M M' : mem) (c : Nat) : Prop := CI M' ∧ fr wq M M' ∧ ¬ (M c 2 < 10 ∧ okV (sv M 12) (tk M (c + 4)) ∧ acc (M 2) (M 3) (apV (sv M 12) (tk M (c + 4))))
theorem gd_M {K K' Q Q' : Int → Int} {l l' : List Int} {D : gD} (h1 : K' = K) (h2 : Q' = Q) (h3 : l' = l) (h : gd K' Q' l' D) : gd K Q l D := by subst h1 h2 h3; exact h
section EDX
variable {M M1 M' : mem} {c : Nat} {D : gD} {cs : List gD}
theorem wq_c (hc : ly_c c = 0) (F : fr wq M M1) : (∀ j, M1 c j = M c j) ∧ M1 2 = M 2 ∧ M1 3 = M 3 ∧ tk M1 (c + 4) = tk M (c + 4) ∧ tk M1 (c + 6) = tk M (c + 6) := by
  have h8 := cl_al hc
  exact ⟨fun j => F c j (by dsimp only [wq]; omega), funext (fun j => F 2 j (by dsimp only [wq]; omega)), funext (fun j => F 3 j (by dsimp only [wq]; omega)), tk_fr F (by dsimp only [wq]; omega) (by dsimp only [wq]; omega), tk_fr F (by dsimp only [wq]; omega) (by dsimp only [wq]; omega)⟩
theorem Out_of (hc : ly_c c = 0) (hT : TI M) (F : fr wq M M1) (hD : cVD (sv M1 12) D) (hs : smD D) (hk : D.1 = 2 → okD D (tk M (c + 4))) (hcs : cs = [D]) (h : PND M1 M' c) : OutC M M' c cs := by
  obtain ⟨g0, g2, g3, g4, g6⟩ := wq_c hc F
  have hl : (tk M (c + 4)).length ≤ 60 := tk_len60 (hT _ (cl_c4 hc))
  obtain ⟨a1, a2, a3, a4, a5, a6, a7, a8, a9⟩ := h
  rw [g0] at a2 a3 a4 a5 a7
  rw [g4] at a6 a8 a9
  rw [g2, g3] at a9
  have hg := (gd_iff (K := M 2) (Q := M 3) hD hs hl hk).mp ⟨a8, a9⟩
  have h8 := cl_al hc
  refine ⟨a1, a7, D, hs, ⟨[], [], hcs, hg, fun x hx => by cases hx⟩, fr_tr (fr_le F (fun q h => Or.inl h)) a2, a3, a4, ?_, ?_⟩
  · rw [a5]; exact hD
  · rw [a6, apV_D hD hs hl hg.1]
theorem No_of (hc : ly_c c = 0) (hT : TI M) (F : fr wq M M1) (hD : cVD (sv M1 12) D) (hs : smD D) (hk : D.1 = 2 → okD D (tk M (c + 4))) (hcs : cs = [D]) (h : NPD M1 M' c) : NoC M M' c cs := by
  obtain ⟨g0, g2, g3, g4, g6⟩ := wq_c hc F
  have hl : (tk M (c + 4)).length ≤ 60 := tk_len60 (hT _ (cl_c4 hc))
  obtain ⟨a1, a2, a3⟩ := h
  refine ⟨a1, fr_tr F a2, fun ⟨b1, D', b2, b3⟩ => a3 ?_⟩
  rw [hcs] at b2
  have e : D' = D := List.mem_singleton.mp b2
  subst e
  rw [g0, g4, g2, g3]
  exact ⟨b1, (gd_iff hD hs hl hk).mpr b3⟩
end EDX

set_option maxRecDepth 100000 in
set_option maxHeartbeats 4000000 in
theorem x_isPossible {X : scr} {M : mem} {s b : Nat} (hs : ly_c s = 4) (hb : ly_c b = 5) (h1 : b ≠ s + 4) (h2 : b ≠ s + 6) (h3 : b ≠ 20) (hT : TI M) : At X 0 80 0 [vr 0, vr s, vr b] [] M (qI (fun x M' => fr (fun q => q = 20 ∨ q = 21 ∨ q = s + 4 ∨ q = s + 5 ∨ q = 4 ∨ q = 5) M M' ∧ TI M' ∧ (x = 0 ∨ x = 1) ∧ (x = 1 ↔ okV (sv M s) (tk M b) ∧ acc (M 2) (M 3) (apV (sv M s) (tk M b))) ∧ (x = 1 → tk M' 20 = apV (sv M s) (tk M b)))) := by
  have es := st_ev hs
  have ea := st_al hs
  refine at_aload dx_80_0 rfl ?_
  refine at_aload dx_80_1 rfl ?_
  refine at_aload dx_80_2 rfl ?_
  refine at_getR dx_80_3 lc_0 rfl lt_0_9 ?_
  refine at_callVI dx_80_4 rfl hs rfl (c_applyTo hs hb lc_20 (by omega) h1 h2 (by omega) (by omega) hT) ?_
  rintro x4 M4 r4 ⟨f4, i4, b4, w4, t4⟩
  have g2 : M4 2 = M 2 := funext (fun j => f4 2 j (by (try dsimp only [blk, sq, cq, lo, wq, pq]); first | done | omega))
  have g3 : M4 3 = M 3 := funext (fun j => f4 3 j (by (try dsimp only [blk, sq, cq, lo, wq, pq]); first | done | omega))
  refine at_zeqR dx_80_5 r4 (fun c5 => ?_) (fun c5 => ?_)
  · skip
    refine at_const (x := 0) dx_80_14 rfl ?_
    refine at_zretI dx_80_15 (Or.inl rfl) ?_
    first | (refine ⟨fr_tr (fr_le f4 (fun q h => by (try dsimp only [blk, sq, cq, lo, wq, pq] at h ⊢); first | done | omega)) (fr_le f10 (fun q h => by (try dsimp only [blk, sq, cq, lo, wq, pq] at h ⊢); first | done | omega)), TI_no i4 f10 (fun k hk hP => by have := tk_e hk; omega), Or.inl rfl, ⟨fun e => absurd e (by decide), fun e => ?_⟩, fun e => absurd e (by decide)⟩; have q1 := w4.mpr e.1; have q2 := ha.mpr (by rw [t4 q1]; exact e.2); omega) | exact ⟨fr_le f4 (fun q h => by (try dsimp only [blk, sq, cq, lo, wq, pq] at h ⊢); first | done | omega), i4, Or.inl rfl, ⟨fun e => absurd e (by decide), fun e => by have q1 := w4.mpr e.1; omega⟩, fun e => absurd e (by decide)⟩
  · skip
    refine at_aload dx_80_6 rfl ?_
    refine at_getR dx_80_7 lc_0 rfl lt_0_0 ?_
    refine at_aload dx_80_8 rfl ?_
    refine at_getR dx_80_9 lc_0 rfl lt_0_9 ?_
    refine at_callVI dx_80_10 rfl lc_1 rfl (x_accepts lc_20 (i4 _ lc_20)) ?_
    rintro x10 M10 r10 ⟨f10, hx, ha⟩
    rw [g2, g3] at ha
    refine at_zeqR dx_80_11 r10 (fun c11 => ?_) (fun c11 => ?_)
    · skip
      refine at_const (x := 0) dx_80_14 rfl ?_
      refine at_zretI dx_80_15 (Or.inl rfl) ?_
      first | (refine ⟨fr_tr (fr_le f4 (fun q h => by (try dsimp only [blk, sq, cq, lo, wq, pq] at h ⊢); first | done | omega)) (fr_le f10 (fun q h => by (try dsimp only [blk, sq, cq, lo, wq, pq] at h ⊢); first | done | omega)), TI_no i4 f10 (fun k hk hP => by have := tk_e hk; omega), Or.inl rfl, ⟨fun e => absurd e (by decide), fun e => ?_⟩, fun e => absurd e (by decide)⟩; have q1 := w4.mpr e.1; have q2 := ha.mpr (by rw [t4 q1]; exact e.2); omega) | exact ⟨fr_le f4 (fun q h => by (try dsimp only [blk, sq, cq, lo, wq, pq] at h ⊢); first | done | omega), i4, Or.inl rfl, ⟨fun e => absurd e (by decide), fun e => by have q1 := w4.mpr e.1; omega⟩, fun e => absurd e (by decide)⟩
    · skip
      refine at_const (x := 1) dx_80_12 rfl ?_
      refine at_goto dx_80_13 ?_
      refine at_zretI dx_80_15 (Or.inr rfl) ?_
      have h41 : x4 = 1 := by omega
      have h101 : x10 = 1 := by omega
      exact ⟨fr_tr (fr_le f4 (fun q h => by (try dsimp only [blk, sq, cq, lo, wq, pq] at h ⊢); first | done | omega)) (fr_le f10 (fun q h => by (try dsimp only [blk, sq, cq, lo, wq, pq] at h ⊢); first | done | omega)), TI_no i4 f10 (fun k hk hP => by have := tk_e hk; omega), Or.inr rfl, ⟨fun _ => ⟨w4.mp h41, by rw [← t4 h41]; exact ha.mp h101⟩, fun _ => rfl⟩, fun _ => (tk_fr f10 (by (try dsimp only [blk, sq, cq, lo, wq, pq]); first | done | omega) (by (try dsimp only [blk, sq, cq, lo, wq, pq]); first | done | omega)).trans (t4 h41)⟩

set_option maxRecDepth 100000 in
set_option maxHeartbeats 4000000 in
theorem x_addPending {X : scr} {M : mem} {c : Nat} (hc : ly_c c = 0) (hC : CI M) : At X 0 81 0 [vr 0, vr c] [] M (qT (qV (fun M' => PND M M' c)) (fun e M' => e = 2 ∧ NPD M M' c)) := by
  have h8 := cl_al hc
  obtain ⟨a1, a2, a3, a4, a5, a6⟩ := hC.2.2.2.2.2 c hc
  refine at_aload dx_81_0 rfl ?_
  refine at_getI 2 dx_81_1 hc rfl rfl (fun r1 => ?_)
  refine at_aload dx_81_2 rfl ?_
  refine at_getR dx_81_3 hc rfl (cl_t3 hc) ?_
  refine at_alen dx_81_4 (cl_c1 hc) rfl (cl_n1 hc) ?_
  refine at_cltR dx_81_5 r1 (by decide) (fun c5 => ?_) (fun c5 => ?_)
  · skip
    refine at_aload dx_81_7 rfl ?_
    refine at_aload dx_81_8 rfl ?_
    refine at_getR dx_81_9 lc_0 rfl lt_0_8 ?_
    refine at_aload dx_81_10 rfl ?_
    refine at_getR dx_81_11 hc rfl (cl_t5 hc) ?_
    refine at_callVI dx_81_12 rfl lc_0 rfl (x_isPossible lc_12 (cl_c4 hc) (by omega) (by omega) (by omega) hC.1) ?_
    rintro x12 M1 r12 ⟨f1, i1, b1, wi, w1⟩
    have e1c : ∀ j, M1 c j = M c j := fun j => f1 c j (by (try dsimp only [blk, sq, cq, lo, wq, pq]); first | done | omega)
    refine at_zneR dx_81_13 r12 (fun c13 => ?_) (fun c13 => ?_)
    · skip
      refine at_aload dx_81_15 rfl ?_
      refine at_getR dx_81_16 hc rfl (cl_t5 hc) ?_
      refine at_aload dx_81_17 rfl ?_
      refine at_getR dx_81_18 lc_0 rfl lt_0_9 ?_
      refine at_callVV dx_81_19 rfl (cl_c4 hc) rfl (c_become (cl_c4 hc) lc_20 (by omega) (i1 _ lc_20)) ?_
      rintro M2 ⟨f2, i2, t2⟩
      have e2c : ∀ j, M2 c j = M c j := fun j => (f2 c j (by (try dsimp only [blk, sq, cq, lo, wq, pq]); first | done | omega)).trans (e1c j)
      have T2 : TI M2 := TI_fr i1 f2 (fun k hk hP => by
        rcases hP with h | h
        · subst h; exact i2
        · have := tk_e hk; omega)
      refine at_aload dx_81_20 rfl ?_
      refine at_getR dx_81_21 hc rfl (cl_t3 hc) ?_
      refine at_aload dx_81_22 rfl ?_
      refine at_getI 2 dx_81_23 hc rfl rfl (fun r23 => ?_)
      rw [e2c] at r23 ⊢
      refine at_aldS dx_81_24 (cl_c1 hc) (cl_n1 hc) (by first | omega | (simp (disch := omega) only [um_eq, um_k, um_j]; omega)) (by first | omega | (simp (disch := omega) only [um_eq, um_k, um_j]; omega)) (pd_t hc (by omega) (by omega)) ?_
      refine at_aload dx_81_25 rfl ?_
      refine at_getR dx_81_26 lc_0 rfl lt_0_8 ?_
      refine at_callVV dx_81_27 rfl (pd_c hc (by omega) (by omega)) rfl (c_stepBecome (pd_c hc (by omega) (by omega)) lc_12 (by omega) T2) ?_
      rintro M3 ⟨f3, i3, s3, -⟩
      have e3c : ∀ j, M3 c j = M c j := fun j => (f3 c j (by (try dsimp only [blk, sq, cq, lo, wq, pq]); first | done | omega)).trans (e2c j)
      refine at_aload dx_81_28 rfl ?_
      refine at_dup dx_81_29 rfl ?_
      refine at_getI 2 dx_81_30 hc rfl rfl (fun r30 => ?_)
      rw [e3c] at r30 ⊢
      refine at_const (x := 1) dx_81_31 rfl ?_
      refine at_addR dx_81_32 (by constructor <;> omega) (fun r32 => ?_)
      refine at_putI 2 dx_81_33 hc rfl rfl r32 ?_
      refine at_vretVT dx_81_34 ?_
      obtain ⟨wo, wa⟩ := wi.mp (by omega)
      have wt := w1 (by omega)
      refine (fun M4 (hM4 : M4 = um M3 c 2 (M c 2 + 1)) => ?_ : ∀ M4, M4 = um M3 c 2 (M c 2 + 1) → PND M M4 c) _ rfl
      have f4 : fr (fun q => q = c) M3 M4 := by rw [hM4]; exact fr_um rfl
      have F : fr (fun q => q = 20 ∨ q = 21 ∨ q = 16 ∨ q = 17 ∨ q = 4 ∨ q = 5 ∨ q = c + 4 ∨ q = c + 5 ∨ q = c ∨ blk (c + 8 + 8 * (M c 2).toNat) q) M M4 :=
        fr_tr (fr_tr (fr_tr (fr_le f1 (fun q h => by (try dsimp only [blk, sq, cq, lo, wq, pq] at h ⊢); first | done | omega)) (fr_le f2 (fun q h => by (try dsimp only [blk, sq, cq, lo, wq, pq] at h ⊢); first | done | omega))) (fr_le f3 (fun q h => by (try dsimp only [blk, sq, cq, lo, wq, pq] at h ⊢); first | done | omega))) (fr_le f4 (fun q h => by (try dsimp only [blk, sq, cq, lo, wq, pq] at h ⊢); first | done | omega))
      have T4 : TI M4 := by rw [hM4]; exact TI_um i3 (by rw [hc]; decide)
      have R4 : RI M4 := RI_fr F (by (try dsimp only [blk, sq, cq, lo, wq, pq]); first | done | omega) hC.2.1
      have e0 : ∀ j, M4 0 j = M 0 j := fun j => F 0 j (by (try dsimp only [blk, sq, cq, lo, wq, pq]); first | done | omega)
      have m0 : M4 c 0 = M c 0 := by rw [hM4, um_j (by omega), e3c]
      have m2 : M4 c 2 = M c 2 + 1 := by rw [hM4, um_eq]
      have b2 : tk M4 (c + 2) = tk M (c + 2) := tk_fr F (by (try dsimp only [blk, sq, cq, lo, wq, pq]); first | done | omega) (by (try dsimp only [blk, sq, cq, lo, wq, pq]); first | done | omega)
      have d4 : tk M4 (c + 4) = apV (sv M 12) (tk M (c + 4)) := by
        rw [tk_fr f4 (by (try dsimp only [blk, sq, cq, lo, wq, pq]); first | done | omega) (by (try dsimp only [blk, sq, cq, lo, wq, pq]); first | done | omega), tk_fr f3 (by (try dsimp only [blk, sq, cq, lo, wq, pq]); first | done | omega) (by (try dsimp only [blk, sq, cq, lo, wq, pq]); first | done | omega), t2, wt]
      have sp : sv M4 (c + 8 + 8 * (M c 2).toNat) = sv M 12 := by
        rw [sv_fr f4 (by (try dsimp only [blk, sq, cq, lo, wq, pq]); first | done | omega) (by (try dsimp only [blk, sq, cq, lo, wq, pq]); first | done | omega) (by (try dsimp only [blk, sq, cq, lo, wq, pq]); first | done | omega) (by (try dsimp only [blk, sq, cq, lo, wq, pq]); first | done | omega) (by (try dsimp only [blk, sq, cq, lo, wq, pq]); first | done | omega) (by (try dsimp only [blk, sq, cq, lo, wq, pq]); first | done | omega), s3, sv_fr f2 (by (try dsimp only [blk, sq, cq, lo, wq, pq]); first | done | omega) (by (try dsimp only [blk, sq, cq, lo, wq, pq]); first | done | omega) (by (try dsimp only [blk, sq, cq, lo, wq, pq]); first | done | omega) (by (try dsimp only [blk, sq, cq, lo, wq, pq]); first | done | omega) (by (try dsimp only [blk, sq, cq, lo, wq, pq]); first | done | omega) (by (try dsimp only [blk, sq, cq, lo, wq, pq]); first | done | omega), sv_fr f1 (by (try dsimp only [blk, sq, cq, lo, wq, pq]); first | done | omega) (by (try dsimp only [blk, sq, cq, lo, wq, pq]); first | done | omega) (by (try dsimp only [blk, sq, cq, lo, wq, pq]); first | done | omega) (by (try dsimp only [blk, sq, cq, lo, wq, pq]); first | done | omega) (by (try dsimp only [blk, sq, cq, lo, wq, pq]); first | done | omega) (by (try dsimp only [blk, sq, cq, lo, wq, pq]); first | done | omega)]
      refine ⟨CI_cl hC hc (fr_le F (fun q h => by (try dsimp only [blk, sq, cq, lo, wq, pq] at h ⊢); first | done | omega)) T4 R4 ⟨?_, ?_, ?_, ?_, ?_, ?_⟩, fr_le F (fun q h => by (try dsimp only [blk, sq, cq, lo, wq, pq] at h ⊢); first | done | omega), m0, m2, sp, d4, ⟨a3, by omega⟩, wo, wa⟩
      · rw [m0]; exact a1
      · rw [m0, e0]; exact a2
      · rw [m2]; omega
      · rw [m2]; omega
      · rw [m0, b2, lgV_cg F (by have := hC.2.2.1; omega) (fun q hP => by dsimp only [blk] at hP; omega)]
        exact a5
      · rw [m2, b2, d4, pdV_succ a3, sp, pdV_cg F hc a4 (fun q hP => by dsimp only [blk] at hP; omega)]
        exact (Run_app _ _ _ _).mpr ⟨_, a6, wo, rfl⟩
    · skip
      refine at_thrTW dx_81_14 rfl ?_
      exact ⟨rfl, CI_sq hC (fr_le f1 (fun q h => by (try dsimp only [blk, sq, cq, lo, wq, pq] at h ⊢); first | done | omega)) i1 (RI_fr f1 (by omega) hC.2.1), fr_le f1 (fun q h => by (try dsimp only [blk, sq, cq, lo, wq, pq] at h ⊢); first | done | omega), fun h => by have := wi.mpr h.2; omega⟩
  · skip
    refine at_thrTW dx_81_6 rfl ?_
    exact ⟨rfl, hC, fr_rf, fun h => by omega⟩
