/-! ===== pasting ===== -/
abbrev vq (q : Nat) : Prop := (q = 4 ∨ q = 5) ∨ (12 ≤ q ∧ q ≤ 23)
noncomputable def sl (cp : List Int) (f t : Int) : List Int := (cp.drop f.toNat).take (t - f).toNat
theorem sl_len {cp : List Int} {f t : Int} (h0 : 0 ≤ f) (h1 : f ≤ t) (h2 : t ≤ (cp.length : Int)) : ((sl cp f t).length : Int) = t - f := by
  unfold sl
  rw [List.length_take, List.length_drop]
  omega
theorem sl_nil {cp : List Int} {f : Int} : sl cp f f = [] := by
  unfold sl
  rw [Int.sub_self]
  rfl
theorem sl_succ {cp : List Int} {f i : Int} (h0 : 0 ≤ f) (h1 : f ≤ i) (h2 : i < (cp.length : Int)) : sl cp f i ++ [cp.getD i.toNat 0] = sl cp f (i + 1) := by
  unfold sl
  rw [show (i + 1 - f).toNat = (i - f).toNat + 1 by omega, List.take_add_one, List.getElem?_drop, show f.toNat + (i - f).toNat = i.toNat by omega, List.getD_eq_getElem?_getD, List.getElem?_eq_getElem (by omega)]
  rfl
theorem sl_all {cp : List Int} : sl cp 0 (cp.length : Int) = cp := by
  unfold sl
  rw [Int.sub_zero, Int.toNat_natCast]
  exact List.take_length
/-- where a node of what was copied is closed -/
noncomputable def clq (cp : List Int) (f : Int) : Int := if isO (atL cp f) then fcl (cp.drop f.toNat) 0 f else -1
noncomputable def bareL (cp : List Int) (p : Int) : Nat → Int → Int → List gD
  | 0, _, _ => []
  | k + 1, f, e => @ite _ (f < e) (Classical.propDecidable _) ((0, ([p, 0], sl cp f e)) :: @ite _ (clq cp f = e - 1) (Classical.propDecidable _) (bareL cp p k (f + 1) (e - 1)) []) []
noncomputable def wrapR (cp : List Int) (p : Int) : Nat → Int → List gD
  | 0, _ => []
  | k + 1, t => (0, ([p, 0], t :: cp ++ [0])) :: wrapR cp p k (t + 1)
noncomputable def wrapL (cp : List Int) (p : Int) : List gD := @ite _ (cp.length + 2 ≤ 60) (Classical.propDecidable _) (wrapR cp p 5 1) []
noncomputable def cIL (P : Prop) (L : List gD) : List gD := @ite _ P (Classical.propDecidable P) L []
theorem cIL_t {P : Prop} {L : List gD} (h : P) : cIL P L = L := by unfold cIL; exact if_pos h
theorem cIL_f {P : Prop} {L : List gD} (h : ¬ P) : cIL P L = [] := by unfold cIL; exact if_neg h
noncomputable def csPaste (p : Int) : cfn := fun d cp => cIL ((0 ≤ p ∧ p ≤ (d.length : Int)) ∧ cp ≠ []) (bareL cp p cp.length 0 (cp.length : Int) ++ wrapL cp p)
theorem bareL_nil {cp : List Int} {p f e : Int} (h : ¬ f < e) (k : Nat) : bareL cp p k f e = [] := by
  cases k with
  | zero => rfl
  | succ k => exact if_neg h
theorem bareL_one {cp : List Int} {p f e : Int} {k : Nat} (h : f < e) (hk : 0 < k) (h2 : clq cp f ≠ e - 1) : bareL cp p k f e = [(0, ([p, 0], sl cp f e))] := by
  obtain ⟨k, rfl⟩ : ∃ n, k = n + 1 := ⟨k - 1, by omega⟩
  show @ite _ (f < e) (Classical.propDecidable _) _ [] = _
  rw [if_pos h, if_neg h2]
theorem bareL_more {cp : List Int} {p f e : Int} {k : Nat} (h : f < e) (h2 : clq cp f = e - 1) : bareL cp p (k + 1) f e = (0, ([p, 0], sl cp f e)) :: bareL cp p k (f + 1) (e - 1) := by
  show @ite _ (f < e) (Classical.propDecidable _) _ [] = _
  rw [if_pos h, if_pos h2]
theorem bareL_hd {cp : List Int} {p f e : Int} {k : Nat} (h : f < e) (hk : 0 < k) : ∃ r, bareL cp p k f e = (0, ([p, 0], sl cp f e)) :: r := by
  obtain ⟨k, rfl⟩ : ∃ n, k = n + 1 := ⟨k - 1, by omega⟩
  refine ⟨@ite _ (clq cp f = e - 1) (Classical.propDecidable _) (bareL cp p k (f + 1) (e - 1)) [], ?_⟩
  show @ite _ (f < e) (Classical.propDecidable _) _ [] = _
  rw [if_pos h]
section FSX
variable {K Q : Int → Int} {l : List Int} {a b : List gD} {D : gD}
theorem FST_l (h : FST K Q l a D) : FST K Q l (a ++ b) D := by
  obtain ⟨pre, post, h1, h2, h3⟩ := h
  exact ⟨pre, post ++ b, by rw [h1, List.append_assoc]; rfl, h2, h3⟩
theorem FST_r (h : FST K Q l b D) (hn : ∀ x ∈ a, ¬ gd K Q l x) : FST K Q l (a ++ b) D := by
  obtain ⟨pre, post, h1, h2, h3⟩ := h
  refine ⟨a ++ pre, post, by rw [h1, List.append_assoc], h2, fun x hx => ?_⟩
  rcases List.mem_append.mp hx with h | h
  · exact hn x h
  · exact h3 x h
theorem FST_hd (h : gd K Q l D) : FST K Q l (D :: b) D := ⟨[], b, rfl, h, fun x hx => by cases hx⟩
theorem no_app (h1 : ∀ x ∈ a, ¬ gd K Q l x) (h2 : ∀ x ∈ b, ¬ gd K Q l x) : ∀ x ∈ a ++ b, ¬ gd K Q l x := fun x hx => by
  rcases List.mem_append.mp hx with h | h
  · exact h1 x h
  · exact h2 x h
theorem no_one (h : ¬ gd K Q l D) : ∀ x ∈ [D], ¬ gd K Q l x := fun x hx => by rw [List.mem_singleton.mp hx]; exact h
theorem no_nil : ∀ x ∈ ([] : List gD), ¬ gd K Q l x := fun x hx => by cases hx
end FSX
section EDF
variable {M M1 M' : mem} {c : Nat} {D : gD} {cs : List gD}
theorem Out_F (hc : ly_c c = 0) (hT : TI M) (F : fr wq M M1) (hD : cVD (sv M1 12) D) (hs : smD D) (hF : FST (M 2) (M 3) (tk M (c + 4)) cs D) (h : PND M1 M' c) : OutC M M' c cs := by
  obtain ⟨g0, g2, g3, g4, g6⟩ := wq_c hc F
  have hl : (tk M (c + 4)).length ≤ 60 := tk_len60 (hT _ (cl_c4 hc))
  obtain ⟨a1, a2, a3, a4, a5, a6, a7, a8, a9⟩ := h
  rw [g0] at a2 a3 a4 a5 a7
  rw [g4] at a6
  obtain ⟨pre, post, b1, b2, b3⟩ := id hF
  refine ⟨a1, a7, D, hs, hF, fr_tr (fr_le F (fun q h => Or.inl h)) a2, a3, a4, ?_, ?_⟩
  · rw [a5]; exact hD
  · rw [a6, apV_D hD hs hl b2.1]
theorem No_F (hc : ly_c c = 0) (hT : TI M) (F : fr wq M M1) (hD : cVD (sv M1 12) D) (hs : smD D) (hF : FST (M 2) (M 3) (tk M (c + 4)) cs D) (h : NPD M1 M' c) : NoC M M' c cs := by
  obtain ⟨g0, g2, g3, g4, g6⟩ := wq_c hc F
  have hl : (tk M (c + 4)).length ≤ 60 := tk_len60 (hT _ (cl_c4 hc))
  obtain ⟨a1, a2, a3⟩ := h
  obtain ⟨pre, post, b1, b2, b3⟩ := hF
  refine ⟨a1, fr_tr F a2, fun ⟨c1, _⟩ => a3 ?_⟩
  rw [g0, g4, g2, g3]
  exact ⟨c1, (gd_iff hD hs hl (fun _ => b2.1)).mpr b2⟩
end EDF

set_option maxRecDepth 100000 in
set_option maxHeartbeats 4000000 in
theorem x_draftsSlice {X : scr} {M : mem} {c : Nat} {p f t : Int} (hc : ly_c c = 0) (hp : inR p) (hf : inR f) (ht : inR t) (hT : TI M) (h0 : 0 ≤ f) (h1 : f ≤ t) (h2 : t ≤ ((tk M (c + 6)).length : Int)) (hq : 0 ≤ p ∧ p ≤ 60) : At X 0 83 0 [vr 0, vr c, vi p, vi f, vi t] [] M (qI (fun x M' => fr vq M M' ∧ TI M' ∧ (x = 0 ∨ x = 1) ∧ (x = 1 ↔ gd (M 2) (M 3) (tk M (c + 4)) (0, ([p, 0], sl (tk M (c + 6)) f t))) ∧ cVD (sv M' 12) (0, ([p, 0], sl (tk M (c + 6)) f t)))) := by
  have h8 := cl_al hc
  have hk6 := hT _ (cl_c6 hc)
  have el6 : ((tk M (c + 6)).length : Int) = M (c + 6) 1 := by rw [tk_len]; omega
  have l60 : (tk M (c + 6)).length ≤ 60 := tk_len60 hk6
  have d60 : (tk M (c + 4)).length ≤ 60 := tk_len60 (hT _ (cl_c4 hc))
  have lp : ∀ (n : Nat) (i : Int) (M1 : mem) (ri : inR i) (hi : f ≤ i ∧ i ≤ t) (hn : (t - i).toNat = n) (g1 : fr (blk 12) M M1) (j1 : TI M1) (dd : DS1 M1 12 p 0 (i - f) (sl (tk M (c + 6)) f i)), At X 0 83 10 [vr 0, vr c, vi p, vi f, vi t, vi i] [] M1 (qI (fun x M' => fr vq M M' ∧ TI M' ∧ (x = 0 ∨ x = 1) ∧ (x = 1 ↔ gd (M 2) (M 3) (tk M (c + 4)) (0, ([p, 0], sl (tk M (c + 6)) f t))) ∧ cVD (sv M' 12) (0, ([p, 0], sl (tk M (c + 6)) f t)))) := by
    intro n
    induction n using Nat.strongRecOn with
    | ind n ih =>
    intro i M1 ri hi hn g1 j1 dd
    have e6 : tk M1 (c + 6) = tk M (c + 6) := tk_fr g1 (by (try dsimp only [blk, sq, cq, lo, wq, pq, vq]); first | done | omega) (by (try dsimp only [blk, sq, cq, lo, wq, pq, vq]); first | done | omega)
    have e4 : tk M1 (c + 4) = tk M (c + 4) := tk_fr g1 (by (try dsimp only [blk, sq, cq, lo, wq, pq, vq]); first | done | omega) (by (try dsimp only [blk, sq, cq, lo, wq, pq, vq]); first | done | omega)
    have g2 : M1 2 = M 2 := funext (fun j => g1 2 j (by (try dsimp only [blk, sq, cq, lo, wq, pq, vq]); first | done | omega))
    have g3 : M1 3 = M 3 := funext (fun j => g1 3 j (by (try dsimp only [blk, sq, cq, lo, wq, pq, vq]); first | done | omega))
    refine at_iload dx_83_10 rfl ?_
    refine at_iload dx_83_11 rfl ?_
    refine at_cgeR dx_83_12 ri ht (fun c12 => ?_) (fun c12 => ?_)
    · skip
      refine at_aload dx_83_22 rfl ?_
      refine at_aload dx_83_23 rfl ?_
      refine at_getR dx_83_24 lc_0 rfl lt_0_8 ?_
      refine at_aload dx_83_25 rfl ?_
      refine at_getR dx_83_26 hc rfl (cl_t5 hc) ?_
      refine at_callVI dx_83_27 rfl lc_0 rfl (x_isPossible lc_12 (cl_c4 hc) (by omega) (by omega) (by omega) j1) ?_
      rintro x27 M27 r27 ⟨f27, i27, b27, w27, -⟩
      rw [e4, g2, g3] at w27
      refine at_zretI dx_83_28 b27 ?_
      have ei : i = t := by omega
      subst ei
      have hln := sl_len (cp := tk M (c + 6)) h0 h1 h2
      have hD : cVD (sv M1 12) (0, ([p, 0], sl (tk M (c + 6)) f i)) := DS1_D dd hln.symm
      have hS : smD (0, ([p, 0], sl (tk M (c + 6)) f i)) := ⟨hq, by decide, by omega⟩
      refine ⟨fr_tr (fr_le g1 (fun q h => by (try dsimp only [blk, sq, cq, lo, wq, pq, vq] at h ⊢); first | done | omega)) (fr_le f27 (fun q h => by (try dsimp only [blk, sq, cq, lo, wq, pq, vq] at h ⊢); first | done | omega)), i27, b27, w27.trans (gd_iff hD hS d60 (fun e => absurd e (by show ¬ ((0 : Nat) = 2); decide))), ?_⟩
      rw [sv_fr f27 (by (try dsimp only [blk, sq, cq, lo, wq, pq, vq]); first | done | omega) (by (try dsimp only [blk, sq, cq, lo, wq, pq, vq]); first | done | omega) (by (try dsimp only [blk, sq, cq, lo, wq, pq, vq]); first | done | omega) (by (try dsimp only [blk, sq, cq, lo, wq, pq, vq]); first | done | omega) (by (try dsimp only [blk, sq, cq, lo, wq, pq, vq]); first | done | omega) (by (try dsimp only [blk, sq, cq, lo, wq, pq, vq]); first | done | omega)]
      exact hD
    · skip
      refine at_aload dx_83_13 rfl ?_
      refine at_getR dx_83_14 lc_0 rfl lt_0_8 ?_
      refine at_aload dx_83_15 rfl ?_
      refine at_getR dx_83_16 hc rfl (cl_t6 hc) ?_
      refine at_iload dx_83_17 rfl ?_
      refine at_callVI dx_83_18 rfl (cl_c6 hc) rfl (c_at (cl_c6 hc) ri (j1 _ (cl_c6 hc))) ?_
      rintro x18 M9 r18 ⟨e9, h18⟩; replace e9 := e9.symm; subst e9
      refine at_callVV dx_83_19 rfl lc_12 rfl (x_addPut1 lc_12 r18 j1 (by omega) (by have := sl_len (cp := tk M (c + 6)) h0 hi.1 (by omega); omega) dd) ?_
      rintro M19 ⟨f19, i19, d19⟩
      refine at_iincR (y := 1) dx_83_20 rfl rfl (by constructor <;> omega) (fun r20 => ?_)
      refine at_goto dx_83_21 ?_
      refine ih _ (by omega) _ _ r20 (by omega) rfl (fr_tr g1 f19) i19 ?_
      rw [← sl_succ h0 hi.1 (by omega), show i + 1 - f = i - f + 1 by omega]
      have hx : x18 = (tk M (c + 6)).getD i.toNat 0 := by rw [h18, e6]; exact atL_get (by omega) (by omega)
      rw [← hx]
      exact d19
  refine at_aload dx_83_0 rfl ?_
  refine at_getR dx_83_1 lc_0 rfl lt_0_8 ?_
  refine at_callVV dx_83_2 rfl lc_12 rfl (x_becomeChange lc_12 hT) ?_
  rintro M2 ⟨f2, i2, d2⟩
  refine at_aload dx_83_3 rfl ?_
  refine at_getR dx_83_4 lc_0 rfl lt_0_8 ?_
  refine at_iload dx_83_5 rfl ?_
  refine at_const (x := 0) dx_83_6 rfl ?_
  refine at_callVV dx_83_7 rfl lc_12 rfl (x_addRange0 lc_12 hp (by decide) i2 d2) ?_
  rintro M7 ⟨f7, i7, d7⟩
  refine at_iload dx_83_8 rfl ?_
  refine at_istore dx_83_9 ?_
  exact lp _ _ _ hf ⟨Int.le_refl _, h1⟩ rfl (fr_tr f2 f7) i7 (by rw [Int.sub_self, sl_nil]; exact d7)

set_option maxRecDepth 100000 in
set_option maxHeartbeats 4000000 in
theorem x_draftsBare {X : scr} {M : mem} {c : Nat} {p : Int} (hc : ly_c c = 0) (hp : inR p) (hT : TI M) (hq : 0 ≤ p ∧ p ≤ 60) : At X 0 82 0 [vr 0, vr c, vi p] [] M (qI (fun x M' => fr vq M M' ∧ TI M' ∧ (x = 0 ∨ x = 1) ∧ (x = 1 → ∃ D, smD D ∧ FST (M 2) (M 3) (tk M (c + 4)) (bareL (tk M (c + 6)) p (tk M (c + 6)).length 0 ((tk M (c + 6)).length : Int)) D ∧ cVD (sv M' 12) D) ∧ (x = 0 → ∀ D ∈ bareL (tk M (c + 6)) p (tk M (c + 6)).length 0 ((tk M (c + 6)).length : Int), ¬ gd (M 2) (M 3) (tk M (c + 4)) D))) := by
  have h8 := cl_al hc
  have hk6 := hT _ (cl_c6 hc)
  have el6 : ((tk M (c + 6)).length : Int) = M (c + 6) 1 := by rw [tk_len]; omega
  have l60 : (tk M (c + 6)).length ≤ 60 := tk_len60 hk6
  have d60 : (tk M (c + 4)).length ≤ 60 := tk_len60 (hT _ (cl_c4 hc))
  have lp : ∀ (n : Nat) (t f : Int) (M1 : mem) (rt : inR t) (rf : inR f) (h0 : 0 ≤ f) (h2 : t ≤ ((tk M (c + 6)).length : Int)) (hn : (t - f).toNat = n) (g1 : fr vq M M1) (j1 : TI M1) (hv : ∃ (k : Nat) (pre : List gD), t - f ≤ (k : Int) ∧ bareL (tk M (c + 6)) p (tk M (c + 6)).length 0 ((tk M (c + 6)).length : Int) = pre ++ bareL (tk M (c + 6)) p k f t ∧ ∀ x ∈ pre, ¬ gd (M 2) (M 3) (tk M (c + 4)) x), At X 0 82 6 [vr 0, vr c, vi p, vi t, vi f] [] M1 (qI (fun x M' => fr vq M M' ∧ TI M' ∧ (x = 0 ∨ x = 1) ∧ (x = 1 → ∃ D, smD D ∧ FST (M 2) (M 3) (tk M (c + 4)) (bareL (tk M (c + 6)) p (tk M (c + 6)).length 0 ((tk M (c + 6)).length : Int)) D ∧ cVD (sv M' 12) D) ∧ (x = 0 → ∀ D ∈ bareL (tk M (c + 6)) p (tk M (c + 6)).length 0 ((tk M (c + 6)).length : Int), ¬ gd (M 2) (M 3) (tk M (c + 4)) D))) := by
    intro n
    induction n using Nat.strongRecOn with
    | ind n ih =>
    intro t f M1 rt rf h0 h2 hn g1 j1 hv
    obtain ⟨k, pre, hk, hL, hno⟩ := hv
    have e6 : tk M1 (c + 6) = tk M (c + 6) := tk_fr g1 (by (try dsimp only [blk, sq, cq, lo, wq, pq, vq]); first | done | omega) (by (try dsimp only [blk, sq, cq, lo, wq, pq, vq]); first | done | omega)
    have e4 : tk M1 (c + 4) = tk M (c + 4) := tk_fr g1 (by (try dsimp only [blk, sq, cq, lo, wq, pq, vq]); first | done | omega) (by (try dsimp only [blk, sq, cq, lo, wq, pq, vq]); first | done | omega)
    have g2 : M1 2 = M 2 := funext (fun j => g1 2 j (by (try dsimp only [blk, sq, cq, lo, wq, pq, vq]); first | done | omega))
    have g3 : M1 3 = M 3 := funext (fun j => g1 3 j (by (try dsimp only [blk, sq, cq, lo, wq, pq, vq]); first | done | omega))
    refine at_iload dx_82_6 rfl ?_
    refine at_iload dx_82_7 rfl ?_
    refine at_cgeR dx_82_8 rf rt (fun c8 => ?_) (fun c8 => ?_)
    · skip
      refine at_const (x := 0) dx_82_31 rfl ?_
      refine at_zretI dx_82_32 (Or.inl rfl) ?_
      refine ⟨g1, j1, Or.inl rfl, fun e => absurd e (by decide), fun _ => ?_⟩
      rw [hL, bareL_nil (by omega)]
      exact no_app hno no_nil
    · skip
      refine at_aload dx_82_9 rfl ?_
      refine at_aload dx_82_10 rfl ?_
      refine at_iload dx_82_11 rfl ?_
      refine at_iload dx_82_12 rfl ?_
      refine at_iload dx_82_13 rfl ?_
      refine at_callVI dx_82_14 rfl lc_0 rfl (x_draftsSlice hc hp rf rt j1 h0 (by omega) (by rw [e6]; exact h2) hq) ?_
      rintro x14 M14 r14 ⟨f14, i14, b14, w14, d14⟩
      rw [e6, e4, g2, g3] at w14
      rw [e6] at d14
      refine at_zeqR dx_82_15 r14 (fun c15 => ?_) (fun c15 => ?_)
      · skip
        have hng : ¬ gd (M 2) (M 3) (tk M (c + 4)) (0, ([p, 0], sl (tk M (c + 6)) f t)) := fun h => absurd (w14.mpr h) (by omega)
        refine at_aload dx_82_18 rfl ?_
        refine at_getR dx_82_19 hc rfl (cl_t6 hc) ?_
        refine at_iload dx_82_20 rfl ?_
        refine at_callVI dx_82_21 rfl (cl_c6 hc) rfl (x_findClosing (cl_c6 hc) rf (i14 _ (cl_c6 hc)) h0) ?_
        rintro x21 M9 r21 ⟨e9, h21⟩; replace e9 := e9.symm; subst e9
        rw [tk_fr f14 (by (try dsimp only [blk, sq, cq, lo, wq, pq, vq]); first | done | omega) (by (try dsimp only [blk, sq, cq, lo, wq, pq, vq]); first | done | omega), e6] at h21
        have hcl : clq (tk M (c + 6)) f = x21 := h21.symm
        refine at_iload dx_82_22 rfl ?_
        refine at_const (x := 1) dx_82_23 rfl ?_
        refine at_subR dx_82_24 (by constructor <;> omega) (fun r24 => ?_)
        refine at_ceqR dx_82_25 r21 r24 (fun c25 => ?_) (fun c25 => ?_)
        · skip
          refine at_iincR (y := -1) dx_82_28 rfl rfl (by constructor <;> omega) (fun r28 => ?_)
          refine at_iincR (y := 1) dx_82_29 rfl rfl (by constructor <;> omega) (fun r29 => ?_)
          refine at_goto dx_82_30 ?_
          obtain ⟨k2, rfl⟩ : ∃ n, k = n + 1 := ⟨k - 1, by omega⟩
          refine ih _ (by omega) (t + -1) _ _ r28 r29 (by omega) (by omega) rfl (fr_tr g1 f14) i14 ⟨k2, pre ++ [(0, ([p, 0], sl (tk M (c + 6)) f t))], by omega, ?_, no_app hno (no_one hng)⟩
          rw [hL, bareL_more (by omega) (by omega), List.append_assoc, show t + -1 = t - 1 by omega]
          rfl
        · skip
          refine at_const (x := 0) dx_82_26 rfl ?_
          refine at_zretI dx_82_27 (Or.inl rfl) ?_
          refine ⟨fr_tr g1 f14, i14, Or.inl rfl, fun e => absurd e (by decide), fun _ => ?_⟩
          rw [hL, bareL_one (by omega) (by omega) (by omega)]
          exact no_app hno (no_one hng)
      · skip
        refine at_const (x := 1) dx_82_16 rfl ?_
        refine at_zretI dx_82_17 (Or.inr rfl) ?_
        obtain ⟨r9, hr9⟩ := bareL_hd (cp := tk M (c + 6)) (p := p) (f := f) (e := t) (k := k) (by omega) (by omega)
        refine ⟨fr_tr g1 f14, i14, Or.inr rfl, fun _ => ⟨(0, ([p, 0], sl (tk M (c + 6)) f t)), ⟨hq, by decide, by have := sl_len (cp := tk M (c + 6)) h0 (show f ≤ t by omega) h2; omega⟩, ?_, d14⟩, fun e => absurd e (by decide)⟩
        rw [hL, hr9]
        exact FST_r (FST_hd (w14.mp (by omega))) hno
  refine at_aload dx_82_0 rfl ?_
  refine at_getR dx_82_1 hc rfl (cl_t6 hc) ?_
  refine at_getI 1 dx_82_2 (cl_c6 hc) rfl rfl (fun r2 => ?_)
  refine at_istore dx_82_3 ?_
  refine at_const (x := 0) dx_82_4 rfl ?_
  refine at_istore dx_82_5 ?_
  exact lp _ _ 0 _ r2 (by decide) (by decide) (by omega) rfl fr_rf hT ⟨(tk M (c + 6)).length, [], by omega, by rw [← el6]; rfl, no_nil⟩

set_option maxRecDepth 100000 in
set_option maxHeartbeats 4000000 in
theorem x_draftsWrapped {X : scr} {M : mem} {c : Nat} {p : Int} (hc : ly_c c = 0) (hp : inR p) (hT : TI M) (hq : 0 ≤ p ∧ p ≤ 60) : At X 0 84 0 [vr 0, vr c, vi p] [] M (qI (fun x M' => fr vq M M' ∧ TI M' ∧ (x = 0 ∨ x = 1) ∧ (x = 1 → ∃ D, smD D ∧ FST (M 2) (M 3) (tk M (c + 4)) (wrapL (tk M (c + 6)) p) D ∧ cVD (sv M' 12) D) ∧ (x = 0 → ∀ D ∈ wrapL (tk M (c + 6)) p, ¬ gd (M 2) (M 3) (tk M (c + 4)) D))) := by
  have h8 := cl_al hc
  have hk6 := hT _ (cl_c6 hc)
  have el6 : ((tk M (c + 6)).length : Int) = M (c + 6) 1 := by rw [tk_len]; omega
  have l60 : (tk M (c + 6)).length ≤ 60 := tk_len60 hk6
  have d60 : (tk M (c + 4)).length ≤ 60 := tk_len60 (hT _ (cl_c4 hc))
  have lp : ∀ (n : Nat) (t : Int) (M1 : mem) (rt : inR t) (ht : 1 ≤ t ∧ t ≤ 6) (h58 : (tk M (c + 6)).length + 2 ≤ 60) (hn : (6 - t).toNat = n) (g1 : fr vq M M1) (j1 : TI M1) (hv : ∃ (pre : List gD), wrapL (tk M (c + 6)) p = pre ++ wrapR (tk M (c + 6)) p (6 - t).toNat t ∧ ∀ x ∈ pre, ¬ gd (M 2) (M 3) (tk M (c + 4)) x), At X 0 84 11 [vr 0, vr c, vi p, vi t] [] M1 (qI (fun x M' => fr vq M M' ∧ TI M' ∧ (x = 0 ∨ x = 1) ∧ (x = 1 → ∃ D, smD D ∧ FST (M 2) (M 3) (tk M (c + 4)) (wrapL (tk M (c + 6)) p) D ∧ cVD (sv M' 12) D) ∧ (x = 0 → ∀ D ∈ wrapL (tk M (c + 6)) p, ¬ gd (M 2) (M 3) (tk M (c + 4)) D))) := by
    intro n
    induction n using Nat.strongRecOn with
    | ind n ih =>
    intro t M1 rt ht h58 hn g1 j1 hv
    obtain ⟨pre, hL, hno⟩ := hv
    have lq : ∀ (n2 : Nat) (i : Int) (M2 : mem) (ri : inR i) (ht5 : t ≤ 5) (hi : 0 ≤ i ∧ i ≤ M (c + 6) 1) (hn2 : (M (c + 6) 1 - i).toNat = n2) (k2 : fr vq M M2) (l2 : TI M2) (dd : DS1 M2 12 p 0 (1 + i) (t :: sl (tk M (c + 6)) 0 i)), At X 0 84 28 [vr 0, vr c, vi p, vi t, vi i] [] M2 (qI (fun x M' => fr vq M M' ∧ TI M' ∧ (x = 0 ∨ x = 1) ∧ (x = 1 → ∃ D, smD D ∧ FST (M 2) (M 3) (tk M (c + 4)) (wrapL (tk M (c + 6)) p) D ∧ cVD (sv M' 12) D) ∧ (x = 0 → ∀ D ∈ wrapL (tk M (c + 6)) p, ¬ gd (M 2) (M 3) (tk M (c + 4)) D))) := by
      intro n2
      induction n2 using Nat.strongRecOn with
      | ind n2 ih2 =>
      intro i M2 ri ht5 hi hn2 k2 l2 dd
      have hk2 := l2 _ (cl_c6 hc)
      have e6 : tk M2 (c + 6) = tk M (c + 6) := tk_fr k2 (by (try dsimp only [blk, sq, cq, lo, wq, pq, vq]); first | done | omega) (by (try dsimp only [blk, sq, cq, lo, wq, pq, vq]); first | done | omega)
      have ec6 : M2 (c + 6) 1 = M (c + 6) 1 := k2 _ _ (by (try dsimp only [blk, sq, cq, lo, wq, pq, vq]); first | done | omega)
      have e4 : tk M2 (c + 4) = tk M (c + 4) := tk_fr k2 (by (try dsimp only [blk, sq, cq, lo, wq, pq, vq]); first | done | omega) (by (try dsimp only [blk, sq, cq, lo, wq, pq, vq]); first | done | omega)
      have gg2 : M2 2 = M 2 := funext (fun j => k2 2 j (by (try dsimp only [blk, sq, cq, lo, wq, pq, vq]); first | done | omega))
      have gg3 : M2 3 = M 3 := funext (fun j => k2 3 j (by (try dsimp only [blk, sq, cq, lo, wq, pq, vq]); first | done | omega))
      have hln := sl_len (cp := tk M (c + 6)) (f := 0) (t := i) (by decide) hi.1 (by omega)
      refine at_iload dx_84_28 rfl ?_
      refine at_aload dx_84_29 rfl ?_
      refine at_getR dx_84_30 hc rfl (cl_t6 hc) ?_
      refine at_getI 1 dx_84_31 (cl_c6 hc) rfl rfl (fun r31 => ?_)
      refine at_cgeR dx_84_32 ri r31 (fun c32 => ?_) (fun c32 => ?_)
      · skip
        refine at_aload dx_84_42 rfl ?_
        refine at_getR dx_84_43 lc_0 rfl lt_0_8 ?_
        refine at_const (x := 0) dx_84_44 rfl ?_
        refine at_callVV dx_84_45 rfl lc_12 rfl (x_addPut1 lc_12 (by decide) l2 (by omega) (by rw [List.length_cons]; omega) dd) ?_
        rintro M45 ⟨f45, i45, d45⟩
        have k3 : fr vq M M45 := fr_tr k2 (fr_le f45 (fun q h => by (try dsimp only [blk, sq, cq, lo, wq, pq, vq] at h ⊢); first | done | omega))
        refine at_aload dx_84_46 rfl ?_
        refine at_aload dx_84_47 rfl ?_
        refine at_getR dx_84_48 lc_0 rfl lt_0_8 ?_
        refine at_aload dx_84_49 rfl ?_
        refine at_getR dx_84_50 hc rfl (cl_t5 hc) ?_
        refine at_callVI dx_84_51 rfl lc_0 rfl (x_isPossible lc_12 (cl_c4 hc) (by omega) (by omega) (by omega) i45) ?_
        rintro x51 M51 r51 ⟨f51, i51, b51, w51, -⟩
        have ei : i = ((tk M (c + 6)).length : Int) := by omega
        have dD : cVD (sv M45 12) (0, ([p, 0], t :: tk M (c + 6) ++ [0])) := by
          rw [ei, sl_all] at d45
          exact DS1_D d45 (by rw [List.length_append, List.length_cons]; show _ = (((tk M (c + 6)).length + 1 + 1 : Nat) : Int); omega)
        have hS : smD (0, ([p, 0], t :: tk M (c + 6) ++ [0])) := ⟨hq, by decide, by rw [List.length_append, List.length_cons]; show (tk M (c + 6)).length + 1 + 1 ≤ 60; omega⟩
        rw [tk_fr (k := c + 4) k3 (by (try dsimp only [blk, sq, cq, lo, wq, pq, vq]); first | done | omega) (by (try dsimp only [blk, sq, cq, lo, wq, pq, vq]); first | done | omega), show M45 2 = M 2 from funext (fun j => k3 2 j (by (try dsimp only [blk, sq, cq, lo, wq, pq, vq]); first | done | omega)), show M45 3 = M 3 from funext (fun j => k3 3 j (by (try dsimp only [blk, sq, cq, lo, wq, pq, vq]); first | done | omega))] at w51
        replace w51 := w51.trans (gd_iff dD hS d60 (fun e => absurd e (by show ¬ ((0 : Nat) = 2); decide)))
        have d51 : cVD (sv M51 12) (0, ([p, 0], t :: tk M (c + 6) ++ [0])) := by rw [sv_fr f51 (by (try dsimp only [blk, sq, cq, lo, wq, pq, vq]); first | done | omega) (by (try dsimp only [blk, sq, cq, lo, wq, pq, vq]); first | done | omega) (by (try dsimp only [blk, sq, cq, lo, wq, pq, vq]); first | done | omega) (by (try dsimp only [blk, sq, cq, lo, wq, pq, vq]); first | done | omega) (by (try dsimp only [blk, sq, cq, lo, wq, pq, vq]); first | done | omega) (by (try dsimp only [blk, sq, cq, lo, wq, pq, vq]); first | done | omega)]; exact dD
        replace f51 : fr vq _ M51 := fr_le f51 (fun q h => by (try dsimp only [blk, sq, cq, lo, wq, pq, vq] at h ⊢); first | done | omega)
        have g2 := k3
        have hwr : wrapR (tk M (c + 6)) p (6 - t).toNat t = (0, ([p, 0], t :: tk M (c + 6) ++ [0])) :: wrapR (tk M (c + 6)) p (6 - (t + 1)).toNat (t + 1) := by rw [show (6 - t).toNat = (6 - (t + 1)).toNat + 1 by omega]; rfl
        refine at_zeqR dx_84_52 r51 (fun c52 => ?_) (fun c52 => ?_)
        · skip
          refine at_iincR (y := 1) dx_84_55 rfl rfl (by constructor <;> omega) (fun r55 => ?_)
          refine at_goto dx_84_56 ?_
          refine at_wk (ls := [vr 0, vr c, vi _, vi _]) ⟨Or.inl rfl, Or.inl rfl, Or.inl rfl, Or.inl rfl, trivial⟩ ?_
          refine ih _ (by omega) _ _ r55 (by omega) h58 rfl (fr_tr g2 f51) i51 ⟨pre ++ [(0, ([p, 0], t :: tk M (c + 6) ++ [0]))], ?_, no_app hno (no_one (fun h => absurd (w51.mpr h) (by omega)))⟩
          rw [hL, hwr, List.append_assoc]
          rfl
        · skip
          refine at_const (x := 1) dx_84_53 rfl ?_
          refine at_zretI dx_84_54 (Or.inr rfl) ?_
          refine ⟨fr_tr g2 f51, i51, Or.inr rfl, fun _ => ⟨_, hS, ?_, d51⟩, fun e => absurd e (by decide)⟩
          rw [hL, hwr]
          exact FST_r (FST_hd (w51.mp (by omega))) hno
      · skip
        refine at_aload dx_84_33 rfl ?_
        refine at_getR dx_84_34 lc_0 rfl lt_0_8 ?_
        refine at_aload dx_84_35 rfl ?_
        refine at_getR dx_84_36 hc rfl (cl_t6 hc) ?_
        refine at_iload dx_84_37 rfl ?_
        refine at_callVI dx_84_38 rfl (cl_c6 hc) rfl (c_at (cl_c6 hc) ri hk2) ?_
        rintro x38 M9 r38 ⟨e9, h38⟩; replace e9 := e9.symm; subst e9
        refine at_callVV dx_84_39 rfl lc_12 rfl (x_addPut1 lc_12 r38 l2 (by omega) (by rw [List.length_cons]; omega) dd) ?_
        rintro M39 ⟨f39, i39, d39⟩
        refine at_iincR (y := 1) dx_84_40 rfl rfl (by constructor <;> omega) (fun r40 => ?_)
        refine at_goto dx_84_41 ?_
        refine ih2 _ (by omega) _ _ r40 ht5 (by omega) rfl (fr_tr k2 (fr_le f39 (fun q h => by (try dsimp only [blk, sq, cq, lo, wq, pq, vq] at h ⊢); first | done | omega))) i39 ?_
        rw [← sl_succ (by decide) hi.1 (by omega), show 1 + (i + 1) = 1 + i + 1 by omega]
        have hx : x38 = (tk M (c + 6)).getD i.toNat 0 := by rw [h38, e6]; exact atL_get (by omega) (by omega)
        rw [← hx]
        exact d39
    refine at_iload dx_84_11 rfl ?_
    refine at_const (x := 5) dx_84_12 rfl ?_
    refine at_cgtR dx_84_13 rt (by decide) (fun c13 => ?_) (fun c13 => ?_)
    · skip
      refine at_const (x := 0) dx_84_57 rfl ?_
      refine at_zretI dx_84_58 (Or.inl rfl) ?_
      refine ⟨g1, j1, Or.inl rfl, fun e => absurd e (by decide), fun _ => ?_⟩
      rw [hL, show t = 6 by omega]
      exact no_app hno no_nil
    · skip
      refine at_aload dx_84_14 rfl ?_
      refine at_getR dx_84_15 lc_0 rfl lt_0_8 ?_
      refine at_callVV dx_84_16 rfl lc_12 rfl (x_becomeChange lc_12 j1) ?_
      rintro M16 ⟨f16, i16, d16⟩
      refine at_aload dx_84_17 rfl ?_
      refine at_getR dx_84_18 lc_0 rfl lt_0_8 ?_
      refine at_iload dx_84_19 rfl ?_
      refine at_const (x := 0) dx_84_20 rfl ?_
      refine at_callVV dx_84_21 rfl lc_12 rfl (x_addRange0 lc_12 hp (by decide) i16 d16) ?_
      rintro M21 ⟨f21, i21, d21⟩
      refine at_aload dx_84_22 rfl ?_
      refine at_getR dx_84_23 lc_0 rfl lt_0_8 ?_
      refine at_iload dx_84_24 rfl ?_
      refine at_callVV dx_84_25 rfl lc_12 rfl (x_addPut1 lc_12 rt i21 (by decide) (by simp) d21) ?_
      rintro M25 ⟨f25, i25, d25⟩
      refine at_const (x := 0) dx_84_26 rfl ?_
      refine at_istore dx_84_27 ?_
      exact lq _ 0 _ (by decide) (by omega) (by omega) rfl (fr_tr g1 (fr_le (fr_tr f16 (fr_tr f21 f25)) (fun q h => by (try dsimp only [blk, sq, cq, lo, wq, pq, vq] at h ⊢); first | done | omega))) i25 (by rw [sl_nil]; exact d25)
  refine at_aload dx_84_0 rfl ?_
  refine at_getR dx_84_1 hc rfl (cl_t6 hc) ?_
  refine at_getI 1 dx_84_2 (cl_c6 hc) rfl rfl (fun r2 => ?_)
  refine at_const (x := 2) dx_84_3 rfl ?_
  refine at_addR dx_84_4 (by constructor <;> omega) (fun r4 => ?_)
  refine at_const (x := 60) dx_84_5 rfl ?_
  refine at_cleR dx_84_6 r4 (by decide) (fun c6 => ?_) (fun c6 => ?_)
  · skip
    refine at_const (x := 1) dx_84_9 rfl ?_
    refine at_istore dx_84_10 ?_
    exact lp _ 1 _ (by decide) (by decide) (by omega) rfl fr_rf hT ⟨[], if_pos (by omega), no_nil⟩
  · skip
    refine at_const (x := 0) dx_84_7 rfl ?_
    refine at_zretI dx_84_8 (Or.inl rfl) ?_
    exact ⟨fr_rf, hT, Or.inl rfl, fun e => absurd e (by decide), fun _ => by rw [show wrapL (tk M (c + 6)) p = [] from if_neg (by omega)]; exact no_nil⟩

set_option maxRecDepth 100000 in
set_option maxHeartbeats 4000000 in
theorem x_paste {X : scr} {M : mem} {x p : Int} (rx : inR x) (rp : inR p) (hC : CI M) : At X 0 57 0 [vr 0, vi x, vi p] [] M (qT (qI (fun _ M' => OC x (csPaste p) M M')) (fun e M' => e ∈ [0, 2] ∧ OC x (csPaste p) M M')) := by
  have F : fr wq M M := fr_rf
  have T : TI M := hC.1
  have G : RI M := hC.2.1
  refine at_aload dx_57_0 rfl ?_
  refine at_iload dx_57_1 rfl ?_
  refine at_callVRT dx_57_2 rfl lc_0 rfl (x_clientOf rx) ?_ ?_
  rotate_left
  · rintro e M9 ⟨he, e9, hno⟩; replace e9 := e9.symm; subst e9; exact Or.inr ⟨e, rfl, rfl, (by simp only [List.mem_cons, List.not_mem_nil, or_false]; omega), Or.inr ⟨hno, hC, fr_rf⟩⟩
  rintro c M9 ⟨e9, h0, h3, hcx, hc⟩; replace e9 := e9.symm; subst e9
  have h8 := cl_al hc
  have hIc := hC.1 _ (cl_c4 hc)
  have el : ((tk M (c + 4)).length : Int) = M (c + 4) 1 := by rw [tk_len]; omega
  refine at_astore dx_57_3 ?_
  refine at_aload dx_57_4 rfl ?_
  refine at_getR dx_57_5 hc rfl (cl_t5 hc) ?_
  refine at_iload dx_57_6 rfl ?_
  refine at_callSVT dx_57_7 rfl rfl (x_checkPosition (cl_c4 hc) rp) ?_ ?_
  rotate_left
  · rintro e M9 ⟨he, e9, hno⟩; replace e9 := e9.symm; subst e9; exact Or.inr ⟨e, rfl, rfl, (by simp only [List.mem_cons, List.not_mem_nil, or_false]; omega), OC_nil h0 h3 hcx hC fr_rf (by show cIL _ _ = []; exact cIL_f (fun hh => by omega))⟩
  rintro M9 ⟨e9, p0, p1⟩; replace e9 := e9.symm; subst e9
  have hk6 := hC.1 _ (cl_c6 hc)
  have el6 : ((tk M (c + 6)).length : Int) = M (c + 6) 1 := by rw [tk_len]; omega
  refine at_aload dx_57_8 rfl ?_
  refine at_getR dx_57_9 hc rfl (cl_t6 hc) ?_
  refine at_getI 1 dx_57_10 (cl_c6 hc) rfl rfl (fun r10 => ?_)
  refine at_zneR dx_57_11 r10 (fun c11 => ?_) (fun c11 => ?_)
  · skip
    have hne : tk M (c + 6) ≠ [] := fun e => by rw [e] at el6; simp only [List.length_nil] at el6; omega
    have hCS : csPaste p (tk M (c + 4)) (tk M (c + 6)) = bareL (tk M (c + 6)) p (tk M (c + 6)).length 0 ((tk M (c + 6)).length : Int) ++ wrapL (tk M (c + 6)) p := by show cIL _ _ = _; exact cIL_t ⟨by omega, hne⟩
    refine at_aload dx_57_13 rfl ?_
    refine at_aload dx_57_14 rfl ?_
    refine at_iload dx_57_15 rfl ?_
    refine at_callVI dx_57_16 rfl lc_0 rfl (x_draftsBare hc rp T (by omega)) ?_
    rintro x16 M16 r16 ⟨f16, i16, b16, y16, z16⟩
    replace F : fr wq M _ := fr_tr F (fr_le f16 (fun q h => by (try dsimp only [blk, sq, cq, lo, wq, pq, vq] at h ⊢); first | done | omega))
    replace G := RI_fr f16 (by (try dsimp only [blk, sq, cq, lo, wq, pq, vq]); first | done | omega) G
    replace T := i16
    have q16 := wq_c hc F
    refine at_zneR dx_57_17 r16 (fun c17 => ?_) (fun c17 => ?_)
    · skip
      first
      | (have hex : ∃ D, smD D ∧ FST (M 2) (M 3) (tk M (c + 4)) (bareL (tk M (c + 6)) p (tk M (c + 6)).length 0 ((tk M (c + 6)).length : Int) ++ wrapL (tk M (c + 6)) p) D ∧ cVD (sv M21 12) D := by
           obtain ⟨D, a1, a2, a3⟩ := y21 (by omega)
           exact ⟨D, a1, FST_r a2 (z16 (by omega)), a3⟩)
      | (have hex : ∃ D, smD D ∧ FST (M 2) (M 3) (tk M (c + 4)) (bareL (tk M (c + 6)) p (tk M (c + 6)).length 0 ((tk M (c + 6)).length : Int) ++ wrapL (tk M (c + 6)) p) D ∧ cVD (sv M16 12) D := by
           obtain ⟨D, a1, a2, a3⟩ := y16 (by omega)
           exact ⟨D, a1, FST_l a2, a3⟩)
      obtain ⟨D, hSM, hF, hDV⟩ := hex
      refine at_aload dx_57_24 rfl ?_
      refine at_aload dx_57_25 rfl ?_
      refine at_callVVT dx_57_26 rfl lc_0 rfl (x_addPending hc (CI_sq hC (fr_le F (fun q h => by (try dsimp only [blk, sq, cq, lo, wq, pq, vq] at h ⊢); first | done | omega)) T G)) ?_ ?_
      rotate_left
      · rintro e M9 ⟨he, k⟩; exact Or.inr ⟨e, rfl, rfl, (by simp only [List.mem_cons, List.not_mem_nil, or_false]; omega), OC_of h0 h3 hcx (Or.inr (by rw [hCS]; exact No_F hc hC.1 F hDV hSM hF k))⟩
      rintro M8 k8
      refine at_aload dx_57_27 rfl ?_
      refine at_getR dx_57_28 lc_0 rfl lt_0_8 ?_
      refine at_getR dx_57_29 lc_12 rfl lt_12_10 ?_
      refine at_getI 1 dx_57_30 lc_18 rfl rfl (fun r30 => ?_)
      refine at_iretIT dx_57_31 r30 ?_
      exact OC_of h0 h3 hcx (Or.inl (by rw [hCS]; exact Out_F hc hC.1 F hDV hSM hF k8))
    · skip
      refine at_aload dx_57_18 rfl ?_
      refine at_aload dx_57_19 rfl ?_
      refine at_iload dx_57_20 rfl ?_
      refine at_callVI dx_57_21 rfl lc_0 rfl (x_draftsWrapped hc rp T (by omega)) ?_
      rintro x21 M21 r21 ⟨f21, i21, b21, y21, z21⟩
      rw [q16.2.1, q16.2.2.1, q16.2.2.2.1, q16.2.2.2.2] at y21 z21
      replace F : fr wq M _ := fr_tr F (fr_le f21 (fun q h => by (try dsimp only [blk, sq, cq, lo, wq, pq, vq] at h ⊢); first | done | omega))
      replace G := RI_fr f21 (by (try dsimp only [blk, sq, cq, lo, wq, pq, vq]); first | done | omega) G
      replace T := i21
      refine at_zneR dx_57_22 r21 (fun c22 => ?_) (fun c22 => ?_)
      · skip
        first
        | (have hex : ∃ D, smD D ∧ FST (M 2) (M 3) (tk M (c + 4)) (bareL (tk M (c + 6)) p (tk M (c + 6)).length 0 ((tk M (c + 6)).length : Int) ++ wrapL (tk M (c + 6)) p) D ∧ cVD (sv M21 12) D := by
             obtain ⟨D, a1, a2, a3⟩ := y21 (by omega)
             exact ⟨D, a1, FST_r a2 (z16 (by omega)), a3⟩)
        | (have hex : ∃ D, smD D ∧ FST (M 2) (M 3) (tk M (c + 4)) (bareL (tk M (c + 6)) p (tk M (c + 6)).length 0 ((tk M (c + 6)).length : Int) ++ wrapL (tk M (c + 6)) p) D ∧ cVD (sv M16 12) D := by
             obtain ⟨D, a1, a2, a3⟩ := y16 (by omega)
             exact ⟨D, a1, FST_l a2, a3⟩)
        obtain ⟨D, hSM, hF, hDV⟩ := hex
        refine at_aload dx_57_24 rfl ?_
        refine at_aload dx_57_25 rfl ?_
        refine at_callVVT dx_57_26 rfl lc_0 rfl (x_addPending hc (CI_sq hC (fr_le F (fun q h => by (try dsimp only [blk, sq, cq, lo, wq, pq, vq] at h ⊢); first | done | omega)) T G)) ?_ ?_
        rotate_left
        · rintro e M9 ⟨he, k⟩; exact Or.inr ⟨e, rfl, rfl, (by simp only [List.mem_cons, List.not_mem_nil, or_false]; omega), OC_of h0 h3 hcx (Or.inr (by rw [hCS]; exact No_F hc hC.1 F hDV hSM hF k))⟩
        rintro M8 k8
        refine at_aload dx_57_27 rfl ?_
        refine at_getR dx_57_28 lc_0 rfl lt_0_8 ?_
        refine at_getR dx_57_29 lc_12 rfl lt_12_10 ?_
        refine at_getI 1 dx_57_30 lc_18 rfl rfl (fun r30 => ?_)
        refine at_iretIT dx_57_31 r30 ?_
        exact OC_of h0 h3 hcx (Or.inl (by rw [hCS]; exact Out_F hc hC.1 F hDV hSM hF k8))
      · skip
        refine at_thrT dx_57_23 rfl ?_
        exact ⟨by decide, OC_of h0 h3 hcx (Or.inr ⟨(CI_sq hC (fr_le F (fun q h => by (try dsimp only [blk, sq, cq, lo, wq, pq, vq] at h ⊢); first | done | omega)) T G), F, fun hh => by rw [hCS] at hh; obtain ⟨D, hD1, hD2⟩ := hh.2; exact no_app (z16 (by omega)) (z21 (by omega)) D hD1 hD2⟩)⟩
  · skip
    refine at_thrT dx_57_12 rfl ?_
    exact ⟨by decide, OC_nil h0 h3 hcx hC fr_rf (by show cIL _ _ = []; exact cIL_f (fun hh => hh.2 (List.length_eq_zero_iff.mp (by omega))))⟩
