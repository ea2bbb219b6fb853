/-! ===== pasting, of the reference ===== -/
theorem cp_at {M : mem} {c k : Int} (h0 : 0 ≤ k) (h1 : k < M 874 c) : atL (cpM M c) k = M 873 (60 * c + k) ∧ (cpM M c).getD k.toNat 0 = M 873 (60 * c + k) := by
  have hl : (cpM M c).length = (M 874 c).toNat := by unfold cpM; rw [List.length_map, List.length_range]
  have h9 : (cpM M c).getD k.toNat 0 = M 873 (60 * c + k) := by
    unfold cpM
    rw [List.getD_eq_getElem?_getD, List.getElem?_map, List.getElem?_range (by omega)]
    show M 873 (60 * c + ((k.toNat : Nat) : Int)) = _
    rw [Int.toNat_of_nonneg h0]
  exact ⟨by rw [atL_get h0 (by omega), h9], h9⟩
theorem cpM_len {M : mem} {c : Int} : (cpM M c).length = (M 874 c).toNat := by unfold cpM; rw [List.length_map, List.length_range]
theorem cpM_cg {M M1 : mem} {c : Int} (h1 : M1 874 c = M 874 c) (h : M1 873 = M 873) : cpM M1 c = cpM M c := by unfold cpM; rw [h1, h]
theorem fcl_at {l : List Int} {k lv : Int} (h0 : 0 ≤ k) (h1 : k < (l.length : Int)) : fcl (l.drop k.toNat) lv k = if lv + dch (atL l k) = 0 then k else fcl (l.drop (k + 1).toNat) (lv + dch (atL l k)) (k + 1) := by
  rw [drop_cons (i := k) h0 h1, atL_get h0 h1]
  rfl
theorem wE_cp {M M1 : mem} {c : Int} (F : frE wE M M1) : M1 874 c = M 874 c ∧ M1 873 = M 873 := by
  have g : ∀ (q : Nat) (j : Int), (q = 873 ∨ q = 874) → M1 q j = M q j := fun q j hq => F q j (fun e => by
    rcases e with e | e | e | e | e | e <;> omega)
  exact ⟨g 874 c (Or.inr rfl), funext (fun j => g 873 j (Or.inl rfl))⟩
/-- what is put when f..t of what was copied is pasted, in a node of type y if y is not 0 -/
noncomputable def wrp (y : Int) (P : List Int) : List Int := if 0 < y then [y] ++ P ++ [0] else P
theorem pst_fin {M M1 M2 : mem} {c a x : Int} {P : List Int} (hM : MI M) (hc : 0 ≤ c ∧ c ≤ 2) (ha : 0 ≤ a ∧ a ≤ 60) (F : frE wE M M1) (hR : RS1 M1 a 0 P) (f44 : frE (fun q j => q = 877 ∨ (q = 856 ∧ j = 23) ∨ q = 868 ∨ q = 881 ∨ q = 882) M1 M2) (b : x = 0 ∨ x = 1) (hrd : x = 1 → ready M2 c) (h : x = 1 ↔ M1 871 c < 10 ∧ okW (mv M1 100) (M1 860 c) ∧ acc (M1 857) (M1 858) (apW (mv M1 100) (dc M1 c))) : frE wE M M2 ∧ (x = 0 ∨ x = 1) ∧ (x = 1 → ready M2 c ∧ P.length ≤ 60 ∧ cWD (mv M2 100) (0, ([a, 0], P))) ∧ (x = 1 ↔ M 871 c < 10 ∧ P.length ≤ 60 ∧ gd (M 857) (M 858) (dc M c) (0, ([a, 0], P))) := by
  have F2 : frE wE M M2 := fe_tr F (fe_le f44 (fun q j h => wE_C h))
  have e2 : mv M2 100 = mv M1 100 := mv_fe f44 (fun q j e h8 hq => by (try dsimp only [stE] at e hq); omega)
  refine ⟨F2, b, fun e => ?_, ?_⟩
  · have h1 := h.mp e
    have hP : P.length ≤ 60 := by
      obtain ⟨h1, h2, h3, h4, h5, h6⟩ := hR
      obtain ⟨_, h8, _⟩ := h.mp e
      unfold okW mv at h8
      dsimp only at h8
      rw [show (2 * 100 : Int) = 200 from rfl] at h8
      omega
    exact ⟨hrd e, hP, by rw [e2]; exact RS1_D hR hP⟩
  · by_cases hP : P.length ≤ 60
    · have hc2 := can_iff hM hc F (RS1_D hR hP) ⟨ha, by decide, hP⟩ (show ¬ ((0 : Nat) = 2) by decide) h
      rw [hc2]
      exact ⟨fun ⟨p, q⟩ => ⟨p, hP, q⟩, fun ⟨p, _, q⟩ => ⟨p, q⟩⟩
    · constructor
      · intro e
        exfalso
        obtain ⟨h1, h2, h3, h4, h5, h6⟩ := hR
        obtain ⟨_, h8, _⟩ := h.mp e
        unfold okW mv at h8
        dsimp only at h8
        rw [show (2 * 100 : Int) = 200 from rfl] at h8
        omega
      · rintro ⟨_, h9, _⟩
        exact absurd h9 hP
theorem gd_len {K Q : Int → Int} {l P : List Int} {a : Int} (h : gd K Q l (0, ([a, 0], P))) : P.length ≤ 60 := by
  obtain ⟨h1, _⟩ := h
  rw [okD_0] at h1
  omega
/-- what is known while it is looked whether f..t is a node -/
def NIv (cp : List Int) (f t d b k : Int) : Prop := (b = 1 ∧ isO (atL cp f) ∧ f < t ∧ ((k < t ∧ ((k = f ∧ d = 0) ∨ 0 < d) ∧ d = dsm cp k.toNat - dsm cp f.toNat ∧ fcl (cp.drop k.toNat) d k = fcl (cp.drop f.toNat) 0 f) ∨ (k = t ∧ clq cp f = t - 1 ∧ dsm cp (f + 1).toNat = dsm cp (t - 1).toNat ∧ f + 1 ≤ t - 1))) ∨ (b = 0 ∧ ¬ (f < t ∧ clq cp f = t - 1))
theorem NIv_step {cp : List Int} {f t d b k d1 b1 : Int} (hv : NIv cp f t d b k) (hb : b ≠ 0) (hk : k < t) (hf : 0 ≤ f) (hkf : f ≤ k) (ht : t ≤ (cp.length : Int)) (hs : dsm cp f.toNat = dsm cp t.toNat) (hd : d ≤ k - f) (e1 : d1 = d + dch (atL cp k)) (e2 : (b1 = 1 ∧ (0 < d1 ∨ k = t - 1)) ∨ (b1 = 0 ∧ ¬ 0 < d1 ∧ k ≠ t - 1)) : NIv cp f t d1 b1 (k + 1) := by
  rcases hv with ⟨v1, v2, v3, ⟨v4, v5, v6, v7⟩ | ⟨v4, _⟩⟩ | ⟨v1, _⟩
  · have hz := dsm_atL (l := cp) (i := k) (by omega) (by omega)
    have hfc := fcl_at (l := cp) (k := k) (lv := d) (by omega) (by omega)
    have hdl := dch_le (atL cp k)
    have hf1 := dsm_atL (l := cp) (i := f) (by omega) (by omega)
    have hcq : clq cp f = fcl (cp.drop f.toNat) 0 f := by unfold clq; rw [if_pos v2]
    have hfO : dch (atL cp f) = 1 := by unfold dch; rw [if_neg (by omega), if_pos v2]
    have hkf2 : k = f → dch (atL cp k) = 1 := fun e => by rw [e]; exact hfO
    have hd0 : 0 ≤ d1 := by omega
    rw [← e1, v7] at hfc
    rcases e2 with ⟨w1, w2⟩ | ⟨w1, w2, w3⟩
    · refine Or.inl ⟨w1, v2, v3, ?_⟩
      by_cases hl : k = t - 1
      · refine Or.inr ⟨by omega, ?_⟩
        have hkt1 : (k + 1).toNat = t.toNat := by omega
        rw [hkt1] at hz
        have hd9 : d1 = 0 := by omega
        rw [if_pos hd9] at hfc
        have e9 : (t - 1).toNat = k.toNat := by omega
        refine ⟨by omega, ?_, ?_⟩
        · rw [e9]; omega
        · by_cases hkk : k = f
          · have := hkf2 hkk
            rw [hkk] at v6; omega
          · omega
      · rw [if_neg (by omega)] at hfc
        exact Or.inl ⟨by omega, Or.inr (by omega), by omega, hfc.symm⟩
    · refine Or.inr ⟨w1, fun hh => ?_⟩
      rw [if_pos (by omega)] at hfc
      omega
  · omega
  · omega
theorem wrp_0 (P : List Int) : wrp 0 P = P := if_neg (by decide)
theorem wrapR_more {cp : List Int} {p t : Int} (k : Nat) (h : 0 < t) : wrapR cp p (k + 1) t = (0, ([p, 0], wrp t cp)) :: wrapR cp p k (t + 1) := by
  show (0, ([p, 0], t :: cp ++ [0])) :: _ = _
  unfold wrp
  rw [if_pos h]
  rfl
theorem wrp_len {y : Int} {P : List Int} (h : 0 < y) : (wrp y P).length = P.length + 2 := by
  unfold wrp
  rw [if_pos h]
  simp
theorem wrapL_no {K Q : Int → Int} {l cp : List Int} {p y : Int} (h : ¬ cp.length + 2 ≤ 60) (hy : 0 < y) : ¬ gd K Q l (0, ([p, 0], wrp y cp)) := fun hh => by
  have := gd_len hh
  rw [wrp_len hy] at this
  exact h this
/-- a paste is ready -/
def PRD (M M' : mem) (c : Int) (L : List gD) : Prop := ready M' c ∧ ∃ D, smD D ∧ D.1 ≠ 2 ∧ FST (M 857) (M 858) (dc M c) L D ∧ cWD (mv M' 100) D
theorem PRD_i {M M' : mem} {c : Int} {L : List gD} (h : ready M' c ∧ ∃ D, smD D ∧ D.1 ≠ 2 ∧ FST (M 857) (M 858) (dc M c) L D ∧ cWD (mv M' 100) D) : PRD M M' c L := h
/-- what is known of the bare and of the wrapped ones that were tried -/
def BRV (M : mem) (c a f t : Int) : Prop := ∃ (k : Nat) (pre : List gD), t - f ≤ (k : Int) ∧ bareL (cpM M c) a (cpM M c).length 0 ((cpM M c).length : Int) = pre ++ bareL (cpM M c) a k f t ∧ ∀ x ∈ pre, ¬ gd (M 857) (M 858) (dc M c) x
theorem BRV_i {M : mem} {c a f t : Int} (h : ∃ (k : Nat) (pre : List gD), t - f ≤ (k : Int) ∧ bareL (cpM M c) a (cpM M c).length 0 ((cpM M c).length : Int) = pre ++ bareL (cpM M c) a k f t ∧ ∀ x ∈ pre, ¬ gd (M 857) (M 858) (dc M c) x) : BRV M c a f t := h
def WRV (M : mem) (c a y : Int) : Prop := ((cpM M c).length + 2 ≤ 60 ∧ ∃ (k : Nat) (pre : List gD), 6 - y = (k : Int) ∧ wrapL (cpM M c) a = pre ++ wrapR (cpM M c) a k y ∧ ∀ x ∈ pre, ¬ gd (M 857) (M 858) (dc M c) x) ∨ ¬ (cpM M c).length + 2 ≤ 60
theorem WRV_i {M : mem} {c a y : Int} (h : ((cpM M c).length + 2 ≤ 60 ∧ ∃ (k : Nat) (pre : List gD), 6 - y = (k : Int) ∧ wrapL (cpM M c) a = pre ++ wrapR (cpM M c) a k y ∧ ∀ x ∈ pre, ¬ gd (M 857) (M 858) (dc M c) x) ∨ ¬ (cpM M c).length + 2 ≤ 60) : WRV M c a y := h
def BNO (M : mem) (c : Int) (L : List gD) : Prop := ∀ x ∈ L, ¬ gd (M 857) (M 858) (dc M c) x
theorem WRV_0 {M : mem} {c a : Int} : WRV M c a 1 := by
  by_cases h60 : (cpM M c).length + 2 ≤ 60
  · exact WRV_i (Or.inl ⟨h60, 5, [], by decide, by unfold wrapL; rw [if_pos h60]; rfl, no_nil⟩)
  · exact WRV_i (Or.inr h60)
theorem WRV_6 {M : mem} {c a : Int} (h : WRV M c a 6) : BNO M c (wrapL (cpM M c) a) := by
  rcases h with ⟨h60, k, pre, hk, hL, hno⟩ | h60
  · obtain rfl : k = 0 := by omega
    rw [hL]; exact no_app hno no_nil
  · unfold wrapL; rw [if_neg h60]; exact no_nil
theorem WRV_s {M : mem} {c a y : Int} (h : WRV M c a y) (hy : 1 ≤ y ∧ y < 6) (hn : ¬ gd (M 857) (M 858) (dc M c) (0, ([a, 0], wrp y (cpM M c)))) : WRV M c a (y + 1) := by
  rcases h with ⟨h60, k, pre, hk, hL, hno⟩ | h60
  · obtain ⟨k2, rfl⟩ : ∃ n, k = n + 1 := ⟨k - 1, by omega⟩
    refine WRV_i (Or.inl ⟨h60, k2, pre ++ [(0, ([a, 0], wrp y (cpM M c)))], by omega, ?_, no_app hno (no_one hn)⟩)
    rw [hL, wrapR_more k2 (by omega), List.append_assoc]
    rfl
  · exact WRV_i (Or.inr h60)
theorem WRV_f {M : mem} {c a y : Int} (h : WRV M c a y) (hy : 1 ≤ y ∧ y < 6) (hg : gd (M 857) (M 858) (dc M c) (0, ([a, 0], wrp y (cpM M c)))) : FST (M 857) (M 858) (dc M c) (wrapL (cpM M c) a) (0, ([a, 0], wrp y (cpM M c))) := by
  rcases h with ⟨h60, k, pre, hk, hL, hno⟩ | h60
  · obtain ⟨k2, rfl⟩ : ∃ n, k = n + 1 := ⟨k - 1, by omega⟩
    rw [hL, wrapR_more k2 (by omega)]
    exact FST_r (FST_hd hg) hno
  · exact absurd hg (wrapL_no h60 (by omega))
theorem BRV_f {M : mem} {c a f t : Int} (h : BRV M c a f t) (hlt : f < t) (hg : gd (M 857) (M 858) (dc M c) (0, ([a, 0], sl (cpM M c) f t))) : FST (M 857) (M 858) (dc M c) (bareL (cpM M c) a (cpM M c).length 0 ((cpM M c).length : Int)) (0, ([a, 0], sl (cpM M c) f t)) := by
  obtain ⟨k, pre, hk, hL, hno⟩ := h
  obtain ⟨r9, hr9⟩ := bareL_hd (cp := cpM M c) (p := a) (f := f) (e := t) (k := k) hlt (by omega)
  rw [hL, hr9]
  exact FST_r (FST_hd hg) hno
theorem BRV_s {M : mem} {c a f t : Int} (h : BRV M c a f t) (hlt : f < t ∧ clq (cpM M c) f = t - 1) (hng : ¬ gd (M 857) (M 858) (dc M c) (0, ([a, 0], sl (cpM M c) f t))) : BRV M c a (f + 1) (t + -1) := by
  obtain ⟨k, pre, hk, hL, hno⟩ := h
  obtain ⟨k2, rfl⟩ : ∃ n, k = n + 1 := ⟨k - 1, by omega⟩
  refine BRV_i ⟨k2, pre ++ [(0, ([a, 0], sl (cpM M c) f t))], by omega, ?_, no_app hno (no_one hng)⟩
  rw [hL, bareL_more hlt.1 hlt.2, List.append_assoc, show t + -1 = t - 1 by omega]
  rfl
theorem BRV_e {M : mem} {c a f t : Int} (h : BRV M c a f t) (hn : ¬ (f < t ∧ clq (cpM M c) f = t - 1)) (hng : f < t → ¬ gd (M 857) (M 858) (dc M c) (0, ([a, 0], sl (cpM M c) f t))) : BNO M c (bareL (cpM M c) a (cpM M c).length 0 ((cpM M c).length : Int)) := by
  obtain ⟨k, pre, hk, hL, hno⟩ := h
  by_cases hlt : f < t
  · rw [hL, bareL_one hlt (by omega) (fun e => hn ⟨hlt, e⟩)]
    exact no_app hno (no_one (hng hlt))
  · rw [hL, bareL_nil hlt]
    exact no_app hno no_nil
theorem BRV_0 {M : mem} {c a t : Int} (h : ((cpM M c).length : Int) = t) : BRV M c a 0 t := BRV_i ⟨(cpM M c).length, [], by omega, by rw [← h]; rfl, no_nil⟩
theorem FST_ok {K Q : Int → Int} {l : List Int} {L : List gD} {D : gD} (h : FST K Q l L D) : okD D l := by
  obtain ⟨pre, post, h1, h2, h3⟩ := h
  exact h2.1
theorem OM_noL {M M' : mem} {c : Int} {cs : cfn} (hc : 0 ≤ c ∧ c ≤ 2) (hM' : MI M') (F : frE wE M M') (h : M 871 c < 10 → ∀ D ∈ cs (dc M c) (cpM M c), ¬ gd (M 857) (M 858) (dc M c) D) : OM c cs M M' :=
  Or.inl ⟨hc.1, by omega, Or.inr ⟨hM', F, fun ⟨a, D, hD, b⟩ => h a D hD b⟩⟩

set_option maxRecDepth 100000 in
set_option maxHeartbeats 4000000 in
theorem x_canPaste {X : scr} {M : mem} {c a f t y : Int} (rc : inR c) (ra : inR a) (rf : inR f) (rt : inR t) (ry : inR y) (hM : MI M) (hG : GR (M 857) (M 858)) (hc : 0 ≤ c ∧ c ≤ 2) (ha : 0 ≤ a ∧ a ≤ M 860 c) (hft : 0 ≤ f ∧ t ≤ M 874 c) (hy : 0 ≤ y ∧ y ≤ 5) : At X 0 138 0 [vr 856, vi c, vi a, vi f, vi t, vi y] [] M (qI (fun x M' => frE wE M M' ∧ (x = 0 ∨ x = 1) ∧ (x = 1 → f < t ∧ ready M' c ∧ cWD (mv M' 100) (0, ([a, 0], wrp y (sl (cpM M c) f t)))) ∧ (x = 1 ↔ f < t ∧ M 871 c < 10 ∧ gd (M 857) (M 858) (dc M c) (0, ([a, 0], wrp y (sl (cpM M c) f t)))))) := by
  have F : frE wE M M := fe_rf
  have hS := hM.1 c hc.1 (by omega)
  have hmc := hM.2.2.2.2 c hc.1 hc.2
  unfold MC at hmc
  have hLc := cpM_len (M := M) (c := c)
  have hy1 : (if 0 < y then [y] else []).length ≤ 1 := by split <;> simp
  have hln : ∀ k : Int, f ≤ k → k ≤ t → (sl (cpM M c) f k).length ≤ 60 := fun k h1 h2 => by have := sl_len (cp := cpM M c) hft.1 h1 (by omega); omega
  have lp : ∀ (n9 : Nat) (k : Int) (M1 : mem) (rk : inR k) (hk : f ≤ k ∧ k ≤ t) (hlt : f < t) (hn : (t - k).toNat = n9) (F : frE wE M M1) (hv : RS1 M1 a 0 ((if 0 < y then [y] else []) ++ sl (cpM M c) f k)), At X 0 138 18 [vr 856, vi c, vi a, vi f, vi t, vi y, vi k] [] M1 (qI (fun x M' => frE wE M M' ∧ (x = 0 ∨ x = 1) ∧ (x = 1 → f < t ∧ ready M' c ∧ cWD (mv M' 100) (0, ([a, 0], wrp y (sl (cpM M c) f t)))) ∧ (x = 1 ↔ f < t ∧ M 871 c < 10 ∧ gd (M 857) (M 858) (dc M c) (0, ([a, 0], wrp y (sl (cpM M c) f t)))))) := by
    intro n9
    induction n9 using Nat.strongRecOn with
    | ind n9 ih =>
    intro k M1 rk hk hlt hn F hv
    obtain ⟨g74, g73⟩ := wE_cp (c := c) F
    refine at_iload dx_138_18 rfl ?_
    refine at_iload dx_138_19 rfl ?_
    refine at_cgeR dx_138_20 rk rt (fun c20 => ?_) (fun c20 => ?_)
    · skip
      refine at_iload dx_138_35 rfl ?_
      refine at_zleR dx_138_36 ry (fun c36 => ?_) (fun c36 => ?_)
      · skip
        refine at_aload dx_138_42 rfl ?_
        refine at_iload dx_138_43 rfl ?_
        refine at_callVI dx_138_44 rfl lc_856 rfl (x_canEdit2 rc hc (MI_wE hM F) (okX100.mpr (by obtain ⟨y1, y2, y3, y4, y5, y6⟩ := hv; have y7 := (wE_c F).1 c; have := hln k hk.1 hk.2; simp only [List.length_append, List.length_cons, List.length_nil] at y5; omega)) (by rw [(wE_c F).2.2.2.1, (wE_c F).2.2.2.2]; exact hG)) ?_
        rintro x44 M44 r44 ⟨f44, b44, hrd, hcn⟩
        refine at_zretI dx_138_45 b44 ?_
        have hkt : k = t := by omega
        subst hkt
        have hw : (if 0 < y then [y] else []) ++ sl (cpM M c) f k = wrp y (sl (cpM M c) f k) := by unfold wrp; rw [if_neg (by omega), if_neg (by omega)]; rfl
        obtain ⟨z1, z2, z3, z4⟩ := pst_fin hM hc (by omega) F hv f44 b44 hrd hcn
        rw [hw] at z3 z4
        exact ⟨z1, z2, fun e => ⟨hlt, (z3 e).1, (z3 e).2.2⟩, z4.trans ⟨fun ⟨p, _, q⟩ => ⟨hlt, p, q⟩, fun ⟨_, p, q⟩ => ⟨p, gd_len q, q⟩⟩⟩
      · skip
        refine at_aload dx_138_37 rfl ?_
        refine at_const (x := 100) dx_138_38 rfl ?_
        refine at_const (x := 0) dx_138_39 rfl ?_
        refine at_const (x := 0) dx_138_40 rfl ?_
        refine at_callVV dx_138_41 rfl lc_856 rfl (x_adds0 (by decide) hv (by rw [List.length_append]; have := hln k hk.1 hk.2; have := hy1; omega)) ?_
        rintro M41 ⟨f41, d41⟩
        replace F : frE wE M _ := fe_tr F f41
        refine at_aload dx_138_42 rfl ?_
        refine at_iload dx_138_43 rfl ?_
        refine at_callVI dx_138_44 rfl lc_856 rfl (x_canEdit2 rc hc (MI_wE hM F) (okX100.mpr (by obtain ⟨y1, y2, y3, y4, y5, y6⟩ := d41; have y7 := (wE_c F).1 c; have := hln k hk.1 hk.2; simp only [List.length_append, List.length_cons, List.length_nil] at y5; omega)) (by rw [(wE_c F).2.2.2.1, (wE_c F).2.2.2.2]; exact hG)) ?_
        rintro x44 M44 r44 ⟨f44, b44, hrd, hcn⟩
        refine at_zretI dx_138_45 b44 ?_
        have hkt : k = t := by omega
        subst hkt
        have hw : ((if 0 < y then [y] else []) ++ sl (cpM M c) f k) ++ [0] = wrp y (sl (cpM M c) f k) := by unfold wrp; rw [if_pos (by omega), if_pos (by omega)]
        obtain ⟨z1, z2, z3, z4⟩ := pst_fin hM hc (by omega) F d41 f44 b44 hrd hcn
        rw [hw] at z3 z4
        exact ⟨z1, z2, fun e => ⟨hlt, (z3 e).1, (z3 e).2.2⟩, z4.trans ⟨fun ⟨p, _, q⟩ => ⟨hlt, p, q⟩, fun ⟨_, p, q⟩ => ⟨p, gd_len q, q⟩⟩⟩
    · skip
      refine at_aload dx_138_21 rfl ?_
      refine at_const (x := 100) dx_138_22 rfl ?_
      refine at_const (x := 0) dx_138_23 rfl ?_
      refine at_aload dx_138_24 rfl ?_
      refine at_getR dx_138_25 lc_856 rfl lt_856_17 ?_
      refine at_const (x := 60) dx_138_26 rfl ?_
      refine at_iload dx_138_27 rfl ?_
      refine at_mulR dx_138_28 (by constructor <;> omega) (fun r28 => ?_)
      refine at_iload dx_138_29 rfl ?_
      refine at_addR dx_138_30 (by constructor <;> omega) (fun r30 => ?_)
      refine at_aldI dx_138_31 lc_873 ln_873 (by first | omega | (simp (disch := omega) only [um_eq, um_k, um_j]; omega)) (by first | omega | (simp (disch := omega) only [um_eq, um_k, um_j]; omega)) (fun r31 => ?_)
      refine at_callVV dx_138_32 rfl lc_856 rfl (x_adds0 r31 hv (by rw [List.length_append]; have := hln k hk.1 hk.2; have := hy1; omega)) ?_
      rintro M32 ⟨f32, d32⟩
      replace F : frE wE M _ := fe_tr F f32
      refine at_iincR (y := 1) dx_138_33 rfl rfl (by constructor <;> omega) (fun r33 => ?_)
      refine at_goto dx_138_34 ?_
      refine ih _ (by omega) _ _ r33 (by omega) hlt rfl F ?_
      rw [← sl_succ hft.1 hk.1 (by omega), ← List.append_assoc, (cp_at (by omega) (by omega)).2, ← g73]
      exact d32
  refine at_iload dx_138_0 rfl ?_
  refine at_iload dx_138_1 rfl ?_
  refine at_cgtR dx_138_2 rt rf (fun c2 => ?_) (fun c2 => ?_)
  · skip
    refine at_aload dx_138_5 rfl ?_
    refine at_iload dx_138_6 rfl ?_
    refine at_const (x := 0) dx_138_7 rfl ?_
    refine at_callVV dx_138_8 rfl lc_856 rfl (x_tries ra (by decide)) ?_
    rintro M8 ⟨f8, d8⟩
    replace F : frE wE M _ := fe_tr F f8
    refine at_iload dx_138_9 rfl ?_
    refine at_zleR dx_138_10 ry (fun c10 => ?_) (fun c10 => ?_)
    · skip
      refine at_iload dx_138_16 rfl ?_
      refine at_istore dx_138_17 ?_
      first
      | exact lp _ _ _ rf (by omega) (by omega) rfl F (by rw [if_pos (by omega), sl_nil]; exact d15)
      | exact lp _ _ _ rf (by omega) (by omega) rfl F (by rw [if_neg (by omega), sl_nil]; exact d8)
    · skip
      refine at_aload dx_138_11 rfl ?_
      refine at_const (x := 100) dx_138_12 rfl ?_
      refine at_const (x := 0) dx_138_13 rfl ?_
      refine at_iload dx_138_14 rfl ?_
      refine at_callVV dx_138_15 rfl lc_856 rfl (x_adds0 ry d8 (by simp)) ?_
      rintro M15 ⟨f15, d15⟩
      replace F : frE wE M _ := fe_tr F f15
      refine at_iload dx_138_16 rfl ?_
      refine at_istore dx_138_17 ?_
      first
      | exact lp _ _ _ rf (by omega) (by omega) rfl F (by rw [if_pos (by omega), sl_nil]; exact d15)
      | exact lp _ _ _ rf (by omega) (by omega) rfl F (by rw [if_neg (by omega), sl_nil]; exact d8)
  · skip
    refine at_const (x := 0) dx_138_3 rfl ?_
    refine at_zretI dx_138_4 (Or.inl rfl) ?_
    exact ⟨F, Or.inl rfl, fun e => absurd e (by decide), ⟨fun e => absurd e (by decide), fun ⟨h, _⟩ => by omega⟩⟩

set_option maxRecDepth 100000 in
set_option maxHeartbeats 4000000 in
theorem x_isNode {X : scr} {M : mem} {c f t : Int} (rc : inR c) (rf : inR f) (rt : inR t) (hc : 0 ≤ c ∧ c ≤ 2) (hft : 0 ≤ f ∧ t ≤ M 874 c) (h60 : M 874 c ≤ 60) (hs : f ≤ t → dsm (cpM M c) f.toNat = dsm (cpM M c) t.toNat) : At X 0 139 0 [vr 856, vi c, vi f, vi t] [] M (qI (fun x M' => M' = M ∧ (x = 0 ∨ x = 1) ∧ (x = 1 ↔ (f < t ∧ clq (cpM M c) f = t - 1)) ∧ (x = 1 → dsm (cpM M c) (f + 1).toNat = dsm (cpM M c) (t - 1).toNat ∧ f + 1 ≤ t - 1))) := by
  have hLc := cpM_len (M := M) (c := c)
  have hfo := fun (h : f < t) => (cp_at (M := M) (c := c) (k := f) hft.1 (by omega)).1
  have lp : ∀ (n9 : Nat) (d b k : Int) (rd : inR d) (rb : inR b) (rk : inR k) (hk : f ≤ k) (hd : f - k ≤ d ∧ d ≤ k - f) (hb : b = 0 ∨ b = 1) (hv : NIv (cpM M c) f t d b k) (hn : (t - k).toNat = n9), At X 0 139 21 [vr 856, vi c, vi f, vi t, vi d, vi b, vi k] [] M (qI (fun x M' => M' = M ∧ (x = 0 ∨ x = 1) ∧ (x = 1 ↔ (f < t ∧ clq (cpM M c) f = t - 1)) ∧ (x = 1 → dsm (cpM M c) (f + 1).toNat = dsm (cpM M c) (t - 1).toNat ∧ f + 1 ≤ t - 1))) := by
    intro n9
    induction n9 using Nat.strongRecOn with
    | ind n9 ih =>
    intro d b k rd rb rk hk hd hb hv hn
    have hat := fun (h : k < t) => (cp_at (M := M) (c := c) (k := k) (by omega) (by omega)).1
    refine at_iload dx_139_21 rfl ?_
    refine at_iload dx_139_22 rfl ?_
    refine at_cgeR dx_139_23 rk rt (fun c23 => ?_) (fun c23 => ?_)
    · skip
      refine at_iload dx_139_61 rfl ?_
      refine at_zretI dx_139_62 (by omega) ?_
      rcases hv with ⟨v1, v2, v3, ⟨v4, _⟩ | ⟨v4, v5, v6, v7⟩⟩ | ⟨v1, v2⟩
      · exfalso; omega
      · exact ⟨rfl, Or.inr v1, ⟨fun _ => ⟨v3, v5⟩, fun _ => v1⟩, fun _ => ⟨v6, v7⟩⟩
      · exact ⟨rfl, Or.inl v1, ⟨fun e => absurd e (by omega), fun h => absurd h v2⟩, fun e => absurd e (by omega)⟩
    · skip
      refine at_iload dx_139_24 rfl ?_
      refine at_zeqR dx_139_25 rb (fun c25 => ?_) (fun c25 => ?_)
      · skip
        refine at_iload dx_139_61 rfl ?_
        refine at_zretI dx_139_62 (by omega) ?_
        rcases hv with ⟨v1, v2, v3, ⟨v4, _⟩ | ⟨v4, v5, v6, v7⟩⟩ | ⟨v1, v2⟩
        · exfalso; omega
        · exact ⟨rfl, Or.inr v1, ⟨fun _ => ⟨v3, v5⟩, fun _ => v1⟩, fun _ => ⟨v6, v7⟩⟩
        · exact ⟨rfl, Or.inl v1, ⟨fun e => absurd e (by omega), fun h => absurd h v2⟩, fun e => absurd e (by omega)⟩
      · skip
        refine at_aload dx_139_26 rfl ?_
        refine at_getR dx_139_27 lc_856 rfl lt_856_17 ?_
        refine at_const (x := 60) dx_139_28 rfl ?_
        refine at_iload dx_139_29 rfl ?_
        refine at_mulR dx_139_30 (by (constructor <;> omega)) (fun r30 => ?_)
        refine at_iload dx_139_31 rfl ?_
        refine at_addR dx_139_32 (by (constructor <;> omega)) (fun r32 => ?_)
        refine at_aldI dx_139_33 lc_873 ln_873 (by first | omega | (simp (disch := omega) only [um_eq, um_k, um_j]; omega)) (by first | omega | (simp (disch := omega) only [um_eq, um_k, um_j]; omega)) (fun r33 => ?_)
        refine at_istore dx_139_34 ?_
        refine at_iload dx_139_35 rfl ?_
        refine at_iload dx_139_36 rfl ?_
        refine at_zneR dx_139_37 r33 (fun c37 => ?_) (fun c37 => ?_)
        · skip
          refine at_iload dx_139_40 rfl ?_
          refine at_callSI dx_139_41 rfl rfl (m_opens r33) ?_
          rintro x41 M9 r41 ⟨e9, h41⟩; replace e9 := e9.symm; subst e9; replace h41 := ite01 h41
          refine at_zeqR dx_139_42 r41 (fun c42 => ?_) (fun c42 => ?_)
          · skip
            refine at_const (x := 0) dx_139_45 rfl ?_
            refine at_addR dx_139_46 (by (constructor <;> omega)) (fun r46 => ?_)
            refine at_istore dx_139_47 ?_
            refine at_iload dx_139_48 rfl ?_
            refine at_zgtR dx_139_49 r46 (fun c49 => ?_) (fun c49 => ?_)
            · skip
              refine at_const (x := 1) dx_139_55 rfl ?_
              refine at_goto dx_139_56 ?_
              refine at_istore dx_139_58 ?_
              refine at_iincR (y := 1) dx_139_59 rfl rfl (by (constructor <;> omega)) (fun r59 => ?_)
              refine at_goto dx_139_60 ?_
              refine at_wk (ls := [vr 856, vi _, vi _, vi _, vi _, vi _, vi _]) ⟨Or.inl rfl, Or.inl rfl, Or.inl rfl, Or.inl rfl, Or.inl rfl, Or.inl rfl, Or.inl rfl, trivial⟩ ?_
              have ha := hat (by omega)
              have key := fun d1 b1 => NIv_step (d1 := d1) (b1 := b1) hv (by omega) (by omega) hft.1 hk (by omega) (hs (by omega)) hd.2
              first
              | (exfalso; omega)
              | (have hdc : dch (atL (cpM M c) k) = 1 := by rw [ha]; unfold dch; rw [if_neg (by omega), if_pos (by omega)]
                 exact ih _ (by omega) _ _ _ (by assumption) (by decide) r59 (by omega) (by omega) (by decide) (key _ _ (by omega) (by omega)) rfl)
              | (have hdc : dch (atL (cpM M c) k) = -1 := by rw [ha]; unfold dch; rw [if_pos (by omega)]
                 exact ih _ (by omega) _ _ _ (by assumption) (by decide) r59 (by omega) (by omega) (by decide) (key _ _ (by omega) (by omega)) rfl)
              | (have hdc : dch (atL (cpM M c) k) = 0 := by rw [ha]; unfold dch; rw [if_neg (by omega), if_neg (by omega)]
                 exact ih _ (by omega) _ _ _ (by assumption) (by decide) r59 (by omega) (by omega) (by decide) (key _ _ (by omega) (by omega)) rfl)
            · skip
              refine at_iload dx_139_50 rfl ?_
              refine at_iload dx_139_51 rfl ?_
              refine at_const (x := 1) dx_139_52 rfl ?_
              refine at_subR dx_139_53 (by (constructor <;> omega)) (fun r53 => ?_)
              refine at_cneR dx_139_54 rk r53 (fun c54 => ?_) (fun c54 => ?_)
              · skip
                refine at_const (x := 0) dx_139_57 rfl ?_
                refine at_istore dx_139_58 ?_
                refine at_iincR (y := 1) dx_139_59 rfl rfl (by (constructor <;> omega)) (fun r59 => ?_)
                refine at_goto dx_139_60 ?_
                refine at_wk (ls := [vr 856, vi _, vi _, vi _, vi _, vi _, vi _]) ⟨Or.inl rfl, Or.inl rfl, Or.inl rfl, Or.inl rfl, Or.inl rfl, Or.inl rfl, Or.inl rfl, trivial⟩ ?_
                have ha := hat (by omega)
                have key := fun d1 b1 => NIv_step (d1 := d1) (b1 := b1) hv (by omega) (by omega) hft.1 hk (by omega) (hs (by omega)) hd.2
                first
                | (exfalso; omega)
                | (have hdc : dch (atL (cpM M c) k) = 1 := by rw [ha]; unfold dch; rw [if_neg (by omega), if_pos (by omega)]
                   exact ih _ (by omega) _ _ _ (by assumption) (by decide) r59 (by omega) (by omega) (by decide) (key _ _ (by omega) (by omega)) rfl)
                | (have hdc : dch (atL (cpM M c) k) = -1 := by rw [ha]; unfold dch; rw [if_pos (by omega)]
                   exact ih _ (by omega) _ _ _ (by assumption) (by decide) r59 (by omega) (by omega) (by decide) (key _ _ (by omega) (by omega)) rfl)
                | (have hdc : dch (atL (cpM M c) k) = 0 := by rw [ha]; unfold dch; rw [if_neg (by omega), if_neg (by omega)]
                   exact ih _ (by omega) _ _ _ (by assumption) (by decide) r59 (by omega) (by omega) (by decide) (key _ _ (by omega) (by omega)) rfl)
              · skip
                refine at_const (x := 1) dx_139_55 rfl ?_
                refine at_goto dx_139_56 ?_
                refine at_istore dx_139_58 ?_
                refine at_iincR (y := 1) dx_139_59 rfl rfl (by (constructor <;> omega)) (fun r59 => ?_)
                refine at_goto dx_139_60 ?_
                refine at_wk (ls := [vr 856, vi _, vi _, vi _, vi _, vi _, vi _]) ⟨Or.inl rfl, Or.inl rfl, Or.inl rfl, Or.inl rfl, Or.inl rfl, Or.inl rfl, Or.inl rfl, trivial⟩ ?_
                have ha := hat (by omega)
                have key := fun d1 b1 => NIv_step (d1 := d1) (b1 := b1) hv (by omega) (by omega) hft.1 hk (by omega) (hs (by omega)) hd.2
                first
                | (exfalso; omega)
                | (have hdc : dch (atL (cpM M c) k) = 1 := by rw [ha]; unfold dch; rw [if_neg (by omega), if_pos (by omega)]
                   exact ih _ (by omega) _ _ _ (by assumption) (by decide) r59 (by omega) (by omega) (by decide) (key _ _ (by omega) (by omega)) rfl)
                | (have hdc : dch (atL (cpM M c) k) = -1 := by rw [ha]; unfold dch; rw [if_pos (by omega)]
                   exact ih _ (by omega) _ _ _ (by assumption) (by decide) r59 (by omega) (by omega) (by decide) (key _ _ (by omega) (by omega)) rfl)
                | (have hdc : dch (atL (cpM M c) k) = 0 := by rw [ha]; unfold dch; rw [if_neg (by omega), if_neg (by omega)]
                   exact ih _ (by omega) _ _ _ (by assumption) (by decide) r59 (by omega) (by omega) (by decide) (key _ _ (by omega) (by omega)) rfl)
          · skip
            refine at_const (x := 1) dx_139_43 rfl ?_
            refine at_goto dx_139_44 ?_
            refine at_addR dx_139_46 (by (constructor <;> omega)) (fun r46 => ?_)
            refine at_istore dx_139_47 ?_
            refine at_iload dx_139_48 rfl ?_
            refine at_zgtR dx_139_49 r46 (fun c49 => ?_) (fun c49 => ?_)
            · skip
              refine at_const (x := 1) dx_139_55 rfl ?_
              refine at_goto dx_139_56 ?_
              refine at_istore dx_139_58 ?_
              refine at_iincR (y := 1) dx_139_59 rfl rfl (by (constructor <;> omega)) (fun r59 => ?_)
              refine at_goto dx_139_60 ?_
              refine at_wk (ls := [vr 856, vi _, vi _, vi _, vi _, vi _, vi _]) ⟨Or.inl rfl, Or.inl rfl, Or.inl rfl, Or.inl rfl, Or.inl rfl, Or.inl rfl, Or.inl rfl, trivial⟩ ?_
              have ha := hat (by omega)
              have key := fun d1 b1 => NIv_step (d1 := d1) (b1 := b1) hv (by omega) (by omega) hft.1 hk (by omega) (hs (by omega)) hd.2
              first
              | (exfalso; omega)
              | (have hdc : dch (atL (cpM M c) k) = 1 := by rw [ha]; unfold dch; rw [if_neg (by omega), if_pos (by omega)]
                 exact ih _ (by omega) _ _ _ (by assumption) (by decide) r59 (by omega) (by omega) (by decide) (key _ _ (by omega) (by omega)) rfl)
              | (have hdc : dch (atL (cpM M c) k) = -1 := by rw [ha]; unfold dch; rw [if_pos (by omega)]
                 exact ih _ (by omega) _ _ _ (by assumption) (by decide) r59 (by omega) (by omega) (by decide) (key _ _ (by omega) (by omega)) rfl)
              | (have hdc : dch (atL (cpM M c) k) = 0 := by rw [ha]; unfold dch; rw [if_neg (by omega), if_neg (by omega)]
                 exact ih _ (by omega) _ _ _ (by assumption) (by decide) r59 (by omega) (by omega) (by decide) (key _ _ (by omega) (by omega)) rfl)
            · skip
              refine at_iload dx_139_50 rfl ?_
              refine at_iload dx_139_51 rfl ?_
              refine at_const (x := 1) dx_139_52 rfl ?_
              refine at_subR dx_139_53 (by (constructor <;> omega)) (fun r53 => ?_)
              refine at_cneR dx_139_54 rk r53 (fun c54 => ?_) (fun c54 => ?_)
              · skip
                refine at_const (x := 0) dx_139_57 rfl ?_
                refine at_istore dx_139_58 ?_
                refine at_iincR (y := 1) dx_139_59 rfl rfl (by (constructor <;> omega)) (fun r59 => ?_)
                refine at_goto dx_139_60 ?_
                refine at_wk (ls := [vr 856, vi _, vi _, vi _, vi _, vi _, vi _]) ⟨Or.inl rfl, Or.inl rfl, Or.inl rfl, Or.inl rfl, Or.inl rfl, Or.inl rfl, Or.inl rfl, trivial⟩ ?_
                have ha := hat (by omega)
                have key := fun d1 b1 => NIv_step (d1 := d1) (b1 := b1) hv (by omega) (by omega) hft.1 hk (by omega) (hs (by omega)) hd.2
                first
                | (exfalso; omega)
                | (have hdc : dch (atL (cpM M c) k) = 1 := by rw [ha]; unfold dch; rw [if_neg (by omega), if_pos (by omega)]
                   exact ih _ (by omega) _ _ _ (by assumption) (by decide) r59 (by omega) (by omega) (by decide) (key _ _ (by omega) (by omega)) rfl)
                | (have hdc : dch (atL (cpM M c) k) = -1 := by rw [ha]; unfold dch; rw [if_pos (by omega)]
                   exact ih _ (by omega) _ _ _ (by assumption) (by decide) r59 (by omega) (by omega) (by decide) (key _ _ (by omega) (by omega)) rfl)
                | (have hdc : dch (atL (cpM M c) k) = 0 := by rw [ha]; unfold dch; rw [if_neg (by omega), if_neg (by omega)]
                   exact ih _ (by omega) _ _ _ (by assumption) (by decide) r59 (by omega) (by omega) (by decide) (key _ _ (by omega) (by omega)) rfl)
              · skip
                refine at_const (x := 1) dx_139_55 rfl ?_
                refine at_goto dx_139_56 ?_
                refine at_istore dx_139_58 ?_
                refine at_iincR (y := 1) dx_139_59 rfl rfl (by (constructor <;> omega)) (fun r59 => ?_)
                refine at_goto dx_139_60 ?_
                refine at_wk (ls := [vr 856, vi _, vi _, vi _, vi _, vi _, vi _]) ⟨Or.inl rfl, Or.inl rfl, Or.inl rfl, Or.inl rfl, Or.inl rfl, Or.inl rfl, Or.inl rfl, trivial⟩ ?_
                have ha := hat (by omega)
                have key := fun d1 b1 => NIv_step (d1 := d1) (b1 := b1) hv (by omega) (by omega) hft.1 hk (by omega) (hs (by omega)) hd.2
                first
                | (exfalso; omega)
                | (have hdc : dch (atL (cpM M c) k) = 1 := by rw [ha]; unfold dch; rw [if_neg (by omega), if_pos (by omega)]
                   exact ih _ (by omega) _ _ _ (by assumption) (by decide) r59 (by omega) (by omega) (by decide) (key _ _ (by omega) (by omega)) rfl)
                | (have hdc : dch (atL (cpM M c) k) = -1 := by rw [ha]; unfold dch; rw [if_pos (by omega)]
                   exact ih _ (by omega) _ _ _ (by assumption) (by decide) r59 (by omega) (by omega) (by decide) (key _ _ (by omega) (by omega)) rfl)
                | (have hdc : dch (atL (cpM M c) k) = 0 := by rw [ha]; unfold dch; rw [if_neg (by omega), if_neg (by omega)]
                   exact ih _ (by omega) _ _ _ (by assumption) (by decide) r59 (by omega) (by omega) (by decide) (key _ _ (by omega) (by omega)) rfl)
        · skip
          refine at_const (x := -1) dx_139_38 rfl ?_
          refine at_goto dx_139_39 ?_
          refine at_addR dx_139_46 (by (constructor <;> omega)) (fun r46 => ?_)
          refine at_istore dx_139_47 ?_
          refine at_iload dx_139_48 rfl ?_
          refine at_zgtR dx_139_49 r46 (fun c49 => ?_) (fun c49 => ?_)
          · skip
            refine at_const (x := 1) dx_139_55 rfl ?_
            refine at_goto dx_139_56 ?_
            refine at_istore dx_139_58 ?_
            refine at_iincR (y := 1) dx_139_59 rfl rfl (by (constructor <;> omega)) (fun r59 => ?_)
            refine at_goto dx_139_60 ?_
            refine at_wk (ls := [vr 856, vi _, vi _, vi _, vi _, vi _, vi _]) ⟨Or.inl rfl, Or.inl rfl, Or.inl rfl, Or.inl rfl, Or.inl rfl, Or.inl rfl, Or.inl rfl, trivial⟩ ?_
            have ha := hat (by omega)
            have key := fun d1 b1 => NIv_step (d1 := d1) (b1 := b1) hv (by omega) (by omega) hft.1 hk (by omega) (hs (by omega)) hd.2
            first
            | (exfalso; omega)
            | (have hdc : dch (atL (cpM M c) k) = 1 := by rw [ha]; unfold dch; rw [if_neg (by omega), if_pos (by omega)]
               exact ih _ (by omega) _ _ _ (by assumption) (by decide) r59 (by omega) (by omega) (by decide) (key _ _ (by omega) (by omega)) rfl)
            | (have hdc : dch (atL (cpM M c) k) = -1 := by rw [ha]; unfold dch; rw [if_pos (by omega)]
               exact ih _ (by omega) _ _ _ (by assumption) (by decide) r59 (by omega) (by omega) (by decide) (key _ _ (by omega) (by omega)) rfl)
            | (have hdc : dch (atL (cpM M c) k) = 0 := by rw [ha]; unfold dch; rw [if_neg (by omega), if_neg (by omega)]
               exact ih _ (by omega) _ _ _ (by assumption) (by decide) r59 (by omega) (by omega) (by decide) (key _ _ (by omega) (by omega)) rfl)
          · skip
            refine at_iload dx_139_50 rfl ?_
            refine at_iload dx_139_51 rfl ?_
            refine at_const (x := 1) dx_139_52 rfl ?_
            refine at_subR dx_139_53 (by (constructor <;> omega)) (fun r53 => ?_)
            refine at_cneR dx_139_54 rk r53 (fun c54 => ?_) (fun c54 => ?_)
            · skip
              refine at_const (x := 0) dx_139_57 rfl ?_
              refine at_istore dx_139_58 ?_
              refine at_iincR (y := 1) dx_139_59 rfl rfl (by (constructor <;> omega)) (fun r59 => ?_)
              refine at_goto dx_139_60 ?_
              refine at_wk (ls := [vr 856, vi _, vi _, vi _, vi _, vi _, vi _]) ⟨Or.inl rfl, Or.inl rfl, Or.inl rfl, Or.inl rfl, Or.inl rfl, Or.inl rfl, Or.inl rfl, trivial⟩ ?_
              have ha := hat (by omega)
              have key := fun d1 b1 => NIv_step (d1 := d1) (b1 := b1) hv (by omega) (by omega) hft.1 hk (by omega) (hs (by omega)) hd.2
              first
              | (exfalso; omega)
              | (have hdc : dch (atL (cpM M c) k) = 1 := by rw [ha]; unfold dch; rw [if_neg (by omega), if_pos (by omega)]
                 exact ih _ (by omega) _ _ _ (by assumption) (by decide) r59 (by omega) (by omega) (by decide) (key _ _ (by omega) (by omega)) rfl)
              | (have hdc : dch (atL (cpM M c) k) = -1 := by rw [ha]; unfold dch; rw [if_pos (by omega)]
                 exact ih _ (by omega) _ _ _ (by assumption) (by decide) r59 (by omega) (by omega) (by decide) (key _ _ (by omega) (by omega)) rfl)
              | (have hdc : dch (atL (cpM M c) k) = 0 := by rw [ha]; unfold dch; rw [if_neg (by omega), if_neg (by omega)]
                 exact ih _ (by omega) _ _ _ (by assumption) (by decide) r59 (by omega) (by omega) (by decide) (key _ _ (by omega) (by omega)) rfl)
            · skip
              refine at_const (x := 1) dx_139_55 rfl ?_
              refine at_goto dx_139_56 ?_
              refine at_istore dx_139_58 ?_
              refine at_iincR (y := 1) dx_139_59 rfl rfl (by (constructor <;> omega)) (fun r59 => ?_)
              refine at_goto dx_139_60 ?_
              refine at_wk (ls := [vr 856, vi _, vi _, vi _, vi _, vi _, vi _]) ⟨Or.inl rfl, Or.inl rfl, Or.inl rfl, Or.inl rfl, Or.inl rfl, Or.inl rfl, Or.inl rfl, trivial⟩ ?_
              have ha := hat (by omega)
              have key := fun d1 b1 => NIv_step (d1 := d1) (b1 := b1) hv (by omega) (by omega) hft.1 hk (by omega) (hs (by omega)) hd.2
              first
              | (exfalso; omega)
              | (have hdc : dch (atL (cpM M c) k) = 1 := by rw [ha]; unfold dch; rw [if_neg (by omega), if_pos (by omega)]
                 exact ih _ (by omega) _ _ _ (by assumption) (by decide) r59 (by omega) (by omega) (by decide) (key _ _ (by omega) (by omega)) rfl)
              | (have hdc : dch (atL (cpM M c) k) = -1 := by rw [ha]; unfold dch; rw [if_pos (by omega)]
                 exact ih _ (by omega) _ _ _ (by assumption) (by decide) r59 (by omega) (by omega) (by decide) (key _ _ (by omega) (by omega)) rfl)
              | (have hdc : dch (atL (cpM M c) k) = 0 := by rw [ha]; unfold dch; rw [if_neg (by omega), if_neg (by omega)]
                 exact ih _ (by omega) _ _ _ (by assumption) (by decide) r59 (by omega) (by omega) (by decide) (key _ _ (by omega) (by omega)) rfl)
  refine at_const (x := 0) dx_139_0 rfl ?_
  refine at_istore dx_139_1 ?_
  refine at_iload dx_139_2 rfl ?_
  refine at_iload dx_139_3 rfl ?_
  refine at_cleR dx_139_4 rt rf (fun c4 => ?_) (fun c4 => ?_)
  · skip
    refine at_const (x := 0) dx_139_17 rfl ?_
    refine at_istore dx_139_18 ?_
    refine at_iload dx_139_19 rfl ?_
    refine at_istore dx_139_20 ?_
    first
    | (refine lp _ 0 1 _ (by decide) (by decide) rf (Int.le_refl _) (by omega) (by decide) (Or.inl ⟨rfl, by rw [hfo (by omega)]; omega, by omega, Or.inl ⟨by omega, Or.inl ⟨rfl, rfl⟩, by omega, rfl⟩⟩) rfl; done)
    | (refine lp _ 0 0 _ (by decide) (by decide) rf (Int.le_refl _) (by omega) (by decide) (Or.inr ⟨rfl, ?_⟩) rfl
       rintro ⟨h1, h2⟩
       unfold clq at h2
       rw [if_neg (by rw [hfo h1]; omega)] at h2
       omega)
  · skip
    refine at_aload dx_139_5 rfl ?_
    refine at_getR dx_139_6 lc_856 rfl lt_856_17 ?_
    refine at_const (x := 60) dx_139_7 rfl ?_
    refine at_iload dx_139_8 rfl ?_
    refine at_mulR dx_139_9 (by (constructor <;> omega)) (fun r9 => ?_)
    refine at_iload dx_139_10 rfl ?_
    refine at_addR dx_139_11 (by (constructor <;> omega)) (fun r11 => ?_)
    refine at_aldI dx_139_12 lc_873 ln_873 (by first | omega | (simp (disch := omega) only [um_eq, um_k, um_j]; omega)) (by first | omega | (simp (disch := omega) only [um_eq, um_k, um_j]; omega)) (fun r12 => ?_)
    refine at_callSI dx_139_13 rfl rfl (m_opens r12) ?_
    rintro x13 M9 r13 ⟨e9, h13⟩; replace e9 := e9.symm; subst e9; replace h13 := ite01 h13
    refine at_zeqR dx_139_14 r13 (fun c14 => ?_) (fun c14 => ?_)
    · skip
      refine at_const (x := 0) dx_139_17 rfl ?_
      refine at_istore dx_139_18 ?_
      refine at_iload dx_139_19 rfl ?_
      refine at_istore dx_139_20 ?_
      first
      | (refine lp _ 0 1 _ (by decide) (by decide) rf (Int.le_refl _) (by omega) (by decide) (Or.inl ⟨rfl, by rw [hfo (by omega)]; omega, by omega, Or.inl ⟨by omega, Or.inl ⟨rfl, rfl⟩, by omega, rfl⟩⟩) rfl; done)
      | (refine lp _ 0 0 _ (by decide) (by decide) rf (Int.le_refl _) (by omega) (by decide) (Or.inr ⟨rfl, ?_⟩) rfl
         rintro ⟨h1, h2⟩
         unfold clq at h2
         rw [if_neg (by rw [hfo h1]; omega)] at h2
         omega)
    · skip
      refine at_const (x := 1) dx_139_15 rfl ?_
      refine at_goto dx_139_16 ?_
      refine at_istore dx_139_18 ?_
      refine at_iload dx_139_19 rfl ?_
      refine at_istore dx_139_20 ?_
      first
      | (refine lp _ 0 1 _ (by decide) (by decide) rf (Int.le_refl _) (by omega) (by decide) (Or.inl ⟨rfl, by rw [hfo (by omega)]; omega, by omega, Or.inl ⟨by omega, Or.inl ⟨rfl, rfl⟩, by omega, rfl⟩⟩) rfl; done)
      | (refine lp _ 0 0 _ (by decide) (by decide) rf (Int.le_refl _) (by omega) (by decide) (Or.inr ⟨rfl, ?_⟩) rfl
         rintro ⟨h1, h2⟩
         unfold clq at h2
         rw [if_neg (by rw [hfo h1]; omega)] at h2
         omega)

set_option maxRecDepth 100000 in
set_option maxHeartbeats 4000000 in
theorem x_pastes {X : scr} {M : mem} {c a : Int} (rc : inR c) (ra : inR a) (hM : MI M) (hG : GR (M 857) (M 858)) (hc : 0 ≤ c ∧ c ≤ 2) (ha : 0 ≤ a ∧ a ≤ M 860 c) (hs0 : dsm (cpM M c) (cpM M c).length = 0) (hne : 0 < M 874 c) : At X 0 140 0 [vr 856, vi c, vi a] [] M (qI (fun x M' => frE wE M M' ∧ (x = 0 ∨ x = 1) ∧ (x = 1 → PRD M M' c (bareL (cpM M c) a (cpM M c).length 0 ((cpM M c).length : Int) ++ wrapL (cpM M c) a)) ∧ (x = 0 → M 871 c < 10 → BNO M c (bareL (cpM M c) a (cpM M c).length 0 ((cpM M c).length : Int) ++ wrapL (cpM M c) a)))) := by
  have F : frE wE M M := fe_rf
  have hS := hM.1 c hc.1 (by omega)
  have hmc := hM.2.2.2.2 c hc.1 hc.2
  unfold MC at hmc
  have hmc3 : 0 ≤ M 874 c ∧ M 874 c ≤ 60 := hmc.2.2.1
  clear hmc
  have hLc := cpM_len (M := M) (c := c)
  have hLi : ((cpM M c).length : Int) = M 874 c := by omega
  have l2 : ∀ (n9 : Nat) (f t z y : Int) (M1 : mem) (rf : inR f) (rt : inR t) (rz : inR z) (ry : inR y) (hz : z = 0 ∨ z = 1) (hy : 1 ≤ y ∧ y ≤ 6) (hn : (6 - y).toNat = n9) (F : frE wE M M1) (hw : z = 1 → PRD M M1 c (bareL (cpM M c) a (cpM M c).length 0 ((cpM M c).length : Int) ++ wrapL (cpM M c) a)) (hv : z = 0 → M 871 c < 10 → BNO M c (bareL (cpM M c) a (cpM M c).length 0 ((cpM M c).length : Int)) ∧ WRV M c a y), At X 0 140 36 [vr 856, vi c, vi a, vi f, vi t, vi z, vi y] [] M1 (qI (fun x M' => frE wE M M' ∧ (x = 0 ∨ x = 1) ∧ (x = 1 → PRD M M' c (bareL (cpM M c) a (cpM M c).length 0 ((cpM M c).length : Int) ++ wrapL (cpM M c) a)) ∧ (x = 0 → M 871 c < 10 → BNO M c (bareL (cpM M c) a (cpM M c).length 0 ((cpM M c).length : Int) ++ wrapL (cpM M c) a)))) := by
    intro n9
    induction n9 using Nat.strongRecOn with
    | ind n9 ih =>
    intro f t z y M1 rf rt rz ry hz hy hn F hw hv
    have g74 := (wE_cp (c := c) F).1
    refine at_iload dx_140_36 rfl ?_
    refine at_const (x := 6) dx_140_37 rfl ?_
    refine at_cgeR dx_140_38 ry (by decide) (fun c38 => ?_) (fun c38 => ?_)
    · skip
      refine at_iload dx_140_54 rfl ?_
      refine at_zretI dx_140_55 hz ?_
      refine ⟨F, hz, hw, fun e h10 => ?_⟩
      obtain ⟨hb, hwv⟩ := hv e h10
      obtain rfl : y = 6 := by omega
      exact no_app hb (WRV_6 hwv)
    · skip
      refine at_iload dx_140_39 rfl ?_
      refine at_zneR dx_140_40 rz (fun c40 => ?_) (fun c40 => ?_)
      · skip
        refine at_iload dx_140_54 rfl ?_
        refine at_zretI dx_140_55 hz ?_
        refine ⟨F, hz, hw, fun e h10 => ?_⟩
        obtain ⟨hb, hwv⟩ := hv e h10
        obtain rfl : y = 6 := by omega
        exact no_app hb (WRV_6 hwv)
      · skip
        refine at_aload dx_140_41 rfl ?_
        refine at_iload dx_140_42 rfl ?_
        refine at_iload dx_140_43 rfl ?_
        refine at_const (x := 0) dx_140_44 rfl ?_
        refine at_aload dx_140_45 rfl ?_
        refine at_getR dx_140_46 lc_856 rfl lt_856_18 ?_
        refine at_iload dx_140_47 rfl ?_
        refine at_aldI dx_140_48 lc_874 ln_874 (by first | omega | (simp (disch := omega) only [um_eq, um_k, um_j]; omega)) (by first | omega | (simp (disch := omega) only [um_eq, um_k, um_j]; omega)) (fun r48 => ?_)
        refine at_iload dx_140_49 rfl ?_
        refine at_callVI dx_140_50 rfl lc_856 rfl (x_canPaste rc ra (by decide) r48 ry (MI_wE hM F) (by rw [(wE_c F).2.2.2.1, (wE_c F).2.2.2.2]; exact hG) hc (by rw [(wE_c F).1]; exact ha) (by have := (wE_cp (c := c) F).1; omega) (by omega)) ?_
        rintro x50 M50 r50 ⟨f50, b50, w50, z50⟩
        obtain ⟨q0, q1, q3, q7, q8⟩ := wE_c F
        rw [q1, q3, q7, q8, cpM_cg (wE_cp (c := c) F).1 (wE_cp (c := c) F).2] at z50
        rw [cpM_cg (wE_cp (c := c) F).1 (wE_cp (c := c) F).2] at w50
        replace F : frE wE M _ := fe_tr F f50
        refine at_istore dx_140_51 ?_
        refine at_iincR (y := 1) dx_140_52 rfl rfl (by constructor <;> omega) (fun r52 => ?_)
        refine at_goto dx_140_53 ?_
        have hz0 : z = 0 := by omega
        have e9 : sl (cpM M c) 0 (M1 874 c) = cpM M c := by rw [g74, ← hLi]; exact sl_all
        rw [e9] at w50 z50
        refine ih _ (by omega) _ _ _ _ _ rf rt r50 r52 b50 (by omega) rfl F (fun e => ?_) (fun e h10 => ?_)
        · obtain ⟨d0, d1, d2⟩ := w50 e
          obtain ⟨y1, y2, y3⟩ := z50.mp e
          obtain ⟨hb, hwv⟩ := hv hz0 y2
          exact PRD_i ⟨d1, (0, ([a, 0], wrp y (cpM M c))), ⟨by omega, by decide, gd_len y3⟩, (show ¬ ((0 : Nat) = 2) by decide), FST_r (WRV_f hwv (by omega) y3) hb, d2⟩
        · obtain ⟨hb, hwv⟩ := hv hz0 h10
          exact ⟨hb, WRV_s hwv (by omega) (fun h => absurd (z50.mpr ⟨by omega, h10, h⟩) (by omega))⟩
  have l1 : ∀ (n9 : Nat) (f t z : Int) (M1 : mem) (rf : inR f) (rt : inR t) (rz : inR z) (hz : z = 0 ∨ z = 1) (hft : 0 ≤ f ∧ t ≤ M 874 c) (hn : (t - f).toNat = n9) (F : frE wE M M1) (hw : z = 1 → ready M1 c ∧ cWD (mv M1 100) (0, ([a, 0], sl (cpM M c) f t))) (hzw : (z = 1 ↔ f < t ∧ M 871 c < 10 ∧ gd (M 857) (M 858) (dc M c) (0, ([a, 0], sl (cpM M c) f t)))) (hs : f ≤ t → dsm (cpM M c) f.toNat = dsm (cpM M c) t.toNat) (hv : M 871 c < 10 → BRV M c a f t), At X 0 140 15 [vr 856, vi c, vi a, vi f, vi t, vi z] [] M1 (qI (fun x M' => frE wE M M' ∧ (x = 0 ∨ x = 1) ∧ (x = 1 → PRD M M' c (bareL (cpM M c) a (cpM M c).length 0 ((cpM M c).length : Int) ++ wrapL (cpM M c) a)) ∧ (x = 0 → M 871 c < 10 → BNO M c (bareL (cpM M c) a (cpM M c).length 0 ((cpM M c).length : Int) ++ wrapL (cpM M c) a)))) := by
    intro n9
    induction n9 using Nat.strongRecOn with
    | ind n9 ih =>
    intro f t z M1 rf rt rz hz hft hn F hw hzw hs hv
    have g74 := (wE_cp (c := c) F).1
    refine at_iload dx_140_15 rfl ?_
    refine at_zneR dx_140_16 rz (fun c16 => ?_) (fun c16 => ?_)
    · skip
      refine at_const (x := 1) dx_140_34 rfl ?_
      refine at_istore dx_140_35 ?_
      first
      | (have hz1 : z = 1 := by omega
         refine l2 _ f t z 1 _ rf rt rz (by decide) hz (by decide) rfl F (fun e => ?_) (fun e => absurd e (by omega))
         obtain ⟨d1, d2⟩ := hw e
         obtain ⟨y1, y2, y3⟩ := hzw.mp e
         exact PRD_i ⟨d1, (0, ([a, 0], sl (cpM M c) f t)), ⟨by omega, by decide, gd_len y3⟩, (show ¬ ((0 : Nat) = 2) by decide), FST_l (BRV_f (hv y2) y1 y3), d2⟩)
      | (have hz0 : z = 0 := by omega
         refine l2 _ f t z 1 _ rf rt rz (by decide) hz (by decide) rfl F (fun e => absurd e (by omega)) (fun e h10 => ⟨?_, WRV_0⟩)
         exact BRV_e (hv h10) (fun e9 => absurd (h21.mpr e9) (by omega)) (fun h1 h => absurd (hzw.mpr ⟨h1, h10, h⟩) (by omega)))
    · skip
      refine at_aload dx_140_17 rfl ?_
      refine at_iload dx_140_18 rfl ?_
      refine at_iload dx_140_19 rfl ?_
      refine at_iload dx_140_20 rfl ?_
      refine at_callVI dx_140_21 rfl lc_856 rfl (x_isNode rc rf rt hc (by rw [g74]; exact hft) (by rw [g74]; omega) (by rw [cpM_cg (wE_cp (c := c) F).1 (wE_cp (c := c) F).2]; exact hs)) ?_
      rintro x21 M9 r21 ⟨e9, b21, h21, w21⟩; replace e9 := e9.symm; subst e9
      rw [cpM_cg (wE_cp (c := c) F).1 (wE_cp (c := c) F).2] at h21 w21
      refine at_zeqR dx_140_22 r21 (fun c22 => ?_) (fun c22 => ?_)
      · skip
        refine at_const (x := 1) dx_140_34 rfl ?_
        refine at_istore dx_140_35 ?_
        first
        | (have hz1 : z = 1 := by omega
           refine l2 _ f t z 1 _ rf rt rz (by decide) hz (by decide) rfl F (fun e => ?_) (fun e => absurd e (by omega))
           obtain ⟨d1, d2⟩ := hw e
           obtain ⟨y1, y2, y3⟩ := hzw.mp e
           exact PRD_i ⟨d1, (0, ([a, 0], sl (cpM M c) f t)), ⟨by omega, by decide, gd_len y3⟩, (show ¬ ((0 : Nat) = 2) by decide), FST_l (BRV_f (hv y2) y1 y3), d2⟩)
        | (have hz0 : z = 0 := by omega
           refine l2 _ f t z 1 _ rf rt rz (by decide) hz (by decide) rfl F (fun e => absurd e (by omega)) (fun e h10 => ⟨?_, WRV_0⟩)
           exact BRV_e (hv h10) (fun e9 => absurd (h21.mpr e9) (by omega)) (fun h1 h => absurd (hzw.mpr ⟨h1, h10, h⟩) (by omega)))
      · skip
        have hs21 := w21 (by omega)
        have hlt := h21.mp (by omega)
        refine at_iincR (y := 1) dx_140_23 rfl rfl (by constructor <;> omega) (fun r23 => ?_)
        refine at_iincR (y := -1) dx_140_24 rfl rfl (by constructor <;> omega) (fun r24 => ?_)
        refine at_aload dx_140_25 rfl ?_
        refine at_iload dx_140_26 rfl ?_
        refine at_iload dx_140_27 rfl ?_
        refine at_iload dx_140_28 rfl ?_
        refine at_iload dx_140_29 rfl ?_
        refine at_const (x := 0) dx_140_30 rfl ?_
        refine at_callVI dx_140_31 rfl lc_856 rfl (x_canPaste rc ra r23 r24 (by decide) (MI_wE hM F) (by rw [(wE_c F).2.2.2.1, (wE_c F).2.2.2.2]; exact hG) hc (by rw [(wE_c F).1]; exact ha) (by have := (wE_cp (c := c) F).1; omega) (by omega)) ?_
        rintro x31 M31 r31 ⟨f31, b31, w31, z31⟩
        obtain ⟨q0, q1, q3, q7, q8⟩ := wE_c F
        rw [q1, q3, q7, q8, cpM_cg (wE_cp (c := c) F).1 (wE_cp (c := c) F).2] at z31
        rw [cpM_cg (wE_cp (c := c) F).1 (wE_cp (c := c) F).2] at w31
        replace F : frE wE M _ := fe_tr F f31
        refine at_istore dx_140_32 ?_
        refine at_goto dx_140_33 ?_
        rw [wrp_0] at w31 z31
        exact ih _ (by omega) _ _ _ _ r23 r24 r31 b31 (by omega) rfl F (fun e => (w31 e).2) z31 (fun _ => by rw [show t + -1 = t - 1 by omega]; exact hs21.1) (fun h10 => BRV_s (hv h10) hlt (fun h => absurd (hzw.mpr ⟨hlt.1, h10, h⟩) (by omega)))
  refine at_const (x := 0) dx_140_0 rfl ?_
  refine at_istore dx_140_1 ?_
  refine at_aload dx_140_2 rfl ?_
  refine at_getR dx_140_3 lc_856 rfl lt_856_18 ?_
  refine at_iload dx_140_4 rfl ?_
  refine at_aldI dx_140_5 lc_874 ln_874 (by first | omega | (simp (disch := omega) only [um_eq, um_k, um_j]; omega)) (by first | omega | (simp (disch := omega) only [um_eq, um_k, um_j]; omega)) (fun r5 => ?_)
  refine at_istore dx_140_6 ?_
  refine at_aload dx_140_7 rfl ?_
  refine at_iload dx_140_8 rfl ?_
  refine at_iload dx_140_9 rfl ?_
  refine at_iload dx_140_10 rfl ?_
  refine at_iload dx_140_11 rfl ?_
  refine at_const (x := 0) dx_140_12 rfl ?_
  refine at_callVI dx_140_13 rfl lc_856 rfl (x_canPaste rc ra (by decide) r5 (by decide) (MI_wE hM F) (by rw [(wE_c F).2.2.2.1, (wE_c F).2.2.2.2]; exact hG) hc (by rw [(wE_c F).1]; exact ha) (by have := (wE_cp (c := c) F).1; omega) (by omega)) ?_
  rintro x13 M13 r13 ⟨f13, b13, w13, z13⟩
  obtain ⟨q0, q1, q3, q7, q8⟩ := wE_c F
  rw [q1, q3, q7, q8, cpM_cg (wE_cp (c := c) F).1 (wE_cp (c := c) F).2] at z13
  rw [cpM_cg (wE_cp (c := c) F).1 (wE_cp (c := c) F).2] at w13
  replace F : frE wE M _ := fe_tr F f13
  refine at_istore dx_140_14 ?_
  rw [wrp_0] at w13 z13
  exact l1 _ 0 _ _ _ (by decide) r5 r13 b13 (by omega) rfl F (fun e => (w13 e).2) z13 (fun _ => by rw [← hLi, Int.toNat_natCast, hs0]; rfl) (fun _ => BRV_0 hLi)

set_option maxRecDepth 100000 in
set_option maxHeartbeats 4000000 in
theorem y_paste {X : scr} {M : mem} {c p : Int} (rc : inR c) (rp : inR p) (hM : MI M) (hG : GR (M 857) (M 858)) (hs0 : 0 ≤ c → c ≤ 2 → dsm (cpM M c) (cpM M c).length = 0) : At X 0 141 0 [vr 856, vi c, vi p] [] M (qI (fun _ M' => OM c (csPaste p) M M')) := by
  have F : frE wE M M := fe_rf
  have hS := fun h1 h2 => hM.1 c h1 h2
  have hdl : 0 ≤ c → c < 3 → ((dc M c).length : Int) = M 860 c := fun h1 h2 => by have := hM.1 c h1 (by omega); rw [dc_len]; omega
  have hLc := cpM_len (M := M) (c := c)
  refine at_iload dx_141_0 rfl ?_
  refine at_callSI dx_141_1 rfl rfl (m_isClient rc) ?_
  rintro x1 M9 r1 ⟨e9, h1⟩; replace e9 := e9.symm; subst e9; replace h1 := ite01 h1
  refine at_zeqR dx_141_2 r1 (fun c2 => ?_) (fun c2 => ?_)
  · skip
    refine at_const (x := 0) dx_141_10 rfl ?_
    refine at_istore dx_141_11 ?_
    refine at_aload dx_141_12 rfl ?_
    refine at_iload dx_141_13 rfl ?_
    refine at_zneR dx_141_14 (by decide) (fun c => absurd c (by decide)) (fun _ => ?_)
    refine at_const (x := 1) dx_141_15 rfl ?_
    refine at_goto dx_141_16 ?_
    refine at_callVI dx_141_30 rfl lc_856 rfl (m_fails2 (by decide)) ?_
    rintro x30 M30 r30 ⟨f30, h30⟩; replace h30 := ite01 h30
    replace F : frE wE M _ := fe_tr F (fe_le f30 (fun q j h => by obtain ⟨rfl, rfl⟩ := h; exact wE_31))
    obtain rfl : x30 = 1 := by omega
    refine at_zeqR dx_141_31 (by decide) (fun c => absurd c (by decide)) (fun _ => ?_)
    refine at_const (x := 0) dx_141_32 rfl ?_
    refine at_iretI dx_141_33 (by decide) ?_
    first
    | (obtain ⟨q1, D, q2, q3, q4, q5⟩ := hrd (by omega)
       have e30 : mv M30 100 = mv M25 100 := mv_fe f30 (fun q j e h8 hq => by (try dsimp only [stE] at e hq); omega)
       have w30 := wE_c F
       have w25 := wE_c f25
       have okm : okD D (dc M c) := FST_ok q4
       refine OM_outF hM (by omega) F (by rw [e30]; exact q5) q2 (by rw [hCS]; exact q4) (by have := q1.1; rw [w25.2.1] at this; exact this) k1 k2 k3 k4 ?_
       rw [k5, e30, w30.2.2.1, apW_D q5 q2 okm q3])
    | exact OM_full (MI_wE hM F) F (fun c0 c1 => by omega)
    | (refine OM_nil (MI_wE hM F) F (fun c0 c1 => ?_)
       show cIL _ _ = []
       refine cIL_f (fun hh => ?_)
       have h9 := hdl c0 c1
       have h8 : (cpM M c).length ≠ 0 := fun e => hh.2 (List.length_eq_zero_iff.mp e)
       have h7 := hh.1
       clear hh
       omega)
    | exact OM_noL (by omega) (MI_wE hM F) F (by rw [hCS]; exact hno (by omega))
  · skip
    refine at_aload dx_141_3 rfl ?_
    refine at_iload dx_141_4 rfl ?_
    refine at_iload dx_141_5 rfl ?_
    refine at_callVI dx_141_6 rfl lc_856 rfl (m_isPlace rc rp) ?_
    rintro x6 M9 r6 ⟨e9, h6⟩; replace e9 := e9.symm; subst e9; replace h6 := ite01 h6
    refine at_zeqR dx_141_7 r6 (fun c7 => ?_) (fun c7 => ?_)
    · skip
      refine at_const (x := 0) dx_141_10 rfl ?_
      refine at_istore dx_141_11 ?_
      refine at_aload dx_141_12 rfl ?_
      refine at_iload dx_141_13 rfl ?_
      refine at_zneR dx_141_14 (by decide) (fun c => absurd c (by decide)) (fun _ => ?_)
      refine at_const (x := 1) dx_141_15 rfl ?_
      refine at_goto dx_141_16 ?_
      refine at_callVI dx_141_30 rfl lc_856 rfl (m_fails2 (by decide)) ?_
      rintro x30 M30 r30 ⟨f30, h30⟩; replace h30 := ite01 h30
      replace F : frE wE M _ := fe_tr F (fe_le f30 (fun q j h => by obtain ⟨rfl, rfl⟩ := h; exact wE_31))
      obtain rfl : x30 = 1 := by omega
      refine at_zeqR dx_141_31 (by decide) (fun c => absurd c (by decide)) (fun _ => ?_)
      refine at_const (x := 0) dx_141_32 rfl ?_
      refine at_iretI dx_141_33 (by decide) ?_
      first
      | (obtain ⟨q1, D, q2, q3, q4, q5⟩ := hrd (by omega)
         have e30 : mv M30 100 = mv M25 100 := mv_fe f30 (fun q j e h8 hq => by (try dsimp only [stE] at e hq); omega)
         have w30 := wE_c F
         have w25 := wE_c f25
         have okm : okD D (dc M c) := FST_ok q4
         refine OM_outF hM (by omega) F (by rw [e30]; exact q5) q2 (by rw [hCS]; exact q4) (by have := q1.1; rw [w25.2.1] at this; exact this) k1 k2 k3 k4 ?_
         rw [k5, e30, w30.2.2.1, apW_D q5 q2 okm q3])
      | exact OM_full (MI_wE hM F) F (fun c0 c1 => by omega)
      | (refine OM_nil (MI_wE hM F) F (fun c0 c1 => ?_)
         show cIL _ _ = []
         refine cIL_f (fun hh => ?_)
         have h9 := hdl c0 c1
         have h8 : (cpM M c).length ≠ 0 := fun e => hh.2 (List.length_eq_zero_iff.mp e)
         have h7 := hh.1
         clear hh
         omega)
      | exact OM_noL (by omega) (MI_wE hM F) F (by rw [hCS]; exact hno (by omega))
    · skip
      refine at_const (x := 1) dx_141_8 rfl ?_
      refine at_goto dx_141_9 ?_
      refine at_istore dx_141_11 ?_
      refine at_aload dx_141_12 rfl ?_
      refine at_iload dx_141_13 rfl ?_
      refine at_zneR dx_141_14 (by decide) (fun _ => ?_) (fun c => absurd c (by decide))
      refine at_aload dx_141_17 rfl ?_
      refine at_getR dx_141_18 lc_856 rfl lt_856_18 ?_
      refine at_iload dx_141_19 rfl ?_
      refine at_aldI dx_141_20 lc_874 ln_874 (by first | omega | (simp (disch := omega) only [um_eq, um_k, um_j]; omega)) (by first | omega | (simp (disch := omega) only [um_eq, um_k, um_j]; omega)) (fun r20 => ?_)
      refine at_zleR dx_141_21 r20 (fun c21 => ?_) (fun c21 => ?_)
      · skip
        refine at_const (x := 2) dx_141_29 rfl ?_
        refine at_callVI dx_141_30 rfl lc_856 rfl (m_fails2 (by decide)) ?_
        rintro x30 M30 r30 ⟨f30, h30⟩; replace h30 := ite01 h30
        replace F : frE wE M _ := fe_tr F (fe_le f30 (fun q j h => by obtain ⟨rfl, rfl⟩ := h; exact wE_31))
        obtain rfl : x30 = 1 := by omega
        refine at_zeqR dx_141_31 (by decide) (fun c => absurd c (by decide)) (fun _ => ?_)
        refine at_const (x := 0) dx_141_32 rfl ?_
        refine at_iretI dx_141_33 (by decide) ?_
        first
        | (obtain ⟨q1, D, q2, q3, q4, q5⟩ := hrd (by omega)
           have e30 : mv M30 100 = mv M25 100 := mv_fe f30 (fun q j e h8 hq => by (try dsimp only [stE] at e hq); omega)
           have w30 := wE_c F
           have w25 := wE_c f25
           have okm : okD D (dc M c) := FST_ok q4
           refine OM_outF hM (by omega) F (by rw [e30]; exact q5) q2 (by rw [hCS]; exact q4) (by have := q1.1; rw [w25.2.1] at this; exact this) k1 k2 k3 k4 ?_
           rw [k5, e30, w30.2.2.1, apW_D q5 q2 okm q3])
        | exact OM_full (MI_wE hM F) F (fun c0 c1 => by omega)
        | (refine OM_nil (MI_wE hM F) F (fun c0 c1 => ?_)
           show cIL _ _ = []
           refine cIL_f (fun hh => ?_)
           have h9 := hdl c0 c1
           have h8 : (cpM M c).length ≠ 0 := fun e => hh.2 (List.length_eq_zero_iff.mp e)
           have h7 := hh.1
           clear hh
           omega)
        | exact OM_noL (by omega) (MI_wE hM F) F (by rw [hCS]; exact hno (by omega))
      · skip
        refine at_aload dx_141_22 rfl ?_
        refine at_iload dx_141_23 rfl ?_
        refine at_iload dx_141_24 rfl ?_
        refine at_callVI dx_141_25 rfl lc_856 rfl (x_pastes rc rp hM hG (by omega) (by omega) (hs0 (by omega) (by omega)) (by omega)) ?_
        rintro x25 M25 r25 ⟨f25, b25, hrd, hno⟩
        replace F : frE wE M _ := fe_tr F f25
        have hcne : cpM M c ≠ [] := fun e => by rw [e] at hLc; simp only [List.length_nil] at hLc; omega
        have hCS : (csPaste p) (dc M c) (cpM M c) = bareL (cpM M c) p (cpM M c).length 0 ((cpM M c).length : Int) ++ wrapL (cpM M c) p := by have := hdl (by omega) (by omega); show cIL _ _ = _; exact cIL_t ⟨by omega, hcne⟩
        refine at_zeqR dx_141_26 r25 (fun c26 => ?_) (fun c26 => ?_)
        · skip
          refine at_const (x := 2) dx_141_29 rfl ?_
          refine at_callVI dx_141_30 rfl lc_856 rfl (m_fails2 (by decide)) ?_
          rintro x30 M30 r30 ⟨f30, h30⟩; replace h30 := ite01 h30
          replace F : frE wE M _ := fe_tr F (fe_le f30 (fun q j h => by obtain ⟨rfl, rfl⟩ := h; exact wE_31))
          obtain rfl : x30 = 1 := by omega
          refine at_zeqR dx_141_31 (by decide) (fun c => absurd c (by decide)) (fun _ => ?_)
          refine at_const (x := 0) dx_141_32 rfl ?_
          refine at_iretI dx_141_33 (by decide) ?_
          first
          | (obtain ⟨q1, D, q2, q3, q4, q5⟩ := hrd (by omega)
             have e30 : mv M30 100 = mv M25 100 := mv_fe f30 (fun q j e h8 hq => by (try dsimp only [stE] at e hq); omega)
             have w30 := wE_c F
             have w25 := wE_c f25
             have okm : okD D (dc M c) := FST_ok q4
             refine OM_outF hM (by omega) F (by rw [e30]; exact q5) q2 (by rw [hCS]; exact q4) (by have := q1.1; rw [w25.2.1] at this; exact this) k1 k2 k3 k4 ?_
             rw [k5, e30, w30.2.2.1, apW_D q5 q2 okm q3])
          | exact OM_full (MI_wE hM F) F (fun c0 c1 => by omega)
          | (refine OM_nil (MI_wE hM F) F (fun c0 c1 => ?_)
             show cIL _ _ = []
             refine cIL_f (fun hh => ?_)
             have h9 := hdl c0 c1
             have h8 : (cpM M c).length ≠ 0 := fun e => hh.2 (List.length_eq_zero_iff.mp e)
             have h7 := hh.1
             clear hh
             omega)
          | exact OM_noL (by omega) (MI_wE hM F) F (by rw [hCS]; exact hno (by omega))
        · skip
          refine at_const (x := 0) dx_141_27 rfl ?_
          refine at_goto dx_141_28 ?_
          refine at_callVI dx_141_30 rfl lc_856 rfl (m_fails2 (by decide)) ?_
          rintro x30 M30 r30 ⟨f30, h30⟩; replace h30 := ite01 h30
          replace F : frE wE M _ := fe_tr F (fe_le f30 (fun q j h => by obtain ⟨rfl, rfl⟩ := h; exact wE_31))
          obtain rfl : x30 = 0 := by omega
          refine at_zeqR dx_141_31 (by decide) (fun _ => ?_) (fun c => absurd c (by decide))
          refine at_aload dx_141_34 rfl ?_
          refine at_iload dx_141_35 rfl ?_
          refine at_callVV dx_141_36 rfl lc_856 rfl (x_edits2 rc (by omega) (MI_wE hM F) (ready_fe (hrd (by omega)).1 (by omega) (by have := (wE_c f25).1 c; have := hM.1 c (by omega) (by omega); omega) f30 (fun q j h => Or.inl ⟨h.1, by rw [h.2]; decide⟩))) ?_
          rintro M36 ⟨k1, k2, k3, k4, k5⟩
          refine at_aload dx_141_37 rfl ?_
          refine at_getR dx_141_38 lc_856 rfl lt_856_10 ?_
          refine at_const (x := 200) dx_141_39 rfl ?_
          refine at_aldI dx_141_40 lc_867 ln_867 (by decide) (by decide) (fun r40 => ?_)
          refine at_iretI dx_141_41 r40 ?_
          first
          | (obtain ⟨q1, D, q2, q3, q4, q5⟩ := hrd (by omega)
             have e30 : mv M30 100 = mv M25 100 := mv_fe f30 (fun q j e h8 hq => by (try dsimp only [stE] at e hq); omega)
             have w30 := wE_c F
             have w25 := wE_c f25
             have okm : okD D (dc M c) := FST_ok q4
             refine OM_outF hM (by omega) F (by rw [e30]; exact q5) q2 (by rw [hCS]; exact q4) (by have := q1.1; rw [w25.2.1] at this; exact this) k1 k2 k3 k4 ?_
             rw [k5, e30, w30.2.2.1, apW_D q5 q2 okm q3])
          | exact OM_full (MI_wE hM F) F (fun c0 c1 => by omega)
          | (refine OM_nil (MI_wE hM F) F (fun c0 c1 => ?_)
             show cIL _ _ = []
             refine cIL_f (fun hh => ?_)
             have h9 := hdl c0 c1
             have h8 : (cpM M c).length ≠ 0 := fun e => hh.2 (List.length_eq_zero_iff.mp e)
             have h7 := hh.1
             clear hh
             omega)
          | exact OM_noL (by omega) (MI_wE hM F) F (by rw [hCS]; exact hno (by omega))
