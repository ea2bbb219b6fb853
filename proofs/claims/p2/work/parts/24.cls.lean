/-! ===== the class's small calls, exact ===== -/
noncomputable def ops (stk : List Int) (x : Int) : List Int := if 1 ≤ x ∧ x ≤ 5 then x :: stk else if x = 0 then stk.tail else stk
/-- the types of the nodes that are open behind l, the innermost first -/
noncomputable def opn (l : List Int) : List Int := l.foldl ops []
theorem opn_take {l : List Int} {i : Nat} (h : i < l.length) : opn (l.take (i + 1)) = ops (opn (l.take i)) (l.getD i 0) := by
  unfold opn
  rw [List.take_add_one, List.foldl_append, List.getElem?_eq_getElem h, List.getD_eq_getElem?_getD, List.getElem?_eq_getElem h]
  rfl
noncomputable def stkA (a : Nat) (M : mem) : Nat → List Int
  | 0 => []
  | d + 1 => M a (d : Int) :: stkA a M d
theorem stkA_len {a : Nat} {M : mem} (d : Nat) : (stkA a M d).length = d := by
  induction d with
  | zero => rfl
  | succ d ih => show (stkA a M d).length + 1 = d + 1; rw [ih]
theorem stkA_cg {a : Nat} {M M' : mem} {d : Nat} (h : ∀ j : Int, 0 ≤ j → j < d → M' a j = M a j) : stkA a M' d = stkA a M d := by
  induction d with
  | zero => rfl
  | succ d ih =>
    show M' a (d : Int) :: stkA a M' d = M a (d : Int) :: stkA a M d
    rw [h d (by omega) (by omega), ih (fun j h0 h1 => h j h0 (by omega))]
theorem stkA_push {a : Nat} {M : mem} {d x : Int} (hd : 0 ≤ d) : stkA a (um M a d x) (d + 1).toNat = x :: stkA a M d.toNat := by
  rw [show (d + 1).toNat = d.toNat + 1 by omega]
  show (um M a d x) a ((d.toNat : Nat) : Int) :: stkA a (um M a d x) d.toNat = _
  rw [Int.toNat_of_nonneg hd, um_eq, stkA_cg (fun j h0 h1 => um_j (by omega))]
theorem stkA_pop {a : Nat} {M : mem} {d : Int} (hd : 0 < d) : stkA a M d.toNat = M a (d - 1) :: stkA a M (d - 1).toNat := by
  rw [show d.toNat = (d - 1).toNat + 1 by omega]
  show M a (((d - 1).toNat : Nat) : Int) :: _ = _
  rw [Int.toNat_of_nonneg (by omega)]
noncomputable def dcc (t : Int) : Int := if t = 0 then -1 else if 1 ≤ t ∧ t ≤ 5 then 1 else 0
theorem dcc_b (t : Int) : -1 ≤ dcc t ∧ dcc t ≤ 1 := by
  unfold dcc
  split
  · decide
  · split <;> decide
/-- where the depth comes to nothing -/
noncomputable def fcl : List Int → Int → Int → Int
  | [], _, _ => -1
  | x :: r, lv, i => if lv + dcc x = 0 then i else fcl r (lv + dcc x) (i + 1)
theorem drop_cons {l : List Int} {i : Int} (h0 : 0 ≤ i) (h1 : i < (l.length : Int)) : l.drop i.toNat = l.getD i.toNat 0 :: l.drop (i + 1).toNat := by
  rw [show (i + 1).toNat = i.toNat + 1 by omega, List.drop_eq_getElem_cons (by omega), List.getD_eq_getElem?_getD, List.getElem?_eq_getElem (by omega)]
  rfl
abbrev isO (t : Int) : Prop := 1 ≤ t ∧ t ≤ 5

set_option maxRecDepth 100000 in
set_option maxHeartbeats 4000000 in
theorem x_becomeMarking {X : scr} {M : mem} {s : Nat} {f t b z : Int} (hs : ly_c s = 4) (hf : inR f) (ht : inR t) (hb : inR b) (hz : z = 0 ∨ z = 1) (rz : inR z) (hT : TI M) : At X 0 25 0 [vr s, vi f, vi t, vi b, vi z] [] M (qV (fun M' => fr (blk s) M M' ∧ TI M' ∧ M' s 0 = 1 ∧ M' s 1 = f ∧ M' s 2 = t ∧ M' s 3 = b ∧ M' s 4 = z ∧ M' s 5 = 0)) := by
  refine at_aload dx_25_0 rfl ?_
  refine at_callVV dx_25_1 rfl hs rfl (x_becomeChange hs hT) ?_
  rintro M1 ⟨f1, i1, -, q5, -⟩
  refine at_aload dx_25_2 rfl ?_
  refine at_const (x := 1) dx_25_3 rfl ?_
  refine at_putZ 0 dx_25_4 hs rfl rfl (Or.inr rfl) ?_
  refine at_aload dx_25_5 rfl ?_
  refine at_iload dx_25_6 rfl ?_
  refine at_putI 1 dx_25_7 hs rfl rfl hf ?_
  refine at_aload dx_25_8 rfl ?_
  refine at_iload dx_25_9 rfl ?_
  refine at_putI 2 dx_25_10 hs rfl rfl ht ?_
  refine at_aload dx_25_11 rfl ?_
  refine at_iload dx_25_12 rfl ?_
  refine at_putI 3 dx_25_13 hs rfl rfl hb ?_
  refine at_aload dx_25_14 rfl ?_
  refine at_iload dx_25_15 rfl ?_
  refine at_putZ 4 dx_25_16 hs rfl rfl hz ?_
  refine at_vretV dx_25_17 ?_
  refine ⟨fr_ums (fr_ums (fr_ums (fr_ums (fr_ums f1 (by (try dsimp only [blk]); first | done | omega)) (by (try dsimp only [blk]); first | done | omega)) (by (try dsimp only [blk]); first | done | omega)) (by (try dsimp only [blk]); first | done | omega)) (by (try dsimp only [blk]); first | done | omega), TI_um (TI_um (TI_um (TI_um (TI_um i1 (by rw [hs]; decide)) (by rw [hs]; decide)) (by rw [hs]; decide)) (by rw [hs]; decide)) (by rw [hs]; decide), ?_, ?_, ?_, ?_, ?_, ?_⟩ <;> simp (disch := omega) only [um_eq, um_k, um_j]
  exact q5

set_option maxRecDepth 100000 in
set_option maxHeartbeats 4000000 in
theorem x_changesMarks {X : scr} {M : mem} {s b : Nat} (hs : ly_c s = 4) (hb : ly_c b = 5) (hI : tkI M b) (h0 : 0 ≤ M s 1) : At X 0 34 0 [vr s, vr b] [] M (qI (fun x M' => M' = M ∧ (x = 0 ∨ x = 1) ∧ (x = 1 ↔ ∃ i : Int, M s 1 ≤ i ∧ i < M s 2 ∧ mkT (M s 4) (M s 3) (atL (tk M b) i) ≠ atL (tk M b) i))) := by
  have lp : ∀ (n : Nat) (i : Int) (ri : inR i) (hi : M s 1 ≤ i) (hn : (M s 2 - i).toNat = n) (hv : ∀ j : Int, M s 1 ≤ j → j < i → mkT (M s 4) (M s 3) (atL (tk M b) j) = atL (tk M b) j), At X 0 34 3 [vr s, vr b, vi i] [] M (qI (fun x M' => M' = M ∧ (x = 0 ∨ x = 1) ∧ (x = 1 ↔ ∃ i : Int, M s 1 ≤ i ∧ i < M s 2 ∧ mkT (M s 4) (M s 3) (atL (tk M b) i) ≠ atL (tk M b) i))) := by
    intro n
    induction n using Nat.strongRecOn with
    | ind n ih =>
    intro i ri hi hn hv
    refine at_iload dx_34_3 rfl ?_
    refine at_aload dx_34_4 rfl ?_
    refine at_getI 2 dx_34_5 hs rfl rfl (fun r5 => ?_)
    refine at_cgeR dx_34_6 ri r5 (fun c6 => ?_) (fun c6 => ?_)
    · skip
      refine at_const (x := 0) dx_34_20 rfl ?_
      refine at_zretI dx_34_21 (Or.inl rfl) ?_
      exact ⟨rfl, Or.inl rfl, fun e => absurd e (by decide), fun ⟨j, h1, h2, h3⟩ => absurd (hv j h1 (by omega)) h3⟩
    · skip
      refine at_aload dx_34_7 rfl ?_
      refine at_iload dx_34_8 rfl ?_
      refine at_callVI dx_34_9 rfl hb rfl (c_at hb ri hI) ?_
      rintro x9 M9 r9 ⟨e9, h9⟩; replace e9 := e9.symm; subst e9
      refine at_istore dx_34_10 ?_
      refine at_aload dx_34_11 rfl ?_
      refine at_iload dx_34_12 rfl ?_
      refine at_callVI dx_34_13 rfl hs rfl (c_markedToken hs r9) ?_
      rintro x13 M9 r13 ⟨e9, h13⟩; replace e9 := e9.symm; subst e9
      refine at_iload dx_34_14 rfl ?_
      refine at_ceqR dx_34_15 r13 r9 (fun c15 => ?_) (fun c15 => ?_)
      · skip
        refine at_iincR (y := 1) dx_34_18 rfl rfl (by constructor <;> omega) (fun r18 => ?_)
        refine at_goto dx_34_19 ?_
        refine at_wk (ls := [vr s, vr b, vi _]) ⟨Or.inl rfl, Or.inl rfl, Or.inl rfl, trivial⟩ ?_
        exact ih _ (by omega) _ r18 (by omega) rfl (fun j h1 h2 => by
          by_cases e : j = i
          · rw [e, ← h9, ← h13]; omega
          · exact hv j h1 (by omega))
      · skip
        refine at_const (x := 1) dx_34_16 rfl ?_
        refine at_zretI dx_34_17 (Or.inr rfl) ?_
        exact ⟨rfl, Or.inr rfl, fun _ => ⟨i, hi, by omega, by rw [← h9, ← h13]; omega⟩, fun _ => rfl⟩
  refine at_aload dx_34_0 rfl ?_
  refine at_getI 1 dx_34_1 hs rfl rfl (fun r1 => ?_)
  refine at_istore dx_34_2 ?_
  exact lp _ _ r1 (Int.le_refl _) rfl (fun j h1 h2 => by omega)

set_option maxRecDepth 100000 in
set_option maxHeartbeats 4000000 in
theorem x_clientOf {X : scr} {M : mem} {x : Int} (hx : inR x) : At X 0 72 0 [vr 0, vi x] [] M (qT (qR (fun k M' => M' = M ∧ 0 ≤ x ∧ x < 3 ∧ k = 592 + 88 * x.toNat ∧ ly_c k = 0)) (fun e M' => e = 0 ∧ M' = M ∧ ¬ (0 ≤ x ∧ x < 3))) := by
  refine at_iload dx_72_0 rfl ?_
  refine at_zltR dx_72_1 hx (fun c1 => ?_) (fun c1 => ?_)
  · skip
    refine at_thrTW dx_72_7 rfl ?_
    exact ⟨rfl, rfl, by omega⟩
  · skip
    refine at_iload dx_72_2 rfl ?_
    refine at_aload dx_72_3 rfl ?_
    refine at_getR dx_72_4 lc_0 rfl lt_0_4 ?_
    refine at_alen dx_72_5 lc_9 rfl ln_9 ?_
    refine at_cltR dx_72_6 hx (by decide) (fun c6 => ?_) (fun c6 => ?_)
    · skip
      refine at_aload dx_72_8 rfl ?_
      refine at_getR dx_72_9 lc_0 rfl lt_0_4 ?_
      refine at_iload dx_72_10 rfl ?_
      refine at_aldC dx_72_11 lc_9 ln_9 (by first | omega | (simp (disch := omega) only [um_eq, um_k, um_j]; omega)) (by first | omega | (simp (disch := omega) only [um_eq, um_k, um_j]; omega)) (cs_t (by omega) (by omega)) ?_
      refine at_aretRT dx_72_12 ?_
      exact ⟨rfl, by omega, by omega, rfl, cs_c (by omega) (by omega)⟩
    · skip
      refine at_thrTW dx_72_7 rfl ?_
      exact ⟨rfl, rfl, by omega⟩

set_option maxRecDepth 100000 in
set_option maxHeartbeats 4000000 in
theorem x_checkPosition {X : scr} {M : mem} {b : Nat} {p : Int} (hb : ly_c b = 5) (hp : inR p) : At X 0 74 0 [vr b, vi p] [] M (qT (qV (fun M' => M' = M ∧ 0 ≤ p ∧ p ≤ M b 1)) (fun e M' => e = 0 ∧ M' = M ∧ ¬ (0 ≤ p ∧ p ≤ M b 1))) := by
  refine at_iload dx_74_0 rfl ?_
  refine at_zltR dx_74_1 hp (fun c1 => ?_) (fun c1 => ?_)
  · skip
    refine at_thrTW dx_74_6 rfl ?_
    exact ⟨rfl, rfl, by omega⟩
  · skip
    refine at_iload dx_74_2 rfl ?_
    refine at_aload dx_74_3 rfl ?_
    refine at_getI 1 dx_74_4 hb rfl rfl (fun r4 => ?_)
    refine at_cleR dx_74_5 hp r4 (fun c5 => ?_) (fun c5 => ?_)
    · skip
      refine at_vretVT dx_74_7 ?_
      exact ⟨rfl, by omega, by omega⟩
    · skip
      refine at_thrTW dx_74_6 rfl ?_
      exact ⟨rfl, rfl, by omega⟩

set_option maxRecDepth 100000 in
set_option maxHeartbeats 4000000 in
theorem x_checkStretch {X : scr} {M : mem} {b : Nat} {f t : Int} (hb : ly_c b = 5) (hf : inR f) (ht : inR t) : At X 0 75 0 [vr b, vi f, vi t] [] M (qT (qV (fun M' => M' = M ∧ 0 ≤ f ∧ f < t ∧ t ≤ M b 1)) (fun e M' => e ≤ 1 ∧ M' = M ∧ ¬ (0 ≤ f ∧ f < t ∧ t ≤ M b 1))) := by
  refine at_aload dx_75_0 rfl ?_
  refine at_iload dx_75_1 rfl ?_
  refine at_callSVT dx_75_2 rfl rfl (x_checkPosition hb hf) ?_ ?_
  rotate_left
  · rintro e M9 ⟨he, e9, hno⟩; replace e9 := e9.symm; subst e9; exact Or.inr ⟨e, rfl, rfl, by omega, rfl, by omega⟩
  rintro M9 ⟨e9, p2, q2⟩; replace e9 := e9.symm; subst e9
  refine at_aload dx_75_3 rfl ?_
  refine at_iload dx_75_4 rfl ?_
  refine at_callSVT dx_75_5 rfl rfl (x_checkPosition hb ht) ?_ ?_
  rotate_left
  · rintro e M9 ⟨he, e9, hno⟩; replace e9 := e9.symm; subst e9; exact Or.inr ⟨e, rfl, rfl, by omega, rfl, by omega⟩
  rintro M9 ⟨e9, p5, q5⟩; replace e9 := e9.symm; subst e9
  refine at_iload dx_75_6 rfl ?_
  refine at_iload dx_75_7 rfl ?_
  refine at_cgtR dx_75_8 ht hf (fun c8 => ?_) (fun c8 => ?_)
  · skip
    refine at_vretVT dx_75_10 ?_
    exact ⟨rfl, by omega, by omega, by omega⟩
  · skip
    refine at_thrTW dx_75_9 rfl ?_
    exact ⟨by decide, rfl, by omega⟩

set_option maxRecDepth 100000 in
set_option maxHeartbeats 4000000 in
theorem x_checkNodeType {X : scr} {M : mem} {t : Int} (ht : inR t) : At X 0 76 0 [vi t] [] M (qT (qV (fun M' => M' = M ∧ 1 ≤ t ∧ t ≤ 5)) (fun e M' => e = 0 ∧ M' = M ∧ ¬ (1 ≤ t ∧ t ≤ 5))) := by
  refine at_iload dx_76_0 rfl ?_
  refine at_callSI dx_76_1 rfl rfl (c_isOpening ht) ?_
  rintro x1 M9 r1 ⟨e9, h1⟩; replace e9 := e9.symm; subst e9
  refine at_zneR dx_76_2 r1 (fun c2 => ?_) (fun c2 => ?_)
  · skip
    refine at_vretVT dx_76_4 ?_
    exact ⟨rfl, by split at h1 <;> omega, by split at h1 <;> omega⟩
  · skip
    refine at_thrTW dx_76_3 rfl ?_
    exact ⟨rfl, rfl, fun hh => by rw [if_pos hh] at h1; omega⟩

set_option maxRecDepth 100000 in
set_option maxHeartbeats 4000000 in
theorem x_innermost {X : scr} {M : mem} {d : Int} (hd : inR d) (h6 : 0 ≤ d ∧ d ≤ 60) : At X 0 79 0 [vr 0, vi d] [] M (qI (fun x M' => M' = M ∧ x = if d = 0 then 0 else M 31 (d - 1))) := by
  refine at_iload dx_79_0 rfl ?_
  refine at_zleR dx_79_1 hd (fun c1 => ?_) (fun c1 => ?_)
  · skip
    refine at_const (x := 0) dx_79_14 rfl ?_
    refine at_iretI dx_79_15 (by decide) ?_
    first | (exfalso; omega) | (refine ⟨rfl, ?_⟩; first | (rw [if_pos (by omega)]; done) | (rw [if_neg (by omega)]; done))
  · skip
    refine at_iload dx_79_2 rfl ?_
    refine at_aload dx_79_3 rfl ?_
    refine at_getR dx_79_4 lc_0 rfl lt_0_14 ?_
    refine at_alen dx_79_5 lc_31 rfl ln_31 ?_
    refine at_cgtR dx_79_6 hd (by decide) (fun c6 => ?_) (fun c6 => ?_)
    · skip
      refine at_const (x := 0) dx_79_14 rfl ?_
      refine at_iretI dx_79_15 (by decide) ?_
      first | (exfalso; omega) | (refine ⟨rfl, ?_⟩; first | (rw [if_pos (by omega)]; done) | (rw [if_neg (by omega)]; done))
    · skip
      refine at_aload dx_79_7 rfl ?_
      refine at_getR dx_79_8 lc_0 rfl lt_0_14 ?_
      refine at_iload dx_79_9 rfl ?_
      refine at_const (x := 1) dx_79_10 rfl ?_
      refine at_subR dx_79_11 (by constructor <;> omega) (fun r11 => ?_)
      refine at_aldI dx_79_12 lc_31 ln_31 (by first | omega | (simp (disch := omega) only [um_eq, um_k, um_j]; omega)) (by first | omega | (simp (disch := omega) only [um_eq, um_k, um_j]; omega)) (fun r12 => ?_)
      refine at_goto dx_79_13 ?_
      refine at_iretI dx_79_15 r12 ?_
      first | (exfalso; omega) | (refine ⟨rfl, ?_⟩; first | (rw [if_pos (by omega)]; done) | (rw [if_neg (by omega)]; done))

set_option maxRecDepth 100000 in
set_option maxHeartbeats 4000000 in
theorem x_findOpen {X : scr} {M : mem} {b a : Nat} {p : Int} (hb : ly_c b = 5) (hp : inR p) (ha : ly_c a = 8) (na : ly_n a = 60) (n1 : a ≠ b) (n2 : a ≠ b + 1) (hI : tkI M b) (hq : 0 ≤ p ∧ p ≤ M b 1) : At X 0 43 0 [vr b, vi p, vr a] [] M (qI (fun x M' => fr (fun q => q = a) M M' ∧ 0 ≤ x ∧ x ≤ 60 ∧ stkA a M' x.toNat = opn ((tk M b).take p.toNat))) := by
  have eb := tk_e hb
  have el : ((tk M b).length : Int) = M b 1 := by rw [tk_len]; omega
  have lp : ∀ (n : Nat) (d i : Int) (M1 : mem) (rd : inR d) (ri : inR i) (h0 : 0 ≤ d ∧ d ≤ i) (hi : i ≤ p) (hn : (p - i).toNat = n) (h1 : fr (fun q => q = a) M M1) (hv : opn ((tk M b).take i.toNat) = stkA a M1 d.toNat), At X 0 43 4 [vr b, vi p, vr a, vi d, vi i] [] M1 (qI (fun x M' => fr (fun q => q = a) M M' ∧ 0 ≤ x ∧ x ≤ 60 ∧ stkA a M' x.toNat = opn ((tk M b).take p.toNat))) := by
    intro n
    induction n using Nat.strongRecOn with
    | ind n ih =>
    intro d i M1 rd ri h0 hi hn h1 hv
    have hb1 : tkI M1 b := tkI_fr h1 (by (try dsimp only [blk]); first | done | omega) hI
    have etk : tk M1 b = tk M b := tk_fr h1 (by (try dsimp only [blk]); first | done | omega) (by (try dsimp only [blk]); first | done | omega)
    have hst : i < p → opn ((tk M b).take (i + 1).toNat) = ops (stkA a M1 d.toNat) ((tk M b).getD i.toNat 0) := fun hh => by
      rw [show (i + 1).toNat = i.toNat + 1 by omega, opn_take (by omega), hv]
    refine at_iload dx_43_4 rfl ?_
    refine at_iload dx_43_5 rfl ?_
    refine at_cgeR dx_43_6 ri hp (fun c6 => ?_) (fun c6 => ?_)
    · skip
      refine at_iload dx_43_31 rfl ?_
      refine at_iretI dx_43_32 rd ?_
      have e3 : i = p := by omega
      subst e3
      exact ⟨h1, h0.1, by omega, hv.symm⟩
    · skip
      refine at_aload dx_43_7 rfl ?_
      refine at_iload dx_43_8 rfl ?_
      refine at_callVI dx_43_9 rfl hb rfl (c_at hb ri hb1) ?_
      rintro x9 M9 r9 ⟨e9, h9⟩; replace e9 := e9.symm; subst e9
      refine at_istore dx_43_10 ?_
      have hx : x9 = (tk M b).getD i.toNat 0 := by rw [h9, etk]; exact atL_get (by omega) (by omega)
      refine at_iload dx_43_11 rfl ?_
      refine at_callNI dx_43_12 rfl rfl (c_isOpening r9) ?_
      rintro x12 M9 r12 ⟨e9, h12⟩; replace e9 := e9.symm; subst e9
      refine at_zeqR dx_43_13 r12 (fun c13 => ?_) (fun c13 => ?_)
      · skip
        refine at_iload dx_43_24 rfl ?_
        refine at_zneR dx_43_25 r9 (fun c25 => ?_) (fun c25 => ?_)
        · skip
          refine at_iincR (y := 1) dx_43_29 rfl rfl (by constructor <;> omega) (fun r29 => ?_)
          refine at_goto dx_43_30 ?_
          refine at_wk (ls := [vr b, vi _, vr a, vi _, vi _]) ⟨Or.inl rfl, Or.inl rfl, Or.inl rfl, Or.inl rfl, Or.inl rfl, trivial⟩ ?_
          first
          | (exfalso; omega)
          | (have hy : 1 ≤ x9 ∧ x9 ≤ 5 := by split at h12 <;> omega
             refine ih _ (by omega) _ _ _ (by assumption) r29 (by omega) (by omega) rfl (fr_ums h1 rfl) ?_
             rw [hst (by omega), ← hx, stkA_push h0.1]
             unfold ops
             rw [if_pos hy]
             done)
          | (have hy : ¬ (1 ≤ x9 ∧ x9 ≤ 5) := fun hh => by rw [if_pos hh] at h12; omega
             refine ih _ (by omega) (d + -1) _ _ (by assumption) r29 (by omega) (by omega) rfl h1 ?_
             rw [hst (by omega), ← hx]
             unfold ops
             rw [if_neg hy, if_pos (by omega), stkA_pop (by omega), show d + -1 = d - 1 by omega]
             rfl)
          | (have hy : ¬ (1 ≤ x9 ∧ x9 ≤ 5) := fun hh => by rw [if_pos hh] at h12; omega
             refine ih _ (by omega) _ _ _ (by assumption) r29 (by omega) (by omega) rfl h1 ?_
             rw [hst (by omega), ← hx]
             unfold ops
             rw [if_neg hy]
             first
             | (rw [if_neg (by omega)]; done)
             | (rw [if_pos (by omega), show d = 0 by omega]; rfl))
        · skip
          refine at_iload dx_43_26 rfl ?_
          refine at_zleR dx_43_27 rd (fun c27 => ?_) (fun c27 => ?_)
          · skip
            refine at_iincR (y := 1) dx_43_29 rfl rfl (by constructor <;> omega) (fun r29 => ?_)
            refine at_goto dx_43_30 ?_
            refine at_wk (ls := [vr b, vi _, vr a, vi _, vi _]) ⟨Or.inl rfl, Or.inl rfl, Or.inl rfl, Or.inl rfl, Or.inl rfl, trivial⟩ ?_
            first
            | (exfalso; omega)
            | (have hy : 1 ≤ x9 ∧ x9 ≤ 5 := by split at h12 <;> omega
               refine ih _ (by omega) _ _ _ (by assumption) r29 (by omega) (by omega) rfl (fr_ums h1 rfl) ?_
               rw [hst (by omega), ← hx, stkA_push h0.1]
               unfold ops
               rw [if_pos hy]
               done)
            | (have hy : ¬ (1 ≤ x9 ∧ x9 ≤ 5) := fun hh => by rw [if_pos hh] at h12; omega
               refine ih _ (by omega) (d + -1) _ _ (by assumption) r29 (by omega) (by omega) rfl h1 ?_
               rw [hst (by omega), ← hx]
               unfold ops
               rw [if_neg hy, if_pos (by omega), stkA_pop (by omega), show d + -1 = d - 1 by omega]
               rfl)
            | (have hy : ¬ (1 ≤ x9 ∧ x9 ≤ 5) := fun hh => by rw [if_pos hh] at h12; omega
               refine ih _ (by omega) _ _ _ (by assumption) r29 (by omega) (by omega) rfl h1 ?_
               rw [hst (by omega), ← hx]
               unfold ops
               rw [if_neg hy]
               first
               | (rw [if_neg (by omega)]; done)
               | (rw [if_pos (by omega), show d = 0 by omega]; rfl))
          · skip
            refine at_iincR (y := -1) dx_43_28 rfl rfl (by constructor <;> omega) (fun r28 => ?_)
            refine at_iincR (y := 1) dx_43_29 rfl rfl (by constructor <;> omega) (fun r29 => ?_)
            refine at_goto dx_43_30 ?_
            refine at_wk (ls := [vr b, vi _, vr a, vi _, vi _]) ⟨Or.inl rfl, Or.inl rfl, Or.inl rfl, Or.inl rfl, Or.inl rfl, trivial⟩ ?_
            first
            | (exfalso; omega)
            | (have hy : 1 ≤ x9 ∧ x9 ≤ 5 := by split at h12 <;> omega
               refine ih _ (by omega) _ _ _ (by assumption) r29 (by omega) (by omega) rfl (fr_ums h1 rfl) ?_
               rw [hst (by omega), ← hx, stkA_push h0.1]
               unfold ops
               rw [if_pos hy]
               done)
            | (have hy : ¬ (1 ≤ x9 ∧ x9 ≤ 5) := fun hh => by rw [if_pos hh] at h12; omega
               refine ih _ (by omega) (d + -1) _ _ (by assumption) r29 (by omega) (by omega) rfl h1 ?_
               rw [hst (by omega), ← hx]
               unfold ops
               rw [if_neg hy, if_pos (by omega), stkA_pop (by omega), show d + -1 = d - 1 by omega]
               rfl)
            | (have hy : ¬ (1 ≤ x9 ∧ x9 ≤ 5) := fun hh => by rw [if_pos hh] at h12; omega
               refine ih _ (by omega) _ _ _ (by assumption) r29 (by omega) (by omega) rfl h1 ?_
               rw [hst (by omega), ← hx]
               unfold ops
               rw [if_neg hy]
               first
               | (rw [if_neg (by omega)]; done)
               | (rw [if_pos (by omega), show d = 0 by omega]; rfl))
      · skip
        refine at_iload dx_43_14 rfl ?_
        refine at_aload dx_43_15 rfl ?_
        refine at_alen dx_43_16 ha rfl na ?_
        refine at_cgeR dx_43_17 rd (by decide) (fun c17 => ?_) (fun c17 => ?_)
        · skip
          refine at_iload dx_43_24 rfl ?_
          refine at_zneR dx_43_25 r9 (fun c25 => ?_) (fun c25 => ?_)
          · skip
            refine at_iincR (y := 1) dx_43_29 rfl rfl (by constructor <;> omega) (fun r29 => ?_)
            refine at_goto dx_43_30 ?_
            refine at_wk (ls := [vr b, vi _, vr a, vi _, vi _]) ⟨Or.inl rfl, Or.inl rfl, Or.inl rfl, Or.inl rfl, Or.inl rfl, trivial⟩ ?_
            first
            | (exfalso; omega)
            | (have hy : 1 ≤ x9 ∧ x9 ≤ 5 := by split at h12 <;> omega
               refine ih _ (by omega) _ _ _ (by assumption) r29 (by omega) (by omega) rfl (fr_ums h1 rfl) ?_
               rw [hst (by omega), ← hx, stkA_push h0.1]
               unfold ops
               rw [if_pos hy]
               done)
            | (have hy : ¬ (1 ≤ x9 ∧ x9 ≤ 5) := fun hh => by rw [if_pos hh] at h12; omega
               refine ih _ (by omega) (d + -1) _ _ (by assumption) r29 (by omega) (by omega) rfl h1 ?_
               rw [hst (by omega), ← hx]
               unfold ops
               rw [if_neg hy, if_pos (by omega), stkA_pop (by omega), show d + -1 = d - 1 by omega]
               rfl)
            | (have hy : ¬ (1 ≤ x9 ∧ x9 ≤ 5) := fun hh => by rw [if_pos hh] at h12; omega
               refine ih _ (by omega) _ _ _ (by assumption) r29 (by omega) (by omega) rfl h1 ?_
               rw [hst (by omega), ← hx]
               unfold ops
               rw [if_neg hy]
               first
               | (rw [if_neg (by omega)]; done)
               | (rw [if_pos (by omega), show d = 0 by omega]; rfl))
          · skip
            refine at_iload dx_43_26 rfl ?_
            refine at_zleR dx_43_27 rd (fun c27 => ?_) (fun c27 => ?_)
            · skip
              refine at_iincR (y := 1) dx_43_29 rfl rfl (by constructor <;> omega) (fun r29 => ?_)
              refine at_goto dx_43_30 ?_
              refine at_wk (ls := [vr b, vi _, vr a, vi _, vi _]) ⟨Or.inl rfl, Or.inl rfl, Or.inl rfl, Or.inl rfl, Or.inl rfl, trivial⟩ ?_
              first
              | (exfalso; omega)
              | (have hy : 1 ≤ x9 ∧ x9 ≤ 5 := by split at h12 <;> omega
                 refine ih _ (by omega) _ _ _ (by assumption) r29 (by omega) (by omega) rfl (fr_ums h1 rfl) ?_
                 rw [hst (by omega), ← hx, stkA_push h0.1]
                 unfold ops
                 rw [if_pos hy]
                 done)
              | (have hy : ¬ (1 ≤ x9 ∧ x9 ≤ 5) := fun hh => by rw [if_pos hh] at h12; omega
                 refine ih _ (by omega) (d + -1) _ _ (by assumption) r29 (by omega) (by omega) rfl h1 ?_
                 rw [hst (by omega), ← hx]
                 unfold ops
                 rw [if_neg hy, if_pos (by omega), stkA_pop (by omega), show d + -1 = d - 1 by omega]
                 rfl)
              | (have hy : ¬ (1 ≤ x9 ∧ x9 ≤ 5) := fun hh => by rw [if_pos hh] at h12; omega
                 refine ih _ (by omega) _ _ _ (by assumption) r29 (by omega) (by omega) rfl h1 ?_
                 rw [hst (by omega), ← hx]
                 unfold ops
                 rw [if_neg hy]
                 first
                 | (rw [if_neg (by omega)]; done)
                 | (rw [if_pos (by omega), show d = 0 by omega]; rfl))
            · skip
              refine at_iincR (y := -1) dx_43_28 rfl rfl (by constructor <;> omega) (fun r28 => ?_)
              refine at_iincR (y := 1) dx_43_29 rfl rfl (by constructor <;> omega) (fun r29 => ?_)
              refine at_goto dx_43_30 ?_
              refine at_wk (ls := [vr b, vi _, vr a, vi _, vi _]) ⟨Or.inl rfl, Or.inl rfl, Or.inl rfl, Or.inl rfl, Or.inl rfl, trivial⟩ ?_
              first
              | (exfalso; omega)
              | (have hy : 1 ≤ x9 ∧ x9 ≤ 5 := by split at h12 <;> omega
                 refine ih _ (by omega) _ _ _ (by assumption) r29 (by omega) (by omega) rfl (fr_ums h1 rfl) ?_
                 rw [hst (by omega), ← hx, stkA_push h0.1]
                 unfold ops
                 rw [if_pos hy]
                 done)
              | (have hy : ¬ (1 ≤ x9 ∧ x9 ≤ 5) := fun hh => by rw [if_pos hh] at h12; omega
                 refine ih _ (by omega) (d + -1) _ _ (by assumption) r29 (by omega) (by omega) rfl h1 ?_
                 rw [hst (by omega), ← hx]
                 unfold ops
                 rw [if_neg hy, if_pos (by omega), stkA_pop (by omega), show d + -1 = d - 1 by omega]
                 rfl)
              | (have hy : ¬ (1 ≤ x9 ∧ x9 ≤ 5) := fun hh => by rw [if_pos hh] at h12; omega
                 refine ih _ (by omega) _ _ _ (by assumption) r29 (by omega) (by omega) rfl h1 ?_
                 rw [hst (by omega), ← hx]
                 unfold ops
                 rw [if_neg hy]
                 first
                 | (rw [if_neg (by omega)]; done)
                 | (rw [if_pos (by omega), show d = 0 by omega]; rfl))
        · skip
          refine at_aload dx_43_18 rfl ?_
          refine at_iload dx_43_19 rfl ?_
          refine at_iload dx_43_20 rfl ?_
          refine at_astI dx_43_21 ha na (by first | omega | (simp (disch := omega) only [um_eq, um_k, um_j]; omega)) (by first | omega | (simp (disch := omega) only [um_eq, um_k, um_j]; omega)) r9 ?_
          refine at_iincR (y := 1) dx_43_22 rfl rfl (by constructor <;> omega) (fun r22 => ?_)
          refine at_goto dx_43_23 ?_
          refine at_iincR (y := 1) dx_43_29 rfl rfl (by constructor <;> omega) (fun r29 => ?_)
          refine at_goto dx_43_30 ?_
          refine at_wk (ls := [vr b, vi _, vr a, vi _, vi _]) ⟨Or.inl rfl, Or.inl rfl, Or.inl rfl, Or.inl rfl, Or.inl rfl, trivial⟩ ?_
          first
          | (exfalso; omega)
          | (have hy : 1 ≤ x9 ∧ x9 ≤ 5 := by split at h12 <;> omega
             refine ih _ (by omega) _ _ _ (by assumption) r29 (by omega) (by omega) rfl (fr_ums h1 rfl) ?_
             rw [hst (by omega), ← hx, stkA_push h0.1]
             unfold ops
             rw [if_pos hy]
             done)
          | (have hy : ¬ (1 ≤ x9 ∧ x9 ≤ 5) := fun hh => by rw [if_pos hh] at h12; omega
             refine ih _ (by omega) (d + -1) _ _ (by assumption) r29 (by omega) (by omega) rfl h1 ?_
             rw [hst (by omega), ← hx]
             unfold ops
             rw [if_neg hy, if_pos (by omega), stkA_pop (by omega), show d + -1 = d - 1 by omega]
             rfl)
          | (have hy : ¬ (1 ≤ x9 ∧ x9 ≤ 5) := fun hh => by rw [if_pos hh] at h12; omega
             refine ih _ (by omega) _ _ _ (by assumption) r29 (by omega) (by omega) rfl h1 ?_
             rw [hst (by omega), ← hx]
             unfold ops
             rw [if_neg hy]
             first
             | (rw [if_neg (by omega)]; done)
             | (rw [if_pos (by omega), show d = 0 by omega]; rfl))
  refine at_const (x := 0) dx_43_0 rfl ?_
  refine at_istore dx_43_1 ?_
  refine at_const (x := 0) dx_43_2 rfl ?_
  refine at_istore dx_43_3 ?_
  exact lp _ 0 0 _ (by decide) (by decide) (by decide) hq.1 rfl fr_rf rfl

set_option maxRecDepth 100000 in
set_option maxHeartbeats 4000000 in
theorem x_findClosing {X : scr} {M : mem} {b : Nat} {p : Int} (hb : ly_c b = 5) (hp : inR p) (hI : tkI M b) (hq : 0 ≤ p) : At X 0 44 0 [vr b, vi p] [] M (qI (fun x M' => M' = M ∧ x = if isO (atL (tk M b) p) then fcl ((tk M b).drop p.toNat) 0 p else -1)) := by
  have el : ((tk M b).length : Int) = M b 1 := by rw [tk_len]; omega
  have lp : ∀ (n : Nat) (l i : Int) (rl : inR l) (ri : inR i) (h0 : p ≤ i) (hl : -(i - p) ≤ l ∧ l ≤ i - p) (hn : (M b 1 - i).toNat = n) (ho : isO (atL (tk M b) p)) (hv : fcl ((tk M b).drop i.toNat) l i = fcl ((tk M b).drop p.toNat) 0 p), At X 0 44 11 [vr b, vi p, vi l, vi i] [] M (qI (fun x M' => M' = M ∧ x = if isO (atL (tk M b) p) then fcl ((tk M b).drop p.toNat) 0 p else -1)) := by
    intro n
    induction n using Nat.strongRecOn with
    | ind n ih =>
    intro l i rl ri h0 hl hn ho hv
    refine at_iload dx_44_11 rfl ?_
    refine at_aload dx_44_12 rfl ?_
    refine at_getI 1 dx_44_13 hb rfl rfl (fun r13 => ?_)
    refine at_cgeR dx_44_14 ri r13 (fun c14 => ?_) (fun c14 => ?_)
    · skip
      refine at_const (x := -1) dx_44_28 rfl ?_
      refine at_iretI dx_44_29 (by decide) ?_
      refine ⟨rfl, ?_⟩
      rw [if_pos ho, ← hv, List.drop_of_length_le (by omega)]
      rfl
    · skip
      refine at_iload dx_44_15 rfl ?_
      refine at_aload dx_44_16 rfl ?_
      refine at_iload dx_44_17 rfl ?_
      refine at_callVI dx_44_18 rfl hb rfl (c_at hb ri hI) ?_
      rintro x18 M9 r18 ⟨e9, h18⟩; replace e9 := e9.symm; subst e9
      refine at_callNI dx_44_19 rfl rfl (c_depthChange r18) ?_
      rintro x19 M9 r19 ⟨e9, h19⟩; replace e9 := e9.symm; subst e9
      have hd : x19 = dcc x18 := h19
      have hx : x18 = (tk M b).getD i.toNat 0 := by rw [h18]; exact atL_get (by omega) (by omega)
      refine at_addR dx_44_20 (by (first | (have := dcc_b x18; constructor <;> omega) | (constructor <;> omega))) (fun r20 => ?_)
      refine at_istore dx_44_21 ?_
      refine at_iload dx_44_22 rfl ?_
      refine at_zneR dx_44_23 r20 (fun c23 => ?_) (fun c23 => ?_)
      · skip
        refine at_iincR (y := 1) dx_44_26 rfl rfl (by (first | (have := dcc_b x18; constructor <;> omega) | (constructor <;> omega))) (fun r26 => ?_)
        refine at_goto dx_44_27 ?_
        refine ih _ (by omega) _ _ (by assumption) r26 (by omega) (by have := dcc_b x18; omega) rfl ho ?_
        rw [← hv, drop_cons (i := i) (by omega) (by omega), ← hx]
        show _ = if l + dcc x18 = 0 then i else fcl _ (l + dcc x18) (i + 1)
        rw [← hd, if_neg (by omega)]
      · skip
        refine at_iload dx_44_24 rfl ?_
        refine at_iretI dx_44_25 ri ?_
        refine ⟨rfl, ?_⟩
        rw [if_pos ho, ← hv, drop_cons (i := i) (by omega) (by omega), ← hx]
        show i = if l + dcc x18 = 0 then i else _
        rw [if_pos (by omega)]
  refine at_aload dx_44_0 rfl ?_
  refine at_iload dx_44_1 rfl ?_
  refine at_callVI dx_44_2 rfl hb rfl (c_at hb hp hI) ?_
  rintro x2 M9 r2 ⟨e9, h2⟩; replace e9 := e9.symm; subst e9
  refine at_callNI dx_44_3 rfl rfl (c_isOpening r2) ?_
  rintro x3 M9 r3 ⟨e9, h3⟩; replace e9 := e9.symm; subst e9
  refine at_zneR dx_44_4 r3 (fun c4 => ?_) (fun c4 => ?_)
  · skip
    refine at_const (x := 0) dx_44_7 rfl ?_
    refine at_istore dx_44_8 ?_
    refine at_iload dx_44_9 rfl ?_
    refine at_istore dx_44_10 ?_
    exact lp _ 0 _ (by decide) hp (Int.le_refl _) (by omega) rfl (by rw [← h2]; split at h3 <;> omega) rfl
  · skip
    refine at_const (x := -1) dx_44_5 rfl ?_
    refine at_iretI dx_44_6 (by decide) ?_
    refine ⟨rfl, ?_⟩; rw [if_neg (fun hh => by rw [← h2] at hh; rw [if_pos hh] at h3; omega)]
