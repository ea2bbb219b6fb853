/-! ===== the grammar: what it answers ===== -/
/-- one element of a rule passed: the state of its machine behind that -/
noncomputable def gsk (k q s e : Int) : Int := if ii_and (ii_shr s (2 * e + 1)) 1 ≠ 0 ∨ (ii_and (ii_shr s (2 * e)) 1 ≠ 0 ∧ (k = 0 ∨ q = 1 ∨ q = 2)) then ii_or s (ii_shl 1 (2 * e + 2)) else s
noncomputable def skT (K Q : Int → Int) (t : Int) : Nat → Int → Int
  | 0, s => s
  | n + 1, s => skT K Q t n (gsk (K (3 * t + (2 - (n : Int)))) (Q (3 * t + (2 - (n : Int)))) s (2 - (n : Int)))
theorem skT_step {K Q : Int → Int} {t e c : Int} (h0 : 0 ≤ e) (h1 : e < 3) : skT K Q t (3 - e).toNat c = skT K Q t (3 - (e + 1)).toNat (gsk (K (3 * t + e)) (Q (3 * t + e)) c e) := by
  obtain ⟨n, hn⟩ : ∃ n : Nat, (n : Int) = 2 - e := ⟨(2 - e).toNat, by omega⟩
  have e1 : (3 - e).toNat = n + 1 := by omega
  have e2 : (3 - (e + 1)).toNat = n := by omega
  rw [e1, e2]
  show skT K Q t n (gsk (K (3 * t + (2 - (n : Int)))) (Q (3 * t + (2 - (n : Int)))) c (2 - (n : Int))) = _
  rw [show 2 - (n : Int) = e by omega]
noncomputable def sk (K Q : Int → Int) (t s : Int) : Int := skT K Q t 3 s
noncomputable def gad (k q s kd e r : Int) : Int := if ii_and (ii_shr s (2 * e)) 3 ≠ 0 ∧ ii_and (ii_shr k kd) 1 ≠ 0 then ii_or r (ii_shl 1 (if q = 2 ∨ q = 3 then 2 * e + 1 else 2 * e + 2)) else r
noncomputable def adT (K Q : Int → Int) (t s kd : Int) : Nat → Int → Int
  | 0, r => r
  | n + 1, r => adT K Q t s kd n (gad (K (3 * t + (2 - (n : Int)))) (Q (3 * t + (2 - (n : Int)))) s kd (2 - (n : Int)) r)
theorem adT_step {K Q : Int → Int} {t s kd e c : Int} (h0 : 0 ≤ e) (h1 : e < 3) : adT K Q t s kd (3 - e).toNat c = adT K Q t s kd (3 - (e + 1)).toNat (gad (K (3 * t + e)) (Q (3 * t + e)) s kd e c) := by
  obtain ⟨n, hn⟩ : ∃ n : Nat, (n : Int) = 2 - e := ⟨(2 - e).toNat, by omega⟩
  have e1 : (3 - e).toNat = n + 1 := by omega
  have e2 : (3 - (e + 1)).toNat = n := by omega
  rw [e1, e2]
  show adT K Q t s kd n (gad (K (3 * t + (2 - (n : Int)))) (Q (3 * t + (2 - (n : Int)))) s kd (2 - (n : Int)) c) = _
  rw [show 2 - (n : Int) = e by omega]
noncomputable def ad (K Q : Int → Int) (t s kd : Int) : Int := sk K Q t (adT K Q t s kd 3 0)
/-- one token read by the machines of the open nodes -/
noncomputable def astp (K Q : Int → Int) : Option (List (Int × Int)) → Int → Option (List (Int × Int))
  | some ((t, s) :: r), x =>
    if x = 0 then (if r = [] ∨ ii_and s 64 = 0 then none else some r)
    else if ad K Q t s (if 1 ≤ x ∧ x ≤ 5 then x else 6) = 0 then none
    else if 1 ≤ x ∧ x ≤ 5 then some ((x, sk K Q x 1) :: (t, ad K Q t s x) :: r)
    else some ((t, ad K Q t s 6) :: r)
  | _, _ => none
noncomputable def accR (K Q : Int → Int) (l : List Int) : Option (List (Int × Int)) := l.foldl (astp K Q) (some [(0, sk K Q 0 1)])
/-- a document is valid by the rules -/
noncomputable def acc (K Q : Int → Int) (l : List Int) : Prop := ∃ t s, accR K Q l = some [(t, s)] ∧ ii_and s 64 ≠ 0
theorem astp_none {K Q : Int → Int} (l : List Int) : l.foldl (astp K Q) none = none := by
  induction l with
  | nil => rfl
  | cons x r ih => exact ih
theorem accR_take {K Q : Int → Int} {l : List Int} {i : Nat} (h : i < l.length) : accR K Q (l.take (i + 1)) = astp K Q (accR K Q (l.take i)) (l.getD i 0) := by
  unfold accR
  rw [List.take_add_one, List.foldl_append, List.getElem?_eq_getElem h, List.getD_eq_getElem?_getD, List.getElem?_eq_getElem h]
  rfl
theorem accR_none {K Q : Int → Int} {l : List Int} (i : Nat) (h : accR K Q (l.take i) = none) : accR K Q l = none := by
  have h1 : l = l.take i ++ l.drop i := (List.take_append_drop i l).symm
  unfold accR at h ⊢
  rw [h1, List.foldl_append, h]
  exact astp_none _
/-- the rows of open types and states, the innermost first -/
noncomputable def stkL (a b : Nat) (M : mem) : Nat → List (Int × Int)
  | 0 => [(M a 0, M b 0)]
  | d + 1 => (M a ((d : Int) + 1), M b ((d : Int) + 1)) :: stkL a b M d
theorem stkL_cg {a b : Nat} {M M' : mem} {d : Nat} (h1 : ∀ j : Int, 0 ≤ j → j ≤ d → M' a j = M a j) (h2 : ∀ j : Int, 0 ≤ j → j ≤ d → M' b j = M b j) : stkL a b M' d = stkL a b M d := by
  induction d with
  | zero =>
    show [(M' a 0, M' b 0)] = [(M a 0, M b 0)]
    rw [h1 0 (by decide) (by decide), h2 0 (by decide) (by decide)]
  | succ d ih =>
    show (M' a ((d : Int) + 1), M' b ((d : Int) + 1)) :: stkL a b M' d = (M a ((d : Int) + 1), M b ((d : Int) + 1)) :: stkL a b M d
    rw [h1 _ (by omega) (by omega), h2 _ (by omega) (by omega), ih (fun j h0 h => h1 j h0 (by omega)) (fun j h0 h => h2 j h0 (by omega))]
theorem stkL_cons {a b : Nat} {M : mem} {d : Int} (h : 0 ≤ d) : stkL a b M d.toNat = (M a d, M b d) :: (if d = 0 then [] else stkL a b M (d - 1).toNat) := by
  obtain ⟨n, rfl⟩ : ∃ n : Nat, d = n := ⟨d.toNat, by omega⟩
  cases n with
  | zero => rfl
  | succ n =>
    rw [if_neg (by omega), show (((n + 1 : Nat) : Int) - 1).toNat = n by omega]
    show (M a ((n : Int) + 1), M b ((n : Int) + 1)) :: stkL a b M n = _
    rfl
theorem stkL_ne {a b : Nat} {M : mem} {d : Nat} : stkL a b M d ≠ [] := by
  cases d <;> exact List.cons_ne_nil _ _
theorem atL_get {l : List Int} {i : Int} (h0 : 0 ≤ i) (h1 : i < (l.length : Int)) : atL l i = l.getD i.toNat 0 := by
  unfold atL
  rw [if_pos h0, List.getD_eq_getElem?_getD, List.getD_eq_getElem?_getD, List.getElem?_eq_getElem (by omega)]
  rfl
section ST
variable {K Q : Int → Int} {a b : Nat} {M : mem} {d x y v : Int}
theorem astp_close (hd : 0 ≤ d) (hx : x = 0) : astp K Q (some (stkL a b M d.toNat)) x = if d = 0 ∨ ii_and (M b d) 64 = 0 then none else some (stkL a b M (d - 1).toNat) := by
  rw [stkL_cons hd]
  show (if x = 0 then (if (if d = 0 then [] else stkL a b M (d - 1).toNat) = [] ∨ ii_and (M b d) 64 = 0 then none else some (if d = 0 then [] else stkL a b M (d - 1).toNat)) else _) = _
  rw [if_pos hx]
  by_cases h : d = 0
  · rw [if_pos h, if_pos (Or.inl rfl), if_pos (Or.inl h)]
  · rw [if_neg h]
    by_cases h2 : ii_and (M b d) 64 = 0
    · rw [if_pos (Or.inr h2), if_pos (Or.inr h2)]
    · rw [if_neg (fun e => e.elim stkL_ne h2), if_neg (fun e => e.elim h h2)]
theorem astp_kind (hd : 0 ≤ d) (hx : x ≠ 0) (h0 : ad K Q (M a d) (M b d) (if 1 ≤ x ∧ x ≤ 5 then x else 6) = 0) : astp K Q (some (stkL a b M d.toNat)) x = none := by
  rw [stkL_cons hd]
  show (if x = 0 then _ else if ad K Q (M a d) (M b d) (if 1 ≤ x ∧ x ≤ 5 then x else 6) = 0 then none else _) = _
  rw [if_neg hx, if_pos h0]
theorem astp_open (hd : 0 ≤ d) (hx : 1 ≤ x ∧ x ≤ 5) (h0 : ad K Q (M a d) (M b d) x ≠ 0) : astp K Q (some (stkL a b M d.toNat)) x = some ((x, sk K Q x 1) :: (M a d, ad K Q (M a d) (M b d) x) :: (if d = 0 then [] else stkL a b M (d - 1).toNat)) := by
  rw [stkL_cons hd]
  show (if x = 0 then _ else if ad K Q (M a d) (M b d) (if 1 ≤ x ∧ x ≤ 5 then x else 6) = 0 then none else if 1 ≤ x ∧ x ≤ 5 then _ else _) = _
  rw [if_neg (by omega), if_pos hx, if_neg h0, if_pos hx]
theorem astp_char (hd : 0 ≤ d) (hx : x ≠ 0) (hx5 : ¬ (1 ≤ x ∧ x ≤ 5)) (h0 : ad K Q (M a d) (M b d) 6 ≠ 0) : astp K Q (some (stkL a b M d.toNat)) x = some ((M a d, ad K Q (M a d) (M b d) 6) :: (if d = 0 then [] else stkL a b M (d - 1).toNat)) := by
  rw [stkL_cons hd]
  show (if x = 0 then _ else if ad K Q (M a d) (M b d) (if 1 ≤ x ∧ x ≤ 5 then x else 6) = 0 then none else if 1 ≤ x ∧ x ≤ 5 then _ else _) = _
  rw [if_neg hx, if_neg hx5, if_neg h0, if_neg hx5]
theorem stkL_set (hd : 0 ≤ d) (hab : a ≠ b) : stkL a b (um M b d v) d.toNat = (M a d, v) :: (if d = 0 then [] else stkL a b M (d - 1).toNat) := by
  rw [stkL_cons hd, um_eq, um_k hab]
  congr 1
  by_cases h : d = 0
  · rw [if_pos h, if_pos h]
  · rw [if_neg h, if_neg h]
    exact stkL_cg (fun j h0 h1 => um_k hab) (fun j h0 h1 => um_j (by omega))
theorem stkL_push (hd : 0 ≤ d) (hab : a ≠ b) : stkL a b (um (um M a (d + 1) x) b (d + 1) y) (d + 1).toNat = (x, y) :: stkL a b M d.toNat := by
  rw [stkL_cons (by omega), um_eq, um_k hab, um_eq, if_neg (by omega), show d + 1 - 1 = d by omega]
  congr 1
  exact stkL_cg (fun j h0 h1 => by rw [um_k hab, um_j (by omega)]) (fun j h0 h1 => by rw [um_j (by omega), um_k (fun e => hab e.symm)])
theorem acc_end {l : List Int} (hd : 0 ≤ d) (h : accR K Q l = some (stkL a b M d.toNat)) : acc K Q l ↔ d = 0 ∧ ii_and (M b 0) 64 ≠ 0 := by
  unfold acc
  rw [h, stkL_cons hd]
  by_cases e : d = 0
  · subst e
    rw [if_pos rfl]
    constructor
    · rintro ⟨t, s, h1, h2⟩
      obtain ⟨rfl, rfl⟩ := Prod.mk.inj (List.cons.inj (Option.some.inj h1)).1
      exact ⟨rfl, h2⟩
    · rintro ⟨-, h2⟩
      exact ⟨_, _, rfl, h2⟩
  · rw [if_neg e]
    constructor
    · rintro ⟨t, s, h1, h2⟩
      exact absurd (List.cons.inj (Option.some.inj h1)).2 stkL_ne
    · rintro ⟨h2, -⟩
      exact absurd h2 e
theorem acc_none {l : List Int} (h : accR K Q l = none) : ¬ acc K Q l := by
  rintro ⟨t, s, h1, -⟩
  rw [h] at h1
  cases h1
end ST

set_option maxRecDepth 100000 in
set_option maxHeartbeats 4000000 in
theorem x_kindsOf {X : scr} {M : mem} {t e : Int} (ht : inR t) (he : inR e) (h5 : 0 ≤ t ∧ t ≤ 5) (h2 : 0 ≤ e ∧ e ≤ 2) : At X 0 2 0 [vr 1, vi t, vi e] [] M (qI (fun x M' => M' = M ∧ x = M 2 (3 * t + e))) := by
  refine at_const (x := 3) dx_2_0 rfl ?_
  refine at_iload dx_2_1 rfl ?_
  refine at_mulR dx_2_2 (by constructor <;> omega) (fun r2 => ?_)
  refine at_iload dx_2_3 rfl ?_
  refine at_addR dx_2_4 (by constructor <;> omega) (fun r4 => ?_)
  refine at_istore dx_2_5 ?_
  refine at_iload dx_2_6 rfl ?_
  refine at_zltR dx_2_7 r4 (fun c7 => ?_) (fun c7 => ?_)
  · skip
    refine at_const (x := 0) dx_2_18 rfl ?_
    refine at_iretI dx_2_19 (by decide) ?_
    first | (exfalso; omega) | exact ⟨rfl, rfl⟩
  · skip
    refine at_iload dx_2_8 rfl ?_
    refine at_aload dx_2_9 rfl ?_
    refine at_getR dx_2_10 lc_1 rfl lt_1_0 ?_
    refine at_alen dx_2_11 lc_2 rfl ln_2 ?_
    refine at_cgeR dx_2_12 r4 (by decide) (fun c12 => ?_) (fun c12 => ?_)
    · skip
      refine at_const (x := 0) dx_2_18 rfl ?_
      refine at_iretI dx_2_19 (by decide) ?_
      first | (exfalso; omega) | exact ⟨rfl, rfl⟩
    · skip
      refine at_aload dx_2_13 rfl ?_
      refine at_getR dx_2_14 lc_1 rfl lt_1_0 ?_
      refine at_iload dx_2_15 rfl ?_
      refine at_aldI dx_2_16 lc_2 ln_2 (by first | omega | (simp (disch := omega) only [um_eq, um_k, um_j]; omega)) (by first | omega | (simp (disch := omega) only [um_eq, um_k, um_j]; omega)) (fun r16 => ?_)
      refine at_goto dx_2_17 ?_
      refine at_iretI dx_2_19 r16 ?_
      first | (exfalso; omega) | exact ⟨rfl, rfl⟩

set_option maxRecDepth 100000 in
set_option maxHeartbeats 4000000 in
theorem x_quantityOf {X : scr} {M : mem} {t e : Int} (ht : inR t) (he : inR e) (h5 : 0 ≤ t ∧ t ≤ 5) (h2 : 0 ≤ e ∧ e ≤ 2) : At X 0 3 0 [vr 1, vi t, vi e] [] M (qI (fun x M' => M' = M ∧ x = M 3 (3 * t + e))) := by
  refine at_const (x := 3) dx_3_0 rfl ?_
  refine at_iload dx_3_1 rfl ?_
  refine at_mulR dx_3_2 (by constructor <;> omega) (fun r2 => ?_)
  refine at_iload dx_3_3 rfl ?_
  refine at_addR dx_3_4 (by constructor <;> omega) (fun r4 => ?_)
  refine at_istore dx_3_5 ?_
  refine at_iload dx_3_6 rfl ?_
  refine at_zltR dx_3_7 r4 (fun c7 => ?_) (fun c7 => ?_)
  · skip
    refine at_const (x := 0) dx_3_18 rfl ?_
    refine at_iretI dx_3_19 (by decide) ?_
    first | (exfalso; omega) | exact ⟨rfl, rfl⟩
  · skip
    refine at_iload dx_3_8 rfl ?_
    refine at_aload dx_3_9 rfl ?_
    refine at_getR dx_3_10 lc_1 rfl lt_1_1 ?_
    refine at_alen dx_3_11 lc_3 rfl ln_3 ?_
    refine at_cgeR dx_3_12 r4 (by decide) (fun c12 => ?_) (fun c12 => ?_)
    · skip
      refine at_const (x := 0) dx_3_18 rfl ?_
      refine at_iretI dx_3_19 (by decide) ?_
      first | (exfalso; omega) | exact ⟨rfl, rfl⟩
    · skip
      refine at_aload dx_3_13 rfl ?_
      refine at_getR dx_3_14 lc_1 rfl lt_1_1 ?_
      refine at_iload dx_3_15 rfl ?_
      refine at_aldI dx_3_16 lc_3 ln_3 (by first | omega | (simp (disch := omega) only [um_eq, um_k, um_j]; omega)) (by first | omega | (simp (disch := omega) only [um_eq, um_k, um_j]; omega)) (fun r16 => ?_)
      refine at_goto dx_3_17 ?_
      refine at_iretI dx_3_19 r16 ?_
      first | (exfalso; omega) | exact ⟨rfl, rfl⟩

set_option maxRecDepth 100000 in
set_option maxHeartbeats 4000000 in
theorem x_setElement {X : scr} {M : mem} {t e a b : Int} (ht : inR t) (he : inR e) (ha : inR a) (hb : inR b) (h5 : 0 ≤ t ∧ t ≤ 5) (h2 : 0 ≤ e ∧ e ≤ 2) : At X 0 4 0 [vr 1, vi t, vi e, vi a, vi b] [] M (qV (fun M' => M' = um (um M 2 (3 * t + e) a) 3 (3 * t + e) b)) := by
  refine at_const (x := 3) dx_4_0 rfl ?_
  refine at_iload dx_4_1 rfl ?_
  refine at_mulR dx_4_2 (by constructor <;> omega) (fun r2 => ?_)
  refine at_iload dx_4_3 rfl ?_
  refine at_addR dx_4_4 (by constructor <;> omega) (fun r4 => ?_)
  refine at_istore dx_4_5 ?_
  refine at_iload dx_4_6 rfl ?_
  refine at_zltR dx_4_7 r4 (fun c7 => ?_) (fun c7 => ?_)
  · skip
    refine at_vretV dx_4_28 ?_
    first | (exfalso; omega) | exact rfl
  · skip
    refine at_iload dx_4_8 rfl ?_
    refine at_aload dx_4_9 rfl ?_
    refine at_getR dx_4_10 lc_1 rfl lt_1_0 ?_
    refine at_alen dx_4_11 lc_2 rfl ln_2 ?_
    refine at_cgeR dx_4_12 r4 (by decide) (fun c12 => ?_) (fun c12 => ?_)
    · skip
      refine at_vretV dx_4_28 ?_
      first | (exfalso; omega) | exact rfl
    · skip
      refine at_iload dx_4_13 rfl ?_
      refine at_aload dx_4_14 rfl ?_
      refine at_getR dx_4_15 lc_1 rfl lt_1_1 ?_
      refine at_alen dx_4_16 lc_3 rfl ln_3 ?_
      refine at_cgeR dx_4_17 r4 (by decide) (fun c17 => ?_) (fun c17 => ?_)
      · skip
        refine at_vretV dx_4_28 ?_
        first | (exfalso; omega) | exact rfl
      · skip
        refine at_aload dx_4_18 rfl ?_
        refine at_getR dx_4_19 lc_1 rfl lt_1_0 ?_
        refine at_iload dx_4_20 rfl ?_
        refine at_iload dx_4_21 rfl ?_
        refine at_astI dx_4_22 lc_2 ln_2 (by first | omega | (simp (disch := omega) only [um_eq, um_k, um_j]; omega)) (by first | omega | (simp (disch := omega) only [um_eq, um_k, um_j]; omega)) ha ?_
        refine at_aload dx_4_23 rfl ?_
        refine at_getR dx_4_24 lc_1 rfl lt_1_1 ?_
        refine at_iload dx_4_25 rfl ?_
        refine at_iload dx_4_26 rfl ?_
        refine at_astI dx_4_27 lc_3 ln_3 (by first | omega | (simp (disch := omega) only [um_eq, um_k, um_j]; omega)) (by first | omega | (simp (disch := omega) only [um_eq, um_k, um_j]; omega)) hb ?_
        refine at_vretV dx_4_28 ?_
        first | (exfalso; omega) | exact rfl

set_option maxRecDepth 100000 in
set_option maxHeartbeats 4000000 in
theorem x_isEnd {X : scr} {M : mem} {t : Int} (ht : inR t) : At X 0 6 0 [vi t] [] M (qI (fun x M' => M' = M ∧ x = if ii_and t 64 = 0 then 0 else 1)) := by
  refine at_iload dx_6_0 rfl ?_
  refine at_const (x := 64) dx_6_1 rfl ?_
  refine at_and dx_6_2 ?_
  refine at_zeqR dx_6_3 (inR_and _ _) (fun c3 => ?_) (fun c3 => ?_)
  · skip
    refine at_const (x := 0) dx_6_6 rfl ?_
    refine at_zretI dx_6_7 (Or.inl rfl) ?_
    refine ⟨rfl, ?_⟩; rw [if_pos c3]
  · skip
    refine at_const (x := 1) dx_6_4 rfl ?_
    refine at_goto dx_6_5 ?_
    refine at_zretI dx_6_7 (Or.inr rfl) ?_
    refine ⟨rfl, ?_⟩; rw [if_neg c3]

set_option maxRecDepth 100000 in
set_option maxHeartbeats 4000000 in
theorem x_skip {X : scr} {M : mem} {t a : Int} (ht : inR t) (ha : inR a) (h5 : 0 ≤ t ∧ t ≤ 5) : At X 0 8 0 [vr 1, vi t, vi a] [] M (qI (fun x M' => M' = M ∧ x = sk (M 2) (M 3) t a)) := by
  have lp : ∀ (n : Nat) (c e : Int) (rc : inR c) (re : inR e) (h0 : 0 ≤ e ∧ e ≤ 3) (hn : (3 - e).toNat = n) (hv : skT (M 2) (M 3) t (3 - e).toNat c = sk (M 2) (M 3) t a), At X 0 8 4 [vr 1, vi t, vi a, vi c, vi e] [] M (qI (fun x M' => M' = M ∧ x = sk (M 2) (M 3) t a)) := by
    intro n
    induction n using Nat.strongRecOn with
    | ind n ih =>
    intro c e rc re h0 hn hv
    refine at_iload dx_8_4 rfl ?_
    refine at_const (x := 3) dx_8_5 rfl ?_
    refine at_cgeR dx_8_6 re (by decide) (fun c6 => ?_) (fun c6 => ?_)
    · skip
      refine at_iload dx_8_95 rfl ?_
      refine at_iretI dx_8_96 rc ?_
      have e3 : e = 3 := by omega
      subst e3
      exact ⟨rfl, hv⟩
    · skip
      refine at_const (x := 3) dx_8_7 rfl ?_
      refine at_iload dx_8_8 rfl ?_
      refine at_mulR dx_8_9 (by constructor <;> omega) (fun r9 => ?_)
      refine at_iload dx_8_10 rfl ?_
      refine at_addR dx_8_11 (by constructor <;> omega) (fun r11 => ?_)
      refine at_istore dx_8_12 ?_
      refine at_iload dx_8_13 rfl ?_
      refine at_const (x := 2) dx_8_14 rfl ?_
      refine at_iload dx_8_15 rfl ?_
      refine at_mulR dx_8_16 (by constructor <;> omega) (fun r16 => ?_)
      refine at_shr dx_8_17 ?_
      refine at_const (x := 1) dx_8_18 rfl ?_
      refine at_and dx_8_19 ?_
      refine at_zeqR dx_8_20 (inR_and _ _) (fun c20 => ?_) (fun c20 => ?_)
      · skip
        refine at_const (x := 0) dx_8_23 rfl ?_
        refine at_istore dx_8_24 ?_
        refine at_iload dx_8_25 rfl ?_
        refine at_const (x := 2) dx_8_26 rfl ?_
        refine at_iload dx_8_27 rfl ?_
        refine at_mulR dx_8_28 (by constructor <;> omega) (fun r28 => ?_)
        refine at_const (x := 1) dx_8_29 rfl ?_
        refine at_addR dx_8_30 (by constructor <;> omega) (fun r30 => ?_)
        refine at_shr dx_8_31 ?_
        refine at_const (x := 1) dx_8_32 rfl ?_
        refine at_and dx_8_33 ?_
        refine at_zeqR dx_8_34 (inR_and _ _) (fun c34 => ?_) (fun c34 => ?_)
        · skip
          refine at_const (x := 0) dx_8_37 rfl ?_
          refine at_istore dx_8_38 ?_
          refine at_iload dx_8_39 rfl ?_
          refine at_zeqR dx_8_40 (by decide) (fun _ => ?_) (fun c => absurd c (by decide))
          refine at_iload dx_8_81 rfl ?_
          refine at_zeqR dx_8_82 (by decide) (fun _ => ?_) (fun c => absurd c (by decide))
          refine at_iincR (y := 1) dx_8_93 rfl rfl (by constructor <;> omega) (fun r93 => ?_)
          refine at_goto dx_8_94 ?_
          refine at_wk (ls := [vr 1, vi _, vi _, vi _, vi _]) ⟨Or.inl rfl, Or.inl rfl, Or.inl rfl, Or.inl rfl, Or.inl rfl, trivial⟩ ?_
          first
          | (exfalso; omega)
          | (refine ih _ (by omega) _ _ (by first | assumption | exact inR_or _ _) r93 (by omega) rfl ?_
             rw [← hv, skT_step (c := c) h0.1 (by omega)]
             refine congrArg (skT (M 2) (M 3) t _) ?_
             unfold gsk
             first
             | (rw [if_pos (by omega)]; done)
             | (rw [if_neg (by omega)]; done))
        · skip
          refine at_const (x := 1) dx_8_35 rfl ?_
          refine at_goto dx_8_36 ?_
          refine at_istore dx_8_38 ?_
          refine at_iload dx_8_39 rfl ?_
          refine at_zeqR dx_8_40 (by decide) (fun _ => ?_) (fun c => absurd c (by decide))
          refine at_iload dx_8_81 rfl ?_
          refine at_zeqR dx_8_82 (by decide) (fun c => absurd c (by decide)) (fun _ => ?_)
          refine at_iload dx_8_83 rfl ?_
          refine at_const (x := 1) dx_8_84 rfl ?_
          refine at_const (x := 2) dx_8_85 rfl ?_
          refine at_iload dx_8_86 rfl ?_
          refine at_mulR dx_8_87 (by constructor <;> omega) (fun r87 => ?_)
          refine at_const (x := 2) dx_8_88 rfl ?_
          refine at_addR dx_8_89 (by constructor <;> omega) (fun r89 => ?_)
          refine at_shl dx_8_90 ?_
          refine at_or dx_8_91 ?_
          refine at_istore dx_8_92 ?_
          refine at_iincR (y := 1) dx_8_93 rfl rfl (by constructor <;> omega) (fun r93 => ?_)
          refine at_goto dx_8_94 ?_
          refine at_wk (ls := [vr 1, vi _, vi _, vi _, vi _]) ⟨Or.inl rfl, Or.inl rfl, Or.inl rfl, Or.inl rfl, Or.inl rfl, trivial⟩ ?_
          first
          | (exfalso; omega)
          | (refine ih _ (by omega) _ _ (by first | assumption | exact inR_or _ _) r93 (by omega) rfl ?_
             rw [← hv, skT_step (c := c) h0.1 (by omega)]
             refine congrArg (skT (M 2) (M 3) t _) ?_
             unfold gsk
             first
             | (rw [if_pos (by omega)]; done)
             | (rw [if_neg (by omega)]; done))
      · skip
        refine at_const (x := 1) dx_8_21 rfl ?_
        refine at_goto dx_8_22 ?_
        refine at_istore dx_8_24 ?_
        refine at_iload dx_8_25 rfl ?_
        refine at_const (x := 2) dx_8_26 rfl ?_
        refine at_iload dx_8_27 rfl ?_
        refine at_mulR dx_8_28 (by constructor <;> omega) (fun r28 => ?_)
        refine at_const (x := 1) dx_8_29 rfl ?_
        refine at_addR dx_8_30 (by constructor <;> omega) (fun r30 => ?_)
        refine at_shr dx_8_31 ?_
        refine at_const (x := 1) dx_8_32 rfl ?_
        refine at_and dx_8_33 ?_
        refine at_zeqR dx_8_34 (inR_and _ _) (fun c34 => ?_) (fun c34 => ?_)
        · skip
          refine at_const (x := 0) dx_8_37 rfl ?_
          refine at_istore dx_8_38 ?_
          refine at_iload dx_8_39 rfl ?_
          refine at_zeqR dx_8_40 (by decide) (fun c => absurd c (by decide)) (fun _ => ?_)
          refine at_iload dx_8_41 rfl ?_
          refine at_zltR dx_8_42 r11 (fun c42 => ?_) (fun c42 => ?_)
          · skip
            refine at_iload dx_8_81 rfl ?_
            refine at_zeqR dx_8_82 (by decide) (fun _ => ?_) (fun c => absurd c (by decide))
            refine at_iincR (y := 1) dx_8_93 rfl rfl (by constructor <;> omega) (fun r93 => ?_)
            refine at_goto dx_8_94 ?_
            refine at_wk (ls := [vr 1, vi _, vi _, vi _, vi _]) ⟨Or.inl rfl, Or.inl rfl, Or.inl rfl, Or.inl rfl, Or.inl rfl, trivial⟩ ?_
            first
            | (exfalso; omega)
            | (refine ih _ (by omega) _ _ (by first | assumption | exact inR_or _ _) r93 (by omega) rfl ?_
               rw [← hv, skT_step (c := c) h0.1 (by omega)]
               refine congrArg (skT (M 2) (M 3) t _) ?_
               unfold gsk
               first
               | (rw [if_pos (by omega)]; done)
               | (rw [if_neg (by omega)]; done))
          · skip
            refine at_iload dx_8_43 rfl ?_
            refine at_aload dx_8_44 rfl ?_
            refine at_getR dx_8_45 lc_1 rfl lt_1_0 ?_
            refine at_alen dx_8_46 lc_2 rfl ln_2 ?_
            refine at_cgeR dx_8_47 r11 (by decide) (fun c47 => ?_) (fun c47 => ?_)
            · skip
              refine at_iload dx_8_81 rfl ?_
              refine at_zeqR dx_8_82 (by decide) (fun _ => ?_) (fun c => absurd c (by decide))
              refine at_iincR (y := 1) dx_8_93 rfl rfl (by constructor <;> omega) (fun r93 => ?_)
              refine at_goto dx_8_94 ?_
              refine at_wk (ls := [vr 1, vi _, vi _, vi _, vi _]) ⟨Or.inl rfl, Or.inl rfl, Or.inl rfl, Or.inl rfl, Or.inl rfl, trivial⟩ ?_
              first
              | (exfalso; omega)
              | (refine ih _ (by omega) _ _ (by first | assumption | exact inR_or _ _) r93 (by omega) rfl ?_
                 rw [← hv, skT_step (c := c) h0.1 (by omega)]
                 refine congrArg (skT (M 2) (M 3) t _) ?_
                 unfold gsk
                 first
                 | (rw [if_pos (by omega)]; done)
                 | (rw [if_neg (by omega)]; done))
            · skip
              refine at_iload dx_8_48 rfl ?_
              refine at_aload dx_8_49 rfl ?_
              refine at_getR dx_8_50 lc_1 rfl lt_1_1 ?_
              refine at_alen dx_8_51 lc_3 rfl ln_3 ?_
              refine at_cgeR dx_8_52 r11 (by decide) (fun c52 => ?_) (fun c52 => ?_)
              · skip
                refine at_iload dx_8_81 rfl ?_
                refine at_zeqR dx_8_82 (by decide) (fun _ => ?_) (fun c => absurd c (by decide))
                refine at_iincR (y := 1) dx_8_93 rfl rfl (by constructor <;> omega) (fun r93 => ?_)
                refine at_goto dx_8_94 ?_
                refine at_wk (ls := [vr 1, vi _, vi _, vi _, vi _]) ⟨Or.inl rfl, Or.inl rfl, Or.inl rfl, Or.inl rfl, Or.inl rfl, trivial⟩ ?_
                first
                | (exfalso; omega)
                | (refine ih _ (by omega) _ _ (by first | assumption | exact inR_or _ _) r93 (by omega) rfl ?_
                   rw [← hv, skT_step (c := c) h0.1 (by omega)]
                   refine congrArg (skT (M 2) (M 3) t _) ?_
                   unfold gsk
                   first
                   | (rw [if_pos (by omega)]; done)
                   | (rw [if_neg (by omega)]; done))
              · skip
                refine at_aload dx_8_53 rfl ?_
                refine at_getR dx_8_54 lc_1 rfl lt_1_1 ?_
                refine at_iload dx_8_55 rfl ?_
                refine at_aldI dx_8_56 lc_3 ln_3 (by first | omega | (simp (disch := omega) only [um_eq, um_k, um_j]; omega)) (by first | omega | (simp (disch := omega) only [um_eq, um_k, um_j]; omega)) (fun r56 => ?_)
                refine at_istore dx_8_57 ?_
                refine at_iload dx_8_58 rfl ?_
                refine at_const (x := 1) dx_8_59 rfl ?_
                refine at_ceqR dx_8_60 r56 (by decide) (fun c60 => ?_) (fun c60 => ?_)
                · skip
                  refine at_const (x := 1) dx_8_64 rfl ?_
                  refine at_goto dx_8_65 ?_
                  refine at_istore dx_8_67 ?_
                  refine at_iload dx_8_68 rfl ?_
                  refine at_zneR dx_8_69 (by decide) (fun c => absurd c (by decide)) (fun _ => ?_)
                  refine at_aload dx_8_70 rfl ?_
                  refine at_getR dx_8_71 lc_1 rfl lt_1_0 ?_
                  refine at_iload dx_8_72 rfl ?_
                  refine at_aldI dx_8_73 lc_2 ln_2 (by first | omega | (simp (disch := omega) only [um_eq, um_k, um_j]; omega)) (by first | omega | (simp (disch := omega) only [um_eq, um_k, um_j]; omega)) (fun r73 => ?_)
                  refine at_zeqR dx_8_74 r73 (fun c74 => ?_) (fun c74 => ?_)
                  · skip
                    refine at_const (x := 1) dx_8_77 rfl ?_
                    refine at_goto dx_8_78 ?_
                    refine at_istore dx_8_80 ?_
                    refine at_iload dx_8_81 rfl ?_
                    refine at_zeqR dx_8_82 (by decide) (fun c => absurd c (by decide)) (fun _ => ?_)
                    refine at_iload dx_8_83 rfl ?_
                    refine at_const (x := 1) dx_8_84 rfl ?_
                    refine at_const (x := 2) dx_8_85 rfl ?_
                    refine at_iload dx_8_86 rfl ?_
                    refine at_mulR dx_8_87 (by constructor <;> omega) (fun r87 => ?_)
                    refine at_const (x := 2) dx_8_88 rfl ?_
                    refine at_addR dx_8_89 (by constructor <;> omega) (fun r89 => ?_)
                    refine at_shl dx_8_90 ?_
                    refine at_or dx_8_91 ?_
                    refine at_istore dx_8_92 ?_
                    refine at_iincR (y := 1) dx_8_93 rfl rfl (by constructor <;> omega) (fun r93 => ?_)
                    refine at_goto dx_8_94 ?_
                    refine at_wk (ls := [vr 1, vi _, vi _, vi _, vi _]) ⟨Or.inl rfl, Or.inl rfl, Or.inl rfl, Or.inl rfl, Or.inl rfl, trivial⟩ ?_
                    first
                    | (exfalso; omega)
                    | (refine ih _ (by omega) _ _ (by first | assumption | exact inR_or _ _) r93 (by omega) rfl ?_
                       rw [← hv, skT_step (c := c) h0.1 (by omega)]
                       refine congrArg (skT (M 2) (M 3) t _) ?_
                       unfold gsk
                       first
                       | (rw [if_pos (by omega)]; done)
                       | (rw [if_neg (by omega)]; done))
                  · skip
                    refine at_iload dx_8_75 rfl ?_
                    refine at_zeqR dx_8_76 (by decide) (fun c => absurd c (by decide)) (fun _ => ?_)
                    refine at_const (x := 1) dx_8_77 rfl ?_
                    refine at_goto dx_8_78 ?_
                    refine at_istore dx_8_80 ?_
                    refine at_iload dx_8_81 rfl ?_
                    refine at_zeqR dx_8_82 (by decide) (fun c => absurd c (by decide)) (fun _ => ?_)
                    refine at_iload dx_8_83 rfl ?_
                    refine at_const (x := 1) dx_8_84 rfl ?_
                    refine at_const (x := 2) dx_8_85 rfl ?_
                    refine at_iload dx_8_86 rfl ?_
                    refine at_mulR dx_8_87 (by constructor <;> omega) (fun r87 => ?_)
                    refine at_const (x := 2) dx_8_88 rfl ?_
                    refine at_addR dx_8_89 (by constructor <;> omega) (fun r89 => ?_)
                    refine at_shl dx_8_90 ?_
                    refine at_or dx_8_91 ?_
                    refine at_istore dx_8_92 ?_
                    refine at_iincR (y := 1) dx_8_93 rfl rfl (by constructor <;> omega) (fun r93 => ?_)
                    refine at_goto dx_8_94 ?_
                    refine at_wk (ls := [vr 1, vi _, vi _, vi _, vi _]) ⟨Or.inl rfl, Or.inl rfl, Or.inl rfl, Or.inl rfl, Or.inl rfl, trivial⟩ ?_
                    first
                    | (exfalso; omega)
                    | (refine ih _ (by omega) _ _ (by first | assumption | exact inR_or _ _) r93 (by omega) rfl ?_
                       rw [← hv, skT_step (c := c) h0.1 (by omega)]
                       refine congrArg (skT (M 2) (M 3) t _) ?_
                       unfold gsk
                       first
                       | (rw [if_pos (by omega)]; done)
                       | (rw [if_neg (by omega)]; done))
                · skip
                  refine at_iload dx_8_61 rfl ?_
                  refine at_const (x := 2) dx_8_62 rfl ?_
                  refine at_cneR dx_8_63 r56 (by decide) (fun c63 => ?_) (fun c63 => ?_)
                  · skip
                    refine at_const (x := 0) dx_8_66 rfl ?_
                    refine at_istore dx_8_67 ?_
                    refine at_iload dx_8_68 rfl ?_
                    refine at_zneR dx_8_69 (by decide) (fun c => absurd c (by decide)) (fun _ => ?_)
                    refine at_aload dx_8_70 rfl ?_
                    refine at_getR dx_8_71 lc_1 rfl lt_1_0 ?_
                    refine at_iload dx_8_72 rfl ?_
                    refine at_aldI dx_8_73 lc_2 ln_2 (by first | omega | (simp (disch := omega) only [um_eq, um_k, um_j]; omega)) (by first | omega | (simp (disch := omega) only [um_eq, um_k, um_j]; omega)) (fun r73 => ?_)
                    refine at_zeqR dx_8_74 r73 (fun c74 => ?_) (fun c74 => ?_)
                    · skip
                      refine at_const (x := 1) dx_8_77 rfl ?_
                      refine at_goto dx_8_78 ?_
                      refine at_istore dx_8_80 ?_
                      refine at_iload dx_8_81 rfl ?_
                      refine at_zeqR dx_8_82 (by decide) (fun c => absurd c (by decide)) (fun _ => ?_)
                      refine at_iload dx_8_83 rfl ?_
                      refine at_const (x := 1) dx_8_84 rfl ?_
                      refine at_const (x := 2) dx_8_85 rfl ?_
                      refine at_iload dx_8_86 rfl ?_
                      refine at_mulR dx_8_87 (by constructor <;> omega) (fun r87 => ?_)
                      refine at_const (x := 2) dx_8_88 rfl ?_
                      refine at_addR dx_8_89 (by constructor <;> omega) (fun r89 => ?_)
                      refine at_shl dx_8_90 ?_
                      refine at_or dx_8_91 ?_
                      refine at_istore dx_8_92 ?_
                      refine at_iincR (y := 1) dx_8_93 rfl rfl (by constructor <;> omega) (fun r93 => ?_)
                      refine at_goto dx_8_94 ?_
                      refine at_wk (ls := [vr 1, vi _, vi _, vi _, vi _]) ⟨Or.inl rfl, Or.inl rfl, Or.inl rfl, Or.inl rfl, Or.inl rfl, trivial⟩ ?_
                      first
                      | (exfalso; omega)
                      | (refine ih _ (by omega) _ _ (by first | assumption | exact inR_or _ _) r93 (by omega) rfl ?_
                         rw [← hv, skT_step (c := c) h0.1 (by omega)]
                         refine congrArg (skT (M 2) (M 3) t _) ?_
                         unfold gsk
                         first
                         | (rw [if_pos (by omega)]; done)
                         | (rw [if_neg (by omega)]; done))
                    · skip
                      refine at_iload dx_8_75 rfl ?_
                      refine at_zeqR dx_8_76 (by decide) (fun _ => ?_) (fun c => absurd c (by decide))
                      refine at_const (x := 0) dx_8_79 rfl ?_
                      refine at_istore dx_8_80 ?_
                      refine at_iload dx_8_81 rfl ?_
                      refine at_zeqR dx_8_82 (by decide) (fun _ => ?_) (fun c => absurd c (by decide))
                      refine at_iincR (y := 1) dx_8_93 rfl rfl (by constructor <;> omega) (fun r93 => ?_)
                      refine at_goto dx_8_94 ?_
                      refine at_wk (ls := [vr 1, vi _, vi _, vi _, vi _]) ⟨Or.inl rfl, Or.inl rfl, Or.inl rfl, Or.inl rfl, Or.inl rfl, trivial⟩ ?_
                      first
                      | (exfalso; omega)
                      | (refine ih _ (by omega) _ _ (by first | assumption | exact inR_or _ _) r93 (by omega) rfl ?_
                         rw [← hv, skT_step (c := c) h0.1 (by omega)]
                         refine congrArg (skT (M 2) (M 3) t _) ?_
                         unfold gsk
                         first
                         | (rw [if_pos (by omega)]; done)
                         | (rw [if_neg (by omega)]; done))
                  · skip
                    refine at_const (x := 1) dx_8_64 rfl ?_
                    refine at_goto dx_8_65 ?_
                    refine at_istore dx_8_67 ?_
                    refine at_iload dx_8_68 rfl ?_
                    refine at_zneR dx_8_69 (by decide) (fun c => absurd c (by decide)) (fun _ => ?_)
                    refine at_aload dx_8_70 rfl ?_
                    refine at_getR dx_8_71 lc_1 rfl lt_1_0 ?_
                    refine at_iload dx_8_72 rfl ?_
                    refine at_aldI dx_8_73 lc_2 ln_2 (by first | omega | (simp (disch := omega) only [um_eq, um_k, um_j]; omega)) (by first | omega | (simp (disch := omega) only [um_eq, um_k, um_j]; omega)) (fun r73 => ?_)
                    refine at_zeqR dx_8_74 r73 (fun c74 => ?_) (fun c74 => ?_)
                    · skip
                      refine at_const (x := 1) dx_8_77 rfl ?_
                      refine at_goto dx_8_78 ?_
                      refine at_istore dx_8_80 ?_
                      refine at_iload dx_8_81 rfl ?_
                      refine at_zeqR dx_8_82 (by decide) (fun c => absurd c (by decide)) (fun _ => ?_)
                      refine at_iload dx_8_83 rfl ?_
                      refine at_const (x := 1) dx_8_84 rfl ?_
                      refine at_const (x := 2) dx_8_85 rfl ?_
                      refine at_iload dx_8_86 rfl ?_
                      refine at_mulR dx_8_87 (by constructor <;> omega) (fun r87 => ?_)
                      refine at_const (x := 2) dx_8_88 rfl ?_
                      refine at_addR dx_8_89 (by constructor <;> omega) (fun r89 => ?_)
                      refine at_shl dx_8_90 ?_
                      refine at_or dx_8_91 ?_
                      refine at_istore dx_8_92 ?_
                      refine at_iincR (y := 1) dx_8_93 rfl rfl (by constructor <;> omega) (fun r93 => ?_)
                      refine at_goto dx_8_94 ?_
                      refine at_wk (ls := [vr 1, vi _, vi _, vi _, vi _]) ⟨Or.inl rfl, Or.inl rfl, Or.inl rfl, Or.inl rfl, Or.inl rfl, trivial⟩ ?_
                      first
                      | (exfalso; omega)
                      | (refine ih _ (by omega) _ _ (by first | assumption | exact inR_or _ _) r93 (by omega) rfl ?_
                         rw [← hv, skT_step (c := c) h0.1 (by omega)]
                         refine congrArg (skT (M 2) (M 3) t _) ?_
                         unfold gsk
                         first
                         | (rw [if_pos (by omega)]; done)
                         | (rw [if_neg (by omega)]; done))
                    · skip
                      refine at_iload dx_8_75 rfl ?_
                      refine at_zeqR dx_8_76 (by decide) (fun c => absurd c (by decide)) (fun _ => ?_)
                      refine at_const (x := 1) dx_8_77 rfl ?_
                      refine at_goto dx_8_78 ?_
                      refine at_istore dx_8_80 ?_
                      refine at_iload dx_8_81 rfl ?_
                      refine at_zeqR dx_8_82 (by decide) (fun c => absurd c (by decide)) (fun _ => ?_)
                      refine at_iload dx_8_83 rfl ?_
                      refine at_const (x := 1) dx_8_84 rfl ?_
                      refine at_const (x := 2) dx_8_85 rfl ?_
                      refine at_iload dx_8_86 rfl ?_
                      refine at_mulR dx_8_87 (by constructor <;> omega) (fun r87 => ?_)
                      refine at_const (x := 2) dx_8_88 rfl ?_
                      refine at_addR dx_8_89 (by constructor <;> omega) (fun r89 => ?_)
                      refine at_shl dx_8_90 ?_
                      refine at_or dx_8_91 ?_
                      refine at_istore dx_8_92 ?_
                      refine at_iincR (y := 1) dx_8_93 rfl rfl (by constructor <;> omega) (fun r93 => ?_)
                      refine at_goto dx_8_94 ?_
                      refine at_wk (ls := [vr 1, vi _, vi _, vi _, vi _]) ⟨Or.inl rfl, Or.inl rfl, Or.inl rfl, Or.inl rfl, Or.inl rfl, trivial⟩ ?_
                      first
                      | (exfalso; omega)
                      | (refine ih _ (by omega) _ _ (by first | assumption | exact inR_or _ _) r93 (by omega) rfl ?_
                         rw [← hv, skT_step (c := c) h0.1 (by omega)]
                         refine congrArg (skT (M 2) (M 3) t _) ?_
                         unfold gsk
                         first
                         | (rw [if_pos (by omega)]; done)
                         | (rw [if_neg (by omega)]; done))
        · skip
          refine at_const (x := 1) dx_8_35 rfl ?_
          refine at_goto dx_8_36 ?_
          refine at_istore dx_8_38 ?_
          refine at_iload dx_8_39 rfl ?_
          refine at_zeqR dx_8_40 (by decide) (fun c => absurd c (by decide)) (fun _ => ?_)
          refine at_iload dx_8_41 rfl ?_
          refine at_zltR dx_8_42 r11 (fun c42 => ?_) (fun c42 => ?_)
          · skip
            refine at_iload dx_8_81 rfl ?_
            refine at_zeqR dx_8_82 (by decide) (fun c => absurd c (by decide)) (fun _ => ?_)
            refine at_iload dx_8_83 rfl ?_
            refine at_const (x := 1) dx_8_84 rfl ?_
            refine at_const (x := 2) dx_8_85 rfl ?_
            refine at_iload dx_8_86 rfl ?_
            refine at_mulR dx_8_87 (by constructor <;> omega) (fun r87 => ?_)
            refine at_const (x := 2) dx_8_88 rfl ?_
            refine at_addR dx_8_89 (by constructor <;> omega) (fun r89 => ?_)
            refine at_shl dx_8_90 ?_
            refine at_or dx_8_91 ?_
            refine at_istore dx_8_92 ?_
            refine at_iincR (y := 1) dx_8_93 rfl rfl (by constructor <;> omega) (fun r93 => ?_)
            refine at_goto dx_8_94 ?_
            refine at_wk (ls := [vr 1, vi _, vi _, vi _, vi _]) ⟨Or.inl rfl, Or.inl rfl, Or.inl rfl, Or.inl rfl, Or.inl rfl, trivial⟩ ?_
            first
            | (exfalso; omega)
            | (refine ih _ (by omega) _ _ (by first | assumption | exact inR_or _ _) r93 (by omega) rfl ?_
               rw [← hv, skT_step (c := c) h0.1 (by omega)]
               refine congrArg (skT (M 2) (M 3) t _) ?_
               unfold gsk
               first
               | (rw [if_pos (by omega)]; done)
               | (rw [if_neg (by omega)]; done))
          · skip
            refine at_iload dx_8_43 rfl ?_
            refine at_aload dx_8_44 rfl ?_
            refine at_getR dx_8_45 lc_1 rfl lt_1_0 ?_
            refine at_alen dx_8_46 lc_2 rfl ln_2 ?_
            refine at_cgeR dx_8_47 r11 (by decide) (fun c47 => ?_) (fun c47 => ?_)
            · skip
              refine at_iload dx_8_81 rfl ?_
              refine at_zeqR dx_8_82 (by decide) (fun c => absurd c (by decide)) (fun _ => ?_)
              refine at_iload dx_8_83 rfl ?_
              refine at_const (x := 1) dx_8_84 rfl ?_
              refine at_const (x := 2) dx_8_85 rfl ?_
              refine at_iload dx_8_86 rfl ?_
              refine at_mulR dx_8_87 (by constructor <;> omega) (fun r87 => ?_)
              refine at_const (x := 2) dx_8_88 rfl ?_
              refine at_addR dx_8_89 (by constructor <;> omega) (fun r89 => ?_)
              refine at_shl dx_8_90 ?_
              refine at_or dx_8_91 ?_
              refine at_istore dx_8_92 ?_
              refine at_iincR (y := 1) dx_8_93 rfl rfl (by constructor <;> omega) (fun r93 => ?_)
              refine at_goto dx_8_94 ?_
              refine at_wk (ls := [vr 1, vi _, vi _, vi _, vi _]) ⟨Or.inl rfl, Or.inl rfl, Or.inl rfl, Or.inl rfl, Or.inl rfl, trivial⟩ ?_
              first
              | (exfalso; omega)
              | (refine ih _ (by omega) _ _ (by first | assumption | exact inR_or _ _) r93 (by omega) rfl ?_
                 rw [← hv, skT_step (c := c) h0.1 (by omega)]
                 refine congrArg (skT (M 2) (M 3) t _) ?_
                 unfold gsk
                 first
                 | (rw [if_pos (by omega)]; done)
                 | (rw [if_neg (by omega)]; done))
            · skip
              refine at_iload dx_8_48 rfl ?_
              refine at_aload dx_8_49 rfl ?_
              refine at_getR dx_8_50 lc_1 rfl lt_1_1 ?_
              refine at_alen dx_8_51 lc_3 rfl ln_3 ?_
              refine at_cgeR dx_8_52 r11 (by decide) (fun c52 => ?_) (fun c52 => ?_)
              · skip
                refine at_iload dx_8_81 rfl ?_
                refine at_zeqR dx_8_82 (by decide) (fun c => absurd c (by decide)) (fun _ => ?_)
                refine at_iload dx_8_83 rfl ?_
                refine at_const (x := 1) dx_8_84 rfl ?_
                refine at_const (x := 2) dx_8_85 rfl ?_
                refine at_iload dx_8_86 rfl ?_
                refine at_mulR dx_8_87 (by constructor <;> omega) (fun r87 => ?_)
                refine at_const (x := 2) dx_8_88 rfl ?_
                refine at_addR dx_8_89 (by constructor <;> omega) (fun r89 => ?_)
                refine at_shl dx_8_90 ?_
                refine at_or dx_8_91 ?_
                refine at_istore dx_8_92 ?_
                refine at_iincR (y := 1) dx_8_93 rfl rfl (by constructor <;> omega) (fun r93 => ?_)
                refine at_goto dx_8_94 ?_
                refine at_wk (ls := [vr 1, vi _, vi _, vi _, vi _]) ⟨Or.inl rfl, Or.inl rfl, Or.inl rfl, Or.inl rfl, Or.inl rfl, trivial⟩ ?_
                first
                | (exfalso; omega)
                | (refine ih _ (by omega) _ _ (by first | assumption | exact inR_or _ _) r93 (by omega) rfl ?_
                   rw [← hv, skT_step (c := c) h0.1 (by omega)]
                   refine congrArg (skT (M 2) (M 3) t _) ?_
                   unfold gsk
                   first
                   | (rw [if_pos (by omega)]; done)
                   | (rw [if_neg (by omega)]; done))
              · skip
                refine at_aload dx_8_53 rfl ?_
                refine at_getR dx_8_54 lc_1 rfl lt_1_1 ?_
                refine at_iload dx_8_55 rfl ?_
                refine at_aldI dx_8_56 lc_3 ln_3 (by first | omega | (simp (disch := omega) only [um_eq, um_k, um_j]; omega)) (by first | omega | (simp (disch := omega) only [um_eq, um_k, um_j]; omega)) (fun r56 => ?_)
                refine at_istore dx_8_57 ?_
                refine at_iload dx_8_58 rfl ?_
                refine at_const (x := 1) dx_8_59 rfl ?_
                refine at_ceqR dx_8_60 r56 (by decide) (fun c60 => ?_) (fun c60 => ?_)
                · skip
                  refine at_const (x := 1) dx_8_64 rfl ?_
                  refine at_goto dx_8_65 ?_
                  refine at_istore dx_8_67 ?_
                  refine at_iload dx_8_68 rfl ?_
                  refine at_zneR dx_8_69 (by decide) (fun _ => ?_) (fun c => absurd c (by decide))
                  refine at_const (x := 1) dx_8_77 rfl ?_
                  refine at_goto dx_8_78 ?_
                  refine at_istore dx_8_80 ?_
                  refine at_iload dx_8_81 rfl ?_
                  refine at_zeqR dx_8_82 (by decide) (fun c => absurd c (by decide)) (fun _ => ?_)
                  refine at_iload dx_8_83 rfl ?_
                  refine at_const (x := 1) dx_8_84 rfl ?_
                  refine at_const (x := 2) dx_8_85 rfl ?_
                  refine at_iload dx_8_86 rfl ?_
                  refine at_mulR dx_8_87 (by constructor <;> omega) (fun r87 => ?_)
                  refine at_const (x := 2) dx_8_88 rfl ?_
                  refine at_addR dx_8_89 (by constructor <;> omega) (fun r89 => ?_)
                  refine at_shl dx_8_90 ?_
                  refine at_or dx_8_91 ?_
                  refine at_istore dx_8_92 ?_
                  refine at_iincR (y := 1) dx_8_93 rfl rfl (by constructor <;> omega) (fun r93 => ?_)
                  refine at_goto dx_8_94 ?_
                  refine at_wk (ls := [vr 1, vi _, vi _, vi _, vi _]) ⟨Or.inl rfl, Or.inl rfl, Or.inl rfl, Or.inl rfl, Or.inl rfl, trivial⟩ ?_
                  first
                  | (exfalso; omega)
                  | (refine ih _ (by omega) _ _ (by first | assumption | exact inR_or _ _) r93 (by omega) rfl ?_
                     rw [← hv, skT_step (c := c) h0.1 (by omega)]
                     refine congrArg (skT (M 2) (M 3) t _) ?_
                     unfold gsk
                     first
                     | (rw [if_pos (by omega)]; done)
                     | (rw [if_neg (by omega)]; done))
                · skip
                  refine at_iload dx_8_61 rfl ?_
                  refine at_const (x := 2) dx_8_62 rfl ?_
                  refine at_cneR dx_8_63 r56 (by decide) (fun c63 => ?_) (fun c63 => ?_)
                  · skip
                    refine at_const (x := 0) dx_8_66 rfl ?_
                    refine at_istore dx_8_67 ?_
                    refine at_iload dx_8_68 rfl ?_
                    refine at_zneR dx_8_69 (by decide) (fun _ => ?_) (fun c => absurd c (by decide))
                    refine at_const (x := 1) dx_8_77 rfl ?_
                    refine at_goto dx_8_78 ?_
                    refine at_istore dx_8_80 ?_
                    refine at_iload dx_8_81 rfl ?_
                    refine at_zeqR dx_8_82 (by decide) (fun c => absurd c (by decide)) (fun _ => ?_)
                    refine at_iload dx_8_83 rfl ?_
                    refine at_const (x := 1) dx_8_84 rfl ?_
                    refine at_const (x := 2) dx_8_85 rfl ?_
                    refine at_iload dx_8_86 rfl ?_
                    refine at_mulR dx_8_87 (by constructor <;> omega) (fun r87 => ?_)
                    refine at_const (x := 2) dx_8_88 rfl ?_
                    refine at_addR dx_8_89 (by constructor <;> omega) (fun r89 => ?_)
                    refine at_shl dx_8_90 ?_
                    refine at_or dx_8_91 ?_
                    refine at_istore dx_8_92 ?_
                    refine at_iincR (y := 1) dx_8_93 rfl rfl (by constructor <;> omega) (fun r93 => ?_)
                    refine at_goto dx_8_94 ?_
                    refine at_wk (ls := [vr 1, vi _, vi _, vi _, vi _]) ⟨Or.inl rfl, Or.inl rfl, Or.inl rfl, Or.inl rfl, Or.inl rfl, trivial⟩ ?_
                    first
                    | (exfalso; omega)
                    | (refine ih _ (by omega) _ _ (by first | assumption | exact inR_or _ _) r93 (by omega) rfl ?_
                       rw [← hv, skT_step (c := c) h0.1 (by omega)]
                       refine congrArg (skT (M 2) (M 3) t _) ?_
                       unfold gsk
                       first
                       | (rw [if_pos (by omega)]; done)
                       | (rw [if_neg (by omega)]; done))
                  · skip
                    refine at_const (x := 1) dx_8_64 rfl ?_
                    refine at_goto dx_8_65 ?_
                    refine at_istore dx_8_67 ?_
                    refine at_iload dx_8_68 rfl ?_
                    refine at_zneR dx_8_69 (by decide) (fun _ => ?_) (fun c => absurd c (by decide))
                    refine at_const (x := 1) dx_8_77 rfl ?_
                    refine at_goto dx_8_78 ?_
                    refine at_istore dx_8_80 ?_
                    refine at_iload dx_8_81 rfl ?_
                    refine at_zeqR dx_8_82 (by decide) (fun c => absurd c (by decide)) (fun _ => ?_)
                    refine at_iload dx_8_83 rfl ?_
                    refine at_const (x := 1) dx_8_84 rfl ?_
                    refine at_const (x := 2) dx_8_85 rfl ?_
                    refine at_iload dx_8_86 rfl ?_
                    refine at_mulR dx_8_87 (by constructor <;> omega) (fun r87 => ?_)
                    refine at_const (x := 2) dx_8_88 rfl ?_
                    refine at_addR dx_8_89 (by constructor <;> omega) (fun r89 => ?_)
                    refine at_shl dx_8_90 ?_
                    refine at_or dx_8_91 ?_
                    refine at_istore dx_8_92 ?_
                    refine at_iincR (y := 1) dx_8_93 rfl rfl (by constructor <;> omega) (fun r93 => ?_)
                    refine at_goto dx_8_94 ?_
                    refine at_wk (ls := [vr 1, vi _, vi _, vi _, vi _]) ⟨Or.inl rfl, Or.inl rfl, Or.inl rfl, Or.inl rfl, Or.inl rfl, trivial⟩ ?_
                    first
                    | (exfalso; omega)
                    | (refine ih _ (by omega) _ _ (by first | assumption | exact inR_or _ _) r93 (by omega) rfl ?_
                       rw [← hv, skT_step (c := c) h0.1 (by omega)]
                       refine congrArg (skT (M 2) (M 3) t _) ?_
                       unfold gsk
                       first
                       | (rw [if_pos (by omega)]; done)
                       | (rw [if_neg (by omega)]; done))
  refine at_iload dx_8_0 rfl ?_
  refine at_istore dx_8_1 ?_
  refine at_const (x := 0) dx_8_2 rfl ?_
  refine at_istore dx_8_3 ?_
  exact lp _ _ 0 ha (by decide) (by decide) rfl rfl

set_option maxRecDepth 100000 in
set_option maxHeartbeats 4000000 in
theorem x_advance {X : scr} {M : mem} {t a k : Int} (ht : inR t) (ha : inR a) (hk : inR k) (h5 : 0 ≤ t ∧ t ≤ 5) : At X 0 7 0 [vr 1, vi t, vi a, vi k] [] M (qI (fun x M' => M' = M ∧ x = ad (M 2) (M 3) t a k)) := by
  have lp : ∀ (n : Nat) (c e : Int) (rc : inR c) (re : inR e) (h0 : 0 ≤ e ∧ e ≤ 3) (hn : (3 - e).toNat = n) (hv : adT (M 2) (M 3) t a k (3 - e).toNat c = adT (M 2) (M 3) t a k 3 0), At X 0 7 4 [vr 1, vi t, vi a, vi k, vi c, vi e] [] M (qI (fun x M' => M' = M ∧ x = ad (M 2) (M 3) t a k)) := by
    intro n
    induction n using Nat.strongRecOn with
    | ind n ih =>
    intro c e rc re h0 hn hv
    refine at_iload dx_7_4 rfl ?_
    refine at_const (x := 3) dx_7_5 rfl ?_
    refine at_cgeR dx_7_6 re (by decide) (fun c6 => ?_) (fun c6 => ?_)
    · skip
      refine at_aload dx_7_89 rfl ?_
      refine at_iload dx_7_90 rfl ?_
      refine at_iload dx_7_91 rfl ?_
      refine at_callVI dx_7_92 rfl lc_1 rfl (x_skip ht rc h5) ?_
      rintro x92 M9 r92 ⟨e9, h92⟩; replace e9 := e9.symm; subst e9
      refine at_iretI dx_7_93 r92 ?_
      have e3 : e = 3 := by omega
      subst e3
      replace hv : c = _ := hv
      subst hv
      exact ⟨rfl, h92⟩
    · skip
      refine at_const (x := 3) dx_7_7 rfl ?_
      refine at_iload dx_7_8 rfl ?_
      refine at_mulR dx_7_9 (by constructor <;> omega) (fun r9 => ?_)
      refine at_iload dx_7_10 rfl ?_
      refine at_addR dx_7_11 (by constructor <;> omega) (fun r11 => ?_)
      refine at_istore dx_7_12 ?_
      refine at_iload dx_7_13 rfl ?_
      refine at_const (x := 2) dx_7_14 rfl ?_
      refine at_iload dx_7_15 rfl ?_
      refine at_mulR dx_7_16 (by constructor <;> omega) (fun r16 => ?_)
      refine at_shr dx_7_17 ?_
      refine at_const (x := 3) dx_7_18 rfl ?_
      refine at_and dx_7_19 ?_
      refine at_zeqR dx_7_20 (inR_and _ _) (fun c20 => ?_) (fun c20 => ?_)
      · skip
        refine at_const (x := 0) dx_7_23 rfl ?_
        refine at_istore dx_7_24 ?_
        refine at_iload dx_7_25 rfl ?_
        refine at_zeqR dx_7_26 (by decide) (fun _ => ?_) (fun c => absurd c (by decide))
        refine at_iincR (y := 1) dx_7_87 rfl rfl (by constructor <;> omega) (fun r87 => ?_)
        refine at_goto dx_7_88 ?_
        refine at_wk (ls := [vr 1, vi _, vi _, vi _, vi _, vi _]) ⟨Or.inl rfl, Or.inl rfl, Or.inl rfl, Or.inl rfl, Or.inl rfl, Or.inl rfl, trivial⟩ ?_
        first
        | (exfalso; omega)
        | (refine ih _ (by omega) _ _ (by first | assumption | exact inR_or _ _) r87 (by omega) rfl ?_
           rw [← hv, adT_step (c := c) h0.1 (by omega)]
           refine congrArg (adT (M 2) (M 3) t a k _) ?_
           unfold gad
           first
           | (rw [if_neg (by omega)]; done)
           | (rw [if_pos (by omega), if_pos (by omega)]; done)
           | (rw [if_pos (by omega), if_neg (by omega)]; done))
      · skip
        refine at_const (x := 1) dx_7_21 rfl ?_
        refine at_goto dx_7_22 ?_
        refine at_istore dx_7_24 ?_
        refine at_iload dx_7_25 rfl ?_
        refine at_zeqR dx_7_26 (by decide) (fun c => absurd c (by decide)) (fun _ => ?_)
        refine at_iload dx_7_27 rfl ?_
        refine at_zltR dx_7_28 r11 (fun c28 => ?_) (fun c28 => ?_)
        · skip
          refine at_iincR (y := 1) dx_7_87 rfl rfl (by constructor <;> omega) (fun r87 => ?_)
          refine at_goto dx_7_88 ?_
          refine at_wk (ls := [vr 1, vi _, vi _, vi _, vi _, vi _]) ⟨Or.inl rfl, Or.inl rfl, Or.inl rfl, Or.inl rfl, Or.inl rfl, Or.inl rfl, trivial⟩ ?_
          first
          | (exfalso; omega)
          | (refine ih _ (by omega) _ _ (by first | assumption | exact inR_or _ _) r87 (by omega) rfl ?_
             rw [← hv, adT_step (c := c) h0.1 (by omega)]
             refine congrArg (adT (M 2) (M 3) t a k _) ?_
             unfold gad
             first
             | (rw [if_neg (by omega)]; done)
             | (rw [if_pos (by omega), if_pos (by omega)]; done)
             | (rw [if_pos (by omega), if_neg (by omega)]; done))
        · skip
          refine at_iload dx_7_29 rfl ?_
          refine at_aload dx_7_30 rfl ?_
          refine at_getR dx_7_31 lc_1 rfl lt_1_0 ?_
          refine at_alen dx_7_32 lc_2 rfl ln_2 ?_
          refine at_cgeR dx_7_33 r11 (by decide) (fun c33 => ?_) (fun c33 => ?_)
          · skip
            refine at_iincR (y := 1) dx_7_87 rfl rfl (by constructor <;> omega) (fun r87 => ?_)
            refine at_goto dx_7_88 ?_
            refine at_wk (ls := [vr 1, vi _, vi _, vi _, vi _, vi _]) ⟨Or.inl rfl, Or.inl rfl, Or.inl rfl, Or.inl rfl, Or.inl rfl, Or.inl rfl, trivial⟩ ?_
            first
            | (exfalso; omega)
            | (refine ih _ (by omega) _ _ (by first | assumption | exact inR_or _ _) r87 (by omega) rfl ?_
               rw [← hv, adT_step (c := c) h0.1 (by omega)]
               refine congrArg (adT (M 2) (M 3) t a k _) ?_
               unfold gad
               first
               | (rw [if_neg (by omega)]; done)
               | (rw [if_pos (by omega), if_pos (by omega)]; done)
               | (rw [if_pos (by omega), if_neg (by omega)]; done))
          · skip
            refine at_iload dx_7_34 rfl ?_
            refine at_aload dx_7_35 rfl ?_
            refine at_getR dx_7_36 lc_1 rfl lt_1_1 ?_
            refine at_alen dx_7_37 lc_3 rfl ln_3 ?_
            refine at_cgeR dx_7_38 r11 (by decide) (fun c38 => ?_) (fun c38 => ?_)
            · skip
              refine at_iincR (y := 1) dx_7_87 rfl rfl (by constructor <;> omega) (fun r87 => ?_)
              refine at_goto dx_7_88 ?_
              refine at_wk (ls := [vr 1, vi _, vi _, vi _, vi _, vi _]) ⟨Or.inl rfl, Or.inl rfl, Or.inl rfl, Or.inl rfl, Or.inl rfl, Or.inl rfl, trivial⟩ ?_
              first
              | (exfalso; omega)
              | (refine ih _ (by omega) _ _ (by first | assumption | exact inR_or _ _) r87 (by omega) rfl ?_
                 rw [← hv, adT_step (c := c) h0.1 (by omega)]
                 refine congrArg (adT (M 2) (M 3) t a k _) ?_
                 unfold gad
                 first
                 | (rw [if_neg (by omega)]; done)
                 | (rw [if_pos (by omega), if_pos (by omega)]; done)
                 | (rw [if_pos (by omega), if_neg (by omega)]; done))
            · skip
              refine at_aload dx_7_39 rfl ?_
              refine at_getR dx_7_40 lc_1 rfl lt_1_0 ?_
              refine at_iload dx_7_41 rfl ?_
              refine at_aldI dx_7_42 lc_2 ln_2 (by first | omega | (simp (disch := omega) only [um_eq, um_k, um_j]; omega)) (by first | omega | (simp (disch := omega) only [um_eq, um_k, um_j]; omega)) (fun r42 => ?_)
              refine at_iload dx_7_43 rfl ?_
              refine at_shr dx_7_44 ?_
              refine at_const (x := 1) dx_7_45 rfl ?_
              refine at_and dx_7_46 ?_
              refine at_zeqR dx_7_47 (inR_and _ _) (fun c47 => ?_) (fun c47 => ?_)
              · skip
                refine at_const (x := 0) dx_7_50 rfl ?_
                refine at_istore dx_7_51 ?_
                refine at_aload dx_7_52 rfl ?_
                refine at_getR dx_7_53 lc_1 rfl lt_1_1 ?_
                refine at_iload dx_7_54 rfl ?_
                refine at_aldI dx_7_55 lc_3 ln_3 (by first | omega | (simp (disch := omega) only [um_eq, um_k, um_j]; omega)) (by first | omega | (simp (disch := omega) only [um_eq, um_k, um_j]; omega)) (fun r55 => ?_)
                refine at_istore dx_7_56 ?_
                refine at_iload dx_7_57 rfl ?_
                refine at_const (x := 2) dx_7_58 rfl ?_
                refine at_ceqR dx_7_59 r55 (by decide) (fun c59 => ?_) (fun c59 => ?_)
                · skip
                  refine at_const (x := 1) dx_7_63 rfl ?_
                  refine at_goto dx_7_64 ?_
                  refine at_istore dx_7_66 ?_
                  refine at_iload dx_7_67 rfl ?_
                  refine at_zeqR dx_7_68 (by decide) (fun _ => ?_) (fun c => absurd c (by decide))
                  refine at_iincR (y := 1) dx_7_87 rfl rfl (by constructor <;> omega) (fun r87 => ?_)
                  refine at_goto dx_7_88 ?_
                  refine at_wk (ls := [vr 1, vi _, vi _, vi _, vi _, vi _]) ⟨Or.inl rfl, Or.inl rfl, Or.inl rfl, Or.inl rfl, Or.inl rfl, Or.inl rfl, trivial⟩ ?_
                  first
                  | (exfalso; omega)
                  | (refine ih _ (by omega) _ _ (by first | assumption | exact inR_or _ _) r87 (by omega) rfl ?_
                     rw [← hv, adT_step (c := c) h0.1 (by omega)]
                     refine congrArg (adT (M 2) (M 3) t a k _) ?_
                     unfold gad
                     first
                     | (rw [if_neg (by omega)]; done)
                     | (rw [if_pos (by omega), if_pos (by omega)]; done)
                     | (rw [if_pos (by omega), if_neg (by omega)]; done))
                · skip
                  refine at_iload dx_7_60 rfl ?_
                  refine at_const (x := 3) dx_7_61 rfl ?_
                  refine at_cneR dx_7_62 r55 (by decide) (fun c62 => ?_) (fun c62 => ?_)
                  · skip
                    refine at_const (x := 0) dx_7_65 rfl ?_
                    refine at_istore dx_7_66 ?_
                    refine at_iload dx_7_67 rfl ?_
                    refine at_zeqR dx_7_68 (by decide) (fun _ => ?_) (fun c => absurd c (by decide))
                    refine at_iincR (y := 1) dx_7_87 rfl rfl (by constructor <;> omega) (fun r87 => ?_)
                    refine at_goto dx_7_88 ?_
                    refine at_wk (ls := [vr 1, vi _, vi _, vi _, vi _, vi _]) ⟨Or.inl rfl, Or.inl rfl, Or.inl rfl, Or.inl rfl, Or.inl rfl, Or.inl rfl, trivial⟩ ?_
                    first
                    | (exfalso; omega)
                    | (refine ih _ (by omega) _ _ (by first | assumption | exact inR_or _ _) r87 (by omega) rfl ?_
                       rw [← hv, adT_step (c := c) h0.1 (by omega)]
                       refine congrArg (adT (M 2) (M 3) t a k _) ?_
                       unfold gad
                       first
                       | (rw [if_neg (by omega)]; done)
                       | (rw [if_pos (by omega), if_pos (by omega)]; done)
                       | (rw [if_pos (by omega), if_neg (by omega)]; done))
                  · skip
                    refine at_const (x := 1) dx_7_63 rfl ?_
                    refine at_goto dx_7_64 ?_
                    refine at_istore dx_7_66 ?_
                    refine at_iload dx_7_67 rfl ?_
                    refine at_zeqR dx_7_68 (by decide) (fun _ => ?_) (fun c => absurd c (by decide))
                    refine at_iincR (y := 1) dx_7_87 rfl rfl (by constructor <;> omega) (fun r87 => ?_)
                    refine at_goto dx_7_88 ?_
                    refine at_wk (ls := [vr 1, vi _, vi _, vi _, vi _, vi _]) ⟨Or.inl rfl, Or.inl rfl, Or.inl rfl, Or.inl rfl, Or.inl rfl, Or.inl rfl, trivial⟩ ?_
                    first
                    | (exfalso; omega)
                    | (refine ih _ (by omega) _ _ (by first | assumption | exact inR_or _ _) r87 (by omega) rfl ?_
                       rw [← hv, adT_step (c := c) h0.1 (by omega)]
                       refine congrArg (adT (M 2) (M 3) t a k _) ?_
                       unfold gad
                       first
                       | (rw [if_neg (by omega)]; done)
                       | (rw [if_pos (by omega), if_pos (by omega)]; done)
                       | (rw [if_pos (by omega), if_neg (by omega)]; done))
              · skip
                refine at_const (x := 1) dx_7_48 rfl ?_
                refine at_goto dx_7_49 ?_
                refine at_istore dx_7_51 ?_
                refine at_aload dx_7_52 rfl ?_
                refine at_getR dx_7_53 lc_1 rfl lt_1_1 ?_
                refine at_iload dx_7_54 rfl ?_
                refine at_aldI dx_7_55 lc_3 ln_3 (by first | omega | (simp (disch := omega) only [um_eq, um_k, um_j]; omega)) (by first | omega | (simp (disch := omega) only [um_eq, um_k, um_j]; omega)) (fun r55 => ?_)
                refine at_istore dx_7_56 ?_
                refine at_iload dx_7_57 rfl ?_
                refine at_const (x := 2) dx_7_58 rfl ?_
                refine at_ceqR dx_7_59 r55 (by decide) (fun c59 => ?_) (fun c59 => ?_)
                · skip
                  refine at_const (x := 1) dx_7_63 rfl ?_
                  refine at_goto dx_7_64 ?_
                  refine at_istore dx_7_66 ?_
                  refine at_iload dx_7_67 rfl ?_
                  refine at_zeqR dx_7_68 (by decide) (fun c => absurd c (by decide)) (fun _ => ?_)
                  refine at_iload dx_7_69 rfl ?_
                  refine at_const (x := 1) dx_7_70 rfl ?_
                  refine at_iload dx_7_71 rfl ?_
                  refine at_zeqR dx_7_72 (by decide) (fun c => absurd c (by decide)) (fun _ => ?_)
                  refine at_const (x := 2) dx_7_73 rfl ?_
                  refine at_iload dx_7_74 rfl ?_
                  refine at_mulR dx_7_75 (by constructor <;> omega) (fun r75 => ?_)
                  refine at_const (x := 1) dx_7_76 rfl ?_
                  refine at_addR dx_7_77 (by constructor <;> omega) (fun r77 => ?_)
                  refine at_goto dx_7_78 ?_
                  refine at_shl dx_7_84 ?_
                  refine at_or dx_7_85 ?_
                  refine at_istore dx_7_86 ?_
                  refine at_iincR (y := 1) dx_7_87 rfl rfl (by constructor <;> omega) (fun r87 => ?_)
                  refine at_goto dx_7_88 ?_
                  refine at_wk (ls := [vr 1, vi _, vi _, vi _, vi _, vi _]) ⟨Or.inl rfl, Or.inl rfl, Or.inl rfl, Or.inl rfl, Or.inl rfl, Or.inl rfl, trivial⟩ ?_
                  first
                  | (exfalso; omega)
                  | (refine ih _ (by omega) _ _ (by first | assumption | exact inR_or _ _) r87 (by omega) rfl ?_
                     rw [← hv, adT_step (c := c) h0.1 (by omega)]
                     refine congrArg (adT (M 2) (M 3) t a k _) ?_
                     unfold gad
                     first
                     | (rw [if_neg (by omega)]; done)
                     | (rw [if_pos (by omega), if_pos (by omega)]; done)
                     | (rw [if_pos (by omega), if_neg (by omega)]; done))
                · skip
                  refine at_iload dx_7_60 rfl ?_
                  refine at_const (x := 3) dx_7_61 rfl ?_
                  refine at_cneR dx_7_62 r55 (by decide) (fun c62 => ?_) (fun c62 => ?_)
                  · skip
                    refine at_const (x := 0) dx_7_65 rfl ?_
                    refine at_istore dx_7_66 ?_
                    refine at_iload dx_7_67 rfl ?_
                    refine at_zeqR dx_7_68 (by decide) (fun c => absurd c (by decide)) (fun _ => ?_)
                    refine at_iload dx_7_69 rfl ?_
                    refine at_const (x := 1) dx_7_70 rfl ?_
                    refine at_iload dx_7_71 rfl ?_
                    refine at_zeqR dx_7_72 (by decide) (fun _ => ?_) (fun c => absurd c (by decide))
                    refine at_const (x := 2) dx_7_79 rfl ?_
                    refine at_iload dx_7_80 rfl ?_
                    refine at_mulR dx_7_81 (by constructor <;> omega) (fun r81 => ?_)
                    refine at_const (x := 2) dx_7_82 rfl ?_
                    refine at_addR dx_7_83 (by constructor <;> omega) (fun r83 => ?_)
                    refine at_shl dx_7_84 ?_
                    refine at_or dx_7_85 ?_
                    refine at_istore dx_7_86 ?_
                    refine at_iincR (y := 1) dx_7_87 rfl rfl (by constructor <;> omega) (fun r87 => ?_)
                    refine at_goto dx_7_88 ?_
                    refine at_wk (ls := [vr 1, vi _, vi _, vi _, vi _, vi _]) ⟨Or.inl rfl, Or.inl rfl, Or.inl rfl, Or.inl rfl, Or.inl rfl, Or.inl rfl, trivial⟩ ?_
                    first
                    | (exfalso; omega)
                    | (refine ih _ (by omega) _ _ (by first | assumption | exact inR_or _ _) r87 (by omega) rfl ?_
                       rw [← hv, adT_step (c := c) h0.1 (by omega)]
                       refine congrArg (adT (M 2) (M 3) t a k _) ?_
                       unfold gad
                       first
                       | (rw [if_neg (by omega)]; done)
                       | (rw [if_pos (by omega), if_pos (by omega)]; done)
                       | (rw [if_pos (by omega), if_neg (by omega)]; done))
                  · skip
                    refine at_const (x := 1) dx_7_63 rfl ?_
                    refine at_goto dx_7_64 ?_
                    refine at_istore dx_7_66 ?_
                    refine at_iload dx_7_67 rfl ?_
                    refine at_zeqR dx_7_68 (by decide) (fun c => absurd c (by decide)) (fun _ => ?_)
                    refine at_iload dx_7_69 rfl ?_
                    refine at_const (x := 1) dx_7_70 rfl ?_
                    refine at_iload dx_7_71 rfl ?_
                    refine at_zeqR dx_7_72 (by decide) (fun c => absurd c (by decide)) (fun _ => ?_)
                    refine at_const (x := 2) dx_7_73 rfl ?_
                    refine at_iload dx_7_74 rfl ?_
                    refine at_mulR dx_7_75 (by constructor <;> omega) (fun r75 => ?_)
                    refine at_const (x := 1) dx_7_76 rfl ?_
                    refine at_addR dx_7_77 (by constructor <;> omega) (fun r77 => ?_)
                    refine at_goto dx_7_78 ?_
                    refine at_shl dx_7_84 ?_
                    refine at_or dx_7_85 ?_
                    refine at_istore dx_7_86 ?_
                    refine at_iincR (y := 1) dx_7_87 rfl rfl (by constructor <;> omega) (fun r87 => ?_)
                    refine at_goto dx_7_88 ?_
                    refine at_wk (ls := [vr 1, vi _, vi _, vi _, vi _, vi _]) ⟨Or.inl rfl, Or.inl rfl, Or.inl rfl, Or.inl rfl, Or.inl rfl, Or.inl rfl, trivial⟩ ?_
                    first
                    | (exfalso; omega)
                    | (refine ih _ (by omega) _ _ (by first | assumption | exact inR_or _ _) r87 (by omega) rfl ?_
                       rw [← hv, adT_step (c := c) h0.1 (by omega)]
                       refine congrArg (adT (M 2) (M 3) t a k _) ?_
                       unfold gad
                       first
                       | (rw [if_neg (by omega)]; done)
                       | (rw [if_pos (by omega), if_pos (by omega)]; done)
                       | (rw [if_pos (by omega), if_neg (by omega)]; done))
  refine at_const (x := 0) dx_7_0 rfl ?_
  refine at_istore dx_7_1 ?_
  refine at_const (x := 0) dx_7_2 rfl ?_
  refine at_istore dx_7_3 ?_
  exact lp _ _ 0 (by decide) (by decide) (by decide) rfl rfl

set_option maxRecDepth 100000 in
set_option maxHeartbeats 4000000 in
theorem x_accepts {X : scr} {M : mem} {b : Nat} (hb : ly_c b = 5) (hI : tkI M b) : At X 0 5 0 [vr 1, vr b] [] M (qI (fun x M' => fr (fun q => q = 4 ∨ q = 5) M M' ∧ (x = 0 ∨ x = 1) ∧ (x = 1 ↔ acc (M 2) (M 3) (tk M b)))) := by
  have eb := tk_e hb
  have el : ((tk M b).length : Int) = M b 1 := by rw [tk_len]; omega
  have lp : ∀ (n : Nat) (d i : Int) (M1 : mem) (rd : inR d) (ri : inR i) (h0 : 0 ≤ d ∧ d ≤ i) (hi : 0 ≤ i ∧ i ≤ M b 1) (hn : (M b 1 - i).toNat = n) (h1 : fr (fun q => q = 4 ∨ q = 5) M M1) (hty : ∀ j : Int, 0 ≤ j → j ≤ d → 0 ≤ M1 4 j ∧ M1 4 j ≤ 5) (hv : accR (M 2) (M 3) ((tk M b).take i.toNat) = some (stkL 4 5 M1 d.toNat)), At X 0 5 17 [vr 1, vr b, vi d, vi i] [] M1 (qI (fun x M' => fr (fun q => q = 4 ∨ q = 5) M M' ∧ (x = 0 ∨ x = 1) ∧ (x = 1 ↔ acc (M 2) (M 3) (tk M b)))) := by
    intro n
    induction n using Nat.strongRecOn with
    | ind n ih =>
    intro d i M1 rd ri h0 hi hn h1 hty hv
    have hb1 : tkI M1 b := tkI_fr h1 (by (try dsimp only [blk]); first | done | omega) hI
    have eb1 : M1 b 1 = M b 1 := h1 b 1 (by (try dsimp only [blk]); first | done | omega)
    have etk : tk M1 b = tk M b := tk_fr h1 (by (try dsimp only [blk]); first | done | omega) (by (try dsimp only [blk]); first | done | omega)
    have g2 : M1 2 = M 2 := funext (fun j => h1 2 j (by (try dsimp only [blk]); first | done | omega))
    have g3 : M1 3 = M 3 := funext (fun j => h1 3 j (by (try dsimp only [blk]); first | done | omega))
    have hst : i < M b 1 → accR (M 2) (M 3) ((tk M b).take (i + 1).toNat) = astp (M 2) (M 3) (some (stkL 4 5 M1 d.toNat)) ((tk M b).getD i.toNat 0) := fun hh => by
      rw [show (i + 1).toNat = i.toNat + 1 by omega, accR_take (by omega), hv]
    refine at_iload dx_5_17 rfl ?_
    refine at_aload dx_5_18 rfl ?_
    refine at_getI 1 dx_5_19 hb rfl rfl (fun r19 => ?_)
    refine at_cgeR dx_5_20 ri r19 (fun c20 => ?_) (fun c20 => ?_)
    · skip
      refine at_iload dx_5_96 rfl ?_
      refine at_zneR dx_5_97 rd (fun c97 => ?_) (fun c97 => ?_)
      · skip
        refine at_const (x := 0) dx_5_106 rfl ?_
        refine at_zretI dx_5_107 (Or.inl rfl) ?_
        have hi2 : (tk M b).take i.toNat = tk M b := List.take_of_length_le (by omega)
        rw [hi2] at hv
        refine ⟨h1, by first | exact Or.inl rfl | exact Or.inr rfl, ?_⟩
        rw [acc_end h0.1 hv]
        first | omega | (split at h102 <;> omega)
      · skip
        refine at_aload dx_5_98 rfl ?_
        refine at_getR dx_5_99 lc_1 rfl lt_1_3 ?_
        refine at_const (x := 0) dx_5_100 rfl ?_
        refine at_aldI dx_5_101 lc_5 ln_5 (by decide) (by decide) (fun r101 => ?_)
        refine at_callSI dx_5_102 rfl rfl (x_isEnd r101) ?_
        rintro x102 M9 r102 ⟨e9, h102⟩; replace e9 := e9.symm; subst e9
        refine at_zeqR dx_5_103 r102 (fun c103 => ?_) (fun c103 => ?_)
        · skip
          refine at_const (x := 0) dx_5_106 rfl ?_
          refine at_zretI dx_5_107 (Or.inl rfl) ?_
          have hi2 : (tk M b).take i.toNat = tk M b := List.take_of_length_le (by omega)
          rw [hi2] at hv
          refine ⟨h1, by first | exact Or.inl rfl | exact Or.inr rfl, ?_⟩
          rw [acc_end h0.1 hv]
          first | omega | (split at h102 <;> omega)
        · skip
          refine at_const (x := 1) dx_5_104 rfl ?_
          refine at_goto dx_5_105 ?_
          refine at_zretI dx_5_107 (Or.inr rfl) ?_
          have hi2 : (tk M b).take i.toNat = tk M b := List.take_of_length_le (by omega)
          rw [hi2] at hv
          refine ⟨h1, by first | exact Or.inl rfl | exact Or.inr rfl, ?_⟩
          rw [acc_end h0.1 hv]
          first | omega | (split at h102 <;> omega)
    · skip
      refine at_aload dx_5_21 rfl ?_
      refine at_iload dx_5_22 rfl ?_
      refine at_callVI dx_5_23 rfl hb rfl (c_at hb ri hb1) ?_
      rintro x23 M9 r23 ⟨e9, h23⟩; replace e9 := e9.symm; subst e9
      have hx : x23 = (tk M b).getD i.toNat 0 := by rw [h23, etk]; exact atL_get hi.1 (by omega)
      refine at_istore dx_5_24 ?_
      refine at_iload dx_5_25 rfl ?_
      refine at_zneR dx_5_26 r23 (fun c26 => ?_) (fun c26 => ?_)
      · skip
        refine at_iload dx_5_39 rfl ?_
        refine at_callNI dx_5_40 rfl rfl (c_isOpening r23) ?_
        rintro x40 M9 r40 ⟨e9, h40⟩; replace e9 := e9.symm; subst e9
        refine at_zeqR dx_5_41 r40 (fun c41 => ?_) (fun c41 => ?_)
        · skip
          refine at_const (x := 6) dx_5_44 rfl ?_
          refine at_istore dx_5_45 ?_
          refine at_aload dx_5_46 rfl ?_
          refine at_getR dx_5_47 lc_1 rfl lt_1_3 ?_
          refine at_iload dx_5_48 rfl ?_
          refine at_aload dx_5_49 rfl ?_
          refine at_aload dx_5_50 rfl ?_
          refine at_getR dx_5_51 lc_1 rfl lt_1_2 ?_
          refine at_iload dx_5_52 rfl ?_
          refine at_aldI dx_5_53 lc_4 ln_4 (by first | omega | (simp (disch := omega) only [um_eq, um_k, um_j]; omega)) (by first | omega | (simp (disch := omega) only [um_eq, um_k, um_j]; omega)) (fun r53 => ?_)
          refine at_aload dx_5_54 rfl ?_
          refine at_getR dx_5_55 lc_1 rfl lt_1_3 ?_
          refine at_iload dx_5_56 rfl ?_
          refine at_aldI dx_5_57 lc_5 ln_5 (by first | omega | (simp (disch := omega) only [um_eq, um_k, um_j]; omega)) (by first | omega | (simp (disch := omega) only [um_eq, um_k, um_j]; omega)) (fun r57 => ?_)
          refine at_iload dx_5_58 rfl ?_
          refine at_callVI dx_5_59 rfl lc_1 rfl (x_advance r53 r57 (by decide) (hty d h0.1 (Int.le_refl d))) ?_
          rintro x59 M9 r59 ⟨e9, h59⟩; replace e9 := e9.symm; subst e9
          refine at_astI dx_5_60 lc_5 ln_5 (by first | omega | (simp (disch := omega) only [um_eq, um_k, um_j]; omega)) (by first | omega | (simp (disch := omega) only [um_eq, um_k, um_j]; omega)) r59 ?_
          refine at_aload dx_5_61 rfl ?_
          refine at_getR dx_5_62 lc_1 rfl lt_1_3 ?_
          refine at_iload dx_5_63 rfl ?_
          refine at_aldI dx_5_64 lc_5 ln_5 (by first | omega | (simp (disch := omega) only [um_eq, um_k, um_j]; omega)) (by first | omega | (simp (disch := omega) only [um_eq, um_k, um_j]; omega)) (fun r64 => ?_)
          refine at_zneR dx_5_65 r64 (fun c65 => ?_) (fun c65 => ?_)
          · skip
            refine at_iload dx_5_68 rfl ?_
            refine at_const (x := 6) dx_5_69 rfl ?_
            refine at_ceqR dx_5_70 (by decide) (by decide) (fun _ => ?_) (fun c => absurd c (by decide))
            refine at_iincR (y := 1) dx_5_94 rfl rfl (by constructor <;> omega) (fun r94 => ?_)
            refine at_goto dx_5_95 ?_
            refine at_wk (ls := [vr 1, vr b, vi _, vi _]) ⟨Or.inl rfl, Or.inl rfl, Or.inl rfl, Or.inl rfl, trivial⟩ ?_
            first
            | (exfalso; omega)
            | (refine ih _ (by omega) (d + -1) (i + 1) M1 (by assumption) r94 (by omega) (by omega) rfl h1 (fun j h2 h3 => hty j h2 (by omega)) ?_
               rw [hst (by omega), ← hx, astp_close h0.1 (by assumption), if_neg (by split at h33 <;> omega), show d + -1 = d - 1 by omega]
               done)
            | (have hn5 : ¬ (1 ≤ x23 ∧ x23 ≤ 5) := fun hh => by rw [if_pos hh] at h40; omega
               rw [um_eq] at c65
               rw [g2, g3] at h59
               refine ih _ (by omega) d (i + 1) _ rd r94 (by omega) (by omega) rfl (fr_ums h1 (by (try dsimp only [blk]); first | done | omega)) (fun j h2 h3 => by rw [um_k (by decide)]; exact hty j h2 h3) ?_
               rw [hst (by omega), ← hx, astp_char h0.1 (by assumption) hn5 (by rw [← h59]; exact c65), stkL_set h0.1 (by decide), h59]
               done)
            | (have hy5 : 1 ≤ x23 ∧ x23 ≤ 5 := by split at h40 <;> omega
               rw [um_eq] at c65
               have e2 : ∀ v w : Int, (um (um M1 5 d v) 4 (d + 1) w) 2 = M 2 := fun v w => funext (fun j => by rw [um_k (by decide), um_k (by decide), g2])
               have e3 : ∀ v w : Int, (um (um M1 5 d v) 4 (d + 1) w) 3 = M 3 := fun v w => funext (fun j => by rw [um_k (by decide), um_k (by decide), g3])
               rw [e2, e3] at h92
               rw [g2, g3] at h59
               refine ih _ (by omega) (d + 1) (i + 1) _ (by assumption) r94 (by omega) (by omega) rfl (fr_ums (fr_ums (fr_ums h1 (by (try dsimp only [blk]); first | done | omega)) (by (try dsimp only [blk]); first | done | omega)) (by (try dsimp only [blk]); first | done | omega)) (fun j h2 h3 => ?_) ?_
               · rw [um_k (by decide)]
                 by_cases ej : j = d + 1
                 · subst ej; rw [um_eq]; omega
                 · rw [um_j ej, um_k (by decide)]; exact hty j h2 (by omega)
               · rw [hst (by omega), ← hx, astp_open h0.1 hy5 (by rw [← h59]; exact c65), stkL_push h0.1 (by decide), stkL_set h0.1 (by decide), h59, h92]
                 done)
          · skip
            refine at_const (x := 0) dx_5_66 rfl ?_
            refine at_zretI dx_5_67 (Or.inl rfl) ?_
            rw [um_eq] at c65
            rw [g2, g3] at h59
            refine ⟨fr_ums h1 (by (try dsimp only [blk]); first | done | omega), Or.inl rfl, fun e => absurd e (by decide), fun e => absurd e (acc_none (accR_none (i + 1).toNat ?_))⟩
            rw [hst (by omega), ← hx]
            refine astp_kind h0.1 (by assumption) ?_
            first
            | (rw [if_pos (by split at h40 <;> omega), ← h59]; exact c65)
            | (rw [if_neg (fun hh => by rw [if_pos hh] at h40; omega), ← h59]; exact c65)
        · skip
          refine at_iload dx_5_42 rfl ?_
          refine at_goto dx_5_43 ?_
          refine at_istore dx_5_45 ?_
          refine at_aload dx_5_46 rfl ?_
          refine at_getR dx_5_47 lc_1 rfl lt_1_3 ?_
          refine at_iload dx_5_48 rfl ?_
          refine at_aload dx_5_49 rfl ?_
          refine at_aload dx_5_50 rfl ?_
          refine at_getR dx_5_51 lc_1 rfl lt_1_2 ?_
          refine at_iload dx_5_52 rfl ?_
          refine at_aldI dx_5_53 lc_4 ln_4 (by first | omega | (simp (disch := omega) only [um_eq, um_k, um_j]; omega)) (by first | omega | (simp (disch := omega) only [um_eq, um_k, um_j]; omega)) (fun r53 => ?_)
          refine at_aload dx_5_54 rfl ?_
          refine at_getR dx_5_55 lc_1 rfl lt_1_3 ?_
          refine at_iload dx_5_56 rfl ?_
          refine at_aldI dx_5_57 lc_5 ln_5 (by first | omega | (simp (disch := omega) only [um_eq, um_k, um_j]; omega)) (by first | omega | (simp (disch := omega) only [um_eq, um_k, um_j]; omega)) (fun r57 => ?_)
          refine at_iload dx_5_58 rfl ?_
          refine at_callVI dx_5_59 rfl lc_1 rfl (x_advance r53 r57 r23 (hty d h0.1 (Int.le_refl d))) ?_
          rintro x59 M9 r59 ⟨e9, h59⟩; replace e9 := e9.symm; subst e9
          refine at_astI dx_5_60 lc_5 ln_5 (by first | omega | (simp (disch := omega) only [um_eq, um_k, um_j]; omega)) (by first | omega | (simp (disch := omega) only [um_eq, um_k, um_j]; omega)) r59 ?_
          refine at_aload dx_5_61 rfl ?_
          refine at_getR dx_5_62 lc_1 rfl lt_1_3 ?_
          refine at_iload dx_5_63 rfl ?_
          refine at_aldI dx_5_64 lc_5 ln_5 (by first | omega | (simp (disch := omega) only [um_eq, um_k, um_j]; omega)) (by first | omega | (simp (disch := omega) only [um_eq, um_k, um_j]; omega)) (fun r64 => ?_)
          refine at_zneR dx_5_65 r64 (fun c65 => ?_) (fun c65 => ?_)
          · skip
            refine at_iload dx_5_68 rfl ?_
            refine at_const (x := 6) dx_5_69 rfl ?_
            refine at_ceqR dx_5_70 r23 (by decide) (fun c70 => ?_) (fun c70 => ?_)
            · skip
              refine at_iincR (y := 1) dx_5_94 rfl rfl (by constructor <;> omega) (fun r94 => ?_)
              refine at_goto dx_5_95 ?_
              refine at_wk (ls := [vr 1, vr b, vi _, vi _]) ⟨Or.inl rfl, Or.inl rfl, Or.inl rfl, Or.inl rfl, trivial⟩ ?_
              first
              | (exfalso; omega)
              | (refine ih _ (by omega) (d + -1) (i + 1) M1 (by assumption) r94 (by omega) (by omega) rfl h1 (fun j h2 h3 => hty j h2 (by omega)) ?_
                 rw [hst (by omega), ← hx, astp_close h0.1 (by assumption), if_neg (by split at h33 <;> omega), show d + -1 = d - 1 by omega]
                 done)
              | (have hn5 : ¬ (1 ≤ x23 ∧ x23 ≤ 5) := fun hh => by rw [if_pos hh] at h40; omega
                 rw [um_eq] at c65
                 rw [g2, g3] at h59
                 refine ih _ (by omega) d (i + 1) _ rd r94 (by omega) (by omega) rfl (fr_ums h1 (by (try dsimp only [blk]); first | done | omega)) (fun j h2 h3 => by rw [um_k (by decide)]; exact hty j h2 h3) ?_
                 rw [hst (by omega), ← hx, astp_char h0.1 (by assumption) hn5 (by rw [← h59]; exact c65), stkL_set h0.1 (by decide), h59]
                 done)
              | (have hy5 : 1 ≤ x23 ∧ x23 ≤ 5 := by split at h40 <;> omega
                 rw [um_eq] at c65
                 have e2 : ∀ v w : Int, (um (um M1 5 d v) 4 (d + 1) w) 2 = M 2 := fun v w => funext (fun j => by rw [um_k (by decide), um_k (by decide), g2])
                 have e3 : ∀ v w : Int, (um (um M1 5 d v) 4 (d + 1) w) 3 = M 3 := fun v w => funext (fun j => by rw [um_k (by decide), um_k (by decide), g3])
                 rw [e2, e3] at h92
                 rw [g2, g3] at h59
                 refine ih _ (by omega) (d + 1) (i + 1) _ (by assumption) r94 (by omega) (by omega) rfl (fr_ums (fr_ums (fr_ums h1 (by (try dsimp only [blk]); first | done | omega)) (by (try dsimp only [blk]); first | done | omega)) (by (try dsimp only [blk]); first | done | omega)) (fun j h2 h3 => ?_) ?_
                 · rw [um_k (by decide)]
                   by_cases ej : j = d + 1
                   · subst ej; rw [um_eq]; omega
                   · rw [um_j ej, um_k (by decide)]; exact hty j h2 (by omega)
                 · rw [hst (by omega), ← hx, astp_open h0.1 hy5 (by rw [← h59]; exact c65), stkL_push h0.1 (by decide), stkL_set h0.1 (by decide), h59, h92]
                   done)
            · skip
              refine at_iload dx_5_71 rfl ?_
              refine at_const (x := 1) dx_5_72 rfl ?_
              refine at_addR dx_5_73 (by constructor <;> omega) (fun r73 => ?_)
              refine at_aload dx_5_74 rfl ?_
              refine at_getR dx_5_75 lc_1 rfl lt_1_2 ?_
              refine at_alen dx_5_76 lc_4 rfl ln_4 ?_
              refine at_cltR dx_5_77 r73 (by decide) (fun c77 => ?_) (fun c77 => ?_)
              · skip
                refine at_iincR (y := 1) dx_5_80 rfl rfl (by constructor <;> omega) (fun r80 => ?_)
                refine at_aload dx_5_81 rfl ?_
                refine at_getR dx_5_82 lc_1 rfl lt_1_2 ?_
                refine at_iload dx_5_83 rfl ?_
                refine at_iload dx_5_84 rfl ?_
                refine at_astI dx_5_85 lc_4 ln_4 (by first | omega | (simp (disch := omega) only [um_eq, um_k, um_j]; omega)) (by first | omega | (simp (disch := omega) only [um_eq, um_k, um_j]; omega)) r23 ?_
                refine at_aload dx_5_86 rfl ?_
                refine at_getR dx_5_87 lc_1 rfl lt_1_3 ?_
                refine at_iload dx_5_88 rfl ?_
                refine at_aload dx_5_89 rfl ?_
                refine at_iload dx_5_90 rfl ?_
                refine at_const (x := 1) dx_5_91 rfl ?_
                refine at_callVI dx_5_92 rfl lc_1 rfl (x_skip r23 (by decide) (by omega)) ?_
                rintro x92 M9 r92 ⟨e9, h92⟩; replace e9 := e9.symm; subst e9
                refine at_astI dx_5_93 lc_5 ln_5 (by first | omega | (simp (disch := omega) only [um_eq, um_k, um_j]; omega)) (by first | omega | (simp (disch := omega) only [um_eq, um_k, um_j]; omega)) r92 ?_
                refine at_iincR (y := 1) dx_5_94 rfl rfl (by constructor <;> omega) (fun r94 => ?_)
                refine at_goto dx_5_95 ?_
                refine at_wk (ls := [vr 1, vr b, vi _, vi _]) ⟨Or.inl rfl, Or.inl rfl, Or.inl rfl, Or.inl rfl, trivial⟩ ?_
                first
                | (exfalso; omega)
                | (refine ih _ (by omega) (d + -1) (i + 1) M1 (by assumption) r94 (by omega) (by omega) rfl h1 (fun j h2 h3 => hty j h2 (by omega)) ?_
                   rw [hst (by omega), ← hx, astp_close h0.1 (by assumption), if_neg (by split at h33 <;> omega), show d + -1 = d - 1 by omega]
                   done)
                | (have hn5 : ¬ (1 ≤ x23 ∧ x23 ≤ 5) := fun hh => by rw [if_pos hh] at h40; omega
                   rw [um_eq] at c65
                   rw [g2, g3] at h59
                   refine ih _ (by omega) d (i + 1) _ rd r94 (by omega) (by omega) rfl (fr_ums h1 (by (try dsimp only [blk]); first | done | omega)) (fun j h2 h3 => by rw [um_k (by decide)]; exact hty j h2 h3) ?_
                   rw [hst (by omega), ← hx, astp_char h0.1 (by assumption) hn5 (by rw [← h59]; exact c65), stkL_set h0.1 (by decide), h59]
                   done)
                | (have hy5 : 1 ≤ x23 ∧ x23 ≤ 5 := by split at h40 <;> omega
                   rw [um_eq] at c65
                   have e2 : ∀ v w : Int, (um (um M1 5 d v) 4 (d + 1) w) 2 = M 2 := fun v w => funext (fun j => by rw [um_k (by decide), um_k (by decide), g2])
                   have e3 : ∀ v w : Int, (um (um M1 5 d v) 4 (d + 1) w) 3 = M 3 := fun v w => funext (fun j => by rw [um_k (by decide), um_k (by decide), g3])
                   rw [e2, e3] at h92
                   rw [g2, g3] at h59
                   refine ih _ (by omega) (d + 1) (i + 1) _ (by assumption) r94 (by omega) (by omega) rfl (fr_ums (fr_ums (fr_ums h1 (by (try dsimp only [blk]); first | done | omega)) (by (try dsimp only [blk]); first | done | omega)) (by (try dsimp only [blk]); first | done | omega)) (fun j h2 h3 => ?_) ?_
                   · rw [um_k (by decide)]
                     by_cases ej : j = d + 1
                     · subst ej; rw [um_eq]; omega
                     · rw [um_j ej, um_k (by decide)]; exact hty j h2 (by omega)
                   · rw [hst (by omega), ← hx, astp_open h0.1 hy5 (by rw [← h59]; exact c65), stkL_push h0.1 (by decide), stkL_set h0.1 (by decide), h59, h92]
                     done)
              · skip
                refine at_const (x := 0) dx_5_78 rfl ?_
                refine at_zretI dx_5_79 (Or.inl rfl) ?_
                exfalso; omega
          · skip
            refine at_const (x := 0) dx_5_66 rfl ?_
            refine at_zretI dx_5_67 (Or.inl rfl) ?_
            rw [um_eq] at c65
            rw [g2, g3] at h59
            refine ⟨fr_ums h1 (by (try dsimp only [blk]); first | done | omega), Or.inl rfl, fun e => absurd e (by decide), fun e => absurd e (acc_none (accR_none (i + 1).toNat ?_))⟩
            rw [hst (by omega), ← hx]
            refine astp_kind h0.1 (by assumption) ?_
            first
            | (rw [if_pos (by split at h40 <;> omega), ← h59]; exact c65)
            | (rw [if_neg (fun hh => by rw [if_pos hh] at h40; omega), ← h59]; exact c65)
      · skip
        refine at_iload dx_5_27 rfl ?_
        refine at_zeqR dx_5_28 rd (fun c28 => ?_) (fun c28 => ?_)
        · skip
          refine at_const (x := 0) dx_5_35 rfl ?_
          refine at_zretI dx_5_36 (Or.inl rfl) ?_
          refine ⟨h1, Or.inl rfl, fun e => absurd e (by decide), fun e => absurd e (acc_none (accR_none (i + 1).toNat ?_))⟩
          rw [hst (by omega), ← hx]
          rw [astp_close h0.1 (by assumption), if_pos (by first | omega | (split at h33 <;> omega))]
        · skip
          refine at_aload dx_5_29 rfl ?_
          refine at_getR dx_5_30 lc_1 rfl lt_1_3 ?_
          refine at_iload dx_5_31 rfl ?_
          refine at_aldI dx_5_32 lc_5 ln_5 (by first | omega | (simp (disch := omega) only [um_eq, um_k, um_j]; omega)) (by first | omega | (simp (disch := omega) only [um_eq, um_k, um_j]; omega)) (fun r32 => ?_)
          refine at_callSI dx_5_33 rfl rfl (x_isEnd r32) ?_
          rintro x33 M9 r33 ⟨e9, h33⟩; replace e9 := e9.symm; subst e9
          refine at_zneR dx_5_34 r33 (fun c34 => ?_) (fun c34 => ?_)
          · skip
            refine at_iincR (y := -1) dx_5_37 rfl rfl (by constructor <;> omega) (fun r37 => ?_)
            refine at_goto dx_5_38 ?_
            refine at_iincR (y := 1) dx_5_94 rfl rfl (by constructor <;> omega) (fun r94 => ?_)
            refine at_goto dx_5_95 ?_
            refine at_wk (ls := [vr 1, vr b, vi _, vi _]) ⟨Or.inl rfl, Or.inl rfl, Or.inl rfl, Or.inl rfl, trivial⟩ ?_
            first
            | (exfalso; omega)
            | (refine ih _ (by omega) (d + -1) (i + 1) M1 (by assumption) r94 (by omega) (by omega) rfl h1 (fun j h2 h3 => hty j h2 (by omega)) ?_
               rw [hst (by omega), ← hx, astp_close h0.1 (by assumption), if_neg (by split at h33 <;> omega), show d + -1 = d - 1 by omega]
               done)
            | (have hn5 : ¬ (1 ≤ x23 ∧ x23 ≤ 5) := fun hh => by rw [if_pos hh] at h40; omega
               rw [um_eq] at c65
               rw [g2, g3] at h59
               refine ih _ (by omega) d (i + 1) _ rd r94 (by omega) (by omega) rfl (fr_ums h1 (by (try dsimp only [blk]); first | done | omega)) (fun j h2 h3 => by rw [um_k (by decide)]; exact hty j h2 h3) ?_
               rw [hst (by omega), ← hx, astp_char h0.1 (by assumption) hn5 (by rw [← h59]; exact c65), stkL_set h0.1 (by decide), h59]
               done)
            | (have hy5 : 1 ≤ x23 ∧ x23 ≤ 5 := by split at h40 <;> omega
               rw [um_eq] at c65
               have e2 : ∀ v w : Int, (um (um M1 5 d v) 4 (d + 1) w) 2 = M 2 := fun v w => funext (fun j => by rw [um_k (by decide), um_k (by decide), g2])
               have e3 : ∀ v w : Int, (um (um M1 5 d v) 4 (d + 1) w) 3 = M 3 := fun v w => funext (fun j => by rw [um_k (by decide), um_k (by decide), g3])
               rw [e2, e3] at h92
               rw [g2, g3] at h59
               refine ih _ (by omega) (d + 1) (i + 1) _ (by assumption) r94 (by omega) (by omega) rfl (fr_ums (fr_ums (fr_ums h1 (by (try dsimp only [blk]); first | done | omega)) (by (try dsimp only [blk]); first | done | omega)) (by (try dsimp only [blk]); first | done | omega)) (fun j h2 h3 => ?_) ?_
               · rw [um_k (by decide)]
                 by_cases ej : j = d + 1
                 · subst ej; rw [um_eq]; omega
                 · rw [um_j ej, um_k (by decide)]; exact hty j h2 (by omega)
               · rw [hst (by omega), ← hx, astp_open h0.1 hy5 (by rw [← h59]; exact c65), stkL_push h0.1 (by decide), stkL_set h0.1 (by decide), h59, h92]
                 done)
          · skip
            refine at_const (x := 0) dx_5_35 rfl ?_
            refine at_zretI dx_5_36 (Or.inl rfl) ?_
            refine ⟨h1, Or.inl rfl, fun e => absurd e (by decide), fun e => absurd e (acc_none (accR_none (i + 1).toNat ?_))⟩
            rw [hst (by omega), ← hx]
            rw [astp_close h0.1 (by assumption), if_pos (by first | omega | (split at h33 <;> omega))]
  refine at_const (x := 0) dx_5_0 rfl ?_
  refine at_istore dx_5_1 ?_
  refine at_aload dx_5_2 rfl ?_
  refine at_getR dx_5_3 lc_1 rfl lt_1_2 ?_
  refine at_const (x := 0) dx_5_4 rfl ?_
  refine at_const (x := 0) dx_5_5 rfl ?_
  refine at_astI dx_5_6 lc_4 ln_4 (by decide) (by decide) (by decide) ?_
  refine at_aload dx_5_7 rfl ?_
  refine at_getR dx_5_8 lc_1 rfl lt_1_3 ?_
  refine at_const (x := 0) dx_5_9 rfl ?_
  refine at_aload dx_5_10 rfl ?_
  refine at_const (x := 0) dx_5_11 rfl ?_
  refine at_const (x := 1) dx_5_12 rfl ?_
  refine at_callVI dx_5_13 rfl lc_1 rfl (x_skip (by decide) (by decide) (by decide)) ?_
  rintro x13 M9 r13 ⟨e9, h13⟩; replace e9 := e9.symm; subst e9
  refine at_astI dx_5_14 lc_5 ln_5 (by decide) (by decide) r13 ?_
  refine at_const (x := 0) dx_5_15 rfl ?_
  refine at_istore dx_5_16 ?_
  refine lp _ 0 0 _ (by decide) (by decide) (by decide) ⟨by decide, hI.1⟩ rfl (by (repeat (first | exact fr_rf | refine fr_ums ?_ (by (try dsimp only [blk]); first | done | omega)))) (fun j h0 h1 => ?_) ?_
  · rw [show j = 0 by omega]
    simp (disch := omega) only [um_eq, um_k]
    decide
  · show some [((0 : Int), sk (M 2) (M 3) 0 1)] = some [(_, _)]
    rw [um_k (by decide), um_eq, um_eq, h13]
    have e2 : (um M 4 0 0) 2 = M 2 := funext (fun j => um_k (by decide))
    have e3 : (um M 4 0 0) 3 = M 3 := funext (fun j => um_k (by decide))
    rw [e2, e3]
