/-! ===== what both sides have in common: while nothing is confirmed, and behind that ===== -/
noncomputable def okN (D : gD) : Prop := match D with
  | (0, ([_, _], _)) => True
  | (1, ([s0, t0, p0, s1, t1, p1], _)) => s0 + t0 < s1 ∨ (s0 + t0 ≤ s1 ∧ p0 = 0 ∧ p1 = 0 ∧ 0 < t0 ∧ 0 < t1)
  | (2, ([a, b, _, _], P)) => 0 ≤ a ∧ a < b ∧ b ≤ 60 ∧ P = []
  | _ => False
theorem okT_D {M : mem} {s : Nat} {D : gD} (hc : cVD (sv M s) D) (hs : smD D) (hn : okN D) : okT M s := by
  match D, hc, hs, hn with
  | (0, ([x, t], P)), hc, hs, _ =>
    obtain ⟨a, b, c, d, e, f, g, hV⟩ := hc
    rw [smD_0] at hs
    unfold sv at hV
    have h1 := congrArg Prod.fst hV
    dsimp only at h1
    simp only [List.cons.injEq] at h1
    obtain ⟨e0, e1, e2, -, -, e5, e6, e7, e8, e9, e10, e11, -⟩ := h1
    refine ⟨⟨by omega, fun _ => by omega, fun h => by omega⟩, fun h => absurd e0 h⟩
  | (1, ([s0, t0, p0, s1, t1, p1], P)), hc, hs, hn =>
    obtain ⟨a, b, c, d, hV⟩ := hc
    rw [smD_1] at hs
    have hn : s0 + t0 < s1 ∨ (s0 + t0 ≤ s1 ∧ p0 = 0 ∧ p1 = 0 ∧ 0 < t0 ∧ 0 < t1) := hn
    unfold sv at hV
    have h1 := congrArg Prod.fst hV
    dsimp only at h1
    simp only [List.cons.injEq] at h1
    obtain ⟨e0, e1, e2, -, -, e5, e6, e7, e8, e9, e10, e11, -⟩ := h1
    refine ⟨⟨by omega, fun _ => by omega, fun _ => by omega⟩, fun h => absurd e0 h⟩
  | (2, ([a, b, kb, z], P)), hc, hs, hn =>
    obtain ⟨d, e, f, g, h, i, P', hV⟩ := hc
    have hn : 0 ≤ a ∧ a < b ∧ b ≤ 60 ∧ P = [] := hn
    unfold sv at hV
    have h1 := congrArg Prod.fst hV
    dsimp only at h1
    simp only [List.cons.injEq] at h1
    obtain ⟨e0, e1, e2, -, -, e5, e6, e7, e8, e9, e10, e11, -⟩ := h1
    refine ⟨⟨by omega, fun h => by omega, fun h => by omega⟩, fun _ => by omega⟩
abbrev okCS (cs : cfn) : Prop := ∀ (d cp : List Int) (D : gD), d.length ≤ 60 → D ∈ cs d cp → okD D d → okN D
theorem cIf_m {P : Prop} {D D' : gD} (h : D' ∈ cIf P D) : P ∧ D' = D := by
  by_cases hP : P
  · rw [cIf_t hP] at h
    exact ⟨hP, List.mem_singleton.mp h⟩
  · rw [cIf_f hP] at h
    cases h
theorem ok_type {p l : Int} : okCS (csType p l) := fun d cp D hd hD ho => by
  obtain ⟨-, rfl⟩ := cIf_m hD
  trivial
theorem ok_erase {f t : Int} : okCS (csErase f t) := fun d cp D hd hD ho => by
  obtain ⟨-, rfl⟩ := cIf_m hD
  trivial
theorem ok_split {p : Int} : okCS (csSplit p) := fun d cp D hd hD ho => by
  obtain ⟨-, rfl⟩ := cIf_m hD
  trivial
theorem ok_join {p : Int} : okCS (csJoin p) := fun d cp D hd hD ho => by
  obtain ⟨-, rfl⟩ := cIf_m hD
  trivial
theorem ok_setType {p y : Int} : okCS (csSetType p y) := fun d cp D hd hD ho => by
  obtain ⟨-, rfl⟩ := cIf_m hD
  trivial
theorem ok_wrap {f t y : Int} : okCS (csWrap f t y) := fun d cp D hd hD ho => by
  obtain ⟨h, rfl⟩ := cIf_m hD
  show f + 0 < t ∨ _
  exact Or.inl (by omega)
theorem ok_unwrap {p : Int} : okCS (csUnwrap p) := fun d cp D hd hD ho => by
  obtain ⟨h, rfl⟩ := cIf_m hD
  rw [okD_1] at ho
  show p + 1 < _ ∨ (p + 1 ≤ _ ∧ (0 : Int) = 0 ∧ (0 : Int) = 0 ∧ (0 : Int) < 1 ∧ (0 : Int) < 1)
  exact Or.inr ⟨ho.1.2.2.1, rfl, rfl, by decide, by decide⟩
theorem ok_mark {f t m z : Int} : okCS (csMark f t m z) := fun d cp D hd hD ho => by
  obtain ⟨h, rfl⟩ := cIf_m hD
  obtain ⟨h1, ⟨h2, h3, h4⟩, -⟩ := h
  show 0 ≤ f ∧ f < t ∧ t ≤ 60 ∧ ([] : List Int) = []
  exact ⟨h2, h3, by omega, rfl⟩
abbrev kd0 (L : List gD) : Prop := ∀ D ∈ L, ∃ s t P, D = (0, ([s, t], P))
theorem kd0_app {a b : List gD} (ha : kd0 a) (hb : kd0 b) : kd0 (a ++ b) := fun D hD => by
  rcases List.mem_append.mp hD with h | h
  · exact ha D h
  · exact hb D h
theorem kd0_bare {cp : List Int} {p : Int} : ∀ (k : Nat) (f e : Int), kd0 (bareL cp p k f e)
  | 0, _, _ => fun D hD => by cases hD
  | k + 1, f, e => by
    intro D hD
    by_cases h : f < e
    · by_cases h2 : clq cp f = e - 1
      · rw [bareL_more h h2] at hD
        rcases List.mem_cons.mp hD with rfl | hD
        · exact ⟨_, _, _, rfl⟩
        · exact kd0_bare k (f + 1) (e - 1) D hD
      · rw [bareL_one h (by omega) h2] at hD
        rw [List.mem_singleton.mp hD]
        exact ⟨_, _, _, rfl⟩
    · rw [bareL_nil h] at hD
      cases hD
theorem kd0_wrapR {cp : List Int} {p : Int} : ∀ (k : Nat) (t : Int), kd0 (wrapR cp p k t)
  | 0, _ => fun D hD => by cases hD
  | k + 1, t => by
    intro D hD
    rcases List.mem_cons.mp hD with rfl | hD
    · exact ⟨_, _, _, rfl⟩
    · exact kd0_wrapR k (t + 1) D hD
theorem kd0_wrap {cp : List Int} {p : Int} : kd0 (wrapL cp p) := by
  unfold wrapL
  split
  · exact kd0_wrapR 5 1
  · intro D hD; cases hD
theorem ok_paste {p : Int} : okCS (csPaste p) := fun d cp D hd hD ho => by
  have h : kd0 (csPaste p d cp) := by
    unfold csPaste cIL
    split
    · exact kd0_app (kd0_bare _ _ _) kd0_wrap
    · intro D hD; cases hD
  obtain ⟨s, t, P, rfl⟩ := h D hD
  trivial
/-! ===== the first good candidate is one alone ===== -/
theorem FST_cons {K Q : Int → Int} {l : List Int} {a D : gD} {L : List gD} (h : FST K Q l (a :: L) D) : (gd K Q l a ∧ D = a) ∨ (¬ gd K Q l a ∧ FST K Q l L D) := by
  obtain ⟨pre, post, h1, h2, h3⟩ := h
  cases pre with
  | nil =>
    have e : a = D := (List.cons.inj h1).1
    subst e
    exact Or.inl ⟨h2, rfl⟩
  | cons b r =>
    obtain ⟨rfl, e⟩ := List.cons.inj h1
    exact Or.inr ⟨h3 _ List.mem_cons_self, r, post, e, h2, fun x hx => h3 x (List.mem_cons_of_mem _ hx)⟩
theorem FST_uniq {K Q : Int → Int} {l : List Int} {D D' : gD} : ∀ {L : List gD}, FST K Q l L D → FST K Q l L D' → D = D'
  | [], ⟨pre, post, h1, _⟩, _ => by
    cases pre with
    | nil => cases h1
    | cons b r => cases h1
  | a :: L, h, h' => by
    rcases FST_cons h with ⟨g1, g2⟩ | ⟨g1, g2⟩
    · rcases FST_cons h' with ⟨g3, g4⟩ | ⟨g3, g4⟩
      · rw [g2, g4]
      · exact absurd g1 g3
    · rcases FST_cons h' with ⟨g3, g4⟩ | ⟨g3, g4⟩
      · exact absurd g3 g1
      · exact FST_uniq g2 g4
theorem FST_in {K Q : Int → Int} {l : List Int} {D : gD} {L : List gD} (h : FST K Q l L D) : D ∈ L ∧ gd K Q l D := by
  obtain ⟨pre, post, h1, h2, -⟩ := h
  rw [h1]
  exact ⟨List.mem_append_right _ List.mem_cons_self, h2⟩
/-! ===== documents that a row of steps makes ===== -/
noncomputable def RD (K Q : Int → Int) : List gD → List Int → List Int → Prop
  | [], l, l' => l' = l
  | D :: Ds, l, l' => gd K Q l D ∧ RD K Q Ds (eD D l) l'
theorem RD_app {K Q : Int → Int} (a b : List gD) : ∀ l l', RD K Q (a ++ b) l l' ↔ ∃ m, RD K Q a l m ∧ RD K Q b m l' := by
  induction a with
  | nil => exact fun l l' => ⟨fun h => ⟨l, rfl, h⟩, fun ⟨m, h1, h2⟩ => by rw [show m = l from h1] at h2; exact h2⟩
  | cons D r ih => exact fun l l' => ⟨fun h => by
      obtain ⟨m, h1, h2⟩ := (ih _ _).mp h.2
      exact ⟨m, ⟨h.1, h1⟩, h2⟩, fun ⟨m, h1, h2⟩ => ⟨h1.1, (ih _ _).mpr ⟨m, h1.2, h2⟩⟩⟩
abbrev inL (l : List Int) : Prop := ∀ t ∈ l, inR t
theorem inL_10 : inL [1, 0] := fun t ht => by
  rcases List.mem_cons.mp ht with rfl | ht
  · decide
  · rw [List.mem_singleton.mp ht]; decide
theorem inL_app {a b : List Int} (ha : inL a) (hb : inL b) : inL (a ++ b) := fun t ht => by
  rcases List.mem_append.mp ht with h | h
  · exact ha t h
  · exact hb t h
theorem inL_take {a : List Int} (ha : inL a) (n : Nat) : inL (a.take n) := fun t ht => ha t (List.mem_of_mem_take ht)
theorem inL_drop {a : List Int} (ha : inL a) (n : Nat) : inL (a.drop n) := fun t ht => ha t (List.mem_of_mem_drop ht)
theorem inL_D {l : List Int} (h : inL l) (j : Nat) (hj : j < l.length) : inR (l.getD j 0) := by
  rw [List.getD_eq_getElem?_getD, List.getElem?_eq_getElem hj]
  exact h _ (List.getElem_mem hj)
theorem inL_at {l : List Int} (h : inL l) (p : Int) : inR (atL l p) := by
  unfold atL
  split
  · rw [List.getD_eq_getElem?_getD]
    cases hq : l[p.toNat]? with
    | none => show inR (-1); decide
    | some x => exact h x (List.mem_of_getElem? hq)
  · decide
theorem inL_mk {z mb a b : Int} {l : List Int} (h : inL l) : inL (mkL z mb a b l) := fun t ht => by
  unfold mkL at ht
  obtain ⟨i, -, rfl⟩ := List.mem_map.mp ht
  split
  · unfold mkT
    split
    · exact inL_at h _
    · split
      · exact inR_and _ _
      · exact inR_or _ _
  · exact inL_at h _
theorem inL_eD {D : gD} {l : List Int} (hs : smD D) (h : inL l) (hP : inL D.2.2) : inL (eD D l) := by
  match D, hs, hP with
  | (0, ([s, t], P)), _, hP =>
    rw [eD_0]
    exact inL_app (inL_app (inL_take h _) hP) (inL_drop h _)
  | (1, ([s0, t0, p0, s1, t1, p1], P)), _, hP =>
    rw [eD_1]
    exact inL_app (inL_app (inL_app (inL_app (inL_take h _) (inL_take hP _)) (inL_take (inL_drop h _) _)) (inL_drop hP _)) (inL_drop h _)
  | (2, ([a, b, kb, z], P)), _, _ =>
    rw [eD_2]
    exact inL_mk h
theorem apW_E {W : sV} {D : gD} {l : List Int} (hc : cWD W D) (hs : smD D) (ho : okD D l) (hl : inL l) : apW W l = eD D l := by
  by_cases h2 : D.1 = 2
  · match D, hc, hs, ho, h2 with
    | (2, ([a, b, kb, z], P)), hc, hs, _, _ =>
      obtain ⟨R, rfl⟩ := hc
      rw [smD_2] at hs
      rw [eD_2, ← mkF_L hs.2 hs.1 (fun j hj => inL_D hl j hj)]
      unfold apW
      dsimp only
      rw [if_pos (by decide)]
  · exact apW_D hc hs ho h2
theorem RD_Run {K Q : Int → Int} : ∀ (Ds : List gD) (vs : List sV) (l d l' : List Int), vs.length = Ds.length → (∀ (i : Nat) (D : gD) (V : sV), Ds[i]? = some D → vs[i]? = some V → smD D ∧ cVD V D) → l.length ≤ 60 → RD K Q Ds l d → Run vs l l' → l' = d
  | [], [], l, d, l', _, _, _, h1, h2 => by rw [show d = l from h1, show l' = l from h2]
  | D :: Ds, V :: vs, l, d, l', hn, hk, hl, h1, h2 => by
    obtain ⟨k1, k2⟩ := hk 0 D V rfl rfl
    have e := apV_D k2 k1 hl h1.1.1
    refine RD_Run Ds vs (eD D l) d l' (by simpa using hn) (fun i D' V' a b => hk (i + 1) D' V' a b) (eD_len hl h1.1.1) h1.2 ?_
    rw [← e]
    exact h2.2
  | [], _ :: _, _, _, _, hn, _, _, _, _ => by cases hn
  | _ :: _, [], _, _, _, hn, _, _, _, _ => by cases hn
theorem RD_RunW {K Q : Int → Int} : ∀ (Ds : List gD) (vs : List sV) (l d l' : List Int), vs.length = Ds.length → (∀ (i : Nat) (D : gD) (V : sV), Ds[i]? = some D → vs[i]? = some V → smD D ∧ inL D.2.2 ∧ cWD V D) → inL l → RD K Q Ds l d → RunW vs l l' → l' = d
  | [], [], l, d, l', _, _, _, h1, h2 => by rw [show d = l from h1, show l' = l from h2]
  | D :: Ds, V :: vs, l, d, l', hn, hk, hl, h1, h2 => by
    obtain ⟨k1, k3, k2⟩ := hk 0 D V rfl rfl
    have e := apW_E k2 k1 h1.1.1 hl
    refine RD_RunW Ds vs (eD D l) d l' (by simpa using hn) (fun i D' V' a b => hk (i + 1) D' V' a b) (inL_eD k1 hl k3) h1.2 ?_
    rw [← e]
    exact h2.2.2
  | [], _ :: _, _, _, _, hn, _, _, _, _ => by cases hn
  | _ :: _, [], _, _, _, hn, _, _, _, _ => by cases hn
/-- the documents on the way -/
noncomputable def dcs (Ds : List gD) (l : List Int) (j : Nat) : List Int := (Ds.take j).foldl (fun l D => eD D l) l
theorem dcs_S {Ds : List gD} {l : List Int} {j : Nat} {D : gD} (h : Ds[j]? = some D) : dcs Ds l (j + 1) = eD D (dcs Ds l j) := by
  unfold dcs
  have h1 : Ds.take (j + 1) = Ds.take j ++ [D] := by
    obtain ⟨hj, e⟩ := List.getElem?_eq_some_iff.mp h
    rw [List.take_succ, h]
    rfl
  rw [h1, List.foldl_append]
  rfl
theorem RD_dcs {K Q : Int → Int} : ∀ (Ds : List gD) (l d : List Int), RD K Q Ds l d → l.length ≤ 60 → d = dcs Ds l Ds.length ∧ ∀ (j : Nat) (D : gD), Ds[j]? = some D → gd K Q (dcs Ds l j) D ∧ (dcs Ds l j).length ≤ 60
  | [], l, d, h, _ => ⟨h, fun j D hj => by cases hj⟩
  | D :: Ds, l, d, h, hl => by
    obtain ⟨i1, i2⟩ := RD_dcs Ds (eD D l) d h.2 (eD_len hl h.1.1)
    refine ⟨i1, fun j D' hj => ?_⟩
    cases j with
    | zero =>
      obtain rfl : D = D' := Option.some.inj hj
      exact ⟨h.1, hl⟩
    | succ j => exact i2 j D' hj
theorem Run_f {f : Nat → sV} {n : Nat} {i : Nat} {V : sV} (h : ((List.range n).map f)[i]? = some V) : V = f i := by
  rw [List.getElem?_map] at h
  cases hq : (List.range n)[i]? with
  | none => rw [hq] at h; cases h
  | some k =>
    rw [hq] at h
    obtain ⟨h1, h2⟩ := List.getElem?_eq_some_iff.mp hq
    have h3 : i = k := by rw [← h2]; exact (List.getElem_range _).symm
    subst h3
    exact (Option.some.inj h).symm
