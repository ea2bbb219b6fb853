/-! ===== the constructors' run ===== -/
noncomputable def sc_h00 : sx_H Int := (sx_tr 10 none, (0, (0, (0, true))))
noncomputable def sc_call : sx_K Int := sx_ca sx_cd (sc_run 20000)
noncomputable def sc_hA0 : sx_H Int := sx_hn sc_h00 (.inl (6, (sx_nff 6).map (sx_fd sc_o))) (sx_nff 6).length
noncomputable def sc_B0 (h : sx_H Int) : sx_H Int := sx_hn h (.inl (7, (sx_nff 7).map (sx_fd sc_o))) (sx_nff 7).length
noncomputable def sc_C0 (h : sx_H Int) : sx_H Int := sx_hn h (.inr (2, (1, sx_tr 13 (sx_dflt sc_o 2)))) 1
noncomputable def sc_rm (h : sx_H Int) : Bool := Nat.ble h.2.2.1 884 && Nat.ble h.2.2.2.1 29788
theorem sc_rm_ok {h : sx_H Int} (e : sc_rm h = true) : h.2.2.1 ≤ 884 ∧ h.2.2.2.1 ≤ 29788 := by
  obtain ⟨h1, h2⟩ := sx_a2 e
  exact ⟨Nat.le_of_ble_eq_true h1, Nat.le_of_ble_eq_true h2⟩
section SC
variable {L : Nat} {xs : Nat → Int32} {call : sx_K Int} {go : sx_G Int} {full cs : List Nat} {ls : sx_L Int} {r st : List (sx_V Int)} {h h' : sx_H Int} {k a b c : Nat} {v : sx_V Int} {x : Int} {o : sx_O Int}
theorem sc_new (hf : h.2.2.2.2 = true) (hn : h.2.1 = k) (hk : k + 1 ≤ 1024) : sx_hd 20 (ii_o L xs) call go full a b c cs ls st h = go cs ls (vr k :: st) (sx_hn h (.inl (a, (sx_nff a).map (sx_fd sc_o))) (sx_nff a).length) := by
  subst hn
  show sh_new (ii_o L xs) go a cs ls st h = _
  unfold sh_new
  rw [hf, Nat.ble_eq_true_of_le hk]
  rfl
theorem sc_callI (hs : Nat.ble (sx_sw r) 8 = true) (hc : call a [vr k] h = some ((0, v), h')) : sx_hd 18 o call go full a b c cs ls (vr k :: r) h = go cs ls r h' := by
  show sh_callI call go a cs ls (vr k :: r) h = _
  unfold sh_callI
  show cond (Nat.ble (sx_sw r) 8) (sx_bkI go cs ls r (call a [vr k] h)) none = _
  rw [hs, hc]
  rfl
theorem sc_newa (hf : h.2.2.2.2 = true) (hn : h.2.1 = k) (hk : k + 1 ≤ 1024) : sx_hd 23 (ii_o L xs) call go full 2 b c cs ls (vi 1 :: r) h = go cs ls (vr k :: r) (sx_hn h (.inr (2, (1, sx_tr 13 (sx_dflt sc_o 2)))) 1) := by
  subst hn
  have h1 : ii_val 1 = some 1 := ii_val_of (by rw [wr_eq (by decide) (by decide)]; rfl)
  show cond h.2.2.2.2 (match ii_val 1 with
    | some n => cond (Nat.ble n 8192 && Nat.ble (h.2.1 + 1) 1024) (go cs ls (vr h.2.1 :: r) (sx_hn h (.inr (2, (n, sx_tr 13 (sx_dflt (ii_o L xs) 2)))) n)) none
    | none => none) none = _
  rw [hf, h1]
  show cond (Nat.ble 1 8192 && Nat.ble (h.2.1 + 1) 1024) (go cs ls (vr h.2.1 :: r) (sx_hn h (.inr (2, (1, sx_tr 13 (sx_dflt (ii_o L xs) 2)))) 1)) none = _
  rw [Nat.ble_eq_true_of_le hk]
  rfl
theorem sc_dup : sx_hd 16 o call go full a b c cs ls (vr k :: r) h = go cs ls (vr k :: vr k :: r) h := rfl
theorem sc_ast : sx_hd 22 o call go full a b c cs ls (vr k :: r) h = go cs (sx_st ls a (vr k)) r h := rfl
theorem sc_ist : sx_hd 9 o call go full a b c cs ls (vi x :: r) h = go cs (sx_st ls a (vi x)) r h := rfl
theorem sc_c0 : sx_hd 3 (ii_o L xs) call go full 0 b c cs ls r h = go cs ls (vi 0 :: r) h := rfl
theorem sc_c1 : sx_hd 3 (ii_o L xs) call go full 1 b c cs ls r h = go cs ls (vi 1 :: r) h := rfl
end SC
/-- the first k rows with these calls, the rest otherwise -/
noncomputable def sx_pre {I : Type} (o : sx_O I) (call : sx_K I) (rn : List Nat → sx_G I) (k : Nat) : List Nat → sx_G I :=
  Nat.rec (motive := fun _ => List Nat → sx_G I) rn (fun _ ih full cs ls st h => match cs with
    | [] => none
    | x :: r => sx_hd (sx_xq x) o call (ih full) full (sx_xa x) (sx_xb x) (sx_xc x) r ls st h) k
theorem sx_pre_row {o : sx_O Int} {call : sx_K Int} {rn : List Nat → sx_G Int} {k : Nat} {full : List Nat} {m i q a b : Nat} {ls : sx_L Int} {st : List (sx_V Int)} {h : sx_H Int} (hd : cdx m i = (q, (a, b))) (hq : q ≠ 99) : ∃ c, sx_pre o call rn (k + 1) full ((sx_cd m).drop i) ls st h = sx_hd q o call (sx_pre o call rn k full) full a b c ((sx_cd m).drop (i + 1)) ls st h := by
  obtain ⟨x, e1, rfl, rfl, rfl⟩ := cdx_ok hd hq
  refine ⟨sx_xc x, ?_⟩
  rw [e1]
  rfl
noncomputable def sc_ls0 : sx_L Int := sx_args 0 [vs]
noncomputable def sc_ls1 : sx_L Int := sx_st sc_ls0 1 (vr 0)
noncomputable def sc_ls2 : sx_L Int := sx_st sc_ls1 2 (vr 856)
noncomputable def sc_ls3 : sx_L Int := sx_st sc_ls2 3 (vr 883)
noncomputable def sc_ls : sx_L Int := sx_st sc_ls3 4 (vi 0)
theorem sc_lsR : lsR [vs, vr 0, vr 856, vr 883, vi 0] sc_ls := by
  have h0 : lsR [vs] sc_ls0 := lsR_entry rfl
  exact lsR_st (lsR_st (lsR_st (lsR_st h0 1 (vr 0)) 2 (vr 856)) 3 (vr 883)) 4 (vi 0)
theorem sc_pre {L : Nat} {xs : Nat → Int32} {rn : List Nat → sx_G Int} {full : List Nat} {call : sx_K Int} {vA vB : sx_V Int} {hA hB : sx_H Int} (eA : call 46 [vr 0] sc_hA0 = some ((0, vA), hA)) (fA : hA.2.2.2.2 = true) (nA : hA.2.1 = 856) (eB : call 90 [vr 856] (sc_B0 hA) = some ((0, vB), hB)) (fB : hB.2.2.2.2 = true) (nB : hB.2.1 = 883) : sx_pre (ii_o L xs) call rn 13 full ((sx_cd 182).drop 0) sc_ls0 [] sc_h00 = rn full ((sx_cd 182).drop 13) sc_ls [] (sc_C0 hB) := by
  obtain ⟨c0, e0⟩ := sx_pre_row (o := ii_o L xs) (call := call) (rn := rn) (k := 12) (full := full) (ls := sc_ls0) (st := []) (h := sc_h00) dx_182_0 (by decide)
  obtain ⟨c1, e1⟩ := sx_pre_row (o := ii_o L xs) (call := call) (rn := rn) (k := 11) (full := full) (ls := sc_ls0) (st := [vr 0]) (h := sc_hA0) dx_182_1 (by decide)
  obtain ⟨c2, e2⟩ := sx_pre_row (o := ii_o L xs) (call := call) (rn := rn) (k := 10) (full := full) (ls := sc_ls0) (st := [vr 0, vr 0]) (h := sc_hA0) dx_182_2 (by decide)
  obtain ⟨c3, e3⟩ := sx_pre_row (o := ii_o L xs) (call := call) (rn := rn) (k := 9) (full := full) (ls := sc_ls0) (st := [vr 0]) (h := hA) dx_182_3 (by decide)
  obtain ⟨c4, e4⟩ := sx_pre_row (o := ii_o L xs) (call := call) (rn := rn) (k := 8) (full := full) (ls := sc_ls1) (st := []) (h := hA) dx_182_4 (by decide)
  obtain ⟨c5, e5⟩ := sx_pre_row (o := ii_o L xs) (call := call) (rn := rn) (k := 7) (full := full) (ls := sc_ls1) (st := [vr 856]) (h := (sc_B0 hA)) dx_182_5 (by decide)
  obtain ⟨c6, e6⟩ := sx_pre_row (o := ii_o L xs) (call := call) (rn := rn) (k := 6) (full := full) (ls := sc_ls1) (st := [vr 856, vr 856]) (h := (sc_B0 hA)) dx_182_6 (by decide)
  obtain ⟨c7, e7⟩ := sx_pre_row (o := ii_o L xs) (call := call) (rn := rn) (k := 5) (full := full) (ls := sc_ls1) (st := [vr 856]) (h := hB) dx_182_7 (by decide)
  obtain ⟨c8, e8⟩ := sx_pre_row (o := ii_o L xs) (call := call) (rn := rn) (k := 4) (full := full) (ls := sc_ls2) (st := []) (h := hB) dx_182_8 (by decide)
  obtain ⟨c9, e9⟩ := sx_pre_row (o := ii_o L xs) (call := call) (rn := rn) (k := 3) (full := full) (ls := sc_ls2) (st := [vi 1]) (h := hB) dx_182_9 (by decide)
  obtain ⟨c10, e10⟩ := sx_pre_row (o := ii_o L xs) (call := call) (rn := rn) (k := 2) (full := full) (ls := sc_ls2) (st := [vr 883]) (h := (sc_C0 hB)) dx_182_10 (by decide)
  obtain ⟨c11, e11⟩ := sx_pre_row (o := ii_o L xs) (call := call) (rn := rn) (k := 1) (full := full) (ls := sc_ls3) (st := []) (h := (sc_C0 hB)) dx_182_11 (by decide)
  obtain ⟨c12, e12⟩ := sx_pre_row (o := ii_o L xs) (call := call) (rn := rn) (k := 0) (full := full) (ls := sc_ls3) (st := [vi 0]) (h := (sc_C0 hB)) dx_182_12 (by decide)
  refine e0.trans ?_
  refine (sc_new (k := 0) rfl rfl (by decide)).trans ?_
  refine e1.trans ?_
  refine (sc_dup).trans ?_
  refine e2.trans ?_
  refine (sc_callI rfl eA).trans ?_
  refine e3.trans ?_
  refine (sc_ast).trans ?_
  refine e4.trans ?_
  refine (sc_new (k := 856) fA nA (by decide)).trans ?_
  refine e5.trans ?_
  refine (sc_dup).trans ?_
  refine e6.trans ?_
  refine (sc_callI rfl eB).trans ?_
  refine e7.trans ?_
  refine (sc_ast).trans ?_
  refine e8.trans ?_
  refine (sc_c1).trans ?_
  refine e9.trans ?_
  refine (sc_newa (k := 883) fB nB (by decide)).trans ?_
  refine e10.trans ?_
  refine (sc_ast).trans ?_
  refine e11.trans ?_
  refine (sc_c0).trans ?_
  refine e12.trans ?_
  refine (sc_ist).trans ?_
  rfl
/-! ===== the first heap is the first memory ===== -/
noncomputable def sc_ev {A : Type} : List A → List A
  | [] => []
  | [x] => [x]
  | x :: _ :: r => x :: sc_ev r
noncomputable def sc_od {A : Type} : List A → List A
  | [] => []
  | [_] => []
  | _ :: y :: r => y :: sc_od r
theorem sc_ev_get {A : Type} (d : A) : ∀ (l : List A) (j : Nat), (sc_ev l).getD j d = l.getD (2 * j) d
  | [], j => by rfl
  | [x], 0 => rfl
  | [x], j + 1 => by rfl
  | x :: y :: r, 0 => rfl
  | x :: y :: r, j + 1 => by
    have h := sc_ev_get d r j
    have e : 2 * (j + 1) = 2 * j + 1 + 1 := by omega
    rw [e]
    exact h
theorem sc_od_get {A : Type} (d : A) : ∀ (l : List A) (j : Nat), (sc_od l).getD j d = l.getD (2 * j + 1) d
  | [], j => by rfl
  | [x], 0 => rfl
  | [x], j + 1 => by rfl
  | x :: y :: r, 0 => rfl
  | x :: y :: r, j + 1 => by
    have h := sc_od_get d r j
    have e : 2 * (j + 1) + 1 = 2 * j + 1 + 1 + 1 := by omega
    rw [e]
    exact h
noncomputable def sc_al (n : Nat) : sx_T (sx_V Int) n → sx_V Int → Bool :=
  Nat.rec (motive := fun n => sx_T (sx_V Int) n → sx_V Int → Bool) (fun t d => decide (sx_lf t = d)) (fun _ ih t d => ih (Prod.fst t) d && ih (Prod.snd t) d) n
noncomputable def sc_tc (n : Nat) : sx_T (sx_V Int) n → List (sx_V Int) → sx_V Int → Bool :=
  Nat.rec (motive := fun n => sx_T (sx_V Int) n → List (sx_V Int) → sx_V Int → Bool) (fun t l d => decide (sx_lf t = l.getD 0 d))
    (fun n ih t l d => match l with
      | [] => sc_al (n + 1) t d
      | x :: r => ih (Prod.fst t) (sc_ev (x :: r)) d && ih (Prod.snd t) (sc_od (x :: r)) d) n
theorem sc_al_ok (n : Nat) : ∀ (t : sx_T (sx_V Int) n) (d : sx_V Int), sc_al n t d = true → ∀ j, j < 2 ^ n → sx_tg n t j = some d := by
  induction n with
  | zero =>
    intro t d h j hj
    have e : j = 0 := by simpa using hj
    subst e
    have h1 : decide (sx_lf t = d) = true := h
    rw [sx_tg_zero, of_decide_eq_true h1]
    rfl
  | succ n ih =>
    intro t d h j hj
    have h1 : (sc_al n (sx_fs t) d && sc_al n (sx_sn t) d) = true := h
    obtain ⟨h2, h3⟩ := sx_a2 h1
    have hj2 : j / 2 < 2 ^ n := by rw [Nat.pow_succ] at hj; omega
    rw [sx_tg_succ]
    rcases sx_beq0 (Nat.mod j 2) with ⟨e, -⟩ | ⟨e, -⟩
    · rw [e]; exact ih _ _ h2 _ hj2
    · rw [e]; exact ih _ _ h3 _ hj2
theorem sc_tc_ok (n : Nat) : ∀ (t : sx_T (sx_V Int) n) (l : List (sx_V Int)) (d : sx_V Int), sc_tc n t l d = true → ∀ j, j < 2 ^ n → sx_tg n t j = some (l.getD j d) := by
  induction n with
  | zero =>
    intro t l d h j hj
    have e : j = 0 := by simpa using hj
    subst e
    have h1 : decide (sx_lf t = l.getD 0 d) = true := h
    rw [sx_tg_zero, of_decide_eq_true h1]
    rfl
  | succ n ih =>
    intro t l d h j hj
    cases l with
    | nil => exact sc_al_ok (n + 1) t d h j hj
    | cons x r =>
      have h1 : (sc_tc n (sx_fs t) (sc_ev (x :: r)) d && sc_tc n (sx_sn t) (sc_od (x :: r)) d) = true := h
      obtain ⟨h2, h3⟩ := sx_a2 h1
      have hj2 : j / 2 < 2 ^ n := by rw [Nat.pow_succ] at hj; omega
      rw [sx_tg_succ]
      rcases sx_beq0 (Nat.mod j 2) with ⟨e, e2⟩ | ⟨e, e2⟩
      · rw [e]
        have h4 := ih _ _ _ h2 _ hj2
        rw [sc_ev_get] at h4
        have e3 : j % 2 = 0 := e2
        rw [show 2 * (j / 2) = j by omega] at h4
        exact h4
      · rw [e]
        have h4 := ih _ _ _ h3 _ hj2
        rw [sc_od_get] at h4
        have e3 : j % 2 ≠ 0 := e2
        rw [show 2 * (j / 2) + 1 = j by omega] at h4
        exact h4
noncomputable def sc_ca (k c : Nat) (tr : sx_T (sx_V Int) 13) : Bool := match c with
  | 8 => sc_tc 13 tr ((e0 k).map (fun x => vi x)) (vi 0) && !(Nat.beq k 26)
  | 9 => sc_tc 13 tr ((e0 k).map (fun x => vi x)) (vi 0) && !(Nat.beq k 26)
  | 10 => sc_tc 13 tr ((e0 k).map (fun x => vl x)) (vl 0) && !(Nat.beq k 26)
  | 13 => sc_tc 13 tr [] none && Nat.beq k 26
  | _ => sc_tc 13 tr ((ly_T.getD k (99, (0, []))).2.2.map (fun x => vr x)) none && Nat.ble (ly_n k) (ly_T.getD k (99, (0, []))).2.2.length
noncomputable def sc_ck (h13 : sx_H Int) (k : Nat) : Bool := cond (Nat.ble (ly_c k) 7) (match sx_hg h13 k with
  | some (.inl (c, fs)) => Nat.beq c (ly_c k) && decide (fs = (List.range (ly_n k)).map (fun j : Nat => ly_v k j (M0 k j)))
  | _ => false) (match sx_hg h13 k with
  | some (.inr (t, (n, tr))) => Nat.beq t (ly_a (ly_c k)) && (Nat.beq n (ly_n k) && sc_ca k (ly_c k) tr)
  | _ => false)
theorem sc_M0 {k : Nat} (h : (!(Nat.beq k 26)) = true) (j : Nat) : M0 k j = (e0 k).getD j 0 := M0_n (fun e => by subst e; cases h) j
theorem sc_mapD {A B : Type} (f : A → B) (a : A) (l : List A) (j : Nat) : (l.map f).getD j (f a) = f (l.getD j a) := by
  rw [List.getD_eq_getElem?_getD, List.getD_eq_getElem?_getD, List.getElem?_map]
  cases l[j]? <;> rfl
theorem sc_ca_ok {k : Nat} {tr : sx_T (sx_V Int) 13} (h8 : 8 ≤ ly_c k) (h13 : ly_c k ≤ 13) (h : sc_ca k (ly_c k) tr = true) {j : Nat} (hj : j < ly_n k) : sx_tg 13 tr j = some (ly_v k j (M0 k j)) := by
  have hn := ly_n8 h8 h13
  have hj2 : j < 2 ^ 13 := by omega
  rcases (show ly_c k = 8 ∨ ly_c k = 9 ∨ ly_c k = 10 ∨ ly_c k = 13 ∨ (ly_c k = 11 ∨ ly_c k = 12) by omega) with e | e | e | e | e
  · rw [e] at h
    obtain ⟨h1, h2⟩ := sx_a2 h
    rw [sc_tc_ok 13 _ _ _ h1 j hj2, sc_mapD (fun x => vi x) 0, ← sc_M0 h2]
    exact congrArg some (ly_vI (by rw [e]; exact Nat.zero_le _)).symm
  · rw [e] at h
    obtain ⟨h1, h2⟩ := sx_a2 h
    rw [sc_tc_ok 13 _ _ _ h1 j hj2, sc_mapD (fun x => vi x) 0, ← sc_M0 h2]
    exact congrArg some (ly_vI (by rw [e]; exact Nat.le_refl _)).symm
  · rw [e] at h
    obtain ⟨h1, h2⟩ := sx_a2 h
    rw [sc_tc_ok 13 _ _ _ h1 j hj2, sc_mapD (fun x => vl x) 0, ← sc_M0 h2]
    exact congrArg some (ly_vL (by rw [e]; rfl)).symm
  · rw [e] at h
    obtain ⟨h1, h2⟩ := sx_a2 h
    have e2 := Nat.eq_of_beq_eq_true h2
    subst e2
    rw [sc_tc_ok 13 _ _ _ h1 j hj2]
    refine congrArg some ?_
    rw [ly_vS (by rw [e]; rfl)]
    have h3 : M0 26 j = -1 := rfl
    rw [h3]
    rfl
  · have h1 : (sc_tc 13 tr ((ly_T.getD k (99, (0, []))).2.2.map (fun x => vr x)) none && Nat.ble (ly_n k) (ly_T.getD k (99, (0, []))).2.2.length) = true := by
      rcases e with e | e <;> rw [e] at h <;> exact h
    obtain ⟨h1, h2⟩ := sx_a2 h1
    have h3 := Nat.le_of_ble_eq_true h2
    rw [sc_tc_ok 13 _ _ _ h1 j hj2, ly_vR (by rcases e with e | e <;> rw [e] <;> rfl)]
    unfold ly_t
    generalize (ly_T.getD k (99, (0, []))).2.2 = l at h3 ⊢
    have h4 : ((j : Nat) : Int).toNat = j := rfl
    have h5 : j < l.length := Nat.lt_of_lt_of_le hj h3
    rw [h4, List.getD_eq_getElem?_getD, List.getElem?_map, List.getD_eq_getElem?_getD, List.getElem?_eq_getElem h5]
    rfl
theorem sc_ck_ok {h13 : sx_H Int} (hA : (List.range 884).all (sc_ck h13) = true) : hp_R M0 h13 := by
  refine ⟨fun k hk => ?_, fun k h8 h13 => ?_, fun k j h => e0_k1 h, fun k j h h0 => e0_k13 h h0, M0_R⟩
  · have h := List.all_eq_true.mp hA k (List.mem_range.mpr (ly_big (by omega)))
    unfold sc_ck at h
    rw [Nat.ble_eq_true_of_le hk, cond_true] at h
    split at h
    · next c fs he =>
      obtain ⟨h1, h2⟩ := sx_a2 h
      rw [he, Nat.eq_of_beq_eq_true h1, of_decide_eq_true h2]
    · cases h
  · have h := List.all_eq_true.mp hA k (List.mem_range.mpr (ly_big h13))
    unfold sc_ck at h
    have hb : Nat.ble (ly_c k) 7 = false := by
      cases hb : Nat.ble (ly_c k) 7 with
      | false => rfl
      | true => have := Nat.le_of_ble_eq_true hb; omega
    rw [hb, cond_false] at h
    split at h
    · next t n tr he =>
      obtain ⟨h1, h2⟩ := sx_a2 h
      obtain ⟨h2, h3⟩ := sx_a2 h2
      refine ⟨tr, ?_, fun j hj => sc_ca_ok h8 h13 h3 hj⟩
      rw [he, Nat.eq_of_beq_eq_true h1, Nat.eq_of_beq_eq_true h2]
    · cases h
/-- all of it, at once -/
noncomputable def sc_on (r : Option (sx_R Int)) (f : sx_H Int → Bool) : Bool := match r with
  | some ((0, _), h) => f h
  | _ => false
theorem sc_on_ok {r : Option (sx_R Int)} {f : sx_H Int → Bool} (h : sc_on r f = true) : ∃ v hh, r = some ((0, v), hh) ∧ f hh = true := by
  match r, h with
  | none, h => cases h
  | some ((0, v), hh), h => exact ⟨v, hh, rfl, h⟩
  | some ((t + 1, v), hh), h => cases h
noncomputable def sc_cks (h : sx_H Int) (a : Nat) : Bool := (List.range 221).all (fun i => sc_ck h (Nat.add a i))
noncomputable def sc_all2 (hB : sx_H Int) : Bool := hB.2.2.2.2 && (Nat.beq hB.2.1 883 && sc_rm (sc_C0 hB))
noncomputable def sc_all1 (call : sx_K Int) (hA : sx_H Int) : Bool := hA.2.2.2.2 && (Nat.beq hA.2.1 856 && sc_on (call 90 [vr 856] (sc_B0 hA)) sc_all2)
noncomputable def sc_all (call : sx_K Int) : Bool := sc_on (call 46 [vr 0] sc_hA0) (sc_all1 call)
noncomputable def sc_allc (a : Nat) (call : sx_K Int) : Bool := sc_on (call 46 [vr 0] sc_hA0) (fun hA => sc_on (call 90 [vr 856] (sc_B0 hA)) (fun hB => sc_cks (sc_C0 hB) a))
theorem sc_all2_ok {hB : sx_H Int} (h : sc_all2 hB = true) : hB.2.2.2.2 = true ∧ hB.2.1 = 883 ∧ sc_rm (sc_C0 hB) = true := by
  unfold sc_all2 at h
  have h1 := sx_a2 h
  have h2 := sx_a2 h1.2
  exact ⟨h1.1, Nat.eq_of_beq_eq_true h2.1, h2.2⟩
theorem sc_all1_ok {call : sx_K Int} {hA : sx_H Int} (h : sc_all1 call hA = true) : hA.2.2.2.2 = true ∧ hA.2.1 = 856 ∧ ∃ v hB, call 90 [vr 856] (sc_B0 hA) = some ((0, v), hB) ∧ sc_all2 hB = true := by
  unfold sc_all1 at h
  have h1 := sx_a2 h
  have h2 := sx_a2 h1.2
  exact ⟨h1.1, Nat.eq_of_beq_eq_true h2.1, sc_on_ok h2.2⟩
theorem sc_ex {call : sx_K Int} (h : sc_all call = true) : ∃ v hA, call 46 [vr 0] sc_hA0 = some ((0, v), hA) ∧ sc_all1 call hA = true := sc_on_ok h
theorem sc_allc_ok {call : sx_K Int} {vA vB : sx_V Int} {hA hB : sx_H Int} {a : Nat} (h : sc_allc a call = true) (eA : call 46 [vr 0] sc_hA0 = some ((0, vA), hA)) (eB : call 90 [vr 856] (sc_B0 hA) = some ((0, vB), hB)) : sc_cks (sc_C0 hB) a = true := by
  unfold sc_allc at h
  rw [eA] at h
  have h2 : sc_on (call 90 [vr 856] (sc_B0 hA)) (fun hB => sc_cks (sc_C0 hB) a) = true := h
  rw [eB] at h2
  exact h2
theorem sc_cks_ok {h : sx_H Int} (h0 : sc_cks h 0 = true) (h1 : sc_cks h 221 = true) (h2 : sc_cks h 442 = true) (h3 : sc_cks h 663 = true) : (List.range 884).all (sc_ck h) = true := by
  refine List.all_eq_true.mpr (fun k hk => ?_)
  have hk := List.mem_range.mp hk
  have go : ∀ a : Nat, sc_cks h a = true → a ≤ k → k < a + 221 → sc_ck h k = true := fun a ha h4 h5 => by
    have h6 := List.all_eq_true.mp ha (k - a) (List.mem_range.mpr (by omega))
    have h7 : sc_ck h (a + (k - a)) = true := h6
    rwa [show a + (k - a) = k by omega] at h7
  rcases (show k < 221 ∨ (221 ≤ k ∧ k < 442) ∨ (442 ≤ k ∧ k < 663) ∨ (663 ≤ k ∧ k < 884) by omega) with h8 | h8 | h8 | h8
  · exact go 0 h0 (by omega) (by omega)
  · exact go 221 h1 (by omega) (by omega)
  · exact go 442 h2 (by omega) (by omega)
  · exact go 663 h3 (by omega) (by omega)
theorem sc_true : sc_all sc_call = true := by decide +kernel
theorem sc_true0 : sc_allc 0 sc_call = true := by decide +kernel
theorem sc_true1 : sc_allc 221 sc_call = true := by decide +kernel
theorem sc_true2 : sc_allc 442 sc_call = true := by decide +kernel
theorem sc_true3 : sc_allc 663 sc_call = true := by decide +kernel
/-- the law's whole run -/
theorem law_run {L : Nat} (hL : L ≤ 3072) (xs : Nat → Int32) : ∃ (n : Nat) (h : sx_H Int), sx_pre (ii_o L xs) sc_call (sx_run sx_cd (ii_o L xs) n) 13 (sx_cd 182) (sx_cd 182) (sx_args 0 [vs]) [] sc_h00 = some ((1, vi 1), h) ∧ h.2.2.1 ≤ 601024 ∧ h.2.2.2.1 ≤ 7293034 := by
  have htr := sc_true
  have ht0 := sc_true0
  have ht1 := sc_true1
  have ht2 := sc_true2
  have ht3 := sc_true3
  generalize sc_call = call at htr ht0 ht1 ht2 ht3 ⊢
  obtain ⟨vA, hA, eA, h9⟩ := sc_ex htr
  obtain ⟨fA, nA, vB, hB, eB, h9⟩ := sc_all1_ok h9
  obtain ⟨fB, nB, hrm⟩ := sc_all2_ok h9
  have hck := sc_cks_ok (sc_allc_ok ht0 eA eB) (sc_allc_ok ht1 eA eB) (sc_allc_ok ht2 eA eB) (sc_allc_ok ht3 eA eB)
  have hp := sc_ck_ok hck
  have hr := sc_rm_ok hrm
  have hpre := fun rn => sc_pre (L := L) (xs := xs) (rn := rn) (full := sx_cd 182) eA fA nA eB fB nB
  generalize sc_C0 hB = h13 at hp hr hpre
  obtain ⟨n, out, h1, M', h2, h3, h4, h5⟩ := law_loop (X := (L, xs)) hL 512 M0 0 (by decide) (by show (0 : Int) ≤ (L : Int); omega) (by show (L : Int) ≤ 0 + 6 * ((512 : Nat) : Int) + 5; omega) M0_R2 sc_ls h13 sc_lsR hp
  obtain ⟨⟨t, v⟩, hh⟩ := out
  obtain ⟨e1, x, e2, -, e3⟩ := h5
  have e1 : t = 1 := e1
  have e2 : v = vi x := e2
  have e3 : x = 1 := e3
  subst e1 e2 e3
  obtain ⟨r1, r2⟩ := hr
  have h3 : hh.2.2.1 ≤ h13.2.2.1 + (512 + 0) := h3
  have h4 : hh.2.2.2.1 ≤ h13.2.2.2.1 + 6 * (512 + 0) := h4
  refine ⟨n, hh, ?_, by omega, by omega⟩
  exact (hpre (sx_run sx_cd (ii_o L xs) n)).trans (h1 n (Nat.le_refl n))
