/-! ===== what was made only grows ===== -/
noncomputable def sx_LE {I : Type} (h : sx_H I) (out : sx_R I) : Prop := h.2.2.1 ≤ out.2.2.2.1 ∧ h.2.2.2.1 ≤ out.2.2.2.2.1
theorem sx_cond {A : Type} {b : Bool} {x : Option A} {y : A} (h : cond b x none = some y) : b = true ∧ x = some y := by
  cases b with
  | false => cases h
  | true => exact ⟨rfl, h⟩
theorem sx_condn {A : Type} {b : Bool} {x : Option A} {y : A} (h : cond b none x = some y) : b = false ∧ x = some y := by
  cases b with
  | true => cases h
  | false => exact ⟨rfl, h⟩
section MO
variable {I : Type} {o : sx_O I} {call : sx_K I} {go : sx_G I} {full : List sx_I} {a b9 c9 : Nat} {cs : List sx_I} {ls : sx_L I} {st : List (sx_V I)} {h : sx_H I} {out : sx_R I}
theorem sx_LE_hn {e1 : sx_E I} {sl : Nat} (h9 : sx_LE (sx_hn h e1 sl) out) : sx_LE h out := ⟨Nat.le_trans (Nat.le_succ _) h9.1, Nat.le_trans (Nat.le_add_right _ _) h9.2⟩
theorem sx_LE_hs {k9 : Nat} {e1 : sx_E I} (h9 : sx_LE (sx_hs h k9 e1) out) : sx_LE h out := h9
theorem sx_LE_tr {h' : sx_H I} {z : Nat × sx_V I} (h1 : sx_LE h (z, h')) (h2 : sx_LE h' out) : sx_LE h out := ⟨Nat.le_trans h1.1 h2.1, Nat.le_trans h1.2 h2.2⟩
theorem mo_bk {r : List (sx_V I)} {res : Option (sx_R I)} (hres : ∀ out', res = some out' → sx_LE h out') (hg : ∀ cs ls st h, go cs ls st h = some out → sx_LE h out) (er : sx_bk go cs ls r res = some out) : sx_LE h out := by
  cases res with
  | none => cases er
  | some z =>
    obtain ⟨⟨t, v⟩, h'⟩ := z
    have h1 := hres _ rfl
    match t, h1, er with
    | 0, h1, er => exact sx_LE_tr h1 (hg cs ls r h' er)
    | 1, h1, er => exact sx_LE_tr h1 (hg cs ls (v :: r) h' er)
    | t + 2, h1, er =>
      have e9 : some ((t + 2, none), h') = some out := er
      cases e9
      exact h1
theorem mo_bkI {r : List (sx_V I)} {res : Option (sx_R I)} (hres : ∀ out', res = some out' → sx_LE h out') (hg : ∀ cs ls st h, go cs ls st h = some out → sx_LE h out) (er : sx_bkI go cs ls r res = some out) : sx_LE h out := by
  cases res with
  | none => cases er
  | some z =>
    obtain ⟨⟨t, v⟩, h'⟩ := z
    have h1 := hres _ rfl
    match t, h1, er with
    | 0, h1, er => exact sx_LE_tr h1 (hg cs ls r h' er)
    | t + 1, h1, er => cases er
theorem mo_bkN {r : List (sx_V I)} {res : Option (sx_R I)} (hres : ∀ out', res = some out' → sx_LE h out') (hg : ∀ cs ls st h, go cs ls st h = some out → sx_LE h out) (er : sx_bkN go cs ls r res = some out) : sx_LE h out := by
  cases res with
  | none => cases er
  | some z =>
    obtain ⟨⟨t, v⟩, h'⟩ := z
    have h1 := hres _ rfl
    match t, h1, er with
    | 0, h1, er => exact sx_LE_tr h1 (hg cs ls r h' er)
    | 1, h1, er => exact sx_LE_tr h1 (hg cs ls (v :: r) h' er)
    | t + 2, h1, er => cases er
theorem mo_bkW {r : List (sx_V I)} {res : Option (sx_R I)} (hres : ∀ out', res = some out' → sx_LE h out') (hg : ∀ cs ls st h, go cs ls st h = some out → sx_LE h out) (er : sx_bkW o go b9 cs ls r res = some out) : sx_LE h out := by
  cases res with
  | none => cases er
  | some z =>
    obtain ⟨⟨t, v⟩, h'⟩ := z
    have h1 := hres _ rfl
    match t, h1, er with
    | 0, h1, er => exact sx_LE_tr h1 (hg cs ls r h' er)
    | 1, h1, er => exact sx_LE_tr h1 (hg cs ls (v :: r) h' er)
    | t + 2, h1, er =>
      have e9 := (sx_condn er).2
      cases e9
      exact h1
theorem mo_hd (op : Nat) (hcall : ∀ m as h out', call m as h = some out' → sx_LE h out') (hg : ∀ cs ls st h, go cs ls st h = some out → sx_LE h out) (er : sx_hd op o call go full a b9 c9 cs ls st h = some out) : sx_LE h out := by
  match op, er with
  | 0, er =>
    have er : sh_aload go a cs ls st h = some out := er
    unfold sh_aload at er
    (repeat' (first | (split at er) | (replace er := (sx_cond er).2) | (replace er := (sx_condn er).2)))
    all_goals first | exact hg _ _ _ _ er | exact sx_LE_hs (hg _ _ _ _ er) | (cases er; done)
  | 1, er =>
    have er : sh_get go a b9 cs ls st h = some out := er
    unfold sh_get at er
    (repeat' (first | (split at er) | (replace er := (sx_cond er).2) | (replace er := (sx_condn er).2)))
    all_goals first | exact hg _ _ _ _ er | exact sx_LE_hs (hg _ _ _ _ er) | (cases er; done)
  | 2, er =>
    have er : sh_iload go a cs ls st h = some out := er
    unfold sh_iload at er
    (repeat' (first | (split at er) | (replace er := (sx_cond er).2) | (replace er := (sx_condn er).2)))
    all_goals first | exact hg _ _ _ _ er | exact sx_LE_hs (hg _ _ _ _ er) | (cases er; done)
  | 3, er =>
    have er : sh_const o go a cs ls st h = some out := er
    unfold sh_const at er
    exact hg _ _ _ _ er
  | 4, er =>
    have er : sh_callV call go a b9 cs ls st h = some out := er
    unfold sh_callV at er
    (repeat' (first | (split at er) | (replace er := (sx_cond er).2) | (replace er := (sx_condn er).2)))
    all_goals first | exact mo_bk (fun out' e9 => hcall _ _ _ _ e9) hg er | (cases er; done)
  | 5, er =>
    have er : sh_goto go full b9 ls st h = some out := er
    unfold sh_goto at er
    exact hg _ _ _ _ er
  | 6, er =>
    have er : sh_ald o go a cs ls st h = some out := er
    unfold sh_ald at er
    (repeat' (first | (split at er) | (replace er := (sx_cond er).2) | (replace er := (sx_condn er).2)))
    all_goals first | exact hg _ _ _ _ er | exact sx_LE_hs (hg _ _ _ _ er) | (cases er; done)
  | 7, er =>
    have er : sh_iret st h = some out := er
    unfold sh_iret at er
    (repeat' (first | (split at er) | (replace er := (sx_cond er).2) | (replace er := (sx_condn er).2)))
    all_goals (cases er; try exact ⟨Nat.le_refl _, Nat.le_refl _⟩)
  | 8, er =>
    have er : sh_bin o go a cs ls st h = some out := er
    unfold sh_bin at er
    (repeat' (first | (split at er) | (replace er := (sx_cond er).2) | (replace er := (sx_condn er).2)))
    all_goals first | exact hg _ _ _ _ er | exact sx_LE_hs (hg _ _ _ _ er) | (cases er; done)
  | 9, er =>
    have er : sh_istore go a cs ls st h = some out := er
    unfold sh_istore at er
    (repeat' (first | (split at er) | (replace er := (sx_cond er).2) | (replace er := (sx_condn er).2)))
    all_goals first | exact hg _ _ _ _ er | exact sx_LE_hs (hg _ _ _ _ er) | (cases er; done)
  | 10, er =>
    have er : sh_if o go full a b9 cs ls st h = some out := er
    unfold sh_if at er
    (repeat' (first | (split at er) | (replace er := (sx_cond er).2) | (replace er := (sx_condn er).2)))
    all_goals first | exact hg _ _ _ _ er | exact sx_LE_hs (hg _ _ _ _ er) | (cases er; done)
  | 11, er =>
    have er : sh_icmp o go full a b9 cs ls st h = some out := er
    unfold sh_icmp at er
    (repeat' (first | (split at er) | (replace er := (sx_cond er).2) | (replace er := (sx_condn er).2)))
    all_goals first | exact hg _ _ _ _ er | exact sx_LE_hs (hg _ _ _ _ er) | (cases er; done)
  | 12, er =>
    have er : sh_put o go a b9 cs ls st h = some out := er
    unfold sh_put at er
    (repeat' (first | (split at er) | (replace er := (sx_cond er).2) | (replace er := (sx_condn er).2)))
    all_goals first | exact hg _ _ _ _ er | exact sx_LE_hs (hg _ _ _ _ er) | (cases er; done)
  | 13, er =>
    have er : sh_callS call go a b9 cs ls st h = some out := er
    unfold sh_callS at er
    (repeat' (first | (split at er) | (replace er := (sx_cond er).2) | (replace er := (sx_condn er).2)))
    all_goals first | exact mo_bk (fun out' e9 => hcall _ _ _ _ e9) hg er | (cases er; done)
  | 14, er =>
    have er : sh_iinc o go a b9 cs ls st h = some out := er
    unfold sh_iinc at er
    (repeat' (first | (split at er) | (replace er := (sx_cond er).2) | (replace er := (sx_condn er).2)))
    all_goals first | exact hg _ _ _ _ er | exact sx_LE_hs (hg _ _ _ _ er) | (cases er; done)
  | 15, er =>
    have er : sh_ast o go a cs ls st h = some out := er
    unfold sh_ast at er
    (repeat' (first | (split at er) | (replace er := (sx_cond er).2) | (replace er := (sx_condn er).2)))
    all_goals first | exact hg _ _ _ _ er | exact sx_LE_hs (hg _ _ _ _ er) | (cases er; done)
  | 16, er =>
    have er : sh_dup go cs ls st h = some out := er
    unfold sh_dup at er
    (repeat' (first | (split at er) | (replace er := (sx_cond er).2) | (replace er := (sx_condn er).2)))
    all_goals first | exact hg _ _ _ _ er | exact sx_LE_hs (hg _ _ _ _ er) | (cases er; done)
  | 17, er =>
    have er : sh_vret st h = some out := er
    unfold sh_vret at er
    (repeat' (first | (split at er) | (replace er := (sx_cond er).2) | (replace er := (sx_condn er).2)))
    all_goals (cases er; try exact ⟨Nat.le_refl _, Nat.le_refl _⟩)
  | 18, er =>
    have er : sh_callI call go a cs ls st h = some out := er
    unfold sh_callI at er
    (repeat' (first | (split at er) | (replace er := (sx_cond er).2) | (replace er := (sx_condn er).2)))
    all_goals first | exact mo_bkI (fun out' e9 => hcall _ _ _ _ e9) hg er | (cases er; done)
  | 19, er =>
    have er : sh_zret o st h = some out := er
    unfold sh_zret at er
    (repeat' (first | (split at er) | (replace er := (sx_cond er).2) | (replace er := (sx_condn er).2)))
    all_goals (cases er; try exact ⟨Nat.le_refl _, Nat.le_refl _⟩)
  | 20, er =>
    have er : sh_new o go a cs ls st h = some out := er
    unfold sh_new at er
    (repeat' (first | (split at er) | (replace er := (sx_cond er).2) | (replace er := (sx_condn er).2)))
    all_goals first | exact sx_LE_hn (hg _ _ _ _ er) | (cases er; done)
  | 21, er =>
    have er : sh_i2l go cs ls st h = some out := er
    unfold sh_i2l at er
    (repeat' (first | (split at er) | (replace er := (sx_cond er).2) | (replace er := (sx_condn er).2)))
    all_goals first | exact hg _ _ _ _ er | exact sx_LE_hs (hg _ _ _ _ er) | (cases er; done)
  | 22, er =>
    have er : sh_astore go a cs ls st h = some out := er
    unfold sh_astore at er
    (repeat' (first | (split at er) | (replace er := (sx_cond er).2) | (replace er := (sx_condn er).2)))
    all_goals first | exact hg _ _ _ _ er | exact sx_LE_hs (hg _ _ _ _ er) | (cases er; done)
  | 23, er =>
    have er : sh_newa o go a cs ls st h = some out := er
    unfold sh_newa at er
    (repeat' (first | (split at er) | (replace er := (sx_cond er).2) | (replace er := (sx_condn er).2)))
    all_goals first | exact sx_LE_hn (hg _ _ _ _ er) | (cases er; done)
  | 24, er =>
    have er : sh_alen o go cs ls st h = some out := er
    unfold sh_alen at er
    (repeat' (first | (split at er) | (replace er := (sx_cond er).2) | (replace er := (sx_condn er).2)))
    all_goals first | exact hg _ _ _ _ er | exact sx_LE_hs (hg _ _ _ _ er) | (cases er; done)
  | 25, er =>
    have er : sh_throw a st h = some out := er
    unfold sh_throw at er
    replace er := (sx_cond er).2
    cases er
    exact ⟨Nat.le_add_right _ _, Nat.le_add_right _ _⟩
  | 26, er =>
    have er : sh_lcmp o go cs ls st h = some out := er
    unfold sh_lcmp at er
    (repeat' (first | (split at er) | (replace er := (sx_cond er).2) | (replace er := (sx_condn er).2)))
    all_goals first | exact hg _ _ _ _ er | exact sx_LE_hs (hg _ _ _ _ er) | (cases er; done)
  | 27, er =>
    have er : sh_null go cs ls st h = some out := er
    unfold sh_null at er
    exact hg _ _ _ _ er
  | 28, er =>
    have er : sh_dup2 go cs ls st h = some out := er
    unfold sh_dup2 at er
    (repeat' (first | (split at er) | (replace er := (sx_cond er).2) | (replace er := (sx_condn er).2)))
    all_goals first | exact hg _ _ _ _ er | exact sx_LE_hs (hg _ _ _ _ er) | (cases er; done)
  | 29, er =>
    have er : sh_anew o go a cs ls st h = some out := er
    unfold sh_anew at er
    (repeat' (first | (split at er) | (replace er := (sx_cond er).2) | (replace er := (sx_condn er).2)))
    all_goals first | exact sx_LE_hn (hg _ _ _ _ er) | (cases er; done)
  | 30, er =>
    have er : sh_put o go a b9 cs ls st h = some out := er
    unfold sh_put at er
    (repeat' (first | (split at er) | (replace er := (sx_cond er).2) | (replace er := (sx_condn er).2)))
    all_goals first | exact hg _ _ _ _ er | exact sx_LE_hs (hg _ _ _ _ er) | (cases er; done)
  | 31, er =>
    have er : sh_ifnull go full b9 cs ls st h = some out := er
    unfold sh_ifnull at er
    (repeat' (first | (split at er) | (replace er := (sx_cond er).2) | (replace er := (sx_condn er).2)))
    all_goals first | exact hg _ _ _ _ er | exact sx_LE_hs (hg _ _ _ _ er) | (cases er; done)
  | 32, er =>
    have er : sh_pop go cs ls st h = some out := er
    unfold sh_pop at er
    (repeat' (first | (split at er) | (replace er := (sx_cond er).2) | (replace er := (sx_condn er).2)))
    all_goals first | exact hg _ _ _ _ er | exact sx_LE_hs (hg _ _ _ _ er) | (cases er; done)
  | 33, er =>
    have er : sh_aret st h = some out := er
    unfold sh_aret at er
    (repeat' (first | (split at er) | (replace er := (sx_cond er).2) | (replace er := (sx_condn er).2)))
    all_goals (cases er; try exact ⟨Nat.le_refl _, Nat.le_refl _⟩)
  | 34, er =>
    have er : sh_max o go cs ls st h = some out := er
    unfold sh_max at er
    (repeat' (first | (split at er) | (replace er := (sx_cond er).2) | (replace er := (sx_condn er).2)))
    all_goals first | exact hg _ _ _ _ er | exact sx_LE_hs (hg _ _ _ _ er) | (cases er; done)
  | 35, er =>
    have er : sh_min o go cs ls st h = some out := er
    unfold sh_min at er
    (repeat' (first | (split at er) | (replace er := (sx_cond er).2) | (replace er := (sx_condn er).2)))
    all_goals first | exact hg _ _ _ _ er | exact sx_LE_hs (hg _ _ _ _ er) | (cases er; done)
  | 36, er =>
    have er : sh_clone o go a cs ls st h = some out := er
    unfold sh_clone at er
    (repeat' (first | (split at er) | (replace er := (sx_cond er).2) | (replace er := (sx_condn er).2)))
    all_goals first | exact sx_LE_hn (hg _ _ _ _ er) | (cases er; done)
  | 37, er =>
    have er : sh_switch o go full a b9 c9 ls st h = some out := er
    unfold sh_switch at er
    split at er
    · split at er
      · next n9 hn9 =>
        cases hz : Nat.ble (n9 + 1) a with
        | true => rw [hz] at er; exact hg _ _ _ _ er
        | false =>
          rw [hz] at er
          exact hg _ _ _ _ (sx_cond er).2
      · cases er
    · cases er
  | 38, er =>
    have er : sh_obj go cs ls st h = some out := er
    unfold sh_obj at er
    (repeat' (first | (split at er) | (replace er := (sx_cond er).2) | (replace er := (sx_condn er).2)))
    all_goals first | exact hg _ _ _ _ er | exact sx_LE_hs (hg _ _ _ _ er) | (cases er; done)
  | 39, er =>
    have er : sh_callW o call go a b9 cs ls st h = some out := er
    unfold sh_callW at er
    (repeat' (first | (split at er) | (replace er := (sx_cond er).2) | (replace er := (sx_condn er).2)))
    all_goals first | exact mo_bkW (fun out' e9 => hcall _ _ _ _ e9) hg er | (cases er; done)
  | 40, er =>
    have er : sh_callI call go a cs ls st h = some out := er
    unfold sh_callI at er
    (repeat' (first | (split at er) | (replace er := (sx_cond er).2) | (replace er := (sx_condn er).2)))
    all_goals first | exact mo_bkI (fun out' e9 => hcall _ _ _ _ e9) hg er | (cases er; done)
  | 41, er =>
    have er : sh_callN call go a b9 cs ls st h = some out := er
    unfold sh_callN at er
    (repeat' (first | (split at er) | (replace er := (sx_cond er).2) | (replace er := (sx_condn er).2)))
    all_goals first | exact mo_bkN (fun out' e9 => hcall _ _ _ _ e9) hg er | (cases er; done)
  | 42, er =>
    have er : sh_throw a st h = some out := er
    unfold sh_throw at er
    replace er := (sx_cond er).2
    cases er
    exact ⟨Nat.le_add_right _ _, Nat.le_add_right _ _⟩
  | 43, er =>
    have er : sh_callN call go a b9 cs ls st h = some out := er
    unfold sh_callN at er
    (repeat' (first | (split at er) | (replace er := (sx_cond er).2) | (replace er := (sx_condn er).2)))
    all_goals first | exact mo_bkN (fun out' e9 => hcall _ _ _ _ e9) hg er | (cases er; done)
  | n + 44, er => cases er
end MO
theorem sx_mono {I : Type} {cd : Nat → List sx_I} {o : sx_O I} (n : Nat) : ∀ (full cs : List sx_I) (ls : sx_L I) (st : List (sx_V I)) (h : sx_H I) (out : sx_R I), sx_run cd o n full cs ls st h = some out → sx_LE h out := by
  induction n with
  | zero => intro full cs ls st h out er; cases er
  | succ n ih =>
    intro full cs ls st h out er
    rw [sx_run_succ] at er
    cases cs with
    | nil => cases er
    | cons x r =>
      rw [sx_b1_cons] at er
      exact mo_hd (sx_xq x) (fun m as h out' e => ih _ _ _ _ _ _ e) (fun cs ls st h e => ih _ _ _ _ _ _ e) er
