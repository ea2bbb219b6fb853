/-! ===== the same machine, faster: operations by halves, locals without 'filter' ===== -/
noncomputable def sx_flt {I : Type} (i : Nat) : sx_L I → sx_L I
  | [] => []
  | q :: r => cond (Nat.beq q.1 i) (sx_flt i r) (cond (Nat.beq (Nat.add q.1 1) i) (cond (sx_is2 q.2) (sx_flt i r) (q :: sx_flt i r)) (q :: sx_flt i r))
noncomputable def sx_stf {I : Type} (ls : sx_L I) (i : Nat) (v : sx_V I) : sx_L I := (i, v) :: sx_flt i ls
theorem sx_bq (a b : Nat) : (a == b) = Nat.beq a b := by
  cases h : Nat.beq a b with
  | true =>
    have h2 := Nat.eq_of_beq_eq_true h
    subst h2
    simp
  | false =>
    have h2 := Nat.ne_of_beq_eq_false h
    simp [h2]
theorem sx_flt_eq {I : Type} (i : Nat) (ls : sx_L I) : sx_flt i ls = ls.filter (fun q => !(q.1 == i) && !(q.1 + 1 == i && sx_is2 q.2)) := by
  induction ls with
  | nil => rfl
  | cons q r ih =>
    show cond (Nat.beq q.1 i) (sx_flt i r) (cond (Nat.beq (q.1 + 1) i) (cond (sx_is2 q.2) (sx_flt i r) (q :: sx_flt i r)) (q :: sx_flt i r)) = _
    rw [List.filter_cons, ih, sx_bq, sx_bq]
    cases Nat.beq q.1 i <;> cases Nat.beq (q.1 + 1) i <;> cases sx_is2 q.2 <;> rfl
theorem sx_stf_eq {I : Type} (ls : sx_L I) (i : Nat) (v : sx_V I) : sx_stf ls i v = sx_st ls i v := by
  unfold sx_stf sx_st
  rw [sx_flt_eq]
section
variable {I : Type} (o : sx_O I) (go : sx_G I) (a b : Nat) (cs : List sx_I) (ls : sx_L I) (st : List (sx_V I)) (h : sx_H I)
noncomputable def shf_istore : Option (sx_R I) := match st with
  | some (.inl i) :: r => go cs (sx_stf ls a (some (.inl i))) r h
  | _ => none
noncomputable def shf_astore : Option (sx_R I) := match st with
  | some (.inr (.inl k)) :: r => go cs (sx_stf ls a (some (.inr (.inl k)))) r h
  | none :: r => go cs (sx_stf ls a none) r h
  | _ => none
noncomputable def shf_iinc : Option (sx_R I) := match sx_lk ls a with
  | some (some (.inl i)) => match o.2.1 0 i (o.1 b) with
    | some v => go cs (sx_stf ls a (some (.inl v))) st h
    | none => none
  | _ => none
theorem shf_istore_eq : shf_istore go a cs ls st h = sh_istore go a cs ls st h := by
  unfold shf_istore sh_istore
  simp only [sx_stf_eq]
  rfl
theorem shf_astore_eq : shf_astore go a cs ls st h = sh_astore go a cs ls st h := by
  unfold shf_astore sh_astore
  simp only [sx_stf_eq]
  rfl
theorem shf_iinc_eq : shf_iinc o go a b cs ls st h = sh_iinc o go a b cs ls st h := by
  unfold shf_iinc sh_iinc
  simp only [sx_stf_eq]
  rfl
end
noncomputable def sx_h0 {I : Type} : sx_Hd I := fun _ _ go _ a _ _ cs ls st h => sh_aload go a cs ls st h
noncomputable def sx_h1 {I : Type} : sx_Hd I := fun _ _ go _ a b _ cs ls st h => sh_get go a b cs ls st h
noncomputable def sx_h2 {I : Type} : sx_Hd I := fun _ _ go _ a _ _ cs ls st h => sh_iload go a cs ls st h
noncomputable def sx_h3 {I : Type} : sx_Hd I := fun o _ go _ a _ _ cs ls st h => sh_const o go a cs ls st h
noncomputable def sx_h4 {I : Type} : sx_Hd I := fun _ call go _ a b _ cs ls st h => sh_callV call go a b cs ls st h
noncomputable def sx_h5 {I : Type} : sx_Hd I := fun _ _ go full _ b _ _ ls st h => sh_goto go full b ls st h
noncomputable def sx_h6 {I : Type} : sx_Hd I := fun o _ go _ a _ _ cs ls st h => sh_ald o go a cs ls st h
noncomputable def sx_h7 {I : Type} : sx_Hd I := fun _ _ _ _ _ _ _ _ _ st h => sh_iret st h
noncomputable def sx_h8 {I : Type} : sx_Hd I := fun o _ go _ a _ _ cs ls st h => sh_bin o go a cs ls st h
noncomputable def sx_h9 {I : Type} : sx_Hd I := fun _ _ go _ a _ _ cs ls st h => shf_istore go a cs ls st h
noncomputable def sx_h10 {I : Type} : sx_Hd I := fun o _ go full a b _ cs ls st h => sh_if o go full a b cs ls st h
noncomputable def sx_h11 {I : Type} : sx_Hd I := fun o _ go full a b _ cs ls st h => sh_icmp o go full a b cs ls st h
noncomputable def sx_h12 {I : Type} : sx_Hd I := fun o _ go _ a b _ cs ls st h => sh_put o go a b cs ls st h
noncomputable def sx_h13 {I : Type} : sx_Hd I := fun _ call go _ a b _ cs ls st h => sh_callS call go a b cs ls st h
noncomputable def sx_h14 {I : Type} : sx_Hd I := fun o _ go _ a b _ cs ls st h => shf_iinc o go a b cs ls st h
noncomputable def sx_h15 {I : Type} : sx_Hd I := fun o _ go _ a _ _ cs ls st h => sh_ast o go a cs ls st h
noncomputable def sx_h16 {I : Type} : sx_Hd I := fun _ _ go _ _ _ _ cs ls st h => sh_dup go cs ls st h
noncomputable def sx_h17 {I : Type} : sx_Hd I := fun _ _ _ _ _ _ _ _ _ st h => sh_vret st h
noncomputable def sx_h18 {I : Type} : sx_Hd I := fun _ call go _ a _ _ cs ls st h => sh_callI call go a cs ls st h
noncomputable def sx_h19 {I : Type} : sx_Hd I := fun o _ _ _ _ _ _ _ _ st h => sh_zret o st h
noncomputable def sx_h20 {I : Type} : sx_Hd I := fun o _ go _ a _ _ cs ls st h => sh_new o go a cs ls st h
noncomputable def sx_h21 {I : Type} : sx_Hd I := fun _ _ go _ _ _ _ cs ls st h => sh_i2l go cs ls st h
noncomputable def sx_h22 {I : Type} : sx_Hd I := fun _ _ go _ a _ _ cs ls st h => shf_astore go a cs ls st h
noncomputable def sx_h23 {I : Type} : sx_Hd I := fun o _ go _ a _ _ cs ls st h => sh_newa o go a cs ls st h
noncomputable def sx_h24 {I : Type} : sx_Hd I := fun o _ go _ _ _ _ cs ls st h => sh_alen o go cs ls st h
noncomputable def sx_h25 {I : Type} : sx_Hd I := fun _ _ _ _ a _ _ _ _ st h => sh_throw a st h
noncomputable def sx_h26 {I : Type} : sx_Hd I := fun o _ go _ _ _ _ cs ls st h => sh_lcmp o go cs ls st h
noncomputable def sx_h27 {I : Type} : sx_Hd I := fun _ _ go _ _ _ _ cs ls st h => sh_null go cs ls st h
noncomputable def sx_h28 {I : Type} : sx_Hd I := fun _ _ go _ _ _ _ cs ls st h => sh_dup2 go cs ls st h
noncomputable def sx_h29 {I : Type} : sx_Hd I := fun o _ go _ a _ _ cs ls st h => sh_anew o go a cs ls st h
noncomputable def sx_h30 {I : Type} : sx_Hd I := fun o _ go _ a b _ cs ls st h => sh_put o go a b cs ls st h
noncomputable def sx_h31 {I : Type} : sx_Hd I := fun _ _ go full _ b _ cs ls st h => sh_ifnull go full b cs ls st h
noncomputable def sx_h32 {I : Type} : sx_Hd I := fun _ _ go _ _ _ _ cs ls st h => sh_pop go cs ls st h
noncomputable def sx_h33 {I : Type} : sx_Hd I := fun _ _ _ _ _ _ _ _ _ st h => sh_aret st h
noncomputable def sx_h34 {I : Type} : sx_Hd I := fun o _ go _ _ _ _ cs ls st h => sh_max o go cs ls st h
noncomputable def sx_h35 {I : Type} : sx_Hd I := fun o _ go _ _ _ _ cs ls st h => sh_min o go cs ls st h
noncomputable def sx_h36 {I : Type} : sx_Hd I := fun o _ go _ a _ _ cs ls st h => sh_clone o go a cs ls st h
noncomputable def sx_h37 {I : Type} : sx_Hd I := fun o _ go full a b c _ ls st h => sh_switch o go full a b c ls st h
noncomputable def sx_h38 {I : Type} : sx_Hd I := fun _ _ go _ _ _ _ cs ls st h => sh_obj go cs ls st h
noncomputable def sx_h39 {I : Type} : sx_Hd I := fun o call go _ a b _ cs ls st h => sh_callW o call go a b cs ls st h
noncomputable def sx_h40 {I : Type} : sx_Hd I := fun _ call go _ a _ _ cs ls st h => sh_callI call go a cs ls st h
noncomputable def sx_h41 {I : Type} : sx_Hd I := fun _ call go _ a b _ cs ls st h => sh_callN call go a b cs ls st h
noncomputable def sx_h42 {I : Type} : sx_Hd I := fun _ _ _ _ a _ _ _ _ st h => sh_throw a st h
noncomputable def sx_h43 {I : Type} : sx_Hd I := fun _ call go _ a b _ cs ls st h => sh_callN call go a b cs ls st h
noncomputable def sx_hf {I : Type} (op : Nat) : sx_Hd I := cond (Nat.ble op 43) (cond (Nat.ble op 13) (cond (Nat.ble op 3) (cond (Nat.ble op 0) sx_h0 (cond (Nat.ble op 2) (cond (Nat.ble op 1) sx_h1 sx_h2) sx_h3)) (cond (Nat.ble op 6) (cond (Nat.ble op 5) (cond (Nat.ble op 4) sx_h4 sx_h5) sx_h6) (cond (Nat.ble op 8) (cond (Nat.ble op 7) sx_h7 sx_h8) (cond (Nat.ble op 9) sx_h9 (cond (Nat.ble op 10) sx_h10 (cond (Nat.ble op 12) (cond (Nat.ble op 11) sx_h11 sx_h12) sx_h13)))))) (cond (Nat.ble op 23) (cond (Nat.ble op 16) (cond (Nat.ble op 15) (cond (Nat.ble op 14) sx_h14 sx_h15) sx_h16) (cond (Nat.ble op 18) (cond (Nat.ble op 17) sx_h17 sx_h18) (cond (Nat.ble op 19) sx_h19 (cond (Nat.ble op 20) sx_h20 (cond (Nat.ble op 22) (cond (Nat.ble op 21) sx_h21 sx_h22) sx_h23))))) (cond (Nat.ble op 29) (cond (Nat.ble op 25) (cond (Nat.ble op 24) sx_h24 sx_h25) (cond (Nat.ble op 26) sx_h26 (cond (Nat.ble op 28) (cond (Nat.ble op 27) sx_h27 sx_h28) sx_h29))) (cond (Nat.ble op 33) (cond (Nat.ble op 30) sx_h30 (cond (Nat.ble op 32) (cond (Nat.ble op 31) sx_h31 sx_h32) sx_h33)) (cond (Nat.ble op 36) (cond (Nat.ble op 35) (cond (Nat.ble op 34) sx_h34 sx_h35) sx_h36) (cond (Nat.ble op 38) (cond (Nat.ble op 37) sx_h37 sx_h38) (cond (Nat.ble op 39) sx_h39 (cond (Nat.ble op 40) sx_h40 (cond (Nat.ble op 42) (cond (Nat.ble op 41) sx_h41 sx_h42) sx_h43))))))))) (fun _ _ _ _ _ _ _ _ _ _ _ => none)
theorem sx_hf_eq {I : Type} : (sx_hf : Nat → sx_Hd I) = sx_hd := by
  funext op
  match op with
  | 0 => rfl
  | 1 => rfl
  | 2 => rfl
  | 3 => rfl
  | 4 => rfl
  | 5 => rfl
  | 6 => rfl
  | 7 => rfl
  | 8 => rfl
  | 9 => exact funext fun o => funext fun call => funext fun go => funext fun full => funext fun a => funext fun b => funext fun c => funext fun cs => funext fun ls => funext fun st => funext fun h => shf_istore_eq go a cs ls st h
  | 10 => rfl
  | 11 => rfl
  | 12 => rfl
  | 13 => rfl
  | 14 => exact funext fun o => funext fun call => funext fun go => funext fun full => funext fun a => funext fun b => funext fun c => funext fun cs => funext fun ls => funext fun st => funext fun h => shf_iinc_eq o go a b cs ls st h
  | 15 => rfl
  | 16 => rfl
  | 17 => rfl
  | 18 => rfl
  | 19 => rfl
  | 20 => rfl
  | 21 => rfl
  | 22 => exact funext fun o => funext fun call => funext fun go => funext fun full => funext fun a => funext fun b => funext fun c => funext fun cs => funext fun ls => funext fun st => funext fun h => shf_astore_eq go a cs ls st h
  | 23 => rfl
  | 24 => rfl
  | 25 => rfl
  | 26 => rfl
  | 27 => rfl
  | 28 => rfl
  | 29 => rfl
  | 30 => rfl
  | 31 => rfl
  | 32 => rfl
  | 33 => rfl
  | 34 => rfl
  | 35 => rfl
  | 36 => rfl
  | 37 => rfl
  | 38 => rfl
  | 39 => rfl
  | 40 => rfl
  | 41 => rfl
  | 42 => rfl
  | 43 => rfl
  | n + 44 => rfl
noncomputable def sx_bf {I : Type} (hd : Nat → sx_Hd I) (cd : Nat → List sx_I) (o : sx_O I) (ih : List sx_I → sx_G I) : List sx_I → sx_G I := fun full cs ls st h => match cs with
  | [] => none
  | x :: r => hd (sx_xq x) o (fun m as h' => ih (cd m) (cd m) (sx_args 0 as) [] h') (ih full) full (sx_xa x) (sx_xb x) (sx_xc x) r ls st h
noncomputable def sx_runh {I : Type} (hd : Nat → sx_Hd I) (cd : Nat → List sx_I) (o : sx_O I) (n : Nat) : List sx_I → sx_G I :=
  Nat.rec (motive := fun _ => List sx_I → sx_G I) (fun _ _ _ _ _ => none) (fun _ ih => sx_bf hd cd o ih) n
theorem sx_bf_eq {I : Type} (cd : Nat → List sx_I) (o : sx_O I) (ih : List sx_I → sx_G I) : sx_bf sx_hd cd o ih = sx_b1 cd o ih := by
  funext full cs ls st h
  cases cs with
  | nil => rfl
  | cons x r => rfl
theorem sx_runh_eq {I : Type} (cd : Nat → List sx_I) (o : sx_O I) (n : Nat) : sx_runh sx_hf cd o n = sx_run cd o n := by
  rw [sx_hf_eq]
  induction n with
  | zero => rfl
  | succ n ih =>
    show sx_bf sx_hd cd o (sx_runh sx_hd cd o n) = sx_b1 cd o (sx_run cd o n)
    rw [ih, sx_bf_eq]
