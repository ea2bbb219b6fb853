/-! ===== the abstract machine: values, heaps, a step function, a run ===== -/
abbrev sx_V (I : Type) : Type := Option (I ⊕ (Nat ⊕ (I ⊕ Unit)))
abbrev sx_L (I : Type) : Type := List (Nat × sx_V I)
noncomputable def sx_T (A : Type) (n : Nat) : Type := Nat.rec (motive := fun _ => Type) A (fun _ T => T × T) n
noncomputable def sx_tr {A : Type} (n : Nat) (v : A) : sx_T A n := Nat.rec (motive := fun n => sx_T A n) v (fun _ t => (t, t)) n
noncomputable def sx_tg {A : Type} (n : Nat) : sx_T A n → Nat → Option A :=
  Nat.rec (motive := fun n => sx_T A n → Nat → Option A) (fun t i => cond (Nat.beq i 0) (some t) none)
    (fun _ ih t i => cond (Nat.beq (Nat.mod i 2) 0) (ih (Prod.fst t) (Nat.div i 2)) (ih (Prod.snd t) (Nat.div i 2))) n
noncomputable def sx_ts {A : Type} (n : Nat) : sx_T A n → Nat → A → sx_T A n :=
  Nat.rec (motive := fun n => sx_T A n → Nat → A → sx_T A n) (fun t i v => cond (Nat.beq i 0) v t)
    (fun _ ih t i v => cond (Nat.beq (Nat.mod i 2) 0) (ih (Prod.fst t) (Nat.div i 2) v, Prod.snd t) (Prod.fst t, ih (Prod.snd t) (Nat.div i 2) v)) n
noncomputable def sx_fs {A : Type} {n : Nat} (t : sx_T A (n + 1)) : sx_T A n := Prod.fst (α := sx_T A n) (β := sx_T A n) t
noncomputable def sx_sn {A : Type} {n : Nat} (t : sx_T A (n + 1)) : sx_T A n := Prod.snd (α := sx_T A n) (β := sx_T A n) t
noncomputable def sx_lf {A : Type} (t : sx_T A 0) : A := t
noncomputable def sx_mk {A : Type} {n : Nat} (t u : sx_T A n) : sx_T A (n + 1) := ((t, u) : sx_T A n × sx_T A n)
theorem sx_tg_zero {A : Type} (t : sx_T A 0) (i : Nat) : sx_tg (A := A) 0 t i = cond (Nat.beq i 0) (some (sx_lf t)) none := rfl
theorem sx_tg_succ {A : Type} (n : Nat) (t : sx_T A (n + 1)) (i : Nat) : sx_tg (A := A) (n + 1) t i = cond (Nat.beq (Nat.mod i 2) 0) (sx_tg n (sx_fs t) (Nat.div i 2)) (sx_tg n (sx_sn t) (Nat.div i 2)) := rfl
theorem sx_ts_zero {A : Type} (t : sx_T A 0) (i : Nat) (v : A) : sx_ts (A := A) 0 t i v = (cond (Nat.beq i 0) v (sx_lf t) : A) := rfl
theorem sx_fs_mk {A : Type} {n : Nat} (t u : sx_T A n) : sx_fs (sx_mk t u) = t := rfl
theorem sx_sn_mk {A : Type} {n : Nat} (t u : sx_T A n) : sx_sn (sx_mk t u) = u := rfl
theorem sx_ts_succ {A : Type} (n : Nat) (t : sx_T A (n + 1)) (i : Nat) (v : A) : sx_ts (A := A) (n + 1) t i v = cond (Nat.beq (Nat.mod i 2) 0) (sx_mk (sx_ts n (sx_fs t) (Nat.div i 2) v) (sx_sn t)) (sx_mk (sx_fs t) (sx_ts n (sx_sn t) (Nat.div i 2) v)) := rfl
theorem sx_tr_succ {A : Type} (n : Nat) (v : A) : sx_tr (n + 1) v = sx_mk (sx_tr n v) (sx_tr n v) := rfl
theorem sx_beq0 (i : Nat) : (Nat.beq i 0 = true ∧ i = 0) ∨ (Nat.beq i 0 = false ∧ i ≠ 0) := by
  cases i with
  | zero => exact Or.inl ⟨rfl, rfl⟩
  | succ i => exact Or.inr ⟨rfl, by omega⟩
theorem sx_half {i j : Nat} (h : i ≠ j) (h1 : Nat.mod i 2 = Nat.mod j 2) : Nat.div i 2 ≠ Nat.div j 2 := by
  have a1 : i % 2 = j % 2 := h1
  intro h2
  have a2 : i / 2 = j / 2 := h2
  omega
theorem sx_tg_same {A : Type} (n : Nat) : ∀ (t : sx_T A n) (i : Nat) (w v : A), sx_tg n t i = some w → sx_tg n (sx_ts n t i v) i = some v := by
  induction n with
  | zero =>
    intro t i w v h
    rw [sx_tg_zero] at h
    rw [sx_tg_zero]
    rcases sx_beq0 i with ⟨e, -⟩ | ⟨e, -⟩
    · rw [e]
      show some (sx_lf (sx_ts 0 t i v)) = some v
      rw [sx_ts_zero, e]; rfl
    · rw [e] at h; cases h
  | succ n ih =>
    intro t i w v h
    rw [sx_tg_succ] at h
    rw [sx_ts_succ, sx_tg_succ]
    rcases sx_beq0 (Nat.mod i 2) with ⟨e, -⟩ | ⟨e, -⟩
    · rw [e] at h ⊢
      exact ih _ _ w v h
    · rw [e] at h ⊢
      exact ih _ _ w v h
theorem sx_tg_ne {A : Type} (n : Nat) : ∀ (t : sx_T A n) (i j : Nat) (v : A), j ≠ i → sx_tg n (sx_ts n t i v) j = sx_tg n t j := by
  induction n with
  | zero =>
    intro t i j v h
    rw [sx_tg_zero, sx_tg_zero]
    rcases sx_beq0 j with ⟨e, e0⟩ | ⟨e, e0⟩
    · rcases sx_beq0 i with ⟨f, f0⟩ | ⟨f, f0⟩
      · exact absurd (e0.trans f0.symm) h
      · rw [e]
        show some (sx_lf (sx_ts 0 t i v)) = some (sx_lf t)
        rw [sx_ts_zero, f]; rfl
    · rw [e]; rfl
  | succ n ih =>
    intro t i j v h
    rw [sx_ts_succ, sx_tg_succ, sx_tg_succ]
    have hm : ∀ k : Nat, Nat.mod k 2 = 0 ∨ Nat.mod k 2 = 1 := fun k => (by omega : k % 2 = 0 ∨ k % 2 = 1)
    rcases hm i with hi | hi <;> rcases hm j with hj | hj <;> rw [hi, hj]
    · exact ih _ _ _ v (sx_half h (hj.trans hi.symm))
    · rfl
    · rfl
    · exact ih _ _ _ v (sx_half h (hj.trans hi.symm))
theorem sx_tg_some {A : Type} (n : Nat) : ∀ (t : sx_T A n) (i : Nat), i < 2 ^ n → ∃ w, sx_tg n t i = some w := by
  induction n with
  | zero =>
    intro t i h
    have h0 : i = 0 := by simpa using h
    subst h0
    exact ⟨sx_lf t, rfl⟩
  | succ n ih =>
    intro t i h
    have h1 : Nat.div i 2 < 2 ^ n := by
      have h2 : i / 2 < 2 ^ n := by rw [Nat.pow_succ] at h; omega
      exact h2
    rw [sx_tg_succ]
    rcases sx_beq0 (Nat.mod i 2) with ⟨e, -⟩ | ⟨e, -⟩
    · rw [e]; exact ih _ _ h1
    · rw [e]; exact ih _ _ h1
theorem sx_tg_tr {A : Type} (n : Nat) : ∀ (i : Nat) (v : A), i < 2 ^ n → sx_tg n (sx_tr n v) i = some v := by
  induction n with
  | zero =>
    intro i v h
    have h0 : i = 0 := by simpa using h
    subst h0
    rfl
  | succ n ih =>
    intro i v h
    rw [sx_tr_succ, sx_tg_succ]
    have h1 : Nat.div i 2 < 2 ^ n := by
      have h2 : i / 2 < 2 ^ n := by rw [Nat.pow_succ] at h; omega
      exact h2
    rcases sx_beq0 (Nat.mod i 2) with ⟨e, -⟩ | ⟨e, -⟩
    · rw [e]; exact ih _ v h1
    · rw [e]; exact ih _ v h1
/-- an object: its class's number, its fields; an array: its type's number, its length, its contents -/
abbrev sx_E (I : Type) : Type := (Nat × List (sx_V I)) ⊕ (Nat × (Nat × sx_T (sx_V I) 13))
/-- the cells; how many; how many cells and slots were made; whether the next address is known -/
abbrev sx_H (I : Type) : Type := sx_T (Option (sx_E I)) 10 × (Nat × (Nat × (Nat × Bool)))
noncomputable def sx_hg {I : Type} (h : sx_H I) (k : Nat) : Option (sx_E I) := match sx_tg 10 h.1 k with
  | some (some e) => some e
  | _ => none
noncomputable def sx_hs {I : Type} (h : sx_H I) (k : Nat) (e : sx_E I) : sx_H I := (sx_ts 10 h.1 k (some e), h.2)
noncomputable def sx_hn {I : Type} (h : sx_H I) (e : sx_E I) (sl : Nat) : sx_H I := (sx_ts 10 h.1 h.2.1 (some e), (Nat.add h.2.1 1, (Nat.add h.2.2.1 1, (Nat.add h.2.2.2.1 sl, h.2.2.2.2))))
/-- one cell of six slots, not of the picture -/
noncomputable def sx_hx {I : Type} (h : sx_H I) : sx_H I := (h.1, (h.2.1, (Nat.add h.2.2.1 1, (Nat.add h.2.2.2.1 6, false))))
/-- constants, binary operations, tests, known values, the script's length and ints -/
abbrev sx_O (I : Type) : Type := (Nat → I) × ((Nat → I → I → Option I) × ((Nat → I → I → Option Bool) × ((I → Option Nat) × (Nat × (Nat → I)))))
/-- pc, operation, three numbers, in one -/
abbrev sx_I : Type := Nat
noncomputable def sx_xp (x : Nat) : Nat := Nat.mod x 4096
noncomputable def sx_xq (x : Nat) : Nat := Nat.mod (Nat.div x 4096) 64
noncomputable def sx_xa (x : Nat) : Nat := Nat.mod (Nat.div x 262144) 8589934592
noncomputable def sx_xb (x : Nat) : Nat := Nat.mod (Nat.div x 2251799813685248) 8589934592
noncomputable def sx_xc (x : Nat) : Nat := Nat.div x 19342813113834066795298816
/-- 0: nothing, 1: a value, 2 + k: the exception k -/
abbrev sx_R (I : Type) : Type := (Nat × sx_V I) × sx_H I
abbrev sx_K (I : Type) : Type := Nat → List (sx_V I) → sx_H I → Option (sx_R I)
abbrev sx_G (I : Type) : Type := List sx_I → sx_L I → List (sx_V I) → sx_H I → Option (sx_R I)
noncomputable def sx_lk {I : Type} (ls : sx_L I) (i : Nat) : Option (sx_V I) := match ls with
  | [] => none
  | q :: r => cond (Nat.beq q.1 i) (some q.2) (sx_lk r i)
noncomputable def sx_is2 {I : Type} : sx_V I → Bool
  | some (.inr (.inr (.inl _))) => true
  | _ => false
noncomputable def sx_st {I : Type} (ls : sx_L I) (i : Nat) (v : sx_V I) : sx_L I := (i, v) :: ls.filter (fun q => !(q.1 == i) && !(q.1 + 1 == i && sx_is2 q.2))
noncomputable def sx_args {I : Type} : Nat → List (sx_V I) → sx_L I
  | _, [] => []
  | i, v :: vs => (i, v) :: sx_args (cond (sx_is2 v) (i + 2) (i + 1)) vs
abbrev sx_Hd (I : Type) : Type := sx_O I → sx_K I → sx_G I → List sx_I → Nat → Nat → Nat → List sx_I → sx_L I → List (sx_V I) → sx_H I → Option (sx_R I)
section
variable {I : Type} (o : sx_O I) (call : sx_K I) (go : sx_G I) (full : List sx_I) (a b c : Nat) (cs : List sx_I) (ls : sx_L I) (st : List (sx_V I)) (h : sx_H I)
noncomputable def sh_iload : Option (sx_R I) := match sx_lk ls a with
  | some (some (.inl i)) => go cs ls (some (.inl i) :: st) h
  | _ => none
noncomputable def sh_aload : Option (sx_R I) := match sx_lk ls a with
  | some (some (.inr (.inl k))) => go cs ls (some (.inr (.inl k)) :: st) h
  | some none => go cs ls (none :: st) h
  | some (some (.inr (.inr (.inr u)))) => go cs ls (some (.inr (.inr (.inr u))) :: st) h
  | _ => none
noncomputable def sh_const : Option (sx_R I) := go cs ls (some (.inl (o.1 a)) :: st) h
noncomputable def sh_istore : Option (sx_R I) := match st with
  | some (.inl i) :: r => go cs (sx_st ls a (some (.inl i))) r h
  | _ => none
noncomputable def sh_astore : Option (sx_R I) := match st with
  | some (.inr (.inl k)) :: r => go cs (sx_st ls a (some (.inr (.inl k)))) r h
  | none :: r => go cs (sx_st ls a none) r h
  | _ => none
noncomputable def sh_iinc : Option (sx_R I) := match sx_lk ls a with
  | some (some (.inl i)) => match o.2.1 0 i (o.1 b) with
    | some v => go cs (sx_st ls a (some (.inl v))) st h
    | none => none
  | _ => none
noncomputable def sh_bin : Option (sx_R I) := match st with
  | some (.inl j) :: some (.inl i) :: r => match o.2.1 a i j with
    | some v => go cs ls (some (.inl v) :: r) h
    | none => none
  | _ => none
noncomputable def sh_i2l : Option (sx_R I) := match st with
  | some (.inl i) :: r => go cs ls (some (.inr (.inr (.inl i))) :: r) h
  | _ => none
noncomputable def sh_lcmp : Option (sx_R I) := match st with
  | some (.inr (.inr (.inl j))) :: some (.inr (.inr (.inl i))) :: r => match o.2.2.1 0 i j with
    | some true => go cs ls (some (.inl (o.1 0)) :: r) h
    | some false => match o.2.2.1 2 i j with
      | some true => go cs ls (some (.inl (o.1 4294967295)) :: r) h
      | some false => go cs ls (some (.inl (o.1 1)) :: r) h
      | none => none
    | none => none
  | _ => none
noncomputable def sh_icmp : Option (sx_R I) := match st with
  | some (.inl j) :: some (.inl i) :: r => match o.2.2.1 a i j with
    | some true => go (full.drop b) ls r h
    | some false => go cs ls r h
    | none => none
  | _ => none
noncomputable def sh_if : Option (sx_R I) := match st with
  | some (.inl i) :: r => match o.2.2.1 a i (o.1 0) with
    | some true => go (full.drop b) ls r h
    | some false => go cs ls r h
    | none => none
  | _ => none
noncomputable def sh_goto : Option (sx_R I) := go (full.drop b) ls st h
noncomputable def sh_ifnull : Option (sx_R I) := match st with
  | some (.inr (.inl _)) :: r => go cs ls r h
  | none :: r => go (full.drop b) ls r h
  | _ => none
noncomputable def sh_get : Option (sx_R I) := match st with
  | some (.inr (.inl k)) :: r => match sx_hg h k with
    | some (.inl (ci, fs)) => cond (Nat.beq ci (Nat.mod a 16)) (match fs[b]? with
      | some v => go cs ls (v :: r) h
      | none => none) none
    | _ => none
  | _ => none
/-- a value that fits a field of the type t: 0 int, 1 boolean, 2 a reference -/
noncomputable def sx_fit (o : sx_O I) (t : Nat) : sx_V I → Bool
  | some (.inl i) => match t with
    | 0 => true
    | 1 => match o.2.2.2.1 i with
      | some n => Nat.beq n 0 || Nat.beq n 1
      | none => false
    | _ => false
  | some (.inr (.inl _)) => Nat.beq t 2
  | none => Nat.beq t 2
  | _ => false
noncomputable def sh_put : Option (sx_R I) := match st with
  | v :: some (.inr (.inl k)) :: r => match sx_hg h k with
    | some (.inl (ci, fs)) => cond (Nat.beq ci (Nat.mod a 16) && (Nat.ble (b + 1) fs.length && sx_fit o (Nat.div a 16) v)) (go cs ls r (sx_hs h k (.inl (ci, fs.set b v)))) none
    | _ => none
  | _ => none
/-- the index, if it lies within n -/
noncomputable def sx_ix (o : sx_O I) (i : I) (n : Nat) : Option Nat := match o.2.2.2.1 i with
  | some k => cond (Nat.ble (k + 1) n && Nat.ble (k + 1) 8192) (some k) none
  | none => none
noncomputable def sh_ald : Option (sx_R I) := match st with
  | some (.inl i) :: some (.inr (.inl k)) :: r => match sx_hg h k with
    | some (.inr (t, (n, tr))) => cond (Nat.beq t a) (match sx_ix o i n with
      | some j => match sx_tg 13 tr j with
        | some v => go cs ls (v :: r) h
        | none => none
      | none => none) none
    | _ => none
  | some (.inl i) :: some (.inr (.inr (.inr _))) :: r => cond (Nat.beq a 0) (match sx_ix o i o.2.2.2.2.1 with
      | some j => go cs ls (some (.inl (o.2.2.2.2.2 j)) :: r) h
      | none => none) none
  | _ => none
/-- a value that fits an element of the array type t: 0 int, 1 boolean, 2 long, 3 and more a reference -/
noncomputable def sx_afit (o : sx_O I) (h : sx_H I) (t : Nat) : sx_V I → Bool
  | some (.inl i) => match t with
    | 0 => true
    | 1 => match o.2.2.2.1 i with
      | some n => Nat.beq n 0 || Nat.beq n 1
      | none => false
    | _ => false
  | some (.inr (.inr (.inl _))) => Nat.beq t 2
  | some (.inr (.inl k)) => match sx_hg h k with
    | some (.inl (ci, _)) => (Nat.beq t 3 && Nat.beq ci 4) || (Nat.beq t 4 && Nat.beq ci 0)
    | _ => false
  | _ => false
noncomputable def sh_ast : Option (sx_R I) := match st with
  | v :: some (.inl i) :: some (.inr (.inl k)) :: r => match sx_hg h k with
    | some (.inr (t, (n, tr))) => cond (Nat.beq t a && sx_afit o h a v) (match sx_ix o i n with
      | some j => match sx_tg 13 tr j with
        | some _ => go cs ls r (sx_hs h k (.inr (t, (n, sx_ts 13 tr j v))))
        | none => none
      | none => none) none
    | _ => none
  | _ => none
noncomputable def sh_alen : Option (sx_R I) := match st with
  | some (.inr (.inl k)) :: r => match sx_hg h k with
    | some (.inr (_, (n, _))) => go cs ls (some (.inl (o.1 n)) :: r) h
    | _ => none
  | some (.inr (.inr (.inr _))) :: r => go cs ls (some (.inl (o.1 o.2.2.2.2.1)) :: r) h
  | _ => none
noncomputable def sx_dflt (o : sx_O I) (t : Nat) : sx_V I := match t with
  | 0 => some (.inl (o.1 0))
  | 1 => some (.inl (o.1 0))
  | 2 => some (.inr (.inr (.inl (o.1 0))))
  | _ => none
/-- a field's first value: 2 a reference -/
noncomputable def sx_fd (o : sx_O I) (t : Nat) : sx_V I := match t with
  | 2 => none
  | _ => some (.inl (o.1 0))
noncomputable def sh_newa : Option (sx_R I) := match st with
  | some (.inl i) :: r => cond h.2.2.2.2 (match o.2.2.2.1 i with
    | some n => cond (Nat.ble n 8192 && Nat.ble (h.2.1 + 1) 1024) (go cs ls (some (.inr (.inl h.2.1)) :: r) (sx_hn h (.inr (a, (n, sx_tr 13 (sx_dflt o a)))) n)) none
    | none => none) none
  | _ => none
noncomputable def sx_nf (ci : Nat) : List Nat := match ci with
  | 0 => [0, 0, 0, 2, 2, 2, 2]
  | 1 => [2, 2, 2, 2]
  | 2 => [2, 2, 2, 0, 2]
  | 3 => [0, 1, 1, 0, 0, 1, 1]
  | 4 => [1, 0, 0, 0, 1, 0, 2, 2, 2, 2, 2]
  | 5 => [2, 0]
  | 6 => [2, 2, 2, 0, 2, 2, 2, 0, 2, 2, 2, 2, 2, 2, 2]
  | _ => []
end
noncomputable def sx_nf7 : List Nat := [2, 2, 2, 2, 2, 2, 2, 2, 2, 2, 2, 2, 2, 0, 2, 2, 2, 2, 2, 0, 2, 2, 2, 0, 0, 2, 2, 2, 1, 2, 2, 0]
noncomputable def sx_nff (ci : Nat) : List Nat := cond (Nat.beq ci 7) sx_nf7 (sx_nf ci)
noncomputable def sx_sv (a : Nat) : List Nat := match a with
  | 0 => [54, 0, 0, 64, 0, 0, 8, 0, 0, 2, 6, 0, 6, 0, 0, 2, 22, 0]
  | _ => [3, 0, 0, 2, 0, 0, 3, 0, 0, 0, 2, 0, 3, 0, 0, 0, 2, 0]
noncomputable def sx_lay {A : Type} (n : Nat) : Nat → List A → sx_T A n → sx_T A n
  | _, [], t => t
  | i, v :: vs, t => sx_lay n (i + 1) vs (sx_ts n t i v)
noncomputable def sx_sw {I : Type} : List (sx_V I) → Nat
  | [] => 0
  | v :: r => cond (sx_is2 v) (Nat.add (sx_sw r) 2) (Nat.add (sx_sw r) 1)
noncomputable def sx_pop {A : Type} : Nat → List A → List A → Option (List A × List A)
  | 0, acc, st => some (acc, st)
  | _ + 1, _, [] => none
  | n + 1, acc, v :: st => sx_pop n (v :: acc) st
section
variable {I : Type} (o : sx_O I) (call : sx_K I) (go : sx_G I) (full : List sx_I) (a b c : Nat) (cs : List sx_I) (ls : sx_L I) (st : List (sx_V I)) (h : sx_H I)
noncomputable def sh_new : Option (sx_R I) := cond (h.2.2.2.2 && Nat.ble (h.2.1 + 1) 1024) (go cs ls (some (.inr (.inl h.2.1)) :: st) (sx_hn h (.inl (a, (sx_nff a).map (sx_fd o))) (sx_nff a).length)) none
noncomputable def sh_anew : Option (sx_R I) := match st with
  | some (.inl i) :: r => cond h.2.2.2.2 (match o.2.2.2.1 i with
    | some n => cond (Nat.ble n 8192 && (Nat.ble (h.2.1 + 1) 1024 && (Nat.beq a 3 || Nat.beq a 4))) (go cs ls (some (.inr (.inl h.2.1)) :: r) (sx_hn h (.inr (a, (n, sx_tr 13 none))) n)) none
    | none => none) none
  | _ => none
noncomputable def sh_clone : Option (sx_R I) := cond (h.2.2.2.2 && (Nat.ble (h.2.1 + 1) 1024 && Nat.ble (sx_sw st) 8)) (go cs ls (some (.inr (.inl h.2.1)) :: st) (sx_hn h (.inr (0, (18, sx_lay 13 0 ((sx_sv a).map (fun n => some (.inl (o.1 n)))) (sx_tr 13 (some (.inl (o.1 0))))))) 18)) none
noncomputable def sh_null : Option (sx_R I) := go cs ls (none :: st) h
noncomputable def sh_dup : Option (sx_R I) := match st with
  | v :: r => cond (sx_is2 v) none (go cs ls (v :: v :: r) h)
  | _ => none
noncomputable def sh_dup2 : Option (sx_R I) := match st with
  | v :: w :: r => cond (sx_is2 v || sx_is2 w) none (go cs ls (v :: w :: v :: w :: r) h)
  | _ => none
noncomputable def sh_pop : Option (sx_R I) := match st with
  | v :: r => cond (sx_is2 v) none (go cs ls r h)
  | _ => none
noncomputable def sx_n2 : List (sx_V I) → Bool
  | [] => true
  | v :: r => cond (sx_is2 v) false (sx_n2 r)
/-- behind a call -/
noncomputable def sx_bk (r : List (sx_V I)) : Option (sx_R I) → Option (sx_R I)
  | some ((0, _), h') => go cs ls r h'
  | some ((1, v), h') => go cs ls (v :: r) h'
  | some ((t + 2, _), h') => some ((t + 2, none), h')
  | none => none
noncomputable def sh_callV : Option (sx_R I) := match sx_pop (Nat.mod b 16) [] st with
  | some (as, some (.inr (.inl k)) :: r) => match sx_hg h k with
    | some (.inl (ci, _)) => cond (Nat.beq ci (Nat.div b 16) && (Nat.ble (sx_sw r) 8 && sx_n2 as)) (sx_bk go cs ls r (call a (some (.inr (.inl k)) :: as) h)) none
    | _ => none
  | _ => none
noncomputable def sh_callS : Option (sx_R I) := match sx_pop (Nat.mod b 16) [] st with
  | some (as, r) => cond (Nat.ble (sx_sw r) 8 && sx_n2 as) (sx_bk go cs ls r (call a as h)) none
  | _ => none
noncomputable def sx_bkN (r : List (sx_V I)) : Option (sx_R I) → Option (sx_R I)
  | some ((0, _), h') => go cs ls r h'
  | some ((1, v), h') => go cs ls (v :: r) h'
  | _ => none
noncomputable def sh_callN : Option (sx_R I) := match sx_pop (Nat.mod b 16) [] st with
  | some (as, r) => cond (Nat.ble (sx_sw r) 8 && sx_n2 as) (sx_bkN go cs ls r (call a as h)) none
  | _ => none
noncomputable def sx_bkI (r : List (sx_V I)) : Option (sx_R I) → Option (sx_R I)
  | some ((0, _), h') => go cs ls r h'
  | _ => none
noncomputable def sh_callI : Option (sx_R I) := match st with
  | some (.inr (.inl k)) :: r => cond (Nat.ble (sx_sw r) 8) (sx_bkI go cs ls r (call a [some (.inr (.inl k))] h)) none
  | _ => none
noncomputable def sh_obj : Option (sx_R I) := match st with
  | some (.inr (.inl _)) :: r => cond (Nat.ble (sx_sw r) 8) (go cs ls r h) none
  | _ => none
/-- a wrapper's call: an exception is caught, and a number is the answer -/
noncomputable def sx_bkW (r : List (sx_V I)) : Option (sx_R I) → Option (sx_R I)
  | some ((0, _), h') => go cs ls r h'
  | some ((1, v), h') => go cs ls (v :: r) h'
  | some ((t + 2, _), h') => cond (Nat.beq (Nat.mod (Nat.div (Nat.div b 256) (4 ^ t)) 4) 0 || Nat.ble 3 t) none (some ((1, some (.inl (o.1 (Nat.mod (Nat.div (Nat.div b 256) (4 ^ t)) 4)))), h'))
  | none => none
noncomputable def sh_callW : Option (sx_R I) := match sx_pop (Nat.mod b 16) [] st with
  | some (as, some (.inr (.inl k)) :: r) => match sx_hg h k with
    | some (.inl (ci, _)) => cond (Nat.beq ci (Nat.mod (Nat.div b 16) 16) && (Nat.ble (sx_sw r) 8 && sx_n2 as)) (sx_bkW o go b cs ls r (call a (some (.inr (.inl k)) :: as) h)) none
    | _ => none
  | _ => none
noncomputable def sh_max : Option (sx_R I) := match st with
  | some (.inl j) :: some (.inl i) :: r => cond (Nat.ble (sx_sw r) 8) (match o.2.2.1 2 i j with
    | some true => go cs ls (some (.inl j) :: r) h
    | some false => go cs ls (some (.inl i) :: r) h
    | none => none) none
  | _ => none
noncomputable def sh_min : Option (sx_R I) := match st with
  | some (.inl j) :: some (.inl i) :: r => cond (Nat.ble (sx_sw r) 8) (match o.2.2.1 2 i j with
    | some true => go cs ls (some (.inl i) :: r) h
    | some false => go cs ls (some (.inl j) :: r) h
    | none => none) none
  | _ => none
noncomputable def sh_iret : Option (sx_R I) := match st with
  | [some (.inl i)] => some ((1, some (.inl i)), h)
  | _ => none
noncomputable def sh_zret : Option (sx_R I) := match st with
  | [some (.inl i)] => cond (sx_fit o 1 (some (.inl i))) (some ((1, some (.inl i)), h)) none
  | _ => none
noncomputable def sh_vret : Option (sx_R I) := match st with
  | [] => some ((0, none), h)
  | _ => none
noncomputable def sh_aret : Option (sx_R I) := match st with
  | [some (.inr (.inl k))] => some ((1, some (.inr (.inl k))), h)
  | [none] => some ((1, none), h)
  | _ => none
noncomputable def sh_throw : Option (sx_R I) := cond (Nat.ble (sx_sw st) 8) (some ((a + 2, none), sx_hx h)) none
noncomputable def sh_switch : Option (sx_R I) := match st with
  | some (.inl i) :: r => match o.2.2.2.1 i with
    | some n => cond (Nat.ble (n + 1) a) (go (full.drop (Nat.mod (Nat.div c (2048 ^ n)) 2048)) ls r h) (cond (Nat.ble (n + 1) 2147483648) (go (full.drop b) ls r h) none)
    | none => none
  | _ => none
end
noncomputable def sx_hd {I : Type} : Nat → sx_Hd I := fun op => match op with
  | 0 => fun _ _ go _ a _ _ cs ls st h => sh_aload go a cs ls st h
  | 1 => fun _ _ go _ a b _ cs ls st h => sh_get go a b cs ls st h
  | 2 => fun _ _ go _ a _ _ cs ls st h => sh_iload go a cs ls st h
  | 3 => fun o _ go _ a _ _ cs ls st h => sh_const o go a cs ls st h
  | 4 => fun _ call go _ a b _ cs ls st h => sh_callV call go a b cs ls st h
  | 5 => fun _ _ go full _ b _ _ ls st h => sh_goto go full b ls st h
  | 6 => fun o _ go _ a _ _ cs ls st h => sh_ald o go a cs ls st h
  | 7 => fun _ _ _ _ _ _ _ _ _ st h => sh_iret st h
  | 8 => fun o _ go _ a _ _ cs ls st h => sh_bin o go a cs ls st h
  | 9 => fun _ _ go _ a _ _ cs ls st h => sh_istore go a cs ls st h
  | 10 => fun o _ go full a b _ cs ls st h => sh_if o go full a b cs ls st h
  | 11 => fun o _ go full a b _ cs ls st h => sh_icmp o go full a b cs ls st h
  | 12 => fun o _ go _ a b _ cs ls st h => sh_put o go a b cs ls st h
  | 13 => fun _ call go _ a b _ cs ls st h => sh_callS call go a b cs ls st h
  | 14 => fun o _ go _ a b _ cs ls st h => sh_iinc o go a b cs ls st h
  | 15 => fun o _ go _ a _ _ cs ls st h => sh_ast o go a cs ls st h
  | 16 => fun _ _ go _ _ _ _ cs ls st h => sh_dup go cs ls st h
  | 17 => fun _ _ _ _ _ _ _ _ _ st h => sh_vret st h
  | 18 => fun _ call go _ a _ _ cs ls st h => sh_callI call go a cs ls st h
  | 19 => fun o _ _ _ _ _ _ _ _ st h => sh_zret o st h
  | 20 => fun o _ go _ a _ _ cs ls st h => sh_new o go a cs ls st h
  | 21 => fun _ _ go _ _ _ _ cs ls st h => sh_i2l go cs ls st h
  | 22 => fun _ _ go _ a _ _ cs ls st h => sh_astore go a cs ls st h
  | 23 => fun o _ go _ a _ _ cs ls st h => sh_newa o go a cs ls st h
  | 24 => fun o _ go _ _ _ _ cs ls st h => sh_alen o go cs ls st h
  | 25 => fun _ _ _ _ a _ _ _ _ st h => sh_throw a st h
  | 26 => fun o _ go _ _ _ _ cs ls st h => sh_lcmp o go cs ls st h
  | 27 => fun _ _ go _ _ _ _ cs ls st h => sh_null go cs ls st h
  | 28 => fun _ _ go _ _ _ _ cs ls st h => sh_dup2 go cs ls st h
  | 29 => fun o _ go _ a _ _ cs ls st h => sh_anew o go a cs ls st h
  | 30 => fun o _ go _ a b _ cs ls st h => sh_put o go a b cs ls st h
  | 31 => fun _ _ go full _ b _ cs ls st h => sh_ifnull go full b cs ls st h
  | 32 => fun _ _ go _ _ _ _ cs ls st h => sh_pop go cs ls st h
  | 33 => fun _ _ _ _ _ _ _ _ _ st h => sh_aret st h
  | 34 => fun o _ go _ _ _ _ cs ls st h => sh_max o go cs ls st h
  | 35 => fun o _ go _ _ _ _ cs ls st h => sh_min o go cs ls st h
  | 36 => fun o _ go _ a _ _ cs ls st h => sh_clone o go a cs ls st h
  | 37 => fun o _ go full a b c _ ls st h => sh_switch o go full a b c ls st h
  | 38 => fun _ _ go _ _ _ _ cs ls st h => sh_obj go cs ls st h
  | 39 => fun o call go _ a b _ cs ls st h => sh_callW o call go a b cs ls st h
  | 40 => fun _ call go _ a _ _ cs ls st h => sh_callI call go a cs ls st h
  | 41 => fun _ call go _ a b _ cs ls st h => sh_callN call go a b cs ls st h
  | 42 => fun _ _ _ _ a _ _ _ _ st h => sh_throw a st h
  | 43 => fun _ call go _ a b _ cs ls st h => sh_callN call go a b cs ls st h
  | _ => fun _ _ _ _ _ _ _ _ _ _ _ => none
noncomputable def sx_b1 {I : Type} (cd : Nat → List sx_I) (o : sx_O I) (ih : List sx_I → sx_G I) : List sx_I → sx_G I := fun full cs ls st h => match cs with
  | [] => none
  | x :: r => sx_hd (sx_xq x) o (fun m as h' => ih (cd m) (cd m) (sx_args 0 as) [] h') (ih full) full (sx_xa x) (sx_xb x) (sx_xc x) r ls st h
/-- a run of a method's rest -/
noncomputable def sx_run {I : Type} (cd : Nat → List sx_I) (o : sx_O I) (n : Nat) : List sx_I → sx_G I :=
  Nat.rec (motive := fun _ => List sx_I → sx_G I) (fun _ _ _ _ _ => none) (fun _ ih => sx_b1 cd o ih) n
theorem sx_run_zero {I : Type} (cd : Nat → List sx_I) (o : sx_O I) : sx_run cd o 0 = fun _ _ _ _ _ => none := rfl
theorem sx_run_succ {I : Type} (cd : Nat → List sx_I) (o : sx_O I) (n : Nat) : sx_run cd o (n + 1) = sx_b1 cd o (sx_run cd o n) := rfl
/-- a whole method -/
noncomputable def sx_ca {I : Type} (cd : Nat → List sx_I) (ih : List sx_I → sx_G I) : sx_K I := fun m as h => ih (cd m) (cd m) (sx_args 0 as) [] h
theorem sx_b1_cons {I : Type} (cd : Nat → List sx_I) (o : sx_O I) (ih : List sx_I → sx_G I) (full : List sx_I) (x : sx_I) (r : List sx_I) (ls : sx_L I) (st : List (sx_V I)) (h : sx_H I) :
    sx_b1 cd o ih full (x :: r) ls st h = sx_hd (sx_xq x) o (sx_ca cd ih) (ih full) full (sx_xa x) (sx_xb x) (sx_xc x) r ls st h := by
  unfold sx_b1 sx_ca
  rfl
