/-! ===== the abstract machine tells what the machine does: an instruction ===== -/
noncomputable def sx_cb (k : Nat) (x y z : Int32) : Prop := match k with
  | 0 => z = x + y
  | 1 => z = x - y
  | 2 => z = x * y
  | 3 => z = x &&& y
  | 4 => z = x ||| y
  | 5 => z = x ^^^ y
  | 6 => z = x <<< (y &&& 31)
  | 7 => z = x >>> (y &&& 31)
  | 8 => ¬ y = 0 ∧ z = x - x / y * y
  | _ => False
noncomputable def sx_ct (k : Nat) (x y : Int32) : Prop := match k with
  | 0 => x = y
  | 1 => ¬ x = y
  | 2 => x < y
  | 3 => y ≤ x
  | 4 => y < x
  | _ => x ≤ y
noncomputable def sx_Law {I : Type} (o : sx_O I) (g : I → Int32) (L : Nat) (xs : Nat → Int32) : Prop :=
  (∀ n : Nat, g (o.1 n) = nI n) ∧ (∀ (k : Nat) (i j v : I), o.2.1 k i j = some v → sx_cb k (g i) (g j) (g v)) ∧ (∀ (k : Nat) (i j : I) (v : Bool), o.2.2.1 k i j = some v → (v = true ↔ sx_ct k (g i) (g j))) ∧
  (∀ (i : I) (n : Nat), o.2.2.2.1 i = some n → g i = nI n) ∧ o.2.2.2.2.1 = L ∧ L < 2 ^ 31 ∧ ∀ j : Nat, j < L → g (o.2.2.2.2.2 j) = xs j
theorem sx_nx_pc {cs : List Nat} {q : Nat} (h : sx_nx cs q = true) : sx_pc cs = some q := by
  cases cs with
  | nil => cases h
  | cons x r => exact congrArg some (Nat.eq_of_beq_eq_true h)
theorem sx_dk_ok {bs : ByteArray} {pc : Nat} {i : Instr} {k : Nat} (h : sx_dk bs pc i k = true) : decode bs pc = .ok (i, k) := of_decide_eq_true h
theorem sx_f4_val {a : Nat} (h : a + 1 ≤ 4) : ((sx_f4 a : Fin 4) : Nat) = a := by
  match a, h with
  | 0, _ => rfl
  | 1, _ => rfl
  | 2, _ => rfl
  | 3, _ => rfl
  | n + 4, h => omega
theorem sx_P1 {D : va_G} {q : Nat × va_E} {H : Heap} (h : va_at D vwCl q H) : va_P D vwCl [q] H := fun k q' hk => by
  cases k with
  | zero => cases hk; exact h
  | succ k => simp at hk
/-- the claim at a place of a method: what the frame comes to -/
noncomputable def sx_Cm (p : Program) (l : Launch) (e : Env) (R : Room) (s : State) (m : MethodId) (args : Array Value) (below : List Frame) (meth : Method) (c : Code) (Q : State → Prop) {I : Type} (g : I → Int32) (b scr : Nat) (D : va_G) (h0 : sx_H I) (cs : List Nat) (ls : sx_L I) (st : List (sx_V I)) (h : sx_H I) : Prop :=
  ∀ (H : Heap) (locs : List Loc) (cells slots : Nat) (la : Array Slot) (pc : Nat), sx_pc cs = some pc → lv_has la c.maxLocals (ls.map (sx_cq g b scr)) → sx_Rep g b scr D s h H → va_S (fun q => b ≤ q) s.heap H locs → h0.2.2.1 + cells = h.2.2.1 → h0.2.2.2.1 + slots = h.2.2.2.1 →
    W p l e R s m args below meth c H locs cells slots Q (F0 m pc la (st.map (sx_c g b scr)))
section SN
variable {p : Program} {l : Launch} {e : Env} {R : Room} {s : State} {m : MethodId} {args : Array Value} {below : List Frame} {meth : Method} {c : Code} {Q : State → Prop}
variable {I : Type} {o : sx_O I} {g : I → Int32} {b scr L : Nat} {xs : Nat → Int32} {D : va_G} {h0 : sx_H I} {bs : ByteArray} {own : String} {full cs : List Nat} {x a k q : Nat} {ls : sx_L I} {st : List (sx_V I)} {h : sx_H I} {out : sx_R I} {go : sx_G I}
theorem sn_iload (hx : p.tables.exec = Jvm.exec) (hb : c.code = bs) (hok : sx_loc bs (sx_xp x) a cs (.iload a) (.iload_n (sx_f4 a)) = true) (hgo : ∀ ls st h, go cs ls st h = some out → sx_Cm p l e R s m args below meth c Q g b scr D h0 cs ls st h) (er : sh_iload go a cs ls st h = some out) : sx_Cm p l e R s m args below meth c Q g b scr D h0 (x :: cs) ls st h := by
  unfold sh_iload at er
  split at er
  · next i hi =>
    intro H locs cells slots la pc hpc hl hP hS hc hs
    have hpc' : sx_xp x = pc := Option.some.inj hpc
    subst hpc'
    have hq := sx_at9 hl hi
    unfold sx_loc at hok
    simp only [Bool.or_eq_true, Bool.and_eq_true] at hok
    rcases hok with ⟨h1, h2⟩ | ⟨h1, h2, h3⟩
    · exact lv_iload (x := g i) hx hb (sx_dk_ok h1) hq (hgo _ _ _ er H locs cells slots la _ (sx_nx_pc h2) hl hP hS hc hs)
    · exact lv_iload_n (x := g i) hx hb (sx_dk_ok h2) (sx_f4_val (Nat.le_of_ble_eq_true h1)) hq (hgo _ _ _ er H locs cells slots la _ (sx_nx_pc h3) hl hP hS hc hs)
  · cases er
theorem sn_aload (hx : p.tables.exec = Jvm.exec) (hb : c.code = bs) (hok : sx_loc bs (sx_xp x) a cs (.aload a) (.aload_n (sx_f4 a)) = true) (hgo : ∀ ls st h, go cs ls st h = some out → sx_Cm p l e R s m args below meth c Q g b scr D h0 cs ls st h) (er : sh_aload go a cs ls st h = some out) : sx_Cm p l e R s m args below meth c Q g b scr D h0 (x :: cs) ls st h := by
  unfold sh_aload at er
  intro H locs cells slots la pc hpc hl hP hS hc hs
  have hpc' : sx_xp x = pc := Option.some.inj hpc
  subst hpc'
  unfold sx_loc at hok
  simp only [Bool.or_eq_true, Bool.and_eq_true] at hok
  split at er
  · next k9 hi =>
    have hq := sx_at9 hl hi
    rcases hok with ⟨h1, h2⟩ | ⟨h1, h2, h3⟩
    · exact lv_aload (x := b + k9) hx hb (sx_dk_ok h1) hq (hgo _ _ _ er H locs cells slots la _ (sx_nx_pc h2) hl hP hS hc hs)
    · exact lv_aload_n (x := b + k9) hx hb (sx_dk_ok h2) (sx_f4_val (Nat.le_of_ble_eq_true h1)) hq (hgo _ _ _ er H locs cells slots la _ (sx_nx_pc h3) hl hP hS hc hs)
  · next hi =>
    have hq := sx_at9 hl hi
    rcases hok with ⟨h1, h2⟩ | ⟨h1, h2, h3⟩
    · exact lv_aloadN hx hb (sx_dk_ok h1) hq (hgo _ _ _ er H locs cells slots la _ (sx_nx_pc h2) hl hP hS hc hs)
    · exact lv_aload_nN hx hb (sx_dk_ok h2) (sx_f4_val (Nat.le_of_ble_eq_true h1)) hq (hgo _ _ _ er H locs cells slots la _ (sx_nx_pc h3) hl hP hS hc hs)
  · next u hi =>
    have hq := sx_at9 hl hi
    rcases hok with ⟨h1, h2⟩ | ⟨h1, h2, h3⟩
    · exact lv_aload (x := scr) hx hb (sx_dk_ok h1) hq (hgo _ _ _ er H locs cells slots la _ (sx_nx_pc h2) hl hP hS hc hs)
    · exact lv_aload_n (x := scr) hx hb (sx_dk_ok h2) (sx_f4_val (Nat.le_of_ble_eq_true h1)) hq (hgo _ _ _ er H locs cells slots la _ (sx_nx_pc h3) hl hP hS hc hs)
  · cases er
theorem sn_const (hx : p.tables.exec = Jvm.exec) (hb : c.code = bs) (hk : ∀ n : Nat, g (o.1 n) = nI n) {b9 c9 : Nat} (hok : sx_cok bs (sx_xp x) a b9 c9 cs = true) (hgo : ∀ ls st h, go cs ls st h = some out → sx_Cm p l e R s m args below meth c Q g b scr D h0 cs ls st h) (er : sh_const o go a cs ls st h = some out) : sx_Cm p l e R s m args below meth c Q g b scr D h0 (x :: cs) ls st h := by
  unfold sh_const at er
  intro H locs cells slots la pc hpc hl hP hS hc hs
  have hpc' : sx_xp x = pc := Option.some.inj hpc
  subst hpc'
  have k9 : ∀ pc', sx_pc cs = some pc' → W p l e R s m args below meth c H locs cells slots Q (F0 m pc' la (.int (nI a) :: st.map (sx_c g b scr))) := fun pc' h9 => by
    rw [← hk a]
    exact hgo _ _ _ er H locs cells slots la _ h9 hl hP hS hc hs
  unfold sx_cok at hok
  split at hok <;> simp only [Bool.and_eq_true] at hok <;> obtain ⟨h1, h2, h3⟩ := hok
  · exact lv_iconst hx hb (sx_dk_ok h1) (of_decide_eq_true h2) (k9 _ (sx_nx_pc h3))
  · exact lv_bipush hx hb (sx_dk_ok h1) (of_decide_eq_true h2) (k9 _ (sx_nx_pc h3))
  · exact lv_sipush hx hb (sx_dk_ok h1) (of_decide_eq_true h2) (k9 _ (sx_nx_pc h3))
theorem sn_istore (hx : p.tables.exec = Jvm.exec) (hb : c.code = bs) (hn : a < c.maxLocals) (hok : sx_loc bs (sx_xp x) a cs (.istore a) (.istore_n (sx_f4 a)) = true) (hgo : ∀ ls st h, go cs ls st h = some out → sx_Cm p l e R s m args below meth c Q g b scr D h0 cs ls st h) (er : sh_istore go a cs ls st h = some out) : sx_Cm p l e R s m args below meth c Q g b scr D h0 (x :: cs) ls st h := by
  unfold sh_istore at er
  split at er
  · next i r =>
    intro H locs cells slots la pc hpc hl hP hS hc hs
    have hpc' : sx_xp x = pc := Option.some.inj hpc
    subst hpc'
    unfold sx_loc at hok
    simp only [Bool.or_eq_true, Bool.and_eq_true] at hok
    rcases hok with ⟨h1, h2⟩ | ⟨h1, h2, h3⟩
    · exact lv_istore (x := g i) hx hb (sx_dk_ok h1) hl hn (sx_st_map g b scr ls a (some (.inl i))) (fun la' hl' => hgo _ _ _ er H locs cells slots la' _ (sx_nx_pc h2) hl' hP hS hc hs)
    · exact lv_istore_n (x := g i) hx hb (sx_dk_ok h2) (sx_f4_val (Nat.le_of_ble_eq_true h1)) hl hn (sx_st_map g b scr ls a (some (.inl i))) (fun la' hl' => hgo _ _ _ er H locs cells slots la' _ (sx_nx_pc h3) hl' hP hS hc hs)
  · cases er
theorem sn_astore (hx : p.tables.exec = Jvm.exec) (hb : c.code = bs) (hn : a < c.maxLocals) (hok : sx_loc bs (sx_xp x) a cs (.astore a) (.astore_n (sx_f4 a)) = true) (hgo : ∀ ls st h, go cs ls st h = some out → sx_Cm p l e R s m args below meth c Q g b scr D h0 cs ls st h) (er : sh_astore go a cs ls st h = some out) : sx_Cm p l e R s m args below meth c Q g b scr D h0 (x :: cs) ls st h := by
  unfold sh_astore at er
  split at er
  · next i r =>
    intro H locs cells slots la pc hpc hl hP hS hc hs
    have hpc' : sx_xp x = pc := Option.some.inj hpc
    subst hpc'
    unfold sx_loc at hok
    simp only [Bool.or_eq_true, Bool.and_eq_true] at hok
    rcases hok with ⟨h1, h2⟩ | ⟨h1, h2, h3⟩
    · exact lv_astore (x := b + i) hx hb (sx_dk_ok h1) hl hn (sx_st_map g b scr ls a (some (.inr (.inl i)))) (fun la' hl' => hgo _ _ _ er H locs cells slots la' _ (sx_nx_pc h2) hl' hP hS hc hs)
    · exact lv_astore_n (x := b + i) hx hb (sx_dk_ok h2) (sx_f4_val (Nat.le_of_ble_eq_true h1)) hl hn (sx_st_map g b scr ls a (some (.inr (.inl i)))) (fun la' hl' => hgo _ _ _ er H locs cells slots la' _ (sx_nx_pc h3) hl' hP hS hc hs)
  · next r =>
    intro H locs cells slots la pc hpc hl hP hS hc hs
    have hpc' : sx_xp x = pc := Option.some.inj hpc
    subst hpc'
    unfold sx_loc at hok
    simp only [Bool.or_eq_true, Bool.and_eq_true] at hok
    rcases hok with ⟨h1, h2⟩ | ⟨h1, h2, h3⟩
    · exact lv_astoreN hx hb (sx_dk_ok h1) hl hn (sx_st_map g b scr ls a none) (fun la' hl' => hgo _ _ _ er H locs cells slots la' _ (sx_nx_pc h2) hl' hP hS hc hs)
    · exact lv_astore_nN hx hb (sx_dk_ok h2) (sx_f4_val (Nat.le_of_ble_eq_true h1)) hl hn (sx_st_map g b scr ls a none) (fun la' hl' => hgo _ _ _ er H locs cells slots la' _ (sx_nx_pc h3) hl' hP hS hc hs)
  · cases er
theorem sn_iinc (hx : p.tables.exec = Jvm.exec) (hb : c.code = bs) (hLw : sx_Law o g L xs) (hn : a < c.maxLocals) {b9 c9 : Nat} (hd : sx_dk bs (sx_xp x) (.iinc a (sx_z c9)) 3 = true) (hz : Int32.ofInt (sx_z c9) = nI b9) (hnx : sx_nx cs (sx_xp x + 3) = true) (hgo : ∀ ls st h, go cs ls st h = some out → sx_Cm p l e R s m args below meth c Q g b scr D h0 cs ls st h) (er : sh_iinc o go a b9 cs ls st h = some out) : sx_Cm p l e R s m args below meth c Q g b scr D h0 (x :: cs) ls st h := by
  unfold sh_iinc at er
  split at er
  · next i hi =>
    split at er
    · next v hv =>
      intro H locs cells slots la pc hpc hl hP hS hc hs
      have hpc' : sx_xp x = pc := Option.some.inj hpc
      subst hpc'
      have h1 : g v = g i + g (o.1 b9) := hLw.2.1 0 _ _ _ hv
      have hm : (a, Value.int (g i)) ∈ ls.map (sx_cq g b scr) := List.mem_map.mpr ⟨(a, some (.inl i)), sx_lk_mem hi, rfl⟩
      obtain ⟨n, hk⟩ := List.getElem?_of_mem hm
      exact lv_iinc (x := g i) (v := g v) hx hb (sx_dk_ok hd) hl hk (by rw [hz, h1, hLw.1]) hn (sx_st_map g b scr ls a (some (.inl v))) (fun la' hl' => hgo _ _ _ er H locs cells slots la' _ (sx_nx_pc hnx) hl' hP hS hc hs)
    · cases er
  · cases er
theorem sn_bin (hx : p.tables.exec = Jvm.exec) (hb : c.code = bs) (hLw : sx_Law o g L xs) (ha : a ≤ 8) (hd : sx_dk bs (sx_xp x) (sx_bi a) 1 = true) (hnx : sx_nx cs (sx_xp x + 1) = true) (hgo : ∀ ls st h, go cs ls st h = some out → sx_Cm p l e R s m args below meth c Q g b scr D h0 cs ls st h) (er : sh_bin o go a cs ls st h = some out) : sx_Cm p l e R s m args below meth c Q g b scr D h0 (x :: cs) ls st h := by
  unfold sh_bin at er
  split at er
  · next j i r =>
    split at er
    · next v hv =>
      intro H locs cells slots la pc hpc hl hP hS hc hs
      have hpc' : sx_xp x = pc := Option.some.inj hpc
      subst hpc'
      have h1 := hLw.2.1 a _ _ _ hv
      have kk := hgo _ _ _ er H locs cells slots la _ (sx_nx_pc hnx) hl hP hS hc hs
      have kk' : W p l e R s m args below meth c H locs cells slots Q (F0 m (sx_xp x + 1) la (.int (g v) :: r.map (sx_c g b scr))) := kk
      show W p l e R s m args below meth c H locs cells slots Q (F0 m (sx_xp x) la (.int (g j) :: .int (g i) :: r.map (sx_c g b scr)))
      have hd' := sx_dk_ok hd
      rcases (show a = 0 ∨ a = 1 ∨ a = 2 ∨ a = 3 ∨ a = 4 ∨ a = 5 ∨ a = 6 ∨ a = 7 ∨ a = 8 by omega) with rfl | rfl | rfl | rfl | rfl | rfl | rfl | rfl | rfl
      · have h2 : g v = g i + g j := h1
        rw [h2] at kk'; exact lv_iadd hx hb hd' kk'
      · have h2 : g v = g i - g j := h1
        rw [h2] at kk'; exact lv_isub hx hb hd' kk'
      · have h2 : g v = g i * g j := h1
        rw [h2] at kk'; exact lv_imul hx hb hd' kk'
      · have h2 : g v = g i &&& g j := h1
        rw [h2] at kk'; exact lv_iand hx hb hd' kk'
      · have h2 : g v = g i ||| g j := h1
        rw [h2] at kk'; exact lv_ior hx hb hd' kk'
      · have h2 : g v = g i ^^^ g j := h1
        rw [h2] at kk'; exact lv_ixor hx hb hd' kk'
      · have h2 : g v = g i <<< (g j &&& 31) := h1
        rw [h2] at kk'; exact lv_ishl hx hb hd' kk'
      · have h2 : g v = g i >>> (g j &&& 31) := h1
        rw [h2] at kk'; exact lv_ishr hx hb hd' kk'
      · have h2 : ¬ g j = 0 ∧ g v = g i - g i / g j * g j := h1
        rw [h2.2] at kk'; exact lv_irem hx hb hd' h2.1 kk'
    · cases er
  · cases er
theorem sn_i2l (hx : p.tables.exec = Jvm.exec) (hb : c.code = bs) (hd : sx_dk bs (sx_xp x) .i2l 1 = true) (hnx : sx_nx cs (sx_xp x + 1) = true) (hgo : ∀ ls st h, go cs ls st h = some out → sx_Cm p l e R s m args below meth c Q g b scr D h0 cs ls st h) (er : sh_i2l go cs ls st h = some out) : sx_Cm p l e R s m args below meth c Q g b scr D h0 (x :: cs) ls st h := by
  unfold sh_i2l at er
  split at er
  · next i r =>
    intro H locs cells slots la pc hpc hl hP hS hc hs
    have hpc' : sx_xp x = pc := Option.some.inj hpc
    subst hpc'
    exact lv_i2l (x := g i) hx hb (sx_dk_ok hd) rfl (hgo _ _ _ er H locs cells slots la _ (sx_nx_pc hnx) hl hP hS hc hs)
  · cases er
theorem sx_lcmp0 (x : Int32) : lg_cmp x.toInt64 x.toInt64 = 0 := by
  unfold lg_cmp
  simp
theorem sx_lcmp1 {x y : Int32} (h : x < y) : lg_cmp x.toInt64 y.toInt64 = -1 := by
  unfold lg_cmp
  have h1 : x.toInt < y.toInt := Int32.lt_iff_toInt_lt.mp h
  have h2 : x.toInt64.toInt = x.toInt := by simp
  have h3 : y.toInt64.toInt = y.toInt := by simp
  rw [if_neg (fun q => by rw [gt_iff_lt, Int64.lt_iff_toInt_lt, h2, h3] at q; omega), if_neg (fun q => by have := congrArg Int64.toInt q; rw [h2, h3] at this; omega)]
theorem sx_lcmp2 {x y : Int32} (h : ¬ x < y) (hn : ¬ x = y) : lg_cmp x.toInt64 y.toInt64 = 1 := by
  unfold lg_cmp
  have h1 : ¬ x.toInt < y.toInt := fun q => h (Int32.lt_iff_toInt_lt.mpr q)
  have h0 : x.toInt ≠ y.toInt := fun q => hn (Int32.toInt_inj.mp q)
  have h2 : x.toInt64.toInt = x.toInt := by simp
  have h3 : y.toInt64.toInt = y.toInt := by simp
  rw [if_pos (by rw [gt_iff_lt, Int64.lt_iff_toInt_lt, h2, h3]; omega)]
theorem sn_lcmp (hx : p.tables.exec = Jvm.exec) (hb : c.code = bs) (hLw : sx_Law o g L xs) (hd : sx_dk bs (sx_xp x) .lcmp 1 = true) (hnx : sx_nx cs (sx_xp x + 1) = true) (hgo : ∀ ls st h, go cs ls st h = some out → sx_Cm p l e R s m args below meth c Q g b scr D h0 cs ls st h) (er : sh_lcmp o go cs ls st h = some out) : sx_Cm p l e R s m args below meth c Q g b scr D h0 (x :: cs) ls st h := by
  unfold sh_lcmp at er
  split at er
  · next j i r =>
    have kk : ∀ n, go cs ls (some (.inl (o.1 n)) :: r) h = some out → lg_cmp (g i).toInt64 (g j).toInt64 = nI n → sx_Cm p l e R s m args below meth c Q g b scr D h0 (x :: cs) ls (some (.inr (.inr (.inl j))) :: some (.inr (.inr (.inl i))) :: r) h := fun n er' hn => by
      intro H locs cells slots la pc hpc hl hP hS hc hs
      have hpc' : sx_xp x = pc := Option.some.inj hpc
      subst hpc'
      have kk' : W p l e R s m args below meth c H locs cells slots Q (F0 m (sx_xp x + 1) la (.int (g (o.1 n)) :: r.map (sx_c g b scr))) := hgo _ _ _ er' H locs cells slots la _ (sx_nx_pc hnx) hl hP hS hc hs
      rw [hLw.1, ← hn] at kk'
      exact W.lcmp (x := (g i).toInt64) (y := (g j).toInt64) hx hb (sx_dk_ok hd) kk'
    split at er
    · next ht =>
      have h1 : g i = g j := (hLw.2.2.1 0 _ _ _ ht).mp rfl
      exact kk 0 er (by rw [h1, sx_lcmp0]; decide)
    · next ht =>
      have h1 : ¬ g i = g j := fun q => by have := (hLw.2.2.1 0 _ _ _ ht).mpr q; cases this
      split at er
      · next ht2 =>
        have h2 : g i < g j := (hLw.2.2.1 2 _ _ _ ht2).mp rfl
        exact kk 4294967295 er (by rw [sx_lcmp1 h2]; decide)
      · next ht2 =>
        have h2 : ¬ g i < g j := fun q => by have := (hLw.2.2.1 2 _ _ _ ht2).mpr q; cases this
        exact kk 1 er (by rw [sx_lcmp2 h2 h1]; decide)
      · cases er
    · cases er
  · cases er
theorem sx_jmp_ok {pc t9 : Nat} {f : Int → Instr} (h : sx_jmp bs pc full t9 f = true) : ∃ t : Nat, sx_pc (full.drop t9) = some t ∧ decode bs pc = .ok (f ((t : Int) - (pc : Int)), 3) := by
  unfold sx_jmp at h
  split at h
  · next t ht => exact ⟨t, ht, sx_dk_ok h⟩
  · cases h
theorem sn_icmp (hx : p.tables.exec = Jvm.exec) (hb : c.code = bs) (hLw : sx_Law o g L xs) (ha : a ≤ 5) {t9 : Nat} (hj : sx_jmp bs (sx_xp x) full t9 (.if_icmp (sx_cc a)) = true) (hnx : sx_nx cs (sx_xp x + 3) = true) (hgo : ∀ ls st h, go cs ls st h = some out → sx_Cm p l e R s m args below meth c Q g b scr D h0 cs ls st h) (hgj : ∀ ls st h, go (full.drop t9) ls st h = some out → sx_Cm p l e R s m args below meth c Q g b scr D h0 (full.drop t9) ls st h) (er : sh_icmp o go full a t9 cs ls st h = some out) : sx_Cm p l e R s m args below meth c Q g b scr D h0 (x :: cs) ls st h := by
  obtain ⟨t, ht, hd⟩ := sx_jmp_ok hj
  unfold sh_icmp at er
  split at er
  · next j i r =>
    intro H locs cells slots la pc hpc hl hP hS hc hs
    have hpc' : sx_xp x = pc := Option.some.inj hpc
    subst hpc'
    show W p l e R s m args below meth c H locs cells slots Q (F0 m (sx_xp x) la (.int (g j) :: .int (g i) :: r.map (sx_c g b scr)))
    have hz : ((sx_xp x : Nat) : Int) + ((t : Int) - ((sx_xp x : Nat) : Int)) = (t : Int) := by omega
    split at er
    · next hv =>
      have hct := (hLw.2.2.1 a _ _ _ hv).mp rfl
      have kk := hgj _ _ _ er H locs cells slots la _ ht hl hP hS hc hs
      rcases (show a = 0 ∨ a = 1 ∨ a = 2 ∨ a = 3 ∨ a = 4 ∨ a = 5 by omega) with rfl | rfl | rfl | rfl | rfl | rfl
      · exact lv_icmp_eq (tgt := t) hx hb hd hz (fun _ => kk) (fun q => absurd hct q)
      · exact lv_icmp_ne (tgt := t) hx hb hd hz (fun _ => kk) (fun q => absurd q hct)
      · exact lv_icmp_lt (tgt := t) hx hb hd hz (fun _ => kk) (fun q => absurd hct q)
      · exact lv_icmp_ge (tgt := t) hx hb hd hz (fun _ => kk) (fun q => absurd hct q)
      · exact lv_icmp_gt (tgt := t) hx hb hd hz (fun _ => kk) (fun q => absurd hct q)
      · exact lv_icmp_le (tgt := t) hx hb hd hz (fun _ => kk) (fun q => absurd hct q)
    · next hv =>
      have hct : ¬ sx_ct a (g i) (g j) := fun q => by have := (hLw.2.2.1 a _ _ _ hv).mpr q; cases this
      have kk := hgo _ _ _ er H locs cells slots la _ (sx_nx_pc hnx) hl hP hS hc hs
      rcases (show a = 0 ∨ a = 1 ∨ a = 2 ∨ a = 3 ∨ a = 4 ∨ a = 5 by omega) with rfl | rfl | rfl | rfl | rfl | rfl
      · exact lv_icmp_eq (tgt := t) hx hb hd hz (fun q => absurd q hct) (fun _ => kk)
      · exact lv_icmp_ne (tgt := t) hx hb hd hz (fun q => absurd q hct) (fun _ => kk)
      · exact lv_icmp_lt (tgt := t) hx hb hd hz (fun q => absurd q hct) (fun _ => kk)
      · exact lv_icmp_ge (tgt := t) hx hb hd hz (fun q => absurd q hct) (fun _ => kk)
      · exact lv_icmp_gt (tgt := t) hx hb hd hz (fun q => absurd q hct) (fun _ => kk)
      · exact lv_icmp_le (tgt := t) hx hb hd hz (fun q => absurd q hct) (fun _ => kk)
    · cases er
  · cases er
theorem sn_if (hx : p.tables.exec = Jvm.exec) (hb : c.code = bs) (hLw : sx_Law o g L xs) (ha : a ≤ 5) {t9 : Nat} (hj : sx_jmp bs (sx_xp x) full t9 (.ifCond (sx_cc a)) = true) (hnx : sx_nx cs (sx_xp x + 3) = true) (hgo : ∀ ls st h, go cs ls st h = some out → sx_Cm p l e R s m args below meth c Q g b scr D h0 cs ls st h) (hgj : ∀ ls st h, go (full.drop t9) ls st h = some out → sx_Cm p l e R s m args below meth c Q g b scr D h0 (full.drop t9) ls st h) (er : sh_if o go full a t9 cs ls st h = some out) : sx_Cm p l e R s m args below meth c Q g b scr D h0 (x :: cs) ls st h := by
  obtain ⟨t, ht, hd⟩ := sx_jmp_ok hj
  have h0z : g (o.1 0) = 0 := (hLw.1 0).trans nI_0
  unfold sh_if at er
  split at er
  · next i r =>
    intro H locs cells slots la pc hpc hl hP hS hc hs
    have hpc' : sx_xp x = pc := Option.some.inj hpc
    subst hpc'
    show W p l e R s m args below meth c H locs cells slots Q (F0 m (sx_xp x) la (.int (g i) :: r.map (sx_c g b scr)))
    have hz : ((sx_xp x : Nat) : Int) + ((t : Int) - ((sx_xp x : Nat) : Int)) = (t : Int) := by omega
    split at er
    · next hv =>
      have hct := (hLw.2.2.1 a _ _ _ hv).mp rfl
      rw [h0z] at hct
      have kk := hgj _ _ _ er H locs cells slots la _ ht hl hP hS hc hs
      rcases (show a = 0 ∨ a = 1 ∨ a = 2 ∨ a = 3 ∨ a = 4 ∨ a = 5 by omega) with rfl | rfl | rfl | rfl | rfl | rfl
      · exact lv_if_eq (tgt := t) hx hb hd hz (fun _ => kk) (fun q => absurd hct q)
      · exact lv_if_ne (tgt := t) hx hb hd hz (fun _ => kk) (fun q => absurd q hct)
      · exact lv_if_lt (tgt := t) hx hb hd hz (fun _ => kk) (fun q => absurd hct q)
      · exact lv_if_ge (tgt := t) hx hb hd hz (fun _ => kk) (fun q => absurd hct q)
      · exact lv_if_gt (tgt := t) hx hb hd hz (fun _ => kk) (fun q => absurd hct q)
      · exact lv_if_le (tgt := t) hx hb hd hz (fun _ => kk) (fun q => absurd hct q)
    · next hv =>
      have hct : ¬ sx_ct a (g i) (g (o.1 0)) := fun q => by have := (hLw.2.2.1 a _ _ _ hv).mpr q; cases this
      rw [h0z] at hct
      have kk := hgo _ _ _ er H locs cells slots la _ (sx_nx_pc hnx) hl hP hS hc hs
      rcases (show a = 0 ∨ a = 1 ∨ a = 2 ∨ a = 3 ∨ a = 4 ∨ a = 5 by omega) with rfl | rfl | rfl | rfl | rfl | rfl
      · exact lv_if_eq (tgt := t) hx hb hd hz (fun q => absurd q hct) (fun _ => kk)
      · exact lv_if_ne (tgt := t) hx hb hd hz (fun q => absurd q hct) (fun _ => kk)
      · exact lv_if_lt (tgt := t) hx hb hd hz (fun q => absurd q hct) (fun _ => kk)
      · exact lv_if_ge (tgt := t) hx hb hd hz (fun q => absurd q hct) (fun _ => kk)
      · exact lv_if_gt (tgt := t) hx hb hd hz (fun q => absurd q hct) (fun _ => kk)
      · exact lv_if_le (tgt := t) hx hb hd hz (fun q => absurd q hct) (fun _ => kk)
    · cases er
  · cases er
theorem sn_goto (hx : p.tables.exec = Jvm.exec) (hb : c.code = bs) {t9 : Nat} (hj : sx_jmp bs (sx_xp x) full t9 .goto = true) (hgj : ∀ ls st h, go (full.drop t9) ls st h = some out → sx_Cm p l e R s m args below meth c Q g b scr D h0 (full.drop t9) ls st h) (er : sh_goto go full t9 ls st h = some out) : sx_Cm p l e R s m args below meth c Q g b scr D h0 (x :: cs) ls st h := by
  obtain ⟨t, ht, hd⟩ := sx_jmp_ok hj
  intro H locs cells slots la pc hpc hl hP hS hc hs
  have hpc' : sx_xp x = pc := Option.some.inj hpc
  subst hpc'
  exact lv_goto (tgt := t) hx hb hd (by omega) (hgj _ _ _ er H locs cells slots la _ ht hl hP hS hc hs)
theorem sn_ifnull (hx : p.tables.exec = Jvm.exec) (hb : c.code = bs) {t9 : Nat} (hj : sx_jmp bs (sx_xp x) full t9 .ifnull = true) (hnx : sx_nx cs (sx_xp x + 3) = true) (hgo : ∀ ls st h, go cs ls st h = some out → sx_Cm p l e R s m args below meth c Q g b scr D h0 cs ls st h) (hgj : ∀ ls st h, go (full.drop t9) ls st h = some out → sx_Cm p l e R s m args below meth c Q g b scr D h0 (full.drop t9) ls st h) (er : sh_ifnull go full t9 cs ls st h = some out) : sx_Cm p l e R s m args below meth c Q g b scr D h0 (x :: cs) ls st h := by
  obtain ⟨t, ht, hd⟩ := sx_jmp_ok hj
  unfold sh_ifnull at er
  split at er
  · next k9 r =>
    intro H locs cells slots la pc hpc hl hP hS hc hs
    have hpc' : sx_xp x = pc := Option.some.inj hpc
    subst hpc'
    exact lv_ifnull (x := b + k9) hx hb hd (hgo _ _ _ er H locs cells slots la _ (sx_nx_pc hnx) hl hP hS hc hs)
  · next r =>
    intro H locs cells slots la pc hpc hl hP hS hc hs
    have hpc' : sx_xp x = pc := Option.some.inj hpc
    subst hpc'
    exact lv_ifnullN (tgt := t) hx hb hd (by omega) (hgj _ _ _ er H locs cells slots la _ ht hl hP hS hc hs)
  · cases er
theorem sn_null (hx : p.tables.exec = Jvm.exec) (hb : c.code = bs) (hd : sx_dk bs (sx_xp x) .aconst_null 1 = true) (hnx : sx_nx cs (sx_xp x + 1) = true) (hgo : ∀ ls st h, go cs ls st h = some out → sx_Cm p l e R s m args below meth c Q g b scr D h0 cs ls st h) (er : sh_null go cs ls st h = some out) : sx_Cm p l e R s m args below meth c Q g b scr D h0 (x :: cs) ls st h := by
  intro H locs cells slots la pc hpc hl hP hS hc hs
  have hpc' : sx_xp x = pc := Option.some.inj hpc
  subst hpc'
  exact lv_null hx hb (sx_dk_ok hd) (hgo _ _ _ er H locs cells slots la _ (sx_nx_pc hnx) hl hP hS hc hs)
theorem sx_cat1 {v : sx_V I} (h : sx_is2 v = false) : (sx_c g b scr v).category = 1 := by rw [sx_c_cat, h]; rfl
theorem sn_dup (hx : p.tables.exec = Jvm.exec) (hb : c.code = bs) (hd : sx_dk bs (sx_xp x) .dup 1 = true) (hnx : sx_nx cs (sx_xp x + 1) = true) (hgo : ∀ ls st h, go cs ls st h = some out → sx_Cm p l e R s m args below meth c Q g b scr D h0 cs ls st h) (er : sh_dup go cs ls st h = some out) : sx_Cm p l e R s m args below meth c Q g b scr D h0 (x :: cs) ls st h := by
  unfold sh_dup at er
  split at er
  · next v r =>
    cases h2 : sx_is2 v with
    | true => rw [h2] at er; cases er
    | false =>
      rw [h2] at er
      intro H locs cells slots la pc hpc hl hP hS hc hs
      have hpc' : sx_xp x = pc := Option.some.inj hpc
      subst hpc'
      exact lv_dup (va := sx_c g b scr v) hx hb (sx_dk_ok hd) (sx_cat1 h2) (hgo _ _ _ er H locs cells slots la _ (sx_nx_pc hnx) hl hP hS hc hs)
  · cases er
theorem sn_dup2 (hx : p.tables.exec = Jvm.exec) (hb : c.code = bs) (hd : sx_dk bs (sx_xp x) .dup2 1 = true) (hnx : sx_nx cs (sx_xp x + 1) = true) (hgo : ∀ ls st h, go cs ls st h = some out → sx_Cm p l e R s m args below meth c Q g b scr D h0 cs ls st h) (er : sh_dup2 go cs ls st h = some out) : sx_Cm p l e R s m args below meth c Q g b scr D h0 (x :: cs) ls st h := by
  unfold sh_dup2 at er
  split at er
  · next v w r =>
    cases h2 : sx_is2 v with
    | true => rw [h2] at er; cases er
    | false =>
      cases h3 : sx_is2 w with
      | true => rw [h2, h3] at er; cases er
      | false =>
        rw [h2, h3] at er
        intro H locs cells slots la pc hpc hl hP hS hc hs
        have hpc' : sx_xp x = pc := Option.some.inj hpc
        subst hpc'
        exact lv_dup2_11 (va := sx_c g b scr v) (vb := sx_c g b scr w) hx hb (sx_dk_ok hd) (sx_cat1 h2) (sx_cat1 h3) (hgo _ _ _ er H locs cells slots la _ (sx_nx_pc hnx) hl hP hS hc hs)
  · cases er
theorem sn_pop (hx : p.tables.exec = Jvm.exec) (hb : c.code = bs) (hd : sx_dk bs (sx_xp x) .pop 1 = true) (hnx : sx_nx cs (sx_xp x + 1) = true) (hgo : ∀ ls st h, go cs ls st h = some out → sx_Cm p l e R s m args below meth c Q g b scr D h0 cs ls st h) (er : sh_pop go cs ls st h = some out) : sx_Cm p l e R s m args below meth c Q g b scr D h0 (x :: cs) ls st h := by
  unfold sh_pop at er
  split at er
  · next v r =>
    cases h2 : sx_is2 v with
    | true => rw [h2] at er; cases er
    | false =>
      rw [h2] at er
      intro H locs cells slots la pc hpc hl hP hS hc hs
      have hpc' : sx_xp x = pc := Option.some.inj hpc
      subst hpc'
      exact lv_pop (va := sx_c g b scr v) hx hb (sx_dk_ok hd) (sx_cat1 h2) (hgo _ _ _ er H locs cells slots la _ (sx_nx_pc hnx) hl hP hS hc hs)
  · cases er
/-! fields -/
theorem sx_cl8 {P : Nat → vw_C → Prop} (h0 : P 0 (RX0, TX0, 7)) (h1 : P 1 (RX1, TX1, 4)) (h2 : P 2 (RX2, TX2, 5)) (h3 : P 3 (RX3, TX3, 7)) (h4 : P 4 (RX4, TX4, 11)) (h5 : P 5 (RX5, TX5, 2)) (h6 : P 6 (RX6, TX6, 15)) (h7 : P 7 (RX7, TX7, 32)) (ci : Nat) (q : vw_C) (h : vwCl[ci]? = some q) : P ci q := by
  match ci, h with
  | 0, h => cases h; exact h0
  | 1, h => cases h; exact h1
  | 2, h => cases h; exact h2
  | 3, h => cases h; exact h3
  | 4, h => cases h; exact h4
  | 5, h => cases h; exact h5
  | 6, h => cases h; exact h6
  | 7, h => cases h; exact h7
  | n + 8, h => simp at h
theorem sx_uws {ci : Nat} {q : vw_C} (h : vwCl[ci]? = some q) : ∀ w ∈ u_ws q.1 q.2.1 q.2.2, w ∈ sx_goods :=
  sx_cl8 (P := fun _ q => ∀ w ∈ u_ws q.1 q.2.1 q.2.2, w ∈ sx_goods) (by decide +kernel) (by decide +kernel) (by decide +kernel) (by decide +kernel) (by decide +kernel) (by decide +kernel) (by decide +kernel) (by decide +kernel) ci q h
theorem sx_nms {ci : Nat} {q : vw_C} (h : vwCl[ci]? = some q) : ∀ a, a < q.2.2 → ∀ b, b < q.2.2 → a ≠ b → (q.2.1 a).2.1 ≠ (q.2.1 b).2.1 :=
  sx_cl8 (P := fun _ q => ∀ a, a < q.2.2 → ∀ b, b < q.2.2 → a ≠ b → (q.2.1 a).2.1 ≠ (q.2.1 b).2.1) nmX0 nmX1 nmX2 nmX3 nmX4 nmX5 nmX6 nmX7 ci q h
noncomputable def sx_fty (ci : Nat) : Nat → FieldType := match ci with
  | 0 => tyX0
  | 1 => tyX1
  | 2 => tyX2
  | 3 => tyX3
  | 4 => tyX4
  | 5 => tyX5
  | 6 => tyX6
  | _ => tyX7
theorem sx_ftyok {ci : Nat} {q : vw_C} (h : vwCl[ci]? = some q) : ∀ k, k < q.2.2 → parseFieldDescriptor (q.2.1 k).2.2.1 = some (sx_fty ci k) :=
  sx_cl8 (P := fun ci q => ∀ k, k < q.2.2 → parseFieldDescriptor (q.2.1 k).2.2.1 = some (sx_fty ci k)) tyX0_ok tyX1_ok tyX2_ok tyX3_ok tyX4_ok tyX5_ok tyX6_ok tyX7_ok ci q h
theorem sx_fld_ok {pc ci : Nat} {f : Nat → Instr} {more : u_T → Nat → Bool} (h : sx_fld own bs pc ci k q f more cs = true) : ∃ (idx : Nat) (r : vw_C), vwCl[ci]? = some r ∧ lw_tbl[q]? = some (Jvm.Cond.fieldLink own idx (r.2.1 k).1 (r.2.1 k).2.1 (r.2.1 k).2.2.1) ∧ k < r.2.2 ∧ decode bs pc = .ok (f idx, 3) ∧ more r.2.1 k = true ∧ sx_pc cs = some (pc + 3) := by
  unfold sx_fld at h
  split at h
  · next own' idx ref name desc C T N hq hc =>
    simp only [Bool.and_eq_true, decide_eq_true_eq] at h
    obtain ⟨h1, h2, h3, h4, h5, h6, h7, h8⟩ := h
    subst h1; subst h2; subst h3; subst h4
    exact ⟨idx, (C, T, N), hc, hq, Nat.le_of_ble_eq_true h5, sx_dk_ok h6, h7, sx_nx_pc h8⟩
  · cases h
theorem sn_get (hx : p.tables.exec = Jvm.exec) (hb : c.code = bs) (hown : s.vm.findClass own = some m.cls) (hts : ∀ w ∈ sx_goods, w.before args s = true) (hK : va_K D vwCl [] s) (hok : sx_fld own bs (sx_xp x) (Nat.mod a 16) k q .getfield (fun _ _ => true) cs = true) (hgo : ∀ ls st h, go cs ls st h = some out → sx_Cm p l e R s m args below meth c Q g b scr D h0 cs ls st h) (er : sh_get go a k cs ls st h = some out) : sx_Cm p l e R s m args below meth c Q g b scr D h0 (x :: cs) ls st h := by
  obtain ⟨idx, r9, hc9, hq, hk, hd, -, hnx⟩ := sx_fld_ok hok
  unfold sh_get at er
  split at er
  · next k9 r =>
    split at er
    · next ci fs hg =>
      cases hci : Nat.beq ci (Nat.mod a 16) with
      | false => rw [hci] at er; cases er
      | true =>
        rw [hci] at er
        have hci' : ci = Nat.mod a 16 := Nat.eq_of_beq_eq_true hci
        rw [← hci'] at hc9
        dsimp only [cond] at er
        split at er
        · next v hv =>
          intro H locs cells slots la pc hpc hl hP hS hc hs
          have hpc' : sx_xp x = pc := Option.some.inj hpc
          subst hpc'
          have hcell := hP.1 k9 _ hg
          exact va_get (D := D) (cl := vwCl) (ws := [(b + k9, .inr (ci, fs.map (sx_c g b scr)))]) (tys := []) (v := sx_c g b scr v) (C := r9.1) (T := r9.2.1) (N := r9.2.2) hx hb hts (sx_uws hc9) hown hK (sx_P1 hcell) 0 rfl hc9 k hk (sx_wg hts hq rfl) (fun _ h9 => h9) (by rw [List.getElem?_map, hv]; rfl) hd (hgo _ _ _ er H locs cells slots la _ hnx hl hP hS hc hs)
        · cases er
    · cases er
  · cases er
theorem sx_tcfit (hLw : sx_Law o g L xs) {t : Nat} {d : String} {v : sx_V I} (h1 : sx_tc t d = true) (h2 : sx_fit o t v = true) : ∃ ty : FieldType, parseFieldDescriptor d = some ty ∧ narrow ty (sx_c g b scr v) = sx_c g b scr v ∧ fits ty (sx_c g b scr v) = true := by
  unfold sx_fit at h2
  split at h2
  · next i =>
    split at h2
    · exact ⟨.int, of_decide_eq_true h1, rfl, rfl⟩
    · split at h2
      · next n hn =>
        have h3 := hLw.2.2.2.1 i n hn
        simp only [Bool.or_eq_true] at h2
        have hc9 : sx_c g b scr (some (.inl i)) = .int (nI n) := congrArg Value.int h3
        refine ⟨.boolean, of_decide_eq_true h1, ?_, ?_⟩
        · rw [hc9]
          rcases h2 with h2 | h2
          · rw [Nat.eq_of_beq_eq_true h2]; rfl
          · rw [Nat.eq_of_beq_eq_true h2]; rfl
        · rw [hc9]
          rcases h2 with h2 | h2
          · rw [Nat.eq_of_beq_eq_true h2]; decide
          · rw [Nat.eq_of_beq_eq_true h2]; decide
      · cases h2
    · cases h2
  · next k9 =>
    have h3 : t = 2 := Nat.eq_of_beq_eq_true h2
    subst h3
    have h1' : (match parseFieldDescriptor d with
      | some (.object _) => true
      | some (.array _) => true
      | _ => false) = true := h1
    split at h1'
    · next n hn => exact ⟨.object n, hn, rfl, rfl⟩
    · next n hn => exact ⟨.array n, hn, rfl, rfl⟩
    · cases h1'
  · have h3 : t = 2 := Nat.eq_of_beq_eq_true h2
    subst h3
    have h1' : (match parseFieldDescriptor d with
      | some (.object _) => true
      | some (.array _) => true
      | _ => false) = true := h1
    split at h1'
    · next n hn => exact ⟨.object n, hn, rfl, rfl⟩
    · next n hn => exact ⟨.array n, hn, rfl, rfl⟩
    · cases h1'
  · cases h2
theorem sx_Sput {A : Nat → Prop} {H0 H H1 : Heap} {locs : List Loc} {a9 k9 : Nat} (hS : va_S A H0 H locs) (z : H1.size = H.size) (oq : ∀ q : Nat, q ≠ a9 → H1[q]? = H[q]?) (ha : A a9) : va_S A H0 H1 (locs ++ [⟨a9, k9⟩]) := va_S.put hS z oq ha
/-- a field is written: 'fin' for a final one in a constructor -/
theorem sn_put (hx : p.tables.exec = Jvm.exec) (hb : c.code = bs) (hLw : sx_Law o g L xs) (hown : s.vm.findClass own = some m.cls) (hts : ∀ w ∈ sx_goods, w.before args s = true) (hK : va_K D vwCl [] s) (fin : Bool) (hin2 : fin = true → meth.name = "<init>") {more : u_T → Nat → Bool} (hmore : ∀ T k, more T k = true → sx_tc (Nat.div a 16) (T k).2.2.1 = true ∧ (T k).2.2.2 = fin ∧ (fin = true → (T k).1 = own)) (hok : sx_fld own bs (sx_xp x) (Nat.mod a 16) k q .putfield more cs = true) (hgo : ∀ ls st h, go cs ls st h = some out → sx_Cm p l e R s m args below meth c Q g b scr D h0 cs ls st h) (er : sh_put o go a k cs ls st h = some out) : sx_Cm p l e R s m args below meth c Q g b scr D h0 (x :: cs) ls st h := by
  obtain ⟨idx, r9, hc9, hq, hk, hd, hmr, hnx⟩ := sx_fld_ok hok
  obtain ⟨htc, hfin, hdecl⟩ := hmore _ _ hmr
  unfold sh_put at er
  split at er
  · next v k9 r =>
    split at er
    · next ci fs hg =>
      cases hcd : (Nat.beq ci (Nat.mod a 16) && (Nat.ble (k + 1) fs.length && sx_fit o (Nat.div a 16) v)) with
      | false => rw [hcd] at er; cases er
      | true =>
        rw [hcd] at er
        simp only [Bool.and_eq_true] at hcd
        obtain ⟨hci, hlen, hfit⟩ := hcd
        have hci' : ci = Nat.mod a 16 := Nat.eq_of_beq_eq_true hci
        rw [← hci'] at hc9
        obtain ⟨ty, hty, hnar, hfits⟩ := sx_tcfit (g := g) (b := b) (scr := scr) hLw htc hfit
        intro H locs cells slots la pc hpc hl hP hS hc hs
        have hpc' : sx_xp x = pc := Option.some.inj hpc
        subst hpc'
        obtain ⟨r', h1, cell, q1, q2, q3, q4⟩ := hP.1 k9 _ hg
        have hr : r' = r9 := Option.some.inj (h1.symm.trans hc9)
        subst hr
        have hap := va_apart (own := own) hts (sx_uws hc9) (sx_fty ci) (sx_ftyok hc9) (sx_nms hc9) hK hc9
        obtain ⟨hSl, hfc, kC, hkC, hkind⟩ := hK.1 ci _ hc9
        obtain ⟨cf, kf, fi, f, hi, hsl⟩ := hSl k hk
        have hlay := hts _ (sx_uws hc9 _ (u_in_lay hk))
        have hst := (u_facts hfc hkC (u_lays hts (sx_uws hc9) hk) hi).1
        have hlnk := sx_wg hts hq rfl
        have hll : k < (fs.map (sx_c g b scr)).length := by rw [List.length_map]; exact Nat.le_of_ble_eq_true hlen
        have fin9 : ∀ H' : Heap, H'[b + k9]? = some (cell.setSlot f.slot (sx_c g b scr v)) → H'.size = H.size → (∀ q, q ≠ b + k9 → H'[q]? = H[q]?) → W p l e R s m args below meth c H' (locs ++ [⟨b + k9, f.slot⟩]) cells slots Q (F0 m (sx_xp x + 3) la (r.map (sx_c g b scr))) := fun H' e1 e2 e3 => by
          rw [hsl] at e1
          have hcell : sx_cell g b scr D s H' k9 (.inl (ci, fs.set k v)) := by
            show va_at D vwCl (b + k9, .inr (ci, (fs.set k v).map (sx_c g b scr))) H'
            rw [List.map_set]
            exact ⟨_, hc9, t_OB.to (V := updV (vp_V (fs.map (sx_c g b scr))) k (sx_c g b scr v)) ⟨_, e1, q2, q3, t_set q4 hap hk (sx_c g b scr v)⟩ (fun j _ => vp_updV_set hll (sx_c g b scr v) j)⟩
          exact hgo _ _ _ er H' _ cells slots la _ hnx hl (sx_Rep_set hP hg hcell e2 e3) (va_S.put hS e2 e3 (Nat.le_add_right b k9)) hc hs
        cases fin with
        | false =>
          unfold u_lay at hlay
          rw [if_neg (by rw [hfin]; decide)] at hlay
          have h6 := u_store hfc hkC hkind hlay hi hty hnar hfits
          exact W.putK hx hb (f := f) ⟨hown, hlnk, ⟨_, _, _, hi⟩, hst⟩ (by rw [q2]; exact h6) q1 q3 (by rw [hsl]; exact k2_hasslot (q4 k hk)) rfl rfl hd fin9
        | true =>
          unfold u_lay at hlay
          rw [if_pos hfin] at hlay
          have hcf : m.cls = cf := by
            obtain ⟨_, _, c', _, _, _, -, -, hf', -, -, -, hown2, -⟩ := Jvm.Cond.laysFinal_spec hlay
            have e1 : c' = cf := by have := hi.symm.trans hf'; simp at this; exact this.1.symm
            rw [hdecl rfl] at hown2
            rw [← e1]; exact Option.some.inj (hown.symm.trans hown2)
          have h6 := u_fits hfc hkC hkind (Or.inr hlay) hi hty hnar hfits
          exact W.putFinK hx hb hown hlnk hi hst hcf (hin2 rfl) (by rw [q2]; exact h6) q1 q3 (by rw [hsl]; exact k2_hasslot (q4 k hk)) rfl rfl hd fin9
    · cases er
  · cases er
/-! arrays -/
theorem sx_ix_ok (hLw : sx_Law o g L xs) {i : I} {n j : Nat} (h : sx_ix o i n = some j) : g i = nI j ∧ j < n ∧ j < 8192 := by
  unfold sx_ix at h
  split at h
  · next k9 hk9 =>
    cases hcd : (Nat.ble (k9 + 1) n && Nat.ble (k9 + 1) 8192) with
    | false => rw [hcd] at h; cases h
    | true =>
      rw [hcd] at h
      simp only [Bool.and_eq_true] at hcd
      have h1 : k9 = j := Option.some.inj h
      subst h1
      exact ⟨hLw.2.2.2.1 _ _ hk9, Nat.le_of_ble_eq_true hcd.1, Nat.le_of_ble_eq_true hcd.2⟩
  · cases h
theorem sx_ix_in (hLw : sx_Law o g L xs) {i : I} {n j : Nat} (h : sx_ix o i n = some j) : (g i).toNatClampNeg = j ∧ ¬ (g i < 0 ∨ n ≤ (g i).toNatClampNeg) := by
  obtain ⟨h1, h2, h3⟩ := sx_ix_ok hLw h
  have h4 : j < 2 ^ 31 := by omega
  have h5 : (g i).toNatClampNeg = j := by rw [h1]; exact nI_clamp h4
  refine ⟨h5, fun q => ?_⟩
  rcases q with q | q
  · rw [h1] at q; exact nI_pos h4 q
  · rw [h5] at q; omega
theorem sx_rd_of {tr : sx_T (sx_V I) 13} {j : Nat} {v : sx_V I} (h : sx_tg 13 tr j = some v) : sx_rd tr j = v := by
  unfold sx_rd
  rw [h]; rfl
theorem sn_ald (hx : p.tables.exec = Jvm.exec) (hb : c.code = bs) (hLw : sx_Law o g L xs) (hX : va_X scr L xs s s.heap) (hsb : scr < b) (hbs : b ≤ s.heap.size) (hd : sx_dk bs (sx_xp x) (sx_la a) 1 = true) (hnx : sx_nx cs (sx_xp x + 1) = true) (hgo : ∀ ls st h, go cs ls st h = some out → sx_Cm p l e R s m args below meth c Q g b scr D h0 cs ls st h) (er : sh_ald o go a cs ls st h = some out) : sx_Cm p l e R s m args below meth c Q g b scr D h0 (x :: cs) ls st h := by
  unfold sh_ald at er
  split at er
  · next i k9 r =>
    split at er
    · next t n tr hg =>
      cases hta : Nat.beq t a with
      | false => rw [hta] at er; cases er
      | true =>
        rw [hta] at er
        have hta' : t = a := Nat.eq_of_beq_eq_true hta
        subst hta'
        dsimp only [cond] at er
        split at er
        · next j hj =>
          split at er
          · next v hv =>
            obtain ⟨hjc, hjn⟩ := sx_ix_in hLw hj
            obtain ⟨-, hjlt, -⟩ := sx_ix_ok hLw hj
            intro H locs cells slots la pc hpc hl hP hS hc hs
            have hpc' : sx_xp x = pc := Option.some.inj hpc
            subst hpc'
            obtain ⟨cA, hcell, hArr, -⟩ := hP.1 k9 _ hg
            have hsz : ¬ (g i < 0 ∨ (arrV cA n (fun j => sx_c g b scr (sx_rd tr j))).slots.size ≤ (g i).toNatClampNeg) := by rw [arrV_size]; exact hjn
            have hval : (arrV cA n (fun j => sx_c g b scr (sx_rd tr j))).slots[(g i).toNatClampNeg]? = some (sx_c g b scr v) := by
              rw [hjc, arrV_read _ _ hjlt, sx_rd_of hv]
            have kk := hgo _ _ _ er H locs cells slots la _ (sx_nx_pc hnx) hl hP hS hc hs
            have hd' := sx_dk_ok hd
            match t, hd', hArr with
            | 0, hd', hArr => exact W.iald hx hb hcell (hArr _ _) (fun q => by cases q) hsz hval rfl rfl hd' kk
            | 1, hd', hArr => exact W.zald hx hb hcell (hArr _ _) (fun q => by cases q) hsz hval rfl rfl hd' kk
            | 2, hd', hArr => exact W.lald hx hb hcell (hArr _ _) (fun q => by cases q) hsz hval rfl rfl hd' kk
            | 3, hd', hArr => exact W.aald (ty := .object RX4) hx hb hcell (hArr _ _) rfl (fun q => by cases q) hsz hval rfl rfl hd' kk
            | n9 + 4, hd', hArr => exact W.aald (ty := .object RX0) hx hb hcell (hArr _ _) rfl (fun q => by cases q) hsz hval rfl rfl hd' kk
          · cases er
        · cases er
    · cases er
  · next i u r =>
    cases hta : Nat.beq a 0 with
    | false => rw [hta] at er; cases er
    | true =>
      rw [hta] at er
      have hta' : a = 0 := Nat.eq_of_beq_eq_true hta
      subst hta'
      dsimp only [cond] at er
      split at er
      · next j hj =>
        obtain ⟨hjc, hjn⟩ := sx_ix_in hLw hj
        obtain ⟨-, hjlt, -⟩ := sx_ix_ok hLw hj
        intro H locs cells slots la pc hpc hl hP hS hc hs
        have hpc' : sx_xp x = pc := Option.some.inj hpc
        subst hpc'
        have hLe : o.2.2.2.2.1 = L := hLw.2.2.2.2.1
        rw [hLe] at hjn hjlt
        have kk : W p l e R s m args below meth c H locs cells slots Q (F0 m (sx_xp x + 1) la (.int (g (o.2.2.2.2.2 j)) :: r.map (sx_c g b scr))) := hgo _ _ _ er H locs cells slots la _ (sx_nx_pc hnx) hl hP hS hc hs
        rw [hLw.2.2.2.2.2.2 j hjlt, ← hjc] at kk
        exact va_sld (A := fun q => b ≤ q) hx hb hX (Nat.lt_of_lt_of_le hsb hbs) (Nat.not_le.mpr hsb) hS hjn (sx_dk_ok hd) kk
      · cases er
  · cases er
theorem arrV_cong {cA : ClassId} {n : Nat} {f f' : Nat → Value} (h : ∀ j, j < n → f j = f' j) : arrV cA n f = arrV cA n f' := by
  unfold arrV
  congr 1
  apply Array.ext
  · simp
  · intro j h1 h2
    simp at h1
    simp [h j h1]
theorem sx_rd_ts {tr : sx_T (sx_V I) 13} {j : Nat} {v0 v : sx_V I} (h : sx_tg 13 tr j = some v0) (q : Nat) : sx_c g b scr (sx_rd (sx_ts 13 tr j v) q) = updV (fun j => sx_c g b scr (sx_rd tr j)) j (sx_c g b scr v) q := by
  unfold updV
  by_cases hq : q = j
  · subst hq
    rw [if_pos rfl, sx_rd_of (sx_tg_same 13 tr q v0 v h)]
  · rw [if_neg hq]
    unfold sx_rd
    rw [sx_tg_ne 13 tr j q v hq]
theorem sn_ast (hx : p.tables.exec = Jvm.exec) (hb : c.code = bs) (hLw : sx_Law o g L xs) (hK : va_K D vwCl [] s) (hd : sx_dk bs (sx_xp x) (sx_sa a) 1 = true) (hnx : sx_nx cs (sx_xp x + 1) = true) (hgo : ∀ ls st h, go cs ls st h = some out → sx_Cm p l e R s m args below meth c Q g b scr D h0 cs ls st h) (er : sh_ast o go a cs ls st h = some out) : sx_Cm p l e R s m args below meth c Q g b scr D h0 (x :: cs) ls st h := by
  unfold sh_ast at er
  split at er
  · next v i k9 r =>
    split at er
    · next t n tr hg =>
      cases hta : (Nat.beq t a && sx_afit o h a v) with
      | false => rw [hta] at er; cases er
      | true =>
        rw [hta] at er
        simp only [Bool.and_eq_true] at hta
        obtain ⟨hta, haf⟩ := hta
        have hta' : t = a := Nat.eq_of_beq_eq_true hta
        subst hta'
        dsimp only [cond] at er
        split at er
        · next j hj =>
          split at er
          · next v0 hv0 =>
            obtain ⟨hjc, hjn⟩ := sx_ix_in hLw hj
            obtain ⟨hji, hjlt, hj8⟩ := sx_ix_ok hLw hj
            intro H locs cells slots la pc hpc hl hP hS hc hs
            have hpc' : sx_xp x = pc := Option.some.inj hpc
            subst hpc'
            obtain ⟨cA, hcell, hArr, hRA⟩ := hP.1 k9 _ hg
            have hsz : ¬ (g i < 0 ∨ (arrV cA n (fun j => sx_c g b scr (sx_rd tr j))).slots.size ≤ (g i).toNatClampNeg) := by rw [arrV_size]; exact hjn
            have fin9 : ∀ H' : Heap, H'[b + k9]? = some ((arrV cA n (fun j => sx_c g b scr (sx_rd tr j))).setSlot (g i).toNatClampNeg (sx_c g b scr v)) → H'.size = H.size → (∀ q, q ≠ b + k9 → H'[q]? = H[q]?) → W p l e R s m args below meth c H' (locs ++ [⟨b + k9, (g i).toNatClampNeg⟩]) cells slots Q (F0 m (sx_xp x + 1) la (r.map (sx_c g b scr))) := fun H' e1 e2 e3 => by
              have hc' : sx_cell g b scr D s H' k9 (.inr (t, (n, sx_ts 13 tr j v))) := by
                refine ⟨cA, ?_, hArr, hRA⟩
                rw [e1, arrV_store, hjc]
                exact congrArg some (arrV_cong fun q _ => (sx_rd_ts hv0 q).symm)
              exact hgo _ _ _ er H' _ cells slots la _ (sx_nx_pc hnx) hl (sx_Rep_set hP hg hc' e2 e3) (va_S.put hS e2 e3 (Nat.le_add_right b k9)) hc hs
            have hd' := sx_dk_ok hd
            unfold sx_afit at haf
            split at haf
            · next i9 =>
              split at haf
              · exact W.iast (x := g i9) hx hb hcell (hArr _ _) (fun q => by cases q) hsz rfl rfl hd' fin9
              · split at haf
                · next n9 hn9 =>
                  simp only [Bool.or_eq_true] at haf
                  have h3 := hLw.2.2.2.1 _ _ hn9
                  have hnar : narrow .boolean (.int (g i9)) = .int (g i9) := by
                    rw [h3]
                    rcases haf with h2 | h2
                    · rw [Nat.eq_of_beq_eq_true h2]; rfl
                    · rw [Nat.eq_of_beq_eq_true h2]; rfl
                  exact W.zast (x := g i9) hx hb hcell (hArr _ _) (fun q => by cases q) hsz rfl rfl hd' (by rw [hnar]; exact fin9)
                · cases haf
              · cases haf
            · next i9 =>
              have h3 : t = 2 := Nat.eq_of_beq_eq_true haf
              subst h3
              exact W.last (x := (g i9).toInt64) hx hb hcell (hArr _ _) (fun q => by cases q) hsz rfl rfl hd' fin9
            · next kv =>
              split at haf
              · next ci fs hgv =>
                obtain ⟨r', hr', cellV, g1, g2, g3, -⟩ := hP.1 kv _ hgv
                have hin : ¬ g i < 0 ∧ (g i).toNatClampNeg < (arrV cA n (fun j => sx_c g b scr (sx_rd tr j))).slots.size := by
                  rw [arrV_size, hjc]
                  exact ⟨fun q => hjn (Or.inl q), hjlt⟩
                have key : ∀ (q9 : vw_C), vwCl[ci]? = some q9 → sx_ty t = .object q9.1 → sx_sa t = .aastore → W p l e R s m args below meth c H locs cells slots Q (F0 m (sx_xp x) la (.ref (b + kv) :: .int (g i) :: .ref (b + k9) :: r.map (sx_c g b scr))) := fun q9 hq9 hty hsa => by
                  rw [hty] at hRA
                  rw [hsa] at hd'
                  have hcls := (hK.1 ci q9 hq9).2
                  obtain ⟨kA, comp, k1, k2, k3, -⟩ := hRA
                  have hcomp : comp = D.1 ci := Option.some.inj (k3.symm.trans hcls.1)
                  subst hcomp
                  obtain ⟨kC, hkC, -⟩ := hcls.2
                  exact W.aast hx hb hcell (fun q h => by cases h) (fun h => by cases h) k1 k2 rfl hkC hin g1 (fun q h => by rw [g3] at h; cases h) (by rw [g2]; exact hkC) (by rw [g2]; exact va_assign hcls) rfl rfl hd' fin9
                simp only [Bool.or_eq_true, Bool.and_eq_true] at haf
                rcases haf with ⟨h1, h2⟩ | ⟨h1, h2⟩
                · have h1' : t = 3 := Nat.eq_of_beq_eq_true h1
                  have h2' : ci = 4 := Nat.eq_of_beq_eq_true h2
                  subst h1'; subst h2'
                  exact key (RX4, TX4, 11) rfl rfl rfl
                · have h1' : t = 4 := Nat.eq_of_beq_eq_true h1
                  have h2' : ci = 0 := Nat.eq_of_beq_eq_true h2
                  subst h1'; subst h2'
                  exact key (RX0, TX0, 7) rfl rfl rfl
              · cases haf
            · cases haf
          · cases er
        · cases er
    · cases er
  · cases er
theorem sn_alen (hx : p.tables.exec = Jvm.exec) (hb : c.code = bs) (hLw : sx_Law o g L xs) (hX : va_X scr L xs s s.heap) (hsb : scr < b) (hbs : b ≤ s.heap.size) (hd : sx_dk bs (sx_xp x) .arraylength 1 = true) (hnx : sx_nx cs (sx_xp x + 1) = true) (hgo : ∀ ls st h, go cs ls st h = some out → sx_Cm p l e R s m args below meth c Q g b scr D h0 cs ls st h) (er : sh_alen o go cs ls st h = some out) : sx_Cm p l e R s m args below meth c Q g b scr D h0 (x :: cs) ls st h := by
  unfold sh_alen at er
  split at er
  · next k9 r =>
    split at er
    · next t n tr hg =>
      intro H locs cells slots la pc hpc hl hP hS hc hs
      have hpc' : sx_xp x = pc := Option.some.inj hpc
      subst hpc'
      obtain ⟨cA, hcell, hArr, -⟩ := hP.1 k9 _ hg
      have kk : W p l e R s m args below meth c H locs cells slots Q (F0 m (sx_xp x + 1) la (.int (g (o.1 n)) :: r.map (sx_c g b scr))) := hgo _ _ _ er H locs cells slots la _ (sx_nx_pc hnx) hl hP hS hc hs
      rw [hLw.1] at kk
      exact W.alen (n := nI n) hx hb hcell (hArr _ _) (by rw [arrV_size]; rfl) rfl rfl (sx_dk_ok hd) kk
    · cases er
  · next u r =>
    intro H locs cells slots la pc hpc hl hP hS hc hs
    have hpc' : sx_xp x = pc := Option.some.inj hpc
    subst hpc'
    have kk : W p l e R s m args below meth c H locs cells slots Q (F0 m (sx_xp x + 1) la (.int (g (o.1 o.2.2.2.2.1)) :: r.map (sx_c g b scr))) := hgo _ _ _ er H locs cells slots la _ (sx_nx_pc hnx) hl hP hS hc hs
    rw [hLw.1, hLw.2.2.2.2.1] at kk
    exact va_slen (A := fun q => b ≤ q) hx hb hX (Nat.lt_of_lt_of_le hsb hbs) (Nat.not_le.mpr hsb) hS (sx_dk_ok hd) kk
  · cases er
end SN
