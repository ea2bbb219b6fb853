/-! ===== a frame's run, and a method's contract ===== -/
noncomputable def sx_FI {I : Type} (g : I → Int32) (b scr : Nat) (D : va_G) (s : State) (h0 h : sx_H I) (H : Heap) (locs : List Loc) (cells slots : Nat) : Prop := sx_Rep g b scr D s h H ∧ va_S (fun q => b ≤ q) s.heap H locs ∧ h0.2.2.1 + cells = h.2.2.1 ∧ h0.2.2.2.1 + slots = h.2.2.2.1
noncomputable def sx_FSg {I : Type} (l : Launch) (o1 : Nat → I) (g : I → Int32) (b scr L : Nat) (xs : Nat → Int32) (D : va_G) (rn : List Nat → sx_G I) : Prop :=
  ∀ (mid : Nat) (y : MethodName) (bs : ByteArray) (mL : Nat) (ret : Option FieldType) (f lo : Nat), sx_m[mid]? = some (y, (bs, (mL, (ret, (f, lo))))) →
  ∀ (p : Program) (e : Env) (R : Room) (s : State) (m : MethodId) (args : Array Value) (below : List Frame) (meth : Method) (c : Code) (Q : State → Prop) (h0 : sx_H I) (out : sx_R I) (wrp : Bool),
  p.tables.exec = Jvm.exec → c.code = bs → c.maxLocals = mL → s.vm.findClass y.cls = some m.cls → (∀ w ∈ sx_goods, w.before args s = true) → sx_KK b scr L xs D s → f ≤ R.frames → lo ≤ R.locals → (y.name = "<init>" → meth.name = "<init>") →
  out.2.2.2.1 ≤ h0.2.2.1 + R.cells → out.2.2.2.2.1 ≤ h0.2.2.2.1 + R.slots →
  (∀ (i : I) (h' : sx_H I) (H : Heap) (locs : List Loc) (cells slots : Nat) (la : Array Slot) (pc : Nat), out = ((1, some (.inl i)), h') → (ret = some .int ∨ (ret = some .boolean ∧ (g i = nI 0 ∨ g i = nI 1))) → decode bs pc = .ok (.ireturn, 1) → sx_FI g b scr D s h0 h' H locs cells slots → W p l e R s m args below meth c H locs cells slots Q (F0 m pc la [.int (g i)])) →
  (∀ (h' : sx_H I) (H : Heap) (locs : List Loc) (cells slots : Nat) (la : Array Slot) (pc : Nat), out = ((0, none), h') → ret = none → decode bs pc = .ok (.return_, 1) → sx_FI g b scr D s h0 h' H locs cells slots → W p l e R s m args below meth c H locs cells slots Q (F0 m pc la [])) →
  (∀ (v : sx_V I) (h' : sx_H I) (H : Heap) (locs : List Loc) (cells slots : Nat) (la : Array Slot) (pc : Nat), out = ((1, v), h') → (v = none ∨ ∃ k, v = some (.inr (.inl k))) → sx_rob ret = true → decode bs pc = .ok (.areturn, 1) → sx_FI g b scr D s h0 h' H locs cells slots → W p l e R s m args below meth c H locs cells slots Q (F0 m pc la [sx_c g b scr v])) →
  (∀ (t9 : Nat) (h' : sx_H I) (H : Heap) (locs : List Loc) (cells slots : Nat) (la : Array Slot) (pc : Nat) (rest : List Value) (q : Addr) (ce : Cell), out = ((t9 + 2, none), h') → sx_Rep g b scr D s h' H → va_S (fun q => b ≤ q) s.heap H locs → h0.2.2.1 + cells = h'.2.2.1 → h0.2.2.2.1 + slots = h'.2.2.2.1 → H[q]? = some ce → ce.vm = .none → s.vm.findClass (sx_en t9) = some ce.cls → vx_W p l e R s m args below meth c H locs cells slots Q (F0 m pc la rest) q) →
  (∀ (a b9 q k : Nat) (f9 : Nat → Instr) (h : sx_H I) (st : List (sx_V I)) (H : Heap) (locs : List Loc) (cells slots : Nat) (la : Array Slot) (pc : Nat), out = ((a + 2, none), sx_hx h) → ((f9 = .ldc ∧ k = 2) ∨ (f9 = .ldc_w ∧ k = 3)) → sx_thr y.cls bs pc f lo a b9 q f9 k = true → sx_sw st ≤ 8 → la.size = c.maxLocals → sx_FI g b scr D s h0 h H locs cells slots → W p l e R s m args below meth c H locs cells slots Q (F0 m pc la (st.map (sx_c g b scr)))) →
  (∀ (x b9 : Nat) (ls : sx_L I), wrp = true → x ∈ sx_cd mid → sx_xq x = 39 → b9 = sx_xb x → ∀ (t9 v9 : Nat) (h' : sx_H I) (H : Heap) (locs : List Loc) (cells slots : Nat) (la : Array Slot) (rest : List Value) (q : Addr) (ce : Cell), out = ((1, some (.inl (o1 v9))), h') → v9 = Nat.mod (Nat.div (Nat.div b9 256) (4 ^ t9)) 4 → v9 ≠ 0 → t9 < 3 → lv_has la c.maxLocals (ls.map (sx_cq g b scr)) → sx_Rep g b scr D s h' H → va_S (fun q => b ≤ q) s.heap H locs → h0.2.2.1 + cells = h'.2.2.1 → h0.2.2.2.1 + slots = h'.2.2.2.1 → H[q]? = some ce → ce.vm = .none → s.vm.findClass (sx_en t9) = some ce.cls → vx_W p l e R s m args below meth c H locs cells slots Q (F0 m (sx_xp x) la rest) q) →
  sx_okL y.cls (decide (y.name = "<init>")) wrp ret bs mL f lo (sx_cd mid) (sx_cd mid) = true →
  ∀ (cs : List Nat) (ls : sx_L I) (st : List (sx_V I)) (h : sx_H I), (∀ z ∈ cs, z ∈ sx_cd mid) → sx_okL y.cls (decide (y.name = "<init>")) wrp ret bs mL f lo (sx_cd mid) cs = true → rn (sx_cd mid) cs ls st h = some out → sx_Cm p l e R s m args below meth c Q g b scr D h0 cs ls st h
noncomputable def sx_FS {I : Type} (l : Launch) (o : sx_O I) (g : I → Int32) (b scr L : Nat) (xs : Nat → Int32) (D : va_G) (n : Nat) : Prop := sx_FSg l o.1 g b scr L xs D (sx_run sx_cd o n)
theorem sx_okL_drop {own : String} {ini wrp : Bool} {ret : Option FieldType} {bs : ByteArray} {mL f lo : Nat} {full : List Nat} (k : Nat) : ∀ (cs : List Nat), sx_okL own ini wrp ret bs mL f lo full cs = true → sx_okL own ini wrp ret bs mL f lo full (cs.drop k) = true := by
  induction k with
  | zero => intro cs h; exact h
  | succ k ih =>
    intro cs h
    cases cs with
    | nil => exact h
    | cons x r =>
      unfold sx_okL at h
      simp only [Bool.and_eq_true] at h
      exact ih r h.2
theorem sx_rl {own : String} {ini wrp : Bool} {ret : Option FieldType} {bs : ByteArray} {mL f lo : Nat} {full : List Nat} {x : Nat} {cs : List Nat} {k : Nat} {P : Bool} (h : sx_ok1 own ini wrp ret bs mL f lo full x cs k = true) (e : sx_ok1 own ini wrp ret bs mL f lo full x cs k = P) : P = true := e ▸ h
theorem sx_a2 {a b : Bool} (h : (a && b) = true) : a = true ∧ b = true := by
  cases a with
  | false => cases h
  | true => exact ⟨rfl, h⟩
set_option maxHeartbeats 8000000 in
set_option maxRecDepth 100000 in
theorem sx_step {I : Type} {l : Launch} {o : sx_O I} {g : I → Int32} {b scr L : Nat} {xs : Nat → Int32} {D : va_G} (hLw : sx_Law o g L xs) (hokM : ∀ i e, sx_m[i]? = some e → sx_okM i = true) {rn rn1 : List Nat → sx_G I} {call : sx_K I} (hCon : ∀ mid as h out, call mid as h = some out → sx_LE h out ∧ sx_Cn l g b scr L xs D mid as h out)
    (hMo : ∀ full cs ls st h out, rn full cs ls st h = some out → sx_LE h out) (hnil : ∀ full ls st h, rn1 full [] ls st h = none) (hcons : ∀ full x r ls st h, rn1 full (x :: r) ls st h = sx_hd (sx_xq x) o call (rn full) full (sx_xa x) (sx_xb x) (sx_xc x) r ls st h) (ih : sx_FSg l o.1 g b scr L xs D rn) : sx_FSg l o.1 g b scr L xs D rn1 := by
    intro mid y bs mL ret f lo he p e R s m args below meth c Q h0 out wrp hx hb hml hown hts hKK hRf hRl hini hRc hRs hI hV hA hThr hTh hCat hfull cs ls st h hsub hok er
    cases cs with
    | nil => rw [hnil] at er; cases er
    | cons x r =>
      rw [hcons] at er
      have hok2 : (sx_ok1 y.cls (decide (y.name = "<init>")) wrp ret bs mL f lo (sx_cd mid) x r (sx_xq x) && sx_okL y.cls (decide (y.name = "<init>")) wrp ret bs mL f lo (sx_cd mid) r) = true := hok
      simp only [Bool.and_eq_true] at hok2
      obtain ⟨hok1, hokr⟩ := hok2
      have hxm : x ∈ sx_cd mid := hsub x List.mem_cons_self
      have hgo0 : ∀ cs ls st h, (∀ z ∈ cs, z ∈ sx_cd mid) → sx_okL y.cls (decide (y.name = "<init>")) wrp ret bs mL f lo (sx_cd mid) cs = true → rn (sx_cd mid) cs ls st h = some out → sx_Cm p l e R s m args below meth c Q g b scr D h0 cs ls st h := fun cs ls st h h1 h2 h3 => ih mid y bs mL ret f lo he p e R s m args below meth c Q h0 out wrp hx hb hml hown hts hKK hRf hRl hini hRc hRs hI hV hA hThr hTh hCat hfull cs ls st h h1 h2 h3
      have hgo : ∀ ls st h, rn (sx_cd mid) r ls st h = some out → sx_Cm p l e R s m args below meth c Q g b scr D h0 r ls st h := fun ls st h => hgo0 r ls st h (fun z hz => hsub z (List.mem_cons_of_mem _ hz)) hokr
      have hmono : ∀ ls st h, rn (sx_cd mid) r ls st h = some out → h.2.2.1 ≤ out.2.2.2.1 ∧ h.2.2.2.1 ≤ out.2.2.2.2.1 := fun ls st h e9 => hMo _ _ _ _ _ _ e9
      have hgj : ∀ t9 ls st h, rn (sx_cd mid) ((sx_cd mid).drop t9) ls st h = some out → sx_Cm p l e R s m args below meth c Q g b scr D h0 ((sx_cd mid).drop t9) ls st h := fun t9 ls st h e9 => hgo0 _ ls st h (fun z hz => List.mem_of_mem_drop hz) (sx_okL_drop t9 _ hfull) e9
      have hbs := hKK.2.2.2.2.2.2.2.2
      have hX := hKK.2.2.2.2.2.1.1
      have hsb := hKK.2.2.2.2.2.1.2
      generalize hop : sx_xq x = op at hok1 er
      match op, hop, hok1, er with
      | 0, hop, hok1, er =>
        exact sn_aload (a := sx_xa x) hx hb hok1 hgo er
      | 1, hop, hok1, er =>
        exact sn_get (a := sx_xa x) (k := sx_xb x) (q := sx_xc x) hx hb hown hts hKK.1 hok1 hgo er
      | 2, hop, hok1, er =>
        exact sn_iload (a := sx_xa x) hx hb hok1 hgo er
      | 3, hop, hok1, er =>
        exact sn_const (a := sx_xa x) (b9 := sx_xb x) (c9 := sx_xc x) hx hb hLw.1 hok1 hgo er
      | 4, hop, hok1, er =>
        obtain ⟨h1, h2⟩ := sx_a2 hok1
        exact sn_callV (a := sx_xa x) (b9 := sx_xb x) (q := sx_xc x) hx hb hown hts hKK hokM hCon hRf hRl hRc hRs hmono hThr h1 h2 hgo er
      | 5, hop, hok1, er =>
        exact sn_goto (t9 := sx_xb x) hx hb hok1 (hgj _) er
      | 6, hop, hok1, er =>
        obtain ⟨h1, h2⟩ := sx_a2 hok1
        exact sn_ald (a := sx_xa x) hx hb hLw hX hsb hbs h1 h2 hgo er
      | 7, hop, hok1, er =>
        obtain ⟨h1, h2⟩ := sx_a2 hok1
        change sh_iret st h = some out at er
        unfold sh_iret at er
        split at er
        · next i _ =>
          intro H locs cells slots la pc hpc hl hP hS hc hs
          have hpc' : sx_xp x = pc := Option.some.inj hpc
          subst hpc'
          exact hI i h H locs cells slots la _ (Option.some.inj er).symm (Or.inl (of_decide_eq_true h1)) (sx_dk_ok h2) ⟨hP, hS, hc, hs⟩
        · cases er
      | 8, hop, hok1, er =>
        obtain ⟨h1, h2⟩ := sx_a2 hok1
        obtain ⟨h2, h3⟩ := sx_a2 h2
        exact sn_bin (a := sx_xa x) hx hb hLw (Nat.le_of_ble_eq_true h1) h2 h3 hgo er
      | 9, hop, hok1, er =>
        obtain ⟨h1, h2⟩ := sx_a2 hok1
        exact sn_istore (a := sx_xa x) hx hb (by rw [hml]; exact Nat.le_of_ble_eq_true h1) h2 hgo er
      | 10, hop, hok1, er =>
        obtain ⟨h1, h2⟩ := sx_a2 hok1
        obtain ⟨h2, h3⟩ := sx_a2 h2
        exact sn_if (a := sx_xa x) (t9 := sx_xb x) hx hb hLw (Nat.le_of_ble_eq_true h1) h2 h3 hgo (hgj _) er
      | 11, hop, hok1, er =>
        obtain ⟨h1, h2⟩ := sx_a2 hok1
        obtain ⟨h2, h3⟩ := sx_a2 h2
        exact sn_icmp (a := sx_xa x) (t9 := sx_xb x) hx hb hLw (Nat.le_of_ble_eq_true h1) h2 h3 hgo (hgj _) er
      | 12, hop, hok1, er =>
        exact sn_put (a := sx_xa x) (k := sx_xb x) (q := sx_xc x) (more := (fun T k => !(T k).2.2.2 && sx_tc (Nat.div (sx_xa x) 16) (T k).2.2.1)) hx hb hLw hown hts hKK.1 false (fun q => by cases q) (fun T k hm => by obtain ⟨m1, m2⟩ := sx_a2 hm; exact ⟨m2, by simpa using m1, fun q => by cases q⟩) hok1 hgo er
      | 13, hop, hok1, er =>
        obtain ⟨h1, h2⟩ := sx_a2 hok1
        exact sn_callS (a := sx_xa x) (b9 := sx_xb x) (q := sx_xc x) hx hb hown hts hKK hokM hCon hRf hRl hRc hRs hmono hThr h1 h2 hgo er
      | 14, hop, hok1, er =>
        obtain ⟨h1, h2⟩ := sx_a2 hok1
        obtain ⟨h2, h3⟩ := sx_a2 h2
        obtain ⟨h3, h4⟩ := sx_a2 h3
        exact sn_iinc (a := sx_xa x) (b9 := sx_xb x) (c9 := sx_xc x) hx hb hLw (by rw [hml]; exact Nat.le_of_ble_eq_true h1) h2 (of_decide_eq_true h3) h4 hgo er
      | 15, hop, hok1, er =>
        obtain ⟨h1, h2⟩ := sx_a2 hok1
        exact sn_ast (a := sx_xa x) hx hb hLw hKK.1 h1 h2 hgo er
      | 16, hop, hok1, er =>
        obtain ⟨h1, h2⟩ := sx_a2 hok1
        exact sn_dup hx hb h1 h2 hgo er
      | 17, hop, hok1, er =>
        obtain ⟨h1, h2⟩ := sx_a2 hok1
        change sh_vret st h = some out at er
        unfold sh_vret at er
        split at er
        · intro H locs cells slots la pc hpc hl hP hS hc hs
          have hpc' : sx_xp x = pc := Option.some.inj hpc
          subst hpc'
          exact hV h H locs cells slots la _ (Option.some.inj er).symm (of_decide_eq_true h1) (sx_dk_ok h2) ⟨hP, hS, hc, hs⟩
        · cases er
      | 18, hop, hok1, er =>
        obtain ⟨h1, h2⟩ := sx_a2 hok1
        exact sn_callI (nest := false) (a := sx_xa x) (q := sx_xc x) hx hb hown hts hKK hokM hCon hRf hRl hRc hRs hmono hThr h1 h2 hgo er
      | 19, hop, hok1, er =>
        obtain ⟨h1, h2⟩ := sx_a2 hok1
        change sh_zret o st h = some out at er
        unfold sh_zret at er
        split at er
        · next i _ =>
          obtain ⟨hz, er⟩ := sx_cond er
          have hz2 : (match o.2.2.2.1 i with
            | some n => Nat.beq n 0 || Nat.beq n 1
            | none => false) = true := hz
          split at hz2
          · next n9 hn9 =>
            have hg9 := hLw.2.2.2.1 _ _ hn9
            have hz3 : g i = nI 0 ∨ g i = nI 1 := by
              simp only [Bool.or_eq_true] at hz2
              rcases hz2 with hz2 | hz2
              · exact Or.inl (by rw [hg9, Nat.eq_of_beq_eq_true hz2])
              · exact Or.inr (by rw [hg9, Nat.eq_of_beq_eq_true hz2])
            intro H locs cells slots la pc hpc hl hP hS hc hs
            have hpc' : sx_xp x = pc := Option.some.inj hpc
            subst hpc'
            exact hI i h H locs cells slots la _ (Option.some.inj er).symm (Or.inr ⟨of_decide_eq_true h1, hz3⟩) (sx_dk_ok h2) ⟨hP, hS, hc, hs⟩
          · cases hz2
        · cases er
      | 20, hop, hok1, er =>
        obtain ⟨h1, h2⟩ := sx_a2 hok1
        exact sn_new (a := sx_xa x) (q := sx_xc x) hx hb hLw hown hts hKK.1 hRc hRs hmono (Nat.le_of_ble_eq_true h1) h2 hgo er
      | 21, hop, hok1, er =>
        obtain ⟨h1, h2⟩ := sx_a2 hok1
        exact sn_i2l hx hb h1 h2 hgo er
      | 22, hop, hok1, er =>
        obtain ⟨h1, h2⟩ := sx_a2 hok1
        exact sn_astore (a := sx_xa x) hx hb (by rw [hml]; exact Nat.le_of_ble_eq_true h1) h2 hgo er
      | 23, hop, hok1, er =>
        obtain ⟨h1, h2⟩ := sx_a2 hok1
        obtain ⟨h2, h3⟩ := sx_a2 h2
        obtain ⟨h3, h4⟩ := sx_a2 h3
        exact sn_newa (a := sx_xa x) (q := sx_xc x) hx hb hLw hts hRc hRs hmono (Nat.le_of_ble_eq_true h1) h2 (of_decide_eq_true h3) h4 hgo er
      | 24, hop, hok1, er =>
        obtain ⟨h1, h2⟩ := sx_a2 hok1
        exact sn_alen hx hb hLw hX hsb hbs h1 h2 hgo er
      | 25, hop, hok1, er =>
        change sh_throw (sx_xa x) st h = some out at er
        unfold sh_throw at er
        obtain ⟨hz, er⟩ := sx_cond er
        intro H locs cells slots la pc hpc hl hP hS hc hs
        have hpc' : sx_xp x = pc := Option.some.inj hpc
        subst hpc'
        exact hTh (sx_xa x) (sx_xb x) (sx_xc x) 2 .ldc h st H locs cells slots la _ (Option.some.inj er).symm (Or.inl ⟨rfl, rfl⟩) hok1 (Nat.le_of_ble_eq_true hz) hl.1 ⟨hP, hS, hc, hs⟩
      | 26, hop, hok1, er =>
        obtain ⟨h1, h2⟩ := sx_a2 hok1
        exact sn_lcmp hx hb hLw h1 h2 hgo er
      | 27, hop, hok1, er =>
        obtain ⟨h1, h2⟩ := sx_a2 hok1
        exact sn_null hx hb h1 h2 hgo er
      | 28, hop, hok1, er =>
        obtain ⟨h1, h2⟩ := sx_a2 hok1
        exact sn_dup2 hx hb h1 h2 hgo er
      | 29, hop, hok1, er =>
        exact sn_anew (a := sx_xa x) (q := sx_xc x) hx hb hLw hown hts hKK.2.2.1 hRc hRs hmono hok1 hgo er
      | 30, hop, hok1, er =>
        obtain ⟨h1, h2⟩ := sx_a2 hok1
        exact sn_put (a := sx_xa x) (k := sx_xb x) (q := sx_xc x) (more := (fun T k => (T k).2.2.2 && (decide ((T k).1 = y.cls) && sx_tc (Nat.div (sx_xa x) 16) (T k).2.2.1))) hx hb hLw hown hts hKK.1 true (fun _ => hini (of_decide_eq_true h1)) (fun T k hm => by obtain ⟨m1, m2⟩ := sx_a2 hm; obtain ⟨m2, m3⟩ := sx_a2 m2; exact ⟨m3, m1, fun _ => of_decide_eq_true m2⟩) h2 hgo er
      | 31, hop, hok1, er =>
        obtain ⟨h1, h2⟩ := sx_a2 hok1
        exact sn_ifnull (t9 := sx_xb x) hx hb h1 h2 hgo (hgj _) er
      | 32, hop, hok1, er =>
        obtain ⟨h1, h2⟩ := sx_a2 hok1
        exact sn_pop hx hb h1 h2 hgo er
      | 33, hop, hok1, er =>
        obtain ⟨h1, h2⟩ := sx_a2 hok1
        change sh_aret st h = some out at er
        unfold sh_aret at er
        split at er
        · next k9 _ =>
          intro H locs cells slots la pc hpc hl hP hS hc hs
          have hpc' : sx_xp x = pc := Option.some.inj hpc
          subst hpc'
          exact hA _ h H locs cells slots la _ (Option.some.inj er).symm (Or.inr ⟨k9, rfl⟩) h1 (sx_dk_ok h2) ⟨hP, hS, hc, hs⟩
        · intro H locs cells slots la pc hpc hl hP hS hc hs
          have hpc' : sx_xp x = pc := Option.some.inj hpc
          subst hpc'
          exact hA _ h H locs cells slots la _ (Option.some.inj er).symm (Or.inl rfl) h1 (sx_dk_ok h2) ⟨hP, hS, hc, hs⟩
        · cases er
      | 34, hop, hok1, er =>
        exact sn_max (q := sx_xc x) hx hb hLw hown hts hRf hRl hRc hRs hmono hok1 hgo er
      | 35, hop, hok1, er =>
        exact sn_min (q := sx_xc x) hx hb hLw hown hts hRf hRl hRc hRs hmono hok1 hgo er
      | 36, hop, hok1, er =>
        exact sn_clone (a := sx_xa x) (b9 := sx_xb x) (q := sx_xc x) hx hb hLw hown hts hKK hRf hRl hRc hRs hmono hok1 hgo er
      | 37, hop, hok1, er =>
        obtain ⟨h1, h2⟩ := sx_a2 hok1
        exact sn_switch (a := sx_xa x) (t9 := sx_xb x) (c9 := sx_xc x) hx hb hLw (by have := Nat.le_of_ble_eq_true h1; omega) h2 hgj er
      | 38, hop, hok1, er =>
        exact sn_obj (q := sx_xc x) hx hb hown hts hRf hRl hok1 hgo er
      | 39, hop, hok1, er =>
        obtain ⟨h1, h2⟩ := sx_a2 hok1
        obtain ⟨h2, h3⟩ := sx_a2 h2
        exact sn_callW (a := sx_xa x) (b9 := sx_xb x) (q := sx_xc x) hx hb hown hts hKK hokM hCon hRf hRl hRc hRs hmono hThr (hCat x (sx_xb x) ls h1 hxm hop rfl) h2 h3 hgo er
      | 40, hop, hok1, er =>
        obtain ⟨h1, h2⟩ := sx_a2 hok1
        exact sn_callI (nest := true) (a := sx_xa x) (q := sx_xc x) hx hb hown hts hKK hokM hCon hRf hRl hRc hRs hmono hThr h1 h2 hgo er
      | 41, hop, hok1, er =>
        obtain ⟨h1, h2⟩ := sx_a2 hok1
        exact sn_callN (a := sx_xa x) (b9 := sx_xb x) (q := sx_xc x) hx hb hown hts hKK hokM hCon hRf hRl hRc hRs hmono hThr h1 h2 hgo er
      | 42, hop, hok1, er =>
        change sh_throw (sx_xa x) st h = some out at er
        unfold sh_throw at er
        obtain ⟨hz, er⟩ := sx_cond er
        intro H locs cells slots la pc hpc hl hP hS hc hs
        have hpc' : sx_xp x = pc := Option.some.inj hpc
        subst hpc'
        exact hTh (sx_xa x) (sx_xb x) (sx_xc x) 3 .ldc_w h st H locs cells slots la _ (Option.some.inj er).symm (Or.inr ⟨rfl, rfl⟩) hok1 (Nat.le_of_ble_eq_true hz) hl.1 ⟨hP, hS, hc, hs⟩
      | 43, hop, hok1, er =>
        obtain ⟨h1, h2⟩ := sx_a2 hok1
        exact sn_callX (a := sx_xa x) (b9 := sx_xb x) (q := sx_xc x) hx hb hown hts hKK hokM hCon hRf hRl hRc hRs hmono hThr h1 h2 hgo er
      | n9 + 44, hop, hok1, er => cases er
theorem sx_frame {I : Type} {l : Launch} {o : sx_O I} {g : I → Int32} {b scr L : Nat} {xs : Nat → Int32} {D : va_G} (hLw : sx_Law o g L xs) (hokM : ∀ i e, sx_m[i]? = some e → sx_okM i = true) (hcon : ∀ n, sx_FS l o g b scr L xs D n → ∀ mid as h out, sx_ca sx_cd (sx_run sx_cd o n) mid as h = some out → sx_LE h out ∧ sx_Cn l g b scr L xs D mid as h out) (n : Nat) : sx_FS l o g b scr L xs D n := by
  induction n with
  | zero =>
    intro mid y bs mL ret f lo he p e R s m args below meth c Q h0 out wrp hx hb hml hown hts hKK hRf hRl hini hRc hRs hI hV hA hThr hTh hCat hfull cs ls st h hsub hok er
    cases er
  | succ n ih =>
    exact sx_step hLw hokM (call := sx_ca sx_cd (sx_run sx_cd o n)) (hcon n ih) (fun full cs ls st h out er => sx_mono n full cs ls st h out er) (fun full ls st h => by rw [sx_run_succ]; rfl) (fun full x r ls st h => by rw [sx_run_succ]; exact sx_b1_cons sx_cd o _ full x r ls st h) ih
