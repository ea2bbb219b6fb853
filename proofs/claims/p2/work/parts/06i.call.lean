/-! ===== the calls, row by row ===== -/
section SN
variable {p : Program} {l : Launch} {e : Env} {R : Room} {s : State} {m : MethodId} {args : Array Value} {below : List Frame} {meth : Method} {c : Code} {Q : State → Prop}
variable {I : Type} {o : sx_O I} {g : I → Int32} {b scr L : Nat} {xs : Nat → Int32} {D : va_G} {h0 : sx_H I} {bs : ByteArray} {own : String} {full cs : List Nat} {x a k q : Nat} {ls : sx_L I} {st : List (sx_V I)} {h : sx_H I} {out : sx_R I} {go : sx_G I}
variable {call : sx_K I} {b9 fr lo : Nat}
theorem sx_PcU (hbs : b ≤ s.heap.size) (hKK : sx_KK b scr L xs D s) {H : Heap} {locs : List Loc} {as : List (sx_V I)} (hP : sx_Rep g b scr D s h H) (hS : va_S (fun q => b ≤ q) s.heap H locs) : ∀ U : State, U.heap = H → s.WarmedH U.vm → sx_Pc g b scr L xs D as h (as.map (sx_c g b scr)).toArray U := fun U hU hW =>
  ⟨rfl, by rw [hU]; exact sx_Rep_moved hW.alike hP, sx_KK_moved hW (fun q hq => by rw [hU]; exact hS.2.1 q (Nat.lt_of_lt_of_le hq hbs) (Nat.not_le.mpr hq)) (by rw [hU]; exact Nat.le_trans hbs hS.1) hKK⟩
theorem sx_stk {as r st : List (sx_V I)} (hl2 : as.reverse ++ r = ([] : List (sx_V I)).reverse ++ st) : st.map (sx_c g b scr) = (as.map (sx_c g b scr)).reverse ++ r.map (sx_c g b scr) := by
  have h9 : st = as.reverse ++ r := by rw [hl2]; rfl
  rw [h9, List.map_append, List.map_reverse]
theorem sx_kd_ok {a k : Nat} (h : sx_kd a k = true) {kd qc qi qs qn : Nat} (hmq : sx_mq[a]? = some (kd, (qc, (qi, (qs, qn))))) : kd = k := by
  unfold sx_kd at h
  rw [hmq] at h
  exact Nat.eq_of_beq_eq_true h
theorem sx_cls1_ok {ci : Nat} {y : MethodName} (h : sx_cls1 ci y = true) : ∃ r9, vwCl[ci]? = some r9 ∧ y.cls = r9.1 := by
  unfold sx_cls1 at h
  split at h
  · next C T N hc => exact ⟨_, hc, of_decide_eq_true h⟩
  · cases h
theorem sn_callV (hx : p.tables.exec = Jvm.exec) (hb : c.code = bs) (hown : s.vm.findClass own = some m.cls) (hts : ∀ w ∈ sx_goods, w.before args s = true) (hKK : sx_KK b scr L xs D s) (hokM : ∀ i e, sx_m[i]? = some e → sx_okM i = true) (hCon : ∀ mid as h out, call mid as h = some out → sx_LE h out ∧ sx_Cn l g b scr L xs D mid as h out) (hRf : fr ≤ R.frames) (hRl : lo ≤ R.locals) (hRc : out.2.2.2.1 ≤ h0.2.2.1 + R.cells) (hRs : out.2.2.2.2.1 ≤ h0.2.2.2.1 + R.slots) (hmono : ∀ ls st h, go cs ls st h = some out → h.2.2.1 ≤ out.2.2.2.1 ∧ h.2.2.2.1 ≤ out.2.2.2.2.1) (hThr : ∀ (t9 : Nat) (h' : sx_H I) (H : Heap) (locs : List Loc) (cells slots : Nat) (la : Array Slot) (pc : Nat) (rest : List Value) (q : Addr) (ce : Cell), out = ((t9 + 2, none), h') → sx_Rep g b scr D s h' H → va_S (fun q => b ≤ q) s.heap H locs → h0.2.2.1 + cells = h'.2.2.1 → h0.2.2.2.1 + slots = h'.2.2.2.1 → H[q]? = some ce → ce.vm = .none → s.vm.findClass (sx_en t9) = some ce.cls → vx_W p l e R s m args below meth c H locs cells slots Q (F0 m pc la rest) q)
    (hkd : sx_kd a 0 = true) (hok : sx_cal own bs (sx_xp x) fr lo (Nat.mod b9 16) 1 sx_m[a]? lw_tbl[q]? false .invokevirtual (sx_cls1 (Nat.div b9 16)) cs = true) (hgo : ∀ ls st h, go cs ls st h = some out → sx_Cm p l e R s m args below meth c Q g b scr D h0 cs ls st h) (er : sh_callV call go a b9 cs ls st h = some out) : sx_Cm p l e R s m args below meth c Q g b scr D h0 (x :: cs) ls st h := by
  obtain ⟨y, bs9, mL, ret, f9, l9, idx, he, hw, hpar, hfr, hlo, hmL, hd, hmore, hnx⟩ := sx_cal_ok hok
  obtain ⟨kd, qc, qi, qs, qn, hmq, -, -, -, hmh, hwk, -⟩ := sx_okM_ok (hokM a _ he) he
  have hk0 := sx_kd_ok hkd hmq
  subst hk0
  unfold sx_wk at hwk
  simp only [Bool.and_eq_true, decide_eq_true_eq] at hwk
  obtain ⟨wc, wn, wi, wl⟩ := hwk
  obtain ⟨r9, hc9, hyc⟩ := sx_cls1_ok hmore
  have hw' : lw_tbl[q]? = some (Jvm.Cond.methodLink own idx y) := by
    rcases hw with ⟨-, hw⟩ | ⟨hw, -⟩
    · exact hw
    · cases hw
  unfold sh_callV at er
  split at er
  · next as k9 r hpop =>
    split at er
    · next ci fs hg =>
      obtain ⟨hcd, er⟩ := sx_cond er
      simp only [Bool.and_eq_true] at hcd
      obtain ⟨hci, hsw, hn2⟩ := hcd
      have hci' : ci = Nat.div b9 16 := Nat.eq_of_beq_eq_true hci
      rw [← hci'] at hc9
      cases hres : call a (some (.inr (.inl k9)) :: as) h with
      | none => rw [hres] at er; cases er
      | some out9 =>
        rw [hres] at er
        obtain ⟨hle, hcn⟩ := hCon _ _ _ _ hres
        obtain ⟨hl1, hl2⟩ := sx_pop_ok _ _ _ _ _ hpop
        have hlen : as.length = Nat.mod b9 16 := by rw [hl1]; exact Nat.zero_add _
        obtain ⟨c1, c2, -⟩ := hcn y bs9 mL ret f9 l9 0 qc qi qs qn he hmq (by rw [List.length_cons, hlen]; exact hmL) hn2
        intro H locs cells slots la pc hpc hl hP hS hc hs
        have hpc' : sx_xp x = pc := Option.some.inj hpc
        subst hpc'
        have hbs := hKK.2.2.2.2.2.2.2.2
        have hrecv : ∃ cell : Cell, H[b + k9]? = some cell ∧ cell.vm.isStatics = false ∧ s.vm.findClass r9.1 = some cell.cls := va_recv (q0 := 0) (ws := [(b + k9, .inr (ci, fs.map (sx_c g b scr)))]) hKK.1 (sx_P1 (hP.1 k9 _ hg)) hc9 rfl
        have hCB : CallB R s args own idx y bs9 mL ret (Jvm.Cond.code y bs9 mL ret :: sx_goods) (sx_rm f9 l9 (out9.2.2.2.1 - h.2.2.1) (out9.2.2.2.2.1 - h.2.2.2.1)) (out9.2.2.2.1 - h.2.2.1) (out9.2.2.2.2.1 - h.2.2.2.1) (Nat.mod b9 16) :=
          ⟨rfl, rfl, Nat.le_trans hfr hRf, Nat.le_trans hlo hRl, sx_wsU hts (sx_gq wc rfl), List.mem_cons_self, hts _ (sx_gq wc rfl), hts _ (sx_gq wn rfl), hmh, sx_par hpar, sx_wg hts hw' rfl⟩
        have hCW : CallW R s args own r9.1 idx y bs9 mL ret (Jvm.Cond.code y bs9 mL ret :: sx_goods) (sx_rm f9 l9 (out9.2.2.2.1 - h.2.2.1) (out9.2.2.2.2.1 - h.2.2.2.1)) (out9.2.2.2.1 - h.2.2.1) (out9.2.2.2.2.1 - h.2.2.2.1) (Nat.mod b9 16) :=
          ⟨hCB, hts _ (sx_gq wi rfl), by rw [← hyc]; exact hts _ (sx_gq wl rfl)⟩
        have hsum : ((r.map (sx_c g b scr)).map fun v => v.category).sum ≤ 8 := by rw [sx_sw_sum]; exact Nat.le_of_ble_eq_true hsw
        rw [sx_stk hl2]
        exact sn_bk (a9 := (Value.ref (b + k9) :: as.map (sx_c g b scr)).toArray) hRc hRs hmono hle hgo hThr er hnx hl hS hc hs
          (fun ht hf => va_runV (C := r9.1) (b := b + k9) (As := as.map (sx_c g b scr)) (rest := r.map (sx_c g b scr)) ⟨hx, hb, rfl, hown, hts⟩ (c1 (by decide) ht) hCW ⟨sx_Pc_blind, hrecv, sx_PcU hbs hKK hP hS⟩ rfl (by rw [List.length_map]; exact hlen) hl.1 rfl (lv_room hsum) hd hf)
          (fun ht hf => vx_runV (C := r9.1) (b := b + k9) (As := as.map (sx_c g b scr)) (rest := r.map (sx_c g b scr)) ⟨hx, hb, rfl, hown, hts⟩ (c2 (by decide) ht) hCW ⟨sx_Pc_blind, hrecv, sx_PcU hbs hKK hP hS⟩ rfl (by rw [List.length_map]; exact hlen) hl.1 rfl (lv_room hsum) hd hf)
    · cases er
  · cases er
theorem sn_callS (hx : p.tables.exec = Jvm.exec) (hb : c.code = bs) (hown : s.vm.findClass own = some m.cls) (hts : ∀ w ∈ sx_goods, w.before args s = true) (hKK : sx_KK b scr L xs D s) (hokM : ∀ i e, sx_m[i]? = some e → sx_okM i = true) (hCon : ∀ mid as h out, call mid as h = some out → sx_LE h out ∧ sx_Cn l g b scr L xs D mid as h out) (hRf : fr ≤ R.frames) (hRl : lo ≤ R.locals) (hRc : out.2.2.2.1 ≤ h0.2.2.1 + R.cells) (hRs : out.2.2.2.2.1 ≤ h0.2.2.2.1 + R.slots) (hmono : ∀ ls st h, go cs ls st h = some out → h.2.2.1 ≤ out.2.2.2.1 ∧ h.2.2.2.1 ≤ out.2.2.2.2.1) (hThr : ∀ (t9 : Nat) (h' : sx_H I) (H : Heap) (locs : List Loc) (cells slots : Nat) (la : Array Slot) (pc : Nat) (rest : List Value) (q : Addr) (ce : Cell), out = ((t9 + 2, none), h') → sx_Rep g b scr D s h' H → va_S (fun q => b ≤ q) s.heap H locs → h0.2.2.1 + cells = h'.2.2.1 → h0.2.2.2.1 + slots = h'.2.2.2.1 → H[q]? = some ce → ce.vm = .none → s.vm.findClass (sx_en t9) = some ce.cls → vx_W p l e R s m args below meth c H locs cells slots Q (F0 m pc la rest) q)
    (hkd : sx_kd a 1 = true) (hok : sx_cal own bs (sx_xp x) fr lo (Nat.mod b9 16) 0 sx_m[a]? lw_tbl[q]? false .invokestatic (fun _ => true) cs = true) (hgo : ∀ ls st h, go cs ls st h = some out → sx_Cm p l e R s m args below meth c Q g b scr D h0 cs ls st h) (er : sh_callS call go a b9 cs ls st h = some out) : sx_Cm p l e R s m args below meth c Q g b scr D h0 (x :: cs) ls st h := by
  obtain ⟨y, bs9, mL, ret, f9, l9, idx, he, hw, hpar, hfr, hlo, hmL, hd, hmore, hnx⟩ := sx_cal_ok hok
  obtain ⟨kd, qc, qi, qs, qn, hmq, -, -, -, hmh, hwk, -⟩ := sx_okM_ok (hokM a _ he) he
  have hw' : lw_tbl[q]? = some (Jvm.Cond.methodLink own idx y) := by
    rcases hw with ⟨-, hw⟩ | ⟨hw, -⟩
    · exact hw
    · cases hw
  unfold sh_callS at er
  split at er
  · next as r hpop =>
    obtain ⟨hcd, er⟩ := sx_cond er
    simp only [Bool.and_eq_true] at hcd
    obtain ⟨hsw, hn2⟩ := hcd
    cases hres : call a as h with
    | none => rw [hres] at er; cases er
    | some out9 =>
      rw [hres] at er
      obtain ⟨hle, hcn⟩ := hCon _ _ _ _ hres
      obtain ⟨hl1, hl2⟩ := sx_pop_ok _ _ _ _ _ hpop
      have hlen : as.length = Nat.mod b9 16 := by rw [hl1]; exact Nat.zero_add _
      obtain ⟨c1, c2, c3⟩ := hcn y bs9 mL ret f9 l9 kd qc qi qs qn he hmq (by rw [hlen]; exact hmL) hn2
      intro H locs cells slots la pc hpc hl hP hS hc hs
      have hpc' : sx_xp x = pc := Option.some.inj hpc
      subst hpc'
      have hbs := hKK.2.2.2.2.2.2.2.2
      have hsum : ((r.map (sx_c g b scr)).map fun v => v.category).sum ≤ 8 := by rw [sx_sw_sum]; exact Nat.le_of_ble_eq_true hsw
      rw [sx_stk hl2]
      have hk0 := sx_kd_ok hkd hmq
      subst hk0
      unfold sx_wk at hwk
      simp only [Bool.and_eq_true, decide_eq_true_eq] at hwk
      obtain ⟨wc, wn, wi⟩ := hwk
      have hCB : CallB R s args own idx y bs9 mL ret (Jvm.Cond.code y bs9 mL ret :: sx_goods) (sx_rm f9 l9 (out9.2.2.2.1 - h.2.2.1) (out9.2.2.2.2.1 - h.2.2.2.1)) (out9.2.2.2.1 - h.2.2.1) (out9.2.2.2.2.1 - h.2.2.2.1) (Nat.mod b9 16) :=
        ⟨rfl, rfl, Nat.le_trans hfr hRf, Nat.le_trans hlo hRl, sx_wsU hts (sx_gq wc rfl), List.mem_cons_self, hts _ (sx_gq wc rfl), hts _ (sx_gq wn rfl), hmh, sx_par hpar, sx_wg hts hw' rfl⟩
      exact sn_bk (a9 := (as.map (sx_c g b scr)).toArray) hRc hRs hmono hle hgo hThr er hnx hl hS hc hs
        (fun ht hf => va_runS (As := as.map (sx_c g b scr)) (rest := r.map (sx_c g b scr)) ⟨hx, hb, rfl, hown, hts⟩ (c1 (by decide) ht) ⟨hCB, hts _ (sx_gq wi rfl)⟩ ⟨sx_Pc_blind, sx_PcU hbs hKK hP hS⟩ rfl (by rw [List.length_map]; exact hlen) hl.1 rfl (lv_room hsum) hd hf)
        (fun ht hf => vx_runS (As := as.map (sx_c g b scr)) (rest := r.map (sx_c g b scr)) ⟨hx, hb, rfl, hown, hts⟩ (c2 (by decide) ht) ⟨hCB, hts _ (sx_gq wi rfl)⟩ ⟨sx_Pc_blind, sx_PcU hbs hKK hP hS⟩ rfl (by rw [List.length_map]; exact hlen) hl.1 rfl (lv_room hsum) hd hf)
  · cases er
theorem sx_bkN_bk {r : List (sx_V I)} {res : sx_R I} (er : sx_bkN go cs ls r (some res) = some out) : sx_bk go cs ls r (some res) = some out ∧ res.1.1 ≤ 1 := by
  obtain ⟨⟨t, v⟩, h'⟩ := res
  match t, er with
  | 0, er => exact ⟨er, Nat.zero_le _⟩
  | 1, er => exact ⟨er, Nat.le_refl _⟩
  | t + 2, er => cases er
theorem sx_bkI_bk {r : List (sx_V I)} {res : sx_R I} (er : sx_bkI go cs ls r (some res) = some out) : sx_bk go cs ls r (some res) = some out ∧ res.1.1 ≤ 1 := by
  obtain ⟨⟨t, v⟩, h'⟩ := res
  match t, er with
  | 0, er => exact ⟨er, Nat.zero_le _⟩
  | t + 1, er => cases er
theorem sn_callN (hx : p.tables.exec = Jvm.exec) (hb : c.code = bs) (hown : s.vm.findClass own = some m.cls) (hts : ∀ w ∈ sx_goods, w.before args s = true) (hKK : sx_KK b scr L xs D s) (hokM : ∀ i e, sx_m[i]? = some e → sx_okM i = true) (hCon : ∀ mid as h out, call mid as h = some out → sx_LE h out ∧ sx_Cn l g b scr L xs D mid as h out) (hRf : fr ≤ R.frames) (hRl : lo ≤ R.locals) (hRc : out.2.2.2.1 ≤ h0.2.2.1 + R.cells) (hRs : out.2.2.2.2.1 ≤ h0.2.2.2.1 + R.slots) (hmono : ∀ ls st h, go cs ls st h = some out → h.2.2.1 ≤ out.2.2.2.1 ∧ h.2.2.2.1 ≤ out.2.2.2.2.1) (hThr : ∀ (t9 : Nat) (h' : sx_H I) (H : Heap) (locs : List Loc) (cells slots : Nat) (la : Array Slot) (pc : Nat) (rest : List Value) (q : Addr) (ce : Cell), out = ((t9 + 2, none), h') → sx_Rep g b scr D s h' H → va_S (fun q => b ≤ q) s.heap H locs → h0.2.2.1 + cells = h'.2.2.1 → h0.2.2.2.1 + slots = h'.2.2.2.1 → H[q]? = some ce → ce.vm = .none → s.vm.findClass (sx_en t9) = some ce.cls → vx_W p l e R s m args below meth c H locs cells slots Q (F0 m pc la rest) q)
    (hkd : sx_kd a 1 = true) (hok : sx_cal own bs (sx_xp x) fr lo (Nat.mod b9 16) 0 sx_m[a]? lw_tbl[q]? true .invokestatic (fun _ => true) cs = true) (hgo : ∀ ls st h, go cs ls st h = some out → sx_Cm p l e R s m args below meth c Q g b scr D h0 cs ls st h) (er : sh_callN call go a b9 cs ls st h = some out) : sx_Cm p l e R s m args below meth c Q g b scr D h0 (x :: cs) ls st h := by
  obtain ⟨y, bs9, mL, ret, f9, l9, idx, he, hw, hpar, hfr, hlo, hmL, hd, hmore, hnx⟩ := sx_cal_ok hok
  obtain ⟨kd, qc, qi, qs, qn, hmq, -, -, -, hmh, hwk, -⟩ := sx_okM_ok (hokM a _ he) he
  have hk0 := sx_kd_ok hkd hmq
  subst hk0
  unfold sx_wk at hwk
  simp only [Bool.and_eq_true, decide_eq_true_eq] at hwk
  obtain ⟨wc, wn, wi⟩ := hwk
  obtain ⟨host, hw'⟩ : ∃ host, lw_tbl[q]? = some (Jvm.Cond.methodLinkNest own idx y host) := by
    rcases hw with ⟨hw, -⟩ | ⟨-, hw⟩
    · cases hw
    · exact hw
  unfold sh_callN at er
  split at er
  · next as r hpop =>
    obtain ⟨hcd, er⟩ := sx_cond er
    simp only [Bool.and_eq_true] at hcd
    obtain ⟨hsw, hn2⟩ := hcd
    cases hres : call a as h with
    | none => rw [hres] at er; cases er
    | some out9 =>
      rw [hres] at er
      obtain ⟨er, ht9⟩ := sx_bkN_bk er
      obtain ⟨hle, hcn⟩ := hCon _ _ _ _ hres
      obtain ⟨hl1, hl2⟩ := sx_pop_ok _ _ _ _ _ hpop
      have hlen : as.length = Nat.mod b9 16 := by rw [hl1]; exact Nat.zero_add _
      obtain ⟨c1, -, -⟩ := hcn y bs9 mL ret f9 l9 1 qc qi qs qn he hmq (by rw [hlen]; exact hmL) hn2
      intro H locs cells slots la pc hpc hl hP hS hc hs
      have hpc' : sx_xp x = pc := Option.some.inj hpc
      subst hpc'
      have hbs := hKK.2.2.2.2.2.2.2.2
      have hsum : ((r.map (sx_c g b scr)).map fun v => v.category).sum ≤ 8 := by rw [sx_sw_sum]; exact Nat.le_of_ble_eq_true hsw
      rw [sx_stk hl2]
      exact sn_bk (a9 := (as.map (sx_c g b scr)).toArray) hRc hRs hmono hle hgo hThr er hnx hl hS hc hs
        (fun ht hf => va_runSN (host := host) (As := as.map (sx_c g b scr)) (rest := r.map (sx_c g b scr)) ⟨hx, hb, rfl, hown, hts⟩ (c1 (by decide) ht) ⟨⟨⟨rfl, rfl, Nat.le_trans hfr hRf, Nat.le_trans hlo hRl, sx_wsU hts (sx_gq wc rfl), List.mem_cons_self⟩, hts _ (sx_gq wc rfl), hts _ (sx_gq wn rfl), hmh, sx_par hpar, va_Nw.use rfl (sx_wn hKK.2.1 hw' rfl)⟩, hts _ (sx_gq wi rfl), trivial⟩ ⟨sx_Pc_blind, sx_PcU hbs hKK hP hS⟩ rfl (by rw [List.length_map]; exact hlen) hl.1 rfl (lv_room hsum) hd hf)
        (fun ht hf => absurd ht9 (by omega))
  · cases er
theorem sn_callX (hx : p.tables.exec = Jvm.exec) (hb : c.code = bs) (hown : s.vm.findClass own = some m.cls) (hts : ∀ w ∈ sx_goods, w.before args s = true) (hKK : sx_KK b scr L xs D s) (hokM : ∀ i e, sx_m[i]? = some e → sx_okM i = true) (hCon : ∀ mid as h out, call mid as h = some out → sx_LE h out ∧ sx_Cn l g b scr L xs D mid as h out) (hRf : fr ≤ R.frames) (hRl : lo ≤ R.locals) (hRc : out.2.2.2.1 ≤ h0.2.2.1 + R.cells) (hRs : out.2.2.2.2.1 ≤ h0.2.2.2.1 + R.slots) (hmono : ∀ ls st h, go cs ls st h = some out → h.2.2.1 ≤ out.2.2.2.1 ∧ h.2.2.2.1 ≤ out.2.2.2.2.1) (hThr : ∀ (t9 : Nat) (h' : sx_H I) (H : Heap) (locs : List Loc) (cells slots : Nat) (la : Array Slot) (pc : Nat) (rest : List Value) (q : Addr) (ce : Cell), out = ((t9 + 2, none), h') → sx_Rep g b scr D s h' H → va_S (fun q => b ≤ q) s.heap H locs → h0.2.2.1 + cells = h'.2.2.1 → h0.2.2.2.1 + slots = h'.2.2.2.1 → H[q]? = some ce → ce.vm = .none → s.vm.findClass (sx_en t9) = some ce.cls → vx_W p l e R s m args below meth c H locs cells slots Q (F0 m pc la rest) q)
    (hkd : sx_kd a 3 = true) (hok : sx_cal own bs (sx_xp x) fr lo (Nat.mod b9 16) 0 sx_m[a]? lw_tbl[q]? false .invokestatic (fun _ => true) cs = true) (hgo : ∀ ls st h, go cs ls st h = some out → sx_Cm p l e R s m args below meth c Q g b scr D h0 cs ls st h) (er : sh_callN call go a b9 cs ls st h = some out) : sx_Cm p l e R s m args below meth c Q g b scr D h0 (x :: cs) ls st h := by
  obtain ⟨y, bs9, mL, ret, f9, l9, idx, he, hw, hpar, hfr, hlo, hmL, hd, hmore, hnx⟩ := sx_cal_ok hok
  obtain ⟨kd, qc, qi, qs, qn, hmq, -, -, -, hmh, hwk, -⟩ := sx_okM_ok (hokM a _ he) he
  have hw' : lw_tbl[q]? = some (Jvm.Cond.methodLink own idx y) := by
    rcases hw with ⟨-, hw⟩ | ⟨hw, -⟩
    · exact hw
    · cases hw
  unfold sh_callN at er
  split at er
  · next as r hpop =>
    obtain ⟨hcd, er⟩ := sx_cond er
    simp only [Bool.and_eq_true] at hcd
    obtain ⟨hsw, hn2⟩ := hcd
    cases hres : call a as h with
    | none => rw [hres] at er; cases er
    | some out9 =>
      rw [hres] at er
      obtain ⟨er, ht9⟩ := sx_bkN_bk er
      obtain ⟨hle, hcn⟩ := hCon _ _ _ _ hres
      obtain ⟨hl1, hl2⟩ := sx_pop_ok _ _ _ _ _ hpop
      have hlen : as.length = Nat.mod b9 16 := by rw [hl1]; exact Nat.zero_add _
      obtain ⟨c1, c2, c3⟩ := hcn y bs9 mL ret f9 l9 kd qc qi qs qn he hmq (by rw [hlen]; exact hmL) hn2
      intro H locs cells slots la pc hpc hl hP hS hc hs
      have hpc' : sx_xp x = pc := Option.some.inj hpc
      subst hpc'
      have hbs := hKK.2.2.2.2.2.2.2.2
      have hsum : ((r.map (sx_c g b scr)).map fun v => v.category).sum ≤ 8 := by rw [sx_sw_sum]; exact Nat.le_of_ble_eq_true hsw
      rw [sx_stk hl2]
      have hk0 := sx_kd_ok hkd hmq
      subst hk0
      have c3' := c3 rfl ht9
      unfold sx_wk at hwk
      simp only [Bool.and_eq_true, decide_eq_true_eq] at hwk
      obtain ⟨wc, wn, wi⟩ := hwk
      split at wc
      · next y' bs' mL' ret' hh hqc =>
        simp only [Bool.and_eq_true, decide_eq_true_eq] at wc
        obtain ⟨e1, e2, e3, e4⟩ := wc
        subst e1; subst e2; subst e3; subst e4
        have hM := c3' hh hqc
        exact sn_bk (a9 := (as.map (sx_c g b scr)).toArray) hRc hRs hmono hle hgo hThr er hnx hl hS hc hs
          (fun ht hf => vx_runSW (hh := hh) (As := as.map (sx_c g b scr)) (rest := r.map (sx_c g b scr)) ⟨hx, hb, rfl, hown, hts⟩ hM ⟨⟨rfl, rfl, Nat.le_trans hfr hRf, Nat.le_trans hlo hRl, sx_wsU hts (sx_gq hqc rfl), List.mem_cons_self⟩, hts _ (sx_gq hqc rfl), hts _ (sx_gq wn rfl), hmh, sx_par hpar, sx_wg hts hw' rfl, hts _ (sx_gq wi rfl)⟩ ⟨sx_Pc_blind, sx_PcU hbs hKK hP hS⟩ rfl (by rw [List.length_map]; exact hlen) hl.1 rfl (lv_room hsum) hd hf)
          (fun ht hf => absurd ht9 (by omega))
      · cases wc
  · cases er
/-- a constructor, of the nest or not -/
theorem sn_callI (hx : p.tables.exec = Jvm.exec) (hb : c.code = bs) (hown : s.vm.findClass own = some m.cls) (hts : ∀ w ∈ sx_goods, w.before args s = true) (hKK : sx_KK b scr L xs D s) (hokM : ∀ i e, sx_m[i]? = some e → sx_okM i = true) (hCon : ∀ mid as h out, call mid as h = some out → sx_LE h out ∧ sx_Cn l g b scr L xs D mid as h out) (hRf : fr ≤ R.frames) (hRl : lo ≤ R.locals) (hRc : out.2.2.2.1 ≤ h0.2.2.1 + R.cells) (hRs : out.2.2.2.2.1 ≤ h0.2.2.2.1 + R.slots) (hmono : ∀ ls st h, go cs ls st h = some out → h.2.2.1 ≤ out.2.2.2.1 ∧ h.2.2.2.1 ≤ out.2.2.2.2.1) (hThr : ∀ (t9 : Nat) (h' : sx_H I) (H : Heap) (locs : List Loc) (cells slots : Nat) (la : Array Slot) (pc : Nat) (rest : List Value) (q : Addr) (ce : Cell), out = ((t9 + 2, none), h') → sx_Rep g b scr D s h' H → va_S (fun q => b ≤ q) s.heap H locs → h0.2.2.1 + cells = h'.2.2.1 → h0.2.2.2.1 + slots = h'.2.2.2.1 → H[q]? = some ce → ce.vm = .none → s.vm.findClass (sx_en t9) = some ce.cls → vx_W p l e R s m args below meth c H locs cells slots Q (F0 m pc la rest) q)
    (hkd : sx_kd a 2 = true) {nest : Bool} (hok : sx_cal own bs (sx_xp x) fr lo 0 1 sx_m[a]? lw_tbl[q]? nest .invokespecial (fun y => decide (y.name = "<init>")) cs = true) (hgo : ∀ ls st h, go cs ls st h = some out → sx_Cm p l e R s m args below meth c Q g b scr D h0 cs ls st h) (er : sh_callI call go a cs ls st h = some out) : sx_Cm p l e R s m args below meth c Q g b scr D h0 (x :: cs) ls st h := by
  obtain ⟨y, bs9, mL, ret, f9, l9, idx, he, hw, hpar, hfr, hlo, hmL, hd, hmore, hnx⟩ := sx_cal_ok hok
  obtain ⟨kd, qc, qi, qs, qn, hmq, hokL9, -, -, hmh, hwk, -⟩ := sx_okM_ok (hokM a _ he) he
  have hk0 := sx_kd_ok hkd hmq
  subst hk0
  unfold sx_wk at hwk
  simp only [Bool.and_eq_true, decide_eq_true_eq] at hwk
  obtain ⟨⟨wc, wn, wi⟩, wr⟩ := hwk
  subst wr
  have hini := of_decide_eq_true hmore
  unfold sh_callI at er
  split at er
  · next k9 r =>
    obtain ⟨hsw, er⟩ := sx_cond er
    cases hres : call a [some (.inr (.inl k9))] h with
    | none => rw [hres] at er; cases er
    | some out9 =>
      rw [hres] at er
      obtain ⟨er, ht9⟩ := sx_bkI_bk er
      obtain ⟨hle, hcn⟩ := hCon _ _ _ _ hres
      obtain ⟨c1, -, -⟩ := hcn y bs9 mL none f9 l9 2 qc qi qs qn he hmq hmL rfl
      intro H locs cells slots la pc hpc hl hP hS hc hs
      have hpc' : sx_xp x = pc := Option.some.inj hpc
      subst hpc'
      have hbs := hKK.2.2.2.2.2.2.2.2
      have hsum : ((r.map (sx_c g b scr)).map fun v => v.category).sum ≤ 8 := by rw [sx_sw_sum]; exact Nat.le_of_ble_eq_true hsw
      have hPU := sx_PcU (as := [some (.inr (.inl k9))]) hbs hKK hP hS
      refine sn_bk (a9 := (Value.ref (b + k9) :: []).toArray) hRc hRs hmono hle hgo hThr er hnx hl hS hc hs (fun ht hf => ?_) (fun ht hf => absurd ht9 (by omega))
      rcases hw with ⟨-, hw'⟩ | ⟨-, host, hw'⟩
      · exact va_runI (b := b + k9) (As := []) (n := 0) (rest := r.map (sx_c g b scr)) ⟨hx, hb, rfl, hown, hts⟩ (c1 (by decide) ht) ⟨⟨rfl, rfl, Nat.le_trans hfr hRf, Nat.le_trans hlo hRl, sx_wsU hts (sx_gq wc rfl), List.mem_cons_self, hts _ (sx_gq wc rfl), hts _ (sx_gq wn rfl), hmh, sx_par hpar, sx_wg hts hw' rfl⟩, hini, hts _ (sx_gq wi rfl)⟩ ⟨sx_Pc_blind, hPU⟩ rfl rfl hl.1 rfl (lv_room hsum) hd hf
      · exact va_runIN (host := host) (b := b + k9) (As := []) (n := 0) (rest := r.map (sx_c g b scr)) ⟨hx, hb, rfl, hown, hts⟩ (c1 (by decide) ht) ⟨⟨⟨rfl, rfl, Nat.le_trans hfr hRf, Nat.le_trans hlo hRl, sx_wsU hts (sx_gq wc rfl), List.mem_cons_self⟩, hts _ (sx_gq wc rfl), hts _ (sx_gq wn rfl), hmh, sx_par hpar, va_Nw.use rfl (sx_wn hKK.2.1 hw' rfl)⟩, hini, hts _ (sx_gq wi rfl)⟩ ⟨sx_Pc_blind, hPU⟩ rfl rfl hl.1 rfl (lv_room hsum) hd hf
  · cases er
/-- a wrapper's call -/
theorem sn_callW (hx : p.tables.exec = Jvm.exec) (hb : c.code = bs) (hown : s.vm.findClass own = some m.cls) (hts : ∀ w ∈ sx_goods, w.before args s = true) (hKK : sx_KK b scr L xs D s) (hokM : ∀ i e, sx_m[i]? = some e → sx_okM i = true) (hCon : ∀ mid as h out, call mid as h = some out → sx_LE h out ∧ sx_Cn l g b scr L xs D mid as h out) (hRf : fr ≤ R.frames) (hRl : lo ≤ R.locals) (hRc : out.2.2.2.1 ≤ h0.2.2.1 + R.cells) (hRs : out.2.2.2.2.1 ≤ h0.2.2.2.1 + R.slots) (hmono : ∀ ls st h, go cs ls st h = some out → h.2.2.1 ≤ out.2.2.2.1 ∧ h.2.2.2.1 ≤ out.2.2.2.2.1) (hThr : ∀ (t9 : Nat) (h' : sx_H I) (H : Heap) (locs : List Loc) (cells slots : Nat) (la : Array Slot) (pc : Nat) (rest : List Value) (q : Addr) (ce : Cell), out = ((t9 + 2, none), h') → sx_Rep g b scr D s h' H → va_S (fun q => b ≤ q) s.heap H locs → h0.2.2.1 + cells = h'.2.2.1 → h0.2.2.2.1 + slots = h'.2.2.2.1 → H[q]? = some ce → ce.vm = .none → s.vm.findClass (sx_en t9) = some ce.cls → vx_W p l e R s m args below meth c H locs cells slots Q (F0 m pc la rest) q) (hCat : ∀ (t9 v9 : Nat) (h' : sx_H I) (H : Heap) (locs : List Loc) (cells slots : Nat) (la : Array Slot) (rest : List Value) (q : Addr) (ce : Cell), out = ((1, some (.inl (o.1 v9))), h') → v9 = Nat.mod (Nat.div (Nat.div b9 256) (4 ^ t9)) 4 → v9 ≠ 0 → t9 < 3 → lv_has la c.maxLocals (ls.map (sx_cq g b scr)) → sx_Rep g b scr D s h' H → va_S (fun q => b ≤ q) s.heap H locs → h0.2.2.1 + cells = h'.2.2.1 → h0.2.2.2.1 + slots = h'.2.2.2.1 → H[q]? = some ce → ce.vm = .none → s.vm.findClass (sx_en t9) = some ce.cls → vx_W p l e R s m args below meth c H locs cells slots Q (F0 m (sx_xp x) la rest) q)
    (hkd : sx_kd a 0 = true) (hok : sx_cal own bs (sx_xp x) fr lo (Nat.mod b9 16) 1 sx_m[a]? lw_tbl[q]? false .invokevirtual (sx_cls1 (Nat.mod (Nat.div b9 16) 16)) cs = true) (hgo : ∀ ls st h, go cs ls st h = some out → sx_Cm p l e R s m args below meth c Q g b scr D h0 cs ls st h) (er : sh_callW o call go a b9 cs ls st h = some out) : sx_Cm p l e R s m args below meth c Q g b scr D h0 (x :: cs) ls st h := by
  obtain ⟨y, bs9, mL, ret, f9, l9, idx, he, hw, hpar, hfr, hlo, hmL, hd, hmore, hnx⟩ := sx_cal_ok hok
  obtain ⟨kd, qc, qi, qs, qn, hmq, -, -, -, hmh, hwk, -⟩ := sx_okM_ok (hokM a _ he) he
  have hk0 := sx_kd_ok hkd hmq
  subst hk0
  unfold sx_wk at hwk
  simp only [Bool.and_eq_true, decide_eq_true_eq] at hwk
  obtain ⟨wc, wn, wi, wl⟩ := hwk
  obtain ⟨r9, hc9, hyc⟩ := sx_cls1_ok hmore
  have hw' : lw_tbl[q]? = some (Jvm.Cond.methodLink own idx y) := by
    rcases hw with ⟨-, hw⟩ | ⟨hw, -⟩
    · exact hw
    · cases hw
  unfold sh_callW at er
  split at er
  · next as k9 r hpop =>
    split at er
    · next ci fs hg =>
      obtain ⟨hcd, er⟩ := sx_cond er
      simp only [Bool.and_eq_true] at hcd
      obtain ⟨hci, hsw, hn2⟩ := hcd
      have hci' : ci = Nat.mod (Nat.div b9 16) 16 := Nat.eq_of_beq_eq_true hci
      rw [← hci'] at hc9
      cases hres : call a (some (.inr (.inl k9)) :: as) h with
      | none => rw [hres] at er; cases er
      | some out9 =>
        rw [hres] at er
        obtain ⟨hle, hcn⟩ := hCon _ _ _ _ hres
        obtain ⟨hl1, hl2⟩ := sx_pop_ok _ _ _ _ _ hpop
        have hlen : as.length = Nat.mod b9 16 := by rw [hl1]; exact Nat.zero_add _
        obtain ⟨c1, c2, -⟩ := hcn y bs9 mL ret f9 l9 0 qc qi qs qn he hmq (by rw [List.length_cons, hlen]; exact hmL) hn2
        intro H locs cells slots la pc hpc hl hP hS hc hs
        have hpc' : sx_xp x = pc := Option.some.inj hpc
        subst hpc'
        have hbs := hKK.2.2.2.2.2.2.2.2
        have hrecv : ∃ cell : Cell, H[b + k9]? = some cell ∧ cell.vm.isStatics = false ∧ s.vm.findClass r9.1 = some cell.cls := va_recv (q0 := 0) (ws := [(b + k9, .inr (ci, fs.map (sx_c g b scr)))]) hKK.1 (sx_P1 (hP.1 k9 _ hg)) hc9 rfl
        have hCB : CallB R s args own idx y bs9 mL ret (Jvm.Cond.code y bs9 mL ret :: sx_goods) (sx_rm f9 l9 (out9.2.2.2.1 - h.2.2.1) (out9.2.2.2.2.1 - h.2.2.2.1)) (out9.2.2.2.1 - h.2.2.1) (out9.2.2.2.2.1 - h.2.2.2.1) (Nat.mod b9 16) :=
          ⟨rfl, rfl, Nat.le_trans hfr hRf, Nat.le_trans hlo hRl, sx_wsU hts (sx_gq wc rfl), List.mem_cons_self, hts _ (sx_gq wc rfl), hts _ (sx_gq wn rfl), hmh, sx_par hpar, sx_wg hts hw' rfl⟩
        have hCW : CallW R s args own r9.1 idx y bs9 mL ret (Jvm.Cond.code y bs9 mL ret :: sx_goods) (sx_rm f9 l9 (out9.2.2.2.1 - h.2.2.1) (out9.2.2.2.2.1 - h.2.2.2.1)) (out9.2.2.2.1 - h.2.2.1) (out9.2.2.2.2.1 - h.2.2.2.1) (Nat.mod b9 16) :=
          ⟨hCB, hts _ (sx_gq wi rfl), by rw [← hyc]; exact hts _ (sx_gq wl rfl)⟩
        have hsum : ((r.map (sx_c g b scr)).map fun v => v.category).sum ≤ 8 := by rw [sx_sw_sum]; exact Nat.le_of_ble_eq_true hsw
        rw [sx_stk hl2]
        have runN : out9.1.1 ≤ 1 → cells + (out9.2.2.2.1 - h.2.2.1) ≤ R.cells ∧ slots + (out9.2.2.2.2.1 - h.2.2.2.1) ≤ R.slots → va_Run p l e R s m args below meth c H locs cells slots (out9.2.2.2.1 - h.2.2.1) (out9.2.2.2.2.1 - h.2.2.2.1) (F0 m (sx_xp x) la ((as.map (sx_c g b scr)).reverse ++ (some (.inr (.inl k9)) :: r).map (sx_c g b scr))) (r.map (sx_c g b scr)) (sx_Qc g b scr D out9 (Value.ref (b + k9) :: as.map (sx_c g b scr)).toArray) (fun q => b ≤ q) := fun ht hf =>
          va_runV (C := r9.1) (b := b + k9) (As := as.map (sx_c g b scr)) (rest := r.map (sx_c g b scr)) ⟨hx, hb, rfl, hown, hts⟩ (c1 (by decide) ht) hCW ⟨sx_Pc_blind, hrecv, sx_PcU hbs hKK hP hS⟩ rfl (by rw [List.length_map]; exact hlen) hl.1 rfl (lv_room hsum) hd hf
        have runX : 2 ≤ out9.1.1 → cells + (out9.2.2.2.1 - h.2.2.1) ≤ R.cells ∧ slots + (out9.2.2.2.2.1 - h.2.2.2.1) ≤ R.slots → vx_Run p l e R s m args below meth c H locs cells slots (out9.2.2.2.1 - h.2.2.1) (out9.2.2.2.2.1 - h.2.2.2.1) (F0 m (sx_xp x) la ((as.map (sx_c g b scr)).reverse ++ (some (.inr (.inl k9)) :: r).map (sx_c g b scr))) (r.map (sx_c g b scr)) (sx_No (Value.ref (b + k9) :: as.map (sx_c g b scr)).toArray) (sx_XC g b scr D out9) (fun q => b ≤ q) := fun ht hf =>
          vx_runV (C := r9.1) (b := b + k9) (As := as.map (sx_c g b scr)) (rest := r.map (sx_c g b scr)) ⟨hx, hb, rfl, hown, hts⟩ (c2 (by decide) ht) hCW ⟨sx_Pc_blind, hrecv, sx_PcU hbs hKK hP hS⟩ rfl (by rw [List.length_map]; exact hlen) hl.1 rfl (lv_room hsum) hd hf
        clear hcn c1 c2 hCB hCW
        obtain ⟨⟨t, v⟩, h'⟩ := out9
        match t, er, runN, runX with
        | 0, er, runN, runX => exact sn_bk hRc hRs hmono hle hgo hThr (show sx_bk go cs ls r (some ((0, v), h')) = some out from er) hnx hl hS hc hs runN runX
        | 1, er, runN, runX => exact sn_bk hRc hRs hmono hle hgo hThr (show sx_bk go cs ls r (some ((1, v), h')) = some out from er) hnx hl hS hc hs runN runX
        | t + 2, er, runN, runX =>
          have hle1 : h.2.2.1 ≤ h'.2.2.1 := hle.1
          have hle2 : h.2.2.2.1 ≤ h'.2.2.2.1 := hle.2
          obtain ⟨hv9, er2⟩ := sx_condn er
          have er3 : out = ((1, some (.inl (o.1 (Nat.mod (Nat.div (Nat.div b9 256) (4 ^ t)) 4)))), h') := (Option.some.inj er2).symm
          have hq1 : out.2 = h' := by rw [er3]
          rw [hq1] at hRc hRs
          have hv0 : Nat.mod (Nat.div (Nat.div b9 256) (4 ^ t)) 4 ≠ 0 := fun z => by rw [z] at hv9; cases hv9
          have ht3 : t < 3 := by
            rcases Nat.lt_or_ge t 3 with z | z
            · exact z
            · rw [show Nat.ble 3 t = true from Nat.ble_eq_true_of_le z, Bool.or_true] at hv9; cases hv9
          refine sx_ofRunX (runX (by show 2 ≤ t + 2; omega) ⟨?_, ?_⟩) hS fun H1 locs1 q ce hP1 hS1 h1 h2 h3 => hCat t _ h' H1 locs1 _ _ la _ q ce er3 rfl hv0 ht3 hl hP1 hS1 ?_ ?_ h1 h2 h3
          · show cells + (h'.2.2.1 - h.2.2.1) ≤ R.cells
            omega
          · show slots + (h'.2.2.2.1 - h.2.2.2.1) ≤ R.slots
            omega
          · show h0.2.2.1 + (cells + (h'.2.2.1 - h.2.2.1)) = h'.2.2.1
            omega
          · show h0.2.2.2.1 + (slots + (h'.2.2.2.1 - h.2.2.2.1)) = h'.2.2.2.1
            omega
    · cases er
  · cases er
end SN
