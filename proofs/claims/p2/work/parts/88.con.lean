/-! ===== a run that does not look at the script: as good as one that does ===== -/
theorem sx_conG {I : Type} {l : Launch} {o : sx_O I} {g : I → Int32} {b scr L : Nat} {xs : Nat → Int32} {D : va_G} (hlt : l.stackTraces = false) (hLw : sx_Law o g L xs) (hokM : ∀ i e, sx_m[i]? = some e → sx_okM i = true) {rn : List Nat → sx_G I} (hMo : ∀ full cs ls st h out, rn full cs ls st h = some out → sx_LE h out) (hFS : sx_FSg l o.1 g b scr L xs D rn) (mid : Nat) (as : List (sx_V I)) (h : sx_H I) (out : sx_R I) (er : sx_ca sx_cd rn mid as h = some out) : sx_LE h out ∧ sx_Cn l g b scr L xs D mid as h out := by
  have hle : sx_LE h out := hMo _ _ _ _ _ _ er
  refine ⟨hle, ?_⟩
  intro y bs mL ret f lo kd qc qi qs qn he hmq hlen hn2
  obtain ⟨kd', qc', qi', qs', qn', hmq', hokL, hnx, hpl, hmh, hwk, hwr⟩ := sx_okM_ok (hokM mid _ he) he
  cases hmq.symm.trans hmq'
  have hslen : (lg_sl (as.map (sx_c g b scr))).length ≤ mL := by rw [sx_slen as hn2]; exact hlen
  have hle1 : h.2.2.1 ≤ out.2.2.2.1 := hle.1
  have hle2 : h.2.2.2.1 ≤ out.2.2.2.2.1 := hle.2
  -- the ends of a body that returns
  have endI : ∀ (p : Program) (e : Env) (R : Room) (s : State) (m : MethodId) (args : Array Value) (below : List Frame) (meth : Method) (c : Code), p.tables.exec = Jvm.exec → c.code = bs → meth.sig.returnType = ret → meth.locks = false → ∀ (i : I) (h' : sx_H I) (H : Heap) (locs : List Loc) (cells slots : Nat) (la : Array Slot) (pc : Nat), out = ((1, some (.inl i)), h') → (ret = some .int ∨ (ret = some .boolean ∧ (g i = nI 0 ∨ g i = nI 1))) → decode bs pc = .ok (.ireturn, 1) → sx_FI g b scr D s h h' H locs cells slots → W p l e R s m args below meth c H locs cells slots (MQ below (sx_Qc g b scr D out) args s (out.2.2.2.1 - h.2.2.1) (out.2.2.2.2.1 - h.2.2.2.1) (fun q => b ≤ q)) (F0 m pc la [.int (g i)]) := by
    intro p e R s m args below meth c hx hb hr hlk i h' H locs cells slots la pc ho hret hd hfi
    obtain ⟨hP, hS, hc, hs⟩ := hfi
    subst ho
    refine W.cs (show cells = h'.2.2.1 - h.2.2.1 by omega) (show slots = h'.2.2.2.1 - h.2.2.2.1 by omega) ?_
    have hq : ∀ t : State, t.heap = H → s.WarmedH t.vm → sx_Qc g b scr D ((1, some (.inl i)), h') args s (.returned (some (.int (g i)))) t := fun t ht hW => ⟨rfl, by rw [ht]; exact sx_Rep_moved hW.alike hP, va_S.F hS ht⟩
    rcases hret with hret | ⟨hret, hg⟩
    · exact W.iret (v := g i) hx hb (hr.trans hret) hq hS.2.2 hd hlk
    · exact W.zret (v := g i) (ty := .boolean) hx hb (hr.trans hret) (by rcases hg with hg | hg <;> rw [hg] <;> rfl) hq hS.2.2 hd hlk
  refine ⟨fun hk ht => ?_, fun hk ht => ?_, fun hk ht hh hqc => ?_⟩
  · have hkb : Nat.beq kd 3 = false := by
      rcases (show kd = 0 ∨ kd = 1 ∨ kd = 2 by omega) with rfl | rfl | rfl <;> rfl
    rw [hkb] at hokL
    refine Met.ofW (cc := bs) (maxL := mL) (ret := ret) hpl rfl ?_
    intro p e s m args below meth c s₁ B hml hv
    obtain ⟨rfl, hRep, hKK⟩ := hv
    have hts0 := atoms_spec (ws := Jvm.Cond.code y bs mL ret :: sx_goods) B.pre
    have hl := lv_entry (as.map (sx_c g b scr)) (n := mL) hslen
    rw [lg_entry_eq]
    rw [sx_args_map] at hl
    exact hFS mid y bs mL ret f lo he p e _ s m _ below meth c _ h out false B.exec B.bytes hml (findClass_of_methodNamed B.named) (fun w hw => hts0 w (List.mem_cons_of_mem _ hw)) hKK (Nat.le_refl _) (Nat.le_refl _) (fun hy => (name_of_methodNamed B.named B.method).1.trans hy)
      (by show out.2.2.2.1 ≤ h.2.2.1 + (out.2.2.2.1 - h.2.2.1); omega) (by show out.2.2.2.2.1 ≤ h.2.2.2.1 + (out.2.2.2.2.1 - h.2.2.2.1); omega)
      (endI p e _ s m _ below meth c B.exec B.bytes B.returns B.notSynchronized)
      (fun h' H locs cells slots la pc ho hret hd ⟨hP, hS, hc, hs⟩ => by
        subst ho
        refine W.cs (show cells = h'.2.2.1 - h.2.2.1 by omega) (show slots = h'.2.2.2.1 - h.2.2.2.1 by omega) ?_
        exact W.vret B.exec B.bytes (B.returns.trans hret) (fun t ht hW => ⟨rfl, by rw [ht]; exact sx_Rep_moved hW.alike hP, va_S.F hS ht⟩) hS.2.2 hd B.notSynchronized)
      (fun v h' H locs cells slots la pc ho hv9 hrob hd ⟨hP, hS, hc, hs⟩ => by
        subst ho
        refine W.cs (show cells = h'.2.2.1 - h.2.2.1 by omega) (show slots = h'.2.2.2.1 - h.2.2.2.1 by omega) ?_
        obtain ⟨nm, hret⟩ := sx_rob_ok hrob
        exact W.aret (rt := .object nm) B.exec B.bytes (B.returns.trans hret) (Or.inl ⟨nm, rfl⟩) (by rcases hv9 with rfl | ⟨k, rfl⟩; exact Or.inl rfl; exact Or.inr ⟨b + k, rfl⟩) (fun t ht hW => ⟨rfl, by rw [ht]; exact sx_Rep_moved hW.alike hP, va_S.F hS ht⟩) hS.2.2 hd B.notSynchronized)
      (fun t9 h' H locs cells slots la pc rest q ce ho => by subst ho; exact absurd ht (by show ¬ t9 + 2 ≤ 1; omega))
      (fun a b9 q k f9 h2 st H locs cells slots la pc ho => by subst ho; exact absurd ht (by show ¬ a + 2 ≤ 1; omega))
      (fun x b9 ls hw => by cases hw)
      hokL (sx_cd mid) (sx_args 0 as) [] h (fun z hz => hz) hokL er s.heap [] 0 0 _ 0 (sx_nx_pc hnx) (by rw [hml]; exact hl) hRep va_S.rf (Nat.add_zero _) (Nat.add_zero _)
  · have hkb : Nat.beq kd 3 = false := by
      rcases (show kd = 0 ∨ kd = 1 ∨ kd = 2 by omega) with rfl | rfl | rfl <;> rfl
    rw [hkb] at hokL
    refine vx_ofW (cc := bs) (maxL := mL) (ret := ret) hpl rfl ?_
    intro p e s m args below meth c s₁ B hml hex hv
    obtain ⟨rfl, hRep, hKK⟩ := hv
    have hts0 := atoms_spec (ws := Jvm.Cond.code y bs mL ret :: sx_goods) B.pre
    have hts : ∀ w ∈ sx_goods, w.before (as.map (sx_c g b scr)).toArray s = true := fun w hw => hts0 w (List.mem_cons_of_mem _ hw)
    have hl := lv_entry (as.map (sx_c g b scr)) (n := mL) hslen
    rw [lg_entry_eq]
    rw [sx_args_map] at hl
    have hown := findClass_of_methodNamed B.named
    exact hFS mid y bs mL ret f lo he p e _ s m _ below meth c _ h out false B.exec B.bytes hml hown hts hKK (Nat.le_refl _) (Nat.le_refl _) (fun hy => (name_of_methodNamed B.named B.method).1.trans hy)
      (by show out.2.2.2.1 ≤ h.2.2.1 + (out.2.2.2.1 - h.2.2.1); omega) (by show out.2.2.2.2.1 ≤ h.2.2.2.1 + (out.2.2.2.2.1 - h.2.2.2.1); omega)
      (fun i h' H locs cells slots la pc ho => by subst ho; exact absurd ht (by show ¬ 2 ≤ 1; omega))
      (fun h' H locs cells slots la pc ho => by subst ho; exact absurd ht (by show ¬ 2 ≤ 0; omega))
      (fun v h' H locs cells slots la pc ho => by subst ho; exact absurd ht (by show ¬ 2 ≤ 1; omega))
      (fun t9 h' H locs cells slots la pc rest q ce ho hP hS hc hs h1 h2 h3 => by
        subst ho
        exact vx_out (E := sx_en t9) (ce := ce) (fun z hz => (hex z hz).elim) B.notSynchronized h1 h2 h3 (fun t ht hW => ⟨rfl, by rw [ht]; exact sx_Rep_moved hW hP, va_S.F hS ht⟩) hS.2.2 (show cells ≤ h'.2.2.1 - h.2.2.1 by omega) (show slots ≤ h'.2.2.2.1 - h.2.2.2.1 by omega))
      (fun a b9 q k f9 h2 st H locs cells slots la pc ho hfk hthr hsw hsz ⟨hP, hS, hc, hs⟩ => by
        obtain ⟨is, tx, hown6, hq, hfr, hlo, ha2, d0, d3, d4, d6, d9⟩ := sx_thr_ok hthr
        rw [hown6] at hown
        obtain ⟨wat, wot, wcl, wini, wfit⟩ := sx_atw a ha2
        obtain ⟨sa, hsa⟩ := hKK.2.2.2.2.1 is tx (List.mem_of_getElem? hq)
        subst ho
        have hXC : ∀ t : State, s.vm.Alike t.vm → H.size ≤ t.heap.size → (∀ q : Nat, q < H.size → t.heap[q]? = H[q]?) → sx_XC g b scr D ((a + 2, none), sx_hx h2) (sx_en a) s t := fun t hvm hz hq9 =>
          ⟨rfl, sx_Rep_moved hvm (sx_Rep_hx hP hz hq9), Nat.le_trans hS.1 hz, fun q9 h1 h2 => (hq9 q9 (Nat.lt_of_lt_of_le h1 hS.1)).trans (hS.2.1 q9 h1 h2)⟩
        have hat : ∀ w ∈ vx_atS RX6 (sx_ec a) (sx_en a) sx_nm2, w.before (as.map (sx_c g b scr)).toArray s = true := fun w hw => (wat w hw).elim (fun h9 => hts w h9) (fun h9 => va_Nw.use h9.2 (hKK.2.1 w h9.1))
        have hsum : ((st.map (sx_c g b scr)).map fun v => v.category).sum + (13 * (sx_nm2.length + 1) + 43) ≤ lo := by rw [sx_sw_sum]; show sx_sw st + (13 * 3 + 43) ≤ lo; omega
        rcases hfk with ⟨rfl, rfl⟩ | ⟨rfl, rfl⟩
        · exact vx_throwS (A := fun q => b ≤ q) (names := sx_nm2) B.exec B.bytes hlt hown wfit sx_nm2_fit (hts _ wcl) (hts _ wini) hsa hat wot hKK.2.2.2.1.1 hKK.2.2.2.1.2 hS hsz d0 d3 d4 d6 d9 (fun z hz => (hex z hz).elim) (show 2 + 3 < f by omega) hsum
            (show cells + 1 ≤ (h2.2.2.1 + 1) - h.2.2.1 by omega) (show slots + 6 ≤ (h2.2.2.2.1 + 6) - h.2.2.2.1 by omega) B.notSynchronized hXC hS.2.2 (show cells + 1 ≤ (h2.2.2.1 + 1) - h.2.2.1 by omega) (show slots + 6 ≤ (h2.2.2.2.1 + 6) - h.2.2.2.1 by omega)
        · exact vx_throwSW (A := fun q => b ≤ q) (names := sx_nm2) B.exec B.bytes hlt hown wfit sx_nm2_fit (hts _ wcl) (hts _ wini) hsa hat wot hKK.2.2.2.1.1 hKK.2.2.2.1.2 hS hsz d0 d3 d4 d6 d9 (fun z hz => (hex z hz).elim) (show 2 + 3 < f by omega) hsum
            (show cells + 1 ≤ (h2.2.2.1 + 1) - h.2.2.1 by omega) (show slots + 6 ≤ (h2.2.2.2.1 + 6) - h.2.2.2.1 by omega) B.notSynchronized hXC hS.2.2 (show cells + 1 ≤ (h2.2.2.1 + 1) - h.2.2.1 by omega) (show slots + 6 ≤ (h2.2.2.2.1 + 6) - h.2.2.2.1 by omega))
      (fun x b9 ls hw => by cases hw)
      hokL (sx_cd mid) (sx_args 0 as) [] h (fun z hz => hz) hokL er s.heap [] 0 0 _ 0 (sx_nx_pc hnx) (by rw [hml]; exact hl) hRep va_S.rf (Nat.add_zero _) (Nat.add_zero _)
  · subst hk
    obtain ⟨hwrk, hRL, hri⟩ := hwr rfl
    refine va_MetW (cc := bs) (maxL := mL) (ret := ret) (hh := hh) hpl rfl ?_
    intro p e s m args below meth c s₁ B hml hv
    obtain ⟨rfl, hRep, hKK⟩ := hv
    have hts0 := atoms_spec (ws := Jvm.Cond.codeWith y bs mL ret hh :: sx_goods) B.pre
    have hts : ∀ w ∈ sx_goods, w.before (as.map (sx_c g b scr)).toArray s = true := fun w hw => hts0 w (List.mem_cons_of_mem _ hw)
    have htab := vx_table (x := y) B (hts0 _ List.mem_cons_self)
    have hl := lv_entry (as.map (sx_c g b scr)) (n := mL) hslen
    rw [lg_entry_eq]
    rw [sx_args_map] at hl
    have hown := findClass_of_methodNamed B.named
    have hownL : s.vm.findClass RL = some m.cls := by rw [← hRL]; exact hown
    exact hFS mid y bs mL ret f lo he p e _ s m _ below meth c _ h out true B.exec B.bytes hml hown hts hKK (Nat.le_refl _) (Nat.le_refl _) (fun hy => (name_of_methodNamed B.named B.method).1.trans hy)
      (by show out.2.2.2.1 ≤ h.2.2.1 + (out.2.2.2.1 - h.2.2.1); omega) (by show out.2.2.2.2.1 ≤ h.2.2.2.1 + (out.2.2.2.2.1 - h.2.2.2.1); omega)
      (endI p e _ s m _ below meth c B.exec B.bytes B.returns B.notSynchronized)
      (fun h' H locs cells slots la pc ho hret hd hfi => by rw [hri] at hret; cases hret)
      (fun v h' H locs cells slots la pc ho hv9 hrob hd hfi => by rw [hri] at hrob; cases hrob)
      (fun t9 h' H locs cells slots la pc rest q ce ho => by subst ho; exact absurd ht (by show ¬ t9 + 2 ≤ 1; omega))
      (fun a b9 q k f9 h2 st H locs cells slots la pc ho => by subst ho; exact absurd ht (by show ¬ a + 2 ≤ 1; omega))
      (fun x b9 ls _ hxm hxq hxb t9 v9 h' H locs cells slots la rest q ce ho hv9 hv0 ht3 hl9 hP hS hc hs h1 h2 h3 => by
        subst hxb
        unfold sx_wrk at hwrk
        rw [hqc] at hwrk
        have hw1 := List.all_eq_true.mp hwrk x hxm
        rw [hxq] at hw1
        have hw2 : (List.range 3).all (fun t => Nat.beq (Nat.mod (Nat.div (Nat.div (sx_xb x) 256) (4 ^ t)) 4) 0 || sx_cth bs (sx_xp x) t (Nat.mod (Nat.div (Nat.div (sx_xb x) 256) (4 ^ t)) 4) mL hh) = true := hw1
        have hv3 : v9 ≤ 3 := by
          have h9 : v9 = (Nat.div (Nat.div (sx_xb x) 256) (4 ^ t9)) % 4 := hv9
          omega
        have hw3 := List.all_eq_true.mp hw2 t9 (List.mem_range.mpr ht3)
        rw [← hv9] at hw3
        have hbz : Nat.beq v9 0 = false := by
          cases v9 with
          | zero => exact absurd rfl hv0
          | succ v9 => rfl
        rw [hbz] at hw3
        refine sx_caught (v9 := v9) B.exec B.bytes hownL hts hKK ht3 hv3 hml (hml ▸ hl9) h1 h2 h3 (fun la' pc' hd => ?_) hh [] htab (fun z hz => by cases hz) hw3
        rw [← hLw.1 v9]
        exact endI p e _ s m _ below meth c B.exec B.bytes B.returns B.notSynchronized (o.1 v9) h' H locs cells slots la' pc' ho (Or.inl hri) hd ⟨hP, hS, hc, hs⟩)
      hokL (sx_cd mid) (sx_args 0 as) [] h (fun z hz => hz) hokL er s.heap [] 0 0 _ 0 (sx_nx_pc hnx) (by rw [hml]; exact hl) hRep va_S.rf (Nat.add_zero _) (Nat.add_zero _)

theorem sx_FSg_le {I : Type} {l : Launch} {o1 : Nat → I} {g : I → Int32} {b scr L : Nat} {xs : Nat → Int32} {D : va_G} {rn1 rn2 : List Nat → sx_G I} (hle : ∀ full cs ls st h out, rn1 full cs ls st h = some out → rn2 full cs ls st h = some out) (H : sx_FSg l o1 g b scr L xs D rn2) : sx_FSg l o1 g b scr L xs D rn1 := by
  intro mid y bs mL ret f lo he p e R s m args below meth c Q h0 out wrp hx hb hml hown hts hKK hRf hRl hini hRc hRs hI hV hA hThr hTh hCat hfull cs ls st h hsub hok er
  exact H mid y bs mL ret f lo he p e R s m args below meth c Q h0 out wrp hx hb hml hown hts hKK hRf hRl hini hRc hRs hI hV hA hThr hTh hCat hfull cs ls st h hsub hok (hle _ _ _ _ _ _ er)
noncomputable def sc_vs {I : Type} : List (sx_V I) → Bool
  | some (.inr (.inr (.inr _))) :: _ => true
  | _ => false
noncomputable def sc_h24 : sx_Hd Int := fun o call go full a b c cs ls st h => cond (sc_vs st) none (sx_hf 24 o call go full a b c cs ls st h)
noncomputable def sc_h (q : Nat) : sx_Hd Int := cond (Nat.beq q 24) sc_h24 (sx_hf q)
noncomputable def sc_o : sx_O Int := ii_o 0 (fun _ => 0)
noncomputable def sc_run (n : Nat) : List Nat → sx_G Int := sx_runh sc_h sx_cd sc_o n
theorem sc_hd {L : Nat} {xs : Nat → Int32} (q : Nat) {call : sx_K Int} {go : sx_G Int} {full : List Nat} {a b c : Nat} {cs : List Nat} {ls : sx_L Int} {st : List (sx_V Int)} {h : sx_H Int} {out : sx_R Int} (er : sc_h q sc_o call go full a b c cs ls st h = some out) : sx_hd q (ii_o L xs) call go full a b c cs ls st h = some out := by
  unfold sc_h at er
  cases hq : Nat.beq q 24 with
  | true =>
    rw [hq] at er
    have e := Nat.eq_of_beq_eq_true hq
    subst e
    have er2 : cond (sc_vs st) none (sx_hf 24 sc_o call go full a b c cs ls st h) = some out := er
    rw [sx_hf_eq] at er2
    match st, er2 with
    | [], er2 => cases er2
    | none :: r, er2 => cases er2
    | some (.inl i) :: r, er2 => cases er2
    | some (.inr (.inl k)) :: r, er2 => exact er2
    | some (.inr (.inr (.inl x))) :: r, er2 => cases er2
    | some (.inr (.inr (.inr u))) :: r, er2 => cases er2
  | false =>
    rw [hq] at er
    have er2 : sx_hf q sc_o call go full a b c cs ls st h = some out := er
    rw [sx_hf_eq] at er2
    clear er
    match q, hq, er2 with
    | 0, hq, er2 => exact er2
    | 1, hq, er2 => exact er2
    | 2, hq, er2 => exact er2
    | 3, hq, er2 => exact er2
    | 4, hq, er2 => exact er2
    | 5, hq, er2 => exact er2
    | 6, hq, er2 =>
      match st, er2 with
      | [], er2 => cases er2
      | none :: r, er2 => cases er2
      | some (.inr v) :: r, er2 => cases er2
      | [some (.inl i)], er2 => cases er2
      | some (.inl i) :: none :: r, er2 => cases er2
      | some (.inl i) :: some (.inl j) :: r, er2 => cases er2
      | some (.inl i) :: some (.inr (.inl k)) :: r, er2 => exact er2
      | some (.inl i) :: some (.inr (.inr (.inl x))) :: r, er2 => cases er2
      | some (.inl i) :: some (.inr (.inr (.inr u))) :: r, er2 =>
        exfalso
        have er3 : cond (Nat.beq a 0) (match sx_ix sc_o i 0 with
          | some j => go cs ls (some (.inl (sc_o.2.2.2.2.2 j)) :: r) h
          | none => none) none = some out := er2
        have e0 : sx_ix sc_o i 0 = none := by
          unfold sx_ix
          split
          · rfl
          · rfl
        rw [e0] at er3
        cases hz : Nat.beq a 0 <;> rw [hz] at er3 <;> cases er3
    | 7, hq, er2 => exact er2
    | 8, hq, er2 => exact er2
    | 9, hq, er2 => exact er2
    | 10, hq, er2 => exact er2
    | 11, hq, er2 => exact er2
    | 12, hq, er2 => exact er2
    | 13, hq, er2 => exact er2
    | 14, hq, er2 => exact er2
    | 15, hq, er2 => exact er2
    | 16, hq, er2 => exact er2
    | 17, hq, er2 => exact er2
    | 18, hq, er2 => exact er2
    | 19, hq, er2 => exact er2
    | 20, hq, er2 => exact er2
    | 21, hq, er2 => exact er2
    | 22, hq, er2 => exact er2
    | 23, hq, er2 => exact er2
    | 24, hq, er2 => cases hq
    | 25, hq, er2 => exact er2
    | 26, hq, er2 => exact er2
    | 27, hq, er2 => exact er2
    | 28, hq, er2 => exact er2
    | 29, hq, er2 => exact er2
    | 30, hq, er2 => exact er2
    | 31, hq, er2 => exact er2
    | 32, hq, er2 => exact er2
    | 33, hq, er2 => exact er2
    | 34, hq, er2 => exact er2
    | 35, hq, er2 => exact er2
    | 36, hq, er2 => exact er2
    | 37, hq, er2 => exact er2
    | 38, hq, er2 => exact er2
    | 39, hq, er2 => exact er2
    | 40, hq, er2 => exact er2
    | 41, hq, er2 => exact er2
    | 42, hq, er2 => exact er2
    | 43, hq, er2 => exact er2
    | n + 44, hq, er2 => exact er2
theorem sc_succ (n : Nat) (full : List Nat) (x : Nat) (r : List Nat) (ls : sx_L Int) (st : List (sx_V Int)) (h : sx_H Int) : sc_run (n + 1) full (x :: r) ls st h = sc_h (sx_xq x) sc_o (sx_ca sx_cd (sc_run n)) (sc_run n full) full (sx_xa x) (sx_xb x) (sx_xc x) r ls st h := rfl
theorem sc_mono (n : Nat) : ∀ full cs ls st h out, sc_run n full cs ls st h = some out → sx_LE h out := by
  induction n with
  | zero => intro full cs ls st h out er; cases er
  | succ n ih =>
    intro full cs ls st h out er
    cases cs with
    | nil => cases er
    | cons x r =>
      rw [sc_succ] at er
      exact mo_hd (sx_xq x) (fun m as h out e => ih _ _ _ _ _ _ e) (fun cs ls st h e9 => ih full cs ls st h out e9) (sc_hd (L := 0) (xs := fun _ => 0) _ er)
noncomputable def sc_nx (L : Nat) (xs : Nat → Int32) (n : Nat) : List Nat → sx_G Int := fun full cs ls st h => match cs with
  | [] => none
  | x :: r => sx_hd (sx_xq x) (ii_o L xs) (sx_ca sx_cd (sc_run n)) (sc_run n full) full (sx_xa x) (sx_xb x) (sx_xc x) r ls st h
theorem sc_FS {l : Launch} (hlt : l.stackTraces = false) {L : Nat} (hL : L < 2 ^ 31) {xs : Nat → Int32} {b scr : Nat} {D : va_G} (n : Nat) : sx_FSg l (ii_o L xs).1 Int32.ofInt b scr L xs D (sc_run n) := by
  induction n with
  | zero =>
    intro mid y bs mL ret f lo he p e R s m args below meth c Q h0 out wrp hx hb hml hown hts hKK hRf hRl hini hRc hRs hI hV hA hThr hTh hCat hfull cs ls st h hsub hok er
    cases er
  | succ n ih =>
    refine sx_FSg_le (rn2 := sc_nx L xs n) (fun full cs ls st h out er => ?_) ?_
    · cases cs with
      | nil => cases er
      | cons x r =>
        rw [sc_succ] at er
        exact sc_hd _ er
    · exact sx_step (ii_law hL xs) sx_okAll (rn := sc_run n) (call := sx_ca sx_cd (sc_run n)) (fun mid as h out er => sx_conG hlt (ii_law hL xs) sx_okAll (sc_mono n) ih mid as h out er) (sc_mono n) (fun full ls st h => rfl) (fun full x r ls st h => rfl) ih
theorem sc_con {l : Launch} (hlt : l.stackTraces = false) {L : Nat} (hL : L < 2 ^ 31) {xs : Nat → Int32} {b scr : Nat} {D : va_G} (n : Nat) (mid : Nat) (as : List (sx_V Int)) (h : sx_H Int) (out : sx_R Int) (er : sx_ca sx_cd (sc_run n) mid as h = some out) : sx_LE h out ∧ sx_Cn l Int32.ofInt b scr L xs D mid as h out :=
  sx_conG hlt (ii_law hL xs) sx_okAll (sc_mono n) (sc_FS hlt hL n) mid as h out er
