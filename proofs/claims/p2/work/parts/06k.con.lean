/-! ===== from a frame's run to a method's contract ===== -/
theorem sx_slen {I : Type} {g : I → Int32} {b scr : Nat} (as : List (sx_V I)) (h : sx_n2 as = true) : (lg_sl (as.map (sx_c g b scr))).length = as.length := by
  induction as with
  | nil => rfl
  | cons v r ih =>
    have h1 : cond (sx_is2 v) false (sx_n2 r) = true := h
    cases hv : sx_is2 v with
    | true => rw [hv] at h1; cases h1
    | false =>
      rw [hv] at h1
      have h2 : (sx_c g b scr v).category = 1 := sx_cat1 hv
      have h3 : lg_sl ((v :: r).map (sx_c g b scr)) = [Slot.val (sx_c g b scr v)] ++ lg_sl (r.map (sx_c g b scr)) := by
        show List.flatMap _ (sx_c g b scr v :: r.map (sx_c g b scr)) = _
        rw [List.flatMap_cons, h2]; rfl
      rw [h3, List.length_append, ih h1, List.length_cons]
      show 1 + r.length = r.length + 1
      omega
theorem sx_Rep_hx {I : Type} {g : I → Int32} {b scr : Nat} {D : va_G} {s : State} {h : sx_H I} {H H1 : Heap} (hR : sx_Rep g b scr D s h H) (hz : H.size ≤ H1.size) (hq : ∀ q : Nat, q < H.size → H1[q]? = H[q]?) : sx_Rep g b scr D s (sx_hx h) H1 :=
  ⟨fun k e hk => have h1 := hR.1 k e hk; sx_cell_kept h1 (hq _ (sx_cell_lt h1)), Nat.le_trans hR.2.1 hz, (fun hx => absurd hx Bool.false_ne_true), hR.2.2.2⟩
def sx_nm2 : List String := ["java/lang/RuntimeException", "java/lang/Exception"]
theorem sx_atw (a : Nat) (ha : a ≤ 2) : (∀ w ∈ vx_atS RX6 (sx_ec a) (sx_en a) sx_nm2, w ∈ sx_goods ∨ (w ∈ sx_ng ∧ w.onTables = true)) ∧ (∀ w ∈ Jvm.Cond.classLink RX6 (sx_ek a) (sx_en a) :: Jvm.Cond.initialized (sx_en a) :: vx_atS RX6 (sx_ec a) (sx_en a) sx_nm2, vx_ot w = true) ∧ Jvm.Cond.classLink RX6 (sx_ek a) (sx_en a) ∈ sx_goods ∧ Jvm.Cond.initialized (sx_en a) ∈ sx_goods ∧ Bundle.fit (sx_en a) = true := by
  rcases (show a = 0 ∨ a = 1 ∨ a = 2 by omega) with rfl | rfl | rfl
  · exact ⟨by decide +kernel, by decide +kernel, by decide +kernel, by decide +kernel, by decide +kernel⟩
  · exact ⟨by decide +kernel, by decide +kernel, by decide +kernel, by decide +kernel, by decide +kernel⟩
  · exact ⟨by decide +kernel, by decide +kernel, by decide +kernel, by decide +kernel, by decide +kernel⟩
theorem sx_nm2_fit : ∀ n ∈ sx_nm2, Bundle.fit n = true := by decide +kernel
theorem sx_thr_ok {own : String} {bs : ByteArray} {pc fr lo a b9 q k : Nat} {f : Nat → Instr} (h : sx_thr own bs pc fr lo a b9 q f k = true) : ∃ (is : Nat) (tx : String), own = RX6 ∧ lw_tbl[q]? = some (Jvm.Cond.stringRef RX6 is tx) ∧ 6 ≤ fr ∧ 90 ≤ lo ∧ a ≤ 2 ∧ decode bs pc = .ok (.new (sx_ek a), 3) ∧ decode bs (pc + 3) = .ok (.dup, 1) ∧ decode bs (pc + 4) = .ok (f is, k) ∧ decode bs (pc + 4 + k) = .ok (.invokespecial (sx_ec a), 3) ∧ decode bs (pc + 4 + k + 3) = .ok (.athrow, 1) := by
  unfold sx_thr at h
  split at h
  · next own' is tx hq =>
    simp only [Bool.and_eq_true, decide_eq_true_eq] at h
    obtain ⟨h1, h2, h3, h4, h5, h6, h7, h8, h9, h10, h11⟩ := h
    subst h1; subst h2
    exact ⟨is, tx, rfl, hq, Nat.le_of_ble_eq_true h4, Nat.le_of_ble_eq_true h5, Nat.le_of_ble_eq_true h6, sx_dk_ok h7, sx_dk_ok h8, sx_dk_ok h9, sx_dk_ok h10, sx_dk_ok h11⟩
  · cases h
theorem sx_lx_ok {k t : Nat} (h : sx_lx k = some t) : k ≠ 0 ∧ t < 3 ∧ Jvm.Cond.classLink RL k (sx_en t) ∈ sx_goods := by
  unfold sx_lx at h
  split at h
  · cases h; exact ⟨by decide, by decide, by decide +kernel⟩
  · cases h; exact ⟨by decide, by decide, by decide +kernel⟩
  · cases h; exact ⟨by decide, by decide, by decide +kernel⟩
  · cases h
theorem sx_w_cas (t : Nat) (ht : t < 3) : Jvm.Cond.castable (sx_en t) (sx_en t) ∈ sx_ng := by
  rcases (show t = 0 ∨ t = 1 ∨ t = 2 by omega) with rfl | rfl | rfl <;> decide +kernel
section SN
variable {p : Program} {l : Launch} {e : Env} {R : Room} {s : State} {m : MethodId} {args : Array Value} {below : List Frame} {meth : Method} {c : Code} {Q : State → Prop}
variable {I : Type} {o : sx_O I} {g : I → Int32} {b scr L : Nat} {xs : Nat → Int32} {D : va_G} {h0 : sx_H I} {bs : ByteArray} {own : String} {full cs : List Nat} {x a k q : Nat} {ls : sx_L I} {st : List (sx_V I)} {h : sx_H I} {out : sx_R I} {go : sx_G I}
/-- an exception is caught by the wrapper's table, and its number is the answer -/
theorem sx_caught (hx : p.tables.exec = Jvm.exec) (hb : c.code = bs) (hown : s.vm.findClass RL = some m.cls) (hts : ∀ w ∈ sx_goods, w.before args s = true) (hKK : sx_KK b scr L xs D s) {t9 v9 mL pc : Nat} {H : Heap} {locs : List Loc} {cells slots : Nat} {la : Array Slot} {rest : List Value} {q : Addr} {ce : Cell} {lv : List (Nat × Value)} (ht : t9 < 3) (hv : v9 ≤ 3) (hml : c.maxLocals = mL) (hl : lv_has la mL lv) (hcell : H[q]? = some ce) (hcv : ce.vm = .none) (hcl : s.vm.findClass (sx_en t9) = some ce.cls)
    (kk : ∀ (la' : Array Slot) (pc' : Nat), decode bs pc' = .ok (.ireturn, 1) → W p l e R s m args below meth c H locs cells slots Q (F0 m pc' la' [.int (nI v9)])) :
    ∀ (r : List (Nat × Nat × Nat × Nat)) (pre : List ExceptionTableEntry), c.exceptionTable.toList = pre ++ tableOf r → (∀ z ∈ pre, covers z pc = false ∨ (z.catchType ≠ 0 ∧ ∃ nm : String, (Jvm.Cond.classLink RL z.catchType nm).before args s = true ∧ va_Nc (sx_en t9) nm s)) → sx_cth bs pc t9 v9 mL r = true → vx_W p l e R s m args below meth c H locs cells slots Q (F0 m pc la rest) q := by
  intro r
  induction r with
  | nil => intro pre _ _ h; cases h
  | cons z r ih =>
    intro pre hsp hpass h
    unfold sx_cth at h
    split at h
    · next t' ht' =>
      obtain ⟨hk0, ht3, hlk⟩ := sx_lx_ok ht'
      cases hbq : Nat.beq t' t9 with
      | true =>
        rw [hbq] at h
        have htt : t' = t9 := Nat.eq_of_beq_eq_true hbq
        subst htt
        obtain ⟨hcov, hh⟩ := sx_a2 h
        refine vx_catch (name := sx_en t') (own := RL) hown pre ⟨z.1, z.2.1, z.2.2.1, z.2.2.2⟩ (tableOf r) (by rw [hsp]; rfl) hpass hcov hk0 (hts _ hlk) (va_Nw.use rfl (hKK.2.1 _ (sx_w_cas t' ht3))) hcell hcv hcl ?_
        have hic : Int32.ofInt (v9 : Int) = nI v9 := rfl
        unfold sx_hnd at hh
        split at hh
        · next k9 hd =>
          obtain ⟨h1, h2⟩ := sx_a2 hh
          obtain ⟨h2, h3⟩ := sx_a2 h2
          exact lv_astore (x := q) hx hb hd hl (Nat.le_of_ble_eq_true h1) rfl (fun la' hl' => lv_iconst hx hb (sx_dk_ok h2) hic (kk la' _ (sx_dk_ok h3)))
        · next k9 hd =>
          obtain ⟨h1, h2⟩ := sx_a2 hh
          obtain ⟨h2, h3⟩ := sx_a2 h2
          exact lv_astore_n (x := q) hx hb hd rfl hl (Nat.le_of_ble_eq_true h1) rfl (fun la' hl' => lv_iconst hx hb (sx_dk_ok h2) hic (kk la' _ (sx_dk_ok h3)))
        · cases hh
      | false =>
        rw [hbq] at h
        have htt : t9 ≠ t' := fun e9 => by subst e9; rw [Nat.beq_refl] at hbq; cases hbq
        refine ih (pre ++ [⟨z.1, z.2.1, z.2.2.1, z.2.2.2⟩]) (by rw [hsp, List.append_assoc]; rfl) (fun y hy => ?_) h
        rcases List.mem_append.mp hy with hy | hy
        · exact hpass y hy
        · rw [List.mem_singleton.mp hy]
          exact Or.inr ⟨hk0, sx_en t', hts _ hlk, hKK.2.2.2.2.2.2.2.1 t9 t' ht ht3 htt⟩
    · cases h
end SN
theorem sx_rob_ok {ret : Option FieldType} (h : sx_rob ret = true) : ∃ nm : String, ret = some (.object nm) := by
  cases ret with
  | none => cases h
  | some t => cases t <;> first | exact ⟨_, rfl⟩ | (cases h; done)
theorem sx_con {I : Type} {l : Launch} {o : sx_O I} {g : I → Int32} {b scr L : Nat} {xs : Nat → Int32} {D : va_G} (hlt : l.stackTraces = false) (hLw : sx_Law o g L xs) (hokM : ∀ i e, sx_m[i]? = some e → sx_okM i = true) (n : Nat) (hFS : sx_FS l o g b scr L xs D n) (mid : Nat) (as : List (sx_V I)) (h : sx_H I) (out : sx_R I) (er : sx_ca sx_cd (sx_run sx_cd o n) mid as h = some out) : sx_LE h out ∧ sx_Cn l g b scr L xs D mid as h out := by
  have hle : sx_LE h out := sx_mono n _ _ _ _ _ _ er
  refine ⟨hle, ?_⟩
  intro y bs mL ret f lo kd qc qi qs qn he hmq hlen hn2
  obtain ⟨kd', qc', qi', qs', qn', hmq', hokL, hnx, hpl, hmh, hwk, hwr⟩ := sx_okM_ok (hokM mid _ he) he
  cases hmq.symm.trans hmq'
  have hslen : (lg_sl (as.map (sx_c g b scr))).length ≤ mL := by rw [sx_slen as hn2]; exact hlen
  have hle1 : h.2.2.1 ≤ out.2.2.2.1 := hle.1
  have hle2 : h.2.2.2.1 ≤ out.2.2.2.2.1 := hle.2
  -- the ends of a body that returns
  have endI : ∀ (p : Program) (e : Env) (R : Room) (s : State) (m : MethodId) (args : Array Value) (below : List Frame) (meth : Method) (c : Code), p.tables.exec = Jvm.exec → c.code = bs → meth.sig.returnType = ret → meth.locks = false → ∀ (i : I) (h' : sx_H I) (H : Heap) (locs : List Loc) (cells slots : Nat) (la : Array Slot) (pc : Nat), out = ((1, some (.inl i)), h') → (ret = some .int ∨ (ret = some .boolean ∧ (g i = nI 0 ∨ g i = nI 1))) → decode bs pc = .ok (.ireturn, 1) → sx_FI g b scr D s h h' H locs cells slots → W p l e R s m args below meth c H locs cells slots (MQ below (sx_Qc g b scr D out) args s (out.2.2.2.1 - h.2.2.1) (out.2.2.2.2.1 - h.2.2.2.1) (fun q => b ≤ q)) (F0 m pc la [.int (g i)]) := by
    intro p e R s m args below meth c hx hb hr hlk i h' H locs cells slots la pc ho hret hd hfi
    obtain ⟨hP, hS, hc, hs⟩ := hfi
    subst ho
    refine W.cs (show cells = h'.2.2.1 - h.2.2.1 by omega) (show slots = h'.2.2.2.1 - h.2.2.2.1 by omega) ?_
    have hq : ∀ t : State, t.heap = H → s.WarmedH t.vm → sx_Qc g b scr D ((1, some (.inl i)), h') args s (.returned (some (.int (g i)))) t := fun t ht hW => ⟨rfl, by rw [ht]; exact sx_Rep_moved hW.alike hP, va_S.F hS ht⟩
    rcases hret with hret | ⟨hret, hg⟩
    · exact W.iret (v := g i) hx hb (hr.trans hret) hq hS.2.2 hd hlk
    · exact W.zret (v := g i) (ty := .boolean) hx hb (hr.trans hret) (by rcases hg with hg | hg <;> rw [hg] <;> rfl) hq hS.2.2 hd hlk
  refine ⟨fun hk ht => ?_, fun hk ht => ?_, fun hk ht hh hqc => ?_⟩
  · have hkb : Nat.beq kd 3 = false := by
      rcases (show kd = 0 ∨ kd = 1 ∨ kd = 2 by omega) with rfl | rfl | rfl <;> rfl
    rw [hkb] at hokL
    refine Met.ofW (cc := bs) (maxL := mL) (ret := ret) hpl rfl ?_
    intro p e s m args below meth c s₁ B hml hv
    obtain ⟨rfl, hRep, hKK⟩ := hv
    have hts0 := atoms_spec (ws := Jvm.Cond.code y bs mL ret :: sx_goods) B.pre
    have hl := lv_entry (as.map (sx_c g b scr)) (n := mL) hslen
    rw [lg_entry_eq]
    rw [sx_args_map] at hl
    exact hFS mid y bs mL ret f lo he p e _ s m _ below meth c _ h out false B.exec B.bytes hml (findClass_of_methodNamed B.named) (fun w hw => hts0 w (List.mem_cons_of_mem _ hw)) hKK (Nat.le_refl _) (Nat.le_refl _) (fun hy => (name_of_methodNamed B.named B.method).1.trans hy)
      (by show out.2.2.2.1 ≤ h.2.2.1 + (out.2.2.2.1 - h.2.2.1); omega) (by show out.2.2.2.2.1 ≤ h.2.2.2.1 + (out.2.2.2.2.1 - h.2.2.2.1); omega)
      (endI p e _ s m _ below meth c B.exec B.bytes B.returns B.notSynchronized)
      (fun h' H locs cells slots la pc ho hret hd ⟨hP, hS, hc, hs⟩ => by
        subst ho
        refine W.cs (show cells = h'.2.2.1 - h.2.2.1 by omega) (show slots = h'.2.2.2.1 - h.2.2.2.1 by omega) ?_
        exact W.vret B.exec B.bytes (B.returns.trans hret) (fun t ht hW => ⟨rfl, by rw [ht]; exact sx_Rep_moved hW.alike hP, va_S.F hS ht⟩) hS.2.2 hd B.notSynchronized)
      (fun v h' H locs cells slots la pc ho hv9 hrob hd ⟨hP, hS, hc, hs⟩ => by
        subst ho
        refine W.cs (show cells = h'.2.2.1 - h.2.2.1 by omega) (show slots = h'.2.2.2.1 - h.2.2.2.1 by omega) ?_
        obtain ⟨nm, hret⟩ := sx_rob_ok hrob
        exact W.aret (rt := .object nm) B.exec B.bytes (B.returns.trans hret) (Or.inl ⟨nm, rfl⟩) (by rcases hv9 with rfl | ⟨k, rfl⟩; exact Or.inl rfl; exact Or.inr ⟨b + k, rfl⟩) (fun t ht hW => ⟨rfl, by rw [ht]; exact sx_Rep_moved hW.alike hP, va_S.F hS ht⟩) hS.2.2 hd B.notSynchronized)
      (fun t9 h' H locs cells slots la pc rest q ce ho => by subst ho; exact absurd ht (by show ¬ t9 + 2 ≤ 1; omega))
      (fun a b9 q k f9 h2 st H locs cells slots la pc ho => by subst ho; exact absurd ht (by show ¬ a + 2 ≤ 1; omega))
      (fun x b9 ls hw => by cases hw)
      hokL (sx_cd mid) (sx_args 0 as) [] h (fun z hz => hz) hokL er s.heap [] 0 0 _ 0 (sx_nx_pc hnx) (by rw [hml]; exact hl) hRep va_S.rf (Nat.add_zero _) (Nat.add_zero _)
  · have hkb : Nat.beq kd 3 = false := by
      rcases (show kd = 0 ∨ kd = 1 ∨ kd = 2 by omega) with rfl | rfl | rfl <;> rfl
    rw [hkb] at hokL
    refine vx_ofW (cc := bs) (maxL := mL) (ret := ret) hpl rfl ?_
    intro p e s m args below meth c s₁ B hml hex hv
    obtain ⟨rfl, hRep, hKK⟩ := hv
    have hts0 := atoms_spec (ws := Jvm.Cond.code y bs mL ret :: sx_goods) B.pre
    have hts : ∀ w ∈ sx_goods, w.before (as.map (sx_c g b scr)).toArray s = true := fun w hw => hts0 w (List.mem_cons_of_mem _ hw)
    have hl := lv_entry (as.map (sx_c g b scr)) (n := mL) hslen
    rw [lg_entry_eq]
    rw [sx_args_map] at hl
    have hown := findClass_of_methodNamed B.named
    exact hFS mid y bs mL ret f lo he p e _ s m _ below meth c _ h out false B.exec B.bytes hml hown hts hKK (Nat.le_refl _) (Nat.le_refl _) (fun hy => (name_of_methodNamed B.named B.method).1.trans hy)
      (by show out.2.2.2.1 ≤ h.2.2.1 + (out.2.2.2.1 - h.2.2.1); omega) (by show out.2.2.2.2.1 ≤ h.2.2.2.1 + (out.2.2.2.2.1 - h.2.2.2.1); omega)
      (fun i h' H locs cells slots la pc ho => by subst ho; exact absurd ht (by show ¬ 2 ≤ 1; omega))
      (fun h' H locs cells slots la pc ho => by subst ho; exact absurd ht (by show ¬ 2 ≤ 0; omega))
      (fun v h' H locs cells slots la pc ho => by subst ho; exact absurd ht (by show ¬ 2 ≤ 1; omega))
      (fun t9 h' H locs cells slots la pc rest q ce ho hP hS hc hs h1 h2 h3 => by
        subst ho
        exact vx_out (E := sx_en t9) (ce := ce) (fun z hz => (hex z hz).elim) B.notSynchronized h1 h2 h3 (fun t ht hW => ⟨rfl, by rw [ht]; exact sx_Rep_moved hW hP, va_S.F hS ht⟩) hS.2.2 (show cells ≤ h'.2.2.1 - h.2.2.1 by omega) (show slots ≤ h'.2.2.2.1 - h.2.2.2.1 by omega))
      (fun a b9 q k f9 h2 st H locs cells slots la pc ho hfk hthr hsw hsz ⟨hP, hS, hc, hs⟩ => by
        obtain ⟨is, tx, hown6, hq, hfr, hlo, ha2, d0, d3, d4, d6, d9⟩ := sx_thr_ok hthr
        rw [hown6] at hown
        obtain ⟨wat, wot, wcl, wini, wfit⟩ := sx_atw a ha2
        obtain ⟨sa, hsa⟩ := hKK.2.2.2.2.1 is tx (List.mem_of_getElem? hq)
        subst ho
        have hXC : ∀ t : State, s.vm.Alike t.vm → H.size ≤ t.heap.size → (∀ q : Nat, q < H.size → t.heap[q]? = H[q]?) → sx_XC g b scr D ((a + 2, none), sx_hx h2) (sx_en a) s t := fun t hvm hz hq9 =>
          ⟨rfl, sx_Rep_moved hvm (sx_Rep_hx hP hz hq9), Nat.le_trans hS.1 hz, fun q9 h1 h2 => (hq9 q9 (Nat.lt_of_lt_of_le h1 hS.1)).trans (hS.2.1 q9 h1 h2)⟩
        have hat : ∀ w ∈ vx_atS RX6 (sx_ec a) (sx_en a) sx_nm2, w.before (as.map (sx_c g b scr)).toArray s = true := fun w hw => (wat w hw).elim (fun h9 => hts w h9) (fun h9 => va_Nw.use h9.2 (hKK.2.1 w h9.1))
        have hsum : ((st.map (sx_c g b scr)).map fun v => v.category).sum + (13 * (sx_nm2.length + 1) + 43) ≤ lo := by rw [sx_sw_sum]; show sx_sw st + (13 * 3 + 43) ≤ lo; omega
        rcases hfk with ⟨rfl, rfl⟩ | ⟨rfl, rfl⟩
        · exact vx_throwS (A := fun q => b ≤ q) (names := sx_nm2) B.exec B.bytes hlt hown wfit sx_nm2_fit (hts _ wcl) (hts _ wini) hsa hat wot hKK.2.2.2.1.1 hKK.2.2.2.1.2 hS hsz d0 d3 d4 d6 d9 (fun z hz => (hex z hz).elim) (show 2 + 3 < f by omega) hsum
            (show cells + 1 ≤ (h2.2.2.1 + 1) - h.2.2.1 by omega) (show slots + 6 ≤ (h2.2.2.2.1 + 6) - h.2.2.2.1 by omega) B.notSynchronized hXC hS.2.2 (show cells + 1 ≤ (h2.2.2.1 + 1) - h.2.2.1 by omega) (show slots + 6 ≤ (h2.2.2.2.1 + 6) - h.2.2.2.1 by omega)
        · exact vx_throwSW (A := fun q => b ≤ q) (names := sx_nm2) B.exec B.bytes hlt hown wfit sx_nm2_fit (hts _ wcl) (hts _ wini) hsa hat wot hKK.2.2.2.1.1 hKK.2.2.2.1.2 hS hsz d0 d3 d4 d6 d9 (fun z hz => (hex z hz).elim) (show 2 + 3 < f by omega) hsum
            (show cells + 1 ≤ (h2.2.2.1 + 1) - h.2.2.1 by omega) (show slots + 6 ≤ (h2.2.2.2.1 + 6) - h.2.2.2.1 by omega) B.notSynchronized hXC hS.2.2 (show cells + 1 ≤ (h2.2.2.1 + 1) - h.2.2.1 by omega) (show slots + 6 ≤ (h2.2.2.2.1 + 6) - h.2.2.2.1 by omega))
      (fun x b9 ls hw => by cases hw)
      hokL (sx_cd mid) (sx_args 0 as) [] h (fun z hz => hz) hokL er s.heap [] 0 0 _ 0 (sx_nx_pc hnx) (by rw [hml]; exact hl) hRep va_S.rf (Nat.add_zero _) (Nat.add_zero _)
  · subst hk
    obtain ⟨hwrk, hRL, hri⟩ := hwr rfl
    refine va_MetW (cc := bs) (maxL := mL) (ret := ret) (hh := hh) hpl rfl ?_
    intro p e s m args below meth c s₁ B hml hv
    obtain ⟨rfl, hRep, hKK⟩ := hv
    have hts0 := atoms_spec (ws := Jvm.Cond.codeWith y bs mL ret hh :: sx_goods) B.pre
    have hts : ∀ w ∈ sx_goods, w.before (as.map (sx_c g b scr)).toArray s = true := fun w hw => hts0 w (List.mem_cons_of_mem _ hw)
    have htab := vx_table (x := y) B (hts0 _ List.mem_cons_self)
    have hl := lv_entry (as.map (sx_c g b scr)) (n := mL) hslen
    rw [lg_entry_eq]
    rw [sx_args_map] at hl
    have hown := findClass_of_methodNamed B.named
    have hownL : s.vm.findClass RL = some m.cls := by rw [← hRL]; exact hown
    exact hFS mid y bs mL ret f lo he p e _ s m _ below meth c _ h out true B.exec B.bytes hml hown hts hKK (Nat.le_refl _) (Nat.le_refl _) (fun hy => (name_of_methodNamed B.named B.method).1.trans hy)
      (by show out.2.2.2.1 ≤ h.2.2.1 + (out.2.2.2.1 - h.2.2.1); omega) (by show out.2.2.2.2.1 ≤ h.2.2.2.1 + (out.2.2.2.2.1 - h.2.2.2.1); omega)
      (endI p e _ s m _ below meth c B.exec B.bytes B.returns B.notSynchronized)
      (fun h' H locs cells slots la pc ho hret hd hfi => by rw [hri] at hret; cases hret)
      (fun v h' H locs cells slots la pc ho hv9 hrob hd hfi => by rw [hri] at hrob; cases hrob)
      (fun t9 h' H locs cells slots la pc rest q ce ho => by subst ho; exact absurd ht (by show ¬ t9 + 2 ≤ 1; omega))
      (fun a b9 q k f9 h2 st H locs cells slots la pc ho => by subst ho; exact absurd ht (by show ¬ a + 2 ≤ 1; omega))
      (fun x b9 ls _ hxm hxq hxb t9 v9 h' H locs cells slots la rest q ce ho hv9 hv0 ht3 hl9 hP hS hc hs h1 h2 h3 => by
        subst hxb
        unfold sx_wrk at hwrk
        rw [hqc] at hwrk
        have hw1 := List.all_eq_true.mp hwrk x hxm
        rw [hxq] at hw1
        have hw2 : (List.range 3).all (fun t => Nat.beq (Nat.mod (Nat.div (Nat.div (sx_xb x) 256) (4 ^ t)) 4) 0 || sx_cth bs (sx_xp x) t (Nat.mod (Nat.div (Nat.div (sx_xb x) 256) (4 ^ t)) 4) mL hh) = true := hw1
        have hv3 : v9 ≤ 3 := by
          have h9 : v9 = (Nat.div (Nat.div (sx_xb x) 256) (4 ^ t9)) % 4 := hv9
          omega
        have hw3 := List.all_eq_true.mp hw2 t9 (List.mem_range.mpr ht3)
        rw [← hv9] at hw3
        have hbz : Nat.beq v9 0 = false := by
          cases v9 with
          | zero => exact absurd rfl hv0
          | succ v9 => rfl
        rw [hbz] at hw3
        refine sx_caught (v9 := v9) B.exec B.bytes hownL hts hKK ht3 hv3 hml (hml ▸ hl9) h1 h2 h3 (fun la' pc' hd => ?_) hh [] htab (fun z hz => by cases hz) hw3
        rw [← hLw.1 v9]
        exact endI p e _ s m _ below meth c B.exec B.bytes B.returns B.notSynchronized (o.1 v9) h' H locs cells slots la' pc' ho (Or.inl hri) hd ⟨hP, hS, hc, hs⟩)
      hokL (sx_cd mid) (sx_args 0 as) [] h (fun z hz => hz) hokL er s.heap [] 0 0 _ 0 (sx_nx_pc hnx) (by rw [hml]; exact hl) hRep va_S.rf (Nat.add_zero _) (Nat.add_zero _)
