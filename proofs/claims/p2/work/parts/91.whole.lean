/-! THE CLAIM OUT OF ONE WALK OF THE LAW'S BODY. Your part is whole_start (and what it stands on); all else here is the same for every law, but numbers. -/
def R_law : String := "StepEditorLaw"
def lw_P (b : Addr) (xs : List Int32) (args : Array Value) (s : State) : Prop := args = #[.ref b] ∧ s.IntsAt b xs ∧ xs.length ≤ 3072 ∧ (Jvm.Cond.and given_1 narrow_1).before args s = true
def lw_Q (_ : Array Value) (s : State) (o : Outcome) (t : State) : Prop := o = .returned (some (.int 1)) ∧ Framed s o t [] 601024 7293034
def lw_Z (below : List Frame) (a : Array Value) (s : State) : State → Prop := fun t => ∃ o, t.status = .running ∧ Ended t below o ∧ lw_Q a s o t
/-- the law's own end, with 1 on the stack, nothing written that was there before, its room as the claim has it -/
theorem lw_ret {p : Program} {l : Launch} {e : Env} {s : State} {m : MethodId} {below : List Frame} {meth : Method} {c : Code} {b : Nat} (hx : p.tables.exec = Jvm.exec) (hb : c.code = code) (hr : meth.sig.returnType = ret) (hlocks : meth.locks = false) {pc : Nat} {H : Heap} {ls : Array Slot} (hdg : decode code pc = .ok (.ireturn, 1)) : W p l e room_1 s m #[Value.ref b] below meth c H [] 601024 7293034 (lw_Z below #[Value.ref b] s) (F0 m pc ls [.int 1]) := by
  intro T hT X
  obtain ⟨fs, hret, hrun, hended, hW, hframe⟩ := X.leave (v := some (.int 1)) (hlocks := hlocks) (fun h => by rw [hr] at h; cases h)
  have hmeth' : T.vm.method? m = some meth := X.method'
  refine ⟨T.setFrames fs, ?_, .returned (some (.int 1)), hrun, hended, rfl, ⟨_, rfl⟩, hW, hframe⟩
  jvm_step X.here [X.here.top, hx, hb, hdg, hmeth', hr, ret, narrow_b1]
  (try refine ⟨rfl, ?_⟩); (try refine ⟨rfl, ?_⟩)
  first | (intro acts; rw [hret _ acts rfl rfl rfl]) | rw [hret _ _ rfl rfl rfl]
  exact Steps.refl _
/-- what holds at the law's entry: the machine, the code, the tables' words (any of lw_tbl by 'hts w (by decide +kernel)'), the script of L ints xs at the cell b, what the Statement gives of the start (any of its parts by flat_of_before) -/
def lw_At (p : Program) (s : State) (m : MethodId) (meth : Method) (c : Code) (b L : Nat) (xs : Nat → Int32) : Prop :=
  p.tables.exec = Jvm.exec ∧ c.code = code ∧ meth.sig.returnType = ret ∧ c.maxLocals = 7 ∧ s.vm.findClass R_law = some m.cls ∧ (∀ w ∈ lw_tbl, w.before #[Value.ref b] s = true) ∧ va_X b L xs s s.heap ∧ b < s.heap.size ∧ meth.locks = false ∧ (Jvm.Cond.and given_1 narrow_1).before #[Value.ref b] s = true
/-! ===== the law's frame, from what is so at its entry ===== -/
theorem sx_tg_tr_eq {A : Type} (n : Nat) : ∀ (i : Nat) (v w : A), sx_tg n (sx_tr n v) i = some w → w = v := by
  induction n with
  | zero =>
    intro i v w h
    rw [sx_tg_zero] at h
    rcases sx_beq0 i with ⟨e, -⟩ | ⟨e, -⟩
    · rw [e] at h
      exact (Option.some.inj h).symm
    · rw [e] at h
      cases h
  | succ n ih =>
    intro i v w h
    rw [sx_tr_succ, sx_tg_succ] at h
    rcases sx_beq0 (Nat.mod i 2) with ⟨e, -⟩ | ⟨e, -⟩
    · rw [e] at h; exact ih _ _ _ h
    · rw [e] at h; exact ih _ _ _ h
theorem sx_len {args : Array Value} {s : State} {t : Term} {v : Value} (h : (Term.length t).eval args s none [] s = some v) : ∃ a cell, t.eval args s none [] s = some (.ref a) ∧ s.arrayAt? a = some cell ∧ cell.slots.size < 2147483648 ∧ v = .int cell.slots.size.toInt32 := by
  simp only [Term.eval, Option.bind_eq_bind] at h
  cases ht : t.eval args s none [] s with
  | none => simp [ht] at h
  | some x =>
    cases x <;> simp [ht] at h
    case ref a =>
      obtain ⟨cell, hcell, h⟩ := Option.bind_eq_some_iff.mp h
      by_cases hn : cell.slots.size < 2147483648
      · rw [if_pos hn] at h
        cases h
        exact ⟨a, cell, rfl, hcell, hn, rfl⟩
      · rw [if_neg hn] at h
        cases h
theorem sx_sta {args : Array Value} {s : State} (a : Nat) (hl : (Jvm.Cond.laysStatic RX6 (sx_fn a) "[I").before args s = true) (hini : (Jvm.Cond.initialized RX6).before args s = true) (hex : (Jvm.Cond.exactly (.static RX6 (sx_fn a) "[I") "[I").before args s = true) (harr : (Jvm.Cond.arrayOf (.static RX6 (sx_fn a) "[I") .int).before args s = true) (hlen : (Jvm.Cond.eq (.length (.static RX6 (sx_fn a) "[I")) (.int 18)).before args s = true) (hel : ∀ j : Nat, j < 18 → (Jvm.Cond.eq (.elem (.static RX6 (sx_fn a) "[I") (.int (Int32.ofNat j))) (.int (nI ((sx_sv a).getD j 0)))).before args s = true) : sx_Sta s.heap.size a s := by
  have hv := va_eqt hlen
  obtain ⟨t, cell, ht, hat, hsz, hv2⟩ := sx_len hv
  obtain ⟨hcell, hkn, hst, -⟩ := State.arrayAt?_spec hat
  obtain ⟨hof, -⟩ := Cond.arrayOf_spec harr ht hcell
  obtain ⟨a2, c2, cell2, k2, e1, e2, e3, e4, e5, e6, -⟩ := Cond.exactly_spec hex
  cases ht.symm.trans e1
  cases hcell.symm.trans e3
  have hsize : cell.slots.size = 18 := by
    have h1 : nI 18 = nI cell.slots.size := Value.int.inj hv2
    have h2 := congrArg Int32.toInt h1
    rw [nI_toInt (by decide), nI_toInt (by omega)] at h2
    omega
  have hA : ∀ q : Nat, q < s.heap.size → ¬ (fun q : Nat => s.heap.size ≤ q) q := fun q h => Nat.not_le.mpr h
  obtain ⟨t', ht', cell', hc', -, -, -, -, hel', -⟩ := va_Tof (N := 18) (f := fun j => .int (nI ((sx_sv a).getD j 0))) (by decide) harr hv (fun j hj => va_eqt (hel j hj)) hA
  cases ht.symm.trans ht'
  cases hcell.symm.trans hc'
  refine ⟨t, cell, va_Zof hl hini ht hA, hcell, hof.1, hkn, fun n z => ⟨fun k h => (by cases h), hof.2⟩, ?_, ?_, (Array.getElem?_eq_some_iff.mp hcell).1⟩
  · show s.vm.findClass _ = some cell.cls
    rw [e6]
    exact e2
  · apply Array.ext_getElem?
    intro i
    by_cases hi : i < 18
    · rw [hel' i hi]
      simp [arrV, hi]
    · rw [Array.getElem?_eq_none (by omega), Array.getElem?_eq_none (by rw [arrV_size]; omega)]
theorem i_X0 : ∀ w ∈ u_ws RX0 TX0 7, w ∈ lw_tbl := by decide +kernel
theorem i_X1 : ∀ w ∈ u_ws RX1 TX1 4, w ∈ lw_tbl := by decide +kernel
theorem i_X2 : ∀ w ∈ u_ws RX2 TX2 5, w ∈ lw_tbl := by decide +kernel
theorem i_X3 : ∀ w ∈ u_ws RX3 TX3 7, w ∈ lw_tbl := by decide +kernel
theorem i_X4 : ∀ w ∈ u_ws RX4 TX4 11, w ∈ lw_tbl := by decide +kernel
theorem i_X5 : ∀ w ∈ u_ws RX5 TX5 2, w ∈ lw_tbl := by decide +kernel
theorem i_X6 : ∀ w ∈ u_ws RX6 TX6 15, w ∈ lw_tbl := by decide +kernel
theorem i_X7 : ∀ w ∈ u_ws RX7 TX7 32, w ∈ lw_tbl := by decide +kernel
set_option maxHeartbeats 4000000 in
set_option maxRecDepth 100000 in
theorem sx_kk0 {p : Program} {s : State} {m : MethodId} {meth : Method} {c : Code} {b L : Nat} {xs : Nat → Int32} (C0 : lw_At p s m meth c b L xs) : ∃ D : va_G, sx_KK s.heap.size b L xs D s := by
  obtain ⟨hx, hb, hr, hml, hown, hts, hX, hbl, hlocks, hgv⟩ := id C0
  have hs := flat_of_before _ hgv
  have hA : ∀ q : Nat, q < s.heap.size → ¬ (fun q : Nat => s.heap.size ≤ q) q := fun q h => Nat.not_le.mpr h
  obtain ⟨c0, iS0, hK0⟩ := u_known (C := RX0) (T := TX0) (N := 7) (n := 7) hts i_X0 (hts (.instantiable RX0 7) (by decide +kernel))
  obtain ⟨c1, iS1, hK1⟩ := u_known (C := RX1) (T := TX1) (N := 4) (n := 4) hts i_X1 (hts (.instantiable RX1 4) (by decide +kernel))
  obtain ⟨c2, iS2, hK2⟩ := u_known (C := RX2) (T := TX2) (N := 5) (n := 5) hts i_X2 (hts (.instantiable RX2 5) (by decide +kernel))
  obtain ⟨c3, iS3, hK3⟩ := u_known (C := RX3) (T := TX3) (N := 7) (n := 7) hts i_X3 (hts (.instantiable RX3 7) (by decide +kernel))
  obtain ⟨c4, iS4, hK4⟩ := u_known (C := RX4) (T := TX4) (N := 11) (n := 11) hts i_X4 (hts (.instantiable RX4 11) (by decide +kernel))
  obtain ⟨c5, iS5, hK5⟩ := u_known (C := RX5) (T := TX5) (N := 2) (n := 2) hts i_X5 (hts (.instantiable RX5 2) (by decide +kernel))
  obtain ⟨c6, iS6, hK6⟩ := u_known (C := RX6) (T := TX6) (N := 15) (n := 15) hts i_X6 (hts (.instantiable RX6 15) (by decide +kernel))
  obtain ⟨c7, iS7, hK7⟩ := u_known (C := RX7) (T := TX7) (N := 32) (n := 32) hts i_X7 (hts (.instantiable RX7 32) (by decide +kernel))
  obtain ⟨dC, dI, hKc⟩ : ∃ (dC : Nat → ClassId) (dI : Nat → Nat → Nat), ∀ (k : Nat) (q : vw_C), vwCl[k]? = some q → u_Kn s q.1 q.2.1 q.2.2 (dC k) (dI k) := by
    refine ⟨fun k => match k with
      | 0 => c0
      | 1 => c1
      | 2 => c2
      | 3 => c3
      | 4 => c4
      | 5 => c5
      | 6 => c6
      | _ => c7, fun k => match k with
      | 0 => iS0
      | 1 => iS1
      | 2 => iS2
      | 3 => iS3
      | 4 => iS4
      | 5 => iS5
      | 6 => iS6
      | _ => iS7, ?_⟩
    intro k q hq
    match k, hq with
    | 0, hq => cases hq; exact hK0
    | 1, hq => cases hq; exact hK1
    | 2, hq => cases hq; exact hK2
    | 3, hq => cases hq; exact hK3
    | 4, hq => cases hq; exact hK4
    | 5, hq => cases hq; exact hK5
    | 6, hq => cases hq; exact hK6
    | 7, hq => cases hq; exact hK7
    | k + 8, hq => cases hq
  have hl0 := hts (.laysStatic RX6 (sx_fn 0) "[I") (by decide +kernel)
  obtain ⟨cc6, -, -, -, -, -, hcur, -⟩ := Cond.laysStatic_spec hl0
  refine ⟨(dC, dI), ⟨hKc, fun k q h => by simp at h⟩, fun w hw => ?_, ⟨va_AO.of (hts (.arrayOver (.object RX4)) (by decide +kernel)), va_AO.of (hts (.arrayOver (.object RX0)) (by decide +kernel))⟩,
    ⟨vx_Zqof (hts (.laysStatic Bundle.tN "UNASSIGNED_STACK" Bundle.steD) (by decide +kernel)) (hts (.initialized Bundle.tN) (by decide +kernel)) (hs (.isRef (.static Bundle.tN "UNASSIGNED_STACK" Bundle.steD)) (by decide +kernel)) hA, vx_Zqof (hts (.laysStatic Bundle.tN "SUPPRESSED_SENTINEL" Bundle.listD) (by decide +kernel)) (hts (.initialized Bundle.tN) (by decide +kernel)) (hs (.isRef (.static Bundle.tN "SUPPRESSED_SENTINEL" Bundle.listD)) (by decide +kernel)) hA⟩,
    fun i tx hi => ?_, ⟨hX, hbl⟩, ⟨?_, ?_⟩, ?_, Nat.le_refl _⟩
  · have hk := (List.mem_filter.mp hw).2
    have hb9 := hts w (List.mem_filter.mp hw).1
    cases w <;> first | (cases hk; done) | exact va_Nw.of rfl hb9
  · obtain ⟨k, cf, i', a, -, -, -, -, -, hv⟩ := Cond.stringRef_spec hcur (hts _ hi)
    exact ⟨a, vk_R.of (hts _ hi) hv⟩
  · refine sx_sta 0 hl0 (hts (.initialized RX6) (by decide +kernel)) (hs _ (by decide +kernel)) (hs _ (by decide +kernel)) (hs _ (by decide +kernel)) (fun j hj => ?_)
    have hall : ∀ j ∈ List.range 18, (Jvm.Cond.eq (.elem (.static RX6 (sx_fn 0) "[I") (.int (Int32.ofNat j))) (.int (nI ((sx_sv 0).getD j 0)))) ∈ flatC (Jvm.Cond.and given_1 narrow_1) := by decide +kernel
    exact hs _ (hall j (List.mem_range.mpr hj))
  · refine sx_sta 1 (hts (.laysStatic RX6 (sx_fn 1) "[I") (by decide +kernel)) (hts (.initialized RX6) (by decide +kernel)) (hs _ (by decide +kernel)) (hs _ (by decide +kernel)) (hs _ (by decide +kernel)) (fun j hj => ?_)
    have hall : ∀ j ∈ List.range 18, (Jvm.Cond.eq (.elem (.static RX6 (sx_fn 1) "[I") (.int (Int32.ofNat j))) (.int (nI ((sx_sv 1).getD j 0)))) ∈ flatC (Jvm.Cond.and given_1 narrow_1) := by decide +kernel
    exact hs _ (hall j (List.mem_range.mpr hj))
  · intro a a' ha ha' hn
    match a, a', ha, ha', hn with
    | 0, 0, _, _, hn => exact absurd rfl hn
    | 0, 1, _, _, _ => exact va_Nc.of (hs (.not (.castable (sx_en 0) (sx_en 1))) (by decide +kernel))
    | 0, 2, _, _, _ => exact va_Nc.of (hs (.not (.castable (sx_en 0) (sx_en 2))) (by decide +kernel))
    | 1, 0, _, _, _ => exact va_Nc.of (hs (.not (.castable (sx_en 1) (sx_en 0))) (by decide +kernel))
    | 1, 1, _, _, hn => exact absurd rfl hn
    | 1, 2, _, _, _ => exact va_Nc.of (hs (.not (.castable (sx_en 1) (sx_en 2))) (by decide +kernel))
    | 2, 0, _, _, _ => exact va_Nc.of (hs (.not (.castable (sx_en 2) (sx_en 0))) (by decide +kernel))
    | 2, 1, _, _, _ => exact va_Nc.of (hs (.not (.castable (sx_en 2) (sx_en 1))) (by decide +kernel))
    | 2, 2, _, _, hn => exact absurd rfl hn
    | a + 3, _, ha, _, _ => omega
    | _, a' + 3, _, ha', _ => omega
/-! ===== the law's walk, out of a run of the tables ===== -/
theorem sx_law_row : sx_m[182]? = some (yL_law, (cL_law, (7, (ret, (10, 217))))) := by rfl
theorem sx_law_kd : (sx_mq[182]?).map (fun q => q.1) = some 4 := by decide +kernel
theorem sx_hg_none {I : Type} {T : sx_T (Option (sx_E I)) 10} {c : Nat × (Nat × (Nat × Bool))} (hT : ∀ i w, sx_tg 10 T i = some w → w = none) (k : Nat) (e : sx_E I) (hk : sx_hg ((T, c) : sx_H I) k = some e) : False := by
  have h1 := sx_hg_tg (h := ((T, c) : sx_H I)) hk
  have h2 : some e = none := hT k (some e) h1
  cases h2
theorem sc_h00_no (k : Nat) (e : sx_E Int) (hk : sx_hg sc_h00 k = some e) : False := sx_hg_none (T := sx_tr 10 none) (c := (0, (0, (0, true)))) (fun i w h => sx_tg_tr_eq 10 i none w h) k e hk
set_option maxHeartbeats 600000 in
theorem sx_Rep0 {g : Int → Int32} {b : Nat} {D : va_G} {s : State} : sx_Rep g s.heap.size b D s sc_h00 s.heap :=
  ⟨fun k e hk => (sc_h00_no k e hk).elim, Nat.le_refl _, fun _ => rfl, fun k e hk => (sc_h00_no k e hk).elim⟩
theorem sx_tag {v v' : sx_V Int} {t : Nat} {h1 h' : sx_H Int} (ht : t ≠ 1) (e : (((1, v), h1) : sx_R Int) = ((t, v'), h')) : False := ht (congrArg (fun z : sx_R Int => z.1.1) e).symm
theorem sx_val {v v' : sx_V Int} {t t' : Nat} {h1 h' : sx_H Int} (e : (((t, v), h1) : sx_R Int) = ((t', v'), h')) : v = v' ∧ h1 = h' := ⟨congrArg (fun z : sx_R Int => z.1.2) e, congrArg (fun z : sx_R Int => z.2) e⟩
set_option maxHeartbeats 600000 in
theorem sx_whole {p : Program} {e : Env} {s : State} {m : MethodId} {below : List Frame} {meth : Method} {c : Code} (l : Launch) {b L : Nat} {xs : Nat → Int32} (C0 : lw_At p s m meth c b L xs) (rn : List Nat → sx_G Int) (hFS : ∀ D : va_G, sx_FSg l ii_k Int32.ofInt s.heap.size b L xs D rn) {h1 : sx_H Int} (hout : rn (sx_cd 182) (sx_cd 182) (sx_args 0 [vs]) [] sc_h00 = some ((1, vi 1), h1)) (hc1 : h1.2.2.1 ≤ 601024) (hs1 : h1.2.2.2.1 ≤ 7293034) : W p l e room_1 s m #[Value.ref b] below meth c s.heap [] 0 0 (lw_Z below #[Value.ref b] s) (entryFrame m ([Value.ref b] : List Value).toArray 7) := by
  obtain ⟨D, hKK⟩ := sx_kk0 C0
  obtain ⟨hx, hb, hr, hml, hown, hts, hX, hbl, hlocks, hgv⟩ := id C0
  obtain ⟨kd, qc, qi, qs, qn, hmq, hokL, hnx, -, -, -, -⟩ := sx_okM_ok (sx_okAll _ _ sx_law_row) sx_law_row
  have hkd : kd = 4 := by
    have h9 := sx_law_kd
    rw [hmq] at h9
    exact Option.some.inj h9
  subst hkd
  have hl := lv_entry ([.ref b]) (n := 7) (Nat.le_of_ble_eq_true rfl)
  rw [lg_entry_eq]
  generalize (lg_sl ([.ref b]) ++ List.replicate (7 - (lg_sl ([.ref b])).length) Slot.unset).toArray = la at hl ⊢
  have hl2 : lv_has la c.maxLocals ((sx_args 0 [vs]).map (sx_cq Int32.ofInt s.heap.size b)) := by rw [hml]; exact hl
  exact hFS D 182 yL_law cL_law 7 ret 10 217 sx_law_row p e room_1 s m #[.ref b] below meth c (lw_Z below #[Value.ref b] s) sc_h00 ((1, vi 1), h1) false hx hb hml hown (fun w hw => hts w (List.mem_filter.mp hw).1) hKK (Nat.le_of_ble_eq_true rfl) (Nat.le_of_ble_eq_true rfl) (fun h => absurd h (by decide))
    (Nat.le_trans hc1 (show 601024 ≤ 0 + 601024 by decide)) (Nat.le_trans hs1 (show 7293034 ≤ 0 + 7293034 by decide))
    (fun i h' H locs cells slots la pc ho hret hd ⟨hP, hS, hc, hs⟩ => by
      obtain ⟨e2, e1⟩ := sx_val ho
      have e3 : (1 : Int) = i := Sum.inl.inj (Option.some.inj e2)
      subst e1
      subst e3
      have e4 : Int32.ofInt 1 = 1 := by decide +kernel
      rw [e4]
      refine va_forget (fun q hq => hS.2.2 q hq) ?_
      refine W.widen (k := 601024) (n := 7293034) ?_ ?_ ?_
      · have h8 : 0 + cells = h1.2.2.1 := hc
        omega
      · have h8 : 0 + slots = h1.2.2.2.1 := hs
        omega
      · exact lw_ret hx hb hr hlocks hd)
    (fun h' H locs cells slots la pc ho _ _ _ => (sx_tag (by decide) ho).elim)
    (fun v h' H locs cells slots la pc ho hv _ _ _ => by
      obtain ⟨e2, e1⟩ := sx_val ho
      rcases hv with hv | ⟨k, hv⟩
      · rw [hv] at e2; cases e2
      · rw [hv] at e2; cases e2)
    (fun t9 h' H locs cells slots la pc rest q ce ho _ _ _ _ _ _ _ => (sx_tag (by omega) ho).elim)
    (fun a b9 q k f9 h st H locs cells slots la pc ho _ _ _ _ _ => (sx_tag (by omega) ho).elim)
    (fun x b9 ls hw => by cases hw)
    hokL (sx_cd 182) (sx_args 0 [vs]) [] sc_h00 (fun z hz => hz) hokL hout s.heap [] 0 0 la 0 (sx_nx_pc hnx) hl2 sx_Rep0 va_S.rf rfl rfl
theorem sx_pre_mono {o : sx_O Int} {call : sx_K Int} {rn : List Nat → sx_G Int} (hcall : ∀ m as h out, call m as h = some out → sx_LE h out) (hrn : ∀ full cs ls st h out, rn full cs ls st h = some out → sx_LE h out) (k : Nat) : ∀ full cs ls st h out, sx_pre o call rn k full cs ls st h = some out → sx_LE h out := by
  induction k with
  | zero => exact hrn
  | succ k ih =>
    intro full cs ls st h out er
    cases cs with
    | nil => cases er
    | cons x r => exact mo_hd (sx_xq x) hcall (fun cs ls st h e9 => ih full cs ls st h out e9) er
theorem sx_pre_FS {l : Launch} {o : sx_O Int} {g : Int → Int32} {b scr L : Nat} {xs : Nat → Int32} {D : va_G} (hLw : sx_Law o g L xs) {rn : List Nat → sx_G Int} {call : sx_K Int} (hCon : ∀ mid as h out, call mid as h = some out → sx_LE h out ∧ sx_Cn l g b scr L xs D mid as h out) (hMo : ∀ full cs ls st h out, rn full cs ls st h = some out → sx_LE h out) (ih : sx_FSg l o.1 g b scr L xs D rn) (k : Nat) : sx_FSg l o.1 g b scr L xs D (sx_pre o call rn k) := by
  induction k with
  | zero => exact ih
  | succ k ik => exact sx_step hLw sx_okAll (rn := sx_pre o call rn k) (call := call) hCon (sx_pre_mono (fun m as h out e => (hCon m as h out e).1) hMo k) (fun full ls st h => rfl) (fun full x r ls st h => rfl) ik
theorem sx_hlt {l : Launch} (hflags : l.flags = flags0) : l.stackTraces = false := by
  unfold Launch.stackTraces
  rw [hflags]
  decide +kernel
theorem whole_start {p : Program} {e : Env} {s : State} {m : MethodId} {below : List Frame} {meth : Method} {c : Code} (l : Launch) (hflags : l.flags = flags0) {b L : Nat} {xs : Nat → Int32} (hL : L ≤ 3072) (C0 : lw_At p s m meth c b L xs) : W p l e room_1 s m #[Value.ref b] below meth c s.heap [] 0 0 (lw_Z below #[Value.ref b] s) (entryFrame m ([Value.ref b] : List Value).toArray 7) := by
  have hlt := sx_hlt hflags
  have hL2 : L < 2 ^ 31 := by omega
  obtain ⟨n, h1, hout, hc1, hs1⟩ := law_run hL xs
  refine sx_whole l C0 (sx_pre (ii_o L xs) sc_call (sx_run sx_cd (ii_o L xs) n) 13) (fun D => ?_) hout hc1 hs1
  exact sx_pre_FS (o := ii_o L xs) (ii_law hL2 xs) (call := sc_call) (fun mid as h out er => sc_con hlt hL2 20000 mid as h out er) (fun full cs ls st h out er => sx_mono n full cs ls st h out er) (sx_frame (ii_law hL2 xs) sx_okAll (fun n h mid as hh out er => sx_con hlt (ii_law hL2 xs) sx_okAll n h mid as hh out er) n) 13
