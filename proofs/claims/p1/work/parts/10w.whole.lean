/-! ===== the law's frame, from what is so at its entry ===== -/
theorem sx_tg_tr_eq {A : Type} (n : Nat) : ∀ (i : Nat) (v w : A), sx_tg n (sx_tr n v) i = some w → w = v := by
  induction n with
  | zero =>
    intro i v w h
    rw [sx_tg_zero] at h
    rcases sx_beq0 i with ⟨e, -⟩ | ⟨e, -⟩
    · rw [e] at h
      exact (Option.some.inj h).symm
    · rw [e] at h
      cases h
  | succ n ih =>
    intro i v w h
    rw [sx_tr_succ, sx_tg_succ] at h
    rcases sx_beq0 (Nat.mod i 2) with ⟨e, -⟩ | ⟨e, -⟩
    · rw [e] at h; exact ih _ _ _ h
    · rw [e] at h; exact ih _ _ _ h
theorem sd_good_ok {r : Option (sx_R Nat)} (h : sd_good r = true) : ∃ h1 : sx_H Nat, r = some ((1, some (.inl 1)), h1) ∧ h1.2.2.1 ≤ 600002 ∧ h1.2.2.2.1 ≤ 7302232 := by
  match r, h with
  | none, h => exact Bool.noConfusion (h : false = true)
  | some ((0, v), hh), h => exact Bool.noConfusion (h : false = true)
  | some ((1, none), hh), h => exact Bool.noConfusion (h : false = true)
  | some ((1, some (.inr z)), hh), h => exact Bool.noConfusion (h : false = true)
  | some ((k + 2, v), hh), h => exact Bool.noConfusion (h : false = true)
  | some ((1, some (.inl n)), hh), h =>
    have h' : (Nat.beq n 1 && (Nat.ble hh.2.2.1 600002 && Nat.ble hh.2.2.2.1 7302232)) = true := h
    obtain ⟨a1, a2⟩ := sx_a2 h'
    obtain ⟨a2, a3⟩ := sx_a2 a2
    have e := Nat.eq_of_beq_eq_true a1
    subst e
    exact ⟨hh, rfl, Nat.le_of_ble_eq_true a2, Nat.le_of_ble_eq_true a3⟩
theorem sx_len {args : Array Value} {s : State} {t : Term} {v : Value} (h : (Term.length t).eval args s none [] s = some v) : ∃ a cell, t.eval args s none [] s = some (.ref a) ∧ s.arrayAt? a = some cell ∧ cell.slots.size < 2147483648 ∧ v = .int cell.slots.size.toInt32 := by
  simp only [Term.eval, Option.bind_eq_bind] at h
  cases ht : t.eval args s none [] s with
  | none => simp [ht] at h
  | some x =>
    cases x <;> simp [ht] at h
    case ref a =>
      obtain ⟨cell, hcell, h⟩ := Option.bind_eq_some_iff.mp h
      by_cases hn : cell.slots.size < 2147483648
      · rw [if_pos hn] at h
        cases h
        exact ⟨a, cell, rfl, hcell, hn, rfl⟩
      · rw [if_neg hn] at h
        cases h
theorem sx_sta {args : Array Value} {s : State} (a : Nat) (hl : (Jvm.Cond.laysStatic RX6 (sx_fn a) "[I").before args s = true) (hini : (Jvm.Cond.initialized RX6).before args s = true) (hex : (Jvm.Cond.exactly (.static RX6 (sx_fn a) "[I") "[I").before args s = true) (harr : (Jvm.Cond.arrayOf (.static RX6 (sx_fn a) "[I") .int).before args s = true) (hlen : (Jvm.Cond.eq (.length (.static RX6 (sx_fn a) "[I")) (.int 18)).before args s = true) (hel : ∀ j : Nat, j < 18 → (Jvm.Cond.eq (.elem (.static RX6 (sx_fn a) "[I") (.int (Int32.ofNat j))) (.int (nI ((sx_sv a).getD j 0)))).before args s = true) : sx_Sta s.heap.size a s := by
  have hv := va_eqt hlen
  obtain ⟨t, cell, ht, hat, hsz, hv2⟩ := sx_len hv
  obtain ⟨hcell, hkn, hst, -⟩ := State.arrayAt?_spec hat
  obtain ⟨hof, -⟩ := Cond.arrayOf_spec harr ht hcell
  obtain ⟨a2, c2, cell2, k2, e1, e2, e3, e4, e5, e6, -⟩ := Cond.exactly_spec hex
  cases ht.symm.trans e1
  cases hcell.symm.trans e3
  have hsize : cell.slots.size = 18 := by
    have h1 : nI 18 = nI cell.slots.size := Value.int.inj hv2
    have h2 := congrArg Int32.toInt h1
    rw [nI_toInt (by decide), nI_toInt (by omega)] at h2
    omega
  have hA : ∀ q : Nat, q < s.heap.size → ¬ (fun q : Nat => s.heap.size ≤ q) q := fun q h => Nat.not_le.mpr h
  obtain ⟨t', ht', cell', hc', -, -, -, -, hel', -⟩ := va_Tof (N := 18) (f := fun j => .int (nI ((sx_sv a).getD j 0))) (by decide) harr hv (fun j hj => va_eqt (hel j hj)) hA
  cases ht.symm.trans ht'
  cases hcell.symm.trans hc'
  refine ⟨t, cell, va_Zof hl hini ht hA, hcell, hof.1, hkn, fun n z => ⟨fun k h => (by cases h), hof.2⟩, ?_, ?_, (Array.getElem?_eq_some_iff.mp hcell).1⟩
  · show s.vm.findClass _ = some cell.cls
    rw [e6]
    exact e2
  · apply Array.ext_getElem?
    intro i
    by_cases hi : i < 18
    · rw [hel' i hi]
      simp [arrV, hi]
    · rw [Array.getElem?_eq_none (by omega), Array.getElem?_eq_none (by rw [arrV_size]; omega)]
theorem i_X0 : ∀ w ∈ u_ws RX0 TX0 7, w ∈ lw_tbl := by decide +kernel
theorem i_X1 : ∀ w ∈ u_ws RX1 TX1 4, w ∈ lw_tbl := by decide +kernel
theorem i_X2 : ∀ w ∈ u_ws RX2 TX2 5, w ∈ lw_tbl := by decide +kernel
theorem i_X3 : ∀ w ∈ u_ws RX3 TX3 7, w ∈ lw_tbl := by decide +kernel
theorem i_X4 : ∀ w ∈ u_ws RX4 TX4 11, w ∈ lw_tbl := by decide +kernel
theorem i_X5 : ∀ w ∈ u_ws RX5 TX5 2, w ∈ lw_tbl := by decide +kernel
theorem i_X6 : ∀ w ∈ u_ws RX6 TX6 15, w ∈ lw_tbl := by decide +kernel
theorem i_X7 : ∀ w ∈ u_ws RX7 TX7 32, w ∈ lw_tbl := by decide +kernel
set_option maxHeartbeats 4000000 in
set_option maxRecDepth 100000 in
theorem sx_kk0 {p : Program} {s : State} {m : MethodId} {meth : Method} {c : Code} {b L : Nat} {xs : Nat → Int32} (C0 : lw_At p s m meth c b L xs) : ∃ D : va_G, sx_KK s.heap.size b L xs D s := by
  obtain ⟨hx, hb, hr, hml, hown, hts, hX, hbl, hlocks, hgv⟩ := id C0
  have hs := flat_of_before _ hgv
  have hA : ∀ q : Nat, q < s.heap.size → ¬ (fun q : Nat => s.heap.size ≤ q) q := fun q h => Nat.not_le.mpr h
  obtain ⟨c0, iS0, hK0⟩ := u_known (C := RX0) (T := TX0) (N := 7) (n := 7) hts i_X0 (hts (.instantiable RX0 7) (by decide +kernel))
  obtain ⟨c1, iS1, hK1⟩ := u_known (C := RX1) (T := TX1) (N := 4) (n := 4) hts i_X1 (hts (.instantiable RX1 4) (by decide +kernel))
  obtain ⟨c2, iS2, hK2⟩ := u_known (C := RX2) (T := TX2) (N := 5) (n := 5) hts i_X2 (hts (.instantiable RX2 5) (by decide +kernel))
  obtain ⟨c3, iS3, hK3⟩ := u_known (C := RX3) (T := TX3) (N := 7) (n := 7) hts i_X3 (hts (.instantiable RX3 7) (by decide +kernel))
  obtain ⟨c4, iS4, hK4⟩ := u_known (C := RX4) (T := TX4) (N := 11) (n := 11) hts i_X4 (hts (.instantiable RX4 11) (by decide +kernel))
  obtain ⟨c5, iS5, hK5⟩ := u_known (C := RX5) (T := TX5) (N := 2) (n := 2) hts i_X5 (hts (.instantiable RX5 2) (by decide +kernel))
  obtain ⟨c6, iS6, hK6⟩ := u_known (C := RX6) (T := TX6) (N := 15) (n := 15) hts i_X6 (hts (.instantiable RX6 15) (by decide +kernel))
  obtain ⟨c7, iS7, hK7⟩ := u_known (C := RX7) (T := TX7) (N := 32) (n := 32) hts i_X7 (hts (.instantiable RX7 32) (by decide +kernel))
  obtain ⟨dC, dI, hKc⟩ : ∃ (dC : Nat → ClassId) (dI : Nat → Nat → Nat), ∀ (k : Nat) (q : vw_C), vwCl[k]? = some q → u_Kn s q.1 q.2.1 q.2.2 (dC k) (dI k) := by
    refine ⟨fun k => match k with
      | 0 => c0
      | 1 => c1
      | 2 => c2
      | 3 => c3
      | 4 => c4
      | 5 => c5
      | 6 => c6
      | _ => c7, fun k => match k with
      | 0 => iS0
      | 1 => iS1
      | 2 => iS2
      | 3 => iS3
      | 4 => iS4
      | 5 => iS5
      | 6 => iS6
      | _ => iS7, ?_⟩
    intro k q hq
    match k, hq with
    | 0, hq => cases hq; exact hK0
    | 1, hq => cases hq; exact hK1
    | 2, hq => cases hq; exact hK2
    | 3, hq => cases hq; exact hK3
    | 4, hq => cases hq; exact hK4
    | 5, hq => cases hq; exact hK5
    | 6, hq => cases hq; exact hK6
    | 7, hq => cases hq; exact hK7
    | k + 8, hq => cases hq
  have hl0 := hts (.laysStatic RX6 (sx_fn 0) "[I") (by decide +kernel)
  obtain ⟨cc6, -, -, -, -, -, hcur, -⟩ := Cond.laysStatic_spec hl0
  refine ⟨(dC, dI), ⟨hKc, fun k q h => by simp at h⟩, fun w hw => ?_, ⟨va_AO.of (hts (.arrayOver (.object RX4)) (by decide +kernel)), va_AO.of (hts (.arrayOver (.object RX0)) (by decide +kernel))⟩,
    ⟨vx_Zqof (hts (.laysStatic Bundle.tN "UNASSIGNED_STACK" Bundle.steD) (by decide +kernel)) (hts (.initialized Bundle.tN) (by decide +kernel)) (hs (.isRef (.static Bundle.tN "UNASSIGNED_STACK" Bundle.steD)) (by decide +kernel)) hA, vx_Zqof (hts (.laysStatic Bundle.tN "SUPPRESSED_SENTINEL" Bundle.listD) (by decide +kernel)) (hts (.initialized Bundle.tN) (by decide +kernel)) (hs (.isRef (.static Bundle.tN "SUPPRESSED_SENTINEL" Bundle.listD)) (by decide +kernel)) hA⟩,
    fun i tx hi => ?_, ⟨hX, hbl⟩, ⟨?_, ?_⟩, ?_, Nat.le_refl _⟩
  · have hk := (List.mem_filter.mp hw).2
    have hb9 := hts w (List.mem_filter.mp hw).1
    cases w <;> first | (cases hk; done) | exact va_Nw.of rfl hb9
  · obtain ⟨k, cf, i', a, -, -, -, -, -, hv⟩ := Cond.stringRef_spec hcur (hts _ hi)
    exact ⟨a, vk_R.of (hts _ hi) hv⟩
  · refine sx_sta 0 hl0 (hts (.initialized RX6) (by decide +kernel)) (hs _ (by decide +kernel)) (hs _ (by decide +kernel)) (hs _ (by decide +kernel)) (fun j hj => ?_)
    have hall : ∀ j ∈ List.range 18, (Jvm.Cond.eq (.elem (.static RX6 (sx_fn 0) "[I") (.int (Int32.ofNat j))) (.int (nI ((sx_sv 0).getD j 0)))) ∈ flatC (Jvm.Cond.and given_1 narrow_1) := by decide +kernel
    exact hs _ (hall j (List.mem_range.mpr hj))
  · refine sx_sta 1 (hts (.laysStatic RX6 (sx_fn 1) "[I") (by decide +kernel)) (hts (.initialized RX6) (by decide +kernel)) (hs _ (by decide +kernel)) (hs _ (by decide +kernel)) (hs _ (by decide +kernel)) (fun j hj => ?_)
    have hall : ∀ j ∈ List.range 18, (Jvm.Cond.eq (.elem (.static RX6 (sx_fn 1) "[I") (.int (Int32.ofNat j))) (.int (nI ((sx_sv 1).getD j 0)))) ∈ flatC (Jvm.Cond.and given_1 narrow_1) := by decide +kernel
    exact hs _ (hall j (List.mem_range.mpr hj))
  · intro a a' ha ha' hn
    match a, a', ha, ha', hn with
    | 0, 0, _, _, hn => exact absurd rfl hn
    | 0, 1, _, _, _ => exact va_Nc.of (hs (.not (.castable (sx_en 0) (sx_en 1))) (by decide +kernel))
    | 0, 2, _, _, _ => exact va_Nc.of (hs (.not (.castable (sx_en 0) (sx_en 2))) (by decide +kernel))
    | 1, 0, _, _, _ => exact va_Nc.of (hs (.not (.castable (sx_en 1) (sx_en 0))) (by decide +kernel))
    | 1, 1, _, _, hn => exact absurd rfl hn
    | 1, 2, _, _, _ => exact va_Nc.of (hs (.not (.castable (sx_en 1) (sx_en 2))) (by decide +kernel))
    | 2, 0, _, _, _ => exact va_Nc.of (hs (.not (.castable (sx_en 2) (sx_en 0))) (by decide +kernel))
    | 2, 1, _, _, _ => exact va_Nc.of (hs (.not (.castable (sx_en 2) (sx_en 1))) (by decide +kernel))
    | 2, 2, _, _, hn => exact absurd rfl hn
    | a + 3, _, ha, _, _ => omega
    | _, a' + 3, _, ha', _ => omega
