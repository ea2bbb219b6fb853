/-! ===== the law's walk, out of a run of the tables ===== -/
theorem sx_law_row : sx_m[182]? = some (yL_law, (cL_law, (7, (ret, (10, 217))))) := by rfl
theorem sx_law_kd : (sx_mq[182]?).map (fun q => q.1) = some 4 := by decide +kernel
theorem sx_hg_none {I : Type} {T : sx_T (Option (sx_E I)) 10} {c : Nat × (Nat × (Nat × Bool))} (hT : ∀ i w, sx_tg 10 T i = some w → w = none) (k : Nat) (e : sx_E I) (hk : sx_hg ((T, c) : sx_H I) k = some e) : False := by
  have h1 := sx_hg_tg (h := ((T, c) : sx_H I)) hk
  have h2 : some e = none := hT k (some e) h1
  cases h2
theorem sx_h00_no (k : Nat) (e : sx_E Nat) (hk : sx_hg sx_h00 k = some e) : False := sx_hg_none (T := sx_tr 10 none) (c := (0, (0, (0, true)))) (fun i w h => sx_tg_tr_eq 10 i none w h) k e hk
set_option maxHeartbeats 600000 in
theorem sx_Rep0 {g : Nat → Int32} {b : Nat} {D : va_G} {s : State} : sx_Rep g s.heap.size b D s sx_h00 s.heap :=
  ⟨fun k e hk => (sx_h00_no k e hk).elim, Nat.le_refl _, fun _ => rfl, fun k e hk => (sx_h00_no k e hk).elim⟩
theorem sx_tag {v v' : sx_V Nat} {t : Nat} {h1 h' : sx_H Nat} (ht : t ≠ 1) (e : (((1, v), h1) : sx_R Nat) = ((t, v'), h')) : False := ht (congrArg (fun z : sx_R Nat => z.1.1) e).symm
theorem sx_val {v v' : sx_V Nat} {t t' : Nat} {h1 h' : sx_H Nat} (e : (((t, v), h1) : sx_R Nat) = ((t', v'), h')) : v = v' ∧ h1 = h' := ⟨congrArg (fun z : sx_R Nat => z.1.2) e, congrArg (fun z : sx_R Nat => z.2) e⟩
set_option maxHeartbeats 600000 in
theorem sx_whole {p : Program} {e : Env} {s : State} {m : MethodId} {below : List Frame} {meth : Method} {c : Code} (l : Launch) {b L : Nat} {xs : Nat → Int32} (C0 : lw_At p s m meth c b L xs) (rn : List Nat → sx_G Nat) (hFS : ∀ D : va_G, sx_FSg l sd_k (sd_c xs) s.heap.size b L xs D rn) (hgood : sd_good (rn (sx_cd 182) (sx_cd 182) (sx_args 0 [sx_scr]) [] sx_h00) = true) : W p l e room_1 s m #[Value.ref b] below meth c s.heap [] 0 0 (lw_Z below #[Value.ref b] s) (entryFrame m ([Value.ref b] : List Value).toArray 7) := by
  obtain ⟨D, hKK⟩ := sx_kk0 C0
  obtain ⟨hx, hb, hr, hml, hown, hts, hX, hbl, hlocks, hgv⟩ := id C0
  obtain ⟨h1, hout, hc1, hs1⟩ := sd_good_ok hgood
  obtain ⟨kd, qc, qi, qs, qn, hmq, hokL, hnx, -, -, -, -⟩ := sx_okM_ok (sx_okAll _ _ sx_law_row) sx_law_row
  have hkd : kd = 4 := by
    have h9 := sx_law_kd
    rw [hmq] at h9
    exact Option.some.inj h9
  subst hkd
  have hl := lv_entry ([.ref b]) (n := 7) (Nat.le_of_ble_eq_true rfl)
  rw [lg_entry_eq]
  generalize (lg_sl ([.ref b]) ++ List.replicate (7 - (lg_sl ([.ref b])).length) Slot.unset).toArray = la at hl ⊢
  have hl2 : lv_has la c.maxLocals ((sx_args 0 [sx_scr]).map (sx_cq (sd_c xs) s.heap.size b)) := by rw [hml]; exact hl
  exact hFS D 182 yL_law cL_law 7 ret 10 217 sx_law_row p e room_1 s m #[.ref b] below meth c (lw_Z below #[Value.ref b] s) sx_h00 ((1, some (.inl 1)), h1) false hx hb hml hown (fun w hw => hts w (List.mem_filter.mp hw).1) hKK (Nat.le_of_ble_eq_true rfl) (Nat.le_of_ble_eq_true rfl) (fun h => absurd h (by decide))
    (Nat.le_trans hc1 (show 600002 ≤ 0 + 600002 by decide)) (Nat.le_trans hs1 (show 7302232 ≤ 0 + 7302232 by decide))
    (fun i h' H locs cells slots la pc ho hret hd ⟨hP, hS, hc, hs⟩ => by
      obtain ⟨e2, e1⟩ := sx_val ho
      have e3 : (1 : Nat) = i := Sum.inl.inj (Option.some.inj e2)
      subst e1
      subst e3
      have e4 : sd_c xs 1 = 1 := by rw [sd_c_k (by decide)]; rfl
      rw [e4]
      refine va_forget (fun q hq => hS.2.2 q hq) ?_
      refine W.widen (k := 600002) (n := 7302232) ?_ ?_ ?_
      · have h8 : 0 + cells = h1.2.2.1 := hc
        omega
      · have h8 : 0 + slots = h1.2.2.2.1 := hs
        omega
      · exact lw_ret hx hb hr hlocks hd)
    (fun h' H locs cells slots la pc ho _ _ _ => (sx_tag (by decide) ho).elim)
    (fun v h' H locs cells slots la pc ho hv _ _ _ => by
      obtain ⟨e2, e1⟩ := sx_val ho
      rcases hv with hv | ⟨k, hv⟩
      · rw [hv] at e2; cases e2
      · rw [hv] at e2; cases e2)
    (fun t9 h' H locs cells slots la pc rest q ce ho _ _ _ _ _ _ _ => (sx_tag (by omega) ho).elim)
    (fun a b9 q k f9 h st H locs cells slots la pc ho _ _ _ _ _ => (sx_tag (by omega) ho).elim)
    (fun x b9 ls hw => by cases hw)
    hokL (sx_cd 182) (sx_args 0 [sx_scr]) [] sx_h00 (fun z hz => hz) hokL hout s.heap [] 0 0 la 0 (sx_nx_pc hnx) hl2 sx_Rep0 va_S.rf rfl rfl
theorem sx_pre_mono {o : sx_O Nat} {call : sx_K Nat} {rn : List Nat → sx_G Nat} (hcall : ∀ m as h out, call m as h = some out → sx_LE h out) (hrn : ∀ full cs ls st h out, rn full cs ls st h = some out → sx_LE h out) (k : Nat) : ∀ full cs ls st h out, sx_pre o call rn k full cs ls st h = some out → sx_LE h out := by
  induction k with
  | zero => exact hrn
  | succ k ih =>
    intro full cs ls st h out er
    cases cs with
    | nil => cases er
    | cons x r =>
      have er2 : sx_hf (sx_xq x) o call (sx_pre o call rn k full) full (sx_xa x) (sx_xb x) (sx_xc x) r ls st h = some out := er
      rw [sx_hf_eq] at er2
      exact mo_hd (sx_xq x) hcall (fun cs ls st h e9 => ih full cs ls st h out e9) er2
theorem sx_pre_FS {l : Launch} {o : sx_O Nat} {g : Nat → Int32} {b scr L : Nat} {xs : Nat → Int32} {D : va_G} (hLw : sx_Law o g L xs) {rn : List Nat → sx_G Nat} {call : sx_K Nat} (hCon : ∀ mid as h out, call mid as h = some out → sx_LE h out ∧ sx_Cn l g b scr L xs D mid as h out) (hMo : ∀ full cs ls st h out, rn full cs ls st h = some out → sx_LE h out) (ih : sx_FSg l o.1 g b scr L xs D rn) (k : Nat) : sx_FSg l o.1 g b scr L xs D (sx_pre o call rn k) := by
  induction k with
  | zero => exact ih
  | succ k ik => exact sx_step hLw sx_okAll (rn := sx_pre o call rn k) (call := call) hCon (sx_pre_mono (fun m as h out e => (hCon m as h out e).1) hMo k) (fun full ls st h => rfl) (fun full x r ls st h => by
    show sx_hf (sx_xq x) o call (sx_pre o call rn k full) full (sx_xa x) (sx_xb x) (sx_xc x) r ls st h = _
    rw [sx_hf_eq]) ik
theorem sx_any {l : Launch} (hlt : l.stackTraces = false) {bx : sd_B} {xs : Nat → Int32} (hin : sd_in bx xs) {L : Nat} (hL : L ≤ 6) (b scr : Nat) (D : va_G) (n : Nat) : sx_FS l (sd_o bx L) (sd_c xs) b scr L xs D n :=
  sx_frame (sd_law hin hL) sx_okAll (fun n h mid as hh out er => sx_con hlt (sd_law hin hL) sx_okAll n h mid as hh out er) n
theorem sx_short {p : Program} {e : Env} {s : State} {m : MethodId} {below : List Frame} {meth : Method} {c : Code} (l : Launch) (hlt : l.stackTraces = false) {b L : Nat} {xs : Nat → Int32} (hL : L ≤ 6) (C0 : lw_At p s m meth c b L xs) (hgood : sd_good (sd_run [] L) = true) : W p l e room_1 s m #[Value.ref b] below meth c s.heap [] 0 0 (lw_Z below #[Value.ref b] s) (entryFrame m ([Value.ref b] : List Value).toArray 7) :=
  sx_whole l C0 (sx_runh sx_hf sx_cd (sd_of [] L) 20000) (fun D => by rw [sx_runh_eq, sd_of_eq]; exact sx_any hlt (sd_in_nil xs) hL s.heap.size b D 20000) hgood
theorem sx_six {p : Program} {e : Env} {s : State} {m : MethodId} {below : List Frame} {meth : Method} {c : Code} (l : Launch) (hlt : l.stackTraces = false) {b : Nat} {xs : Nat → Int32} (C0 : lw_At p s m meth c b 6 xs) {bx : sd_B} (hin : sd_in bx xs) (hgood : sd_f bx = true) : W p l e room_1 s m #[Value.ref b] below meth c s.heap [] 0 0 (lw_Z below #[Value.ref b] s) (entryFrame m ([Value.ref b] : List Value).toArray 7) :=
  sx_whole l C0 (sx_pre sd_o6 sd_call0 (sx_runh sx_hf sx_cd (sd_of bx 6) 20000) 8) (fun D => by
    have hLw0 : sx_Law sd_o6 (sd_c xs) 6 xs := by
      unfold sd_o6
      rw [sd_of_eq]
      exact sd_law (sd_in_nil xs) (Nat.le_refl 6)
    have h0 : sx_FS l sd_o6 (sd_c xs) s.heap.size b 6 xs D 20000 := by
      unfold sd_o6
      rw [sd_of_eq]
      exact sx_any hlt (sd_in_nil xs) (Nat.le_refl 6) s.heap.size b D 20000
    have hb : sx_FSg l sd_k (sd_c xs) s.heap.size b 6 xs D (sx_runh sx_hf sx_cd (sd_of bx 6) 20000) := by
      rw [sx_runh_eq, sd_of_eq]
      exact sx_any hlt hin (Nat.le_refl 6) s.heap.size b D 20000
    refine sx_pre_FS (o := sd_o6) hLw0 (call := sd_call0) ?_ ?_ hb 8
    · unfold sd_call0
      rw [sx_runh_eq]
      exact sx_con hlt hLw0 sx_okAll 20000 h0
    · intro full cs ls st h out er
      rw [sx_runh_eq] at er
      exact sx_mono 20000 full cs ls st h out er) hgood
theorem sx_hlt {l : Launch} (hflags : l.flags = flags0) : l.stackTraces = false := by
  unfold Launch.stackTraces
  rw [hflags]
  decide +kernel
