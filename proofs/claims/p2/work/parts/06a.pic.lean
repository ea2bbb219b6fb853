/-! ===== the abstract machine tells what the machine does: pictures ===== -/
noncomputable def sx_c {I : Type} (g : I → Int32) (b scr : Nat) : sx_V I → Value
  | none => .null
  | some (.inl i) => .int (g i)
  | some (.inr (.inl k)) => .ref (b + k)
  | some (.inr (.inr (.inl i))) => .long (g i).toInt64
  | some (.inr (.inr (.inr _))) => .ref scr
noncomputable def sx_cq {I : Type} (g : I → Int32) (b scr : Nat) (q : Nat × sx_V I) : Nat × Value := (q.1, sx_c g b scr q.2)
theorem sx_c_cat {I : Type} (g : I → Int32) (b scr : Nat) (v : sx_V I) : (sx_c g b scr v).category = cond (sx_is2 v) 2 1 := by
  match v with
  | none => rfl
  | some (.inl i) => rfl
  | some (.inr (.inl k)) => rfl
  | some (.inr (.inr (.inl i))) => rfl
  | some (.inr (.inr (.inr _))) => rfl
theorem sx_lk_mem {I : Type} {ls : sx_L I} {i : Nat} {v : sx_V I} (h : sx_lk ls i = some v) : (i, v) ∈ ls := by
  induction ls with
  | nil => simp [sx_lk] at h
  | cons q r ih =>
    unfold sx_lk at h
    cases hb : Nat.beq q.1 i with
    | true =>
      rw [hb] at h
      have h1 : q.1 = i := Nat.eq_of_beq_eq_true hb
      have h2 : q.2 = v := Option.some.inj h
      rw [← h1, ← h2]
      exact List.mem_cons_self
    | false =>
      rw [hb] at h
      exact List.mem_cons_of_mem _ (ih h)
theorem sx_at9 {I : Type} {g : I → Int32} {b scr : Nat} {la : Array Slot} {nL : Nat} {ls : sx_L I} {i : Nat} {v : sx_V I} (hl : lv_has la nL (ls.map (sx_cq g b scr))) (h : sx_lk ls i = some v) : la[i]? = some (.val (sx_c g b scr v)) :=
  hl.2.2 (i, sx_c g b scr v) (List.mem_map.mpr ⟨(i, v), sx_lk_mem h, rfl⟩)
theorem sx_st_map {I : Type} (g : I → Int32) (b scr : Nat) (ls : sx_L I) (i : Nat) (v : sx_V I) : (i, sx_c g b scr v) :: (ls.map (sx_cq g b scr)).filter (fun q => !(q.1 == i) && !(q.1 + 1 == i && q.2.category == 2)) = (sx_st ls i v).map (sx_cq g b scr) := by
  unfold sx_st
  rw [List.map_cons, List.filter_map]
  refine congrArg (List.cons _) (congrArg (List.map _) (congrArg (fun f => List.filter f ls) ?_))
  funext q
  show (!(q.1 == i) && !(q.1 + 1 == i && (sx_c g b scr q.2).category == 2)) = _
  rw [sx_c_cat]
  cases sx_is2 q.2 <;> rfl
theorem sx_args_map {I : Type} (g : I → Int32) (b scr : Nat) (vs : List (sx_V I)) : ∀ i : Nat, lv_args i (vs.map (sx_c g b scr)) = (sx_args i vs).map (sx_cq g b scr) := by
  induction vs with
  | nil => intro i; rfl
  | cons v vs ih =>
    intro i
    show (i, sx_c g b scr v) :: lv_args (if (sx_c g b scr v).category = 2 then i + 2 else i + 1) (vs.map (sx_c g b scr)) = (i, sx_c g b scr v) :: (sx_args (cond (sx_is2 v) (i + 2) (i + 1)) vs).map (sx_cq g b scr)
    rw [sx_c_cat, ← ih]
    cases sx_is2 v <;> rfl
theorem sx_sw_sum {I : Type} (g : I → Int32) (b scr : Nat) (st : List (sx_V I)) : ((st.map (sx_c g b scr)).map fun v => v.category).sum = sx_sw st := by
  induction st with
  | nil => rfl
  | cons v r ih =>
    rw [List.map_cons, List.map_cons, List.sum_cons, ih, sx_c_cat]
    show _ = cond (sx_is2 v) (Nat.add (sx_sw r) 2) (Nat.add (sx_sw r) 1)
    cases sx_is2 v
    · exact Nat.add_comm _ _
    · exact Nat.add_comm _ _
noncomputable def sx_rd {I : Type} (tr : sx_T (sx_V I) 13) (j : Nat) : sx_V I := (sx_tg 13 tr j).getD none
noncomputable def sx_cell {I : Type} (g : I → Int32) (b scr : Nat) (D : va_G) (s : State) (H : Heap) (k : Nat) : sx_E I → Prop
  | .inl x => va_at D vwCl (b + k, .inr (x.1, x.2.map (sx_c g b scr))) H
  | .inr x => ∃ cA : ClassId, H[b + k]? = some (arrV cA x.2.1 (fun j => sx_c g b scr (sx_rd x.2.2 j))) ∧ ArrOfT s cA (sx_ty x.1) ∧ va_RA s cA (sx_ty x.1)
noncomputable def sx_Rep {I : Type} (g : I → Int32) (b scr : Nat) (D : va_G) (s : State) (h : sx_H I) (H : Heap) : Prop :=
  (∀ (k : Nat) (e : sx_E I), sx_hg h k = some e → sx_cell g b scr D s H k e) ∧ b + h.2.1 ≤ H.size ∧ (h.2.2.2.2 = true → H.size = b + h.2.1) ∧ ∀ (k : Nat) (e : sx_E I), sx_hg h k = some e → k < h.2.1
theorem sx_cell_lt {I : Type} {g : I → Int32} {b scr : Nat} {D : va_G} {s : State} {H : Heap} {k : Nat} {e : sx_E I} (h : sx_cell g b scr D s H k e) : b + k < H.size := by
  cases e with
  | inl x => exact va_at.lt (q := (b + k, .inr (x.1, x.2.map (sx_c g b scr)))) h
  | inr x =>
    obtain ⟨cA, h1, -⟩ := h
    exact (Array.getElem?_eq_some_iff.mp h1).1
theorem sx_cell_kept {I : Type} {g : I → Int32} {b scr : Nat} {D : va_G} {s : State} {H H1 : Heap} {k : Nat} {e : sx_E I} (h : sx_cell g b scr D s H k e) (hq : H1[b + k]? = H[b + k]?) : sx_cell g b scr D s H1 k e := by
  cases e with
  | inl x => exact va_at.kept (q := (b + k, .inr (x.1, x.2.map (sx_c g b scr)))) h hq
  | inr x =>
    obtain ⟨cA, h1, h2⟩ := h
    exact ⟨cA, hq.trans h1, h2⟩
theorem sx_cell_moved {I : Type} {g : I → Int32} {b scr : Nat} {D : va_G} {s U : State} {H : Heap} {k : Nat} {e : sx_E I} (hvm : s.vm.Alike U.vm) (h : sx_cell g b scr D s H k e) : sx_cell g b scr D U H k e := by
  cases e with
  | inl x => exact h
  | inr x =>
    obtain ⟨cA, h1, h2, h3⟩ := h
    exact ⟨cA, h1, arrOfT_moved hvm h2, h3.moved hvm⟩
theorem sx_Rep_moved {I : Type} {g : I → Int32} {b scr : Nat} {D : va_G} {s U : State} {h : sx_H I} {H : Heap} (hvm : s.vm.Alike U.vm) (hR : sx_Rep g b scr D s h H) : sx_Rep g b scr D U h H :=
  ⟨fun k e hk => sx_cell_moved hvm (hR.1 k e hk), hR.2⟩
theorem sx_hg_tg {I : Type} {h : sx_H I} {k : Nat} {e : sx_E I} (hk : sx_hg h k = some e) : sx_tg 10 h.1 k = some (some e) := by
  unfold sx_hg at hk
  split at hk
  · next e' he => rw [he]; exact congrArg some hk
  · cases hk
theorem sx_hg_of {I : Type} {h : sx_H I} {k : Nat} {e : sx_E I} (hk : sx_tg 10 h.1 k = some (some e)) : sx_hg h k = some e := by
  unfold sx_hg
  rw [hk]
theorem sx_hg_eq {I : Type} {h h' : sx_H I} {k : Nat} (hk : sx_tg 10 h.1 k = sx_tg 10 h'.1 k) : sx_hg h k = sx_hg h' k := by
  unfold sx_hg
  rw [hk]
theorem sx_hg_hs {I : Type} {h : sx_H I} {k : Nat} {e0 : sx_E I} (e1 : sx_E I) (hk : sx_hg h k = some e0) : sx_hg (sx_hs h k e1) k = some e1 :=
  sx_hg_of (sx_tg_same 10 h.1 k _ (some e1) (sx_hg_tg hk))
theorem sx_hg_hs_ne {I : Type} {h : sx_H I} {k j : Nat} (e1 : sx_E I) (hj : j ≠ k) : sx_hg (sx_hs h k e1) j = sx_hg h j :=
  sx_hg_eq (sx_tg_ne 10 h.1 k j (some e1) hj)
theorem sx_hg_hn {I : Type} {h : sx_H I} (e1 : sx_E I) (sl : Nat) (hn : h.2.1 + 1 ≤ 1024) : sx_hg (sx_hn h e1 sl) h.2.1 = some e1 := by
  obtain ⟨w, hw⟩ := sx_tg_some 10 h.1 h.2.1 (show h.2.1 < 1024 by omega)
  exact sx_hg_of (sx_tg_same 10 h.1 h.2.1 w (some e1) hw)
theorem sx_hg_hn_ne {I : Type} {h : sx_H I} (e1 : sx_E I) (sl : Nat) {j : Nat} (hj : j ≠ h.2.1) : sx_hg (sx_hn h e1 sl) j = sx_hg h j :=
  sx_hg_eq (sx_tg_ne 10 h.1 h.2.1 j (some e1) hj)
theorem sx_Rep_set {I : Type} {g : I → Int32} {b scr : Nat} {D : va_G} {s : State} {h : sx_H I} {H H1 : Heap} {k : Nat} {e0 e1 : sx_E I} (hR : sx_Rep g b scr D s h H) (hk : sx_hg h k = some e0) (hc : sx_cell g b scr D s H1 k e1) (z : H1.size = H.size) (oq : ∀ q : Nat, q ≠ b + k → H1[q]? = H[q]?) : sx_Rep g b scr D s (sx_hs h k e1) H1 := by
  refine ⟨fun j e hj => ?_, by rw [z]; exact hR.2.1, fun hx => by rw [z]; exact hR.2.2.1 hx, fun j e hj => ?_⟩
  · by_cases hjk : j = k
    · subst hjk
      rw [sx_hg_hs e1 hk] at hj
      cases hj
      exact hc
    · rw [sx_hg_hs_ne e1 hjk] at hj
      exact sx_cell_kept (hR.1 j e hj) (oq _ (by omega))
  · by_cases hjk : j = k
    · subst hjk
      exact hR.2.2.2 j e0 hk
    · rw [sx_hg_hs_ne e1 hjk] at hj
      exact hR.2.2.2 j e hj
theorem sx_Rep_push {I : Type} {g : I → Int32} {b scr : Nat} {D : va_G} {s : State} {h : sx_H I} {H H1 : Heap} {e1 : sx_E I} (sl : Nat) (hR : sx_Rep g b scr D s h H) (hx : h.2.2.2.2 = true) (hn : h.2.1 + 1 ≤ 1024) (hc : sx_cell g b scr D s H1 h.2.1 e1) (z : H1.size = H.size + 1) (oq : ∀ q : Nat, q < H.size → H1[q]? = H[q]?) : sx_Rep g b scr D s (sx_hn h e1 sl) H1 := by
  have hz := hR.2.2.1 hx
  refine ⟨fun j e hj => ?_, ?_, fun _ => ?_, fun j e hj => ?_⟩
  · by_cases hjk : j = h.2.1
    · subst hjk
      rw [sx_hg_hn e1 sl hn] at hj
      cases hj
      exact hc
    · rw [sx_hg_hn_ne e1 sl hjk] at hj
      have h1 := hR.1 j e hj
      exact sx_cell_kept h1 (oq _ (sx_cell_lt h1))
  · show b + (h.2.1 + 1) ≤ H1.size
    omega
  · show H1.size = b + (h.2.1 + 1)
    omega
  · show j < h.2.1 + 1
    by_cases hjk : j = h.2.1
    · omega
    · rw [sx_hg_hn_ne e1 sl hjk] at hj
      have := hR.2.2.2 j e hj
      omega
/-! ===== what the tables say ===== -/
noncomputable def sx_goods : List Jvm.Cond := lw_tbl.filter goodWord
noncomputable def sx_ngk : Jvm.Cond → Bool
  | .methodLinkNest .. => true
  | .fieldLinkNest .. => true
  | .castable .. => true
  | .declares .. => true
  | _ => false
noncomputable def sx_ng : List Jvm.Cond := lw_tbl.filter sx_ngk
theorem sx_wg {args : Array Value} {s : State} (hts : ∀ w ∈ sx_goods, w.before args s = true) {q : Nat} {w : Jvm.Cond} (hq : lw_tbl[q]? = some w) (hg : goodWord w = true) : w.before args s = true :=
  hts w (List.mem_filter.mpr ⟨List.mem_of_getElem? hq, hg⟩)
theorem sx_wn {s : State} (hts : ∀ w ∈ sx_ng, va_Nw w s) {q : Nat} {w : Jvm.Cond} (hq : lw_tbl[q]? = some w) (hg : sx_ngk w = true) : va_Nw w s :=
  hts w (List.mem_filter.mpr ⟨List.mem_of_getElem? hq, hg⟩)
theorem sx_ng_moved {s U : State} (hW : s.WarmedH U.vm) {w : Jvm.Cond} (hk : sx_ngk w = true) (h : va_Nw w s) : va_Nw w U := by
  cases w <;> first | (cases hk; done) | exact va_Nw.warmM hW h | exact va_Nw.warmF hW h | exact va_Nw.warmC hW h | exact va_Nw.warmD hW h
/-- a static array of the class's -/
noncomputable def sx_Sta (b a : Nat) (s : State) : Prop := ∃ (t : Nat) (cell : Cell), va_Z RX6 (sx_fn a) "[I" (.ref t) (fun q => b ≤ q) s s.heap ∧ s.heap[t]? = some cell ∧ (∀ k, cell.vm ≠ .statics k) ∧ cell.vm ≠ .unknown ∧ ArrOfT s cell.cls .int ∧ va_RA s cell.cls .int ∧ cell.slots = (arrV cell.cls 18 (fun j => .int (nI ((sx_sv a).getD j 0)))).slots ∧ t < b
noncomputable def sx_KK (b scr L : Nat) (xs : Nat → Int32) (D : va_G) (s : State) : Prop :=
  va_K D vwCl [] s ∧ (∀ w ∈ sx_ng, va_Nw w s) ∧ (va_AO RX4 s ∧ va_AO RX0 s) ∧ (vx_Zq Bundle.tN "UNASSIGNED_STACK" Bundle.steD (fun q => b ≤ q) s s.heap ∧ vx_Zq Bundle.tN "SUPPRESSED_SENTINEL" Bundle.listD (fun q => b ≤ q) s s.heap) ∧ (∀ (i : Nat) (tx : String), Jvm.Cond.stringRef RX6 i tx ∈ lw_tbl → ∃ sa, vk_R RX6 i tx sa s) ∧ (va_X scr L xs s s.heap ∧ scr < b) ∧ (sx_Sta b 0 s ∧ sx_Sta b 1 s) ∧ (∀ a a' : Nat, a < 3 → a' < 3 → a ≠ a' → va_Nc (sx_en a) (sx_en a') s) ∧ b ≤ s.heap.size
theorem sx_Sta_moved {b a : Nat} {s U : State} (hW : s.WarmedH U.vm) (hh : ∀ q : Nat, q < b → U.heap[q]? = s.heap[q]?) (h : sx_Sta b a s) : sx_Sta b a U := by
  obtain ⟨t, cell, h1, h2, h6, h7, h3, h4, h8, h5⟩ := h
  exact ⟨t, cell, (h1.kept (fun q _ hq => hh q (Nat.not_le.mp hq))).moved hW.alike, (hh t h5).trans h2, h6, h7, arrOfT_moved hW.alike h3, h4.moved hW.alike, h8, h5⟩
theorem sx_KK_moved {b scr L : Nat} {xs : Nat → Int32} {D : va_G} {s U : State} (hW : s.WarmedH U.vm) (hh : ∀ q : Nat, q < b → U.heap[q]? = s.heap[q]?) (hz : b ≤ U.heap.size) (h : sx_KK b scr L xs D s) : sx_KK b scr L xs D U := by
  obtain ⟨h1, h2, ⟨h3, h3'⟩, ⟨h4, h4'⟩, h5, ⟨h6, h6'⟩, ⟨h7, h7'⟩, h8, h9⟩ := h
  exact ⟨va_K.moved hW.alike h1, fun w hw => sx_ng_moved hW (List.mem_filter.mp hw).2 (h2 w hw), ⟨va_AO.moved hW.alike h3, va_AO.moved hW.alike h3'⟩,
    ⟨(h4.kept (fun q _ hq => hh q (Nat.not_le.mp hq))).moved hW.alike, (h4'.kept (fun q _ hq => hh q (Nat.not_le.mp hq))).moved hW.alike⟩,
    fun i tx hi => by obtain ⟨sa, hsa⟩ := h5 i tx hi; exact ⟨sa, hsa.warm hW⟩,
    ⟨(h6.kept (hh scr h6')).moved hW.alike, h6'⟩, ⟨sx_Sta_moved hW hh h7, sx_Sta_moved hW hh h7'⟩, fun a a' ha ha' hn => va_Nc.moved hW.alike (h8 a a' ha ha' hn), hz⟩
