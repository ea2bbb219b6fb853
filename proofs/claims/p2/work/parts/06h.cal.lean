/-! ===== calls ===== -/
noncomputable def sx_Pc {I : Type} (g : I → Int32) (b scr L : Nat) (xs : Nat → Int32) (D : va_G) (as : List (sx_V I)) (h : sx_H I) : Array Value → State → Prop := fun v U => v = (as.map (sx_c g b scr)).toArray ∧ (sx_Rep g b scr D U h U.heap ∧ sx_KK b scr L xs D U)
theorem sx_Pc_blind {I : Type} {g : I → Int32} {b scr L : Nat} {xs : Nat → Int32} {D : va_G} {as : List (sx_V I)} {h : sx_H I} : FrameBlind (sx_Pc g b scr L xs D as h) := fun a U g9 mk ⟨h1, h2, h3⟩ =>
  ⟨h1, sx_Rep_moved (s := U) (U := U.calling g9 mk a) (Vm.Alike.refl U.vm) h2, sx_KK_moved (s := U) (U := U.calling g9 mk a) (State.WarmedH.refl U) (fun _ _ => rfl) h3.2.2.2.2.2.2.2.2 h3⟩
noncomputable def sx_rv {I : Type} (g : I → Int32) (b scr : Nat) (q : Nat × sx_V I) : Option Value := match q.1 with
  | 0 => none
  | _ => some (sx_c g b scr q.2)
noncomputable def sx_Qc {I : Type} (g : I → Int32) (b scr : Nat) (D : va_G) (out : sx_R I) : Array Value → State → Outcome → State → Prop := fun _ st oc t => oc = .returned (sx_rv g b scr out.1) ∧ (sx_Rep g b scr D t out.2 t.heap ∧ va_F (fun q => b ≤ q) st t)
noncomputable def sx_XC {I : Type} (g : I → Int32) (b scr : Nat) (D : va_G) (out : sx_R I) : String → State → State → Prop := fun E st t => E = sx_en (out.1.1 - 2) ∧ (sx_Rep g b scr D t out.2 t.heap ∧ va_F (fun q => b ≤ q) st t)
def sx_No : Array Value → State → Outcome → State → Prop := fun _ _ _ _ => False
def sx_rm (f lo mc ms : Nat) : Room := { frames := f, cells := mc, slots := ms, locals := lo }
/-- what a call of a method comes to, by its row of the table -/
noncomputable def sx_Cn {I : Type} (l : Launch) (g : I → Int32) (b scr L : Nat) (xs : Nat → Int32) (D : va_G) (mid : Nat) (as : List (sx_V I)) (h : sx_H I) (out : sx_R I) : Prop :=
  ∀ (y : MethodName) (bs : ByteArray) (mL : Nat) (ret : Option FieldType) (f lo kd qc qi qs qn : Nat), sx_m[mid]? = some (y, (bs, (mL, (ret, (f, lo))))) → sx_mq[mid]? = some (kd, (qc, (qi, (qs, qn)))) → as.length ≤ mL → sx_n2 as = true →
    (kd ≤ 2 → out.1.1 ≤ 1 → Met l y (Jvm.Cond.code y bs mL ret :: sx_goods) (sx_rm f lo (out.2.2.2.1 - h.2.2.1) (out.2.2.2.2.1 - h.2.2.2.1)) (sx_Pc g b scr L xs D as h) (sx_Qc g b scr D out) (out.2.2.2.1 - h.2.2.1) (out.2.2.2.2.1 - h.2.2.2.1) (fun q => b ≤ q)) ∧
    (kd ≤ 2 → 2 ≤ out.1.1 → vx_Met l y (Jvm.Cond.code y bs mL ret :: sx_goods) (sx_rm f lo (out.2.2.2.1 - h.2.2.1) (out.2.2.2.2.1 - h.2.2.2.1)) (sx_Pc g b scr L xs D as h) sx_No (sx_XC g b scr D out) (out.2.2.2.1 - h.2.2.1) (out.2.2.2.2.1 - h.2.2.2.1) (fun q => b ≤ q)) ∧
    (kd = 3 → out.1.1 ≤ 1 → ∀ hh : List (Nat × Nat × Nat × Nat), lw_tbl[qc]? = some (Jvm.Cond.codeWith y bs mL ret hh) → Met l y (Jvm.Cond.codeWith y bs mL ret hh :: sx_goods) (sx_rm f lo (out.2.2.2.1 - h.2.2.1) (out.2.2.2.2.1 - h.2.2.2.1)) (sx_Pc g b scr L xs D as h) (sx_Qc g b scr D out) (out.2.2.2.1 - h.2.2.1) (out.2.2.2.2.1 - h.2.2.2.1) (fun q => b ≤ q))
theorem sx_pop_ok {A : Type} (n : Nat) : ∀ (acc st as r : List A), sx_pop n acc st = some (as, r) → as.length = acc.length + n ∧ as.reverse ++ r = acc.reverse ++ st := by
  induction n with
  | zero => intro acc st as r h; cases h; exact ⟨rfl, rfl⟩
  | succ n ih =>
    intro acc st as r h
    cases st with
    | nil => cases h
    | cons v st =>
      obtain ⟨h1, h2⟩ := ih (v :: acc) st as r h
      refine ⟨by rw [h1, List.length_cons]; omega, ?_⟩
      rw [h2, List.reverse_cons, List.append_assoc]
      rfl
theorem sx_wsU {args : Array Value} {s : State} (hts : ∀ w ∈ sx_goods, w.before args s = true) {w0 : Jvm.Cond} (h0 : w0 ∈ sx_goods) : ∀ w ∈ w0 :: sx_goods, ∀ (a' : Array Value) (U : State), s.WarmedH U.vm → w.before a' U = true := fun w hw a' U hW => by
  have hm : w ∈ sx_goods := (List.mem_cons.mp hw).elim (fun e => e ▸ h0) id
  exact word_at hW (good_of_word (List.mem_filter.mp hm).2) (hts w hm)
theorem sx_gq {q : Nat} {w : Jvm.Cond} (hq : lw_tbl[q]? = some w) (hg : goodWord w = true) : w ∈ sx_goods := List.mem_filter.mpr ⟨List.mem_of_getElem? hq, hg⟩
theorem sx_okM_ok {i : Nat} (h : sx_okM i = true) {y : MethodName} {bs : ByteArray} {mL : Nat} {ret : Option FieldType} {f lo : Nat} (he : sx_m[i]? = some (y, (bs, (mL, (ret, (f, lo)))))) :
    ∃ kd qc qi qs qn : Nat, sx_mq[i]? = some (kd, (qc, (qi, (qs, qn)))) ∧ sx_okL y.cls (decide (y.name = "<init>")) (Nat.beq kd 3) ret bs mL f lo (sx_cd i) (sx_cd i) = true ∧ sx_nx (sx_cd i) 0 = true ∧ plainName y.cls = true ∧ (y.cls ≠ "java/lang/invoke/MethodHandle" ∧ y.cls ≠ "java/lang/invoke/VarHandle") ∧ sx_wk y bs mL ret qc qi qs qn kd = true ∧ (kd = 3 → sx_wrk qc bs mL (sx_cd i) = true ∧ y.cls = RL ∧ ret = some .int) := by
  unfold sx_okM at h
  rw [he] at h
  split at h
  · next y9 b9 m9 r9 f9 l9 kd qc qi qs qn h1 h2 =>
    cases h1
    simp only [Bool.and_eq_true] at h
    obtain ⟨g1, g2, g3, g4, g5, g6⟩ := h
    unfold sx_mh at g4
    simp only [Bool.and_eq_true, decide_eq_true_eq] at g4
    refine ⟨kd, qc, qi, qs, qn, h2, g1, g2, g3, g4, g5, fun hk => ?_⟩
    subst hk
    simpa using g6
  · cases h
theorem sx_cal_ok {own : String} {bs : ByteArray} {cs : List Nat} {pc fr lo n sl : Nat} {e : Option sx_ME} {w : Option Jvm.Cond} {nest : Bool} {f : Nat → Instr} {more : MethodName → Bool} (h : sx_cal own bs pc fr lo n sl e w nest f more cs = true) :
    ∃ (y : MethodName) (bs9 : ByteArray) (mL : Nat) (ret : Option FieldType) (f9 l9 idx : Nat), e = some (y, (bs9, (mL, (ret, (f9, l9))))) ∧ ((nest = false ∧ w = some (Jvm.Cond.methodLink own idx y)) ∨ (nest = true ∧ ∃ host, w = some (Jvm.Cond.methodLinkNest own idx y host))) ∧ (parseMethodDescriptor y.desc).map (fun d => d.parameters.length) = some n ∧ f9 + 1 ≤ fr ∧ 8 + (mL + 11) + l9 ≤ lo ∧ n + sl ≤ mL ∧ decode bs pc = .ok (f idx, 3) ∧ more y = true ∧ sx_pc cs = some (pc + 3) := by
  unfold sx_cal at h
  split at h
  · next y bs9 mL ret f9 l9 own' idx y' =>
    simp only [Bool.and_eq_true, decide_eq_true_eq] at h
    obtain ⟨h0, h1, h2, h3, h4, h5, h55, h6, h7, h8⟩ := h
    subst h1; subst h2
    exact ⟨_, bs9, mL, ret, f9, l9, idx, rfl, Or.inl ⟨(by cases nest <;> first | rfl | (cases h0; done)), rfl⟩, h3, Nat.le_of_ble_eq_true h4, Nat.le_of_ble_eq_true h5, Nat.le_of_ble_eq_true h55, sx_dk_ok h6, h7, sx_nx_pc h8⟩
  · next y bs9 mL ret f9 l9 own' idx y' host =>
    simp only [Bool.and_eq_true, decide_eq_true_eq] at h
    obtain ⟨h0, h1, h2, h3, h4, h5, h55, h6, h7, h8⟩ := h
    subst h1; subst h2
    exact ⟨_, bs9, mL, ret, f9, l9, idx, rfl, Or.inr ⟨h0, host, rfl⟩, h3, Nat.le_of_ble_eq_true h4, Nat.le_of_ble_eq_true h5, Nat.le_of_ble_eq_true h55, sx_dk_ok h6, h7, sx_nx_pc h8⟩
  · cases h
theorem sx_par {y : MethodName} {n : Nat} (h : (parseMethodDescriptor y.desc).map (fun d => d.parameters.length) = some n) : ∀ sig, parseMethodDescriptor y.desc = some sig → n = sig.parameters.length := fun sig hs => by
  rw [hs] at h
  exact (Option.some.inj h).symm
section SN
variable {p : Program} {l : Launch} {e : Env} {R : Room} {s : State} {m : MethodId} {args : Array Value} {below : List Frame} {meth : Method} {c : Code} {Q : State → Prop}
variable {I : Type} {o : sx_O I} {g : I → Int32} {b scr L : Nat} {xs : Nat → Int32} {D : va_G} {h0 : sx_H I} {bs : ByteArray} {own : String} {full cs : List Nat} {x a k q : Nat} {ls : sx_L I} {st : List (sx_V I)} {h : sx_H I} {out : sx_R I} {go : sx_G I}
variable {H : Heap} {locs : List Loc} {cells slots pc mc ms : Nat} {la : Array Slot} {st0 rest : List Value} {out9 : sx_R I} {a9 : Array Value}
theorem sx_ofRun (hr : va_Run p l e R s m args below meth c H locs cells slots mc ms (F0 m pc la st0) rest (sx_Qc g b scr D out9 a9) (fun q => b ≤ q)) (hS : va_S (fun q => b ≤ q) s.heap H locs)
    (kk : ∀ (H1 : Heap) (locs1 : List Loc), sx_Rep g b scr D s out9.2 H1 → va_S (fun q => b ≤ q) s.heap H1 locs1 → W p l e R s m args below meth c H1 locs1 (cells + mc) (slots + ms) Q (F0 m (pc + 3) la ((sx_rv g b scr out9.1).toList ++ rest))) : W p l e R s m args below meth c H locs cells slots Q (F0 m pc la st0) := by
  intro T hT X
  obtain ⟨v, st₀, t, T', L9, e0, X', hL, e1, e2, ⟨hv, hrep, hz, hk⟩, stp⟩ := hr T hT X
  have hv' : v = sx_rv g b scr out9.1 := Outcome.returned.inj hv
  subst hv'
  rw [e0] at hz hk
  have hvm : s.vm.Alike t.vm := by rw [← e2]; exact X'.warmed.alike
  have hrep' : sx_Rep g b scr D s out9.2 T'.heap := by rw [e1]; exact sx_Rep_moved hvm.symm hrep
  obtain ⟨t2, a1, b1⟩ := kk T'.heap (locs ++ L9) hrep' ⟨Nat.le_trans hS.1 (by rw [e1]; exact hz), fun q h1 h2 => by rw [e1, hk q (Nat.lt_of_lt_of_le h1 hS.1) h2]; exact hS.2.1 q h1 h2, fun q hq => (List.mem_append.mp hq).elim (hS.2.2 q) (hL q)⟩ T' rfl X'
  exact ⟨t2, stp t2 a1, b1⟩
theorem sx_ofRunX (hr : vx_Run p l e R s m args below meth c H locs cells slots mc ms (F0 m pc la st0) rest (sx_No a9) (sx_XC g b scr D out9) (fun q => b ≤ q)) (hS : va_S (fun q => b ≤ q) s.heap H locs)
    (kk : ∀ (H1 : Heap) (locs1 : List Loc) (q : Addr) (ce : Cell), sx_Rep g b scr D s out9.2 H1 → va_S (fun q => b ≤ q) s.heap H1 locs1 → H1[q]? = some ce → ce.vm = .none → s.vm.findClass (sx_en (out9.1.1 - 2)) = some ce.cls → vx_W p l e R s m args below meth c H1 locs1 (cells + mc) (slots + ms) Q (F0 m pc la rest) q) : W p l e R s m args below meth c H locs cells slots Q (F0 m pc la st0) := by
  intro T hT X
  rcases hr T hT X with ⟨v, st₀, t, T', L9, e0, X', hL, e1, e2, hF, -⟩ | ⟨q, st₀, t, T', L9, E, ce, e0, X', hL, e1, e2, ⟨hE, hrep, hz, hk⟩, hce, hcv, hcl, stp⟩
  · exact hF.elim
  · subst hE
    rw [e0] at hz hk
    have hvm : s.vm.Alike t.vm := by rw [← e2]; exact X'.warmed.alike
    have hrep' : sx_Rep g b scr D s out9.2 T'.heap := by rw [e1]; exact sx_Rep_moved hvm.symm hrep
    obtain ⟨t2, a1, b1⟩ := kk T'.heap (locs ++ L9) q ce hrep' ⟨Nat.le_trans hS.1 (by rw [e1]; exact hz), fun q h1 h2 => by rw [e1, hk q (Nat.lt_of_lt_of_le h1 hS.1) h2]; exact hS.2.1 q h1 h2, fun q hq => (List.mem_append.mp hq).elim (hS.2.2 q) (hL q)⟩ (by rw [e1]; exact hce) hcv hcl T' rfl X'
    exact ⟨t2, stp.trans a1, b1⟩
/-- behind a call, whether it returned or threw -/
theorem sn_bk {r : List (sx_V I)} (hRc : out.2.2.2.1 ≤ h0.2.2.1 + R.cells) (hRs : out.2.2.2.2.1 ≤ h0.2.2.2.1 + R.slots) (hmono : ∀ ls st h, go cs ls st h = some out → h.2.2.1 ≤ out.2.2.2.1 ∧ h.2.2.2.1 ≤ out.2.2.2.2.1) (hle : sx_LE h out9) (hgo : ∀ ls st h, go cs ls st h = some out → sx_Cm p l e R s m args below meth c Q g b scr D h0 cs ls st h)
    (hThr : ∀ (t9 : Nat) (h' : sx_H I) (H : Heap) (locs : List Loc) (cells slots : Nat) (la : Array Slot) (pc : Nat) (rest : List Value) (q : Addr) (ce : Cell), out = ((t9 + 2, none), h') → sx_Rep g b scr D s h' H → va_S (fun q => b ≤ q) s.heap H locs → h0.2.2.1 + cells = h'.2.2.1 → h0.2.2.2.1 + slots = h'.2.2.2.1 → H[q]? = some ce → ce.vm = .none → s.vm.findClass (sx_en t9) = some ce.cls → vx_W p l e R s m args below meth c H locs cells slots Q (F0 m pc la rest) q)
    (er : sx_bk go cs ls r (some out9) = some out) (hnx : sx_pc cs = some (pc + 3)) (hl : lv_has la c.maxLocals (ls.map (sx_cq g b scr))) (hS : va_S (fun q => b ≤ q) s.heap H locs) (hc : h0.2.2.1 + cells = h.2.2.1) (hs : h0.2.2.2.1 + slots = h.2.2.2.1)
    (runN : out9.1.1 ≤ 1 → cells + (out9.2.2.2.1 - h.2.2.1) ≤ R.cells ∧ slots + (out9.2.2.2.2.1 - h.2.2.2.1) ≤ R.slots → va_Run p l e R s m args below meth c H locs cells slots (out9.2.2.2.1 - h.2.2.1) (out9.2.2.2.2.1 - h.2.2.2.1) (F0 m pc la st0) (r.map (sx_c g b scr)) (sx_Qc g b scr D out9 a9) (fun q => b ≤ q))
    (runX : 2 ≤ out9.1.1 → cells + (out9.2.2.2.1 - h.2.2.1) ≤ R.cells ∧ slots + (out9.2.2.2.2.1 - h.2.2.2.1) ≤ R.slots → vx_Run p l e R s m args below meth c H locs cells slots (out9.2.2.2.1 - h.2.2.1) (out9.2.2.2.2.1 - h.2.2.2.1) (F0 m pc la st0) (r.map (sx_c g b scr)) (sx_No a9) (sx_XC g b scr D out9) (fun q => b ≤ q)) : W p l e R s m args below meth c H locs cells slots Q (F0 m pc la st0) := by
  obtain ⟨⟨t, v⟩, h'⟩ := out9
  have hle1 : h.2.2.1 ≤ h'.2.2.1 := hle.1
  have hle2 : h.2.2.2.1 ≤ h'.2.2.2.1 := hle.2
  match t, er, runN, runX with
  | 0, er, runN, runX =>
    have er' : go cs ls r h' = some out := er
    have hm := hmono _ _ _ er'
    refine sx_ofRun (runN (show 0 ≤ 1 from Nat.zero_le _) ⟨?_, ?_⟩) hS fun H1 locs1 hP1 hS1 => hgo _ _ _ er' H1 locs1 _ _ la _ hnx hl hP1 hS1 ?_ ?_
    · show cells + (h'.2.2.1 - h.2.2.1) ≤ R.cells
      omega
    · show slots + (h'.2.2.2.1 - h.2.2.2.1) ≤ R.slots
      omega
    · show h0.2.2.1 + (cells + (h'.2.2.1 - h.2.2.1)) = h'.2.2.1
      omega
    · show h0.2.2.2.1 + (slots + (h'.2.2.2.1 - h.2.2.2.1)) = h'.2.2.2.1
      omega
  | 1, er, runN, runX =>
    have er' : go cs ls (v :: r) h' = some out := er
    have hm := hmono _ _ _ er'
    refine sx_ofRun (runN (show 1 ≤ 1 from Nat.le_refl _) ⟨?_, ?_⟩) hS fun H1 locs1 hP1 hS1 => hgo _ _ _ er' H1 locs1 _ _ la _ hnx hl hP1 hS1 ?_ ?_
    · show cells + (h'.2.2.1 - h.2.2.1) ≤ R.cells
      omega
    · show slots + (h'.2.2.2.1 - h.2.2.2.1) ≤ R.slots
      omega
    · show h0.2.2.1 + (cells + (h'.2.2.1 - h.2.2.1)) = h'.2.2.1
      omega
    · show h0.2.2.2.1 + (slots + (h'.2.2.2.1 - h.2.2.2.1)) = h'.2.2.2.1
      omega
  | t + 2, er, runN, runX =>
    have er' : some ((t + 2, none), h') = some out := er
    have er2 : out = ((t + 2, none), h') := (Option.some.inj er').symm
    have hq1 : out.2 = h' := by rw [er2]
    rw [hq1] at hRc hRs
    refine sx_ofRunX (runX (by show 2 ≤ t + 2; omega) ⟨?_, ?_⟩) hS fun H1 locs1 q ce hP1 hS1 h1 h2 h3 => hThr t h' H1 locs1 _ _ la pc _ q ce er2 hP1 hS1 ?_ ?_ h1 h2 h3
    · show cells + (h'.2.2.1 - h.2.2.1) ≤ R.cells
      omega
    · show slots + (h'.2.2.2.1 - h.2.2.2.1) ≤ R.slots
      omega
    · show h0.2.2.1 + (cells + (h'.2.2.1 - h.2.2.1)) = h'.2.2.1
      omega
    · show h0.2.2.2.1 + (slots + (h'.2.2.2.1 - h.2.2.2.1)) = h'.2.2.2.1
      omega
end SN
