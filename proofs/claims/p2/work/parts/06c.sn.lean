section SN
variable {p : Program} {l : Launch} {e : Env} {R : Room} {s : State} {m : MethodId} {args : Array Value} {below : List Frame} {meth : Method} {c : Code} {Q : State → Prop}
variable {I : Type} {o : sx_O I} {g : I → Int32} {b scr L : Nat} {xs : Nat → Int32} {D : va_G} {h0 : sx_H I} {bs : ByteArray} {own : String} {full cs : List Nat} {x a k q : Nat} {ls : sx_L I} {st : List (sx_V I)} {h : sx_H I} {out : sx_R I} {go : sx_G I}
/-! new cells -/
theorem sx_dflt_ty (hk : ∀ n : Nat, g (o.1 n) = nI n) {t : Nat} (ht : t ≤ 2) : sx_c g b scr (sx_dflt o t) = defaultValue (sx_ty t) := by
  have h0z : g (o.1 0) = 0 := (hk 0).trans nI_0
  rcases (show t = 0 ∨ t = 1 ∨ t = 2 by omega) with rfl | rfl | rfl
  · show Value.int (g (o.1 0)) = .int 0
    rw [h0z]
  · show Value.int (g (o.1 0)) = .int 0
    rw [h0z]
  · show Value.long (g (o.1 0)).toInt64 = .long 0
    rw [h0z]; rfl
theorem sx_rd_tr {n j : Nat} (v : sx_V I) (hn : n ≤ 8192) (hj : j < n) : sx_rd (sx_tr 13 v) j = v := by
  unfold sx_rd
  rw [sx_tg_tr 13 j v (by show j < 8192; omega)]; rfl
theorem sx_Spush {H0 H H1 : Heap} {locs : List Loc} {A : Nat → Prop} (hS : va_S A H0 H locs) (z : H1.size = H.size + 1) (oq : ∀ q : Nat, q < H.size → H1[q]? = H[q]?) : va_S A H0 H1 locs :=
  ⟨Nat.le_trans hS.1 (by omega), fun q h1 h2 => (oq q (Nat.lt_of_lt_of_le h1 hS.1)).trans (hS.2.1 q h1 h2), hS.2.2⟩
theorem sn_newa (hx : p.tables.exec = Jvm.exec) (hb : c.code = bs) (hLw : sx_Law o g L xs) (hts : ∀ w ∈ sx_goods, w.before args s = true) (hRc : out.2.2.2.1 ≤ h0.2.2.1 + R.cells) (hRs : out.2.2.2.2.1 ≤ h0.2.2.2.1 + R.slots) (hmono : ∀ ls st h, go cs ls st h = some out → h.2.2.1 ≤ out.2.2.2.1 ∧ h.2.2.2.1 ≤ out.2.2.2.2.1) (ha : a ≤ 2) (hd : sx_dk bs (sx_xp x) (.newarray (sx_at a)) 2 = true) (hq : lw_tbl[q]? = some (Jvm.Cond.arrayClass (sx_ty a))) (hnx : sx_nx cs (sx_xp x + 2) = true) (hgo : ∀ ls st h, go cs ls st h = some out → sx_Cm p l e R s m args below meth c Q g b scr D h0 cs ls st h) (er : sh_newa o go a cs ls st h = some out) : sx_Cm p l e R s m args below meth c Q g b scr D h0 (x :: cs) ls st h := by
  unfold sh_newa at er
  split at er
  · next i r =>
    cases hex : h.2.2.2.2 with
    | false => rw [hex] at er; cases er
    | true =>
      rw [hex] at er
      dsimp only [cond] at er
      split at er
      · next n hn =>
        cases hcd : (Nat.ble n 8192 && Nat.ble (h.2.1 + 1) 1024) with
        | false => rw [hcd] at er; cases er
        | true =>
          rw [hcd] at er
          simp only [Bool.and_eq_true] at hcd
          have h1 : n ≤ 8192 := Nat.le_of_ble_eq_true hcd.1
          have h2 : h.2.1 + 1 ≤ 1024 := Nat.le_of_ble_eq_true hcd.2
          have hgi := hLw.2.2.2.1 _ _ hn
          have hn31 : n < 2 ^ 31 := by omega
          have hm : h.2.2.1 + 1 ≤ out.2.2.2.1 ∧ h.2.2.2.1 + n ≤ out.2.2.2.2.1 := hmono _ _ _ er
          intro H locs cells slots la pc hpc hl hP hS hc hs
          have hpc' : sx_xp x = pc := Option.some.inj hpc
          subst hpc'
          have hty : newarray.typeOf (sx_at a) = sx_ty a := by
            rcases (show a = 0 ∨ a = 1 ∨ a = 2 by omega) with rfl | rfl | rfl <;> rfl
          have hbytes : n * componentBytes (newarray.typeOf (sx_at a)) ≤ 536870912 := by
            rcases (show a = 0 ∨ a = 1 ∨ a = 2 by omega) with rfl | rfl | rfl
            · show n * 4 ≤ 536870912
              omega
            · show n * 1 ≤ 536870912
              omega
            · show n * 8 ≤ 536870912
              omega
          have harr : (Jvm.Cond.arrayClass (newarray.typeOf (sx_at a))).before args s = true := by rw [hty]; exact sx_wg hts hq rfl
          have hz := hP.2.2.1 hex
          refine va_newaK (atype := sx_at a) (N := n) (h := b + h.2.1) hx hb harr rfl (sx_dk_ok hd) rfl (by rw [hgi]; exact nI_pos hn31) (by rw [hgi]; exact nI_clamp hn31) hbytes (by omega) (by omega) hz fun H' cA e1 e2 e3 hArr hNm => ?_
          have hc' : sx_cell g b scr D s H' h.2.1 (.inr (a, (n, sx_tr 13 (sx_dflt o a)))) := by
            rw [hty] at hArr
            refine ⟨cA, ?_, hArr, ?_⟩
            · rw [e1]
              refine congrArg some (arrV_cong fun j hj => ?_)
              rw [sx_rd_tr _ h1 hj, sx_dflt_ty hLw.1 ha, hty]
            · rw [hty] at hNm
              rcases (show a = 0 ∨ a = 1 ∨ a = 2 by omega) with rfl | rfl | rfl <;> exact hNm
          exact hgo _ _ _ er H' locs _ _ la _ (sx_nx_pc hnx) hl (sx_Rep_push n hP hex h2 hc' (by omega) (fun q hq => e3 q (by omega))) (sx_Spush hS (by omega) (fun q hq => e3 q (by omega))) (by show h0.2.2.1 + (cells + 1) = h.2.2.1 + 1; omega) (by show h0.2.2.2.1 + (slots + n) = h.2.2.2.1 + n; omega)
      · cases er
  · cases er
theorem sx_cla_ok {pc : Nat} {C : String} {f : Nat → Instr} (h : sx_cla own bs pc q C f cs = true) : ∃ idx : Nat, lw_tbl[q]? = some (Jvm.Cond.classLink own idx C) ∧ decode bs pc = .ok (f idx, 3) ∧ sx_pc cs = some (pc + 3) := by
  unfold sx_cla at h
  split at h
  · next own' idx C' hq =>
    simp only [Bool.and_eq_true, decide_eq_true_eq] at h
    obtain ⟨h1, h2, h3, h4⟩ := h
    subst h1; subst h2
    exact ⟨idx, hq, sx_dk_ok h3, sx_nx_pc h4⟩
  · cases h
theorem sn_anew (hx : p.tables.exec = Jvm.exec) (hb : c.code = bs) (hLw : sx_Law o g L xs) (hown : s.vm.findClass own = some m.cls) (hts : ∀ w ∈ sx_goods, w.before args s = true) (hAO : va_AO RX4 s ∧ va_AO RX0 s) (hRc : out.2.2.2.1 ≤ h0.2.2.1 + R.cells) (hRs : out.2.2.2.2.1 ≤ h0.2.2.2.1 + R.slots) (hmono : ∀ ls st h, go cs ls st h = some out → h.2.2.1 ≤ out.2.2.2.1 ∧ h.2.2.2.1 ≤ out.2.2.2.2.1) (hok : sx_cla own bs (sx_xp x) q (cond (Nat.beq a 3) RX4 RX0) .anewarray cs = true) (hgo : ∀ ls st h, go cs ls st h = some out → sx_Cm p l e R s m args below meth c Q g b scr D h0 cs ls st h) (er : sh_anew o go a cs ls st h = some out) : sx_Cm p l e R s m args below meth c Q g b scr D h0 (x :: cs) ls st h := by
  obtain ⟨idx, hq, hd, hnx⟩ := sx_cla_ok hok
  unfold sh_anew at er
  split at er
  · next i r =>
    cases hex : h.2.2.2.2 with
    | false => rw [hex] at er; cases er
    | true =>
      rw [hex] at er
      dsimp only [cond] at er
      split at er
      · next n hn =>
        cases hcd : (Nat.ble n 8192 && (Nat.ble (h.2.1 + 1) 1024 && (Nat.beq a 3 || Nat.beq a 4))) with
        | false => rw [hcd] at er; cases er
        | true =>
          rw [hcd] at er
          simp only [Bool.and_eq_true, Bool.or_eq_true] at hcd
          obtain ⟨g1, g2, g3⟩ := hcd
          have h1 : n ≤ 8192 := Nat.le_of_ble_eq_true g1
          have h2 : h.2.1 + 1 ≤ 1024 := Nat.le_of_ble_eq_true g2
          have hgi := hLw.2.2.2.1 _ _ hn
          have hn31 : n < 2 ^ 31 := by omega
          have hm : h.2.2.1 + 1 ≤ out.2.2.2.1 ∧ h.2.2.2.1 + n ≤ out.2.2.2.2.1 := hmono _ _ _ er
          intro H locs cells slots la pc hpc hl hP hS hc hs
          have hpc' : sx_xp x = pc := Option.some.inj hpc
          subst hpc'
          have hz := hP.2.2.1 hex
          have hC : sx_ty a = .object (cond (Nat.beq a 3) RX4 RX0) ∧ va_AO (cond (Nat.beq a 3) RX4 RX0) s := by
            rcases g3 with g3 | g3
            · have e3 : a = 3 := Nat.eq_of_beq_eq_true g3
              subst e3
              exact ⟨rfl, hAO.1⟩
            · have e3 : a = 4 := Nat.eq_of_beq_eq_true g3
              subst e3
              exact ⟨rfl, hAO.2⟩
          generalize hCg : cond (Nat.beq a 3) RX4 RX0 = C at hC hq
          have hnc : (g i).toNatClampNeg = n := by rw [hgi]; exact nI_clamp hn31
          refine W.anew (C := C) hx hb hown (sx_wg hts hq rfl) (va_AO.use hC.2) rfl hd rfl (by rw [hgi]; exact nI_pos hn31) (by rw [hnc]; omega) (by omega) (by rw [hnc]; omega) fun cA kA comp f1 f2 f3 f4 => ?_
          rw [hnc]
          generalize hH1 : H.push ({ cls := cA, slots := Array.replicate n .null, vm := .none } : Cell) = H1
          have z1 : H1.size = H.size + 1 := by rw [← hH1, Array.size_push]
          have e1 : H1[H.size]? = some (arrV cA n (fun _ => .null)) := by rw [← hH1, Array.getElem?_push_size, ← arrV_new]
          have o1 : ∀ q : Nat, q < H.size → H1[q]? = H[q]? := fun q hq => by rw [← hH1, Array.getElem?_push, if_neg (Nat.ne_of_lt hq)]
          have hAr : ArrOfT s cA (.object C) := fun N z => ⟨(fun k h => by cases h), kA, f2, comp, f3⟩
          have hc' : sx_cell g b scr D s H1 h.2.1 (.inr (a, (n, sx_tr 13 none))) := by
            refine ⟨cA, ?_, by rw [hC.1]; exact hAr, by rw [hC.1]; exact ⟨kA, comp, f2, f3, f4, f1⟩⟩
            rw [← hz, e1]
            exact congrArg some (arrV_cong fun j hj => by rw [sx_rd_tr _ h1 hj]; rfl)
          have kk := hgo _ _ _ er H1 locs (cells + 1) (slots + n) la _ hnx hl (sx_Rep_push n hP hex h2 hc' z1 o1) (sx_Spush hS z1 o1) (by show h0.2.2.1 + (cells + 1) = h.2.2.1 + 1; omega) (by show h0.2.2.2.1 + (slots + n) = h.2.2.2.1 + n; omega)
          rw [hz]
          exact kk
      · cases er
  · cases er
/-- what a class's tables say of its making -/
theorem sx_mkc {ci : Nat} {r9 : vw_C} (hc : vwCl[ci]? = some r9) : Jvm.Cond.instantiable r9.1 r9.2.2 ∈ sx_goods ∧ Jvm.Cond.initialized r9.1 ∈ sx_goods ∧ (sx_nff ci).length = r9.2.2 ∧ sx_cln ci = r9.1 :=
  sx_cl8 (P := fun ci r9 => Jvm.Cond.instantiable r9.1 r9.2.2 ∈ sx_goods ∧ Jvm.Cond.initialized r9.1 ∈ sx_goods ∧ (sx_nff ci).length = r9.2.2 ∧ sx_cln ci = r9.1) ⟨by decide +kernel, by decide +kernel, rfl, rfl⟩ ⟨by decide +kernel, by decide +kernel, rfl, rfl⟩ ⟨by decide +kernel, by decide +kernel, rfl, rfl⟩ ⟨by decide +kernel, by decide +kernel, rfl, rfl⟩ ⟨by decide +kernel, by decide +kernel, rfl, rfl⟩ ⟨by decide +kernel, by decide +kernel, rfl, rfl⟩ ⟨by decide +kernel, by decide +kernel, rfl, rfl⟩ ⟨by decide +kernel, by decide +kernel, rfl, rfl⟩ ci r9 hc
noncomputable def sx_dv (t : Nat) : Value := match t with
  | 2 => .null
  | _ => .int 0
theorem sx_nfd {ci : Nat} {r9 : vw_C} (hc : vwCl[ci]? = some r9) : ∀ j, j < r9.2.2 → ∃ t, (sx_nff ci)[j]? = some t ∧ t ≤ 2 ∧ defaultValue (sx_fty ci j) = sx_dv t :=
  sx_cl8 (P := fun ci r9 => ∀ j, j < r9.2.2 → ∃ t, (sx_nff ci)[j]? = some t ∧ t ≤ 2 ∧ defaultValue (sx_fty ci j) = sx_dv t)
    (fun j hj => by match j, hj with
      | 0, _ => exact ⟨0, rfl, by decide, rfl⟩
      | 1, _ => exact ⟨0, rfl, by decide, rfl⟩
      | 2, _ => exact ⟨0, rfl, by decide, rfl⟩
      | 3, _ => exact ⟨2, rfl, by decide, rfl⟩
      | 4, _ => exact ⟨2, rfl, by decide, rfl⟩
      | 5, _ => exact ⟨2, rfl, by decide, rfl⟩
      | 6, _ => exact ⟨2, rfl, by decide, rfl⟩)
    (fun j hj => by match j, hj with
      | 0, _ => exact ⟨2, rfl, by decide, rfl⟩
      | 1, _ => exact ⟨2, rfl, by decide, rfl⟩
      | 2, _ => exact ⟨2, rfl, by decide, rfl⟩
      | 3, _ => exact ⟨2, rfl, by decide, rfl⟩)
    (fun j hj => by match j, hj with
      | 0, _ => exact ⟨2, rfl, by decide, rfl⟩
      | 1, _ => exact ⟨2, rfl, by decide, rfl⟩
      | 2, _ => exact ⟨2, rfl, by decide, rfl⟩
      | 3, _ => exact ⟨0, rfl, by decide, rfl⟩
      | 4, _ => exact ⟨2, rfl, by decide, rfl⟩)
    (fun j hj => by match j, hj with
      | 0, _ => exact ⟨0, rfl, by decide, rfl⟩
      | 1, _ => exact ⟨1, rfl, by decide, rfl⟩
      | 2, _ => exact ⟨1, rfl, by decide, rfl⟩
      | 3, _ => exact ⟨0, rfl, by decide, rfl⟩
      | 4, _ => exact ⟨0, rfl, by decide, rfl⟩
      | 5, _ => exact ⟨1, rfl, by decide, rfl⟩
      | 6, _ => exact ⟨1, rfl, by decide, rfl⟩)
    (fun j hj => by match j, hj with
      | 0, _ => exact ⟨1, rfl, by decide, rfl⟩
      | 1, _ => exact ⟨0, rfl, by decide, rfl⟩
      | 2, _ => exact ⟨0, rfl, by decide, rfl⟩
      | 3, _ => exact ⟨0, rfl, by decide, rfl⟩
      | 4, _ => exact ⟨1, rfl, by decide, rfl⟩
      | 5, _ => exact ⟨0, rfl, by decide, rfl⟩
      | 6, _ => exact ⟨2, rfl, by decide, rfl⟩
      | 7, _ => exact ⟨2, rfl, by decide, rfl⟩
      | 8, _ => exact ⟨2, rfl, by decide, rfl⟩
      | 9, _ => exact ⟨2, rfl, by decide, rfl⟩
      | 10, _ => exact ⟨2, rfl, by decide, rfl⟩)
    (fun j hj => by match j, hj with
      | 0, _ => exact ⟨2, rfl, by decide, rfl⟩
      | 1, _ => exact ⟨0, rfl, by decide, rfl⟩)
    (fun j hj => by match j, hj with
      | 0, _ => exact ⟨2, rfl, by decide, rfl⟩
      | 1, _ => exact ⟨2, rfl, by decide, rfl⟩
      | 2, _ => exact ⟨2, rfl, by decide, rfl⟩
      | 3, _ => exact ⟨0, rfl, by decide, rfl⟩
      | 4, _ => exact ⟨2, rfl, by decide, rfl⟩
      | 5, _ => exact ⟨2, rfl, by decide, rfl⟩
      | 6, _ => exact ⟨2, rfl, by decide, rfl⟩
      | 7, _ => exact ⟨0, rfl, by decide, rfl⟩
      | 8, _ => exact ⟨2, rfl, by decide, rfl⟩
      | 9, _ => exact ⟨2, rfl, by decide, rfl⟩
      | 10, _ => exact ⟨2, rfl, by decide, rfl⟩
      | 11, _ => exact ⟨2, rfl, by decide, rfl⟩
      | 12, _ => exact ⟨2, rfl, by decide, rfl⟩
      | 13, _ => exact ⟨2, rfl, by decide, rfl⟩
      | 14, _ => exact ⟨2, rfl, by decide, rfl⟩)
    (fun j hj => by match j, hj with
      | 0, _ => exact ⟨2, rfl, by decide, rfl⟩
      | 1, _ => exact ⟨2, rfl, by decide, rfl⟩
      | 2, _ => exact ⟨2, rfl, by decide, rfl⟩
      | 3, _ => exact ⟨2, rfl, by decide, rfl⟩
      | 4, _ => exact ⟨2, rfl, by decide, rfl⟩
      | 5, _ => exact ⟨2, rfl, by decide, rfl⟩
      | 6, _ => exact ⟨2, rfl, by decide, rfl⟩
      | 7, _ => exact ⟨2, rfl, by decide, rfl⟩
      | 8, _ => exact ⟨2, rfl, by decide, rfl⟩
      | 9, _ => exact ⟨2, rfl, by decide, rfl⟩
      | 10, _ => exact ⟨2, rfl, by decide, rfl⟩
      | 11, _ => exact ⟨2, rfl, by decide, rfl⟩
      | 12, _ => exact ⟨2, rfl, by decide, rfl⟩
      | 13, _ => exact ⟨0, rfl, by decide, rfl⟩
      | 14, _ => exact ⟨2, rfl, by decide, rfl⟩
      | 15, _ => exact ⟨2, rfl, by decide, rfl⟩
      | 16, _ => exact ⟨2, rfl, by decide, rfl⟩
      | 17, _ => exact ⟨2, rfl, by decide, rfl⟩
      | 18, _ => exact ⟨2, rfl, by decide, rfl⟩
      | 19, _ => exact ⟨0, rfl, by decide, rfl⟩
      | 20, _ => exact ⟨2, rfl, by decide, rfl⟩
      | 21, _ => exact ⟨2, rfl, by decide, rfl⟩
      | 22, _ => exact ⟨2, rfl, by decide, rfl⟩
      | 23, _ => exact ⟨0, rfl, by decide, rfl⟩
      | 24, _ => exact ⟨0, rfl, by decide, rfl⟩
      | 25, _ => exact ⟨2, rfl, by decide, rfl⟩
      | 26, _ => exact ⟨2, rfl, by decide, rfl⟩
      | 27, _ => exact ⟨2, rfl, by decide, rfl⟩
      | 28, _ => exact ⟨1, rfl, by decide, rfl⟩
      | 29, _ => exact ⟨2, rfl, by decide, rfl⟩
      | 30, _ => exact ⟨2, rfl, by decide, rfl⟩
      | 31, _ => exact ⟨0, rfl, by decide, rfl⟩
      | n + 32, hj => exact absurd (show n + 32 < 32 from hj) (by omega)) ci r9 hc
theorem sn_new (hx : p.tables.exec = Jvm.exec) (hb : c.code = bs) (hLw : sx_Law o g L xs) (hown : s.vm.findClass own = some m.cls) (hts : ∀ w ∈ sx_goods, w.before args s = true) (hK : va_K D vwCl [] s) (hRc : out.2.2.2.1 ≤ h0.2.2.1 + R.cells) (hRs : out.2.2.2.2.1 ≤ h0.2.2.2.1 + R.slots) (hmono : ∀ ls st h, go cs ls st h = some out → h.2.2.1 ≤ out.2.2.2.1 ∧ h.2.2.2.1 ≤ out.2.2.2.2.1) (ha : a ≤ 7) (hok : sx_cla own bs (sx_xp x) q (sx_cln a) .new cs = true) (hgo : ∀ ls st h, go cs ls st h = some out → sx_Cm p l e R s m args below meth c Q g b scr D h0 cs ls st h) (er : sh_new o go a cs ls st h = some out) : sx_Cm p l e R s m args below meth c Q g b scr D h0 (x :: cs) ls st h := by
  obtain ⟨idx, hq, hd, hnx⟩ := sx_cla_ok hok
  obtain ⟨r9, hc9⟩ : ∃ r9, vwCl[a]? = some r9 := by
    rcases (show a = 0 ∨ a = 1 ∨ a = 2 ∨ a = 3 ∨ a = 4 ∨ a = 5 ∨ a = 6 ∨ a = 7 by omega) with rfl | rfl | rfl | rfl | rfl | rfl | rfl | rfl <;> exact ⟨_, rfl⟩
  obtain ⟨w1, w2, hlen, hcn⟩ := sx_mkc hc9
  rw [hcn] at hq
  unfold sh_new at er
  cases hcd : (h.2.2.2.2 && Nat.ble (h.2.1 + 1) 1024) with
  | false => rw [hcd] at er; cases er
  | true =>
    rw [hcd] at er
    simp only [Bool.and_eq_true] at hcd
    obtain ⟨hex, g2⟩ := hcd
    have h2 : h.2.1 + 1 ≤ 1024 := Nat.le_of_ble_eq_true g2
    have hm : h.2.2.1 + 1 ≤ out.2.2.2.1 ∧ h.2.2.2.1 + (sx_nff a).length ≤ out.2.2.2.2.1 := hmono _ _ _ er
    intro H locs cells slots la pc hpc hl hP hS hc hs
    have hpc' : sx_xp x = pc := Option.some.inj hpc
    subst hpc'
    have hz := hP.2.2.1 hex
    have hKn := hK.1 a _ hc9
    refine W.newcK (C := r9.1) (n := r9.2.2) (h := b + h.2.1) hx hb hown (sx_wg hts hq rfl) (hts _ w1) (hts _ w2) rfl hd (by omega) (by omega) hKn.2.1 hz fun H1 kC hkC e1 z1 o1 => ?_
    have hc' : sx_cell g b scr D s H1 h.2.1 (.inl (a, (sx_nff a).map (sx_fd o))) := by
      refine ⟨_, hc9, (u_born (sx_fty a) hts (sx_uws hc9) hKn hkC e1 (sx_ftyok hc9)).to fun j hj => ?_⟩
      obtain ⟨t, ht, ht2, hdv⟩ := sx_nfd hc9 j hj
      have h0z : g (o.1 0) = 0 := (hLw.1 0).trans nI_0
      have e9 : vp_V (((sx_nff a).map (sx_fd o)).map (sx_c g b scr)) j = sx_c g b scr (sx_fd o t) := by
        simp [vp_V, List.getD_eq_getElem?_getD, ht]
      show defaultValue (sx_fty a j) = vp_V (((sx_nff a).map (sx_fd o)).map (sx_c g b scr)) j
      rw [hdv, e9]
      rcases (show t = 0 ∨ t = 1 ∨ t = 2 by omega) with rfl | rfl | rfl
      · show Value.int 0 = .int (g (o.1 0))
        rw [h0z]
      · show Value.int 0 = .int (g (o.1 0))
        rw [h0z]
      · rfl
    exact hgo _ _ _ er H1 locs _ _ la _ hnx hl (sx_Rep_push _ hP hex h2 hc' (by omega) (fun q hq => o1 q (by omega))) (sx_Spush hS (by omega) (fun q hq => o1 q (by omega))) (by show h0.2.2.1 + (cells + 1) = h.2.2.1 + 1; omega) (by show h0.2.2.2.1 + (slots + r9.2.2) = h.2.2.2.1 + (sx_nff a).length; omega)
/-! calls of the JDK's own methods; a static array's clone; the law's switch -/
theorem sx_jdk_ok {pc fr lo f9 l9 : Nat} {y : MethodName} {f : Nat → Instr} (h : sx_jdk own bs pc fr lo f9 l9 q y f cs = true) : ∃ idx : Nat, lw_tbl[q]? = some (Jvm.Cond.methodLink own idx y) ∧ f9 ≤ fr ∧ l9 ≤ lo ∧ decode bs pc = .ok (f idx, 3) ∧ sx_pc cs = some (pc + 3) := by
  unfold sx_jdk at h
  split at h
  · next own' idx y' hq =>
    simp only [Bool.and_eq_true, decide_eq_true_eq] at h
    obtain ⟨h1, h2, h3, h4, h5, h6⟩ := h
    subst h1; subst h2
    exact ⟨idx, hq, Nat.le_of_ble_eq_true h3, Nat.le_of_ble_eq_true h4, sx_dk_ok h5, sx_nx_pc h6⟩
  · cases h
theorem sx_w_obj : Jvm.Cond.instanceMethod Lib.objectInit ∈ sx_goods ∧ Jvm.Cond.code Lib.objectInit ⟨#[0xb1]⟩ 1 none ∈ sx_goods := ⟨by decide +kernel, by decide +kernel⟩
theorem sx_w_max : Jvm.Cond.static Lib.Math.max.name ∈ sx_goods ∧ Jvm.Cond.code Lib.Math.max.name Lib.Math.max.code 2 (some .int) ∈ sx_goods := ⟨by decide +kernel, by decide +kernel⟩
theorem sx_w_min : Jvm.Cond.static Lib.Math.min.name ∈ sx_goods ∧ Jvm.Cond.code Lib.Math.min.name Lib.Math.min.code 2 (some .int) ∈ sx_goods := ⟨by decide +kernel, by decide +kernel⟩
theorem sx_w_math : Jvm.Cond.initialized "java/lang/Math" ∈ sx_goods := by decide +kernel
theorem sn_obj (hx : p.tables.exec = Jvm.exec) (hb : c.code = bs) (hown : s.vm.findClass own = some m.cls) (hts : ∀ w ∈ sx_goods, w.before args s = true) {fr lo : Nat} (hRf : fr ≤ R.frames) (hRl : lo ≤ R.locals) (hok : sx_jdk own bs (sx_xp x) fr lo 1 20 q Lib.objectInit .invokespecial cs = true) (hgo : ∀ ls st h, go cs ls st h = some out → sx_Cm p l e R s m args below meth c Q g b scr D h0 cs ls st h) (er : sh_obj go cs ls st h = some out) : sx_Cm p l e R s m args below meth c Q g b scr D h0 (x :: cs) ls st h := by
  obtain ⟨idx, hq, h1, h2, hd, hnx⟩ := sx_jdk_ok hok
  unfold sh_obj at er
  split at er
  · next k9 r =>
    cases hcd : Nat.ble (sx_sw r) 8 with
    | false => rw [hcd] at er; cases er
    | true =>
      rw [hcd] at er
      have h8 : sx_sw r ≤ 8 := Nat.le_of_ble_eq_true hcd
      intro H locs cells slots la pc hpc hl hP hS hc hs
      have hpc' : sx_xp x = pc := Option.some.inj hpc
      subst hpc'
      exact W.objInit (a := b + k9) (rest := r.map (sx_c g b scr)) (g := F0 m (sx_xp x) la (.ref (b + k9) :: r.map (sx_c g b scr))) hx hb hown (sx_wg hts hq rfl) (hts _ sx_w_obj.1) (hts _ sx_w_obj.2) rfl hl.1 rfl hd (by omega) (by show 2 * 0 + _ + 12 ≤ R.locals; rw [sx_sw_sum]; omega) (hgo _ _ _ er H locs cells slots la _ hnx hl hP hS hc hs)
  · cases er
theorem sn_max (hx : p.tables.exec = Jvm.exec) (hb : c.code = bs) (hLw : sx_Law o g L xs) (hown : s.vm.findClass own = some m.cls) (hts : ∀ w ∈ sx_goods, w.before args s = true) {fr lo : Nat} (hRf : fr ≤ R.frames) (hRl : lo ≤ R.locals) (hRc : out.2.2.2.1 ≤ h0.2.2.1 + R.cells) (hRs : out.2.2.2.2.1 ≤ h0.2.2.2.1 + R.slots) (hmono : ∀ ls st h, go cs ls st h = some out → h.2.2.1 ≤ out.2.2.2.1 ∧ h.2.2.2.1 ≤ out.2.2.2.2.1) (hok : sx_jdk own bs (sx_xp x) fr lo 1 21 q Lib.Math.max.name .invokestatic cs = true) (hgo : ∀ ls st h, go cs ls st h = some out → sx_Cm p l e R s m args below meth c Q g b scr D h0 cs ls st h) (er : sh_max o go cs ls st h = some out) : sx_Cm p l e R s m args below meth c Q g b scr D h0 (x :: cs) ls st h := by
  obtain ⟨idx, hq, h1, h2, hd, hnx⟩ := sx_jdk_ok hok
  unfold sh_max at er
  split at er
  · next j i r =>
    cases hcd : Nat.ble (sx_sw r) 8 with
    | false => rw [hcd] at er; cases er
    | true =>
      rw [hcd] at er
      have h8 : sx_sw r ≤ 8 := Nat.le_of_ble_eq_true hcd
      dsimp only [cond] at er
      have kk : ∀ v : I, go cs ls (some (.inl v) :: r) h = some out → g v = (if g i < g j then g j else g i) → sx_Cm p l e R s m args below meth c Q g b scr D h0 (x :: cs) ls (some (.inl j) :: some (.inl i) :: r) h := fun v er' hv => by
        have hm := hmono _ _ _ er'
        intro H locs cells slots la pc hpc hl hP hS hc hs
        have hpc' : sx_xp x = pc := Option.some.inj hpc
        subst hpc'
        have kk' : W p l e R s m args below meth c H locs cells slots Q (F0 m (sx_xp x + 3) la (.int (g v) :: r.map (sx_c g b scr))) := hgo _ _ _ er' H locs cells slots la _ hnx hl hP hS hc hs
        rw [hv] at kk'
        exact va_mmax (x := g i) (y := g j) hx hb hl.1.symm hown (sx_wg hts hq rfl) (hts _ sx_w_max.1) (hts _ sx_w_math) (hts _ sx_w_max.2) (by omega) (by rw [sx_sw_sum]; omega) (by omega) (by omega) hd kk'
      split at er
      · next ht =>
        have h3 : g i < g j := (hLw.2.2.1 2 _ _ _ ht).mp rfl
        exact kk j er (by rw [if_pos h3])
      · next ht =>
        have h3 : ¬ g i < g j := fun q => by have := (hLw.2.2.1 2 _ _ _ ht).mpr q; cases this
        exact kk i er (by rw [if_neg h3])
      · cases er
  · cases er
theorem sn_min (hx : p.tables.exec = Jvm.exec) (hb : c.code = bs) (hLw : sx_Law o g L xs) (hown : s.vm.findClass own = some m.cls) (hts : ∀ w ∈ sx_goods, w.before args s = true) {fr lo : Nat} (hRf : fr ≤ R.frames) (hRl : lo ≤ R.locals) (hRc : out.2.2.2.1 ≤ h0.2.2.1 + R.cells) (hRs : out.2.2.2.2.1 ≤ h0.2.2.2.1 + R.slots) (hmono : ∀ ls st h, go cs ls st h = some out → h.2.2.1 ≤ out.2.2.2.1 ∧ h.2.2.2.1 ≤ out.2.2.2.2.1) (hok : sx_jdk own bs (sx_xp x) fr lo 1 21 q Lib.Math.min.name .invokestatic cs = true) (hgo : ∀ ls st h, go cs ls st h = some out → sx_Cm p l e R s m args below meth c Q g b scr D h0 cs ls st h) (er : sh_min o go cs ls st h = some out) : sx_Cm p l e R s m args below meth c Q g b scr D h0 (x :: cs) ls st h := by
  obtain ⟨idx, hq, h1, h2, hd, hnx⟩ := sx_jdk_ok hok
  unfold sh_min at er
  split at er
  · next j i r =>
    cases hcd : Nat.ble (sx_sw r) 8 with
    | false => rw [hcd] at er; cases er
    | true =>
      rw [hcd] at er
      have h8 : sx_sw r ≤ 8 := Nat.le_of_ble_eq_true hcd
      dsimp only [cond] at er
      have kk : ∀ v : I, go cs ls (some (.inl v) :: r) h = some out → g v = (if g j < g i then g j else g i) → sx_Cm p l e R s m args below meth c Q g b scr D h0 (x :: cs) ls (some (.inl j) :: some (.inl i) :: r) h := fun v er' hv => by
        have hm := hmono _ _ _ er'
        intro H locs cells slots la pc hpc hl hP hS hc hs
        have hpc' : sx_xp x = pc := Option.some.inj hpc
        subst hpc'
        have kk' : W p l e R s m args below meth c H locs cells slots Q (F0 m (sx_xp x + 3) la (.int (g v) :: r.map (sx_c g b scr))) := hgo _ _ _ er' H locs cells slots la _ hnx hl hP hS hc hs
        rw [hv] at kk'
        exact va_mmin (x := g i) (y := g j) hx hb hl.1.symm hown (sx_wg hts hq rfl) (hts _ sx_w_min.1) (hts _ sx_w_math) (hts _ sx_w_min.2) (by omega) (by rw [sx_sw_sum]; omega) (by omega) (by omega) hd kk'
      split at er
      · next ht =>
        have h3 : g i < g j := (hLw.2.2.1 2 _ _ _ ht).mp rfl
        exact kk i er (by rw [if_neg (fun q => by rw [Int32.lt_iff_toInt_lt] at q h3; omega)])
      · next ht =>
        have h3 : ¬ g i < g j := fun q => by have := (hLw.2.2.1 2 _ _ _ ht).mpr q; cases this
        refine kk j er ?_
        by_cases h4 : g j < g i
        · rw [if_pos h4]
        · rw [if_neg h4]
          apply Int32.toInt_inj.mp
          rw [Int32.lt_iff_toInt_lt] at h3 h4
          omega
      · cases er
  · cases er
theorem sn_switch (hx : p.tables.exec = Jvm.exec) (hb : c.code = bs) (hLw : sx_Law o g L xs) {t9 c9 : Nat} (ha : a < 2 ^ 30) (hok : sx_swi bs (sx_xp x) full a t9 c9 = true) (hgj : ∀ b9 ls st h, go (full.drop b9) ls st h = some out → sx_Cm p l e R s m args below meth c Q g b scr D h0 (full.drop b9) ls st h) (er : sh_switch o go full a t9 c9 ls st h = some out) : sx_Cm p l e R s m args below meth c Q g b scr D h0 (x :: cs) ls st h := by
  unfold sx_swi at hok
  split at hok
  · next d lo9 hh offs len hdec =>
    simp only [Bool.and_eq_true, decide_eq_true_eq] at hok
    obtain ⟨h1, h2, h3, h4⟩ := hok
    subst h1; subst h2
    unfold sh_switch at er
    split at er
    · next i r =>
      split at er
      · next n hn =>
        have hgi := hLw.2.2.2.1 _ _ hn
        intro H locs cells slots la pc hpc hl hP hS hc hs
        have hpc' : sx_xp x = pc := Option.some.inj hpc
        subst hpc'
        show W p l e R s m args below meth c H locs cells slots Q (F0 m (sx_xp x) la (.int (g i) :: r.map (sx_c g b scr)))
        cases hcd : Nat.ble (n + 1) a with
        | true =>
          rw [hcd] at er
          dsimp only [cond] at er
          have hna : n < a := Nat.le_of_ble_eq_true hcd
          have hti : (g i).toInt = (n : Int) := by rw [hgi]; exact nI_toInt (by omega)
          have h5 := List.all_eq_true.mp h4 n (List.mem_range.mpr hna)
          split at h5
          · next t ht =>
            have h6 := of_decide_eq_true h5
            exact lv_tableIn (tgt := t) hx hb hdec (by rw [hti]; omega) (by rw [hti]; omega) (by rw [hti]; simpa using h6) (by omega) (hgj _ _ _ _ er H locs cells slots la _ ht hl hP hS hc hs)
          · cases h5
        | false =>
          rw [hcd] at er
          dsimp only [cond] at er
          cases hcd2 : Nat.ble (n + 1) 2147483648 with
          | false => rw [hcd2] at er; cases er
          | true =>
            rw [hcd2] at er
            dsimp only [cond] at er
            have hna : ¬ n < a := fun q => by rw [show Nat.ble (n + 1) a = true from Nat.ble_eq_true_of_le q] at hcd; cases hcd
            have hn31 : n + 1 ≤ 2147483648 := Nat.le_of_ble_eq_true hcd2
            have hti : (g i).toInt = (n : Int) := by rw [hgi]; exact nI_toInt (by omega)
            split at h3
            · next t ht =>
              have h6 := of_decide_eq_true h3
              exact lv_tableOut (tgt := t) hx hb hdec (Or.inr (by rw [hti]; omega)) h6 (hgj _ _ _ _ er H locs cells slots la _ ht hl hP hS hc hs)
            · cases h3
      · cases er
    · cases er
  · cases hok
theorem sx_w_clo : Jvm.Cond.methodLink RX1 13 ⟨"[I", "clone", "()Ljava/lang/Object;"⟩ ∈ sx_goods ∧ Jvm.Cond.sameMethod "[I" "java/lang/Object" "clone" "()Ljava/lang/Object;" ∈ sx_goods ∧ Jvm.Cond.native ⟨"java/lang/Object", "clone", "()Ljava/lang/Object;"⟩ ∈ sx_goods ∧ Jvm.Cond.instanceMethod ⟨"java/lang/Object", "clone", "()Ljava/lang/Object;"⟩ ∈ sx_goods ∧ Jvm.Cond.selects "[I" ⟨"[I", "clone", "()Ljava/lang/Object;"⟩ ⟨"java/lang/Object", "clone", "()Ljava/lang/Object;"⟩ ∈ sx_goods ∧ Jvm.Cond.classLink RX1 14 "[I" ∈ sx_goods := ⟨by decide +kernel, by decide +kernel, by decide +kernel, by decide +kernel, by decide +kernel, by decide +kernel⟩
theorem sx_w_cln : Jvm.Cond.castable "[I" "java/lang/Cloneable" ∈ sx_ng := by decide +kernel
theorem sx_lay_ne {A : Type} (vs : List A) : ∀ (i q : Nat) (t : sx_T A 13), q < i → sx_tg 13 (sx_lay 13 i vs t) q = sx_tg 13 t q := by
  induction vs with
  | nil => intro i q t _; rfl
  | cons v vs ih =>
    intro i q t h
    show sx_tg 13 (sx_lay 13 (i + 1) vs (sx_ts 13 t i v)) q = _
    rw [ih (i + 1) q _ (by omega), sx_tg_ne 13 t i q v (by omega)]
theorem sx_lay_at {A : Type} (vs : List A) : ∀ (i j : Nat) (v : A) (t : sx_T A 13), i + vs.length ≤ 8192 → vs[j]? = some v → sx_tg 13 (sx_lay 13 i vs t) (i + j) = some v := by
  induction vs with
  | nil => intro i j v t _ h; simp at h
  | cons w vs ih =>
    intro i j v t hl h
    show sx_tg 13 (sx_lay 13 (i + 1) vs (sx_ts 13 t i w)) (i + j) = _
    simp only [List.length_cons] at hl
    cases j with
    | zero =>
      cases h
      show sx_tg 13 (sx_lay 13 (i + 1) vs (sx_ts 13 t i w)) i = some w
      rw [sx_lay_ne vs (i + 1) i _ (by omega)]
      obtain ⟨z, hz⟩ := sx_tg_some 13 t i (by show i < 8192; omega)
      exact sx_tg_same 13 t i z w hz
    | succ j =>
      rw [show i + (j + 1) = i + 1 + j by omega]
      exact ih (i + 1) j v _ (by omega) h
theorem sx_sv_len (a : Nat) : (sx_sv a).length = 18 := by
  unfold sx_sv
  split <;> rfl
theorem sn_clone (hx : p.tables.exec = Jvm.exec) (hb : c.code = bs) (hLw : sx_Law o g L xs) (hown : s.vm.findClass own = some m.cls) (hts : ∀ w ∈ sx_goods, w.before args s = true) (hKK : sx_KK b scr L xs D s) {fr lo b9 : Nat} (hRf : fr ≤ R.frames) (hRl : lo ≤ R.locals) (hRc : out.2.2.2.1 ≤ h0.2.2.1 + R.cells) (hRs : out.2.2.2.2.1 ≤ h0.2.2.2.1 + R.slots) (hmono : ∀ ls st h, go cs ls st h = some out → h.2.2.1 ≤ out.2.2.2.1 ∧ h.2.2.2.1 ≤ out.2.2.2.2.1) (hok : sx_clo own bs (sx_xp x) fr lo a b9 q cs = true) (hgo : ∀ ls st h, go cs ls st h = some out → sx_Cm p l e R s m args below meth c Q g b scr D h0 cs ls st h) (er : sh_clone o go a cs ls st h = some out) : sx_Cm p l e R s m args below meth c Q g b scr D h0 (x :: cs) ls st h := by
  unfold sx_clo at hok
  split at hok
  · next own' idx ref name desc host hq =>
    simp only [Bool.and_eq_true, decide_eq_true_eq] at hok
    obtain ⟨e1, e2, e3, e4, e5, e6, h7, h8, h9, h10, h11, h12⟩ := hok
    subst e1; subst e2; subst e3; subst e4; subst e5; subst e6
    have h7' := Nat.le_of_ble_eq_true h7
    have h8' := Nat.le_of_ble_eq_true h8
    obtain ⟨hK, hng, -, -, -, -, ⟨hs0, hs1⟩, -, hbs⟩ := hKK
    have hSt : ∃ a9, sx_sv a9 = sx_sv a ∧ sx_fn a9 = sx_fn a ∧ sx_Sta b a9 s := by
      cases a with
      | zero => exact ⟨0, rfl, rfl, hs0⟩
      | succ n => exact ⟨1, rfl, rfl, hs1⟩
    obtain ⟨a9, f1, f2, t, cell0, hZ, hcell0, hno0, hun0, hArr, hRA, hsl0, htb⟩ := hSt
    generalize hcA : cell0.cls = cA at hArr hRA hsl0
    rw [f2] at hZ
    unfold sh_clone at er
    cases hcd : (h.2.2.2.2 && (Nat.ble (h.2.1 + 1) 1024 && Nat.ble (sx_sw st) 8)) with
    | false => rw [hcd] at er; cases er
    | true =>
      rw [hcd] at er
      dsimp only [cond] at er
      simp only [Bool.and_eq_true] at hcd
      obtain ⟨hex, g2, g3⟩ := hcd
      have h2 : h.2.1 + 1 ≤ 1024 := Nat.le_of_ble_eq_true g2
      have h3 : sx_sw st ≤ 8 := Nat.le_of_ble_eq_true g3
      have hm : h.2.2.1 + 1 ≤ out.2.2.2.1 ∧ h.2.2.2.1 + 18 ≤ out.2.2.2.2.1 := hmono _ _ _ er
      intro H locs cells slots la pc hpc hl hP hS hc hs
      have hpc' : sx_xp x = pc := Option.some.inj hpc
      subst hpc'
      have hz := hP.2.2.1 hex
      refine va_getsN (A := fun q => b ≤ q) hx hb hZ hS hown (va_Nw.use rfl (sx_wn hng hq rfl)) (fun _ h9 => h9) (sx_dk_ok h9) ?_
      have hHt : H[t]? = some cell0 := by rw [hS.2.1 t (Nat.lt_of_lt_of_le htb hbs) (Nat.not_le.mpr htb)]; exact hcell0
      have hnm : s.vm.findClass "[I" = some cA := hRA
      obtain ⟨c0, t0', k1, k2, k3⟩ := Jvm.Cond.castable_spec (va_Nw.use (A := args) rfl (hng _ sx_w_cln))
      cases hnm.symm.trans k1
      generalize hH1 : H.push (arrV cA 18 (fun j => .int (nI ((sx_sv a9).getD j 0)))) = H1
      have z1 : H1.size = H.size + 1 := by rw [← hH1, Array.size_push]
      have e1 : H1[H.size]? = some (arrV cA 18 (fun j => .int (nI ((sx_sv a9).getD j 0)))) := by rw [← hH1, Array.getElem?_push_size]
      have o1 : ∀ q : Nat, q < H.size → H1[q]? = H[q]? := fun q hq => by rw [← hH1, Array.getElem?_push, if_neg (Nat.ne_of_lt hq)]
      have hc' : sx_cell g b scr D s H1 h.2.1 (.inr (0, (18, sx_lay 13 0 ((sx_sv a).map (fun n => some (.inl (o.1 n)))) (sx_tr 13 (some (.inl (o.1 0))))))) := by
        refine ⟨cA, ?_, hArr, hRA⟩
        rw [← hz, e1]
        refine congrArg some (arrV_cong fun j hj => ?_)
        have hlen := sx_sv_len a
        obtain ⟨n, hn⟩ : ∃ n, (sx_sv a)[j]? = some n := ⟨_, List.getElem?_eq_getElem (by omega)⟩
        have h5 := sx_lay_at ((sx_sv a).map (fun n => (some (.inl (o.1 n)) : sx_V I))) 0 j (some (.inl (o.1 n))) (sx_tr 13 (some (.inl (o.1 0)))) (by rw [List.length_map]; omega) (by rw [List.getElem?_map, hn]; rfl)
        rw [Nat.zero_add] at h5
        rw [sx_rd_of h5]
        show Value.int _ = .int (g (o.1 n))
        rw [hLw.1, f1, List.getD_eq_getElem?_getD, hn]; rfl
      have kk : W p l e R s m args below meth c H1 locs (cells + 1) (slots + 18) Q (F0 m (sx_xp x + 9) la (.ref (b + h.2.1) :: st.map (sx_c g b scr))) := hgo _ _ _ er H1 locs (cells + 1) (slots + 18) la _ (sx_nx_pc h12) hl (sx_Rep_push 18 hP hex h2 hc' z1 o1) (sx_Spush hS z1 o1) (by show h0.2.2.1 + (cells + 1) = h.2.2.1 + 1; omega) (by show h0.2.2.2.1 + (slots + 18) = h.2.2.2.1 + 18; omega)
      have kk2 : W p l e R s m args below meth c H1 locs (cells + 1) (slots + 18) Q (F0 m (sx_xp x + 6) la (.ref (b + h.2.1) :: st.map (sx_c g b scr))) := by
        refine va_castA (D := D) (cl := vwCl) (ws := [(b + h.2.1, .inl (cA, (18, .inl (fun j => nI ((sx_sv a9).getD j 0)))))]) hx hb hown (hts _ sx_w_clo.2.2.2.2.2) (sx_P1 (by show H1[b + h.2.1]? = _; rw [← hz, e1]; rfl)) 0 rfl hnm (sx_dk_ok h11) kk
      intro T hT X
      have hcellT : T.heap[t]? = some cell0 := by rw [hT]; exact hHt
      obtain ⟨-, kA, hkA, comp, hkind⟩ := State.isArrayOf_alike X.warmed.alike (hArr 0 (fun _ => .null))
      obtain ⟨-, kS, hkS, compS, hkindS⟩ := hArr 0 (fun _ => .null)
      obtain ⟨vm', X', stp⟩ := X.cloneArray hx hown (hts _ sx_w_clo.1) (hts _ sx_w_clo.2.1) (hts _ sx_w_clo.2.2.1) (hts _ sx_w_clo.2.2.2.1) (hts _ sx_w_clo.2.2.2.2.1) (a := t) (cell := cell0) hcellT hno0 hun0 (by rw [hcA]; exact hnm) k2 (by rw [hcA]; exact k3)
        (fun i v hv => by
          rw [hcA]
          rw [hsl0] at hv
          have hi : i < 18 := by
            have := (Array.getElem?_eq_some_iff.mp hv).1
            rwa [arrV_size] at this
          rw [arrV_read _ _ hi] at hv
          cases hv
          have hk' : T.vm.classes[cA]? = some kA := hkA
          show T.fitsSlot cA .none i (.int _) = true
          simp [State.fitsSlot, State.slotType?, hk', hkind, fits])
        (g := F0 m (sx_xp x + 3) la (.ref t :: st.map (sx_c g b scr))) rfl hl.1 rfl (by rw [hb]; exact sx_dk_ok h10) (by omega) (by show 2 * 0 + _ + 14 ≤ _; rw [sx_sw_sum]; omega) (by omega) (by rw [hsl0, arrV_size]; omega) (hloader := by rw [hcA]; exact Vm.clonesLoader_of_array hkS hkindS)
      have hce : ({ cls := cell0.cls, slots := cell0.slots } : Cell) = arrV cA 18 (fun j => .int (nI ((sx_sv a9).getD j 0))) := by rw [hcA, hsl0]; rfl
      rw [hce, hsl0, arrV_size] at X'
      rw [hce] at stp
      obtain ⟨t2, b1, b2⟩ := kk2 ((T.setVm vm').pushCell (arrV cA 18 (fun j => .int (nI ((sx_sv a9).getD j 0))))) (by rw [← hH1, ← hT]; rfl) X'
      refine ⟨t2, stp t2 ?_, b2⟩
      rw [← hz] at b1
      rw [hT]
      exact b1
  · cases hok
end SN
