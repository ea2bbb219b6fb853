/-! ===== copying, reverting, receiving, the rules ===== -/
theorem dsm_pre {a b : List Int} : ∀ i : Nat, i ≤ a.length → dsm (a ++ b) i = dsm a i
  | 0, _ => rfl
  | i + 1, h => by
    rw [dsm_step, dsm_step, dsm_pre i (by omega), List.getD_eq_getElem?_getD, List.getD_eq_getElem?_getD, List.getElem?_append_left (by omega)]
theorem dsm_app {a b : List Int} : ∀ i : Nat, dsm (a ++ b) (a.length + i) = dsm a a.length + dsm b i
  | 0 => by
    rw [Nat.add_zero, dsm_pre _ (Nat.le_refl _)]
    show _ = dsm a a.length + 0
    omega
  | i + 1 => by
    rw [show a.length + (i + 1) = a.length + i + 1 by omega, dsm_step, dsm_step, dsm_app i, List.getD_eq_getElem?_getD, List.getD_eq_getElem?_getD, List.getElem?_append_right (by omega), show a.length + i - a.length = i by omega]
    omega
theorem dsm_T {a b : List Int} : dsm (a ++ b) (a ++ b).length = dsm a a.length + dsm b b.length := by
  rw [List.length_append]
  exact dsm_app b.length
theorem dsm_one {x : Int} : dsm [x] [x].length = dch x := by
  show 0 + dch x = dch x
  omega
theorem dsm_all1 : ∀ {l : List Int}, (∀ x ∈ l, isO x) → dsm l l.length = (l.length : Int)
  | [], _ => rfl
  | x :: r, h => by
    have e : x :: r = [x] ++ r := rfl
    have hx := h x List.mem_cons_self
    have hd : dch x = 1 := by unfold dch; rw [if_neg (by omega), if_pos hx]
    rw [e, dsm_T, dsm_one, dsm_all1 (fun y hy => h y (List.mem_cons_of_mem _ hy)), hd, List.length_append]
    simp only [List.length_cons, List.length_nil]
    omega
theorem dsm_rep : ∀ n : Nat, dsm (List.replicate n 0) (List.replicate n (0 : Int)).length = -(n : Int)
  | 0 => rfl
  | n + 1 => by
    rw [rep_snoc, dsm_T, dsm_rep n, dsm_one]
    show -(n : Int) + (-1) = _
    omega
theorem dsm_slc {l : List Int} {f : Int} (h0 : 0 ≤ f) : ∀ (n : Nat), f + (n : Int) ≤ (l.length : Int) → dsm (slc l f (f + (n : Int))) (slc l f (f + (n : Int))).length = dsm l (f + (n : Int)).toNat - dsm l f.toNat
  | 0, _ => by
    rw [slc_nil (by omega)]
    show (0 : Int) = _
    rw [show (f + ((0 : Nat) : Int)) = f by omega]
    omega
  | n + 1, h => by
    have h1 := dsm_slc (l := l) h0 n (by omega)
    rw [show f + ((n + 1 : Nat) : Int) = f + (n : Int) + 1 by omega, slc_snoc (by omega), dsm_T, h1, dsm_one, dsm_atL (i := f + (n : Int)) (by omega) (by omega)]
    omega
theorem ops_O : ∀ (l stk : List Int), (∀ y ∈ stk, isO y) → ∀ y ∈ l.foldl ops stk, isO y
  | [], _, h => h
  | x :: r, stk, h => ops_O r (ops stk x) (fun y hy => by
    unfold ops at hy
    split at hy
    · next hx =>
      rcases List.mem_cons.mp hy with rfl | hy
      · exact hx
      · exact h y hy
    · split at hy
      · exact h y (List.mem_of_mem_tail hy)
      · exact h y hy)
theorem opn_O {l : List Int} : ∀ y ∈ opn l, isO y := ops_O l [] (fun y hy => by cases hy)
theorem dsm_cpV {l : List Int} {f t : Int} (hB : Bal l) (h0 : 0 ≤ f) (h1 : f < t) (h2 : t ≤ (l.length : Int)) : dsm (cpV l f t) (cpV l f t).length = 0 := by
  obtain ⟨b1, b2, b3, b4, b5⟩ := cp_b hB h0 h1 h2
  have hl := opn_len hB.1 f.toNat (by omega)
  unfold cpV
  rw [dsm_T, dsm_T, dsm_rep, dsm_all1 (fun y hy => opn_O y (List.mem_of_mem_take (List.mem_reverse.mp hy))), List.length_reverse, List.length_take]
  have hs := dsm_slc (l := l) h0 (t - f).toNat (by omega)
  rw [show f + ((t - f).toNat : Int) = t by omega] at hs
  rw [hs]
  omega
theorem CB_cp {x f t : Int} {B B' : mem} (hB : CB B) (h : CpM x f t B B') : CB B' ∧ B' 856 13 = B 856 13 ∧ fr hi B B' := by
  rcases h with ⟨⟨⟨h0, h3⟩, f0, ft, tn⟩, m1, g, m2⟩ | ⟨-, m1, g⟩
  · have g9 : ∀ (q : Nat) (j : Int), q = 857 ∨ q = 858 ∨ (q = 856 ∧ j = 13) → B' q j = B q j := fun q j hq => g q j (fun e => by
      rcases e with (e | e) | e
      · rcases e with e | e | e | e | e | e <;> omega
      · omega
      · omega)
    have e7 : B' 857 = B 857 := funext (fun j => g9 857 j (by omega))
    have e8 : B' 858 = B 858 := funext (fun j => g9 858 j (by omega))
    refine ⟨⟨m1, by rw [e7, e8]; exact hB.2.1, fun c c0 c2 => ?_⟩, g9 856 13 (by omega), fe_fr g (fun q j e => ?_)⟩
    · by_cases hc : c = x
      · subst hc
        rw [m2]
        have hs := hB.1.1 c h0 (by omega)
        exact dsm_cpV (MI_bal hB.1 (by omega)) f0 ft (by rw [dc_len]; omega)
      · have hmc := (hB.1.2.2.2.2 c c0 c2).2.2.1
        rw [cpM_fe g hmc.2 (fun e => by
          rcases e with (e | e) | e
          · rcases e with e | e | e | e | e | e <;> omega
          · omega
          · omega) (fun j j1 j2 e => by
          rcases e with (e | e) | e
          · rcases e with e | e | e | e | e | e <;> omega
          · omega
          · omega)]
        exact hB.2.2 c c0 c2
    · rcases e with (e | e) | e
      · exact (kE_w e).1
      · dsimp only [hi]; omega
      · dsimp only [hi]; omega
  · have k := KM_w m1 g
    exact ⟨CB_k hB k, kE_13 k.2, KM_hi k⟩
theorem R2_copy {x f t : Int} {A A' B B' : mem} (h : R2 A B) (h1 : (A 0 3 = 0 ∧ CpC x f t A A') ∨ (A 0 3 ≠ 0 ∧ WC A A')) (h2 : CpM x f t B B') : R2 A' B' := by
  obtain ⟨q1, q2, q3⟩ := CB_cp h.2.1 h2
  rcases h1 with ⟨h03, h1⟩ | ⟨h03, w⟩
  · have hE := R2_1 h h03
    obtain ⟨hC, hB, -⟩ := h
    obtain ⟨e1, e2, e3, e4, e5, e6⟩ := id hE
    have hcl : cl x = 592 + 88 * x.toNat := rfl
    have hlen : 0 ≤ x → x < 3 → A (cl x + 4) 1 = B 860 x := fun h0 h3 => by
      obtain ⟨Ds, d1, d2, d3, d4, d5, d6⟩ := e6 x h0 h3
      have hl := congrArg List.length d5
      rw [dc_len, tk_len] at hl
      have hs := hB.1.1 x h0 (by omega)
      have hT := hC.1 _ (cl_c4 (cl_c h0 h3))
      omega
    rcases h1 with ⟨hok, c1, f1, c3⟩ | ⟨hok, c1, f1⟩
    · obtain ⟨⟨h0, h3⟩, f0, ft, tn⟩ := id hok
      rcases h2 with ⟨-, m1, g, m2⟩ | ⟨hno, -⟩
      · have k2 : A' 2 = A 2 := funext (fun j => f1 2 j (by dsimp only [pcE, wq]; omega))
        have k3 : A' 3 = A 3 := funext (fun j => f1 3 j (by dsimp only [pcE, wq]; omega))
        have g9 : ∀ (q : Nat) (j : Int), q = 857 ∨ q = 858 → B' q j = B q j := fun q j hq => g q j (fun e => by
          rcases e with (e | e) | e
          · rcases e with e | e | e | e | e | e <;> omega
          · omega
          · omega)
        have e7 : B' 857 = B 857 := funext (fun j => g9 857 j (by omega))
        have e8 : B' 858 = B 858 := funext (fun j => g9 858 j (by omega))
        refine ⟨c1, q1, Or.inl ⟨by rw [f1 0 3 (by dsimp only [pcE, wq]; omega)]; exact e1, by rw [q2]; exact e2, by rw [k2, e7]; exact e3, by rw [k3, e8]; exact e4, by rw [k2, k3]; exact e5, fun y y0 y3 => ?_⟩⟩
        by_cases hy : y = x
        · subst hy
          obtain ⟨Ds, d1, d2, d3, d4, d5, d6⟩ := e6 y y0 y3
          have hs := hB.1.1 y y0 (by omega)
          have hb10 := (hB.1.2.2.2.2 y y0 (by omega)).2.1
          have hc10 := hC.2.2.2.2.2 (cl y) (cl_c y0 y3)
          have t4 : tk A' (cl y + 4) = tk A (cl y + 4) := tk_cg (fun q j hq => f1 q j (by dsimp only [pcE, wq]; omega))
          have t5 : dc B' y = dc B y := dc_fe g hs.2 (fun e => by
            rcases e with (e | e) | e
            · rcases e with e | e | e | e | e | e <;> omega
            · omega
            · omega) (fun j j1 j2 e => by
            rcases e with (e | e) | e
            · rcases e with e | e | e | e | e | e <;> omega
            · omega
            · omega)
          refine ⟨Ds, ?_, ?_, fun i D hD => ?_, ?_, ?_, ?_⟩
          · rw [f1 (cl y) 2 (by dsimp only [pcE, wq]; omega)]; exact d1
          · rw [g 871 y (fun e => by
              rcases e with (e | e) | e
              · rcases e with e | e | e | e | e | e <;> omega
              · omega
              · omega)]; exact d2
          · obtain ⟨hi, -⟩ := List.getElem?_eq_some_iff.mp hD
            rw [show sv A' (pst (cl y) i) = sv A (pst (cl y) i) from sv_cg (fun q j hq => f1 q j (by dsimp only [pcE, wq]; unfold pst at hq; omega)), show mv B' (60 + 10 * y + (i : Int)) = mv B (60 + 10 * y + (i : Int)) from mv_fe g (fun q j e h8 hq => by
              rcases hq with (hq | hq) | hq
              · rcases hq with hq | hq | hq | hq | hq | hq <;> (dsimp only [stE] at e; omega)
              · dsimp only [stE] at e; omega
              · dsimp only [stE] at e; omega)]
            exact d3 i D hD
          · rw [k2, k3, t4]; exact d4
          · rw [t5, t4]; exact d5
          · rw [m2, c3, d5]
        · have hcy : cl y = 592 + 88 * y.toNat := rfl
          refine E1c_fe hB.1 ⟨y0, y3⟩ g (fun q j e n => ?_) (E1c_fr hC ⟨y0, y3⟩ f1 (fun q e n => ?_) (e6 y y0 y3))
          · dsimp only [nB] at n
            rcases e with (e | e) | e
            · rcases e with e | e | e | e | e | e <;> omega
            · omega
            · omega
          · dsimp only [pcE, wq, nC] at e n
            omega
      · exact absurd ⟨⟨h0, h3⟩, f0, ft, by rw [← hlen h0 h3]; exact tn⟩ hno
    · rcases h2 with ⟨⟨⟨h0, h3⟩, f0, ft, tn⟩, -⟩ | ⟨-, h2, h4⟩
      · exact absurd ⟨⟨h0, h3⟩, f0, ft, by rw [hlen h0 h3]; exact tn⟩ hok
      · exact R2_w ⟨hC, hB, Or.inl hE⟩ c1 f1 h2 h4
  · refine ⟨w.1, q1, Or.inr ?_⟩
    rcases h.2.2 with hE | hE
    · exact absurd hE.1 h03
    · rw [w.2.2, q2]
      exact hE
theorem R2_rev {A A' B B' : mem} (h : R2 A B) (h1 : (A 0 3 = 0 ∧ A' = A) ∨ (A 0 3 ≠ 0 ∧ WC A A')) (h2 : KR B B') : R2 A' B' := by
  rcases h1 with ⟨h03, rfl⟩ | ⟨h03, w⟩
  · have hE := R2_1 h h03
    exact R2_w h h.1 fr_rf h2.1.1 (h2.2 hE.2.1)
  · exact R2_2 h h03 w h2.1
/-- what the class does when it receives while nothing is confirmed -/
def RC0 (x : Int) (M M' : mem) : Prop := ((0 ≤ x ∧ x < 3) ∧ CI M' ∧ fr (fun q => wq q ∨ q = cl x ∨ (cl x + 2 ≤ q ∧ q < cl x + 6) ∨ (cl x + 8 ≤ q ∧ q < cl x + 88)) M M' ∧ M' (cl x) 0 = M (cl x) 0 ∧ M' (cl x) 2 = M (cl x) 2 ∧ (∀ j : Nat, (j : Int) < M (cl x) 2 → sv M' (pst (cl x) j) = sv M (pst (cl x) j)) ∧ tk M' (cl x + 4) = tk M (cl x + 4)) ∨ M' = M
theorem R2_recv {x : Int} {A A' B B' : mem} (h : R2 A B) (h1 : (A 0 3 = 0 ∧ RC0 x A A') ∨ (A 0 3 ≠ 0 ∧ WC A A')) (h2 : KR B B') : R2 A' B' := by
  rcases h1 with ⟨h03, h1⟩ | ⟨h03, w⟩
  · have hE := R2_1 h h03
    rcases h1 with ⟨⟨h0, h3⟩, c1, f, c0, c2, cs, c4⟩ | rfl
    · obtain ⟨hC, hB, -⟩ := h
      obtain ⟨e1, e2, e3, e4, e5, e6⟩ := id hE
      have hcl : cl x = 592 + 88 * x.toNat := rfl
      have g := h2.2 e2
      have k2 : A' 2 = A 2 := funext (fun j => f 2 j (by dsimp only [wq]; omega))
      have k3 : A' 3 = A 3 := funext (fun j => f 3 j (by dsimp only [wq]; omega))
      have e7 : B' 857 = B 857 := funext (fun j => h2.1.2 857 j (fun e => e.2.2.1 rfl))
      have e8 : B' 858 = B 858 := funext (fun j => h2.1.2 858 j (fun e => e.2.2.2.1 rfl))
      refine ⟨c1, CB_k hB h2.1, Or.inl ⟨by rw [f 0 3 (by dsimp only [wq]; omega)]; exact e1, by rw [kE_13 h2.1.2]; exact e2, by rw [k2, e7]; exact e3, by rw [k3, e8]; exact e4, by rw [k2, k3]; exact e5, fun y y0 y3 => ?_⟩⟩
      refine E1c_fe hB.1 ⟨y0, y3⟩ g (fun q j e => nB_q ⟨y0, y3⟩ (Or.inl e)) ?_
      by_cases hy : y = x
      · subst hy
        exact E1c_A (e6 y y0 y3) c2 cs c4 (tk_cg (fun q j hq => f q j (by dsimp only [wq]; omega))) k2 k3
      · have hcy : cl y = 592 + 88 * y.toNat := rfl
        refine E1c_fr hC ⟨y0, y3⟩ f (fun q e n => ?_) (e6 y y0 y3)
        dsimp only [wq, nC] at e n
        omega
    · exact R2_w h h.1 fr_rf h2.1.1 (h2.2 hE.2.1)
  · exact R2_2 h h03 w h2.1
theorem E1_PV {A B : mem} (hE : E1 A B) {x : Int} (h0 : 0 ≤ x) (h3 : x < 3) : ∃ (n : Nat) (f0 : Nat → List Int), A (cl x) 2 = (n : Int) ∧ PV A (cl x) n f0 := by
  obtain ⟨Ds, d1, d2, d3, d4, d5, d6⟩ := hE.2.2.2.2.2 x h0 h3
  obtain ⟨r1, r2⟩ := RD_dcs Ds [1, 0] _ d4 (by decide)
  refine ⟨Ds.length, dcs Ds [1, 0], d1.symm, rfl, r1.symm, fun j hj => ?_⟩
  have hD : Ds[j]? = some Ds[j] := List.getElem?_eq_getElem hj
  generalize Ds[j] = D at hD
  obtain ⟨⟨x1, x2, x3⟩, x4, x5⟩ := d3 j D hD
  obtain ⟨g1, g2⟩ := r2 j D hD
  have ea := apV_D x4 x1 g2 g1.1
  refine ⟨okT_D x4 x1 x2, ?_, ?_, ?_⟩
  · by_cases h2 : D.1 = 2
    · exact cVD_2 x4 h2
    · exact (okV_D x4 x1 g2 h2).mpr g1.1
  · rw [dcs_S hD, ea]
  · rw [dcs_S hD]; exact g1.2
theorem RD_acc {K Q : Int → Int} : ∀ (Ds : List gD) (l d : List Int), acc K Q l → RD K Q Ds l d → acc K Q d
  | [], l, d, h, h1 => by rw [show d = l from h1]; exact h
  | D :: Ds, l, d, _, h1 => RD_acc Ds (eD D l) d h1.1.2 h1.2
theorem E1_acc {A B : mem} (hE : E1 A B) (x : Int) (h0 : 0 ≤ x) (h3 : x < 3) : acc (B 857) (B 858) (dc B x) := by
  obtain ⟨e1, e2, e3, e4, e5, e6⟩ := hE
  obtain ⟨Ds, d1, d2, d3, d4, d5, d6⟩ := e6 x h0 h3
  rw [← e3, ← e4, d5]
  exact RD_acc Ds _ _ e5 d4
theorem R2_mark {x : Int} {cs : cfn} {A A' B B' : mem} (h : R2 A B) (hcs : okCS cs) (hr : ∀ (q : Nat) (j : Int), q < 856 → inR (A' q j)) (h1 : OC x cs A A') (h2 : (A 0 3 = 0 ∧ OM x cs B B') ∨ (A 0 3 ≠ 0 ∧ KM B B')) : R2 A' B' := by
  rcases h2 with ⟨-, h2⟩ | ⟨h03, k⟩
  · exact R2_edit h hcs hr h1 h2
  · exact R2_2 h h03 (WC_OC h1) k
