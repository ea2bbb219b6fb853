/-! ===== taking back, sending, copying, receiving, the rules: what both sides have in common ===== -/
theorem WC_TC {x : Int} {A A' : mem} (hC : CI A) (h : TC x A A') : WC A A' := by
  have hcl : cl x = 592 + 88 * x.toNat := rfl
  rcases h with ⟨⟨⟨h0, h3⟩, -⟩, h1, f, -⟩ | ⟨-, h1, f⟩
  · exact ⟨h1, fr_le f (fun q e => by dsimp only [tq, tz, wq, lo] at e ⊢; omega), f 0 3 (by dsimp only [tq, tz, wq]; omega)⟩
  · exact ⟨h1, fr_le f (fun q e => by dsimp only [wq, lo] at e ⊢; omega), f 0 3 (by dsimp only [wq]; omega)⟩
theorem kE_t {c : Int} {q : Nat} {j : Int} (h : tE c q j) : kE q j := by
  rcases h with h | h | h
  · exact kE_w h
  · exact kE_of (by omega) (by omega) (by omega)
  · exact kE_of (by omega) (by omega) (by omega)
theorem KM_TM {c : Int} {B B' : mem} (h : TM c B B') : KM B B' := by
  rcases h with ⟨-, h1, f, -⟩ | ⟨-, h1, f⟩
  · exact ⟨h1, fe_le f (fun q j e => kE_t e)⟩
  · exact KM_w h1 f
/-- documents at the beginning of a client's row, while nothing is confirmed -/
theorem base0 {A : mem} {c : Nat} (hC : CI A) (hc : ly_c c = 0) (h03 : A 0 3 = 0) : A c 0 = 0 ∧ tk A (c + 2) = [1, 0] ∧ Run (pdV A c (A c 2)) [1, 0] (tk A (c + 4)) := by
  have hCc := hC.2.2.2.2.2 c hc
  have h0 : A c 0 = 0 := by omega
  have h2 : tk A (c + 2) = [1, 0] := by
    have h9 := hCc.2.2.2.2.1
    rw [h0] at h9
    exact h9
  refine ⟨h0, h2, ?_⟩
  have h9 := hCc.2.2.2.2.2
  rw [h2] at h9
  exact h9
theorem baseW {B : mem} {c : Int} (hM : MI B) (hc : 0 ≤ c ∧ c ≤ 2) (h13 : B 856 13 = 0) : B 870 c = 0 ∧ RunW (pdW B c (B 871 c)) [1, 0] (dc B c) := by
  have hmc := hM.2.2.2.2 c hc.1 hc.2
  unfold MC at hmc
  obtain ⟨m1, m2, m3, b, m4, m5⟩ := hmc
  have h0 : B 870 c = 0 := by omega
  refine ⟨h0, ?_⟩
  rw [h0] at m4
  rw [show b = [1, 0] from m4] at m5
  exact m5
theorem R2_back {x : Int} {A A' B B' : mem} (h : R2 A B) (h1 : TC x A A') (h2 : TM x B B') : R2 A' B' := by
  by_cases h03 : A 0 3 = 0
  · have hE := R2_1 h h03
    obtain ⟨hC, hB, -⟩ := h
    have k := KM_TM h2
    have w := WC_TC hC h1
    obtain ⟨e1, e2, e3, e4, e5, e6⟩ := id hE
    have hcl : cl x = 592 + 88 * x.toNat := rfl
    rcases h1 with ⟨⟨⟨h0, h3⟩, hp⟩, c1, f, c3, c4⟩ | ⟨hn, h1⟩
    · rcases h2 with ⟨-, m1, g, m4⟩ | ⟨hn, -⟩
      · obtain ⟨Ds, d1, d2, d3, d4, d5, d6⟩ := e6 x h0 h3
        have k2 : A' 2 = A 2 := funext (fun j => f 2 j (by dsimp only [tq, tz, wq]; omega))
        have k3 : A' 3 = A 3 := funext (fun j => f 3 j (by dsimp only [tq, tz, wq]; omega))
        have e7 : B' 857 = B 857 := funext (fun j => k.2 857 j (fun e => e.2.2.1 rfl))
        have e8 : B' 858 = B 858 := funext (fun j => k.2 858 j (fun e => e.2.2.2.1 rfl))
        have f03 : A' 0 3 = 0 := w.2.2.trans e1
        have f13 : B' 856 13 = 0 := (kE_13 k.2).trans e2
        refine ⟨c1, CB_k hB k, Or.inl ⟨f03, f13, by rw [k2, e7]; exact e3, by rw [k3, e8]; exact e4, by rw [k2, k3]; exact e5, fun y y0 y3 => ?_⟩⟩
        by_cases hy : y = x
        · subst hy
          obtain ⟨n, hn⟩ : ∃ n, Ds.length = n + 1 := ⟨Ds.length - 1, by omega⟩
          have hsp : Ds = Ds.take n ++ Ds.drop n := (List.take_append_drop n Ds).symm
          have hlt : (Ds.take n).length = n := by rw [List.length_take]; omega
          rw [hsp] at d4
          obtain ⟨m, r1, -⟩ := (RD_app _ _ _ _).mp d4
          have hst : ∀ (i : Nat) (D : gD), (Ds.take n)[i]? = some D → (smD D ∧ okN D ∧ inL D.2.2) ∧ cVD (sv A' (pst (cl y) i)) D ∧ cWD (mv B' (60 + 10 * y + (i : Int))) D := fun i D hD => by
            obtain ⟨hi, -⟩ := List.getElem?_eq_some_iff.mp hD
            rw [List.getElem?_take, if_pos (by omega)] at hD
            obtain ⟨x1, x2, x3⟩ := d3 i D hD
            have sA : sv A' (pst (cl y) i) = sv A (pst (cl y) i) := sv_cg (fun q j hq => f q j (by dsimp only [tq, tz, wq]; unfold pst at hq; omega))
            have hb10 := (hB.1.2.2.2.2 y y0 (by omega)).2.1
            have sB : mv B' (60 + 10 * y + (i : Int)) = mv B (60 + 10 * y + (i : Int)) := mv_fe g (fun q j e h8 hq => by
              rcases hq with hq | hq | hq
              · rcases hq with hq | hq | hq | hq | hq | hq <;> (dsimp only [stE] at e; omega)
              · dsimp only [stE] at e; omega
              · dsimp only [stE] at e; omega)
            rw [sA, sB]
            exact ⟨x1, x2, x3⟩
          have n1 : A' (cl y) 2 = (n : Int) := by omega
          have n2 : B' 871 y = (n : Int) := by omega
          have t4 : tk A' (cl y + 4) = m := by
            have h9 := (base0 c1 (cl_c y0 y3) f03).2.2
            rw [n1] at h9
            refine RD_Run (Ds.take n) _ [1, 0] m _ ?_ (fun i D V hD hV => ?_) (by decide) r1 h9
            · unfold pdV; rw [List.length_map, List.length_range, hlt]; omega
            · obtain ⟨x1, x2, -⟩ := hst i D hD
              rw [Run_f hV]
              exact ⟨x1.1, x2⟩
          have t5 : dc B' y = m := by
            have h9 := (baseW m1 ⟨y0, by omega⟩ f13).2
            rw [n2] at h9
            refine RD_RunW (Ds.take n) _ [1, 0] m _ ?_ (fun i D V hD hV => ?_) inL_10 r1 h9
            · unfold pdW; rw [List.length_map, List.length_range, hlt]; omega
            · obtain ⟨x1, -, x3⟩ := hst i D hD
              rw [Run_f (f := fun i : Nat => mv B' (60 + 10 * y + (i : Int))) hV]
              exact ⟨x1.1, x1.2.2, x3⟩
          refine ⟨Ds.take n, by omega, by omega, hst, ?_, ?_, ?_⟩
          · rw [k2, k3, t4]; exact r1
          · rw [t4, t5]
          · rw [cpM_k k.2, d6]
            exact (tk_cg (fun q j hq => f q j (by dsimp only [tq, tz, wq]; omega))).symm
        · have hcy : cl y = 592 + 88 * y.toNat := rfl
          refine E1c_fe hB.1 ⟨y0, y3⟩ g (fun q j e n => ?_) (E1c_fr hC ⟨y0, y3⟩ f (fun q e n => ?_) (e6 y y0 y3))
          · dsimp only [nB] at n
            rcases e with e | e | e
            · rcases e with e | e | e | e | e | e <;> omega
            · omega
            · omega
          · dsimp only [tq, tz, wq, nC] at e n
            omega
      · obtain ⟨Ds, d1, d2, -⟩ := e6 x h0 h3
        exact absurd ⟨⟨h0, by omega⟩, by omega⟩ hn
    · rcases h2 with ⟨⟨⟨h0, h3⟩, hp⟩, -⟩ | ⟨-, h2⟩
      · obtain ⟨Ds, d1, d2, -⟩ := e6 x h0 (by omega)
        exact absurd ⟨⟨h0, by omega⟩, by omega⟩ hn
      · exact R2_w ⟨hC, hB, Or.inl hE⟩ h1.1 h1.2 h2.1 h2.2
  · exact R2_2 h h03 (WC_TC h.1 h1) (KM_TM h2)
theorem R2_send {x : Int} {A A' B B' : mem} (h : R2 A B) (h1 : SC x A A') (h2 : SM x B B') : R2 A' B' := by
  obtain ⟨hC, hB, hE⟩ := h
  have hcl : cl x = 592 + 88 * x.toNat := rfl
  have CBs : ∀ {B' : mem}, MI B' → frE (snE B x) B B' → CB B' := fun {B'} m1 g => by
    have g9 : ∀ (q : Nat), q = 857 ∨ q = 858 ∨ q = 873 ∨ q = 874 → ∀ j, B' q j = B q j := fun q hq j => g q j (by dsimp only [snE]; omega)
    have e7 : B' 857 = B 857 := funext (fun j => g9 857 (by omega) j)
    have e8 : B' 858 = B 858 := funext (fun j => g9 858 (by omega) j)
    refine ⟨m1, by rw [e7, e8]; exact hB.2.1, fun c h0 h9 => ?_⟩
    rw [cpM_cg (g9 874 (by omega) c) (funext (fun j => g9 873 (by omega) j))]
    exact hB.2.2 c h0 h9
  rcases hE with hE | hE
  · obtain ⟨e1, e2, e3, e4, e5, e6⟩ := id hE
    rcases h1 with ⟨⟨⟨h0, h3⟩, hp⟩, c1, f, c3, c4, c5⟩ | ⟨hn, h1⟩
    · have hCc := hC.2.2.2.2.2 (cl x) (cl_c h0 h3)
      obtain ⟨Ds, d1, d2, d3, d4, d5, d6⟩ := e6 x h0 h3
      have hmc := (hB.1.2.2.2.2 x h0 (by omega))
      rcases h2 with ⟨-, m1, g, m3, m4, m5⟩ | ⟨hn, -⟩
      · refine ⟨c1, CBs m1 g, ?_⟩
        by_cases hz : Ds.length = 0
        · have k2 : A' 2 = A 2 := funext (fun j => f 2 j (by dsimp only [sE]; omega))
          have k3 : A' 3 = A 3 := funext (fun j => f 3 j (by dsimp only [sE]; omega))
          have e7 : B' 857 = B 857 := funext (fun j => g 857 j (by dsimp only [snE]; omega))
          have e8 : B' 858 = B 858 := funext (fun j => g 858 j (by dsimp only [snE]; omega))
          refine Or.inl ⟨by omega, by omega, by rw [k2, e7]; exact e3, by rw [k3, e8]; exact e4, by rw [k2, k3]; exact e5, fun y y0 y3 => ?_⟩
          by_cases hy : y = x
          · subst hy
            have hs := hB.1.1 y y0 (by omega)
            refine E1c_B (E1c_A (e6 y y0 y3) (by omega) (fun i hi => by omega) (tk_cg (fun q j hq => f q j (by dsimp only [sE]; omega))) (tk_cg (fun q j hq => f q j (by dsimp only [sE]; omega))) k2 k3) (by omega) (fun i hi => by omega) (dc_fe g hs.2 (by dsimp only [snE]; omega) (fun j j1 j2 => by dsimp only [snE]; omega)) (cpM_cg (g 874 y (by dsimp only [snE]; omega)) (funext (fun j => g 873 j (by dsimp only [snE]; omega))))
          · have hcy : cl y = 592 + 88 * y.toNat := rfl
            refine E1c_fe hB.1 ⟨y0, y3⟩ g (fun q j e n => ?_) (E1c_fr hC ⟨y0, y3⟩ f (fun q e n => ?_) (e6 y y0 y3))
            · dsimp only [nB, snE] at e n; omega
            · dsimp only [sE, nC] at e n; omega
        · exact Or.inr ⟨by omega, by omega⟩
      · refine absurd ⟨⟨h0, by omega⟩, ?_, ?_⟩ hn
        · have h9 := (baseW hB.1 ⟨h0, by omega⟩ e2).1
          omega
        · omega
    · rcases h2 with ⟨⟨⟨h0, h3⟩, hp⟩, -⟩ | ⟨-, h2⟩
      · have h9 := (base0 hC (cl_c h0 (by omega)) e1).1
        have hCc := hC.2.2.2.2.2 (cl x) (cl_c h0 (by omega))
        exact absurd ⟨⟨h0, by omega⟩, by omega, by omega⟩ hn
      · exact R2_w ⟨hC, hB, Or.inl hE⟩ h1.1 h1.2 h2.1 h2.2
  · have hA : CI A' ∧ 0 < A' 0 3 := by
      rcases h1 with ⟨⟨⟨h0, h3⟩, hp⟩, c1, f, c3, c4, c5⟩ | ⟨hn, c1, f⟩
      · have hCc := hC.2.2.2.2.2 (cl x) (cl_c h0 h3)
        exact ⟨c1, by omega⟩
      · exact ⟨c1, by rw [f 0 3 (by dsimp only [wq]; omega)]; exact hE.1⟩
    have hB2 : CB B' ∧ 0 < B' 856 13 := by
      rcases h2 with ⟨⟨⟨h0, h3⟩, hp⟩, m1, g, m3, -⟩ | ⟨hn, m1, g⟩
      · have hmc := (hB.1.2.2.2.2 x h0 h3).2.1
        exact ⟨CBs m1 g, by omega⟩
      · exact ⟨CB_k hB (KM_w m1 g), by rw [kE_13 (KM_w m1 g).2]; exact hE.2⟩
    exact ⟨hA.1, hB2.1, Or.inr ⟨hA.2, hB2.2⟩⟩
