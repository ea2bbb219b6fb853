/-! ===== each call keeps what both sides have in common ===== -/
theorem OC_lo {x : Int} {cs : cfn} {M M' : mem} (h : OC x cs M M') : fr lo M M' := by
  rcases h with ⟨h0, h3, h | h⟩ | ⟨-, h⟩
  · obtain ⟨-, ⟨n0, n9⟩, D, -, -, f, -⟩ := h
    have hcl : cl x = 592 + 88 * x.toNat := rfl
    exact fr_le f (fun q e => by dsimp only [pq, wq, blk, lo] at e ⊢; omega)
  · exact fr_le h.2.1 (fun q e => by dsimp only [wq, lo] at e ⊢; omega)
  · exact fr_le h.2 (fun q e => by dsimp only [wq, lo] at e ⊢; omega)
theorem WC_OC {x : Int} {cs : cfn} {M M' : mem} (h : OC x cs M M') : WC M M' := by
  have hl := OC_lo h
  have hcl : cl x = 592 + 88 * x.toNat := rfl
  rcases h with ⟨h0, h3, h | h⟩ | ⟨-, h⟩
  · obtain ⟨h1, ⟨n0, n9⟩, D, -, -, f, -⟩ := h
    exact ⟨h1, hl, f 0 3 (by dsimp only [pq, wq, blk]; omega)⟩
  · exact ⟨h.1, hl, h.2.1 0 3 (by dsimp only [wq]; omega)⟩
  · exact ⟨h.1, hl, h.2 0 3 (by dsimp only [wq]; omega)⟩
theorem snoc_at {Ds : List gD} {D D' : gD} {i : Nat} (h : (Ds ++ [D])[i]? = some D') : Ds[i]? = some D' ∨ (i = Ds.length ∧ D' = D) := by
  by_cases hi : i < Ds.length
  · rw [List.getElem?_append_left hi] at h
    exact Or.inl h
  · rw [List.getElem?_append_right (by omega)] at h
    obtain ⟨h1, h2⟩ := List.getElem?_eq_some_iff.mp h
    have h3 : i - Ds.length = 0 := by simpa using h1
    refine Or.inr ⟨by omega, ?_⟩
    simp only [h3] at h2
    exact h2.symm
theorem R2_edit {x : Int} {cs : cfn} {A A' B B' : mem} (h : R2 A B) (hcs : okCS cs) (hr : ∀ (q : Nat) (j : Int), q < 856 → inR (A' q j)) (h1 : OC x cs A A') (h2 : OM x cs B B') : R2 A' B' := by
  by_cases h03 : A 0 3 = 0
  · have hE := R2_1 h h03
    obtain ⟨hC, hB, -⟩ := h
    have k := KM_OM h2
    obtain ⟨e1, e2, e3, e4, e5, e6⟩ := id hE
    have w := WC_OC h1
    have hcl : cl x = 592 + 88 * x.toNat := rfl
    rcases h1 with ⟨h0, h3, h1⟩ | ⟨hn, h1⟩
    · rcases h2 with ⟨-, -, h2⟩ | ⟨hn, -⟩
      · obtain ⟨Ds, d1, d2, d3, d4, d5, d6⟩ := e6 x h0 h3
        rw [d5, d6] at h2
        have hCc := hC.2.2.2.2.2 (cl x) (cl_c h0 h3)
        have hTc := hC.1 _ (cl_c4 (cl_c h0 h3))
        rcases h1 with h1 | h1
        · rcases h2 with h2 | h2
          · obtain ⟨c1, ⟨n0, n9⟩, D, s1, F1, f, c3, c4, c5, c6⟩ := h1
            obtain ⟨m1, -, D', s2, F2, g, m4, m5, m6⟩ := h2
            rw [← e3, ← e4, d5] at F2
            obtain rfl : D = D' := FST_uniq F1 F2
            obtain ⟨hin, hgd⟩ := FST_in F1
            have hln : ((tk A (cl x + 4)).length : Int) ≤ 60 := by have := tk_len60 hTc; omega
            have hok := hcs _ _ D (by omega) hin hgd.1
            have k2 : A' 2 = A 2 := funext (fun j => f 2 j (by dsimp only [pq, wq, blk]; omega))
            have k3 : A' 3 = A 3 := funext (fun j => f 3 j (by dsimp only [pq, wq, blk]; omega))
            have e7 : B' 857 = B 857 := funext (fun j => k.2 857 j (fun e => e.2.2.1 rfl))
            have e8 : B' 858 = B 858 := funext (fun j => k.2 858 j (fun e => e.2.2.2.1 rfl))
            have hiP : inL D.2.2 := by
              match D, c5, hok with
              | (0, ([s, t], P)), c5, _ =>
                obtain ⟨a, b, c, d, e, f', g', hV⟩ := c5
                have h9 : tk A' (cl x + 8 + 8 * (A (cl x) 2).toNat + 6) = P := congrArg Prod.snd hV
                show inL P
                rw [← h9]
                intro t ht
                obtain ⟨i, -, rfl⟩ := List.mem_map.mp ht
                exact hr _ _ (by omega)
              | (1, ([s0, t0, p0, s1, t1, p1], P)), c5, _ =>
                obtain ⟨a, b, c, d, hV⟩ := c5
                have h9 : tk A' (cl x + 8 + 8 * (A (cl x) 2).toNat + 6) = P := congrArg Prod.snd hV
                show inL P
                rw [← h9]
                intro t ht
                obtain ⟨i, -, rfl⟩ := List.mem_map.mp ht
                exact hr _ _ (by omega)
              | (2, ([a, b, kb, z], P)), _, hok =>
                have hok : 0 ≤ a ∧ a < b ∧ b ≤ 60 ∧ P = [] := hok
                show inL P
                rw [hok.2.2.2]
                intro t ht
                cases ht
            refine ⟨c1, CB_k hB k, Or.inl ⟨by rw [w.2.2]; exact e1, by rw [kE_13 k.2]; exact e2, by rw [k2, e7]; exact e3, by rw [k3, e8]; exact e4, by rw [k2, k3]; exact e5, fun y y0 y3 => ?_⟩⟩
            by_cases hy : y = x
            · subst hy
              refine ⟨Ds ++ [D], ?_, ?_, fun i D' hD' => ?_, ?_, ?_, ?_⟩
              · rw [c4, List.length_append]; simp only [List.length_cons, List.length_nil]; omega
              · rw [m4, List.length_append]; simp only [List.length_cons, List.length_nil]; omega
              · rcases snoc_at hD' with hi | ⟨hi, rfl⟩
                · obtain ⟨hi2, -⟩ := List.getElem?_eq_some_iff.mp hi
                  obtain ⟨x1, x2, x3⟩ := d3 i D' hi
                  have sA : sv A' (pst (cl y) i) = sv A (pst (cl y) i) := sv_cg (fun q j hq => f q j (by dsimp only [pq, wq, blk]; unfold pst at hq; omega))
                  have sB : mv B' (60 + 10 * y + (i : Int)) = mv B (60 + 10 * y + (i : Int)) := mv_fe g (fun q j e h8 hq => by
                    rcases hq with hq | hq | hq | hq
                    · rcases hq with hq | hq | hq | hq | hq | hq <;> (dsimp only [stE] at e; omega)
                    · dsimp only [stE] at e; omega
                    · dsimp only [stE] at e; omega
                    · dsimp only [stE] at e hq; omega)
                  rw [sA, sB]
                  exact ⟨x1, x2, x3⟩
                · have hi3 : i = (A (cl y) 2).toNat := by omega
                  subst hi3
                  refine ⟨⟨s1, hok, hiP⟩, c5, ?_⟩
                  rw [show (((A (cl y) 2).toNat : Nat) : Int) = B 871 y by omega]
                  exact m5
              · rw [k2, k3]
                refine (RD_app _ _ _ _).mpr ⟨_, d4, hgd, ?_⟩
                show _ = _
                rw [c6]
              · rw [m6, c6, d5]
              · rw [cpM_k k.2, d6]
                exact (tk_cg (fun q j hq => f q j (by dsimp only [pq, wq, blk]; omega))).symm
            · have hcy : cl y = 592 + 88 * y.toNat := rfl
              refine E1c_fe hB.1 ⟨y0, y3⟩ g (fun q j e n => ?_) (E1c_fr hC ⟨y0, y3⟩ f (fun q e n => ?_) (e6 y y0 y3))
              · dsimp only [nB] at n
                rcases e with e | e | e | e
                · rcases e with e | e | e | e | e | e <;> omega
                · omega
                · omega
                · dsimp only [stE] at e; omega
              · dsimp only [pq, wq, blk, nC] at e n
                omega
          · obtain ⟨-, ⟨n0, n9⟩, D, s1, F1, -⟩ := h1
            obtain ⟨hin, hgd⟩ := FST_in F1
            refine absurd ⟨by omega, D, hin, ?_⟩ h2.2.2
            rw [← e3, ← e4, d5]
            exact hgd
        · rcases h2 with h2 | h2
          · obtain ⟨-, ⟨n0, n9⟩, D, s1, F1, -⟩ := h2
            obtain ⟨hin, hgd⟩ := FST_in F1
            refine absurd ⟨by omega, D, hin, ?_⟩ h1.2.2
            rw [← e3, ← e4, d5] at hgd
            exact hgd
          · exact R2_w ⟨hC, hB, Or.inl hE⟩ h1.1 h1.2.1 h2.1 h2.2.1
      · exact absurd ⟨h0, h3⟩ hn
    · rcases h2 with ⟨h0, h3, -⟩ | ⟨-, h2, h4⟩
      · exact absurd ⟨h0, h3⟩ hn
      · exact R2_w ⟨hC, hB, Or.inl hE⟩ h1.1 h1.2 h2 h4
  · exact R2_2 h h03 (WC_OC h1) (KM_OM h2)
