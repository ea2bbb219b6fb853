/-! ===== the class receives while nothing is confirmed ===== -/
set_option maxRecDepth 100000 in
set_option maxHeartbeats 4000000 in
theorem x_receive0 {X : scr} {M : mem} {x : Int} (rx : inR x) (hC : CI M) (h03 : M 0 3 = 0) (hV : 0 ≤ x → x < 3 → ∃ (n : Nat) (f0 : Nat → List Int), M (cl x) 2 = (n : Int) ∧ PV M (cl x) n f0) : At X 0 61 0 [vr 0, vi x] [] M (qT (qI (fun _ M' => (0 ≤ x ∧ x < 3) ∧ CI M' ∧ fr (fun q => wq q ∨ q = cl x ∨ (cl x + 2 ≤ q ∧ q < cl x + 6) ∨ (cl x + 8 ≤ q ∧ q < cl x + 88)) M M' ∧ M' (cl x) 0 = M (cl x) 0 ∧ M' (cl x) 2 = M (cl x) 2 ∧ (∀ j : Nat, (j : Int) < M (cl x) 2 → sv M' (pst (cl x) j) = sv M (pst (cl x) j)) ∧ tk M' (cl x + 4) = tk M (cl x + 4))) (fun e M' => e = 0 ∧ ¬ (0 ≤ x ∧ x < 3) ∧ M' = M)) := by
  have lp : ∀ (m : Nat) (c n : Nat) (f0 : Nat → List Int) (hc : ly_c c = 0) (hx : 0 ≤ x ∧ x < 3) (hcx : cl x = c) (hn : M c 2 = (n : Int)) (hPV : PV M c n f0) (d i : Int) (M1 : mem) (rd : inR d) (ri : inR i) (hi : -1 ≤ i ∧ i < (n : Int)) (hm : (i + 1).toNat = m) (F : fr rq4 M M1) (T : TI M1) (w1 : M1 25 3 = (n : Int) - 1 - i) (w2 : ∀ k : Int, 0 ≤ k → k < (n : Int) - 1 - i → M1 26 k = ((pst c ((n : Int) - 1 - k).toNat : Nat) : Int) ∧ M1 27 k = 1), At X 0 61 18 [vr 0, vi x, vr c, vi d, vi i] [] M1 (qT (qI (fun _ M' => (0 ≤ x ∧ x < 3) ∧ CI M' ∧ fr (fun q => wq q ∨ q = cl x ∨ (cl x + 2 ≤ q ∧ q < cl x + 6) ∨ (cl x + 8 ≤ q ∧ q < cl x + 88)) M M' ∧ M' (cl x) 0 = M (cl x) 0 ∧ M' (cl x) 2 = M (cl x) 2 ∧ (∀ j : Nat, (j : Int) < M (cl x) 2 → sv M' (pst (cl x) j) = sv M (pst (cl x) j)) ∧ tk M' (cl x + 4) = tk M (cl x + 4))) (fun e M' => e = 0 ∧ ¬ (0 ≤ x ∧ x < 3) ∧ M' = M)) := by
    intro m
    induction m using Nat.strongRecOn with
    | ind m ih =>
    intro c n f0 hc hx hcx hn hPV d i M1 rd ri hi hm F T w1 w2
    have h8 := cl_al hc
    have hCc := hC.2.2.2.2.2 c hc
    refine at_iload dx_61_18 rfl ?_
    refine at_zltR dx_61_19 ri (fun c19 => ?_) (fun c19 => ?_)
    · skip
      refine at_aload dx_61_35 rfl ?_
      refine at_aload dx_61_36 rfl ?_
      refine at_getI 0 dx_61_37 hc rfl rfl (fun r37 => ?_)
      refine at_aload dx_61_38 rfl ?_
      refine at_getI 3 dx_61_39 lc_0 rfl rfl (fun r39 => ?_)
      refine at_callVV dx_61_40 rfl lc_0 rfl (x_addConfirmedMaps0 r37 r39 (by rw [F 0 3 (by (try dsimp only [blk, sq, cq, lo, wq, pq, mz, mzy, mzz, rq4, pst]); first | done | omega), h03, F c 0 (by (try dsimp only [blk, sq, cq, lo, wq, pq, mz, mzy, mzz, rq4, pst]); first | done | omega)]; exact hCc.1)) ?_
      intro M9 e9; replace e9 := Eq.symm e9; subst e9
      refine at_aload dx_61_41 rfl ?_
      refine at_aload dx_61_42 rfl ?_
      refine at_getI 3 dx_61_43 lc_0 rfl rfl (fun r43 => ?_)
      refine at_putI 0 dx_61_44 hc rfl rfl r43 ?_
      have z03 : M1 0 3 = 0 := (F 0 3 (by (try dsimp only [blk, sq, cq, lo, wq, pq, mz, mzy, mzz, rq4, pst]); first | done | omega)).trans h03
      have f44 : fr (fun q => q = c) M1 (um M1 c 0 (M1 0 3)) := fr_um rfl
      have e44 : um M1 c 0 (M1 0 3) c 0 = 0 := by rw [um_eq]; exact z03
      refine at_mem (fun M44 hM44 => ?_)
      rw [← hM44] at f44 e44
      have T44 : TI M44 := by rw [hM44]; exact TI_um T (by rw [hc]; decide)
      refine at_aload dx_61_45 rfl ?_
      refine at_getR dx_61_46 hc rfl (cl_t4 hc) ?_
      refine at_aload dx_61_47 rfl ?_
      refine at_getR dx_61_48 lc_0 rfl lt_0_1 ?_
      refine at_callVV dx_61_49 rfl (cl_c2 hc) rfl (c_become (cl_c2 hc) lc_6 (by omega) (T44 _ lc_6)) ?_
      rintro M49 ⟨f49, i49, t49⟩
      have T49 := TI_bec (cl_c2 hc) T44 f49 i49
      refine at_aload dx_61_50 rfl ?_
      refine at_getR dx_61_51 hc rfl (cl_t5 hc) ?_
      refine at_aload dx_61_52 rfl ?_
      refine at_getR dx_61_53 lc_0 rfl lt_0_1 ?_
      refine at_callVV dx_61_54 rfl (cl_c4 hc) rfl (c_become (cl_c4 hc) lc_6 (by omega) (T49 _ lc_6)) ?_
      rintro M54 ⟨f54, i54, t54⟩
      have T54 := TI_bec (cl_c4 hc) T49 f54 i54
      have b6 : tk M 6 = [1, 0] := by have h9 := hC.2.2.2.2.1; rw [h03] at h9; exact h9
      have hz : M c 0 = 0 := by omega
      have bb : tk M (c + 2) = [1, 0] := by have h9 := hCc.2.2.2.2.1; rw [hz] at h9; exact h9
      have F54w : fr (fun q => wq q ∨ q = c ∨ (c + 2 ≤ q ∧ q < c + 6) ∨ (c + 8 ≤ q ∧ q < c + 88)) M M54 := fr_tr (fr_tr (fr_tr (fr_le F (fun q h => by (try dsimp only [blk, sq, cq, lo, wq, pq, mz, mzy, mzz, rq4, pst] at h ⊢); first | done | omega)) (fr_le f44 (fun q h => by (try dsimp only [blk, sq, cq, lo, wq, pq, mz, mzy, mzz, rq4, pst] at h ⊢); first | done | omega))) (fr_le f49 (fun q h => by (try dsimp only [blk, sq, cq, lo, wq, pq, mz, mzy, mzz, rq4, pst] at h ⊢); first | done | omega))) (fr_le f54 (fun q h => by (try dsimp only [blk, sq, cq, lo, wq, pq, mz, mzy, mzz, rq4, pst] at h ⊢); first | done | omega))
      have q4 : ∀ (q : Nat) (j : Int), 25 ≤ q ∧ q ≤ 28 → M54 q j = M1 q j := fun q j h => by rw [f54 q j (by (try dsimp only [blk, sq, cq, lo, wq, pq, mz, mzy, mzz, rq4, pst]); first | done | omega), f49 q j (by (try dsimp only [blk, sq, cq, lo, wq, pq, mz, mzy, mzz, rq4, pst]); first | done | omega), f44 q j (by (try dsimp only [blk, sq, cq, lo, wq, pq, mz, mzy, mzz, rq4, pst]); first | done | omega)]
      have g54 : RI M54 := by unfold RI; rw [q4 25 3 (by decide)]; omega
      have sW54 : ∀ j : Nat, j < n → sv M54 (pst c j) = sv M (pst c j) := fun j hj => sv_cg (fun q z h => by dsimp only [pst] at h; rw [f54 q z (by (try dsimp only [blk, sq, cq, lo, wq, pq, mz, mzy, mzz, rq4, pst]); first | done | omega), f49 q z (by (try dsimp only [blk, sq, cq, lo, wq, pq, mz, mzy, mzz, rq4, pst]); first | done | omega), f44 q z (by (try dsimp only [blk, sq, cq, lo, wq, pq, mz, mzy, mzz, rq4, pst]); first | done | omega), F q z (by (try dsimp only [blk, sq, cq, lo, wq, pq, mz, mzy, mzz, rq4, pst]); first | done | omega)])
      have k2 : M54 2 = M 2 := funext (fun j => F54w 2 j (by (try dsimp only [blk, sq, cq, lo, wq, pq, mz, mzy, mzz, rq4, pst]); first | done | omega))
      have k3 : M54 3 = M 3 := funext (fun j => F54w 3 j (by (try dsimp only [blk, sq, cq, lo, wq, pq, mz, mzy, mzz, rq4, pst]); first | done | omega))
      have P54 : ∀ j : Nat, j < n → okT M54 (pst c j) ∧ okV (sv M54 (pst c j)) (f0 j) ∧ f0 (j + 1) = apV (sv M54 (pst c j)) (f0 j) ∧ acc (M54 2) (M54 3) (f0 (j + 1)) := fun j hj => by
        obtain ⟨p1, p2⟩ := hPV.2.2 j hj
        refine ⟨okT_u (sW54 j hj) p1, ?_⟩
        rw [sW54 j hj, k2, k3]
        exact p2
      have R54 : RWx M54 c n 0 := ⟨by rw [q4 25 3 (by decide)]; omega, fun k k0 k1 => by rw [q4 26 k (by decide), q4 27 k (by decide)]; exact w2 k k0 (by omega), fun k k0 k1 => by omega, fun k k0 => by omega, fun k k0 => by omega, fun k k0 => (P54 k k0).1.1⟩
      have n54 : M54 c 2 = (n : Int) := by rw [f54 c 2 (by (try dsimp only [blk, sq, cq, lo, wq, pq, mz, mzy, mzz, rq4, pst]); first | done | omega), f49 c 2 (by (try dsimp only [blk, sq, cq, lo, wq, pq, mz, mzy, mzz, rq4, pst]); first | done | omega), hM44, um_j (by decide), F c 2 (by (try dsimp only [blk, sq, cq, lo, wq, pq, mz, mzy, mzz, rq4, pst]); first | done | omega)]; exact hn
      have d54 : tk M54 (c + 4) = f0 0 := by rw [t54, tk_fr f49 (by (try dsimp only [blk, sq, cq, lo, wq, pq, mz, mzy, mzz, rq4, pst]); first | done | omega) (by (try dsimp only [blk, sq, cq, lo, wq, pq, mz, mzy, mzz, rq4, pst]); first | done | omega), tk_fr f44 (by (try dsimp only [blk, sq, cq, lo, wq, pq, mz, mzy, mzz, rq4, pst]); first | done | omega) (by (try dsimp only [blk, sq, cq, lo, wq, pq, mz, mzy, mzz, rq4, pst]); first | done | omega), tk_fr F (by (try dsimp only [blk, sq, cq, lo, wq, pq, mz, mzy, mzz, rq4, pst]); first | done | omega) (by (try dsimp only [blk, sq, cq, lo, wq, pq, mz, mzy, mzz, rq4, pst]); first | done | omega), b6]; exact hPV.1.symm
      refine at_aload dx_61_55 rfl ?_
      refine at_aload dx_61_56 rfl ?_
      refine at_callVV dx_61_57 rfl lc_0 rfl (x_mapPending0 (n := n) (f0 := f0) hc T54 g54 n54 (by omega) R54 d54 P54) ?_
      rintro M57 ⟨f57, T57, g57, u0, u2, u3, u4⟩
      refine at_iload dx_61_58 rfl ?_
      refine at_iretIT dx_61_59 rd ?_
      have F57 : fr (fun q => wq q ∨ q = c ∨ (c + 2 ≤ q ∧ q < c + 6) ∨ (c + 8 ≤ q ∧ q < c + 88)) M M57 := fr_tr F54w (fr_le f57 (fun q h => by (try dsimp only [blk, sq, cq, lo, wq, pq, mz, mzy, mzz, rq4, pst] at h ⊢); first | done | omega))
      have c2 : M57 c 2 = M c 2 := by rw [u2, hn]
      have e6 : tk M57 (c + 2) = [1, 0] := by rw [tk_fr f57 (by (try dsimp only [blk, sq, cq, lo, wq, pq, mz, mzy, mzz, rq4, pst]); first | done | omega) (by (try dsimp only [blk, sq, cq, lo, wq, pq, mz, mzy, mzz, rq4, pst]); first | done | omega), tk_fr f54 (by (try dsimp only [blk, sq, cq, lo, wq, pq, mz, mzy, mzz, rq4, pst]); first | done | omega) (by (try dsimp only [blk, sq, cq, lo, wq, pq, mz, mzy, mzz, rq4, pst]); first | done | omega), t49, tk_fr f44 (by (try dsimp only [blk, sq, cq, lo, wq, pq, mz, mzy, mzz, rq4, pst]); first | done | omega) (by (try dsimp only [blk, sq, cq, lo, wq, pq, mz, mzy, mzz, rq4, pst]); first | done | omega), tk_fr F (by (try dsimp only [blk, sq, cq, lo, wq, pq, mz, mzy, mzz, rq4, pst]); first | done | omega) (by (try dsimp only [blk, sq, cq, lo, wq, pq, mz, mzy, mzz, rq4, pst]); first | done | omega)]; exact b6
      have c0 : M57 c 0 = 0 := by rw [u0 0 (by decide), f54 c 0 (by (try dsimp only [blk, sq, cq, lo, wq, pq, mz, mzy, mzz, rq4, pst]); first | done | omega), f49 c 0 (by (try dsimp only [blk, sq, cq, lo, wq, pq, mz, mzy, mzz, rq4, pst]); first | done | omega)]; exact e44
      have e03 : M57 0 3 = 0 := by rw [F57 0 3 (by (try dsimp only [blk, sq, cq, lo, wq, pq, mz, mzy, mzz, rq4, pst]); first | done | omega)]; exact h03
      have e4 : tk M57 (c + 4) = tk M (c + 4) := u4.trans hPV.2.1
      have sW : ∀ j : Nat, (j : Int) < M c 2 → sv M57 (pst c j) = sv M (pst c j) := fun j hj => (u3 j (by omega)).trans (sW54 j (by omega))
      have pW : pdV M57 c (M57 c 2) = pdV M c (M c 2) := by
        rw [c2]
        unfold pdV
        apply List.map_congr_left
        intro j hj
        have hj2 := List.mem_range.mp hj
        exact sW j (by omega)
      rw [hcx]
      refine ⟨hx, CI_cl hC hc (fr_le F57 (fun q h => by (try dsimp only [blk, sq, cq, lo, wq, pq, mz, mzy, mzz, rq4, pst] at h ⊢); first | done | omega)) T57 g57 ⟨?_, ?_, ?_, ?_, ?_, ?_⟩, F57, c0.trans hz.symm, c2, sW, e4⟩
      · omega
      · omega
      · omega
      · omega
      · rw [c0, e6]; rfl
      · rw [pW, e6, e4]
        have h9 := hCc.2.2.2.2.2
        rw [show tk M (c + 2) = [1, 0] from bb] at h9
        exact h9
    · skip
      refine at_iload dx_61_20 rfl ?_
      refine at_aload dx_61_21 rfl ?_
      refine at_getR dx_61_22 hc rfl (cl_t3 hc) ?_
      refine at_alen dx_61_23 (cl_c1 hc) rfl (cl_n1 hc) ?_
      refine at_cgeR dx_61_24 ri (by decide) (fun c24 => ?_) (fun c24 => ?_)
      · exfalso; omega
      · skip
        refine at_aload dx_61_25 rfl ?_
        refine at_getR dx_61_26 lc_0 rfl lt_0_12 ?_
        refine at_aload dx_61_27 rfl ?_
        refine at_getR dx_61_28 hc rfl (cl_t3 hc) ?_
        refine at_iload dx_61_29 rfl ?_
        refine at_aldS dx_61_30 (cl_c1 hc) (cl_n1 hc) (by first | omega | (simp (disch := omega) only [um_eq, um_k, um_j]; omega)) (by first | omega | (simp (disch := omega) only [um_eq, um_k, um_j]; omega)) (pd_t hc (by omega) (by omega)) ?_
        refine at_const (x := 1) dx_61_31 rfl ?_
        refine at_callVV dx_61_32 rfl lc_25 rfl (x_addMap (pd_c hc (by omega) (by omega)) (Or.inr rfl) (by decide) (by omega)) ?_
        rintro M32 ⟨f32, y1, y2, y3, y4, y5⟩
        refine at_iincR (y := -1) dx_61_33 rfl rfl (by constructor <;> omega) (fun r33 => ?_)
        refine at_goto dx_61_34 ?_
        refine ih _ (by omega) c n f0 hc hx hcx hn hPV _ _ _ rd r33 (by omega) rfl (fr_tr F f32) (TI_rq T f32) (by omega) (fun k k0 k1 => ?_)
        by_cases e : k = M1 25 3
        · subst e
          rw [y2, y3]
          exact ⟨by rw [show (n : Int) - 1 - M1 25 3 = i by omega], rfl⟩
        · obtain ⟨v1, v2, -⟩ := y5 k e
          rw [v1, v2]
          exact w2 k k0 (by omega)
  refine at_aload dx_61_0 rfl ?_
  refine at_iload dx_61_1 rfl ?_
  refine at_callVRT dx_61_2 rfl lc_0 rfl (x_clientOf rx) ?_ ?_
  rotate_left
  · rintro e M9 ⟨he, e9, hx9⟩; exact Or.inr ⟨e, rfl, rfl, he, hx9, e9⟩
  rintro c M9 ⟨e9, h0, h3, hcx, hc⟩; replace e9 := e9.symm; subst e9
  have h8 := cl_al hc
  obtain ⟨n, f0, hn, hPV⟩ := hV h0 h3
  have ecl : cl x = c := hcx.symm
  rw [ecl] at hn hPV
  have hCc := hC.2.2.2.2.2 c hc
  refine at_astore dx_61_3 ?_
  refine at_aload dx_61_4 rfl ?_
  refine at_getI 3 dx_61_5 lc_0 rfl rfl (fun r5 => ?_)
  refine at_aload dx_61_6 rfl ?_
  refine at_getI 0 dx_61_7 hc rfl rfl (fun r7 => ?_)
  refine at_subR dx_61_8 (by (have := hC.2.2.2.2.2 c hc; constructor <;> omega)) (fun r8 => ?_)
  refine at_istore dx_61_9 ?_
  refine at_aload dx_61_10 rfl ?_
  refine at_getR dx_61_11 lc_0 rfl lt_0_12 ?_
  refine at_callVV dx_61_12 rfl lc_25 rfl (c_rowClear) ?_
  refine fun M12 e12 => ?_
  have F12 : fr rq4 M M12 := by rw [e12]; exact fr_um (Or.inl rfl)
  have z12 : M12 25 3 = 0 := by rw [e12, um_eq]
  have T12 : TI M12 := by rw [e12]; exact TI_um hC.1 (by rw [lc_25]; decide)
  have c12 : M12 c 2 = (n : Int) := by rw [F12 c 2 (by (try dsimp only [blk, sq, cq, lo, wq, pq, mz, mzy, mzz, rq4, pst]); first | done | omega)]; exact hn
  refine at_aload dx_61_13 rfl ?_
  refine at_getI 2 dx_61_14 hc rfl rfl (fun r14 => ?_)
  refine at_const (x := 1) dx_61_15 rfl ?_
  refine at_subR dx_61_16 (by (constructor <;> omega)) (fun r16 => ?_)
  refine at_istore dx_61_17 ?_
  exact lp _ c n f0 hc ⟨h0, h3⟩ ecl hn hPV _ _ _ r8 r16 (by omega) rfl F12 T12 (by omega) (fun k k0 k1 => by omega)
