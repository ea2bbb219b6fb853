/-! ===== the reference: positions mapped ===== -/
theorem okW_N {M : mem} {s n : Int} (h : okW (mv M s) n) (hn : n ≤ 60) : sN M s := okX_N (okW_X h) hn
theorem okW_u {M : mem} {s n : Int} (h : okW (mv M s) n) : (M 861 s ≠ 0 ∧ 0 ≤ M 865 (2 * s) ∧ M 865 (2 * s) ≤ M 865 (2 * s + 1) ∧ M 865 (2 * s + 1) ≤ n ∧ (M 863 s = 0 ∨ M 863 s = 1) ∧ M 866 (2 * s) = 0 ∧ M 866 (2 * s + 1) = 0 ∧ M 867 (2 * s) = 0 ∧ M 867 (2 * s + 1) = 0) ∨
    (M 861 s = 0 ∧ (M 864 s = 1 ∨ M 864 s = 2) ∧ 0 ≤ M 865 (2 * s) ∧ 0 ≤ M 866 (2 * s) ∧ M 865 (2 * s) + M 866 (2 * s) ≤ n ∧ 0 ≤ M 867 (2 * s) ∧ 0 ≤ M 867 (2 * s + 1) ∧ M 867 (2 * s) + M 867 (2 * s + 1) ≤ 60 ∧ (M 864 s = 1 → M 867 (2 * s + 1) = 0 ∧ M 866 (2 * s + 1) = 0 ∧ M 865 (2 * s + 1) = 0) ∧ (M 864 s = 2 → M 865 (2 * s) + M 866 (2 * s) ≤ M 865 (2 * s + 1) ∧ 0 ≤ M 866 (2 * s + 1) ∧ M 865 (2 * s + 1) + M 866 (2 * s + 1) ≤ n) ∧ n + M 867 (2 * s) + M 867 (2 * s + 1) - M 866 (2 * s) - M 866 (2 * s + 1) ≤ 60) := h
/-- where a range begins, what it takes, ahead of a step or of its inverse -/
noncomputable def bgN (M : mem) (s z r : Int) : Int := if r = 0 then M 865 (2 * s) else if z ≠ 0 then M 865 (2 * s + 1) + (M 867 (2 * s) - M 866 (2 * s)) else M 865 (2 * s + 1)
noncomputable def tkN (M : mem) (s z r : Int) : Int := if z ≠ 0 then (if r = 0 then M 867 (2 * s) else M 867 (2 * s + 1)) else (if r = 0 then M 866 (2 * s) else M 866 (2 * s + 1))
theorem bg_of {M : mem} {s z r x : Int} (hr : 0 ≤ r ∧ r ≤ 1) (h : x = M 865 (2 * s + r) + if z ≠ 0 ∧ r = 1 then M 867 (2 * s) - M 866 (2 * s) else 0) : x = bgN M s z r := by
  rw [h]
  unfold bgN
  rcases (show r = 0 ∨ r = 1 by omega) with rfl | rfl
  · rw [if_neg (by omega), if_pos rfl, Int.add_zero, Int.add_zero]
  · by_cases hz : z ≠ 0
    · rw [if_pos ⟨hz, rfl⟩, if_neg (by decide), if_pos hz]
    · rw [if_neg (fun e => hz e.1), if_neg (by decide), if_neg hz, Int.add_zero]
theorem tk_of {M : mem} {s z r x : Int} (hr : 0 ≤ r ∧ r ≤ 1) (h : x = if z ≠ 0 then M 867 (2 * s + r) else M 866 (2 * s + r)) : x = tkN M s z r := by
  rw [h]
  unfold tkN
  rcases (show r = 0 ∨ r = 1 by omega) with rfl | rfl
  · rw [Int.add_zero, if_pos rfl, if_pos rfl]
  · rw [if_neg (show ¬ (1 : Int) = 0 by decide), if_neg (show ¬ (1 : Int) = 0 by decide)]

set_option maxRecDepth 100000 in
set_option maxHeartbeats 4000000 in
theorem m_rangeAt0 {X : scr} {M : mem} {s a : Int} (rs : inR s) (ra : inR a) {n : Int} (hs : 0 ≤ s ∧ s ≤ 100) (hv : okW (mv M s) n) (hn60 : 0 ≤ n ∧ n ≤ 60) (ha : -1000 ≤ a ∧ a ≤ 1000) : At X 0 116 0 [vr 856, vi s, vi 0, vi a] [] M (qI (fun x M' => M' = M ∧ (x = -1 ∨ (M 861 s = 0 ∧ 0 ≤ x ∧ x < M 864 s ∧ x ≤ 1 ∧ bgN M s 0 x ≤ a ∧ a ≤ bgN M s 0 x + tkN M s 0 x)))) := by
  have hN := okW_N hv (by omega)
  have hu := okW_u hv
  obtain ⟨n1, n2, n3, n4, n5, n6⟩ := hN
  have lp : ∀ (n9 : Nat) (f k : Int) (rf : inR f) (rk : inR k) (hk : -1 ≤ k ∧ k ≤ 1) (hm : 0 ≤ k → M 861 s = 0 ∧ k < M 864 s) (hn : (k + 1).toNat = n9) (w1 : f = -1 ∨ (M 861 s = 0 ∧ 0 ≤ f ∧ f < M 864 s ∧ f ≤ 1 ∧ bgN M s 0 f ≤ a ∧ a ≤ bgN M s 0 f + tkN M s 0 f)), At X 0 116 16 [vr 856, vi s, vi 0, vi a, vi f, vi k] [] M (qI (fun x M' => M' = M ∧ (x = -1 ∨ (M 861 s = 0 ∧ 0 ≤ x ∧ x < M 864 s ∧ x ≤ 1 ∧ bgN M s 0 x ≤ a ∧ a ≤ bgN M s 0 x + tkN M s 0 x)))) := by
    intro n9
    induction n9 using Nat.strongRecOn with
    | ind n9 ih =>
    intro f k rf rk hk hm hn w1
    have hm0 : k ≥ 0 → M 861 s = 0 ∧ k < M 864 s := fun h => hm h
    refine at_iload dx_116_16 rfl ?_
    refine at_zltR dx_116_17 rk (fun c17 => ?_) (fun c17 => ?_)
    · skip
      refine at_iload dx_116_41 rfl ?_
      refine at_iretI dx_116_42 rf ?_
      exact ⟨rfl, w1⟩
    · skip
      refine at_aload dx_116_18 rfl ?_
      refine at_iload dx_116_19 rfl ?_
      refine at_iload dx_116_20 rfl ?_
      refine at_iload dx_116_21 rfl ?_
      refine at_callVI dx_116_22 rfl lc_856 rfl (m_startOf rs (by decide) rk hs (by omega) ⟨n1, n2, n3, n4, n5, n6⟩) ?_
      rintro x22 M9 r22 ⟨e9, h22⟩; replace e9 := e9.symm; subst e9
      replace h22 := bg_of (by omega) h22
      have q22 : -300 ≤ x22 ∧ x22 ≤ 300 := by rw [h22]; unfold bgN; (repeat' split) <;> omega
      refine at_istore dx_116_23 ?_
      refine at_iload dx_116_24 rfl ?_
      refine at_iload dx_116_25 rfl ?_
      refine at_iload dx_116_26 rfl ?_
      refine at_aload dx_116_27 rfl ?_
      refine at_iload dx_116_28 rfl ?_
      refine at_iload dx_116_29 rfl ?_
      refine at_iload dx_116_30 rfl ?_
      refine at_callVI dx_116_31 rfl lc_856 rfl (m_takesOf rs (by decide) rk hs (by omega)) ?_
      rintro x31 M9 r31 ⟨e9, h31⟩; replace e9 := e9.symm; subst e9
      replace h31 := tk_of (by omega) h31
      have q31 : -300 ≤ x31 ∧ x31 ≤ 300 := by rw [h31]; unfold tkN; (repeat' split) <;> omega
      refine at_addR dx_116_32 (by constructor <;> omega) (fun r32 => ?_)
      refine at_callSI dx_116_33 rfl rfl (m_isIn ra r22 r32) ?_
      rintro x33 M9 r33 ⟨e9, h33⟩; replace e9 := e9.symm; subst e9
      refine at_zeqR dx_116_34 r33 (fun c34 => ?_) (fun c34 => ?_)
      · skip
        refine at_iload dx_116_37 rfl ?_
        refine at_istore dx_116_38 ?_
        refine at_iincR (y := -1) dx_116_39 rfl rfl (by constructor <;> omega) (fun r39 => ?_)
        refine at_goto dx_116_40 ?_
        refine at_wk (ls := [vr 856, vi _, vi _, vi _, vi _, vi _]) ⟨Or.inl rfl, Or.inl rfl, Or.inl rfl, Or.inl rfl, Or.inl rfl, Or.inl rfl, trivial⟩ ?_
        have hm1 := hm0 (by omega)
        first
        | exact ih _ (by omega) _ _ rf r39 (by omega) (fun h => by omega) rfl w1
        | (refine ih _ (by omega) _ _ rk r39 (by omega) (fun h => by omega) rfl (Or.inr ⟨hm1.1, by omega, hm1.2, by omega, ?_, ?_⟩)
           · rw [← h22]; split at h33 <;> omega
           · rw [← h22, ← h31]; split at h33 <;> omega)
      · skip
        refine at_iload dx_116_35 rfl ?_
        refine at_goto dx_116_36 ?_
        refine at_istore dx_116_38 ?_
        refine at_iincR (y := -1) dx_116_39 rfl rfl (by constructor <;> omega) (fun r39 => ?_)
        refine at_goto dx_116_40 ?_
        refine at_wk (ls := [vr 856, vi _, vi _, vi _, vi _, vi _]) ⟨Or.inl rfl, Or.inl rfl, Or.inl rfl, Or.inl rfl, Or.inl rfl, Or.inl rfl, trivial⟩ ?_
        have hm1 := hm0 (by omega)
        first
        | exact ih _ (by omega) _ _ rf r39 (by omega) (fun h => by omega) rfl w1
        | (refine ih _ (by omega) _ _ rk r39 (by omega) (fun h => by omega) rfl (Or.inr ⟨hm1.1, by omega, hm1.2, by omega, ?_, ?_⟩)
           · rw [← h22]; split at h33 <;> omega
           · rw [← h22, ← h31]; split at h33 <;> omega)
  refine at_const (x := -1) dx_116_0 rfl ?_
  refine at_istore dx_116_1 ?_
  refine at_aload dx_116_2 rfl ?_
  refine at_getR dx_116_3 lc_856 rfl lt_856_4 ?_
  refine at_iload dx_116_4 rfl ?_
  refine at_aldZ dx_116_5 lc_861 ln_861 (by first | omega | (simp (disch := omega) only [um_eq, um_k, um_j]; omega)) (by first | omega | (simp (disch := omega) only [um_eq, um_k, um_j]; omega)) (fun r5 => ?_)
  refine at_zeqR dx_116_6 r5 (fun c6 => ?_) (fun c6 => ?_)
  · skip
    refine at_aload dx_116_9 rfl ?_
    refine at_getR dx_116_10 lc_856 rfl lt_856_7 ?_
    refine at_iload dx_116_11 rfl ?_
    refine at_aldI dx_116_12 lc_864 ln_864 (by first | omega | (simp (disch := omega) only [um_eq, um_k, um_j]; omega)) (by first | omega | (simp (disch := omega) only [um_eq, um_k, um_j]; omega)) (fun r12 => ?_)
    refine at_const (x := 1) dx_116_13 rfl ?_
    refine at_subR dx_116_14 (by constructor <;> omega) (fun r14 => ?_)
    refine at_istore dx_116_15 ?_
    exact lp _ (-1) _ (by decide) (by first | assumption | decide) (by omega) (fun h => by omega) rfl (Or.inl rfl)
  · skip
    refine at_const (x := -1) dx_116_7 rfl ?_
    refine at_goto dx_116_8 ?_
    refine at_istore dx_116_15 ?_
    exact lp _ (-1) _ (by decide) (by first | assumption | decide) (by omega) (fun h => by omega) rfl (Or.inl rfl)

set_option maxRecDepth 100000 in
set_option maxHeartbeats 4000000 in
theorem m_maps0 {X : scr} {M : mem} {s a y : Int} (rs : inR s) (ra : inR a) (ry : inR y) {n : Int} (hs : 0 ≤ s ∧ s ≤ 100) (hv : okW (mv M s) n) (hn60 : 0 ≤ n ∧ n ≤ 60) (ha : 0 ≤ a ∧ a ≤ n) : At X 0 117 0 [vr 856, vi s, vi 0, vi a, vi y] [] M (qI (fun x M' => frE (fun q j => q = 856 ∧ j = 28) M M' ∧ 0 ≤ x ∧ x ≤ lenW (mv M s) n)) := by
  have hN := okW_N hv (by omega)
  have hu := okW_u hv
  obtain ⟨n1, n2, n3, n4, n5, n6⟩ := hN
  have lp : ∀ (n9 : Nat) (b k : Int) (rb : inR b) (rk : inR k) (hk : 0 ≤ k ∧ k ≤ 2) (hn : (2 - k).toNat = n9) (w1 : (k = 0 → b = 0) ∧ (0 < k → M 861 s = 0) ∧ (k = 1 → b = tkN M s 1 0 - tkN M s 0 0 ∧ bgN M s 0 0 + tkN M s 0 0 < a) ∧ (k = 2 → M 864 s = 2 ∧ b = tkN M s 1 0 - tkN M s 0 0 + (tkN M s 1 1 - tkN M s 0 1) ∧ bgN M s 0 1 + tkN M s 0 1 < a)), At X 0 117 4 [vr 856, vi s, vi 0, vi a, vi y, vi b, vi k] [] M (qI (fun x M' => frE (fun q j => q = 856 ∧ j = 28) M M' ∧ 0 ≤ x ∧ x ≤ lenW (mv M s) n)) := by
    intro n9
    induction n9 using Nat.strongRecOn with
    | ind n9 ih =>
    intro b k rb rk hk hn w1
    have hs0 : M 864 s ≤ 2 ∨ M 861 s ≠ 0 := by omega
    refine at_iload dx_117_4 rfl ?_
    refine at_aload dx_117_5 rfl ?_
    refine at_getR dx_117_6 lc_856 rfl lt_856_7 ?_
    refine at_iload dx_117_7 rfl ?_
    refine at_aldI dx_117_8 lc_864 ln_864 (by first | omega | (simp (disch := omega) only [um_eq, um_k, um_j]; omega)) (by first | omega | (simp (disch := omega) only [um_eq, um_k, um_j]; omega)) (fun r8 => ?_)
    refine at_cgeR dx_117_9 rk r8 (fun c9 => ?_) (fun c9 => ?_)
    · skip
      have hL : lenW (mv M s) n ≤ 300 ∧ -300 ≤ lenW (mv M s) n := by rw [lenW_mv]; omega
      have hb : -800 ≤ b ∧ b ≤ 800 := by
        obtain ⟨w2, w3, w4, w5⟩ := w1
        rcases (show k = 0 ∨ k = 1 ∨ k = 2 by omega) with e | e | e
        · have := w2 e; omega
        · have := (w4 e).1; rw [this]; unfold tkN; (repeat' split) <;> omega
        · have := (w5 e).2.1; rw [this]; unfold tkN; (repeat' split) <;> omega
      refine at_iload dx_117_107 rfl ?_
      refine at_iload dx_117_108 rfl ?_
      refine at_addR dx_117_109 (by constructor <;> omega) (fun r109 => ?_)
      refine at_iretI dx_117_110 r109 ?_
      refine ⟨fe_rf, ?_⟩
      rw [lenW_mv] at *
      simp [bgN, tkN] at w1
      obtain ⟨w2, w3, w4, w5⟩ := w1
      rcases (show k = 0 ∨ k = 1 ∨ k = 2 by omega) with e | e | e <;> subst e <;> simp [bgN, tkN] at * <;> omega
    · skip
      refine at_aload dx_117_10 rfl ?_
      refine at_getR dx_117_11 lc_856 rfl lt_856_4 ?_
      refine at_iload dx_117_12 rfl ?_
      refine at_aldZ dx_117_13 lc_861 ln_861 (by first | omega | (simp (disch := omega) only [um_eq, um_k, um_j]; omega)) (by first | omega | (simp (disch := omega) only [um_eq, um_k, um_j]; omega)) (fun r13 => ?_)
      refine at_zneR dx_117_14 r13 (fun c14 => ?_) (fun c14 => ?_)
      · skip
        have hL : lenW (mv M s) n ≤ 300 ∧ -300 ≤ lenW (mv M s) n := by rw [lenW_mv]; omega
        have hb : -800 ≤ b ∧ b ≤ 800 := by
          obtain ⟨w2, w3, w4, w5⟩ := w1
          rcases (show k = 0 ∨ k = 1 ∨ k = 2 by omega) with e | e | e
          · have := w2 e; omega
          · have := (w4 e).1; rw [this]; unfold tkN; (repeat' split) <;> omega
          · have := (w5 e).2.1; rw [this]; unfold tkN; (repeat' split) <;> omega
        refine at_iload dx_117_107 rfl ?_
        refine at_iload dx_117_108 rfl ?_
        refine at_addR dx_117_109 (by constructor <;> omega) (fun r109 => ?_)
        refine at_iretI dx_117_110 r109 ?_
        refine ⟨fe_rf, ?_⟩
        rw [lenW_mv] at *
        simp [bgN, tkN] at w1
        obtain ⟨w2, w3, w4, w5⟩ := w1
        rcases (show k = 0 ∨ k = 1 ∨ k = 2 by omega) with e | e | e <;> subst e <;> simp [bgN, tkN] at * <;> omega
      · skip
        have hL : lenW (mv M s) n ≤ 300 ∧ -300 ≤ lenW (mv M s) n := by rw [lenW_mv]; omega
        have hb : -800 ≤ b ∧ b ≤ 800 := by
          obtain ⟨w2, w3, w4, w5⟩ := w1
          rcases (show k = 0 ∨ k = 1 by omega) with e | e
          · have := w2 e; omega
          · have := (w4 e).1; rw [this]; unfold tkN; (repeat' split) <;> omega
        refine at_aload dx_117_15 rfl ?_
        refine at_iload dx_117_16 rfl ?_
        refine at_iload dx_117_17 rfl ?_
        refine at_iload dx_117_18 rfl ?_
        refine at_callVI dx_117_19 rfl lc_856 rfl (m_startOf rs (by decide) rk hs (by omega) ⟨n1, n2, n3, n4, n5, n6⟩) ?_
        rintro x19 M9 r19 ⟨e9, h19⟩; replace e9 := e9.symm; subst e9
        replace h19 := bg_of (by omega) h19
        have q19 : -300 ≤ x19 ∧ x19 ≤ 300 := by rw [h19]; unfold bgN; (repeat' split) <;> omega
        refine at_istore dx_117_20 ?_
        refine at_aload dx_117_21 rfl ?_
        refine at_iload dx_117_22 rfl ?_
        refine at_iload dx_117_23 rfl ?_
        refine at_iload dx_117_24 rfl ?_
        refine at_callVI dx_117_25 rfl lc_856 rfl (m_takesOf rs (by decide) rk hs (by omega)) ?_
        rintro x25 M9 r25 ⟨e9, h25⟩; replace e9 := e9.symm; subst e9
        replace h25 := tk_of (by omega) h25
        have q25 : -300 ≤ x25 ∧ x25 ≤ 300 := by rw [h25]; unfold tkN; (repeat' split) <;> omega
        refine at_istore dx_117_26 ?_
        refine at_aload dx_117_27 rfl ?_
        refine at_iload dx_117_28 rfl ?_
        refine at_iload dx_117_29 rfl ?_
        refine at_zneR dx_117_30 (by decide) (fun c => absurd c (by decide)) (fun _ => ?_)
        refine at_const (x := 1) dx_117_31 rfl ?_
        refine at_goto dx_117_32 ?_
        refine at_iload dx_117_34 rfl ?_
        refine at_callVI dx_117_35 rfl lc_856 rfl (m_takesOf rs (by decide) rk hs (by omega)) ?_
        rintro x35 M9 r35 ⟨e9, h35⟩; replace e9 := e9.symm; subst e9
        replace h35 := tk_of (by omega) h35
        have q35 : -300 ≤ x35 ∧ x35 ≤ 300 := by rw [h35]; unfold tkN; (repeat' split) <;> omega
        refine at_istore dx_117_36 ?_
        refine at_iload dx_117_37 rfl ?_
        refine at_iload dx_117_38 rfl ?_
        refine at_cgeR dx_117_39 ra r19 (fun c39 => ?_) (fun c39 => ?_)
        · skip
          refine at_iload dx_117_44 rfl ?_
          refine at_iload dx_117_45 rfl ?_
          refine at_iload dx_117_46 rfl ?_
          refine at_addR dx_117_47 (by constructor <;> omega) (fun r47 => ?_)
          refine at_cgtR dx_117_48 ra r47 (fun c48 => ?_) (fun c48 => ?_)
          · skip
            refine at_iload dx_117_99 rfl ?_
            refine at_iload dx_117_100 rfl ?_
            refine at_iload dx_117_101 rfl ?_
            refine at_subR dx_117_102 (by constructor <;> omega) (fun r102 => ?_)
            refine at_addR dx_117_103 (by constructor <;> omega) (fun r103 => ?_)
            refine at_istore dx_117_104 ?_
            refine at_iincR (y := 1) dx_117_105 rfl rfl (by constructor <;> omega) (fun r105 => ?_)
            refine at_goto dx_117_106 ?_
            refine at_wk (ls := [vr 856, vi _, vi _, vi _, vi _, vi _, vi _]) ⟨Or.inl rfl, Or.inl rfl, Or.inl rfl, Or.inl rfl, Or.inl rfl, Or.inl rfl, Or.inl rfl, trivial⟩ ?_
            refine ih _ (by omega) _ _ r103 r105 (by omega) rfl ⟨fun h => by omega, fun h => by omega, fun h => ?_, fun h => ?_⟩
            · have e : k = 0 := by omega
              subst e
              have := w1.1 rfl
              exact ⟨by omega, by omega⟩
            · have e : k = 1 := by omega
              subst e
              have := w1.2.2.1 rfl
              exact ⟨by omega, by omega, by omega⟩
          · skip
            refine at_iload dx_117_49 rfl ?_
            refine at_zleR dx_117_50 r25 (fun c50 => ?_) (fun c50 => ?_)
            · skip
              refine at_const (x := 0) dx_117_58 rfl ?_
              refine at_istore dx_117_59 ?_
              refine at_iload dx_117_60 rfl ?_
              refine at_zleR dx_117_61 r25 (fun c61 => ?_) (fun c61 => ?_)
              · skip
                refine at_const (x := 0) dx_117_67 rfl ?_
                refine at_istore dx_117_68 ?_
                refine at_aload dx_117_69 rfl ?_
                refine at_aload dx_117_70 rfl ?_
                refine at_getI 28 dx_117_71 lc_856 rfl rfl (fun r71 => ?_)
                refine at_zneR dx_117_72 r71 (fun c72 => ?_) (fun c72 => ?_)
                · skip
                  refine at_const (x := 1) dx_117_81 rfl ?_
                  refine at_goto dx_117_82 ?_
                  refine at_putZ 28 dx_117_84 lc_856 rfl rfl (Or.inr rfl) ?_
                  refine at_iload dx_117_85 rfl ?_
                  refine at_iload dx_117_86 rfl ?_
                  refine at_addR dx_117_87 (by constructor <;> omega) (fun r87 => ?_)
                  refine at_iload dx_117_88 rfl ?_
                  refine at_zneR dx_117_89 (by decide) (fun c => absurd c (by decide)) (fun _ => ?_)
                  refine at_iload dx_117_90 rfl ?_
                  refine at_zneR dx_117_91 (by decide) (fun c => absurd c (by decide)) (fun _ => ?_)
                  refine at_iload dx_117_92 rfl ?_
                  refine at_zeqR dx_117_93 ry (fun c93 => ?_) (fun c93 => ?_)
                  · skip
                    refine at_const (x := 0) dx_117_96 rfl ?_
                    refine at_addR dx_117_97 (by constructor <;> omega) (fun r97 => ?_)
                    refine at_iretI dx_117_98 r97 ?_
                    refine ⟨fe_um ⟨rfl, rfl⟩, ?_⟩
                    rw [lenW_mv] at *
                    simp [bgN, tkN] at w1
                    obtain ⟨w2, w3, w4, w5⟩ := w1
                    rcases (show k = 0 ∨ k = 1 ∨ k = 2 by omega) with e | e | e <;> subst e <;> simp [bgN, tkN] at * <;> omega
                  · skip
                    refine at_iload dx_117_94 rfl ?_
                    refine at_goto dx_117_95 ?_
                    refine at_addR dx_117_97 (by constructor <;> omega) (fun r97 => ?_)
                    refine at_iretI dx_117_98 r97 ?_
                    refine ⟨fe_um ⟨rfl, rfl⟩, ?_⟩
                    rw [lenW_mv] at *
                    simp [bgN, tkN] at w1
                    obtain ⟨w2, w3, w4, w5⟩ := w1
                    rcases (show k = 0 ∨ k = 1 ∨ k = 2 by omega) with e | e | e <;> subst e <;> simp [bgN, tkN] at * <;> omega
                · skip
                  refine at_iload dx_117_73 rfl ?_
                  refine at_iload dx_117_74 rfl ?_
                  refine at_cleR dx_117_75 ra r19 (fun c75 => ?_) (fun c75 => ?_)
                  · skip
                    refine at_const (x := 0) dx_117_83 rfl ?_
                    refine at_putZ 28 dx_117_84 lc_856 rfl rfl (Or.inl rfl) ?_
                    refine at_iload dx_117_85 rfl ?_
                    refine at_iload dx_117_86 rfl ?_
                    refine at_addR dx_117_87 (by constructor <;> omega) (fun r87 => ?_)
                    refine at_iload dx_117_88 rfl ?_
                    refine at_zneR dx_117_89 (by decide) (fun c => absurd c (by decide)) (fun _ => ?_)
                    refine at_iload dx_117_90 rfl ?_
                    refine at_zneR dx_117_91 (by decide) (fun c => absurd c (by decide)) (fun _ => ?_)
                    refine at_iload dx_117_92 rfl ?_
                    refine at_zeqR dx_117_93 ry (fun c93 => ?_) (fun c93 => ?_)
                    · skip
                      refine at_const (x := 0) dx_117_96 rfl ?_
                      refine at_addR dx_117_97 (by constructor <;> omega) (fun r97 => ?_)
                      refine at_iretI dx_117_98 r97 ?_
                      refine ⟨fe_um ⟨rfl, rfl⟩, ?_⟩
                      rw [lenW_mv] at *
                      simp [bgN, tkN] at w1
                      obtain ⟨w2, w3, w4, w5⟩ := w1
                      rcases (show k = 0 ∨ k = 1 ∨ k = 2 by omega) with e | e | e <;> subst e <;> simp [bgN, tkN] at * <;> omega
                    · skip
                      refine at_iload dx_117_94 rfl ?_
                      refine at_goto dx_117_95 ?_
                      refine at_addR dx_117_97 (by constructor <;> omega) (fun r97 => ?_)
                      refine at_iretI dx_117_98 r97 ?_
                      refine ⟨fe_um ⟨rfl, rfl⟩, ?_⟩
                      rw [lenW_mv] at *
                      simp [bgN, tkN] at w1
                      obtain ⟨w2, w3, w4, w5⟩ := w1
                      rcases (show k = 0 ∨ k = 1 ∨ k = 2 by omega) with e | e | e <;> subst e <;> simp [bgN, tkN] at * <;> omega
                  · skip
                    refine at_iload dx_117_76 rfl ?_
                    refine at_iload dx_117_77 rfl ?_
                    refine at_iload dx_117_78 rfl ?_
                    refine at_addR dx_117_79 (by constructor <;> omega) (fun r79 => ?_)
                    refine at_cgeR dx_117_80 ra r79 (fun c80 => ?_) (fun c80 => ?_)
                    · skip
                      refine at_const (x := 0) dx_117_83 rfl ?_
                      refine at_putZ 28 dx_117_84 lc_856 rfl rfl (Or.inl rfl) ?_
                      refine at_iload dx_117_85 rfl ?_
                      refine at_iload dx_117_86 rfl ?_
                      refine at_addR dx_117_87 (by constructor <;> omega) (fun r87 => ?_)
                      refine at_iload dx_117_88 rfl ?_
                      refine at_zneR dx_117_89 (by decide) (fun c => absurd c (by decide)) (fun _ => ?_)
                      refine at_iload dx_117_90 rfl ?_
                      refine at_zneR dx_117_91 (by decide) (fun c => absurd c (by decide)) (fun _ => ?_)
                      refine at_iload dx_117_92 rfl ?_
                      refine at_zeqR dx_117_93 ry (fun c93 => ?_) (fun c93 => ?_)
                      · skip
                        refine at_const (x := 0) dx_117_96 rfl ?_
                        refine at_addR dx_117_97 (by constructor <;> omega) (fun r97 => ?_)
                        refine at_iretI dx_117_98 r97 ?_
                        refine ⟨fe_um ⟨rfl, rfl⟩, ?_⟩
                        rw [lenW_mv] at *
                        simp [bgN, tkN] at w1
                        obtain ⟨w2, w3, w4, w5⟩ := w1
                        rcases (show k = 0 ∨ k = 1 ∨ k = 2 by omega) with e | e | e <;> subst e <;> simp [bgN, tkN] at * <;> omega
                      · skip
                        refine at_iload dx_117_94 rfl ?_
                        refine at_goto dx_117_95 ?_
                        refine at_addR dx_117_97 (by constructor <;> omega) (fun r97 => ?_)
                        refine at_iretI dx_117_98 r97 ?_
                        refine ⟨fe_um ⟨rfl, rfl⟩, ?_⟩
                        rw [lenW_mv] at *
                        simp [bgN, tkN] at w1
                        obtain ⟨w2, w3, w4, w5⟩ := w1
                        rcases (show k = 0 ∨ k = 1 ∨ k = 2 by omega) with e | e | e <;> subst e <;> simp [bgN, tkN] at * <;> omega
                    · skip
                      refine at_const (x := 1) dx_117_81 rfl ?_
                      refine at_goto dx_117_82 ?_
                      refine at_putZ 28 dx_117_84 lc_856 rfl rfl (Or.inr rfl) ?_
                      refine at_iload dx_117_85 rfl ?_
                      refine at_iload dx_117_86 rfl ?_
                      refine at_addR dx_117_87 (by constructor <;> omega) (fun r87 => ?_)
                      refine at_iload dx_117_88 rfl ?_
                      refine at_zneR dx_117_89 (by decide) (fun c => absurd c (by decide)) (fun _ => ?_)
                      refine at_iload dx_117_90 rfl ?_
                      refine at_zneR dx_117_91 (by decide) (fun c => absurd c (by decide)) (fun _ => ?_)
                      refine at_iload dx_117_92 rfl ?_
                      refine at_zeqR dx_117_93 ry (fun c93 => ?_) (fun c93 => ?_)
                      · skip
                        refine at_const (x := 0) dx_117_96 rfl ?_
                        refine at_addR dx_117_97 (by constructor <;> omega) (fun r97 => ?_)
                        refine at_iretI dx_117_98 r97 ?_
                        refine ⟨fe_um ⟨rfl, rfl⟩, ?_⟩
                        rw [lenW_mv] at *
                        simp [bgN, tkN] at w1
                        obtain ⟨w2, w3, w4, w5⟩ := w1
                        rcases (show k = 0 ∨ k = 1 ∨ k = 2 by omega) with e | e | e <;> subst e <;> simp [bgN, tkN] at * <;> omega
                      · skip
                        refine at_iload dx_117_94 rfl ?_
                        refine at_goto dx_117_95 ?_
                        refine at_addR dx_117_97 (by constructor <;> omega) (fun r97 => ?_)
                        refine at_iretI dx_117_98 r97 ?_
                        refine ⟨fe_um ⟨rfl, rfl⟩, ?_⟩
                        rw [lenW_mv] at *
                        simp [bgN, tkN] at w1
                        obtain ⟨w2, w3, w4, w5⟩ := w1
                        rcases (show k = 0 ∨ k = 1 ∨ k = 2 by omega) with e | e | e <;> subst e <;> simp [bgN, tkN] at * <;> omega
              · skip
                refine at_iload dx_117_62 rfl ?_
                refine at_iload dx_117_63 rfl ?_
                refine at_cneR dx_117_64 ra r19 (fun c64 => ?_) (fun c64 => ?_)
                · skip
                  refine at_const (x := 0) dx_117_67 rfl ?_
                  refine at_istore dx_117_68 ?_
                  refine at_aload dx_117_69 rfl ?_
                  refine at_aload dx_117_70 rfl ?_
                  refine at_getI 28 dx_117_71 lc_856 rfl rfl (fun r71 => ?_)
                  refine at_zneR dx_117_72 r71 (fun c72 => ?_) (fun c72 => ?_)
                  · skip
                    refine at_const (x := 1) dx_117_81 rfl ?_
                    refine at_goto dx_117_82 ?_
                    refine at_putZ 28 dx_117_84 lc_856 rfl rfl (Or.inr rfl) ?_
                    refine at_iload dx_117_85 rfl ?_
                    refine at_iload dx_117_86 rfl ?_
                    refine at_addR dx_117_87 (by constructor <;> omega) (fun r87 => ?_)
                    refine at_iload dx_117_88 rfl ?_
                    refine at_zneR dx_117_89 (by decide) (fun c => absurd c (by decide)) (fun _ => ?_)
                    refine at_iload dx_117_90 rfl ?_
                    refine at_zneR dx_117_91 (by decide) (fun c => absurd c (by decide)) (fun _ => ?_)
                    refine at_iload dx_117_92 rfl ?_
                    refine at_zeqR dx_117_93 ry (fun c93 => ?_) (fun c93 => ?_)
                    · skip
                      refine at_const (x := 0) dx_117_96 rfl ?_
                      refine at_addR dx_117_97 (by constructor <;> omega) (fun r97 => ?_)
                      refine at_iretI dx_117_98 r97 ?_
                      refine ⟨fe_um ⟨rfl, rfl⟩, ?_⟩
                      rw [lenW_mv] at *
                      simp [bgN, tkN] at w1
                      obtain ⟨w2, w3, w4, w5⟩ := w1
                      rcases (show k = 0 ∨ k = 1 ∨ k = 2 by omega) with e | e | e <;> subst e <;> simp [bgN, tkN] at * <;> omega
                    · skip
                      refine at_iload dx_117_94 rfl ?_
                      refine at_goto dx_117_95 ?_
                      refine at_addR dx_117_97 (by constructor <;> omega) (fun r97 => ?_)
                      refine at_iretI dx_117_98 r97 ?_
                      refine ⟨fe_um ⟨rfl, rfl⟩, ?_⟩
                      rw [lenW_mv] at *
                      simp [bgN, tkN] at w1
                      obtain ⟨w2, w3, w4, w5⟩ := w1
                      rcases (show k = 0 ∨ k = 1 ∨ k = 2 by omega) with e | e | e <;> subst e <;> simp [bgN, tkN] at * <;> omega
                  · skip
                    refine at_iload dx_117_73 rfl ?_
                    refine at_iload dx_117_74 rfl ?_
                    refine at_cleR dx_117_75 ra r19 (fun c75 => ?_) (fun c75 => ?_)
                    · skip
                      refine at_const (x := 0) dx_117_83 rfl ?_
                      refine at_putZ 28 dx_117_84 lc_856 rfl rfl (Or.inl rfl) ?_
                      refine at_iload dx_117_85 rfl ?_
                      refine at_iload dx_117_86 rfl ?_
                      refine at_addR dx_117_87 (by constructor <;> omega) (fun r87 => ?_)
                      refine at_iload dx_117_88 rfl ?_
                      refine at_zneR dx_117_89 (by decide) (fun c => absurd c (by decide)) (fun _ => ?_)
                      refine at_iload dx_117_90 rfl ?_
                      refine at_zneR dx_117_91 (by decide) (fun c => absurd c (by decide)) (fun _ => ?_)
                      refine at_iload dx_117_92 rfl ?_
                      refine at_zeqR dx_117_93 ry (fun c93 => ?_) (fun c93 => ?_)
                      · skip
                        refine at_const (x := 0) dx_117_96 rfl ?_
                        refine at_addR dx_117_97 (by constructor <;> omega) (fun r97 => ?_)
                        refine at_iretI dx_117_98 r97 ?_
                        refine ⟨fe_um ⟨rfl, rfl⟩, ?_⟩
                        rw [lenW_mv] at *
                        simp [bgN, tkN] at w1
                        obtain ⟨w2, w3, w4, w5⟩ := w1
                        rcases (show k = 0 ∨ k = 1 ∨ k = 2 by omega) with e | e | e <;> subst e <;> simp [bgN, tkN] at * <;> omega
                      · skip
                        refine at_iload dx_117_94 rfl ?_
                        refine at_goto dx_117_95 ?_
                        refine at_addR dx_117_97 (by constructor <;> omega) (fun r97 => ?_)
                        refine at_iretI dx_117_98 r97 ?_
                        refine ⟨fe_um ⟨rfl, rfl⟩, ?_⟩
                        rw [lenW_mv] at *
                        simp [bgN, tkN] at w1
                        obtain ⟨w2, w3, w4, w5⟩ := w1
                        rcases (show k = 0 ∨ k = 1 ∨ k = 2 by omega) with e | e | e <;> subst e <;> simp [bgN, tkN] at * <;> omega
                    · skip
                      refine at_iload dx_117_76 rfl ?_
                      refine at_iload dx_117_77 rfl ?_
                      refine at_iload dx_117_78 rfl ?_
                      refine at_addR dx_117_79 (by constructor <;> omega) (fun r79 => ?_)
                      refine at_cgeR dx_117_80 ra r79 (fun c80 => ?_) (fun c80 => ?_)
                      · skip
                        refine at_const (x := 0) dx_117_83 rfl ?_
                        refine at_putZ 28 dx_117_84 lc_856 rfl rfl (Or.inl rfl) ?_
                        refine at_iload dx_117_85 rfl ?_
                        refine at_iload dx_117_86 rfl ?_
                        refine at_addR dx_117_87 (by constructor <;> omega) (fun r87 => ?_)
                        refine at_iload dx_117_88 rfl ?_
                        refine at_zneR dx_117_89 (by decide) (fun c => absurd c (by decide)) (fun _ => ?_)
                        refine at_iload dx_117_90 rfl ?_
                        refine at_zneR dx_117_91 (by decide) (fun c => absurd c (by decide)) (fun _ => ?_)
                        refine at_iload dx_117_92 rfl ?_
                        refine at_zeqR dx_117_93 ry (fun c93 => ?_) (fun c93 => ?_)
                        · skip
                          refine at_const (x := 0) dx_117_96 rfl ?_
                          refine at_addR dx_117_97 (by constructor <;> omega) (fun r97 => ?_)
                          refine at_iretI dx_117_98 r97 ?_
                          refine ⟨fe_um ⟨rfl, rfl⟩, ?_⟩
                          rw [lenW_mv] at *
                          simp [bgN, tkN] at w1
                          obtain ⟨w2, w3, w4, w5⟩ := w1
                          rcases (show k = 0 ∨ k = 1 ∨ k = 2 by omega) with e | e | e <;> subst e <;> simp [bgN, tkN] at * <;> omega
                        · skip
                          refine at_iload dx_117_94 rfl ?_
                          refine at_goto dx_117_95 ?_
                          refine at_addR dx_117_97 (by constructor <;> omega) (fun r97 => ?_)
                          refine at_iretI dx_117_98 r97 ?_
                          refine ⟨fe_um ⟨rfl, rfl⟩, ?_⟩
                          rw [lenW_mv] at *
                          simp [bgN, tkN] at w1
                          obtain ⟨w2, w3, w4, w5⟩ := w1
                          rcases (show k = 0 ∨ k = 1 ∨ k = 2 by omega) with e | e | e <;> subst e <;> simp [bgN, tkN] at * <;> omega
                      · skip
                        refine at_const (x := 1) dx_117_81 rfl ?_
                        refine at_goto dx_117_82 ?_
                        refine at_putZ 28 dx_117_84 lc_856 rfl rfl (Or.inr rfl) ?_
                        refine at_iload dx_117_85 rfl ?_
                        refine at_iload dx_117_86 rfl ?_
                        refine at_addR dx_117_87 (by constructor <;> omega) (fun r87 => ?_)
                        refine at_iload dx_117_88 rfl ?_
                        refine at_zneR dx_117_89 (by decide) (fun c => absurd c (by decide)) (fun _ => ?_)
                        refine at_iload dx_117_90 rfl ?_
                        refine at_zneR dx_117_91 (by decide) (fun c => absurd c (by decide)) (fun _ => ?_)
                        refine at_iload dx_117_92 rfl ?_
                        refine at_zeqR dx_117_93 ry (fun c93 => ?_) (fun c93 => ?_)
                        · skip
                          refine at_const (x := 0) dx_117_96 rfl ?_
                          refine at_addR dx_117_97 (by constructor <;> omega) (fun r97 => ?_)
                          refine at_iretI dx_117_98 r97 ?_
                          refine ⟨fe_um ⟨rfl, rfl⟩, ?_⟩
                          rw [lenW_mv] at *
                          simp [bgN, tkN] at w1
                          obtain ⟨w2, w3, w4, w5⟩ := w1
                          rcases (show k = 0 ∨ k = 1 ∨ k = 2 by omega) with e | e | e <;> subst e <;> simp [bgN, tkN] at * <;> omega
                        · skip
                          refine at_iload dx_117_94 rfl ?_
                          refine at_goto dx_117_95 ?_
                          refine at_addR dx_117_97 (by constructor <;> omega) (fun r97 => ?_)
                          refine at_iretI dx_117_98 r97 ?_
                          refine ⟨fe_um ⟨rfl, rfl⟩, ?_⟩
                          rw [lenW_mv] at *
                          simp [bgN, tkN] at w1
                          obtain ⟨w2, w3, w4, w5⟩ := w1
                          rcases (show k = 0 ∨ k = 1 ∨ k = 2 by omega) with e | e | e <;> subst e <;> simp [bgN, tkN] at * <;> omega
                · skip
                  refine at_const (x := 1) dx_117_65 rfl ?_
                  refine at_goto dx_117_66 ?_
                  refine at_istore dx_117_68 ?_
                  refine at_aload dx_117_69 rfl ?_
                  refine at_aload dx_117_70 rfl ?_
                  refine at_getI 28 dx_117_71 lc_856 rfl rfl (fun r71 => ?_)
                  refine at_zneR dx_117_72 r71 (fun c72 => ?_) (fun c72 => ?_)
                  · skip
                    refine at_const (x := 1) dx_117_81 rfl ?_
                    refine at_goto dx_117_82 ?_
                    refine at_putZ 28 dx_117_84 lc_856 rfl rfl (Or.inr rfl) ?_
                    refine at_iload dx_117_85 rfl ?_
                    refine at_iload dx_117_86 rfl ?_
                    refine at_addR dx_117_87 (by constructor <;> omega) (fun r87 => ?_)
                    refine at_iload dx_117_88 rfl ?_
                    refine at_zneR dx_117_89 (by decide) (fun c => absurd c (by decide)) (fun _ => ?_)
                    refine at_iload dx_117_90 rfl ?_
                    refine at_zneR dx_117_91 (by decide) (fun _ => ?_) (fun c => absurd c (by decide))
                    refine at_const (x := 0) dx_117_96 rfl ?_
                    refine at_addR dx_117_97 (by constructor <;> omega) (fun r97 => ?_)
                    refine at_iretI dx_117_98 r97 ?_
                    refine ⟨fe_um ⟨rfl, rfl⟩, ?_⟩
                    rw [lenW_mv] at *
                    simp [bgN, tkN] at w1
                    obtain ⟨w2, w3, w4, w5⟩ := w1
                    rcases (show k = 0 ∨ k = 1 ∨ k = 2 by omega) with e | e | e <;> subst e <;> simp [bgN, tkN] at * <;> omega
                  · skip
                    refine at_iload dx_117_73 rfl ?_
                    refine at_iload dx_117_74 rfl ?_
                    refine at_cleR dx_117_75 ra r19 (fun c75 => ?_) (fun c75 => ?_)
                    · skip
                      refine at_const (x := 0) dx_117_83 rfl ?_
                      refine at_putZ 28 dx_117_84 lc_856 rfl rfl (Or.inl rfl) ?_
                      refine at_iload dx_117_85 rfl ?_
                      refine at_iload dx_117_86 rfl ?_
                      refine at_addR dx_117_87 (by constructor <;> omega) (fun r87 => ?_)
                      refine at_iload dx_117_88 rfl ?_
                      refine at_zneR dx_117_89 (by decide) (fun c => absurd c (by decide)) (fun _ => ?_)
                      refine at_iload dx_117_90 rfl ?_
                      refine at_zneR dx_117_91 (by decide) (fun _ => ?_) (fun c => absurd c (by decide))
                      refine at_const (x := 0) dx_117_96 rfl ?_
                      refine at_addR dx_117_97 (by constructor <;> omega) (fun r97 => ?_)
                      refine at_iretI dx_117_98 r97 ?_
                      refine ⟨fe_um ⟨rfl, rfl⟩, ?_⟩
                      rw [lenW_mv] at *
                      simp [bgN, tkN] at w1
                      obtain ⟨w2, w3, w4, w5⟩ := w1
                      rcases (show k = 0 ∨ k = 1 ∨ k = 2 by omega) with e | e | e <;> subst e <;> simp [bgN, tkN] at * <;> omega
                    · skip
                      refine at_iload dx_117_76 rfl ?_
                      refine at_iload dx_117_77 rfl ?_
                      refine at_iload dx_117_78 rfl ?_
                      refine at_addR dx_117_79 (by constructor <;> omega) (fun r79 => ?_)
                      refine at_cgeR dx_117_80 ra r79 (fun c80 => ?_) (fun c80 => ?_)
                      · skip
                        refine at_const (x := 0) dx_117_83 rfl ?_
                        refine at_putZ 28 dx_117_84 lc_856 rfl rfl (Or.inl rfl) ?_
                        refine at_iload dx_117_85 rfl ?_
                        refine at_iload dx_117_86 rfl ?_
                        refine at_addR dx_117_87 (by constructor <;> omega) (fun r87 => ?_)
                        refine at_iload dx_117_88 rfl ?_
                        refine at_zneR dx_117_89 (by decide) (fun c => absurd c (by decide)) (fun _ => ?_)
                        refine at_iload dx_117_90 rfl ?_
                        refine at_zneR dx_117_91 (by decide) (fun _ => ?_) (fun c => absurd c (by decide))
                        refine at_const (x := 0) dx_117_96 rfl ?_
                        refine at_addR dx_117_97 (by constructor <;> omega) (fun r97 => ?_)
                        refine at_iretI dx_117_98 r97 ?_
                        refine ⟨fe_um ⟨rfl, rfl⟩, ?_⟩
                        rw [lenW_mv] at *
                        simp [bgN, tkN] at w1
                        obtain ⟨w2, w3, w4, w5⟩ := w1
                        rcases (show k = 0 ∨ k = 1 ∨ k = 2 by omega) with e | e | e <;> subst e <;> simp [bgN, tkN] at * <;> omega
                      · skip
                        refine at_const (x := 1) dx_117_81 rfl ?_
                        refine at_goto dx_117_82 ?_
                        refine at_putZ 28 dx_117_84 lc_856 rfl rfl (Or.inr rfl) ?_
                        refine at_iload dx_117_85 rfl ?_
                        refine at_iload dx_117_86 rfl ?_
                        refine at_addR dx_117_87 (by constructor <;> omega) (fun r87 => ?_)
                        refine at_iload dx_117_88 rfl ?_
                        refine at_zneR dx_117_89 (by decide) (fun c => absurd c (by decide)) (fun _ => ?_)
                        refine at_iload dx_117_90 rfl ?_
                        refine at_zneR dx_117_91 (by decide) (fun _ => ?_) (fun c => absurd c (by decide))
                        refine at_const (x := 0) dx_117_96 rfl ?_
                        refine at_addR dx_117_97 (by constructor <;> omega) (fun r97 => ?_)
                        refine at_iretI dx_117_98 r97 ?_
                        refine ⟨fe_um ⟨rfl, rfl⟩, ?_⟩
                        rw [lenW_mv] at *
                        simp [bgN, tkN] at w1
                        obtain ⟨w2, w3, w4, w5⟩ := w1
                        rcases (show k = 0 ∨ k = 1 ∨ k = 2 by omega) with e | e | e <;> subst e <;> simp [bgN, tkN] at * <;> omega
            · skip
              refine at_iload dx_117_51 rfl ?_
              refine at_iload dx_117_52 rfl ?_
              refine at_iload dx_117_53 rfl ?_
              refine at_addR dx_117_54 (by constructor <;> omega) (fun r54 => ?_)
              refine at_cneR dx_117_55 ra r54 (fun c55 => ?_) (fun c55 => ?_)
              · skip
                refine at_const (x := 0) dx_117_58 rfl ?_
                refine at_istore dx_117_59 ?_
                refine at_iload dx_117_60 rfl ?_
                refine at_zleR dx_117_61 r25 (fun c61 => ?_) (fun c61 => ?_)
                · skip
                  refine at_const (x := 0) dx_117_67 rfl ?_
                  refine at_istore dx_117_68 ?_
                  refine at_aload dx_117_69 rfl ?_
                  refine at_aload dx_117_70 rfl ?_
                  refine at_getI 28 dx_117_71 lc_856 rfl rfl (fun r71 => ?_)
                  refine at_zneR dx_117_72 r71 (fun c72 => ?_) (fun c72 => ?_)
                  · skip
                    refine at_const (x := 1) dx_117_81 rfl ?_
                    refine at_goto dx_117_82 ?_
                    refine at_putZ 28 dx_117_84 lc_856 rfl rfl (Or.inr rfl) ?_
                    refine at_iload dx_117_85 rfl ?_
                    refine at_iload dx_117_86 rfl ?_
                    refine at_addR dx_117_87 (by constructor <;> omega) (fun r87 => ?_)
                    refine at_iload dx_117_88 rfl ?_
                    refine at_zneR dx_117_89 (by decide) (fun c => absurd c (by decide)) (fun _ => ?_)
                    refine at_iload dx_117_90 rfl ?_
                    refine at_zneR dx_117_91 (by decide) (fun c => absurd c (by decide)) (fun _ => ?_)
                    refine at_iload dx_117_92 rfl ?_
                    refine at_zeqR dx_117_93 ry (fun c93 => ?_) (fun c93 => ?_)
                    · skip
                      refine at_const (x := 0) dx_117_96 rfl ?_
                      refine at_addR dx_117_97 (by constructor <;> omega) (fun r97 => ?_)
                      refine at_iretI dx_117_98 r97 ?_
                      refine ⟨fe_um ⟨rfl, rfl⟩, ?_⟩
                      rw [lenW_mv] at *
                      simp [bgN, tkN] at w1
                      obtain ⟨w2, w3, w4, w5⟩ := w1
                      rcases (show k = 0 ∨ k = 1 ∨ k = 2 by omega) with e | e | e <;> subst e <;> simp [bgN, tkN] at * <;> omega
                    · skip
                      refine at_iload dx_117_94 rfl ?_
                      refine at_goto dx_117_95 ?_
                      refine at_addR dx_117_97 (by constructor <;> omega) (fun r97 => ?_)
                      refine at_iretI dx_117_98 r97 ?_
                      refine ⟨fe_um ⟨rfl, rfl⟩, ?_⟩
                      rw [lenW_mv] at *
                      simp [bgN, tkN] at w1
                      obtain ⟨w2, w3, w4, w5⟩ := w1
                      rcases (show k = 0 ∨ k = 1 ∨ k = 2 by omega) with e | e | e <;> subst e <;> simp [bgN, tkN] at * <;> omega
                  · skip
                    refine at_iload dx_117_73 rfl ?_
                    refine at_iload dx_117_74 rfl ?_
                    refine at_cleR dx_117_75 ra r19 (fun c75 => ?_) (fun c75 => ?_)
                    · skip
                      refine at_const (x := 0) dx_117_83 rfl ?_
                      refine at_putZ 28 dx_117_84 lc_856 rfl rfl (Or.inl rfl) ?_
                      refine at_iload dx_117_85 rfl ?_
                      refine at_iload dx_117_86 rfl ?_
                      refine at_addR dx_117_87 (by constructor <;> omega) (fun r87 => ?_)
                      refine at_iload dx_117_88 rfl ?_
                      refine at_zneR dx_117_89 (by decide) (fun c => absurd c (by decide)) (fun _ => ?_)
                      refine at_iload dx_117_90 rfl ?_
                      refine at_zneR dx_117_91 (by decide) (fun c => absurd c (by decide)) (fun _ => ?_)
                      refine at_iload dx_117_92 rfl ?_
                      refine at_zeqR dx_117_93 ry (fun c93 => ?_) (fun c93 => ?_)
                      · skip
                        refine at_const (x := 0) dx_117_96 rfl ?_
                        refine at_addR dx_117_97 (by constructor <;> omega) (fun r97 => ?_)
                        refine at_iretI dx_117_98 r97 ?_
                        refine ⟨fe_um ⟨rfl, rfl⟩, ?_⟩
                        rw [lenW_mv] at *
                        simp [bgN, tkN] at w1
                        obtain ⟨w2, w3, w4, w5⟩ := w1
                        rcases (show k = 0 ∨ k = 1 ∨ k = 2 by omega) with e | e | e <;> subst e <;> simp [bgN, tkN] at * <;> omega
                      · skip
                        refine at_iload dx_117_94 rfl ?_
                        refine at_goto dx_117_95 ?_
                        refine at_addR dx_117_97 (by constructor <;> omega) (fun r97 => ?_)
                        refine at_iretI dx_117_98 r97 ?_
                        refine ⟨fe_um ⟨rfl, rfl⟩, ?_⟩
                        rw [lenW_mv] at *
                        simp [bgN, tkN] at w1
                        obtain ⟨w2, w3, w4, w5⟩ := w1
                        rcases (show k = 0 ∨ k = 1 ∨ k = 2 by omega) with e | e | e <;> subst e <;> simp [bgN, tkN] at * <;> omega
                    · skip
                      refine at_iload dx_117_76 rfl ?_
                      refine at_iload dx_117_77 rfl ?_
                      refine at_iload dx_117_78 rfl ?_
                      refine at_addR dx_117_79 (by constructor <;> omega) (fun r79 => ?_)
                      refine at_cgeR dx_117_80 ra r79 (fun c80 => ?_) (fun c80 => ?_)
                      · skip
                        refine at_const (x := 0) dx_117_83 rfl ?_
                        refine at_putZ 28 dx_117_84 lc_856 rfl rfl (Or.inl rfl) ?_
                        refine at_iload dx_117_85 rfl ?_
                        refine at_iload dx_117_86 rfl ?_
                        refine at_addR dx_117_87 (by constructor <;> omega) (fun r87 => ?_)
                        refine at_iload dx_117_88 rfl ?_
                        refine at_zneR dx_117_89 (by decide) (fun c => absurd c (by decide)) (fun _ => ?_)
                        refine at_iload dx_117_90 rfl ?_
                        refine at_zneR dx_117_91 (by decide) (fun c => absurd c (by decide)) (fun _ => ?_)
                        refine at_iload dx_117_92 rfl ?_
                        refine at_zeqR dx_117_93 ry (fun c93 => ?_) (fun c93 => ?_)
                        · skip
                          refine at_const (x := 0) dx_117_96 rfl ?_
                          refine at_addR dx_117_97 (by constructor <;> omega) (fun r97 => ?_)
                          refine at_iretI dx_117_98 r97 ?_
                          refine ⟨fe_um ⟨rfl, rfl⟩, ?_⟩
                          rw [lenW_mv] at *
                          simp [bgN, tkN] at w1
                          obtain ⟨w2, w3, w4, w5⟩ := w1
                          rcases (show k = 0 ∨ k = 1 ∨ k = 2 by omega) with e | e | e <;> subst e <;> simp [bgN, tkN] at * <;> omega
                        · skip
                          refine at_iload dx_117_94 rfl ?_
                          refine at_goto dx_117_95 ?_
                          refine at_addR dx_117_97 (by constructor <;> omega) (fun r97 => ?_)
                          refine at_iretI dx_117_98 r97 ?_
                          refine ⟨fe_um ⟨rfl, rfl⟩, ?_⟩
                          rw [lenW_mv] at *
                          simp [bgN, tkN] at w1
                          obtain ⟨w2, w3, w4, w5⟩ := w1
                          rcases (show k = 0 ∨ k = 1 ∨ k = 2 by omega) with e | e | e <;> subst e <;> simp [bgN, tkN] at * <;> omega
                      · skip
                        refine at_const (x := 1) dx_117_81 rfl ?_
                        refine at_goto dx_117_82 ?_
                        refine at_putZ 28 dx_117_84 lc_856 rfl rfl (Or.inr rfl) ?_
                        refine at_iload dx_117_85 rfl ?_
                        refine at_iload dx_117_86 rfl ?_
                        refine at_addR dx_117_87 (by constructor <;> omega) (fun r87 => ?_)
                        refine at_iload dx_117_88 rfl ?_
                        refine at_zneR dx_117_89 (by decide) (fun c => absurd c (by decide)) (fun _ => ?_)
                        refine at_iload dx_117_90 rfl ?_
                        refine at_zneR dx_117_91 (by decide) (fun c => absurd c (by decide)) (fun _ => ?_)
                        refine at_iload dx_117_92 rfl ?_
                        refine at_zeqR dx_117_93 ry (fun c93 => ?_) (fun c93 => ?_)
                        · skip
                          refine at_const (x := 0) dx_117_96 rfl ?_
                          refine at_addR dx_117_97 (by constructor <;> omega) (fun r97 => ?_)
                          refine at_iretI dx_117_98 r97 ?_
                          refine ⟨fe_um ⟨rfl, rfl⟩, ?_⟩
                          rw [lenW_mv] at *
                          simp [bgN, tkN] at w1
                          obtain ⟨w2, w3, w4, w5⟩ := w1
                          rcases (show k = 0 ∨ k = 1 ∨ k = 2 by omega) with e | e | e <;> subst e <;> simp [bgN, tkN] at * <;> omega
                        · skip
                          refine at_iload dx_117_94 rfl ?_
                          refine at_goto dx_117_95 ?_
                          refine at_addR dx_117_97 (by constructor <;> omega) (fun r97 => ?_)
                          refine at_iretI dx_117_98 r97 ?_
                          refine ⟨fe_um ⟨rfl, rfl⟩, ?_⟩
                          rw [lenW_mv] at *
                          simp [bgN, tkN] at w1
                          obtain ⟨w2, w3, w4, w5⟩ := w1
                          rcases (show k = 0 ∨ k = 1 ∨ k = 2 by omega) with e | e | e <;> subst e <;> simp [bgN, tkN] at * <;> omega
                · skip
                  refine at_iload dx_117_62 rfl ?_
                  refine at_iload dx_117_63 rfl ?_
                  refine at_cneR dx_117_64 ra r19 (fun c64 => ?_) (fun c64 => ?_)
                  · skip
                    refine at_const (x := 0) dx_117_67 rfl ?_
                    refine at_istore dx_117_68 ?_
                    refine at_aload dx_117_69 rfl ?_
                    refine at_aload dx_117_70 rfl ?_
                    refine at_getI 28 dx_117_71 lc_856 rfl rfl (fun r71 => ?_)
                    refine at_zneR dx_117_72 r71 (fun c72 => ?_) (fun c72 => ?_)
                    · skip
                      refine at_const (x := 1) dx_117_81 rfl ?_
                      refine at_goto dx_117_82 ?_
                      refine at_putZ 28 dx_117_84 lc_856 rfl rfl (Or.inr rfl) ?_
                      refine at_iload dx_117_85 rfl ?_
                      refine at_iload dx_117_86 rfl ?_
                      refine at_addR dx_117_87 (by constructor <;> omega) (fun r87 => ?_)
                      refine at_iload dx_117_88 rfl ?_
                      refine at_zneR dx_117_89 (by decide) (fun c => absurd c (by decide)) (fun _ => ?_)
                      refine at_iload dx_117_90 rfl ?_
                      refine at_zneR dx_117_91 (by decide) (fun c => absurd c (by decide)) (fun _ => ?_)
                      refine at_iload dx_117_92 rfl ?_
                      refine at_zeqR dx_117_93 ry (fun c93 => ?_) (fun c93 => ?_)
                      · skip
                        refine at_const (x := 0) dx_117_96 rfl ?_
                        refine at_addR dx_117_97 (by constructor <;> omega) (fun r97 => ?_)
                        refine at_iretI dx_117_98 r97 ?_
                        refine ⟨fe_um ⟨rfl, rfl⟩, ?_⟩
                        rw [lenW_mv] at *
                        simp [bgN, tkN] at w1
                        obtain ⟨w2, w3, w4, w5⟩ := w1
                        rcases (show k = 0 ∨ k = 1 ∨ k = 2 by omega) with e | e | e <;> subst e <;> simp [bgN, tkN] at * <;> omega
                      · skip
                        refine at_iload dx_117_94 rfl ?_
                        refine at_goto dx_117_95 ?_
                        refine at_addR dx_117_97 (by constructor <;> omega) (fun r97 => ?_)
                        refine at_iretI dx_117_98 r97 ?_
                        refine ⟨fe_um ⟨rfl, rfl⟩, ?_⟩
                        rw [lenW_mv] at *
                        simp [bgN, tkN] at w1
                        obtain ⟨w2, w3, w4, w5⟩ := w1
                        rcases (show k = 0 ∨ k = 1 ∨ k = 2 by omega) with e | e | e <;> subst e <;> simp [bgN, tkN] at * <;> omega
                    · skip
                      refine at_iload dx_117_73 rfl ?_
                      refine at_iload dx_117_74 rfl ?_
                      refine at_cleR dx_117_75 ra r19 (fun c75 => ?_) (fun c75 => ?_)
                      · skip
                        refine at_const (x := 0) dx_117_83 rfl ?_
                        refine at_putZ 28 dx_117_84 lc_856 rfl rfl (Or.inl rfl) ?_
                        refine at_iload dx_117_85 rfl ?_
                        refine at_iload dx_117_86 rfl ?_
                        refine at_addR dx_117_87 (by constructor <;> omega) (fun r87 => ?_)
                        refine at_iload dx_117_88 rfl ?_
                        refine at_zneR dx_117_89 (by decide) (fun c => absurd c (by decide)) (fun _ => ?_)
                        refine at_iload dx_117_90 rfl ?_
                        refine at_zneR dx_117_91 (by decide) (fun c => absurd c (by decide)) (fun _ => ?_)
                        refine at_iload dx_117_92 rfl ?_
                        refine at_zeqR dx_117_93 ry (fun c93 => ?_) (fun c93 => ?_)
                        · skip
                          refine at_const (x := 0) dx_117_96 rfl ?_
                          refine at_addR dx_117_97 (by constructor <;> omega) (fun r97 => ?_)
                          refine at_iretI dx_117_98 r97 ?_
                          refine ⟨fe_um ⟨rfl, rfl⟩, ?_⟩
                          rw [lenW_mv] at *
                          simp [bgN, tkN] at w1
                          obtain ⟨w2, w3, w4, w5⟩ := w1
                          rcases (show k = 0 ∨ k = 1 ∨ k = 2 by omega) with e | e | e <;> subst e <;> simp [bgN, tkN] at * <;> omega
                        · skip
                          refine at_iload dx_117_94 rfl ?_
                          refine at_goto dx_117_95 ?_
                          refine at_addR dx_117_97 (by constructor <;> omega) (fun r97 => ?_)
                          refine at_iretI dx_117_98 r97 ?_
                          refine ⟨fe_um ⟨rfl, rfl⟩, ?_⟩
                          rw [lenW_mv] at *
                          simp [bgN, tkN] at w1
                          obtain ⟨w2, w3, w4, w5⟩ := w1
                          rcases (show k = 0 ∨ k = 1 ∨ k = 2 by omega) with e | e | e <;> subst e <;> simp [bgN, tkN] at * <;> omega
                      · skip
                        refine at_iload dx_117_76 rfl ?_
                        refine at_iload dx_117_77 rfl ?_
                        refine at_iload dx_117_78 rfl ?_
                        refine at_addR dx_117_79 (by constructor <;> omega) (fun r79 => ?_)
                        refine at_cgeR dx_117_80 ra r79 (fun c80 => ?_) (fun c80 => ?_)
                        · skip
                          refine at_const (x := 0) dx_117_83 rfl ?_
                          refine at_putZ 28 dx_117_84 lc_856 rfl rfl (Or.inl rfl) ?_
                          refine at_iload dx_117_85 rfl ?_
                          refine at_iload dx_117_86 rfl ?_
                          refine at_addR dx_117_87 (by constructor <;> omega) (fun r87 => ?_)
                          refine at_iload dx_117_88 rfl ?_
                          refine at_zneR dx_117_89 (by decide) (fun c => absurd c (by decide)) (fun _ => ?_)
                          refine at_iload dx_117_90 rfl ?_
                          refine at_zneR dx_117_91 (by decide) (fun c => absurd c (by decide)) (fun _ => ?_)
                          refine at_iload dx_117_92 rfl ?_
                          refine at_zeqR dx_117_93 ry (fun c93 => ?_) (fun c93 => ?_)
                          · skip
                            refine at_const (x := 0) dx_117_96 rfl ?_
                            refine at_addR dx_117_97 (by constructor <;> omega) (fun r97 => ?_)
                            refine at_iretI dx_117_98 r97 ?_
                            refine ⟨fe_um ⟨rfl, rfl⟩, ?_⟩
                            rw [lenW_mv] at *
                            simp [bgN, tkN] at w1
                            obtain ⟨w2, w3, w4, w5⟩ := w1
                            rcases (show k = 0 ∨ k = 1 ∨ k = 2 by omega) with e | e | e <;> subst e <;> simp [bgN, tkN] at * <;> omega
                          · skip
                            refine at_iload dx_117_94 rfl ?_
                            refine at_goto dx_117_95 ?_
                            refine at_addR dx_117_97 (by constructor <;> omega) (fun r97 => ?_)
                            refine at_iretI dx_117_98 r97 ?_
                            refine ⟨fe_um ⟨rfl, rfl⟩, ?_⟩
                            rw [lenW_mv] at *
                            simp [bgN, tkN] at w1
                            obtain ⟨w2, w3, w4, w5⟩ := w1
                            rcases (show k = 0 ∨ k = 1 ∨ k = 2 by omega) with e | e | e <;> subst e <;> simp [bgN, tkN] at * <;> omega
                        · skip
                          refine at_const (x := 1) dx_117_81 rfl ?_
                          refine at_goto dx_117_82 ?_
                          refine at_putZ 28 dx_117_84 lc_856 rfl rfl (Or.inr rfl) ?_
                          refine at_iload dx_117_85 rfl ?_
                          refine at_iload dx_117_86 rfl ?_
                          refine at_addR dx_117_87 (by constructor <;> omega) (fun r87 => ?_)
                          refine at_iload dx_117_88 rfl ?_
                          refine at_zneR dx_117_89 (by decide) (fun c => absurd c (by decide)) (fun _ => ?_)
                          refine at_iload dx_117_90 rfl ?_
                          refine at_zneR dx_117_91 (by decide) (fun c => absurd c (by decide)) (fun _ => ?_)
                          refine at_iload dx_117_92 rfl ?_
                          refine at_zeqR dx_117_93 ry (fun c93 => ?_) (fun c93 => ?_)
                          · skip
                            refine at_const (x := 0) dx_117_96 rfl ?_
                            refine at_addR dx_117_97 (by constructor <;> omega) (fun r97 => ?_)
                            refine at_iretI dx_117_98 r97 ?_
                            refine ⟨fe_um ⟨rfl, rfl⟩, ?_⟩
                            rw [lenW_mv] at *
                            simp [bgN, tkN] at w1
                            obtain ⟨w2, w3, w4, w5⟩ := w1
                            rcases (show k = 0 ∨ k = 1 ∨ k = 2 by omega) with e | e | e <;> subst e <;> simp [bgN, tkN] at * <;> omega
                          · skip
                            refine at_iload dx_117_94 rfl ?_
                            refine at_goto dx_117_95 ?_
                            refine at_addR dx_117_97 (by constructor <;> omega) (fun r97 => ?_)
                            refine at_iretI dx_117_98 r97 ?_
                            refine ⟨fe_um ⟨rfl, rfl⟩, ?_⟩
                            rw [lenW_mv] at *
                            simp [bgN, tkN] at w1
                            obtain ⟨w2, w3, w4, w5⟩ := w1
                            rcases (show k = 0 ∨ k = 1 ∨ k = 2 by omega) with e | e | e <;> subst e <;> simp [bgN, tkN] at * <;> omega
                  · skip
                    refine at_const (x := 1) dx_117_65 rfl ?_
                    refine at_goto dx_117_66 ?_
                    refine at_istore dx_117_68 ?_
                    refine at_aload dx_117_69 rfl ?_
                    refine at_aload dx_117_70 rfl ?_
                    refine at_getI 28 dx_117_71 lc_856 rfl rfl (fun r71 => ?_)
                    refine at_zneR dx_117_72 r71 (fun c72 => ?_) (fun c72 => ?_)
                    · skip
                      refine at_const (x := 1) dx_117_81 rfl ?_
                      refine at_goto dx_117_82 ?_
                      refine at_putZ 28 dx_117_84 lc_856 rfl rfl (Or.inr rfl) ?_
                      refine at_iload dx_117_85 rfl ?_
                      refine at_iload dx_117_86 rfl ?_
                      refine at_addR dx_117_87 (by constructor <;> omega) (fun r87 => ?_)
                      refine at_iload dx_117_88 rfl ?_
                      refine at_zneR dx_117_89 (by decide) (fun c => absurd c (by decide)) (fun _ => ?_)
                      refine at_iload dx_117_90 rfl ?_
                      refine at_zneR dx_117_91 (by decide) (fun _ => ?_) (fun c => absurd c (by decide))
                      refine at_const (x := 0) dx_117_96 rfl ?_
                      refine at_addR dx_117_97 (by constructor <;> omega) (fun r97 => ?_)
                      refine at_iretI dx_117_98 r97 ?_
                      refine ⟨fe_um ⟨rfl, rfl⟩, ?_⟩
                      rw [lenW_mv] at *
                      simp [bgN, tkN] at w1
                      obtain ⟨w2, w3, w4, w5⟩ := w1
                      rcases (show k = 0 ∨ k = 1 ∨ k = 2 by omega) with e | e | e <;> subst e <;> simp [bgN, tkN] at * <;> omega
                    · skip
                      refine at_iload dx_117_73 rfl ?_
                      refine at_iload dx_117_74 rfl ?_
                      refine at_cleR dx_117_75 ra r19 (fun c75 => ?_) (fun c75 => ?_)
                      · skip
                        refine at_const (x := 0) dx_117_83 rfl ?_
                        refine at_putZ 28 dx_117_84 lc_856 rfl rfl (Or.inl rfl) ?_
                        refine at_iload dx_117_85 rfl ?_
                        refine at_iload dx_117_86 rfl ?_
                        refine at_addR dx_117_87 (by constructor <;> omega) (fun r87 => ?_)
                        refine at_iload dx_117_88 rfl ?_
                        refine at_zneR dx_117_89 (by decide) (fun c => absurd c (by decide)) (fun _ => ?_)
                        refine at_iload dx_117_90 rfl ?_
                        refine at_zneR dx_117_91 (by decide) (fun _ => ?_) (fun c => absurd c (by decide))
                        refine at_const (x := 0) dx_117_96 rfl ?_
                        refine at_addR dx_117_97 (by constructor <;> omega) (fun r97 => ?_)
                        refine at_iretI dx_117_98 r97 ?_
                        refine ⟨fe_um ⟨rfl, rfl⟩, ?_⟩
                        rw [lenW_mv] at *
                        simp [bgN, tkN] at w1
                        obtain ⟨w2, w3, w4, w5⟩ := w1
                        rcases (show k = 0 ∨ k = 1 ∨ k = 2 by omega) with e | e | e <;> subst e <;> simp [bgN, tkN] at * <;> omega
                      · skip
                        refine at_iload dx_117_76 rfl ?_
                        refine at_iload dx_117_77 rfl ?_
                        refine at_iload dx_117_78 rfl ?_
                        refine at_addR dx_117_79 (by constructor <;> omega) (fun r79 => ?_)
                        refine at_cgeR dx_117_80 ra r79 (fun c80 => ?_) (fun c80 => ?_)
                        · skip
                          refine at_const (x := 0) dx_117_83 rfl ?_
                          refine at_putZ 28 dx_117_84 lc_856 rfl rfl (Or.inl rfl) ?_
                          refine at_iload dx_117_85 rfl ?_
                          refine at_iload dx_117_86 rfl ?_
                          refine at_addR dx_117_87 (by constructor <;> omega) (fun r87 => ?_)
                          refine at_iload dx_117_88 rfl ?_
                          refine at_zneR dx_117_89 (by decide) (fun c => absurd c (by decide)) (fun _ => ?_)
                          refine at_iload dx_117_90 rfl ?_
                          refine at_zneR dx_117_91 (by decide) (fun _ => ?_) (fun c => absurd c (by decide))
                          refine at_const (x := 0) dx_117_96 rfl ?_
                          refine at_addR dx_117_97 (by constructor <;> omega) (fun r97 => ?_)
                          refine at_iretI dx_117_98 r97 ?_
                          refine ⟨fe_um ⟨rfl, rfl⟩, ?_⟩
                          rw [lenW_mv] at *
                          simp [bgN, tkN] at w1
                          obtain ⟨w2, w3, w4, w5⟩ := w1
                          rcases (show k = 0 ∨ k = 1 ∨ k = 2 by omega) with e | e | e <;> subst e <;> simp [bgN, tkN] at * <;> omega
                        · skip
                          refine at_const (x := 1) dx_117_81 rfl ?_
                          refine at_goto dx_117_82 ?_
                          refine at_putZ 28 dx_117_84 lc_856 rfl rfl (Or.inr rfl) ?_
                          refine at_iload dx_117_85 rfl ?_
                          refine at_iload dx_117_86 rfl ?_
                          refine at_addR dx_117_87 (by constructor <;> omega) (fun r87 => ?_)
                          refine at_iload dx_117_88 rfl ?_
                          refine at_zneR dx_117_89 (by decide) (fun c => absurd c (by decide)) (fun _ => ?_)
                          refine at_iload dx_117_90 rfl ?_
                          refine at_zneR dx_117_91 (by decide) (fun _ => ?_) (fun c => absurd c (by decide))
                          refine at_const (x := 0) dx_117_96 rfl ?_
                          refine at_addR dx_117_97 (by constructor <;> omega) (fun r97 => ?_)
                          refine at_iretI dx_117_98 r97 ?_
                          refine ⟨fe_um ⟨rfl, rfl⟩, ?_⟩
                          rw [lenW_mv] at *
                          simp [bgN, tkN] at w1
                          obtain ⟨w2, w3, w4, w5⟩ := w1
                          rcases (show k = 0 ∨ k = 1 ∨ k = 2 by omega) with e | e | e <;> subst e <;> simp [bgN, tkN] at * <;> omega
              · skip
                refine at_const (x := 1) dx_117_56 rfl ?_
                refine at_goto dx_117_57 ?_
                refine at_istore dx_117_59 ?_
                refine at_iload dx_117_60 rfl ?_
                refine at_zleR dx_117_61 r25 (fun c61 => ?_) (fun c61 => ?_)
                · skip
                  refine at_const (x := 0) dx_117_67 rfl ?_
                  refine at_istore dx_117_68 ?_
                  refine at_aload dx_117_69 rfl ?_
                  refine at_aload dx_117_70 rfl ?_
                  refine at_getI 28 dx_117_71 lc_856 rfl rfl (fun r71 => ?_)
                  refine at_zneR dx_117_72 r71 (fun c72 => ?_) (fun c72 => ?_)
                  · skip
                    refine at_const (x := 1) dx_117_81 rfl ?_
                    refine at_goto dx_117_82 ?_
                    refine at_putZ 28 dx_117_84 lc_856 rfl rfl (Or.inr rfl) ?_
                    refine at_iload dx_117_85 rfl ?_
                    refine at_iload dx_117_86 rfl ?_
                    refine at_addR dx_117_87 (by constructor <;> omega) (fun r87 => ?_)
                    refine at_iload dx_117_88 rfl ?_
                    refine at_zneR dx_117_89 (by decide) (fun _ => ?_) (fun c => absurd c (by decide))
                    refine at_iload dx_117_94 rfl ?_
                    refine at_goto dx_117_95 ?_
                    refine at_addR dx_117_97 (by constructor <;> omega) (fun r97 => ?_)
                    refine at_iretI dx_117_98 r97 ?_
                    refine ⟨fe_um ⟨rfl, rfl⟩, ?_⟩
                    rw [lenW_mv] at *
                    simp [bgN, tkN] at w1
                    obtain ⟨w2, w3, w4, w5⟩ := w1
                    rcases (show k = 0 ∨ k = 1 ∨ k = 2 by omega) with e | e | e <;> subst e <;> simp [bgN, tkN] at * <;> omega
                  · skip
                    refine at_iload dx_117_73 rfl ?_
                    refine at_iload dx_117_74 rfl ?_
                    refine at_cleR dx_117_75 ra r19 (fun c75 => ?_) (fun c75 => ?_)
                    · skip
                      refine at_const (x := 0) dx_117_83 rfl ?_
                      refine at_putZ 28 dx_117_84 lc_856 rfl rfl (Or.inl rfl) ?_
                      refine at_iload dx_117_85 rfl ?_
                      refine at_iload dx_117_86 rfl ?_
                      refine at_addR dx_117_87 (by constructor <;> omega) (fun r87 => ?_)
                      refine at_iload dx_117_88 rfl ?_
                      refine at_zneR dx_117_89 (by decide) (fun _ => ?_) (fun c => absurd c (by decide))
                      refine at_iload dx_117_94 rfl ?_
                      refine at_goto dx_117_95 ?_
                      refine at_addR dx_117_97 (by constructor <;> omega) (fun r97 => ?_)
                      refine at_iretI dx_117_98 r97 ?_
                      refine ⟨fe_um ⟨rfl, rfl⟩, ?_⟩
                      rw [lenW_mv] at *
                      simp [bgN, tkN] at w1
                      obtain ⟨w2, w3, w4, w5⟩ := w1
                      rcases (show k = 0 ∨ k = 1 ∨ k = 2 by omega) with e | e | e <;> subst e <;> simp [bgN, tkN] at * <;> omega
                    · skip
                      refine at_iload dx_117_76 rfl ?_
                      refine at_iload dx_117_77 rfl ?_
                      refine at_iload dx_117_78 rfl ?_
                      refine at_addR dx_117_79 (by constructor <;> omega) (fun r79 => ?_)
                      refine at_cgeR dx_117_80 ra r79 (fun c80 => ?_) (fun c80 => ?_)
                      · skip
                        refine at_const (x := 0) dx_117_83 rfl ?_
                        refine at_putZ 28 dx_117_84 lc_856 rfl rfl (Or.inl rfl) ?_
                        refine at_iload dx_117_85 rfl ?_
                        refine at_iload dx_117_86 rfl ?_
                        refine at_addR dx_117_87 (by constructor <;> omega) (fun r87 => ?_)
                        refine at_iload dx_117_88 rfl ?_
                        refine at_zneR dx_117_89 (by decide) (fun _ => ?_) (fun c => absurd c (by decide))
                        refine at_iload dx_117_94 rfl ?_
                        refine at_goto dx_117_95 ?_
                        refine at_addR dx_117_97 (by constructor <;> omega) (fun r97 => ?_)
                        refine at_iretI dx_117_98 r97 ?_
                        refine ⟨fe_um ⟨rfl, rfl⟩, ?_⟩
                        rw [lenW_mv] at *
                        simp [bgN, tkN] at w1
                        obtain ⟨w2, w3, w4, w5⟩ := w1
                        rcases (show k = 0 ∨ k = 1 ∨ k = 2 by omega) with e | e | e <;> subst e <;> simp [bgN, tkN] at * <;> omega
                      · skip
                        refine at_const (x := 1) dx_117_81 rfl ?_
                        refine at_goto dx_117_82 ?_
                        refine at_putZ 28 dx_117_84 lc_856 rfl rfl (Or.inr rfl) ?_
                        refine at_iload dx_117_85 rfl ?_
                        refine at_iload dx_117_86 rfl ?_
                        refine at_addR dx_117_87 (by constructor <;> omega) (fun r87 => ?_)
                        refine at_iload dx_117_88 rfl ?_
                        refine at_zneR dx_117_89 (by decide) (fun _ => ?_) (fun c => absurd c (by decide))
                        refine at_iload dx_117_94 rfl ?_
                        refine at_goto dx_117_95 ?_
                        refine at_addR dx_117_97 (by constructor <;> omega) (fun r97 => ?_)
                        refine at_iretI dx_117_98 r97 ?_
                        refine ⟨fe_um ⟨rfl, rfl⟩, ?_⟩
                        rw [lenW_mv] at *
                        simp [bgN, tkN] at w1
                        obtain ⟨w2, w3, w4, w5⟩ := w1
                        rcases (show k = 0 ∨ k = 1 ∨ k = 2 by omega) with e | e | e <;> subst e <;> simp [bgN, tkN] at * <;> omega
                · skip
                  refine at_iload dx_117_62 rfl ?_
                  refine at_iload dx_117_63 rfl ?_
                  refine at_cneR dx_117_64 ra r19 (fun c64 => ?_) (fun c64 => ?_)
                  · skip
                    refine at_const (x := 0) dx_117_67 rfl ?_
                    refine at_istore dx_117_68 ?_
                    refine at_aload dx_117_69 rfl ?_
                    refine at_aload dx_117_70 rfl ?_
                    refine at_getI 28 dx_117_71 lc_856 rfl rfl (fun r71 => ?_)
                    refine at_zneR dx_117_72 r71 (fun c72 => ?_) (fun c72 => ?_)
                    · skip
                      refine at_const (x := 1) dx_117_81 rfl ?_
                      refine at_goto dx_117_82 ?_
                      refine at_putZ 28 dx_117_84 lc_856 rfl rfl (Or.inr rfl) ?_
                      refine at_iload dx_117_85 rfl ?_
                      refine at_iload dx_117_86 rfl ?_
                      refine at_addR dx_117_87 (by constructor <;> omega) (fun r87 => ?_)
                      refine at_iload dx_117_88 rfl ?_
                      refine at_zneR dx_117_89 (by decide) (fun _ => ?_) (fun c => absurd c (by decide))
                      refine at_iload dx_117_94 rfl ?_
                      refine at_goto dx_117_95 ?_
                      refine at_addR dx_117_97 (by constructor <;> omega) (fun r97 => ?_)
                      refine at_iretI dx_117_98 r97 ?_
                      refine ⟨fe_um ⟨rfl, rfl⟩, ?_⟩
                      rw [lenW_mv] at *
                      simp [bgN, tkN] at w1
                      obtain ⟨w2, w3, w4, w5⟩ := w1
                      rcases (show k = 0 ∨ k = 1 ∨ k = 2 by omega) with e | e | e <;> subst e <;> simp [bgN, tkN] at * <;> omega
                    · skip
                      refine at_iload dx_117_73 rfl ?_
                      refine at_iload dx_117_74 rfl ?_
                      refine at_cleR dx_117_75 ra r19 (fun c75 => ?_) (fun c75 => ?_)
                      · skip
                        refine at_const (x := 0) dx_117_83 rfl ?_
                        refine at_putZ 28 dx_117_84 lc_856 rfl rfl (Or.inl rfl) ?_
                        refine at_iload dx_117_85 rfl ?_
                        refine at_iload dx_117_86 rfl ?_
                        refine at_addR dx_117_87 (by constructor <;> omega) (fun r87 => ?_)
                        refine at_iload dx_117_88 rfl ?_
                        refine at_zneR dx_117_89 (by decide) (fun _ => ?_) (fun c => absurd c (by decide))
                        refine at_iload dx_117_94 rfl ?_
                        refine at_goto dx_117_95 ?_
                        refine at_addR dx_117_97 (by constructor <;> omega) (fun r97 => ?_)
                        refine at_iretI dx_117_98 r97 ?_
                        refine ⟨fe_um ⟨rfl, rfl⟩, ?_⟩
                        rw [lenW_mv] at *
                        simp [bgN, tkN] at w1
                        obtain ⟨w2, w3, w4, w5⟩ := w1
                        rcases (show k = 0 ∨ k = 1 ∨ k = 2 by omega) with e | e | e <;> subst e <;> simp [bgN, tkN] at * <;> omega
                      · skip
                        refine at_iload dx_117_76 rfl ?_
                        refine at_iload dx_117_77 rfl ?_
                        refine at_iload dx_117_78 rfl ?_
                        refine at_addR dx_117_79 (by constructor <;> omega) (fun r79 => ?_)
                        refine at_cgeR dx_117_80 ra r79 (fun c80 => ?_) (fun c80 => ?_)
                        · skip
                          refine at_const (x := 0) dx_117_83 rfl ?_
                          refine at_putZ 28 dx_117_84 lc_856 rfl rfl (Or.inl rfl) ?_
                          refine at_iload dx_117_85 rfl ?_
                          refine at_iload dx_117_86 rfl ?_
                          refine at_addR dx_117_87 (by constructor <;> omega) (fun r87 => ?_)
                          refine at_iload dx_117_88 rfl ?_
                          refine at_zneR dx_117_89 (by decide) (fun _ => ?_) (fun c => absurd c (by decide))
                          refine at_iload dx_117_94 rfl ?_
                          refine at_goto dx_117_95 ?_
                          refine at_addR dx_117_97 (by constructor <;> omega) (fun r97 => ?_)
                          refine at_iretI dx_117_98 r97 ?_
                          refine ⟨fe_um ⟨rfl, rfl⟩, ?_⟩
                          rw [lenW_mv] at *
                          simp [bgN, tkN] at w1
                          obtain ⟨w2, w3, w4, w5⟩ := w1
                          rcases (show k = 0 ∨ k = 1 ∨ k = 2 by omega) with e | e | e <;> subst e <;> simp [bgN, tkN] at * <;> omega
                        · skip
                          refine at_const (x := 1) dx_117_81 rfl ?_
                          refine at_goto dx_117_82 ?_
                          refine at_putZ 28 dx_117_84 lc_856 rfl rfl (Or.inr rfl) ?_
                          refine at_iload dx_117_85 rfl ?_
                          refine at_iload dx_117_86 rfl ?_
                          refine at_addR dx_117_87 (by constructor <;> omega) (fun r87 => ?_)
                          refine at_iload dx_117_88 rfl ?_
                          refine at_zneR dx_117_89 (by decide) (fun _ => ?_) (fun c => absurd c (by decide))
                          refine at_iload dx_117_94 rfl ?_
                          refine at_goto dx_117_95 ?_
                          refine at_addR dx_117_97 (by constructor <;> omega) (fun r97 => ?_)
                          refine at_iretI dx_117_98 r97 ?_
                          refine ⟨fe_um ⟨rfl, rfl⟩, ?_⟩
                          rw [lenW_mv] at *
                          simp [bgN, tkN] at w1
                          obtain ⟨w2, w3, w4, w5⟩ := w1
                          rcases (show k = 0 ∨ k = 1 ∨ k = 2 by omega) with e | e | e <;> subst e <;> simp [bgN, tkN] at * <;> omega
                  · skip
                    refine at_const (x := 1) dx_117_65 rfl ?_
                    refine at_goto dx_117_66 ?_
                    refine at_istore dx_117_68 ?_
                    refine at_aload dx_117_69 rfl ?_
                    refine at_aload dx_117_70 rfl ?_
                    refine at_getI 28 dx_117_71 lc_856 rfl rfl (fun r71 => ?_)
                    refine at_zneR dx_117_72 r71 (fun c72 => ?_) (fun c72 => ?_)
                    · skip
                      refine at_const (x := 1) dx_117_81 rfl ?_
                      refine at_goto dx_117_82 ?_
                      refine at_putZ 28 dx_117_84 lc_856 rfl rfl (Or.inr rfl) ?_
                      refine at_iload dx_117_85 rfl ?_
                      refine at_iload dx_117_86 rfl ?_
                      refine at_addR dx_117_87 (by constructor <;> omega) (fun r87 => ?_)
                      refine at_iload dx_117_88 rfl ?_
                      refine at_zneR dx_117_89 (by decide) (fun _ => ?_) (fun c => absurd c (by decide))
                      refine at_iload dx_117_94 rfl ?_
                      refine at_goto dx_117_95 ?_
                      refine at_addR dx_117_97 (by constructor <;> omega) (fun r97 => ?_)
                      refine at_iretI dx_117_98 r97 ?_
                      refine ⟨fe_um ⟨rfl, rfl⟩, ?_⟩
                      rw [lenW_mv] at *
                      simp [bgN, tkN] at w1
                      obtain ⟨w2, w3, w4, w5⟩ := w1
                      rcases (show k = 0 ∨ k = 1 ∨ k = 2 by omega) with e | e | e <;> subst e <;> simp [bgN, tkN] at * <;> omega
                    · skip
                      refine at_iload dx_117_73 rfl ?_
                      refine at_iload dx_117_74 rfl ?_
                      refine at_cleR dx_117_75 ra r19 (fun c75 => ?_) (fun c75 => ?_)
                      · skip
                        refine at_const (x := 0) dx_117_83 rfl ?_
                        refine at_putZ 28 dx_117_84 lc_856 rfl rfl (Or.inl rfl) ?_
                        refine at_iload dx_117_85 rfl ?_
                        refine at_iload dx_117_86 rfl ?_
                        refine at_addR dx_117_87 (by constructor <;> omega) (fun r87 => ?_)
                        refine at_iload dx_117_88 rfl ?_
                        refine at_zneR dx_117_89 (by decide) (fun _ => ?_) (fun c => absurd c (by decide))
                        refine at_iload dx_117_94 rfl ?_
                        refine at_goto dx_117_95 ?_
                        refine at_addR dx_117_97 (by constructor <;> omega) (fun r97 => ?_)
                        refine at_iretI dx_117_98 r97 ?_
                        refine ⟨fe_um ⟨rfl, rfl⟩, ?_⟩
                        rw [lenW_mv] at *
                        simp [bgN, tkN] at w1
                        obtain ⟨w2, w3, w4, w5⟩ := w1
                        rcases (show k = 0 ∨ k = 1 ∨ k = 2 by omega) with e | e | e <;> subst e <;> simp [bgN, tkN] at * <;> omega
                      · skip
                        refine at_iload dx_117_76 rfl ?_
                        refine at_iload dx_117_77 rfl ?_
                        refine at_iload dx_117_78 rfl ?_
                        refine at_addR dx_117_79 (by constructor <;> omega) (fun r79 => ?_)
                        refine at_cgeR dx_117_80 ra r79 (fun c80 => ?_) (fun c80 => ?_)
                        · skip
                          refine at_const (x := 0) dx_117_83 rfl ?_
                          refine at_putZ 28 dx_117_84 lc_856 rfl rfl (Or.inl rfl) ?_
                          refine at_iload dx_117_85 rfl ?_
                          refine at_iload dx_117_86 rfl ?_
                          refine at_addR dx_117_87 (by constructor <;> omega) (fun r87 => ?_)
                          refine at_iload dx_117_88 rfl ?_
                          refine at_zneR dx_117_89 (by decide) (fun _ => ?_) (fun c => absurd c (by decide))
                          refine at_iload dx_117_94 rfl ?_
                          refine at_goto dx_117_95 ?_
                          refine at_addR dx_117_97 (by constructor <;> omega) (fun r97 => ?_)
                          refine at_iretI dx_117_98 r97 ?_
                          refine ⟨fe_um ⟨rfl, rfl⟩, ?_⟩
                          rw [lenW_mv] at *
                          simp [bgN, tkN] at w1
                          obtain ⟨w2, w3, w4, w5⟩ := w1
                          rcases (show k = 0 ∨ k = 1 ∨ k = 2 by omega) with e | e | e <;> subst e <;> simp [bgN, tkN] at * <;> omega
                        · skip
                          refine at_const (x := 1) dx_117_81 rfl ?_
                          refine at_goto dx_117_82 ?_
                          refine at_putZ 28 dx_117_84 lc_856 rfl rfl (Or.inr rfl) ?_
                          refine at_iload dx_117_85 rfl ?_
                          refine at_iload dx_117_86 rfl ?_
                          refine at_addR dx_117_87 (by constructor <;> omega) (fun r87 => ?_)
                          refine at_iload dx_117_88 rfl ?_
                          refine at_zneR dx_117_89 (by decide) (fun _ => ?_) (fun c => absurd c (by decide))
                          refine at_iload dx_117_94 rfl ?_
                          refine at_goto dx_117_95 ?_
                          refine at_addR dx_117_97 (by constructor <;> omega) (fun r97 => ?_)
                          refine at_iretI dx_117_98 r97 ?_
                          refine ⟨fe_um ⟨rfl, rfl⟩, ?_⟩
                          rw [lenW_mv] at *
                          simp [bgN, tkN] at w1
                          obtain ⟨w2, w3, w4, w5⟩ := w1
                          rcases (show k = 0 ∨ k = 1 ∨ k = 2 by omega) with e | e | e <;> subst e <;> simp [bgN, tkN] at * <;> omega
        · skip
          refine at_iload dx_117_40 rfl ?_
          refine at_iload dx_117_41 rfl ?_
          refine at_addR dx_117_42 (by constructor <;> omega) (fun r42 => ?_)
          refine at_iretI dx_117_43 r42 ?_
          refine ⟨fe_rf, ?_⟩
          rw [lenW_mv] at *
          simp [bgN, tkN] at w1
          obtain ⟨w2, w3, w4, w5⟩ := w1
          rcases (show k = 0 ∨ k = 1 ∨ k = 2 by omega) with e | e | e <;> subst e <;> simp [bgN, tkN] at * <;> omega
  refine at_const (x := 0) dx_117_0 rfl ?_
  refine at_istore dx_117_1 ?_
  refine at_const (x := 0) dx_117_2 rfl ?_
  refine at_istore dx_117_3 ?_
  exact lp _ 0 0 (by decide) (by decide) (by decide) rfl ⟨fun _ => rfl, fun h => by omega, fun h => by omega, fun h => by omega⟩

set_option maxRecDepth 100000 in
set_option maxHeartbeats 4000000 in
theorem m_mapsW {X : scr} {M : mem} {s a y : Int} (rs : inR s) (ra : inR a) (ry : inR y) {n : Int} (hs : 0 ≤ s ∧ s ≤ 100) (hv : okW (mv M s) n) (hn60 : 0 ≤ n ∧ n ≤ 60)  : At X 0 117 0 [vr 856, vi s, vi 0, vi a, vi y] [] M (qI (fun x M' => frE (fun q j => q = 856 ∧ j = 28) M M')) := by
  have hN := okW_N hv (by omega)
  have hu := okW_u hv
  obtain ⟨n1, n2, n3, n4, n5, n6⟩ := hN
  have lp : ∀ (n9 : Nat) (b k : Int) (rb : inR b) (rk : inR k) (hk : 0 ≤ k ∧ k ≤ 2) (hn : (2 - k).toNat = n9) , At X 0 117 4 [vr 856, vi s, vi 0, vi a, vi y, vi b, vi k] [] M (qI (fun x M' => frE (fun q j => q = 856 ∧ j = 28) M M')) := by
    intro n9
    induction n9 using Nat.strongRecOn with
    | ind n9 ih =>
    intro b k rb rk hk hn
    have hs0 : M 864 s ≤ 2 ∨ M 861 s ≠ 0 := by omega
    refine at_iload dx_117_4 rfl ?_
    refine at_aload dx_117_5 rfl ?_
    refine at_getR dx_117_6 lc_856 rfl lt_856_7 ?_
    refine at_iload dx_117_7 rfl ?_
    refine at_aldI dx_117_8 lc_864 ln_864 (by first | omega | (simp (disch := omega) only [um_eq, um_k, um_j]; omega)) (by first | omega | (simp (disch := omega) only [um_eq, um_k, um_j]; omega)) (fun r8 => ?_)
    refine at_cgeR dx_117_9 rk r8 (fun c9 => ?_) (fun c9 => ?_)
    · skip
      refine at_iload dx_117_107 rfl ?_
      refine at_iload dx_117_108 rfl ?_
      refine at_addW dx_117_109 ?_
      refine at_iretI dx_117_110 (inR_wr _) ?_
      exact fe_rf
    · skip
      refine at_aload dx_117_10 rfl ?_
      refine at_getR dx_117_11 lc_856 rfl lt_856_4 ?_
      refine at_iload dx_117_12 rfl ?_
      refine at_aldZ dx_117_13 lc_861 ln_861 (by first | omega | (simp (disch := omega) only [um_eq, um_k, um_j]; omega)) (by first | omega | (simp (disch := omega) only [um_eq, um_k, um_j]; omega)) (fun r13 => ?_)
      refine at_zneR dx_117_14 r13 (fun c14 => ?_) (fun c14 => ?_)
      · skip
        refine at_iload dx_117_107 rfl ?_
        refine at_iload dx_117_108 rfl ?_
        refine at_addW dx_117_109 ?_
        refine at_iretI dx_117_110 (inR_wr _) ?_
        exact fe_rf
      · skip
        refine at_aload dx_117_15 rfl ?_
        refine at_iload dx_117_16 rfl ?_
        refine at_iload dx_117_17 rfl ?_
        refine at_iload dx_117_18 rfl ?_
        refine at_callVI dx_117_19 rfl lc_856 rfl (m_startOf rs (by decide) rk hs (by omega) ⟨n1, n2, n3, n4, n5, n6⟩) ?_
        rintro x19 M9 r19 ⟨e9, h19⟩; replace e9 := e9.symm; subst e9
        replace h19 := bg_of (by omega) h19
        have q19 : -300 ≤ x19 ∧ x19 ≤ 300 := by rw [h19]; unfold bgN; (repeat' split) <;> omega
        refine at_istore dx_117_20 ?_
        refine at_aload dx_117_21 rfl ?_
        refine at_iload dx_117_22 rfl ?_
        refine at_iload dx_117_23 rfl ?_
        refine at_iload dx_117_24 rfl ?_
        refine at_callVI dx_117_25 rfl lc_856 rfl (m_takesOf rs (by decide) rk hs (by omega)) ?_
        rintro x25 M9 r25 ⟨e9, h25⟩; replace e9 := e9.symm; subst e9
        replace h25 := tk_of (by omega) h25
        have q25 : -300 ≤ x25 ∧ x25 ≤ 300 := by rw [h25]; unfold tkN; (repeat' split) <;> omega
        refine at_istore dx_117_26 ?_
        refine at_aload dx_117_27 rfl ?_
        refine at_iload dx_117_28 rfl ?_
        refine at_iload dx_117_29 rfl ?_
        refine at_zneR dx_117_30 (by decide) (fun c => absurd c (by decide)) (fun _ => ?_)
        refine at_const (x := 1) dx_117_31 rfl ?_
        refine at_goto dx_117_32 ?_
        refine at_iload dx_117_34 rfl ?_
        refine at_callVI dx_117_35 rfl lc_856 rfl (m_takesOf rs (by decide) rk hs (by omega)) ?_
        rintro x35 M9 r35 ⟨e9, h35⟩; replace e9 := e9.symm; subst e9
        replace h35 := tk_of (by omega) h35
        have q35 : -300 ≤ x35 ∧ x35 ≤ 300 := by rw [h35]; unfold tkN; (repeat' split) <;> omega
        refine at_istore dx_117_36 ?_
        refine at_iload dx_117_37 rfl ?_
        refine at_iload dx_117_38 rfl ?_
        refine at_cgeR dx_117_39 ra r19 (fun c39 => ?_) (fun c39 => ?_)
        · skip
          refine at_iload dx_117_44 rfl ?_
          refine at_iload dx_117_45 rfl ?_
          refine at_iload dx_117_46 rfl ?_
          refine at_addW dx_117_47 ?_
          refine at_cgtR dx_117_48 ra (inR_wr _) (fun c48 => ?_) (fun c48 => ?_)
          · skip
            refine at_iload dx_117_99 rfl ?_
            refine at_iload dx_117_100 rfl ?_
            refine at_iload dx_117_101 rfl ?_
            refine at_subW dx_117_102 ?_
            refine at_addW dx_117_103 ?_
            refine at_istore dx_117_104 ?_
            refine at_iincW (y := 1) dx_117_105 rfl rfl ?_
            refine at_goto dx_117_106 ?_
            refine at_wk (ls := [vr 856, vi _, vi _, vi _, vi _, vi _, vi _]) ⟨Or.inl rfl, Or.inl rfl, Or.inl rfl, Or.inl rfl, Or.inl rfl, Or.inl rfl, Or.inl rfl, trivial⟩ ?_
            rw [wr_eq (x := k + 1) (by omega) (by omega)]
            exact ih _ (by omega) _ _ (inR_wr _) (by constructor <;> omega) (by omega) rfl
          · skip
            refine at_iload dx_117_49 rfl ?_
            refine at_zleR dx_117_50 r25 (fun c50 => ?_) (fun c50 => ?_)
            · skip
              refine at_const (x := 0) dx_117_58 rfl ?_
              refine at_istore dx_117_59 ?_
              refine at_iload dx_117_60 rfl ?_
              refine at_zleR dx_117_61 r25 (fun c61 => ?_) (fun c61 => ?_)
              · skip
                refine at_const (x := 0) dx_117_67 rfl ?_
                refine at_istore dx_117_68 ?_
                refine at_aload dx_117_69 rfl ?_
                refine at_aload dx_117_70 rfl ?_
                refine at_getI 28 dx_117_71 lc_856 rfl rfl (fun r71 => ?_)
                refine at_zneR dx_117_72 r71 (fun c72 => ?_) (fun c72 => ?_)
                · skip
                  refine at_const (x := 1) dx_117_81 rfl ?_
                  refine at_goto dx_117_82 ?_
                  refine at_putZ 28 dx_117_84 lc_856 rfl rfl (Or.inr rfl) ?_
                  refine at_iload dx_117_85 rfl ?_
                  refine at_iload dx_117_86 rfl ?_
                  refine at_addW dx_117_87 ?_
                  refine at_iload dx_117_88 rfl ?_
                  refine at_zneR dx_117_89 (by decide) (fun c => absurd c (by decide)) (fun _ => ?_)
                  refine at_iload dx_117_90 rfl ?_
                  refine at_zneR dx_117_91 (by decide) (fun c => absurd c (by decide)) (fun _ => ?_)
                  refine at_iload dx_117_92 rfl ?_
                  refine at_zeqR dx_117_93 ry (fun c93 => ?_) (fun c93 => ?_)
                  · skip
                    refine at_const (x := 0) dx_117_96 rfl ?_
                    refine at_addW dx_117_97 ?_
                    refine at_iretI dx_117_98 (inR_wr _) ?_
                    exact fe_um ⟨rfl, rfl⟩
                  · skip
                    refine at_iload dx_117_94 rfl ?_
                    refine at_goto dx_117_95 ?_
                    refine at_addW dx_117_97 ?_
                    refine at_iretI dx_117_98 (inR_wr _) ?_
                    exact fe_um ⟨rfl, rfl⟩
                · skip
                  refine at_iload dx_117_73 rfl ?_
                  refine at_iload dx_117_74 rfl ?_
                  refine at_cleR dx_117_75 ra r19 (fun c75 => ?_) (fun c75 => ?_)
                  · skip
                    refine at_const (x := 0) dx_117_83 rfl ?_
                    refine at_putZ 28 dx_117_84 lc_856 rfl rfl (Or.inl rfl) ?_
                    refine at_iload dx_117_85 rfl ?_
                    refine at_iload dx_117_86 rfl ?_
                    refine at_addW dx_117_87 ?_
                    refine at_iload dx_117_88 rfl ?_
                    refine at_zneR dx_117_89 (by decide) (fun c => absurd c (by decide)) (fun _ => ?_)
                    refine at_iload dx_117_90 rfl ?_
                    refine at_zneR dx_117_91 (by decide) (fun c => absurd c (by decide)) (fun _ => ?_)
                    refine at_iload dx_117_92 rfl ?_
                    refine at_zeqR dx_117_93 ry (fun c93 => ?_) (fun c93 => ?_)
                    · skip
                      refine at_const (x := 0) dx_117_96 rfl ?_
                      refine at_addW dx_117_97 ?_
                      refine at_iretI dx_117_98 (inR_wr _) ?_
                      exact fe_um ⟨rfl, rfl⟩
                    · skip
                      refine at_iload dx_117_94 rfl ?_
                      refine at_goto dx_117_95 ?_
                      refine at_addW dx_117_97 ?_
                      refine at_iretI dx_117_98 (inR_wr _) ?_
                      exact fe_um ⟨rfl, rfl⟩
                  · skip
                    refine at_iload dx_117_76 rfl ?_
                    refine at_iload dx_117_77 rfl ?_
                    refine at_iload dx_117_78 rfl ?_
                    refine at_addW dx_117_79 ?_
                    refine at_cgeR dx_117_80 ra (inR_wr _) (fun c80 => ?_) (fun c80 => ?_)
                    · skip
                      refine at_const (x := 0) dx_117_83 rfl ?_
                      refine at_putZ 28 dx_117_84 lc_856 rfl rfl (Or.inl rfl) ?_
                      refine at_iload dx_117_85 rfl ?_
                      refine at_iload dx_117_86 rfl ?_
                      refine at_addW dx_117_87 ?_
                      refine at_iload dx_117_88 rfl ?_
                      refine at_zneR dx_117_89 (by decide) (fun c => absurd c (by decide)) (fun _ => ?_)
                      refine at_iload dx_117_90 rfl ?_
                      refine at_zneR dx_117_91 (by decide) (fun c => absurd c (by decide)) (fun _ => ?_)
                      refine at_iload dx_117_92 rfl ?_
                      refine at_zeqR dx_117_93 ry (fun c93 => ?_) (fun c93 => ?_)
                      · skip
                        refine at_const (x := 0) dx_117_96 rfl ?_
                        refine at_addW dx_117_97 ?_
                        refine at_iretI dx_117_98 (inR_wr _) ?_
                        exact fe_um ⟨rfl, rfl⟩
                      · skip
                        refine at_iload dx_117_94 rfl ?_
                        refine at_goto dx_117_95 ?_
                        refine at_addW dx_117_97 ?_
                        refine at_iretI dx_117_98 (inR_wr _) ?_
                        exact fe_um ⟨rfl, rfl⟩
                    · skip
                      refine at_const (x := 1) dx_117_81 rfl ?_
                      refine at_goto dx_117_82 ?_
                      refine at_putZ 28 dx_117_84 lc_856 rfl rfl (Or.inr rfl) ?_
                      refine at_iload dx_117_85 rfl ?_
                      refine at_iload dx_117_86 rfl ?_
                      refine at_addW dx_117_87 ?_
                      refine at_iload dx_117_88 rfl ?_
                      refine at_zneR dx_117_89 (by decide) (fun c => absurd c (by decide)) (fun _ => ?_)
                      refine at_iload dx_117_90 rfl ?_
                      refine at_zneR dx_117_91 (by decide) (fun c => absurd c (by decide)) (fun _ => ?_)
                      refine at_iload dx_117_92 rfl ?_
                      refine at_zeqR dx_117_93 ry (fun c93 => ?_) (fun c93 => ?_)
                      · skip
                        refine at_const (x := 0) dx_117_96 rfl ?_
                        refine at_addW dx_117_97 ?_
                        refine at_iretI dx_117_98 (inR_wr _) ?_
                        exact fe_um ⟨rfl, rfl⟩
                      · skip
                        refine at_iload dx_117_94 rfl ?_
                        refine at_goto dx_117_95 ?_
                        refine at_addW dx_117_97 ?_
                        refine at_iretI dx_117_98 (inR_wr _) ?_
                        exact fe_um ⟨rfl, rfl⟩
              · skip
                refine at_iload dx_117_62 rfl ?_
                refine at_iload dx_117_63 rfl ?_
                refine at_cneR dx_117_64 ra r19 (fun c64 => ?_) (fun c64 => ?_)
                · skip
                  refine at_const (x := 0) dx_117_67 rfl ?_
                  refine at_istore dx_117_68 ?_
                  refine at_aload dx_117_69 rfl ?_
                  refine at_aload dx_117_70 rfl ?_
                  refine at_getI 28 dx_117_71 lc_856 rfl rfl (fun r71 => ?_)
                  refine at_zneR dx_117_72 r71 (fun c72 => ?_) (fun c72 => ?_)
                  · skip
                    refine at_const (x := 1) dx_117_81 rfl ?_
                    refine at_goto dx_117_82 ?_
                    refine at_putZ 28 dx_117_84 lc_856 rfl rfl (Or.inr rfl) ?_
                    refine at_iload dx_117_85 rfl ?_
                    refine at_iload dx_117_86 rfl ?_
                    refine at_addW dx_117_87 ?_
                    refine at_iload dx_117_88 rfl ?_
                    refine at_zneR dx_117_89 (by decide) (fun c => absurd c (by decide)) (fun _ => ?_)
                    refine at_iload dx_117_90 rfl ?_
                    refine at_zneR dx_117_91 (by decide) (fun c => absurd c (by decide)) (fun _ => ?_)
                    refine at_iload dx_117_92 rfl ?_
                    refine at_zeqR dx_117_93 ry (fun c93 => ?_) (fun c93 => ?_)
                    · skip
                      refine at_const (x := 0) dx_117_96 rfl ?_
                      refine at_addW dx_117_97 ?_
                      refine at_iretI dx_117_98 (inR_wr _) ?_
                      exact fe_um ⟨rfl, rfl⟩
                    · skip
                      refine at_iload dx_117_94 rfl ?_
                      refine at_goto dx_117_95 ?_
                      refine at_addW dx_117_97 ?_
                      refine at_iretI dx_117_98 (inR_wr _) ?_
                      exact fe_um ⟨rfl, rfl⟩
                  · skip
                    refine at_iload dx_117_73 rfl ?_
                    refine at_iload dx_117_74 rfl ?_
                    refine at_cleR dx_117_75 ra r19 (fun c75 => ?_) (fun c75 => ?_)
                    · skip
                      refine at_const (x := 0) dx_117_83 rfl ?_
                      refine at_putZ 28 dx_117_84 lc_856 rfl rfl (Or.inl rfl) ?_
                      refine at_iload dx_117_85 rfl ?_
                      refine at_iload dx_117_86 rfl ?_
                      refine at_addW dx_117_87 ?_
                      refine at_iload dx_117_88 rfl ?_
                      refine at_zneR dx_117_89 (by decide) (fun c => absurd c (by decide)) (fun _ => ?_)
                      refine at_iload dx_117_90 rfl ?_
                      refine at_zneR dx_117_91 (by decide) (fun c => absurd c (by decide)) (fun _ => ?_)
                      refine at_iload dx_117_92 rfl ?_
                      refine at_zeqR dx_117_93 ry (fun c93 => ?_) (fun c93 => ?_)
                      · skip
                        refine at_const (x := 0) dx_117_96 rfl ?_
                        refine at_addW dx_117_97 ?_
                        refine at_iretI dx_117_98 (inR_wr _) ?_
                        exact fe_um ⟨rfl, rfl⟩
                      · skip
                        refine at_iload dx_117_94 rfl ?_
                        refine at_goto dx_117_95 ?_
                        refine at_addW dx_117_97 ?_
                        refine at_iretI dx_117_98 (inR_wr _) ?_
                        exact fe_um ⟨rfl, rfl⟩
                    · skip
                      refine at_iload dx_117_76 rfl ?_
                      refine at_iload dx_117_77 rfl ?_
                      refine at_iload dx_117_78 rfl ?_
                      refine at_addW dx_117_79 ?_
                      refine at_cgeR dx_117_80 ra (inR_wr _) (fun c80 => ?_) (fun c80 => ?_)
                      · skip
                        refine at_const (x := 0) dx_117_83 rfl ?_
                        refine at_putZ 28 dx_117_84 lc_856 rfl rfl (Or.inl rfl) ?_
                        refine at_iload dx_117_85 rfl ?_
                        refine at_iload dx_117_86 rfl ?_
                        refine at_addW dx_117_87 ?_
                        refine at_iload dx_117_88 rfl ?_
                        refine at_zneR dx_117_89 (by decide) (fun c => absurd c (by decide)) (fun _ => ?_)
                        refine at_iload dx_117_90 rfl ?_
                        refine at_zneR dx_117_91 (by decide) (fun c => absurd c (by decide)) (fun _ => ?_)
                        refine at_iload dx_117_92 rfl ?_
                        refine at_zeqR dx_117_93 ry (fun c93 => ?_) (fun c93 => ?_)
                        · skip
                          refine at_const (x := 0) dx_117_96 rfl ?_
                          refine at_addW dx_117_97 ?_
                          refine at_iretI dx_117_98 (inR_wr _) ?_
                          exact fe_um ⟨rfl, rfl⟩
                        · skip
                          refine at_iload dx_117_94 rfl ?_
                          refine at_goto dx_117_95 ?_
                          refine at_addW dx_117_97 ?_
                          refine at_iretI dx_117_98 (inR_wr _) ?_
                          exact fe_um ⟨rfl, rfl⟩
                      · skip
                        refine at_const (x := 1) dx_117_81 rfl ?_
                        refine at_goto dx_117_82 ?_
                        refine at_putZ 28 dx_117_84 lc_856 rfl rfl (Or.inr rfl) ?_
                        refine at_iload dx_117_85 rfl ?_
                        refine at_iload dx_117_86 rfl ?_
                        refine at_addW dx_117_87 ?_
                        refine at_iload dx_117_88 rfl ?_
                        refine at_zneR dx_117_89 (by decide) (fun c => absurd c (by decide)) (fun _ => ?_)
                        refine at_iload dx_117_90 rfl ?_
                        refine at_zneR dx_117_91 (by decide) (fun c => absurd c (by decide)) (fun _ => ?_)
                        refine at_iload dx_117_92 rfl ?_
                        refine at_zeqR dx_117_93 ry (fun c93 => ?_) (fun c93 => ?_)
                        · skip
                          refine at_const (x := 0) dx_117_96 rfl ?_
                          refine at_addW dx_117_97 ?_
                          refine at_iretI dx_117_98 (inR_wr _) ?_
                          exact fe_um ⟨rfl, rfl⟩
                        · skip
                          refine at_iload dx_117_94 rfl ?_
                          refine at_goto dx_117_95 ?_
                          refine at_addW dx_117_97 ?_
                          refine at_iretI dx_117_98 (inR_wr _) ?_
                          exact fe_um ⟨rfl, rfl⟩
                · skip
                  refine at_const (x := 1) dx_117_65 rfl ?_
                  refine at_goto dx_117_66 ?_
                  refine at_istore dx_117_68 ?_
                  refine at_aload dx_117_69 rfl ?_
                  refine at_aload dx_117_70 rfl ?_
                  refine at_getI 28 dx_117_71 lc_856 rfl rfl (fun r71 => ?_)
                  refine at_zneR dx_117_72 r71 (fun c72 => ?_) (fun c72 => ?_)
                  · skip
                    refine at_const (x := 1) dx_117_81 rfl ?_
                    refine at_goto dx_117_82 ?_
                    refine at_putZ 28 dx_117_84 lc_856 rfl rfl (Or.inr rfl) ?_
                    refine at_iload dx_117_85 rfl ?_
                    refine at_iload dx_117_86 rfl ?_
                    refine at_addW dx_117_87 ?_
                    refine at_iload dx_117_88 rfl ?_
                    refine at_zneR dx_117_89 (by decide) (fun c => absurd c (by decide)) (fun _ => ?_)
                    refine at_iload dx_117_90 rfl ?_
                    refine at_zneR dx_117_91 (by decide) (fun _ => ?_) (fun c => absurd c (by decide))
                    refine at_const (x := 0) dx_117_96 rfl ?_
                    refine at_addW dx_117_97 ?_
                    refine at_iretI dx_117_98 (inR_wr _) ?_
                    exact fe_um ⟨rfl, rfl⟩
                  · skip
                    refine at_iload dx_117_73 rfl ?_
                    refine at_iload dx_117_74 rfl ?_
                    refine at_cleR dx_117_75 ra r19 (fun c75 => ?_) (fun c75 => ?_)
                    · skip
                      refine at_const (x := 0) dx_117_83 rfl ?_
                      refine at_putZ 28 dx_117_84 lc_856 rfl rfl (Or.inl rfl) ?_
                      refine at_iload dx_117_85 rfl ?_
                      refine at_iload dx_117_86 rfl ?_
                      refine at_addW dx_117_87 ?_
                      refine at_iload dx_117_88 rfl ?_
                      refine at_zneR dx_117_89 (by decide) (fun c => absurd c (by decide)) (fun _ => ?_)
                      refine at_iload dx_117_90 rfl ?_
                      refine at_zneR dx_117_91 (by decide) (fun _ => ?_) (fun c => absurd c (by decide))
                      refine at_const (x := 0) dx_117_96 rfl ?_
                      refine at_addW dx_117_97 ?_
                      refine at_iretI dx_117_98 (inR_wr _) ?_
                      exact fe_um ⟨rfl, rfl⟩
                    · skip
                      refine at_iload dx_117_76 rfl ?_
                      refine at_iload dx_117_77 rfl ?_
                      refine at_iload dx_117_78 rfl ?_
                      refine at_addW dx_117_79 ?_
                      refine at_cgeR dx_117_80 ra (inR_wr _) (fun c80 => ?_) (fun c80 => ?_)
                      · skip
                        refine at_const (x := 0) dx_117_83 rfl ?_
                        refine at_putZ 28 dx_117_84 lc_856 rfl rfl (Or.inl rfl) ?_
                        refine at_iload dx_117_85 rfl ?_
                        refine at_iload dx_117_86 rfl ?_
                        refine at_addW dx_117_87 ?_
                        refine at_iload dx_117_88 rfl ?_
                        refine at_zneR dx_117_89 (by decide) (fun c => absurd c (by decide)) (fun _ => ?_)
                        refine at_iload dx_117_90 rfl ?_
                        refine at_zneR dx_117_91 (by decide) (fun _ => ?_) (fun c => absurd c (by decide))
                        refine at_const (x := 0) dx_117_96 rfl ?_
                        refine at_addW dx_117_97 ?_
                        refine at_iretI dx_117_98 (inR_wr _) ?_
                        exact fe_um ⟨rfl, rfl⟩
                      · skip
                        refine at_const (x := 1) dx_117_81 rfl ?_
                        refine at_goto dx_117_82 ?_
                        refine at_putZ 28 dx_117_84 lc_856 rfl rfl (Or.inr rfl) ?_
                        refine at_iload dx_117_85 rfl ?_
                        refine at_iload dx_117_86 rfl ?_
                        refine at_addW dx_117_87 ?_
                        refine at_iload dx_117_88 rfl ?_
                        refine at_zneR dx_117_89 (by decide) (fun c => absurd c (by decide)) (fun _ => ?_)
                        refine at_iload dx_117_90 rfl ?_
                        refine at_zneR dx_117_91 (by decide) (fun _ => ?_) (fun c => absurd c (by decide))
                        refine at_const (x := 0) dx_117_96 rfl ?_
                        refine at_addW dx_117_97 ?_
                        refine at_iretI dx_117_98 (inR_wr _) ?_
                        exact fe_um ⟨rfl, rfl⟩
            · skip
              refine at_iload dx_117_51 rfl ?_
              refine at_iload dx_117_52 rfl ?_
              refine at_iload dx_117_53 rfl ?_
              refine at_addW dx_117_54 ?_
              refine at_cneR dx_117_55 ra (inR_wr _) (fun c55 => ?_) (fun c55 => ?_)
              · skip
                refine at_const (x := 0) dx_117_58 rfl ?_
                refine at_istore dx_117_59 ?_
                refine at_iload dx_117_60 rfl ?_
                refine at_zleR dx_117_61 r25 (fun c61 => ?_) (fun c61 => ?_)
                · skip
                  refine at_const (x := 0) dx_117_67 rfl ?_
                  refine at_istore dx_117_68 ?_
                  refine at_aload dx_117_69 rfl ?_
                  refine at_aload dx_117_70 rfl ?_
                  refine at_getI 28 dx_117_71 lc_856 rfl rfl (fun r71 => ?_)
                  refine at_zneR dx_117_72 r71 (fun c72 => ?_) (fun c72 => ?_)
                  · skip
                    refine at_const (x := 1) dx_117_81 rfl ?_
                    refine at_goto dx_117_82 ?_
                    refine at_putZ 28 dx_117_84 lc_856 rfl rfl (Or.inr rfl) ?_
                    refine at_iload dx_117_85 rfl ?_
                    refine at_iload dx_117_86 rfl ?_
                    refine at_addW dx_117_87 ?_
                    refine at_iload dx_117_88 rfl ?_
                    refine at_zneR dx_117_89 (by decide) (fun c => absurd c (by decide)) (fun _ => ?_)
                    refine at_iload dx_117_90 rfl ?_
                    refine at_zneR dx_117_91 (by decide) (fun c => absurd c (by decide)) (fun _ => ?_)
                    refine at_iload dx_117_92 rfl ?_
                    refine at_zeqR dx_117_93 ry (fun c93 => ?_) (fun c93 => ?_)
                    · skip
                      refine at_const (x := 0) dx_117_96 rfl ?_
                      refine at_addW dx_117_97 ?_
                      refine at_iretI dx_117_98 (inR_wr _) ?_
                      exact fe_um ⟨rfl, rfl⟩
                    · skip
                      refine at_iload dx_117_94 rfl ?_
                      refine at_goto dx_117_95 ?_
                      refine at_addW dx_117_97 ?_
                      refine at_iretI dx_117_98 (inR_wr _) ?_
                      exact fe_um ⟨rfl, rfl⟩
                  · skip
                    refine at_iload dx_117_73 rfl ?_
                    refine at_iload dx_117_74 rfl ?_
                    refine at_cleR dx_117_75 ra r19 (fun c75 => ?_) (fun c75 => ?_)
                    · skip
                      refine at_const (x := 0) dx_117_83 rfl ?_
                      refine at_putZ 28 dx_117_84 lc_856 rfl rfl (Or.inl rfl) ?_
                      refine at_iload dx_117_85 rfl ?_
                      refine at_iload dx_117_86 rfl ?_
                      refine at_addW dx_117_87 ?_
                      refine at_iload dx_117_88 rfl ?_
                      refine at_zneR dx_117_89 (by decide) (fun c => absurd c (by decide)) (fun _ => ?_)
                      refine at_iload dx_117_90 rfl ?_
                      refine at_zneR dx_117_91 (by decide) (fun c => absurd c (by decide)) (fun _ => ?_)
                      refine at_iload dx_117_92 rfl ?_
                      refine at_zeqR dx_117_93 ry (fun c93 => ?_) (fun c93 => ?_)
                      · skip
                        refine at_const (x := 0) dx_117_96 rfl ?_
                        refine at_addW dx_117_97 ?_
                        refine at_iretI dx_117_98 (inR_wr _) ?_
                        exact fe_um ⟨rfl, rfl⟩
                      · skip
                        refine at_iload dx_117_94 rfl ?_
                        refine at_goto dx_117_95 ?_
                        refine at_addW dx_117_97 ?_
                        refine at_iretI dx_117_98 (inR_wr _) ?_
                        exact fe_um ⟨rfl, rfl⟩
                    · skip
                      refine at_iload dx_117_76 rfl ?_
                      refine at_iload dx_117_77 rfl ?_
                      refine at_iload dx_117_78 rfl ?_
                      refine at_addW dx_117_79 ?_
                      refine at_cgeR dx_117_80 ra (inR_wr _) (fun c80 => ?_) (fun c80 => ?_)
                      · skip
                        refine at_const (x := 0) dx_117_83 rfl ?_
                        refine at_putZ 28 dx_117_84 lc_856 rfl rfl (Or.inl rfl) ?_
                        refine at_iload dx_117_85 rfl ?_
                        refine at_iload dx_117_86 rfl ?_
                        refine at_addW dx_117_87 ?_
                        refine at_iload dx_117_88 rfl ?_
                        refine at_zneR dx_117_89 (by decide) (fun c => absurd c (by decide)) (fun _ => ?_)
                        refine at_iload dx_117_90 rfl ?_
                        refine at_zneR dx_117_91 (by decide) (fun c => absurd c (by decide)) (fun _ => ?_)
                        refine at_iload dx_117_92 rfl ?_
                        refine at_zeqR dx_117_93 ry (fun c93 => ?_) (fun c93 => ?_)
                        · skip
                          refine at_const (x := 0) dx_117_96 rfl ?_
                          refine at_addW dx_117_97 ?_
                          refine at_iretI dx_117_98 (inR_wr _) ?_
                          exact fe_um ⟨rfl, rfl⟩
                        · skip
                          refine at_iload dx_117_94 rfl ?_
                          refine at_goto dx_117_95 ?_
                          refine at_addW dx_117_97 ?_
                          refine at_iretI dx_117_98 (inR_wr _) ?_
                          exact fe_um ⟨rfl, rfl⟩
                      · skip
                        refine at_const (x := 1) dx_117_81 rfl ?_
                        refine at_goto dx_117_82 ?_
                        refine at_putZ 28 dx_117_84 lc_856 rfl rfl (Or.inr rfl) ?_
                        refine at_iload dx_117_85 rfl ?_
                        refine at_iload dx_117_86 rfl ?_
                        refine at_addW dx_117_87 ?_
                        refine at_iload dx_117_88 rfl ?_
                        refine at_zneR dx_117_89 (by decide) (fun c => absurd c (by decide)) (fun _ => ?_)
                        refine at_iload dx_117_90 rfl ?_
                        refine at_zneR dx_117_91 (by decide) (fun c => absurd c (by decide)) (fun _ => ?_)
                        refine at_iload dx_117_92 rfl ?_
                        refine at_zeqR dx_117_93 ry (fun c93 => ?_) (fun c93 => ?_)
                        · skip
                          refine at_const (x := 0) dx_117_96 rfl ?_
                          refine at_addW dx_117_97 ?_
                          refine at_iretI dx_117_98 (inR_wr _) ?_
                          exact fe_um ⟨rfl, rfl⟩
                        · skip
                          refine at_iload dx_117_94 rfl ?_
                          refine at_goto dx_117_95 ?_
                          refine at_addW dx_117_97 ?_
                          refine at_iretI dx_117_98 (inR_wr _) ?_
                          exact fe_um ⟨rfl, rfl⟩
                · skip
                  refine at_iload dx_117_62 rfl ?_
                  refine at_iload dx_117_63 rfl ?_
                  refine at_cneR dx_117_64 ra r19 (fun c64 => ?_) (fun c64 => ?_)
                  · skip
                    refine at_const (x := 0) dx_117_67 rfl ?_
                    refine at_istore dx_117_68 ?_
                    refine at_aload dx_117_69 rfl ?_
                    refine at_aload dx_117_70 rfl ?_
                    refine at_getI 28 dx_117_71 lc_856 rfl rfl (fun r71 => ?_)
                    refine at_zneR dx_117_72 r71 (fun c72 => ?_) (fun c72 => ?_)
                    · skip
                      refine at_const (x := 1) dx_117_81 rfl ?_
                      refine at_goto dx_117_82 ?_
                      refine at_putZ 28 dx_117_84 lc_856 rfl rfl (Or.inr rfl) ?_
                      refine at_iload dx_117_85 rfl ?_
                      refine at_iload dx_117_86 rfl ?_
                      refine at_addW dx_117_87 ?_
                      refine at_iload dx_117_88 rfl ?_
                      refine at_zneR dx_117_89 (by decide) (fun c => absurd c (by decide)) (fun _ => ?_)
                      refine at_iload dx_117_90 rfl ?_
                      refine at_zneR dx_117_91 (by decide) (fun c => absurd c (by decide)) (fun _ => ?_)
                      refine at_iload dx_117_92 rfl ?_
                      refine at_zeqR dx_117_93 ry (fun c93 => ?_) (fun c93 => ?_)
                      · skip
                        refine at_const (x := 0) dx_117_96 rfl ?_
                        refine at_addW dx_117_97 ?_
                        refine at_iretI dx_117_98 (inR_wr _) ?_
                        exact fe_um ⟨rfl, rfl⟩
                      · skip
                        refine at_iload dx_117_94 rfl ?_
                        refine at_goto dx_117_95 ?_
                        refine at_addW dx_117_97 ?_
                        refine at_iretI dx_117_98 (inR_wr _) ?_
                        exact fe_um ⟨rfl, rfl⟩
                    · skip
                      refine at_iload dx_117_73 rfl ?_
                      refine at_iload dx_117_74 rfl ?_
                      refine at_cleR dx_117_75 ra r19 (fun c75 => ?_) (fun c75 => ?_)
                      · skip
                        refine at_const (x := 0) dx_117_83 rfl ?_
                        refine at_putZ 28 dx_117_84 lc_856 rfl rfl (Or.inl rfl) ?_
                        refine at_iload dx_117_85 rfl ?_
                        refine at_iload dx_117_86 rfl ?_
                        refine at_addW dx_117_87 ?_
                        refine at_iload dx_117_88 rfl ?_
                        refine at_zneR dx_117_89 (by decide) (fun c => absurd c (by decide)) (fun _ => ?_)
                        refine at_iload dx_117_90 rfl ?_
                        refine at_zneR dx_117_91 (by decide) (fun c => absurd c (by decide)) (fun _ => ?_)
                        refine at_iload dx_117_92 rfl ?_
                        refine at_zeqR dx_117_93 ry (fun c93 => ?_) (fun c93 => ?_)
                        · skip
                          refine at_const (x := 0) dx_117_96 rfl ?_
                          refine at_addW dx_117_97 ?_
                          refine at_iretI dx_117_98 (inR_wr _) ?_
                          exact fe_um ⟨rfl, rfl⟩
                        · skip
                          refine at_iload dx_117_94 rfl ?_
                          refine at_goto dx_117_95 ?_
                          refine at_addW dx_117_97 ?_
                          refine at_iretI dx_117_98 (inR_wr _) ?_
                          exact fe_um ⟨rfl, rfl⟩
                      · skip
                        refine at_iload dx_117_76 rfl ?_
                        refine at_iload dx_117_77 rfl ?_
                        refine at_iload dx_117_78 rfl ?_
                        refine at_addW dx_117_79 ?_
                        refine at_cgeR dx_117_80 ra (inR_wr _) (fun c80 => ?_) (fun c80 => ?_)
                        · skip
                          refine at_const (x := 0) dx_117_83 rfl ?_
                          refine at_putZ 28 dx_117_84 lc_856 rfl rfl (Or.inl rfl) ?_
                          refine at_iload dx_117_85 rfl ?_
                          refine at_iload dx_117_86 rfl ?_
                          refine at_addW dx_117_87 ?_
                          refine at_iload dx_117_88 rfl ?_
                          refine at_zneR dx_117_89 (by decide) (fun c => absurd c (by decide)) (fun _ => ?_)
                          refine at_iload dx_117_90 rfl ?_
                          refine at_zneR dx_117_91 (by decide) (fun c => absurd c (by decide)) (fun _ => ?_)
                          refine at_iload dx_117_92 rfl ?_
                          refine at_zeqR dx_117_93 ry (fun c93 => ?_) (fun c93 => ?_)
                          · skip
                            refine at_const (x := 0) dx_117_96 rfl ?_
                            refine at_addW dx_117_97 ?_
                            refine at_iretI dx_117_98 (inR_wr _) ?_
                            exact fe_um ⟨rfl, rfl⟩
                          · skip
                            refine at_iload dx_117_94 rfl ?_
                            refine at_goto dx_117_95 ?_
                            refine at_addW dx_117_97 ?_
                            refine at_iretI dx_117_98 (inR_wr _) ?_
                            exact fe_um ⟨rfl, rfl⟩
                        · skip
                          refine at_const (x := 1) dx_117_81 rfl ?_
                          refine at_goto dx_117_82 ?_
                          refine at_putZ 28 dx_117_84 lc_856 rfl rfl (Or.inr rfl) ?_
                          refine at_iload dx_117_85 rfl ?_
                          refine at_iload dx_117_86 rfl ?_
                          refine at_addW dx_117_87 ?_
                          refine at_iload dx_117_88 rfl ?_
                          refine at_zneR dx_117_89 (by decide) (fun c => absurd c (by decide)) (fun _ => ?_)
                          refine at_iload dx_117_90 rfl ?_
                          refine at_zneR dx_117_91 (by decide) (fun c => absurd c (by decide)) (fun _ => ?_)
                          refine at_iload dx_117_92 rfl ?_
                          refine at_zeqR dx_117_93 ry (fun c93 => ?_) (fun c93 => ?_)
                          · skip
                            refine at_const (x := 0) dx_117_96 rfl ?_
                            refine at_addW dx_117_97 ?_
                            refine at_iretI dx_117_98 (inR_wr _) ?_
                            exact fe_um ⟨rfl, rfl⟩
                          · skip
                            refine at_iload dx_117_94 rfl ?_
                            refine at_goto dx_117_95 ?_
                            refine at_addW dx_117_97 ?_
                            refine at_iretI dx_117_98 (inR_wr _) ?_
                            exact fe_um ⟨rfl, rfl⟩
                  · skip
                    refine at_const (x := 1) dx_117_65 rfl ?_
                    refine at_goto dx_117_66 ?_
                    refine at_istore dx_117_68 ?_
                    refine at_aload dx_117_69 rfl ?_
                    refine at_aload dx_117_70 rfl ?_
                    refine at_getI 28 dx_117_71 lc_856 rfl rfl (fun r71 => ?_)
                    refine at_zneR dx_117_72 r71 (fun c72 => ?_) (fun c72 => ?_)
                    · skip
                      refine at_const (x := 1) dx_117_81 rfl ?_
                      refine at_goto dx_117_82 ?_
                      refine at_putZ 28 dx_117_84 lc_856 rfl rfl (Or.inr rfl) ?_
                      refine at_iload dx_117_85 rfl ?_
                      refine at_iload dx_117_86 rfl ?_
                      refine at_addW dx_117_87 ?_
                      refine at_iload dx_117_88 rfl ?_
                      refine at_zneR dx_117_89 (by decide) (fun c => absurd c (by decide)) (fun _ => ?_)
                      refine at_iload dx_117_90 rfl ?_
                      refine at_zneR dx_117_91 (by decide) (fun _ => ?_) (fun c => absurd c (by decide))
                      refine at_const (x := 0) dx_117_96 rfl ?_
                      refine at_addW dx_117_97 ?_
                      refine at_iretI dx_117_98 (inR_wr _) ?_
                      exact fe_um ⟨rfl, rfl⟩
                    · skip
                      refine at_iload dx_117_73 rfl ?_
                      refine at_iload dx_117_74 rfl ?_
                      refine at_cleR dx_117_75 ra r19 (fun c75 => ?_) (fun c75 => ?_)
                      · skip
                        refine at_const (x := 0) dx_117_83 rfl ?_
                        refine at_putZ 28 dx_117_84 lc_856 rfl rfl (Or.inl rfl) ?_
                        refine at_iload dx_117_85 rfl ?_
                        refine at_iload dx_117_86 rfl ?_
                        refine at_addW dx_117_87 ?_
                        refine at_iload dx_117_88 rfl ?_
                        refine at_zneR dx_117_89 (by decide) (fun c => absurd c (by decide)) (fun _ => ?_)
                        refine at_iload dx_117_90 rfl ?_
                        refine at_zneR dx_117_91 (by decide) (fun _ => ?_) (fun c => absurd c (by decide))
                        refine at_const (x := 0) dx_117_96 rfl ?_
                        refine at_addW dx_117_97 ?_
                        refine at_iretI dx_117_98 (inR_wr _) ?_
                        exact fe_um ⟨rfl, rfl⟩
                      · skip
                        refine at_iload dx_117_76 rfl ?_
                        refine at_iload dx_117_77 rfl ?_
                        refine at_iload dx_117_78 rfl ?_
                        refine at_addW dx_117_79 ?_
                        refine at_cgeR dx_117_80 ra (inR_wr _) (fun c80 => ?_) (fun c80 => ?_)
                        · skip
                          refine at_const (x := 0) dx_117_83 rfl ?_
                          refine at_putZ 28 dx_117_84 lc_856 rfl rfl (Or.inl rfl) ?_
                          refine at_iload dx_117_85 rfl ?_
                          refine at_iload dx_117_86 rfl ?_
                          refine at_addW dx_117_87 ?_
                          refine at_iload dx_117_88 rfl ?_
                          refine at_zneR dx_117_89 (by decide) (fun c => absurd c (by decide)) (fun _ => ?_)
                          refine at_iload dx_117_90 rfl ?_
                          refine at_zneR dx_117_91 (by decide) (fun _ => ?_) (fun c => absurd c (by decide))
                          refine at_const (x := 0) dx_117_96 rfl ?_
                          refine at_addW dx_117_97 ?_
                          refine at_iretI dx_117_98 (inR_wr _) ?_
                          exact fe_um ⟨rfl, rfl⟩
                        · skip
                          refine at_const (x := 1) dx_117_81 rfl ?_
                          refine at_goto dx_117_82 ?_
                          refine at_putZ 28 dx_117_84 lc_856 rfl rfl (Or.inr rfl) ?_
                          refine at_iload dx_117_85 rfl ?_
                          refine at_iload dx_117_86 rfl ?_
                          refine at_addW dx_117_87 ?_
                          refine at_iload dx_117_88 rfl ?_
                          refine at_zneR dx_117_89 (by decide) (fun c => absurd c (by decide)) (fun _ => ?_)
                          refine at_iload dx_117_90 rfl ?_
                          refine at_zneR dx_117_91 (by decide) (fun _ => ?_) (fun c => absurd c (by decide))
                          refine at_const (x := 0) dx_117_96 rfl ?_
                          refine at_addW dx_117_97 ?_
                          refine at_iretI dx_117_98 (inR_wr _) ?_
                          exact fe_um ⟨rfl, rfl⟩
              · skip
                refine at_const (x := 1) dx_117_56 rfl ?_
                refine at_goto dx_117_57 ?_
                refine at_istore dx_117_59 ?_
                refine at_iload dx_117_60 rfl ?_
                refine at_zleR dx_117_61 r25 (fun c61 => ?_) (fun c61 => ?_)
                · skip
                  refine at_const (x := 0) dx_117_67 rfl ?_
                  refine at_istore dx_117_68 ?_
                  refine at_aload dx_117_69 rfl ?_
                  refine at_aload dx_117_70 rfl ?_
                  refine at_getI 28 dx_117_71 lc_856 rfl rfl (fun r71 => ?_)
                  refine at_zneR dx_117_72 r71 (fun c72 => ?_) (fun c72 => ?_)
                  · skip
                    refine at_const (x := 1) dx_117_81 rfl ?_
                    refine at_goto dx_117_82 ?_
                    refine at_putZ 28 dx_117_84 lc_856 rfl rfl (Or.inr rfl) ?_
                    refine at_iload dx_117_85 rfl ?_
                    refine at_iload dx_117_86 rfl ?_
                    refine at_addW dx_117_87 ?_
                    refine at_iload dx_117_88 rfl ?_
                    refine at_zneR dx_117_89 (by decide) (fun _ => ?_) (fun c => absurd c (by decide))
                    refine at_iload dx_117_94 rfl ?_
                    refine at_goto dx_117_95 ?_
                    refine at_addW dx_117_97 ?_
                    refine at_iretI dx_117_98 (inR_wr _) ?_
                    exact fe_um ⟨rfl, rfl⟩
                  · skip
                    refine at_iload dx_117_73 rfl ?_
                    refine at_iload dx_117_74 rfl ?_
                    refine at_cleR dx_117_75 ra r19 (fun c75 => ?_) (fun c75 => ?_)
                    · skip
                      refine at_const (x := 0) dx_117_83 rfl ?_
                      refine at_putZ 28 dx_117_84 lc_856 rfl rfl (Or.inl rfl) ?_
                      refine at_iload dx_117_85 rfl ?_
                      refine at_iload dx_117_86 rfl ?_
                      refine at_addW dx_117_87 ?_
                      refine at_iload dx_117_88 rfl ?_
                      refine at_zneR dx_117_89 (by decide) (fun _ => ?_) (fun c => absurd c (by decide))
                      refine at_iload dx_117_94 rfl ?_
                      refine at_goto dx_117_95 ?_
                      refine at_addW dx_117_97 ?_
                      refine at_iretI dx_117_98 (inR_wr _) ?_
                      exact fe_um ⟨rfl, rfl⟩
                    · skip
                      refine at_iload dx_117_76 rfl ?_
                      refine at_iload dx_117_77 rfl ?_
                      refine at_iload dx_117_78 rfl ?_
                      refine at_addW dx_117_79 ?_
                      refine at_cgeR dx_117_80 ra (inR_wr _) (fun c80 => ?_) (fun c80 => ?_)
                      · skip
                        refine at_const (x := 0) dx_117_83 rfl ?_
                        refine at_putZ 28 dx_117_84 lc_856 rfl rfl (Or.inl rfl) ?_
                        refine at_iload dx_117_85 rfl ?_
                        refine at_iload dx_117_86 rfl ?_
                        refine at_addW dx_117_87 ?_
                        refine at_iload dx_117_88 rfl ?_
                        refine at_zneR dx_117_89 (by decide) (fun _ => ?_) (fun c => absurd c (by decide))
                        refine at_iload dx_117_94 rfl ?_
                        refine at_goto dx_117_95 ?_
                        refine at_addW dx_117_97 ?_
                        refine at_iretI dx_117_98 (inR_wr _) ?_
                        exact fe_um ⟨rfl, rfl⟩
                      · skip
                        refine at_const (x := 1) dx_117_81 rfl ?_
                        refine at_goto dx_117_82 ?_
                        refine at_putZ 28 dx_117_84 lc_856 rfl rfl (Or.inr rfl) ?_
                        refine at_iload dx_117_85 rfl ?_
                        refine at_iload dx_117_86 rfl ?_
                        refine at_addW dx_117_87 ?_
                        refine at_iload dx_117_88 rfl ?_
                        refine at_zneR dx_117_89 (by decide) (fun _ => ?_) (fun c => absurd c (by decide))
                        refine at_iload dx_117_94 rfl ?_
                        refine at_goto dx_117_95 ?_
                        refine at_addW dx_117_97 ?_
                        refine at_iretI dx_117_98 (inR_wr _) ?_
                        exact fe_um ⟨rfl, rfl⟩
                · skip
                  refine at_iload dx_117_62 rfl ?_
                  refine at_iload dx_117_63 rfl ?_
                  refine at_cneR dx_117_64 ra r19 (fun c64 => ?_) (fun c64 => ?_)
                  · skip
                    refine at_const (x := 0) dx_117_67 rfl ?_
                    refine at_istore dx_117_68 ?_
                    refine at_aload dx_117_69 rfl ?_
                    refine at_aload dx_117_70 rfl ?_
                    refine at_getI 28 dx_117_71 lc_856 rfl rfl (fun r71 => ?_)
                    refine at_zneR dx_117_72 r71 (fun c72 => ?_) (fun c72 => ?_)
                    · skip
                      refine at_const (x := 1) dx_117_81 rfl ?_
                      refine at_goto dx_117_82 ?_
                      refine at_putZ 28 dx_117_84 lc_856 rfl rfl (Or.inr rfl) ?_
                      refine at_iload dx_117_85 rfl ?_
                      refine at_iload dx_117_86 rfl ?_
                      refine at_addW dx_117_87 ?_
                      refine at_iload dx_117_88 rfl ?_
                      refine at_zneR dx_117_89 (by decide) (fun _ => ?_) (fun c => absurd c (by decide))
                      refine at_iload dx_117_94 rfl ?_
                      refine at_goto dx_117_95 ?_
                      refine at_addW dx_117_97 ?_
                      refine at_iretI dx_117_98 (inR_wr _) ?_
                      exact fe_um ⟨rfl, rfl⟩
                    · skip
                      refine at_iload dx_117_73 rfl ?_
                      refine at_iload dx_117_74 rfl ?_
                      refine at_cleR dx_117_75 ra r19 (fun c75 => ?_) (fun c75 => ?_)
                      · skip
                        refine at_const (x := 0) dx_117_83 rfl ?_
                        refine at_putZ 28 dx_117_84 lc_856 rfl rfl (Or.inl rfl) ?_
                        refine at_iload dx_117_85 rfl ?_
                        refine at_iload dx_117_86 rfl ?_
                        refine at_addW dx_117_87 ?_
                        refine at_iload dx_117_88 rfl ?_
                        refine at_zneR dx_117_89 (by decide) (fun _ => ?_) (fun c => absurd c (by decide))
                        refine at_iload dx_117_94 rfl ?_
                        refine at_goto dx_117_95 ?_
                        refine at_addW dx_117_97 ?_
                        refine at_iretI dx_117_98 (inR_wr _) ?_
                        exact fe_um ⟨rfl, rfl⟩
                      · skip
                        refine at_iload dx_117_76 rfl ?_
                        refine at_iload dx_117_77 rfl ?_
                        refine at_iload dx_117_78 rfl ?_
                        refine at_addW dx_117_79 ?_
                        refine at_cgeR dx_117_80 ra (inR_wr _) (fun c80 => ?_) (fun c80 => ?_)
                        · skip
                          refine at_const (x := 0) dx_117_83 rfl ?_
                          refine at_putZ 28 dx_117_84 lc_856 rfl rfl (Or.inl rfl) ?_
                          refine at_iload dx_117_85 rfl ?_
                          refine at_iload dx_117_86 rfl ?_
                          refine at_addW dx_117_87 ?_
                          refine at_iload dx_117_88 rfl ?_
                          refine at_zneR dx_117_89 (by decide) (fun _ => ?_) (fun c => absurd c (by decide))
                          refine at_iload dx_117_94 rfl ?_
                          refine at_goto dx_117_95 ?_
                          refine at_addW dx_117_97 ?_
                          refine at_iretI dx_117_98 (inR_wr _) ?_
                          exact fe_um ⟨rfl, rfl⟩
                        · skip
                          refine at_const (x := 1) dx_117_81 rfl ?_
                          refine at_goto dx_117_82 ?_
                          refine at_putZ 28 dx_117_84 lc_856 rfl rfl (Or.inr rfl) ?_
                          refine at_iload dx_117_85 rfl ?_
                          refine at_iload dx_117_86 rfl ?_
                          refine at_addW dx_117_87 ?_
                          refine at_iload dx_117_88 rfl ?_
                          refine at_zneR dx_117_89 (by decide) (fun _ => ?_) (fun c => absurd c (by decide))
                          refine at_iload dx_117_94 rfl ?_
                          refine at_goto dx_117_95 ?_
                          refine at_addW dx_117_97 ?_
                          refine at_iretI dx_117_98 (inR_wr _) ?_
                          exact fe_um ⟨rfl, rfl⟩
                  · skip
                    refine at_const (x := 1) dx_117_65 rfl ?_
                    refine at_goto dx_117_66 ?_
                    refine at_istore dx_117_68 ?_
                    refine at_aload dx_117_69 rfl ?_
                    refine at_aload dx_117_70 rfl ?_
                    refine at_getI 28 dx_117_71 lc_856 rfl rfl (fun r71 => ?_)
                    refine at_zneR dx_117_72 r71 (fun c72 => ?_) (fun c72 => ?_)
                    · skip
                      refine at_const (x := 1) dx_117_81 rfl ?_
                      refine at_goto dx_117_82 ?_
                      refine at_putZ 28 dx_117_84 lc_856 rfl rfl (Or.inr rfl) ?_
                      refine at_iload dx_117_85 rfl ?_
                      refine at_iload dx_117_86 rfl ?_
                      refine at_addW dx_117_87 ?_
                      refine at_iload dx_117_88 rfl ?_
                      refine at_zneR dx_117_89 (by decide) (fun _ => ?_) (fun c => absurd c (by decide))
                      refine at_iload dx_117_94 rfl ?_
                      refine at_goto dx_117_95 ?_
                      refine at_addW dx_117_97 ?_
                      refine at_iretI dx_117_98 (inR_wr _) ?_
                      exact fe_um ⟨rfl, rfl⟩
                    · skip
                      refine at_iload dx_117_73 rfl ?_
                      refine at_iload dx_117_74 rfl ?_
                      refine at_cleR dx_117_75 ra r19 (fun c75 => ?_) (fun c75 => ?_)
                      · skip
                        refine at_const (x := 0) dx_117_83 rfl ?_
                        refine at_putZ 28 dx_117_84 lc_856 rfl rfl (Or.inl rfl) ?_
                        refine at_iload dx_117_85 rfl ?_
                        refine at_iload dx_117_86 rfl ?_
                        refine at_addW dx_117_87 ?_
                        refine at_iload dx_117_88 rfl ?_
                        refine at_zneR dx_117_89 (by decide) (fun _ => ?_) (fun c => absurd c (by decide))
                        refine at_iload dx_117_94 rfl ?_
                        refine at_goto dx_117_95 ?_
                        refine at_addW dx_117_97 ?_
                        refine at_iretI dx_117_98 (inR_wr _) ?_
                        exact fe_um ⟨rfl, rfl⟩
                      · skip
                        refine at_iload dx_117_76 rfl ?_
                        refine at_iload dx_117_77 rfl ?_
                        refine at_iload dx_117_78 rfl ?_
                        refine at_addW dx_117_79 ?_
                        refine at_cgeR dx_117_80 ra (inR_wr _) (fun c80 => ?_) (fun c80 => ?_)
                        · skip
                          refine at_const (x := 0) dx_117_83 rfl ?_
                          refine at_putZ 28 dx_117_84 lc_856 rfl rfl (Or.inl rfl) ?_
                          refine at_iload dx_117_85 rfl ?_
                          refine at_iload dx_117_86 rfl ?_
                          refine at_addW dx_117_87 ?_
                          refine at_iload dx_117_88 rfl ?_
                          refine at_zneR dx_117_89 (by decide) (fun _ => ?_) (fun c => absurd c (by decide))
                          refine at_iload dx_117_94 rfl ?_
                          refine at_goto dx_117_95 ?_
                          refine at_addW dx_117_97 ?_
                          refine at_iretI dx_117_98 (inR_wr _) ?_
                          exact fe_um ⟨rfl, rfl⟩
                        · skip
                          refine at_const (x := 1) dx_117_81 rfl ?_
                          refine at_goto dx_117_82 ?_
                          refine at_putZ 28 dx_117_84 lc_856 rfl rfl (Or.inr rfl) ?_
                          refine at_iload dx_117_85 rfl ?_
                          refine at_iload dx_117_86 rfl ?_
                          refine at_addW dx_117_87 ?_
                          refine at_iload dx_117_88 rfl ?_
                          refine at_zneR dx_117_89 (by decide) (fun _ => ?_) (fun c => absurd c (by decide))
                          refine at_iload dx_117_94 rfl ?_
                          refine at_goto dx_117_95 ?_
                          refine at_addW dx_117_97 ?_
                          refine at_iretI dx_117_98 (inR_wr _) ?_
                          exact fe_um ⟨rfl, rfl⟩
        · skip
          refine at_iload dx_117_40 rfl ?_
          refine at_iload dx_117_41 rfl ?_
          refine at_addW dx_117_42 ?_
          refine at_iretI dx_117_43 (inR_wr _) ?_
          exact fe_rf
  refine at_const (x := 0) dx_117_0 rfl ?_
  refine at_istore dx_117_1 ?_
  refine at_const (x := 0) dx_117_2 rfl ?_
  refine at_istore dx_117_3 ?_
  exact lp _ 0 0 (by decide) (by decide) (by decide) rfl

set_option maxRecDepth 100000 in
set_option maxHeartbeats 4000000 in
theorem m_rangeAt1 {X : scr} {M : mem} {s a : Int} (rs : inR s) (ra : inR a) {n : Int} (hs : 0 ≤ s ∧ s ≤ 100) (hv : okW (mv M s) n) (hn60 : 0 ≤ n ∧ n ≤ 60) (ha : -1000 ≤ a ∧ a ≤ 1000) : At X 0 116 0 [vr 856, vi s, vi 1, vi a] [] M (qI (fun x M' => M' = M ∧ (x = -1 ∨ (M 861 s = 0 ∧ 0 ≤ x ∧ x < M 864 s ∧ x ≤ 1 ∧ bgN M s 1 x ≤ a ∧ a ≤ bgN M s 1 x + tkN M s 1 x)))) := by
  have hN := okW_N hv (by omega)
  have hu := okW_u hv
  obtain ⟨n1, n2, n3, n4, n5, n6⟩ := hN
  have lp : ∀ (n9 : Nat) (f k : Int) (rf : inR f) (rk : inR k) (hk : -1 ≤ k ∧ k ≤ 1) (hm : 0 ≤ k → M 861 s = 0 ∧ k < M 864 s) (hn : (k + 1).toNat = n9) (w1 : f = -1 ∨ (M 861 s = 0 ∧ 0 ≤ f ∧ f < M 864 s ∧ f ≤ 1 ∧ bgN M s 1 f ≤ a ∧ a ≤ bgN M s 1 f + tkN M s 1 f)), At X 0 116 16 [vr 856, vi s, vi 1, vi a, vi f, vi k] [] M (qI (fun x M' => M' = M ∧ (x = -1 ∨ (M 861 s = 0 ∧ 0 ≤ x ∧ x < M 864 s ∧ x ≤ 1 ∧ bgN M s 1 x ≤ a ∧ a ≤ bgN M s 1 x + tkN M s 1 x)))) := by
    intro n9
    induction n9 using Nat.strongRecOn with
    | ind n9 ih =>
    intro f k rf rk hk hm hn w1
    have hm0 : k ≥ 0 → M 861 s = 0 ∧ k < M 864 s := fun h => hm h
    refine at_iload dx_116_16 rfl ?_
    refine at_zltR dx_116_17 rk (fun c17 => ?_) (fun c17 => ?_)
    · skip
      refine at_iload dx_116_41 rfl ?_
      refine at_iretI dx_116_42 rf ?_
      exact ⟨rfl, w1⟩
    · skip
      refine at_aload dx_116_18 rfl ?_
      refine at_iload dx_116_19 rfl ?_
      refine at_iload dx_116_20 rfl ?_
      refine at_iload dx_116_21 rfl ?_
      refine at_callVI dx_116_22 rfl lc_856 rfl (m_startOf rs (by decide) rk hs (by omega) ⟨n1, n2, n3, n4, n5, n6⟩) ?_
      rintro x22 M9 r22 ⟨e9, h22⟩; replace e9 := e9.symm; subst e9
      replace h22 := bg_of (by omega) h22
      have q22 : -300 ≤ x22 ∧ x22 ≤ 300 := by rw [h22]; unfold bgN; (repeat' split) <;> omega
      refine at_istore dx_116_23 ?_
      refine at_iload dx_116_24 rfl ?_
      refine at_iload dx_116_25 rfl ?_
      refine at_iload dx_116_26 rfl ?_
      refine at_aload dx_116_27 rfl ?_
      refine at_iload dx_116_28 rfl ?_
      refine at_iload dx_116_29 rfl ?_
      refine at_iload dx_116_30 rfl ?_
      refine at_callVI dx_116_31 rfl lc_856 rfl (m_takesOf rs (by decide) rk hs (by omega)) ?_
      rintro x31 M9 r31 ⟨e9, h31⟩; replace e9 := e9.symm; subst e9
      replace h31 := tk_of (by omega) h31
      have q31 : -300 ≤ x31 ∧ x31 ≤ 300 := by rw [h31]; unfold tkN; (repeat' split) <;> omega
      refine at_addR dx_116_32 (by constructor <;> omega) (fun r32 => ?_)
      refine at_callSI dx_116_33 rfl rfl (m_isIn ra r22 r32) ?_
      rintro x33 M9 r33 ⟨e9, h33⟩; replace e9 := e9.symm; subst e9
      refine at_zeqR dx_116_34 r33 (fun c34 => ?_) (fun c34 => ?_)
      · skip
        refine at_iload dx_116_37 rfl ?_
        refine at_istore dx_116_38 ?_
        refine at_iincR (y := -1) dx_116_39 rfl rfl (by constructor <;> omega) (fun r39 => ?_)
        refine at_goto dx_116_40 ?_
        refine at_wk (ls := [vr 856, vi _, vi _, vi _, vi _, vi _]) ⟨Or.inl rfl, Or.inl rfl, Or.inl rfl, Or.inl rfl, Or.inl rfl, Or.inl rfl, trivial⟩ ?_
        have hm1 := hm0 (by omega)
        first
        | exact ih _ (by omega) _ _ rf r39 (by omega) (fun h => by omega) rfl w1
        | (refine ih _ (by omega) _ _ rk r39 (by omega) (fun h => by omega) rfl (Or.inr ⟨hm1.1, by omega, hm1.2, by omega, ?_, ?_⟩)
           · rw [← h22]; split at h33 <;> omega
           · rw [← h22, ← h31]; split at h33 <;> omega)
      · skip
        refine at_iload dx_116_35 rfl ?_
        refine at_goto dx_116_36 ?_
        refine at_istore dx_116_38 ?_
        refine at_iincR (y := -1) dx_116_39 rfl rfl (by constructor <;> omega) (fun r39 => ?_)
        refine at_goto dx_116_40 ?_
        refine at_wk (ls := [vr 856, vi _, vi _, vi _, vi _, vi _]) ⟨Or.inl rfl, Or.inl rfl, Or.inl rfl, Or.inl rfl, Or.inl rfl, Or.inl rfl, trivial⟩ ?_
        have hm1 := hm0 (by omega)
        first
        | exact ih _ (by omega) _ _ rf r39 (by omega) (fun h => by omega) rfl w1
        | (refine ih _ (by omega) _ _ rk r39 (by omega) (fun h => by omega) rfl (Or.inr ⟨hm1.1, by omega, hm1.2, by omega, ?_, ?_⟩)
           · rw [← h22]; split at h33 <;> omega
           · rw [← h22, ← h31]; split at h33 <;> omega)
  refine at_const (x := -1) dx_116_0 rfl ?_
  refine at_istore dx_116_1 ?_
  refine at_aload dx_116_2 rfl ?_
  refine at_getR dx_116_3 lc_856 rfl lt_856_4 ?_
  refine at_iload dx_116_4 rfl ?_
  refine at_aldZ dx_116_5 lc_861 ln_861 (by first | omega | (simp (disch := omega) only [um_eq, um_k, um_j]; omega)) (by first | omega | (simp (disch := omega) only [um_eq, um_k, um_j]; omega)) (fun r5 => ?_)
  refine at_zeqR dx_116_6 r5 (fun c6 => ?_) (fun c6 => ?_)
  · skip
    refine at_aload dx_116_9 rfl ?_
    refine at_getR dx_116_10 lc_856 rfl lt_856_7 ?_
    refine at_iload dx_116_11 rfl ?_
    refine at_aldI dx_116_12 lc_864 ln_864 (by first | omega | (simp (disch := omega) only [um_eq, um_k, um_j]; omega)) (by first | omega | (simp (disch := omega) only [um_eq, um_k, um_j]; omega)) (fun r12 => ?_)
    refine at_const (x := 1) dx_116_13 rfl ?_
    refine at_subR dx_116_14 (by constructor <;> omega) (fun r14 => ?_)
    refine at_istore dx_116_15 ?_
    exact lp _ (-1) _ (by decide) (by first | assumption | decide) (by omega) (fun h => by omega) rfl (Or.inl rfl)
  · skip
    refine at_const (x := -1) dx_116_7 rfl ?_
    refine at_goto dx_116_8 ?_
    refine at_istore dx_116_15 ?_
    exact lp _ (-1) _ (by decide) (by first | assumption | decide) (by omega) (fun h => by omega) rfl (Or.inl rfl)

set_option maxRecDepth 100000 in
set_option maxHeartbeats 4000000 in
theorem m_maps1 {X : scr} {M : mem} {s a y : Int} (rs : inR s) (ra : inR a) (ry : inR y) {n : Int} (hs : 0 ≤ s ∧ s ≤ 100) (hv : okW (mv M s) n) (hn60 : 0 ≤ n ∧ n ≤ 60) (ha : 0 ≤ a ∧ a ≤ lenW (mv M s) n) : At X 0 117 0 [vr 856, vi s, vi 1, vi a, vi y] [] M (qI (fun x M' => frE (fun q j => q = 856 ∧ j = 28) M M' ∧ 0 ≤ x ∧ x ≤ n)) := by
  have hN := okW_N hv (by omega)
  have hu := okW_u hv
  obtain ⟨n1, n2, n3, n4, n5, n6⟩ := hN
  have lp : ∀ (n9 : Nat) (b k : Int) (rb : inR b) (rk : inR k) (hk : 0 ≤ k ∧ k ≤ 2) (hn : (2 - k).toNat = n9) (w1 : (k = 0 → b = 0) ∧ (0 < k → M 861 s = 0) ∧ (k = 1 → b = tkN M s 0 0 - tkN M s 1 0 ∧ bgN M s 1 0 + tkN M s 1 0 < a) ∧ (k = 2 → M 864 s = 2 ∧ b = tkN M s 0 0 - tkN M s 1 0 + (tkN M s 0 1 - tkN M s 1 1) ∧ bgN M s 1 1 + tkN M s 1 1 < a)), At X 0 117 4 [vr 856, vi s, vi 1, vi a, vi y, vi b, vi k] [] M (qI (fun x M' => frE (fun q j => q = 856 ∧ j = 28) M M' ∧ 0 ≤ x ∧ x ≤ n)) := by
    intro n9
    induction n9 using Nat.strongRecOn with
    | ind n9 ih =>
    intro b k rb rk hk hn w1
    have hs0 : M 864 s ≤ 2 ∨ M 861 s ≠ 0 := by omega
    refine at_iload dx_117_4 rfl ?_
    refine at_aload dx_117_5 rfl ?_
    refine at_getR dx_117_6 lc_856 rfl lt_856_7 ?_
    refine at_iload dx_117_7 rfl ?_
    refine at_aldI dx_117_8 lc_864 ln_864 (by first | omega | (simp (disch := omega) only [um_eq, um_k, um_j]; omega)) (by first | omega | (simp (disch := omega) only [um_eq, um_k, um_j]; omega)) (fun r8 => ?_)
    refine at_cgeR dx_117_9 rk r8 (fun c9 => ?_) (fun c9 => ?_)
    · skip
      have hL : lenW (mv M s) n ≤ 300 ∧ -300 ≤ lenW (mv M s) n := by rw [lenW_mv]; omega
      have hb : -800 ≤ b ∧ b ≤ 800 := by
        obtain ⟨w2, w3, w4, w5⟩ := w1
        rcases (show k = 0 ∨ k = 1 ∨ k = 2 by omega) with e | e | e
        · have := w2 e; omega
        · have := (w4 e).1; rw [this]; unfold tkN; (repeat' split) <;> omega
        · have := (w5 e).2.1; rw [this]; unfold tkN; (repeat' split) <;> omega
      refine at_iload dx_117_107 rfl ?_
      refine at_iload dx_117_108 rfl ?_
      refine at_addR dx_117_109 (by constructor <;> omega) (fun r109 => ?_)
      refine at_iretI dx_117_110 r109 ?_
      refine ⟨fe_rf, ?_⟩
      rw [lenW_mv] at *
      simp [bgN, tkN] at w1
      obtain ⟨w2, w3, w4, w5⟩ := w1
      rcases (show k = 0 ∨ k = 1 ∨ k = 2 by omega) with e | e | e <;> subst e <;> simp [bgN, tkN] at * <;> omega
    · skip
      refine at_aload dx_117_10 rfl ?_
      refine at_getR dx_117_11 lc_856 rfl lt_856_4 ?_
      refine at_iload dx_117_12 rfl ?_
      refine at_aldZ dx_117_13 lc_861 ln_861 (by first | omega | (simp (disch := omega) only [um_eq, um_k, um_j]; omega)) (by first | omega | (simp (disch := omega) only [um_eq, um_k, um_j]; omega)) (fun r13 => ?_)
      refine at_zneR dx_117_14 r13 (fun c14 => ?_) (fun c14 => ?_)
      · skip
        have hL : lenW (mv M s) n ≤ 300 ∧ -300 ≤ lenW (mv M s) n := by rw [lenW_mv]; omega
        have hb : -800 ≤ b ∧ b ≤ 800 := by
          obtain ⟨w2, w3, w4, w5⟩ := w1
          rcases (show k = 0 ∨ k = 1 ∨ k = 2 by omega) with e | e | e
          · have := w2 e; omega
          · have := (w4 e).1; rw [this]; unfold tkN; (repeat' split) <;> omega
          · have := (w5 e).2.1; rw [this]; unfold tkN; (repeat' split) <;> omega
        refine at_iload dx_117_107 rfl ?_
        refine at_iload dx_117_108 rfl ?_
        refine at_addR dx_117_109 (by constructor <;> omega) (fun r109 => ?_)
        refine at_iretI dx_117_110 r109 ?_
        refine ⟨fe_rf, ?_⟩
        rw [lenW_mv] at *
        simp [bgN, tkN] at w1
        obtain ⟨w2, w3, w4, w5⟩ := w1
        rcases (show k = 0 ∨ k = 1 ∨ k = 2 by omega) with e | e | e <;> subst e <;> simp [bgN, tkN] at * <;> omega
      · skip
        have hL : lenW (mv M s) n ≤ 300 ∧ -300 ≤ lenW (mv M s) n := by rw [lenW_mv]; omega
        have hb : -800 ≤ b ∧ b ≤ 800 := by
          obtain ⟨w2, w3, w4, w5⟩ := w1
          rcases (show k = 0 ∨ k = 1 by omega) with e | e
          · have := w2 e; omega
          · have := (w4 e).1; rw [this]; unfold tkN; (repeat' split) <;> omega
        refine at_aload dx_117_15 rfl ?_
        refine at_iload dx_117_16 rfl ?_
        refine at_iload dx_117_17 rfl ?_
        refine at_iload dx_117_18 rfl ?_
        refine at_callVI dx_117_19 rfl lc_856 rfl (m_startOf rs (by decide) rk hs (by omega) ⟨n1, n2, n3, n4, n5, n6⟩) ?_
        rintro x19 M9 r19 ⟨e9, h19⟩; replace e9 := e9.symm; subst e9
        replace h19 := bg_of (by omega) h19
        have q19 : -300 ≤ x19 ∧ x19 ≤ 300 := by rw [h19]; unfold bgN; (repeat' split) <;> omega
        refine at_istore dx_117_20 ?_
        refine at_aload dx_117_21 rfl ?_
        refine at_iload dx_117_22 rfl ?_
        refine at_iload dx_117_23 rfl ?_
        refine at_iload dx_117_24 rfl ?_
        refine at_callVI dx_117_25 rfl lc_856 rfl (m_takesOf rs (by decide) rk hs (by omega)) ?_
        rintro x25 M9 r25 ⟨e9, h25⟩; replace e9 := e9.symm; subst e9
        replace h25 := tk_of (by omega) h25
        have q25 : -300 ≤ x25 ∧ x25 ≤ 300 := by rw [h25]; unfold tkN; (repeat' split) <;> omega
        refine at_istore dx_117_26 ?_
        refine at_aload dx_117_27 rfl ?_
        refine at_iload dx_117_28 rfl ?_
        refine at_iload dx_117_29 rfl ?_
        refine at_zneR dx_117_30 (by decide) (fun _ => ?_) (fun c => absurd c (by decide))
        refine at_const (x := 0) dx_117_33 rfl ?_
        refine at_iload dx_117_34 rfl ?_
        refine at_callVI dx_117_35 rfl lc_856 rfl (m_takesOf rs (by decide) rk hs (by omega)) ?_
        rintro x35 M9 r35 ⟨e9, h35⟩; replace e9 := e9.symm; subst e9
        replace h35 := tk_of (by omega) h35
        have q35 : -300 ≤ x35 ∧ x35 ≤ 300 := by rw [h35]; unfold tkN; (repeat' split) <;> omega
        refine at_istore dx_117_36 ?_
        refine at_iload dx_117_37 rfl ?_
        refine at_iload dx_117_38 rfl ?_
        refine at_cgeR dx_117_39 ra r19 (fun c39 => ?_) (fun c39 => ?_)
        · skip
          refine at_iload dx_117_44 rfl ?_
          refine at_iload dx_117_45 rfl ?_
          refine at_iload dx_117_46 rfl ?_
          refine at_addR dx_117_47 (by constructor <;> omega) (fun r47 => ?_)
          refine at_cgtR dx_117_48 ra r47 (fun c48 => ?_) (fun c48 => ?_)
          · skip
            refine at_iload dx_117_99 rfl ?_
            refine at_iload dx_117_100 rfl ?_
            refine at_iload dx_117_101 rfl ?_
            refine at_subR dx_117_102 (by constructor <;> omega) (fun r102 => ?_)
            refine at_addR dx_117_103 (by constructor <;> omega) (fun r103 => ?_)
            refine at_istore dx_117_104 ?_
            refine at_iincR (y := 1) dx_117_105 rfl rfl (by constructor <;> omega) (fun r105 => ?_)
            refine at_goto dx_117_106 ?_
            refine at_wk (ls := [vr 856, vi _, vi _, vi _, vi _, vi _, vi _]) ⟨Or.inl rfl, Or.inl rfl, Or.inl rfl, Or.inl rfl, Or.inl rfl, Or.inl rfl, Or.inl rfl, trivial⟩ ?_
            refine ih _ (by omega) _ _ r103 r105 (by omega) rfl ⟨fun h => by omega, fun h => by omega, fun h => ?_, fun h => ?_⟩
            · have e : k = 0 := by omega
              subst e
              have := w1.1 rfl
              exact ⟨by omega, by omega⟩
            · have e : k = 1 := by omega
              subst e
              have := w1.2.2.1 rfl
              exact ⟨by omega, by omega, by omega⟩
          · skip
            refine at_iload dx_117_49 rfl ?_
            refine at_zleR dx_117_50 r25 (fun c50 => ?_) (fun c50 => ?_)
            · skip
              refine at_const (x := 0) dx_117_58 rfl ?_
              refine at_istore dx_117_59 ?_
              refine at_iload dx_117_60 rfl ?_
              refine at_zleR dx_117_61 r25 (fun c61 => ?_) (fun c61 => ?_)
              · skip
                refine at_const (x := 0) dx_117_67 rfl ?_
                refine at_istore dx_117_68 ?_
                refine at_aload dx_117_69 rfl ?_
                refine at_aload dx_117_70 rfl ?_
                refine at_getI 28 dx_117_71 lc_856 rfl rfl (fun r71 => ?_)
                refine at_zneR dx_117_72 r71 (fun c72 => ?_) (fun c72 => ?_)
                · skip
                  refine at_const (x := 1) dx_117_81 rfl ?_
                  refine at_goto dx_117_82 ?_
                  refine at_putZ 28 dx_117_84 lc_856 rfl rfl (Or.inr rfl) ?_
                  refine at_iload dx_117_85 rfl ?_
                  refine at_iload dx_117_86 rfl ?_
                  refine at_addR dx_117_87 (by constructor <;> omega) (fun r87 => ?_)
                  refine at_iload dx_117_88 rfl ?_
                  refine at_zneR dx_117_89 (by decide) (fun c => absurd c (by decide)) (fun _ => ?_)
                  refine at_iload dx_117_90 rfl ?_
                  refine at_zneR dx_117_91 (by decide) (fun c => absurd c (by decide)) (fun _ => ?_)
                  refine at_iload dx_117_92 rfl ?_
                  refine at_zeqR dx_117_93 ry (fun c93 => ?_) (fun c93 => ?_)
                  · skip
                    refine at_const (x := 0) dx_117_96 rfl ?_
                    refine at_addR dx_117_97 (by constructor <;> omega) (fun r97 => ?_)
                    refine at_iretI dx_117_98 r97 ?_
                    refine ⟨fe_um ⟨rfl, rfl⟩, ?_⟩
                    rw [lenW_mv] at *
                    simp [bgN, tkN] at w1
                    obtain ⟨w2, w3, w4, w5⟩ := w1
                    rcases (show k = 0 ∨ k = 1 ∨ k = 2 by omega) with e | e | e <;> subst e <;> simp [bgN, tkN] at * <;> omega
                  · skip
                    refine at_iload dx_117_94 rfl ?_
                    refine at_goto dx_117_95 ?_
                    refine at_addR dx_117_97 (by constructor <;> omega) (fun r97 => ?_)
                    refine at_iretI dx_117_98 r97 ?_
                    refine ⟨fe_um ⟨rfl, rfl⟩, ?_⟩
                    rw [lenW_mv] at *
                    simp [bgN, tkN] at w1
                    obtain ⟨w2, w3, w4, w5⟩ := w1
                    rcases (show k = 0 ∨ k = 1 ∨ k = 2 by omega) with e | e | e <;> subst e <;> simp [bgN, tkN] at * <;> omega
                · skip
                  refine at_iload dx_117_73 rfl ?_
                  refine at_iload dx_117_74 rfl ?_
                  refine at_cleR dx_117_75 ra r19 (fun c75 => ?_) (fun c75 => ?_)
                  · skip
                    refine at_const (x := 0) dx_117_83 rfl ?_
                    refine at_putZ 28 dx_117_84 lc_856 rfl rfl (Or.inl rfl) ?_
                    refine at_iload dx_117_85 rfl ?_
                    refine at_iload dx_117_86 rfl ?_
                    refine at_addR dx_117_87 (by constructor <;> omega) (fun r87 => ?_)
                    refine at_iload dx_117_88 rfl ?_
                    refine at_zneR dx_117_89 (by decide) (fun c => absurd c (by decide)) (fun _ => ?_)
                    refine at_iload dx_117_90 rfl ?_
                    refine at_zneR dx_117_91 (by decide) (fun c => absurd c (by decide)) (fun _ => ?_)
                    refine at_iload dx_117_92 rfl ?_
                    refine at_zeqR dx_117_93 ry (fun c93 => ?_) (fun c93 => ?_)
                    · skip
                      refine at_const (x := 0) dx_117_96 rfl ?_
                      refine at_addR dx_117_97 (by constructor <;> omega) (fun r97 => ?_)
                      refine at_iretI dx_117_98 r97 ?_
                      refine ⟨fe_um ⟨rfl, rfl⟩, ?_⟩
                      rw [lenW_mv] at *
                      simp [bgN, tkN] at w1
                      obtain ⟨w2, w3, w4, w5⟩ := w1
                      rcases (show k = 0 ∨ k = 1 ∨ k = 2 by omega) with e | e | e <;> subst e <;> simp [bgN, tkN] at * <;> omega
                    · skip
                      refine at_iload dx_117_94 rfl ?_
                      refine at_goto dx_117_95 ?_
                      refine at_addR dx_117_97 (by constructor <;> omega) (fun r97 => ?_)
                      refine at_iretI dx_117_98 r97 ?_
                      refine ⟨fe_um ⟨rfl, rfl⟩, ?_⟩
                      rw [lenW_mv] at *
                      simp [bgN, tkN] at w1
                      obtain ⟨w2, w3, w4, w5⟩ := w1
                      rcases (show k = 0 ∨ k = 1 ∨ k = 2 by omega) with e | e | e <;> subst e <;> simp [bgN, tkN] at * <;> omega
                  · skip
                    refine at_iload dx_117_76 rfl ?_
                    refine at_iload dx_117_77 rfl ?_
                    refine at_iload dx_117_78 rfl ?_
                    refine at_addR dx_117_79 (by constructor <;> omega) (fun r79 => ?_)
                    refine at_cgeR dx_117_80 ra r79 (fun c80 => ?_) (fun c80 => ?_)
                    · skip
                      refine at_const (x := 0) dx_117_83 rfl ?_
                      refine at_putZ 28 dx_117_84 lc_856 rfl rfl (Or.inl rfl) ?_
                      refine at_iload dx_117_85 rfl ?_
                      refine at_iload dx_117_86 rfl ?_
                      refine at_addR dx_117_87 (by constructor <;> omega) (fun r87 => ?_)
                      refine at_iload dx_117_88 rfl ?_
                      refine at_zneR dx_117_89 (by decide) (fun c => absurd c (by decide)) (fun _ => ?_)
                      refine at_iload dx_117_90 rfl ?_
                      refine at_zneR dx_117_91 (by decide) (fun c => absurd c (by decide)) (fun _ => ?_)
                      refine at_iload dx_117_92 rfl ?_
                      refine at_zeqR dx_117_93 ry (fun c93 => ?_) (fun c93 => ?_)
                      · skip
                        refine at_const (x := 0) dx_117_96 rfl ?_
                        refine at_addR dx_117_97 (by constructor <;> omega) (fun r97 => ?_)
                        refine at_iretI dx_117_98 r97 ?_
                        refine ⟨fe_um ⟨rfl, rfl⟩, ?_⟩
                        rw [lenW_mv] at *
                        simp [bgN, tkN] at w1
                        obtain ⟨w2, w3, w4, w5⟩ := w1
                        rcases (show k = 0 ∨ k = 1 ∨ k = 2 by omega) with e | e | e <;> subst e <;> simp [bgN, tkN] at * <;> omega
                      · skip
                        refine at_iload dx_117_94 rfl ?_
                        refine at_goto dx_117_95 ?_
                        refine at_addR dx_117_97 (by constructor <;> omega) (fun r97 => ?_)
                        refine at_iretI dx_117_98 r97 ?_
                        refine ⟨fe_um ⟨rfl, rfl⟩, ?_⟩
                        rw [lenW_mv] at *
                        simp [bgN, tkN] at w1
                        obtain ⟨w2, w3, w4, w5⟩ := w1
                        rcases (show k = 0 ∨ k = 1 ∨ k = 2 by omega) with e | e | e <;> subst e <;> simp [bgN, tkN] at * <;> omega
                    · skip
                      refine at_const (x := 1) dx_117_81 rfl ?_
                      refine at_goto dx_117_82 ?_
                      refine at_putZ 28 dx_117_84 lc_856 rfl rfl (Or.inr rfl) ?_
                      refine at_iload dx_117_85 rfl ?_
                      refine at_iload dx_117_86 rfl ?_
                      refine at_addR dx_117_87 (by constructor <;> omega) (fun r87 => ?_)
                      refine at_iload dx_117_88 rfl ?_
                      refine at_zneR dx_117_89 (by decide) (fun c => absurd c (by decide)) (fun _ => ?_)
                      refine at_iload dx_117_90 rfl ?_
                      refine at_zneR dx_117_91 (by decide) (fun c => absurd c (by decide)) (fun _ => ?_)
                      refine at_iload dx_117_92 rfl ?_
                      refine at_zeqR dx_117_93 ry (fun c93 => ?_) (fun c93 => ?_)
                      · skip
                        refine at_const (x := 0) dx_117_96 rfl ?_
                        refine at_addR dx_117_97 (by constructor <;> omega) (fun r97 => ?_)
                        refine at_iretI dx_117_98 r97 ?_
                        refine ⟨fe_um ⟨rfl, rfl⟩, ?_⟩
                        rw [lenW_mv] at *
                        simp [bgN, tkN] at w1
                        obtain ⟨w2, w3, w4, w5⟩ := w1
                        rcases (show k = 0 ∨ k = 1 ∨ k = 2 by omega) with e | e | e <;> subst e <;> simp [bgN, tkN] at * <;> omega
                      · skip
                        refine at_iload dx_117_94 rfl ?_
                        refine at_goto dx_117_95 ?_
                        refine at_addR dx_117_97 (by constructor <;> omega) (fun r97 => ?_)
                        refine at_iretI dx_117_98 r97 ?_
                        refine ⟨fe_um ⟨rfl, rfl⟩, ?_⟩
                        rw [lenW_mv] at *
                        simp [bgN, tkN] at w1
                        obtain ⟨w2, w3, w4, w5⟩ := w1
                        rcases (show k = 0 ∨ k = 1 ∨ k = 2 by omega) with e | e | e <;> subst e <;> simp [bgN, tkN] at * <;> omega
              · skip
                refine at_iload dx_117_62 rfl ?_
                refine at_iload dx_117_63 rfl ?_
                refine at_cneR dx_117_64 ra r19 (fun c64 => ?_) (fun c64 => ?_)
                · skip
                  refine at_const (x := 0) dx_117_67 rfl ?_
                  refine at_istore dx_117_68 ?_
                  refine at_aload dx_117_69 rfl ?_
                  refine at_aload dx_117_70 rfl ?_
                  refine at_getI 28 dx_117_71 lc_856 rfl rfl (fun r71 => ?_)
                  refine at_zneR dx_117_72 r71 (fun c72 => ?_) (fun c72 => ?_)
                  · skip
                    refine at_const (x := 1) dx_117_81 rfl ?_
                    refine at_goto dx_117_82 ?_
                    refine at_putZ 28 dx_117_84 lc_856 rfl rfl (Or.inr rfl) ?_
                    refine at_iload dx_117_85 rfl ?_
                    refine at_iload dx_117_86 rfl ?_
                    refine at_addR dx_117_87 (by constructor <;> omega) (fun r87 => ?_)
                    refine at_iload dx_117_88 rfl ?_
                    refine at_zneR dx_117_89 (by decide) (fun c => absurd c (by decide)) (fun _ => ?_)
                    refine at_iload dx_117_90 rfl ?_
                    refine at_zneR dx_117_91 (by decide) (fun c => absurd c (by decide)) (fun _ => ?_)
                    refine at_iload dx_117_92 rfl ?_
                    refine at_zeqR dx_117_93 ry (fun c93 => ?_) (fun c93 => ?_)
                    · skip
                      refine at_const (x := 0) dx_117_96 rfl ?_
                      refine at_addR dx_117_97 (by constructor <;> omega) (fun r97 => ?_)
                      refine at_iretI dx_117_98 r97 ?_
                      refine ⟨fe_um ⟨rfl, rfl⟩, ?_⟩
                      rw [lenW_mv] at *
                      simp [bgN, tkN] at w1
                      obtain ⟨w2, w3, w4, w5⟩ := w1
                      rcases (show k = 0 ∨ k = 1 ∨ k = 2 by omega) with e | e | e <;> subst e <;> simp [bgN, tkN] at * <;> omega
                    · skip
                      refine at_iload dx_117_94 rfl ?_
                      refine at_goto dx_117_95 ?_
                      refine at_addR dx_117_97 (by constructor <;> omega) (fun r97 => ?_)
                      refine at_iretI dx_117_98 r97 ?_
                      refine ⟨fe_um ⟨rfl, rfl⟩, ?_⟩
                      rw [lenW_mv] at *
                      simp [bgN, tkN] at w1
                      obtain ⟨w2, w3, w4, w5⟩ := w1
                      rcases (show k = 0 ∨ k = 1 ∨ k = 2 by omega) with e | e | e <;> subst e <;> simp [bgN, tkN] at * <;> omega
                  · skip
                    refine at_iload dx_117_73 rfl ?_
                    refine at_iload dx_117_74 rfl ?_
                    refine at_cleR dx_117_75 ra r19 (fun c75 => ?_) (fun c75 => ?_)
                    · skip
                      refine at_const (x := 0) dx_117_83 rfl ?_
                      refine at_putZ 28 dx_117_84 lc_856 rfl rfl (Or.inl rfl) ?_
                      refine at_iload dx_117_85 rfl ?_
                      refine at_iload dx_117_86 rfl ?_
                      refine at_addR dx_117_87 (by constructor <;> omega) (fun r87 => ?_)
                      refine at_iload dx_117_88 rfl ?_
                      refine at_zneR dx_117_89 (by decide) (fun c => absurd c (by decide)) (fun _ => ?_)
                      refine at_iload dx_117_90 rfl ?_
                      refine at_zneR dx_117_91 (by decide) (fun c => absurd c (by decide)) (fun _ => ?_)
                      refine at_iload dx_117_92 rfl ?_
                      refine at_zeqR dx_117_93 ry (fun c93 => ?_) (fun c93 => ?_)
                      · skip
                        refine at_const (x := 0) dx_117_96 rfl ?_
                        refine at_addR dx_117_97 (by constructor <;> omega) (fun r97 => ?_)
                        refine at_iretI dx_117_98 r97 ?_
                        refine ⟨fe_um ⟨rfl, rfl⟩, ?_⟩
                        rw [lenW_mv] at *
                        simp [bgN, tkN] at w1
                        obtain ⟨w2, w3, w4, w5⟩ := w1
                        rcases (show k = 0 ∨ k = 1 ∨ k = 2 by omega) with e | e | e <;> subst e <;> simp [bgN, tkN] at * <;> omega
                      · skip
                        refine at_iload dx_117_94 rfl ?_
                        refine at_goto dx_117_95 ?_
                        refine at_addR dx_117_97 (by constructor <;> omega) (fun r97 => ?_)
                        refine at_iretI dx_117_98 r97 ?_
                        refine ⟨fe_um ⟨rfl, rfl⟩, ?_⟩
                        rw [lenW_mv] at *
                        simp [bgN, tkN] at w1
                        obtain ⟨w2, w3, w4, w5⟩ := w1
                        rcases (show k = 0 ∨ k = 1 ∨ k = 2 by omega) with e | e | e <;> subst e <;> simp [bgN, tkN] at * <;> omega
                    · skip
                      refine at_iload dx_117_76 rfl ?_
                      refine at_iload dx_117_77 rfl ?_
                      refine at_iload dx_117_78 rfl ?_
                      refine at_addR dx_117_79 (by constructor <;> omega) (fun r79 => ?_)
                      refine at_cgeR dx_117_80 ra r79 (fun c80 => ?_) (fun c80 => ?_)
                      · skip
                        refine at_const (x := 0) dx_117_83 rfl ?_
                        refine at_putZ 28 dx_117_84 lc_856 rfl rfl (Or.inl rfl) ?_
                        refine at_iload dx_117_85 rfl ?_
                        refine at_iload dx_117_86 rfl ?_
                        refine at_addR dx_117_87 (by constructor <;> omega) (fun r87 => ?_)
                        refine at_iload dx_117_88 rfl ?_
                        refine at_zneR dx_117_89 (by decide) (fun c => absurd c (by decide)) (fun _ => ?_)
                        refine at_iload dx_117_90 rfl ?_
                        refine at_zneR dx_117_91 (by decide) (fun c => absurd c (by decide)) (fun _ => ?_)
                        refine at_iload dx_117_92 rfl ?_
                        refine at_zeqR dx_117_93 ry (fun c93 => ?_) (fun c93 => ?_)
                        · skip
                          refine at_const (x := 0) dx_117_96 rfl ?_
                          refine at_addR dx_117_97 (by constructor <;> omega) (fun r97 => ?_)
                          refine at_iretI dx_117_98 r97 ?_
                          refine ⟨fe_um ⟨rfl, rfl⟩, ?_⟩
                          rw [lenW_mv] at *
                          simp [bgN, tkN] at w1
                          obtain ⟨w2, w3, w4, w5⟩ := w1
                          rcases (show k = 0 ∨ k = 1 ∨ k = 2 by omega) with e | e | e <;> subst e <;> simp [bgN, tkN] at * <;> omega
                        · skip
                          refine at_iload dx_117_94 rfl ?_
                          refine at_goto dx_117_95 ?_
                          refine at_addR dx_117_97 (by constructor <;> omega) (fun r97 => ?_)
                          refine at_iretI dx_117_98 r97 ?_
                          refine ⟨fe_um ⟨rfl, rfl⟩, ?_⟩
                          rw [lenW_mv] at *
                          simp [bgN, tkN] at w1
                          obtain ⟨w2, w3, w4, w5⟩ := w1
                          rcases (show k = 0 ∨ k = 1 ∨ k = 2 by omega) with e | e | e <;> subst e <;> simp [bgN, tkN] at * <;> omega
                      · skip
                        refine at_const (x := 1) dx_117_81 rfl ?_
                        refine at_goto dx_117_82 ?_
                        refine at_putZ 28 dx_117_84 lc_856 rfl rfl (Or.inr rfl) ?_
                        refine at_iload dx_117_85 rfl ?_
                        refine at_iload dx_117_86 rfl ?_
                        refine at_addR dx_117_87 (by constructor <;> omega) (fun r87 => ?_)
                        refine at_iload dx_117_88 rfl ?_
                        refine at_zneR dx_117_89 (by decide) (fun c => absurd c (by decide)) (fun _ => ?_)
                        refine at_iload dx_117_90 rfl ?_
                        refine at_zneR dx_117_91 (by decide) (fun c => absurd c (by decide)) (fun _ => ?_)
                        refine at_iload dx_117_92 rfl ?_
                        refine at_zeqR dx_117_93 ry (fun c93 => ?_) (fun c93 => ?_)
                        · skip
                          refine at_const (x := 0) dx_117_96 rfl ?_
                          refine at_addR dx_117_97 (by constructor <;> omega) (fun r97 => ?_)
                          refine at_iretI dx_117_98 r97 ?_
                          refine ⟨fe_um ⟨rfl, rfl⟩, ?_⟩
                          rw [lenW_mv] at *
                          simp [bgN, tkN] at w1
                          obtain ⟨w2, w3, w4, w5⟩ := w1
                          rcases (show k = 0 ∨ k = 1 ∨ k = 2 by omega) with e | e | e <;> subst e <;> simp [bgN, tkN] at * <;> omega
                        · skip
                          refine at_iload dx_117_94 rfl ?_
                          refine at_goto dx_117_95 ?_
                          refine at_addR dx_117_97 (by constructor <;> omega) (fun r97 => ?_)
                          refine at_iretI dx_117_98 r97 ?_
                          refine ⟨fe_um ⟨rfl, rfl⟩, ?_⟩
                          rw [lenW_mv] at *
                          simp [bgN, tkN] at w1
                          obtain ⟨w2, w3, w4, w5⟩ := w1
                          rcases (show k = 0 ∨ k = 1 ∨ k = 2 by omega) with e | e | e <;> subst e <;> simp [bgN, tkN] at * <;> omega
                · skip
                  refine at_const (x := 1) dx_117_65 rfl ?_
                  refine at_goto dx_117_66 ?_
                  refine at_istore dx_117_68 ?_
                  refine at_aload dx_117_69 rfl ?_
                  refine at_aload dx_117_70 rfl ?_
                  refine at_getI 28 dx_117_71 lc_856 rfl rfl (fun r71 => ?_)
                  refine at_zneR dx_117_72 r71 (fun c72 => ?_) (fun c72 => ?_)
                  · skip
                    refine at_const (x := 1) dx_117_81 rfl ?_
                    refine at_goto dx_117_82 ?_
                    refine at_putZ 28 dx_117_84 lc_856 rfl rfl (Or.inr rfl) ?_
                    refine at_iload dx_117_85 rfl ?_
                    refine at_iload dx_117_86 rfl ?_
                    refine at_addR dx_117_87 (by constructor <;> omega) (fun r87 => ?_)
                    refine at_iload dx_117_88 rfl ?_
                    refine at_zneR dx_117_89 (by decide) (fun c => absurd c (by decide)) (fun _ => ?_)
                    refine at_iload dx_117_90 rfl ?_
                    refine at_zneR dx_117_91 (by decide) (fun _ => ?_) (fun c => absurd c (by decide))
                    refine at_const (x := 0) dx_117_96 rfl ?_
                    refine at_addR dx_117_97 (by constructor <;> omega) (fun r97 => ?_)
                    refine at_iretI dx_117_98 r97 ?_
                    refine ⟨fe_um ⟨rfl, rfl⟩, ?_⟩
                    rw [lenW_mv] at *
                    simp [bgN, tkN] at w1
                    obtain ⟨w2, w3, w4, w5⟩ := w1
                    rcases (show k = 0 ∨ k = 1 ∨ k = 2 by omega) with e | e | e <;> subst e <;> simp [bgN, tkN] at * <;> omega
                  · skip
                    refine at_iload dx_117_73 rfl ?_
                    refine at_iload dx_117_74 rfl ?_
                    refine at_cleR dx_117_75 ra r19 (fun c75 => ?_) (fun c75 => ?_)
                    · skip
                      refine at_const (x := 0) dx_117_83 rfl ?_
                      refine at_putZ 28 dx_117_84 lc_856 rfl rfl (Or.inl rfl) ?_
                      refine at_iload dx_117_85 rfl ?_
                      refine at_iload dx_117_86 rfl ?_
                      refine at_addR dx_117_87 (by constructor <;> omega) (fun r87 => ?_)
                      refine at_iload dx_117_88 rfl ?_
                      refine at_zneR dx_117_89 (by decide) (fun c => absurd c (by decide)) (fun _ => ?_)
                      refine at_iload dx_117_90 rfl ?_
                      refine at_zneR dx_117_91 (by decide) (fun _ => ?_) (fun c => absurd c (by decide))
                      refine at_const (x := 0) dx_117_96 rfl ?_
                      refine at_addR dx_117_97 (by constructor <;> omega) (fun r97 => ?_)
                      refine at_iretI dx_117_98 r97 ?_
                      refine ⟨fe_um ⟨rfl, rfl⟩, ?_⟩
                      rw [lenW_mv] at *
                      simp [bgN, tkN] at w1
                      obtain ⟨w2, w3, w4, w5⟩ := w1
                      rcases (show k = 0 ∨ k = 1 ∨ k = 2 by omega) with e | e | e <;> subst e <;> simp [bgN, tkN] at * <;> omega
                    · skip
                      refine at_iload dx_117_76 rfl ?_
                      refine at_iload dx_117_77 rfl ?_
                      refine at_iload dx_117_78 rfl ?_
                      refine at_addR dx_117_79 (by constructor <;> omega) (fun r79 => ?_)
                      refine at_cgeR dx_117_80 ra r79 (fun c80 => ?_) (fun c80 => ?_)
                      · skip
                        refine at_const (x := 0) dx_117_83 rfl ?_
                        refine at_putZ 28 dx_117_84 lc_856 rfl rfl (Or.inl rfl) ?_
                        refine at_iload dx_117_85 rfl ?_
                        refine at_iload dx_117_86 rfl ?_
                        refine at_addR dx_117_87 (by constructor <;> omega) (fun r87 => ?_)
                        refine at_iload dx_117_88 rfl ?_
                        refine at_zneR dx_117_89 (by decide) (fun c => absurd c (by decide)) (fun _ => ?_)
                        refine at_iload dx_117_90 rfl ?_
                        refine at_zneR dx_117_91 (by decide) (fun _ => ?_) (fun c => absurd c (by decide))
                        refine at_const (x := 0) dx_117_96 rfl ?_
                        refine at_addR dx_117_97 (by constructor <;> omega) (fun r97 => ?_)
                        refine at_iretI dx_117_98 r97 ?_
                        refine ⟨fe_um ⟨rfl, rfl⟩, ?_⟩
                        rw [lenW_mv] at *
                        simp [bgN, tkN] at w1
                        obtain ⟨w2, w3, w4, w5⟩ := w1
                        rcases (show k = 0 ∨ k = 1 ∨ k = 2 by omega) with e | e | e <;> subst e <;> simp [bgN, tkN] at * <;> omega
                      · skip
                        refine at_const (x := 1) dx_117_81 rfl ?_
                        refine at_goto dx_117_82 ?_
                        refine at_putZ 28 dx_117_84 lc_856 rfl rfl (Or.inr rfl) ?_
                        refine at_iload dx_117_85 rfl ?_
                        refine at_iload dx_117_86 rfl ?_
                        refine at_addR dx_117_87 (by constructor <;> omega) (fun r87 => ?_)
                        refine at_iload dx_117_88 rfl ?_
                        refine at_zneR dx_117_89 (by decide) (fun c => absurd c (by decide)) (fun _ => ?_)
                        refine at_iload dx_117_90 rfl ?_
                        refine at_zneR dx_117_91 (by decide) (fun _ => ?_) (fun c => absurd c (by decide))
                        refine at_const (x := 0) dx_117_96 rfl ?_
                        refine at_addR dx_117_97 (by constructor <;> omega) (fun r97 => ?_)
                        refine at_iretI dx_117_98 r97 ?_
                        refine ⟨fe_um ⟨rfl, rfl⟩, ?_⟩
                        rw [lenW_mv] at *
                        simp [bgN, tkN] at w1
                        obtain ⟨w2, w3, w4, w5⟩ := w1
                        rcases (show k = 0 ∨ k = 1 ∨ k = 2 by omega) with e | e | e <;> subst e <;> simp [bgN, tkN] at * <;> omega
            · skip
              refine at_iload dx_117_51 rfl ?_
              refine at_iload dx_117_52 rfl ?_
              refine at_iload dx_117_53 rfl ?_
              refine at_addR dx_117_54 (by constructor <;> omega) (fun r54 => ?_)
              refine at_cneR dx_117_55 ra r54 (fun c55 => ?_) (fun c55 => ?_)
              · skip
                refine at_const (x := 0) dx_117_58 rfl ?_
                refine at_istore dx_117_59 ?_
                refine at_iload dx_117_60 rfl ?_
                refine at_zleR dx_117_61 r25 (fun c61 => ?_) (fun c61 => ?_)
                · skip
                  refine at_const (x := 0) dx_117_67 rfl ?_
                  refine at_istore dx_117_68 ?_
                  refine at_aload dx_117_69 rfl ?_
                  refine at_aload dx_117_70 rfl ?_
                  refine at_getI 28 dx_117_71 lc_856 rfl rfl (fun r71 => ?_)
                  refine at_zneR dx_117_72 r71 (fun c72 => ?_) (fun c72 => ?_)
                  · skip
                    refine at_const (x := 1) dx_117_81 rfl ?_
                    refine at_goto dx_117_82 ?_
                    refine at_putZ 28 dx_117_84 lc_856 rfl rfl (Or.inr rfl) ?_
                    refine at_iload dx_117_85 rfl ?_
                    refine at_iload dx_117_86 rfl ?_
                    refine at_addR dx_117_87 (by constructor <;> omega) (fun r87 => ?_)
                    refine at_iload dx_117_88 rfl ?_
                    refine at_zneR dx_117_89 (by decide) (fun c => absurd c (by decide)) (fun _ => ?_)
                    refine at_iload dx_117_90 rfl ?_
                    refine at_zneR dx_117_91 (by decide) (fun c => absurd c (by decide)) (fun _ => ?_)
                    refine at_iload dx_117_92 rfl ?_
                    refine at_zeqR dx_117_93 ry (fun c93 => ?_) (fun c93 => ?_)
                    · skip
                      refine at_const (x := 0) dx_117_96 rfl ?_
                      refine at_addR dx_117_97 (by constructor <;> omega) (fun r97 => ?_)
                      refine at_iretI dx_117_98 r97 ?_
                      refine ⟨fe_um ⟨rfl, rfl⟩, ?_⟩
                      rw [lenW_mv] at *
                      simp [bgN, tkN] at w1
                      obtain ⟨w2, w3, w4, w5⟩ := w1
                      rcases (show k = 0 ∨ k = 1 ∨ k = 2 by omega) with e | e | e <;> subst e <;> simp [bgN, tkN] at * <;> omega
                    · skip
                      refine at_iload dx_117_94 rfl ?_
                      refine at_goto dx_117_95 ?_
                      refine at_addR dx_117_97 (by constructor <;> omega) (fun r97 => ?_)
                      refine at_iretI dx_117_98 r97 ?_
                      refine ⟨fe_um ⟨rfl, rfl⟩, ?_⟩
                      rw [lenW_mv] at *
                      simp [bgN, tkN] at w1
                      obtain ⟨w2, w3, w4, w5⟩ := w1
                      rcases (show k = 0 ∨ k = 1 ∨ k = 2 by omega) with e | e | e <;> subst e <;> simp [bgN, tkN] at * <;> omega
                  · skip
                    refine at_iload dx_117_73 rfl ?_
                    refine at_iload dx_117_74 rfl ?_
                    refine at_cleR dx_117_75 ra r19 (fun c75 => ?_) (fun c75 => ?_)
                    · skip
                      refine at_const (x := 0) dx_117_83 rfl ?_
                      refine at_putZ 28 dx_117_84 lc_856 rfl rfl (Or.inl rfl) ?_
                      refine at_iload dx_117_85 rfl ?_
                      refine at_iload dx_117_86 rfl ?_
                      refine at_addR dx_117_87 (by constructor <;> omega) (fun r87 => ?_)
                      refine at_iload dx_117_88 rfl ?_
                      refine at_zneR dx_117_89 (by decide) (fun c => absurd c (by decide)) (fun _ => ?_)
                      refine at_iload dx_117_90 rfl ?_
                      refine at_zneR dx_117_91 (by decide) (fun c => absurd c (by decide)) (fun _ => ?_)
                      refine at_iload dx_117_92 rfl ?_
                      refine at_zeqR dx_117_93 ry (fun c93 => ?_) (fun c93 => ?_)
                      · skip
                        refine at_const (x := 0) dx_117_96 rfl ?_
                        refine at_addR dx_117_97 (by constructor <;> omega) (fun r97 => ?_)
                        refine at_iretI dx_117_98 r97 ?_
                        refine ⟨fe_um ⟨rfl, rfl⟩, ?_⟩
                        rw [lenW_mv] at *
                        simp [bgN, tkN] at w1
                        obtain ⟨w2, w3, w4, w5⟩ := w1
                        rcases (show k = 0 ∨ k = 1 ∨ k = 2 by omega) with e | e | e <;> subst e <;> simp [bgN, tkN] at * <;> omega
                      · skip
                        refine at_iload dx_117_94 rfl ?_
                        refine at_goto dx_117_95 ?_
                        refine at_addR dx_117_97 (by constructor <;> omega) (fun r97 => ?_)
                        refine at_iretI dx_117_98 r97 ?_
                        refine ⟨fe_um ⟨rfl, rfl⟩, ?_⟩
                        rw [lenW_mv] at *
                        simp [bgN, tkN] at w1
                        obtain ⟨w2, w3, w4, w5⟩ := w1
                        rcases (show k = 0 ∨ k = 1 ∨ k = 2 by omega) with e | e | e <;> subst e <;> simp [bgN, tkN] at * <;> omega
                    · skip
                      refine at_iload dx_117_76 rfl ?_
                      refine at_iload dx_117_77 rfl ?_
                      refine at_iload dx_117_78 rfl ?_
                      refine at_addR dx_117_79 (by constructor <;> omega) (fun r79 => ?_)
                      refine at_cgeR dx_117_80 ra r79 (fun c80 => ?_) (fun c80 => ?_)
                      · skip
                        refine at_const (x := 0) dx_117_83 rfl ?_
                        refine at_putZ 28 dx_117_84 lc_856 rfl rfl (Or.inl rfl) ?_
                        refine at_iload dx_117_85 rfl ?_
                        refine at_iload dx_117_86 rfl ?_
                        refine at_addR dx_117_87 (by constructor <;> omega) (fun r87 => ?_)
                        refine at_iload dx_117_88 rfl ?_
                        refine at_zneR dx_117_89 (by decide) (fun c => absurd c (by decide)) (fun _ => ?_)
                        refine at_iload dx_117_90 rfl ?_
                        refine at_zneR dx_117_91 (by decide) (fun c => absurd c (by decide)) (fun _ => ?_)
                        refine at_iload dx_117_92 rfl ?_
                        refine at_zeqR dx_117_93 ry (fun c93 => ?_) (fun c93 => ?_)
                        · skip
                          refine at_const (x := 0) dx_117_96 rfl ?_
                          refine at_addR dx_117_97 (by constructor <;> omega) (fun r97 => ?_)
                          refine at_iretI dx_117_98 r97 ?_
                          refine ⟨fe_um ⟨rfl, rfl⟩, ?_⟩
                          rw [lenW_mv] at *
                          simp [bgN, tkN] at w1
                          obtain ⟨w2, w3, w4, w5⟩ := w1
                          rcases (show k = 0 ∨ k = 1 ∨ k = 2 by omega) with e | e | e <;> subst e <;> simp [bgN, tkN] at * <;> omega
                        · skip
                          refine at_iload dx_117_94 rfl ?_
                          refine at_goto dx_117_95 ?_
                          refine at_addR dx_117_97 (by constructor <;> omega) (fun r97 => ?_)
                          refine at_iretI dx_117_98 r97 ?_
                          refine ⟨fe_um ⟨rfl, rfl⟩, ?_⟩
                          rw [lenW_mv] at *
                          simp [bgN, tkN] at w1
                          obtain ⟨w2, w3, w4, w5⟩ := w1
                          rcases (show k = 0 ∨ k = 1 ∨ k = 2 by omega) with e | e | e <;> subst e <;> simp [bgN, tkN] at * <;> omega
                      · skip
                        refine at_const (x := 1) dx_117_81 rfl ?_
                        refine at_goto dx_117_82 ?_
                        refine at_putZ 28 dx_117_84 lc_856 rfl rfl (Or.inr rfl) ?_
                        refine at_iload dx_117_85 rfl ?_
                        refine at_iload dx_117_86 rfl ?_
                        refine at_addR dx_117_87 (by constructor <;> omega) (fun r87 => ?_)
                        refine at_iload dx_117_88 rfl ?_
                        refine at_zneR dx_117_89 (by decide) (fun c => absurd c (by decide)) (fun _ => ?_)
                        refine at_iload dx_117_90 rfl ?_
                        refine at_zneR dx_117_91 (by decide) (fun c => absurd c (by decide)) (fun _ => ?_)
                        refine at_iload dx_117_92 rfl ?_
                        refine at_zeqR dx_117_93 ry (fun c93 => ?_) (fun c93 => ?_)
                        · skip
                          refine at_const (x := 0) dx_117_96 rfl ?_
                          refine at_addR dx_117_97 (by constructor <;> omega) (fun r97 => ?_)
                          refine at_iretI dx_117_98 r97 ?_
                          refine ⟨fe_um ⟨rfl, rfl⟩, ?_⟩
                          rw [lenW_mv] at *
                          simp [bgN, tkN] at w1
                          obtain ⟨w2, w3, w4, w5⟩ := w1
                          rcases (show k = 0 ∨ k = 1 ∨ k = 2 by omega) with e | e | e <;> subst e <;> simp [bgN, tkN] at * <;> omega
                        · skip
                          refine at_iload dx_117_94 rfl ?_
                          refine at_goto dx_117_95 ?_
                          refine at_addR dx_117_97 (by constructor <;> omega) (fun r97 => ?_)
                          refine at_iretI dx_117_98 r97 ?_
                          refine ⟨fe_um ⟨rfl, rfl⟩, ?_⟩
                          rw [lenW_mv] at *
                          simp [bgN, tkN] at w1
                          obtain ⟨w2, w3, w4, w5⟩ := w1
                          rcases (show k = 0 ∨ k = 1 ∨ k = 2 by omega) with e | e | e <;> subst e <;> simp [bgN, tkN] at * <;> omega
                · skip
                  refine at_iload dx_117_62 rfl ?_
                  refine at_iload dx_117_63 rfl ?_
                  refine at_cneR dx_117_64 ra r19 (fun c64 => ?_) (fun c64 => ?_)
                  · skip
                    refine at_const (x := 0) dx_117_67 rfl ?_
                    refine at_istore dx_117_68 ?_
                    refine at_aload dx_117_69 rfl ?_
                    refine at_aload dx_117_70 rfl ?_
                    refine at_getI 28 dx_117_71 lc_856 rfl rfl (fun r71 => ?_)
                    refine at_zneR dx_117_72 r71 (fun c72 => ?_) (fun c72 => ?_)
                    · skip
                      refine at_const (x := 1) dx_117_81 rfl ?_
                      refine at_goto dx_117_82 ?_
                      refine at_putZ 28 dx_117_84 lc_856 rfl rfl (Or.inr rfl) ?_
                      refine at_iload dx_117_85 rfl ?_
                      refine at_iload dx_117_86 rfl ?_
                      refine at_addR dx_117_87 (by constructor <;> omega) (fun r87 => ?_)
                      refine at_iload dx_117_88 rfl ?_
                      refine at_zneR dx_117_89 (by decide) (fun c => absurd c (by decide)) (fun _ => ?_)
                      refine at_iload dx_117_90 rfl ?_
                      refine at_zneR dx_117_91 (by decide) (fun c => absurd c (by decide)) (fun _ => ?_)
                      refine at_iload dx_117_92 rfl ?_
                      refine at_zeqR dx_117_93 ry (fun c93 => ?_) (fun c93 => ?_)
                      · skip
                        refine at_const (x := 0) dx_117_96 rfl ?_
                        refine at_addR dx_117_97 (by constructor <;> omega) (fun r97 => ?_)
                        refine at_iretI dx_117_98 r97 ?_
                        refine ⟨fe_um ⟨rfl, rfl⟩, ?_⟩
                        rw [lenW_mv] at *
                        simp [bgN, tkN] at w1
                        obtain ⟨w2, w3, w4, w5⟩ := w1
                        rcases (show k = 0 ∨ k = 1 ∨ k = 2 by omega) with e | e | e <;> subst e <;> simp [bgN, tkN] at * <;> omega
                      · skip
                        refine at_iload dx_117_94 rfl ?_
                        refine at_goto dx_117_95 ?_
                        refine at_addR dx_117_97 (by constructor <;> omega) (fun r97 => ?_)
                        refine at_iretI dx_117_98 r97 ?_
                        refine ⟨fe_um ⟨rfl, rfl⟩, ?_⟩
                        rw [lenW_mv] at *
                        simp [bgN, tkN] at w1
                        obtain ⟨w2, w3, w4, w5⟩ := w1
                        rcases (show k = 0 ∨ k = 1 ∨ k = 2 by omega) with e | e | e <;> subst e <;> simp [bgN, tkN] at * <;> omega
                    · skip
                      refine at_iload dx_117_73 rfl ?_
                      refine at_iload dx_117_74 rfl ?_
                      refine at_cleR dx_117_75 ra r19 (fun c75 => ?_) (fun c75 => ?_)
                      · skip
                        refine at_const (x := 0) dx_117_83 rfl ?_
                        refine at_putZ 28 dx_117_84 lc_856 rfl rfl (Or.inl rfl) ?_
                        refine at_iload dx_117_85 rfl ?_
                        refine at_iload dx_117_86 rfl ?_
                        refine at_addR dx_117_87 (by constructor <;> omega) (fun r87 => ?_)
                        refine at_iload dx_117_88 rfl ?_
                        refine at_zneR dx_117_89 (by decide) (fun c => absurd c (by decide)) (fun _ => ?_)
                        refine at_iload dx_117_90 rfl ?_
                        refine at_zneR dx_117_91 (by decide) (fun c => absurd c (by decide)) (fun _ => ?_)
                        refine at_iload dx_117_92 rfl ?_
                        refine at_zeqR dx_117_93 ry (fun c93 => ?_) (fun c93 => ?_)
                        · skip
                          refine at_const (x := 0) dx_117_96 rfl ?_
                          refine at_addR dx_117_97 (by constructor <;> omega) (fun r97 => ?_)
                          refine at_iretI dx_117_98 r97 ?_
                          refine ⟨fe_um ⟨rfl, rfl⟩, ?_⟩
                          rw [lenW_mv] at *
                          simp [bgN, tkN] at w1
                          obtain ⟨w2, w3, w4, w5⟩ := w1
                          rcases (show k = 0 ∨ k = 1 ∨ k = 2 by omega) with e | e | e <;> subst e <;> simp [bgN, tkN] at * <;> omega
                        · skip
                          refine at_iload dx_117_94 rfl ?_
                          refine at_goto dx_117_95 ?_
                          refine at_addR dx_117_97 (by constructor <;> omega) (fun r97 => ?_)
                          refine at_iretI dx_117_98 r97 ?_
                          refine ⟨fe_um ⟨rfl, rfl⟩, ?_⟩
                          rw [lenW_mv] at *
                          simp [bgN, tkN] at w1
                          obtain ⟨w2, w3, w4, w5⟩ := w1
                          rcases (show k = 0 ∨ k = 1 ∨ k = 2 by omega) with e | e | e <;> subst e <;> simp [bgN, tkN] at * <;> omega
                      · skip
                        refine at_iload dx_117_76 rfl ?_
                        refine at_iload dx_117_77 rfl ?_
                        refine at_iload dx_117_78 rfl ?_
                        refine at_addR dx_117_79 (by constructor <;> omega) (fun r79 => ?_)
                        refine at_cgeR dx_117_80 ra r79 (fun c80 => ?_) (fun c80 => ?_)
                        · skip
                          refine at_const (x := 0) dx_117_83 rfl ?_
                          refine at_putZ 28 dx_117_84 lc_856 rfl rfl (Or.inl rfl) ?_
                          refine at_iload dx_117_85 rfl ?_
                          refine at_iload dx_117_86 rfl ?_
                          refine at_addR dx_117_87 (by constructor <;> omega) (fun r87 => ?_)
                          refine at_iload dx_117_88 rfl ?_
                          refine at_zneR dx_117_89 (by decide) (fun c => absurd c (by decide)) (fun _ => ?_)
                          refine at_iload dx_117_90 rfl ?_
                          refine at_zneR dx_117_91 (by decide) (fun c => absurd c (by decide)) (fun _ => ?_)
                          refine at_iload dx_117_92 rfl ?_
                          refine at_zeqR dx_117_93 ry (fun c93 => ?_) (fun c93 => ?_)
                          · skip
                            refine at_const (x := 0) dx_117_96 rfl ?_
                            refine at_addR dx_117_97 (by constructor <;> omega) (fun r97 => ?_)
                            refine at_iretI dx_117_98 r97 ?_
                            refine ⟨fe_um ⟨rfl, rfl⟩, ?_⟩
                            rw [lenW_mv] at *
                            simp [bgN, tkN] at w1
                            obtain ⟨w2, w3, w4, w5⟩ := w1
                            rcases (show k = 0 ∨ k = 1 ∨ k = 2 by omega) with e | e | e <;> subst e <;> simp [bgN, tkN] at * <;> omega
                          · skip
                            refine at_iload dx_117_94 rfl ?_
                            refine at_goto dx_117_95 ?_
                            refine at_addR dx_117_97 (by constructor <;> omega) (fun r97 => ?_)
                            refine at_iretI dx_117_98 r97 ?_
                            refine ⟨fe_um ⟨rfl, rfl⟩, ?_⟩
                            rw [lenW_mv] at *
                            simp [bgN, tkN] at w1
                            obtain ⟨w2, w3, w4, w5⟩ := w1
                            rcases (show k = 0 ∨ k = 1 ∨ k = 2 by omega) with e | e | e <;> subst e <;> simp [bgN, tkN] at * <;> omega
                        · skip
                          refine at_const (x := 1) dx_117_81 rfl ?_
                          refine at_goto dx_117_82 ?_
                          refine at_putZ 28 dx_117_84 lc_856 rfl rfl (Or.inr rfl) ?_
                          refine at_iload dx_117_85 rfl ?_
                          refine at_iload dx_117_86 rfl ?_
                          refine at_addR dx_117_87 (by constructor <;> omega) (fun r87 => ?_)
                          refine at_iload dx_117_88 rfl ?_
                          refine at_zneR dx_117_89 (by decide) (fun c => absurd c (by decide)) (fun _ => ?_)
                          refine at_iload dx_117_90 rfl ?_
                          refine at_zneR dx_117_91 (by decide) (fun c => absurd c (by decide)) (fun _ => ?_)
                          refine at_iload dx_117_92 rfl ?_
                          refine at_zeqR dx_117_93 ry (fun c93 => ?_) (fun c93 => ?_)
                          · skip
                            refine at_const (x := 0) dx_117_96 rfl ?_
                            refine at_addR dx_117_97 (by constructor <;> omega) (fun r97 => ?_)
                            refine at_iretI dx_117_98 r97 ?_
                            refine ⟨fe_um ⟨rfl, rfl⟩, ?_⟩
                            rw [lenW_mv] at *
                            simp [bgN, tkN] at w1
                            obtain ⟨w2, w3, w4, w5⟩ := w1
                            rcases (show k = 0 ∨ k = 1 ∨ k = 2 by omega) with e | e | e <;> subst e <;> simp [bgN, tkN] at * <;> omega
                          · skip
                            refine at_iload dx_117_94 rfl ?_
                            refine at_goto dx_117_95 ?_
                            refine at_addR dx_117_97 (by constructor <;> omega) (fun r97 => ?_)
                            refine at_iretI dx_117_98 r97 ?_
                            refine ⟨fe_um ⟨rfl, rfl⟩, ?_⟩
                            rw [lenW_mv] at *
                            simp [bgN, tkN] at w1
                            obtain ⟨w2, w3, w4, w5⟩ := w1
                            rcases (show k = 0 ∨ k = 1 ∨ k = 2 by omega) with e | e | e <;> subst e <;> simp [bgN, tkN] at * <;> omega
                  · skip
                    refine at_const (x := 1) dx_117_65 rfl ?_
                    refine at_goto dx_117_66 ?_
                    refine at_istore dx_117_68 ?_
                    refine at_aload dx_117_69 rfl ?_
                    refine at_aload dx_117_70 rfl ?_
                    refine at_getI 28 dx_117_71 lc_856 rfl rfl (fun r71 => ?_)
                    refine at_zneR dx_117_72 r71 (fun c72 => ?_) (fun c72 => ?_)
                    · skip
                      refine at_const (x := 1) dx_117_81 rfl ?_
                      refine at_goto dx_117_82 ?_
                      refine at_putZ 28 dx_117_84 lc_856 rfl rfl (Or.inr rfl) ?_
                      refine at_iload dx_117_85 rfl ?_
                      refine at_iload dx_117_86 rfl ?_
                      refine at_addR dx_117_87 (by constructor <;> omega) (fun r87 => ?_)
                      refine at_iload dx_117_88 rfl ?_
                      refine at_zneR dx_117_89 (by decide) (fun c => absurd c (by decide)) (fun _ => ?_)
                      refine at_iload dx_117_90 rfl ?_
                      refine at_zneR dx_117_91 (by decide) (fun _ => ?_) (fun c => absurd c (by decide))
                      refine at_const (x := 0) dx_117_96 rfl ?_
                      refine at_addR dx_117_97 (by constructor <;> omega) (fun r97 => ?_)
                      refine at_iretI dx_117_98 r97 ?_
                      refine ⟨fe_um ⟨rfl, rfl⟩, ?_⟩
                      rw [lenW_mv] at *
                      simp [bgN, tkN] at w1
                      obtain ⟨w2, w3, w4, w5⟩ := w1
                      rcases (show k = 0 ∨ k = 1 ∨ k = 2 by omega) with e | e | e <;> subst e <;> simp [bgN, tkN] at * <;> omega
                    · skip
                      refine at_iload dx_117_73 rfl ?_
                      refine at_iload dx_117_74 rfl ?_
                      refine at_cleR dx_117_75 ra r19 (fun c75 => ?_) (fun c75 => ?_)
                      · skip
                        refine at_const (x := 0) dx_117_83 rfl ?_
                        refine at_putZ 28 dx_117_84 lc_856 rfl rfl (Or.inl rfl) ?_
                        refine at_iload dx_117_85 rfl ?_
                        refine at_iload dx_117_86 rfl ?_
                        refine at_addR dx_117_87 (by constructor <;> omega) (fun r87 => ?_)
                        refine at_iload dx_117_88 rfl ?_
                        refine at_zneR dx_117_89 (by decide) (fun c => absurd c (by decide)) (fun _ => ?_)
                        refine at_iload dx_117_90 rfl ?_
                        refine at_zneR dx_117_91 (by decide) (fun _ => ?_) (fun c => absurd c (by decide))
                        refine at_const (x := 0) dx_117_96 rfl ?_
                        refine at_addR dx_117_97 (by constructor <;> omega) (fun r97 => ?_)
                        refine at_iretI dx_117_98 r97 ?_
                        refine ⟨fe_um ⟨rfl, rfl⟩, ?_⟩
                        rw [lenW_mv] at *
                        simp [bgN, tkN] at w1
                        obtain ⟨w2, w3, w4, w5⟩ := w1
                        rcases (show k = 0 ∨ k = 1 ∨ k = 2 by omega) with e | e | e <;> subst e <;> simp [bgN, tkN] at * <;> omega
                      · skip
                        refine at_iload dx_117_76 rfl ?_
                        refine at_iload dx_117_77 rfl ?_
                        refine at_iload dx_117_78 rfl ?_
                        refine at_addR dx_117_79 (by constructor <;> omega) (fun r79 => ?_)
                        refine at_cgeR dx_117_80 ra r79 (fun c80 => ?_) (fun c80 => ?_)
                        · skip
                          refine at_const (x := 0) dx_117_83 rfl ?_
                          refine at_putZ 28 dx_117_84 lc_856 rfl rfl (Or.inl rfl) ?_
                          refine at_iload dx_117_85 rfl ?_
                          refine at_iload dx_117_86 rfl ?_
                          refine at_addR dx_117_87 (by constructor <;> omega) (fun r87 => ?_)
                          refine at_iload dx_117_88 rfl ?_
                          refine at_zneR dx_117_89 (by decide) (fun c => absurd c (by decide)) (fun _ => ?_)
                          refine at_iload dx_117_90 rfl ?_
                          refine at_zneR dx_117_91 (by decide) (fun _ => ?_) (fun c => absurd c (by decide))
                          refine at_const (x := 0) dx_117_96 rfl ?_
                          refine at_addR dx_117_97 (by constructor <;> omega) (fun r97 => ?_)
                          refine at_iretI dx_117_98 r97 ?_
                          refine ⟨fe_um ⟨rfl, rfl⟩, ?_⟩
                          rw [lenW_mv] at *
                          simp [bgN, tkN] at w1
                          obtain ⟨w2, w3, w4, w5⟩ := w1
                          rcases (show k = 0 ∨ k = 1 ∨ k = 2 by omega) with e | e | e <;> subst e <;> simp [bgN, tkN] at * <;> omega
                        · skip
                          refine at_const (x := 1) dx_117_81 rfl ?_
                          refine at_goto dx_117_82 ?_
                          refine at_putZ 28 dx_117_84 lc_856 rfl rfl (Or.inr rfl) ?_
                          refine at_iload dx_117_85 rfl ?_
                          refine at_iload dx_117_86 rfl ?_
                          refine at_addR dx_117_87 (by constructor <;> omega) (fun r87 => ?_)
                          refine at_iload dx_117_88 rfl ?_
                          refine at_zneR dx_117_89 (by decide) (fun c => absurd c (by decide)) (fun _ => ?_)
                          refine at_iload dx_117_90 rfl ?_
                          refine at_zneR dx_117_91 (by decide) (fun _ => ?_) (fun c => absurd c (by decide))
                          refine at_const (x := 0) dx_117_96 rfl ?_
                          refine at_addR dx_117_97 (by constructor <;> omega) (fun r97 => ?_)
                          refine at_iretI dx_117_98 r97 ?_
                          refine ⟨fe_um ⟨rfl, rfl⟩, ?_⟩
                          rw [lenW_mv] at *
                          simp [bgN, tkN] at w1
                          obtain ⟨w2, w3, w4, w5⟩ := w1
                          rcases (show k = 0 ∨ k = 1 ∨ k = 2 by omega) with e | e | e <;> subst e <;> simp [bgN, tkN] at * <;> omega
              · skip
                refine at_const (x := 1) dx_117_56 rfl ?_
                refine at_goto dx_117_57 ?_
                refine at_istore dx_117_59 ?_
                refine at_iload dx_117_60 rfl ?_
                refine at_zleR dx_117_61 r25 (fun c61 => ?_) (fun c61 => ?_)
                · skip
                  refine at_const (x := 0) dx_117_67 rfl ?_
                  refine at_istore dx_117_68 ?_
                  refine at_aload dx_117_69 rfl ?_
                  refine at_aload dx_117_70 rfl ?_
                  refine at_getI 28 dx_117_71 lc_856 rfl rfl (fun r71 => ?_)
                  refine at_zneR dx_117_72 r71 (fun c72 => ?_) (fun c72 => ?_)
                  · skip
                    refine at_const (x := 1) dx_117_81 rfl ?_
                    refine at_goto dx_117_82 ?_
                    refine at_putZ 28 dx_117_84 lc_856 rfl rfl (Or.inr rfl) ?_
                    refine at_iload dx_117_85 rfl ?_
                    refine at_iload dx_117_86 rfl ?_
                    refine at_addR dx_117_87 (by constructor <;> omega) (fun r87 => ?_)
                    refine at_iload dx_117_88 rfl ?_
                    refine at_zneR dx_117_89 (by decide) (fun _ => ?_) (fun c => absurd c (by decide))
                    refine at_iload dx_117_94 rfl ?_
                    refine at_goto dx_117_95 ?_
                    refine at_addR dx_117_97 (by constructor <;> omega) (fun r97 => ?_)
                    refine at_iretI dx_117_98 r97 ?_
                    refine ⟨fe_um ⟨rfl, rfl⟩, ?_⟩
                    rw [lenW_mv] at *
                    simp [bgN, tkN] at w1
                    obtain ⟨w2, w3, w4, w5⟩ := w1
                    rcases (show k = 0 ∨ k = 1 ∨ k = 2 by omega) with e | e | e <;> subst e <;> simp [bgN, tkN] at * <;> omega
                  · skip
                    refine at_iload dx_117_73 rfl ?_
                    refine at_iload dx_117_74 rfl ?_
                    refine at_cleR dx_117_75 ra r19 (fun c75 => ?_) (fun c75 => ?_)
                    · skip
                      refine at_const (x := 0) dx_117_83 rfl ?_
                      refine at_putZ 28 dx_117_84 lc_856 rfl rfl (Or.inl rfl) ?_
                      refine at_iload dx_117_85 rfl ?_
                      refine at_iload dx_117_86 rfl ?_
                      refine at_addR dx_117_87 (by constructor <;> omega) (fun r87 => ?_)
                      refine at_iload dx_117_88 rfl ?_
                      refine at_zneR dx_117_89 (by decide) (fun _ => ?_) (fun c => absurd c (by decide))
                      refine at_iload dx_117_94 rfl ?_
                      refine at_goto dx_117_95 ?_
                      refine at_addR dx_117_97 (by constructor <;> omega) (fun r97 => ?_)
                      refine at_iretI dx_117_98 r97 ?_
                      refine ⟨fe_um ⟨rfl, rfl⟩, ?_⟩
                      rw [lenW_mv] at *
                      simp [bgN, tkN] at w1
                      obtain ⟨w2, w3, w4, w5⟩ := w1
                      rcases (show k = 0 ∨ k = 1 ∨ k = 2 by omega) with e | e | e <;> subst e <;> simp [bgN, tkN] at * <;> omega
                    · skip
                      refine at_iload dx_117_76 rfl ?_
                      refine at_iload dx_117_77 rfl ?_
                      refine at_iload dx_117_78 rfl ?_
                      refine at_addR dx_117_79 (by constructor <;> omega) (fun r79 => ?_)
                      refine at_cgeR dx_117_80 ra r79 (fun c80 => ?_) (fun c80 => ?_)
                      · skip
                        refine at_const (x := 0) dx_117_83 rfl ?_
                        refine at_putZ 28 dx_117_84 lc_856 rfl rfl (Or.inl rfl) ?_
                        refine at_iload dx_117_85 rfl ?_
                        refine at_iload dx_117_86 rfl ?_
                        refine at_addR dx_117_87 (by constructor <;> omega) (fun r87 => ?_)
                        refine at_iload dx_117_88 rfl ?_
                        refine at_zneR dx_117_89 (by decide) (fun _ => ?_) (fun c => absurd c (by decide))
                        refine at_iload dx_117_94 rfl ?_
                        refine at_goto dx_117_95 ?_
                        refine at_addR dx_117_97 (by constructor <;> omega) (fun r97 => ?_)
                        refine at_iretI dx_117_98 r97 ?_
                        refine ⟨fe_um ⟨rfl, rfl⟩, ?_⟩
                        rw [lenW_mv] at *
                        simp [bgN, tkN] at w1
                        obtain ⟨w2, w3, w4, w5⟩ := w1
                        rcases (show k = 0 ∨ k = 1 ∨ k = 2 by omega) with e | e | e <;> subst e <;> simp [bgN, tkN] at * <;> omega
                      · skip
                        refine at_const (x := 1) dx_117_81 rfl ?_
                        refine at_goto dx_117_82 ?_
                        refine at_putZ 28 dx_117_84 lc_856 rfl rfl (Or.inr rfl) ?_
                        refine at_iload dx_117_85 rfl ?_
                        refine at_iload dx_117_86 rfl ?_
                        refine at_addR dx_117_87 (by constructor <;> omega) (fun r87 => ?_)
                        refine at_iload dx_117_88 rfl ?_
                        refine at_zneR dx_117_89 (by decide) (fun _ => ?_) (fun c => absurd c (by decide))
                        refine at_iload dx_117_94 rfl ?_
                        refine at_goto dx_117_95 ?_
                        refine at_addR dx_117_97 (by constructor <;> omega) (fun r97 => ?_)
                        refine at_iretI dx_117_98 r97 ?_
                        refine ⟨fe_um ⟨rfl, rfl⟩, ?_⟩
                        rw [lenW_mv] at *
                        simp [bgN, tkN] at w1
                        obtain ⟨w2, w3, w4, w5⟩ := w1
                        rcases (show k = 0 ∨ k = 1 ∨ k = 2 by omega) with e | e | e <;> subst e <;> simp [bgN, tkN] at * <;> omega
                · skip
                  refine at_iload dx_117_62 rfl ?_
                  refine at_iload dx_117_63 rfl ?_
                  refine at_cneR dx_117_64 ra r19 (fun c64 => ?_) (fun c64 => ?_)
                  · skip
                    refine at_const (x := 0) dx_117_67 rfl ?_
                    refine at_istore dx_117_68 ?_
                    refine at_aload dx_117_69 rfl ?_
                    refine at_aload dx_117_70 rfl ?_
                    refine at_getI 28 dx_117_71 lc_856 rfl rfl (fun r71 => ?_)
                    refine at_zneR dx_117_72 r71 (fun c72 => ?_) (fun c72 => ?_)
                    · skip
                      refine at_const (x := 1) dx_117_81 rfl ?_
                      refine at_goto dx_117_82 ?_
                      refine at_putZ 28 dx_117_84 lc_856 rfl rfl (Or.inr rfl) ?_
                      refine at_iload dx_117_85 rfl ?_
                      refine at_iload dx_117_86 rfl ?_
                      refine at_addR dx_117_87 (by constructor <;> omega) (fun r87 => ?_)
                      refine at_iload dx_117_88 rfl ?_
                      refine at_zneR dx_117_89 (by decide) (fun _ => ?_) (fun c => absurd c (by decide))
                      refine at_iload dx_117_94 rfl ?_
                      refine at_goto dx_117_95 ?_
                      refine at_addR dx_117_97 (by constructor <;> omega) (fun r97 => ?_)
                      refine at_iretI dx_117_98 r97 ?_
                      refine ⟨fe_um ⟨rfl, rfl⟩, ?_⟩
                      rw [lenW_mv] at *
                      simp [bgN, tkN] at w1
                      obtain ⟨w2, w3, w4, w5⟩ := w1
                      rcases (show k = 0 ∨ k = 1 ∨ k = 2 by omega) with e | e | e <;> subst e <;> simp [bgN, tkN] at * <;> omega
                    · skip
                      refine at_iload dx_117_73 rfl ?_
                      refine at_iload dx_117_74 rfl ?_
                      refine at_cleR dx_117_75 ra r19 (fun c75 => ?_) (fun c75 => ?_)
                      · skip
                        refine at_const (x := 0) dx_117_83 rfl ?_
                        refine at_putZ 28 dx_117_84 lc_856 rfl rfl (Or.inl rfl) ?_
                        refine at_iload dx_117_85 rfl ?_
                        refine at_iload dx_117_86 rfl ?_
                        refine at_addR dx_117_87 (by constructor <;> omega) (fun r87 => ?_)
                        refine at_iload dx_117_88 rfl ?_
                        refine at_zneR dx_117_89 (by decide) (fun _ => ?_) (fun c => absurd c (by decide))
                        refine at_iload dx_117_94 rfl ?_
                        refine at_goto dx_117_95 ?_
                        refine at_addR dx_117_97 (by constructor <;> omega) (fun r97 => ?_)
                        refine at_iretI dx_117_98 r97 ?_
                        refine ⟨fe_um ⟨rfl, rfl⟩, ?_⟩
                        rw [lenW_mv] at *
                        simp [bgN, tkN] at w1
                        obtain ⟨w2, w3, w4, w5⟩ := w1
                        rcases (show k = 0 ∨ k = 1 ∨ k = 2 by omega) with e | e | e <;> subst e <;> simp [bgN, tkN] at * <;> omega
                      · skip
                        refine at_iload dx_117_76 rfl ?_
                        refine at_iload dx_117_77 rfl ?_
                        refine at_iload dx_117_78 rfl ?_
                        refine at_addR dx_117_79 (by constructor <;> omega) (fun r79 => ?_)
                        refine at_cgeR dx_117_80 ra r79 (fun c80 => ?_) (fun c80 => ?_)
                        · skip
                          refine at_const (x := 0) dx_117_83 rfl ?_
                          refine at_putZ 28 dx_117_84 lc_856 rfl rfl (Or.inl rfl) ?_
                          refine at_iload dx_117_85 rfl ?_
                          refine at_iload dx_117_86 rfl ?_
                          refine at_addR dx_117_87 (by constructor <;> omega) (fun r87 => ?_)
                          refine at_iload dx_117_88 rfl ?_
                          refine at_zneR dx_117_89 (by decide) (fun _ => ?_) (fun c => absurd c (by decide))
                          refine at_iload dx_117_94 rfl ?_
                          refine at_goto dx_117_95 ?_
                          refine at_addR dx_117_97 (by constructor <;> omega) (fun r97 => ?_)
                          refine at_iretI dx_117_98 r97 ?_
                          refine ⟨fe_um ⟨rfl, rfl⟩, ?_⟩
                          rw [lenW_mv] at *
                          simp [bgN, tkN] at w1
                          obtain ⟨w2, w3, w4, w5⟩ := w1
                          rcases (show k = 0 ∨ k = 1 ∨ k = 2 by omega) with e | e | e <;> subst e <;> simp [bgN, tkN] at * <;> omega
                        · skip
                          refine at_const (x := 1) dx_117_81 rfl ?_
                          refine at_goto dx_117_82 ?_
                          refine at_putZ 28 dx_117_84 lc_856 rfl rfl (Or.inr rfl) ?_
                          refine at_iload dx_117_85 rfl ?_
                          refine at_iload dx_117_86 rfl ?_
                          refine at_addR dx_117_87 (by constructor <;> omega) (fun r87 => ?_)
                          refine at_iload dx_117_88 rfl ?_
                          refine at_zneR dx_117_89 (by decide) (fun _ => ?_) (fun c => absurd c (by decide))
                          refine at_iload dx_117_94 rfl ?_
                          refine at_goto dx_117_95 ?_
                          refine at_addR dx_117_97 (by constructor <;> omega) (fun r97 => ?_)
                          refine at_iretI dx_117_98 r97 ?_
                          refine ⟨fe_um ⟨rfl, rfl⟩, ?_⟩
                          rw [lenW_mv] at *
                          simp [bgN, tkN] at w1
                          obtain ⟨w2, w3, w4, w5⟩ := w1
                          rcases (show k = 0 ∨ k = 1 ∨ k = 2 by omega) with e | e | e <;> subst e <;> simp [bgN, tkN] at * <;> omega
                  · skip
                    refine at_const (x := 1) dx_117_65 rfl ?_
                    refine at_goto dx_117_66 ?_
                    refine at_istore dx_117_68 ?_
                    refine at_aload dx_117_69 rfl ?_
                    refine at_aload dx_117_70 rfl ?_
                    refine at_getI 28 dx_117_71 lc_856 rfl rfl (fun r71 => ?_)
                    refine at_zneR dx_117_72 r71 (fun c72 => ?_) (fun c72 => ?_)
                    · skip
                      refine at_const (x := 1) dx_117_81 rfl ?_
                      refine at_goto dx_117_82 ?_
                      refine at_putZ 28 dx_117_84 lc_856 rfl rfl (Or.inr rfl) ?_
                      refine at_iload dx_117_85 rfl ?_
                      refine at_iload dx_117_86 rfl ?_
                      refine at_addR dx_117_87 (by constructor <;> omega) (fun r87 => ?_)
                      refine at_iload dx_117_88 rfl ?_
                      refine at_zneR dx_117_89 (by decide) (fun _ => ?_) (fun c => absurd c (by decide))
                      refine at_iload dx_117_94 rfl ?_
                      refine at_goto dx_117_95 ?_
                      refine at_addR dx_117_97 (by constructor <;> omega) (fun r97 => ?_)
                      refine at_iretI dx_117_98 r97 ?_
                      refine ⟨fe_um ⟨rfl, rfl⟩, ?_⟩
                      rw [lenW_mv] at *
                      simp [bgN, tkN] at w1
                      obtain ⟨w2, w3, w4, w5⟩ := w1
                      rcases (show k = 0 ∨ k = 1 ∨ k = 2 by omega) with e | e | e <;> subst e <;> simp [bgN, tkN] at * <;> omega
                    · skip
                      refine at_iload dx_117_73 rfl ?_
                      refine at_iload dx_117_74 rfl ?_
                      refine at_cleR dx_117_75 ra r19 (fun c75 => ?_) (fun c75 => ?_)
                      · skip
                        refine at_const (x := 0) dx_117_83 rfl ?_
                        refine at_putZ 28 dx_117_84 lc_856 rfl rfl (Or.inl rfl) ?_
                        refine at_iload dx_117_85 rfl ?_
                        refine at_iload dx_117_86 rfl ?_
                        refine at_addR dx_117_87 (by constructor <;> omega) (fun r87 => ?_)
                        refine at_iload dx_117_88 rfl ?_
                        refine at_zneR dx_117_89 (by decide) (fun _ => ?_) (fun c => absurd c (by decide))
                        refine at_iload dx_117_94 rfl ?_
                        refine at_goto dx_117_95 ?_
                        refine at_addR dx_117_97 (by constructor <;> omega) (fun r97 => ?_)
                        refine at_iretI dx_117_98 r97 ?_
                        refine ⟨fe_um ⟨rfl, rfl⟩, ?_⟩
                        rw [lenW_mv] at *
                        simp [bgN, tkN] at w1
                        obtain ⟨w2, w3, w4, w5⟩ := w1
                        rcases (show k = 0 ∨ k = 1 ∨ k = 2 by omega) with e | e | e <;> subst e <;> simp [bgN, tkN] at * <;> omega
                      · skip
                        refine at_iload dx_117_76 rfl ?_
                        refine at_iload dx_117_77 rfl ?_
                        refine at_iload dx_117_78 rfl ?_
                        refine at_addR dx_117_79 (by constructor <;> omega) (fun r79 => ?_)
                        refine at_cgeR dx_117_80 ra r79 (fun c80 => ?_) (fun c80 => ?_)
                        · skip
                          refine at_const (x := 0) dx_117_83 rfl ?_
                          refine at_putZ 28 dx_117_84 lc_856 rfl rfl (Or.inl rfl) ?_
                          refine at_iload dx_117_85 rfl ?_
                          refine at_iload dx_117_86 rfl ?_
                          refine at_addR dx_117_87 (by constructor <;> omega) (fun r87 => ?_)
                          refine at_iload dx_117_88 rfl ?_
                          refine at_zneR dx_117_89 (by decide) (fun _ => ?_) (fun c => absurd c (by decide))
                          refine at_iload dx_117_94 rfl ?_
                          refine at_goto dx_117_95 ?_
                          refine at_addR dx_117_97 (by constructor <;> omega) (fun r97 => ?_)
                          refine at_iretI dx_117_98 r97 ?_
                          refine ⟨fe_um ⟨rfl, rfl⟩, ?_⟩
                          rw [lenW_mv] at *
                          simp [bgN, tkN] at w1
                          obtain ⟨w2, w3, w4, w5⟩ := w1
                          rcases (show k = 0 ∨ k = 1 ∨ k = 2 by omega) with e | e | e <;> subst e <;> simp [bgN, tkN] at * <;> omega
                        · skip
                          refine at_const (x := 1) dx_117_81 rfl ?_
                          refine at_goto dx_117_82 ?_
                          refine at_putZ 28 dx_117_84 lc_856 rfl rfl (Or.inr rfl) ?_
                          refine at_iload dx_117_85 rfl ?_
                          refine at_iload dx_117_86 rfl ?_
                          refine at_addR dx_117_87 (by constructor <;> omega) (fun r87 => ?_)
                          refine at_iload dx_117_88 rfl ?_
                          refine at_zneR dx_117_89 (by decide) (fun _ => ?_) (fun c => absurd c (by decide))
                          refine at_iload dx_117_94 rfl ?_
                          refine at_goto dx_117_95 ?_
                          refine at_addR dx_117_97 (by constructor <;> omega) (fun r97 => ?_)
                          refine at_iretI dx_117_98 r97 ?_
                          refine ⟨fe_um ⟨rfl, rfl⟩, ?_⟩
                          rw [lenW_mv] at *
                          simp [bgN, tkN] at w1
                          obtain ⟨w2, w3, w4, w5⟩ := w1
                          rcases (show k = 0 ∨ k = 1 ∨ k = 2 by omega) with e | e | e <;> subst e <;> simp [bgN, tkN] at * <;> omega
        · skip
          refine at_iload dx_117_40 rfl ?_
          refine at_iload dx_117_41 rfl ?_
          refine at_addR dx_117_42 (by constructor <;> omega) (fun r42 => ?_)
          refine at_iretI dx_117_43 r42 ?_
          refine ⟨fe_rf, ?_⟩
          rw [lenW_mv] at *
          simp [bgN, tkN] at w1
          obtain ⟨w2, w3, w4, w5⟩ := w1
          rcases (show k = 0 ∨ k = 1 ∨ k = 2 by omega) with e | e | e <;> subst e <;> simp [bgN, tkN] at * <;> omega
  refine at_const (x := 0) dx_117_0 rfl ?_
  refine at_istore dx_117_1 ?_
  refine at_const (x := 0) dx_117_2 rfl ?_
  refine at_istore dx_117_3 ?_
  exact lp _ 0 0 (by decide) (by decide) (by decide) rfl ⟨fun _ => rfl, fun h => by omega, fun h => by omega, fun h => by omega⟩
