/-! ===== the reference: what a step makes of a document ===== -/
theorem rem4 {x : Int} (h0 : 0 ≤ x) (h1 : x < 2147483648) : ii_rem x 4 = x % 4 := by
  unfold ii_rem
  have e1 : (Int32.ofInt x).toInt = x := Int32.toInt_ofInt_of_le (by omega) (by omega)
  have e4 : (Int32.ofInt 4).toInt = 4 := by decide
  have ed : (Int32.ofInt x / Int32.ofInt 4).toInt = x / 4 := by
    rw [Int32.toInt_div, e1, e4, Int.tdiv_eq_ediv_of_nonneg h0]
    exact Int.bmod_eq_of_le (by omega) (by omega)
  have em : (Int32.ofInt x / Int32.ofInt 4 * Int32.ofInt 4).toInt = x / 4 * 4 := by
    rw [Int32.toInt_mul, ed, e4]
    exact Int.bmod_eq_of_le (by omega) (by omega)
  rw [Int32.toInt_sub, e1, em]
  have : x - x / 4 * 4 = x % 4 := by omega
  rw [this]
  exact Int.bmod_eq_of_le (by omega) (by omega)
noncomputable def mkt (is mk t : Int) : Int := if t < 100 then t else wr (wr (t - ii_rem (wr (t - 100)) 4) + (if is = 0 then ii_and (ii_rem (wr (t - 100)) 4) (ii_xor (ii_shl 1 mk) (-1)) else ii_or (ii_rem (wr (t - 100)) 4) (ii_shl 1 mk)))
theorem mk_bits : ∀ r ∈ List.range 4, ∀ b ∈ List.range 2, (0 ≤ ii_or (r : Int) (ii_shl 1 (b : Int)) ∧ ii_or (r : Int) (ii_shl 1 (b : Int)) ≤ 3) ∧ 0 ≤ ii_and (r : Int) (ii_xor (ii_shl 1 (b : Int)) (-1)) ∧ ii_and (r : Int) (ii_xor (ii_shl 1 (b : Int)) (-1)) ≤ 3 := by decide +kernel
theorem mkt_ge {is mk t : Int} (ht : inR t) (h : 100 ≤ t) (hm : mk = 0 ∨ mk = 1) : 100 ≤ mkt is mk t := by
  unfold mkt
  rw [if_neg (by omega), wr_eq (x := t - 100) (by omega) (by omega), rem4 (by omega) (by omega)]
  have hb := mk_bits ((t - 100) % 4).toNat (List.mem_range.mpr (by omega)) mk.toNat (List.mem_range.mpr (by omega))
  rw [Int.toNat_of_nonneg (by omega), Int.toNat_of_nonneg (by omega)] at hb
  obtain ⟨⟨b1, b2⟩, b3, b4⟩ := hb
  rw [wr_eq (x := t - (t - 100) % 4) (by omega) (by omega)]
  split
  · rw [wr_eq (by omega) (by omega)]; omega
  · rw [wr_eq (by omega) (by omega)]; omega
theorem mkt_dch {is mk t : Int} (ht : inR t) (hm : mk = 0 ∨ mk = 1) : dch (mkt is mk t) = dch t := by
  by_cases h : t < 100
  · unfold mkt; rw [if_pos h]
  · have h2 := mkt_ge (is := is) ht (by omega) hm
    unfold dch
    rw [if_neg (by omega), if_neg (by omega), if_neg (by omega), if_neg (by omega)]
/-- a document with a range put anew -/
noncomputable def splF (l : List Int) (f n m : Int) (g : Int → Int) : List Int := (List.range ((l.length : Int) + m - n).toNat).map (fun j : Nat => if (j : Int) < f then l.getD j 0 else if (j : Int) < f + m then g (j - f) else l.getD ((j : Int) - m + n).toNat 0)
noncomputable def mkF (is mk s0 s1 : Int) (l : List Int) : List Int := (List.range l.length).map (fun j : Nat => if s0 ≤ (j : Int) ∧ (j : Int) < s1 then mkt is mk (l.getD j 0) else l.getD j 0)
theorem splF_len {l : List Int} {f n m : Int} {g : Int → Int} : (splF l f n m g).length = ((l.length : Int) + m - n).toNat := by
  unfold splF; rw [List.length_map, List.length_range]
theorem mkF_len {is mk s0 s1 : Int} {l : List Int} : (mkF is mk s0 s1 l).length = l.length := by
  unfold mkF; rw [List.length_map, List.length_range]
/-- a step lies within a document of a length; what it makes is of at most sixty -/
noncomputable def okW (v : sV) (n : Int) : Prop := match v with
  | ([im, _, mb, rg, s0, s1, t0, t1, p0, p1], _) =>
    (im ≠ 0 ∧ 0 ≤ s0 ∧ s0 ≤ s1 ∧ s1 ≤ n ∧ (mb = 0 ∨ mb = 1) ∧ t0 = 0 ∧ t1 = 0 ∧ p0 = 0 ∧ p1 = 0) ∨
    (im = 0 ∧ (rg = 1 ∨ rg = 2) ∧ 0 ≤ s0 ∧ 0 ≤ t0 ∧ s0 + t0 ≤ n ∧ 0 ≤ p0 ∧ 0 ≤ p1 ∧ p0 + p1 ≤ 60 ∧ (rg = 1 → p1 = 0 ∧ t1 = 0 ∧ s1 = 0) ∧ (rg = 2 → s0 + t0 ≤ s1 ∧ 0 ≤ t1 ∧ s1 + t1 ≤ n) ∧ n + p0 + p1 - t0 - t1 ≤ 60)
  | _ => False
noncomputable def apW (v : sV) (l : List Int) : List Int := match v with
  | ([im, is, mb, rg, s0, s1, t0, t1, p0, p1], P) =>
    if im ≠ 0 then mkF is mb s0 s1 l
    else if rg = 2 then splF (splF l s0 t0 p0 (fun k => P.getD k.toNat 0)) (s1 + (p0 - t0)) t1 p1 (fun k => P.getD (p0 + k).toNat 0)
    else splF l s0 t0 p0 (fun k => P.getD k.toNat 0)
  | _ => []
theorem mv_P {M : mem} {s : Int} {j : Int} (h0 : 0 ≤ j) (h1 : j < 60) : (mv M s).2.getD j.toNat 0 = M 869 (60 * s + j) := by
  unfold mv
  dsimp only
  rw [List.getD_eq_getElem?_getD, List.getElem?_map, List.getElem?_range (by omega)]
  show M 869 (60 * s + ((j.toNat : Nat) : Int)) = _
  rw [Int.toNat_of_nonneg h0]

set_option maxRecDepth 100000 in
set_option maxHeartbeats 4000000 in
theorem m_changes {X : scr} {M : mem} {s r a t : Int} (rs : inR s) (rr : inR r) (ra : inR a) (rt : inR t) {f l m L : Int} (hs : 0 ≤ s ∧ s ≤ 100) (hr : 0 ≤ r ∧ r ≤ 1) (hL : L = M 856 23) (hf : f = M 865 (2 * s + r) + a) (hl : l = M 866 (2 * s + r)) (hm : m = M 867 (2 * s + r)) (h1 : 0 ≤ f ∧ 0 ≤ l ∧ f + l ≤ L ∧ L ≤ 120 ∧ L + m - l ≤ 120) (h2 : 0 ≤ m ∧ 0 ≤ t ∧ t + m ≤ 60) (h3 : 0 ≤ M 866 (2 * s) ∧ ((r = 0 ∧ l ≤ 60) ∨ M 866 (2 * s) + l ≤ 60)) : At X 0 110 0 [vr 856, vi s, vi r, vi a, vi t] [] M (qV (fun M' => frE (fun q j => q = 877 ∨ (q = 856 ∧ j = 23) ∨ (q = 868 ∧ 60 * s ≤ j ∧ j < 60 * s + 60)) M M' ∧ M' 856 23 = L + m - l ∧ wk M' = splF (wk M) f l m (fun k => M 869 (60 * s + t + k)))) := by
  have rf : inR f := by constructor <;> omega
  have rl : inR l := by constructor <;> omega
  have rm : inR m := by constructor <;> omega
  have l4 : ∀ (n : Nat) (k : Int) (M1 : mem) (rk : inR k) (h0 : 0 ≤ k ∧ k ≤ m) (hn : (m - k).toNat = n) (F : frE (fun q j => q = 877 ∨ (q = 856 ∧ j = 23) ∨ (q = 868 ∧ 60 * s ≤ j ∧ j < 60 * s + 60)) M M1) (e1 : M1 856 23 = L + m - l) (hA : ∀ j : Int, 0 ≤ j → j < f → M1 877 j = M 877 j) (hB : ∀ j : Int, f + m ≤ j → j < L + m - l → M1 877 j = M 877 (j - m + l)) (hD : ∀ j : Int, 0 ≤ j → j < k → M1 877 (f + j) = M 869 (60 * s + t + j)), At X 0 110 121 [vr 856, vi s, vi r, vi a, vi t, vi f, vi l, vi m, vi k] [] M1 (qV (fun M' => frE (fun q j => q = 877 ∨ (q = 856 ∧ j = 23) ∨ (q = 868 ∧ 60 * s ≤ j ∧ j < 60 * s + 60)) M M' ∧ M' 856 23 = L + m - l ∧ wk M' = splF (wk M) f l m (fun k => M 869 (60 * s + t + k)))) := by
    intro n
    induction n using Nat.strongRecOn with
    | ind n ih =>
    intro k M1 rk h0 hn F e1 hA hB hD
    have g : M1 869 (60 * s + t + k) = M 869 (60 * s + t + k) := F 869 _ (by (try dsimp only [stE]); first | done | omega)
    refine at_iload dx_110_121 rfl ?_
    refine at_iload dx_110_122 rfl ?_
    refine at_cgeR dx_110_123 rk rm (fun c123 => ?_) (fun c123 => ?_)
    · skip
      refine at_vretV dx_110_142 ?_
      refine ⟨F, e1, ?_⟩
      have hk : k = m := by omega
      subst hk
      have hlen : ((wk M).length : Int) = L := by rw [wk_len]; omega
      unfold splF
      rw [hlen]
      unfold wk
      rw [e1]
      apply List.map_congr_left
      intro j hj
      have hj2 := List.mem_range.mp hj
      by_cases c1 : (j : Int) < f
      · rw [if_pos c1, hA j (by omega) c1]; exact (wk_at (M := M) (by omega)).symm
      · rw [if_neg c1]
        by_cases c2 : (j : Int) < f + k
        · rw [if_pos c2]; show M1 877 (j : Int) = M 869 (60 * s + t + ((j : Int) - f)); rw [← hD (j - f) (by omega) (by omega)]; congr 1; omega
        · rw [if_neg c2, hB j (by omega) (by omega)]
          have h9 := wk_at (M := M) (j := ((j : Int) - k + l).toNat) (by omega)
          rw [Int.toNat_of_nonneg (by omega)] at h9
          exact h9.symm
    · skip
      refine at_aload dx_110_124 rfl ?_
      refine at_getR dx_110_125 lc_856 rfl lt_856_22 ?_
      refine at_iload dx_110_126 rfl ?_
      refine at_iload dx_110_127 rfl ?_
      refine at_addR dx_110_128 (by constructor <;> omega) (fun r128 => ?_)
      refine at_aload dx_110_129 rfl ?_
      refine at_getR dx_110_130 lc_856 rfl lt_856_12 ?_
      refine at_const (x := 60) dx_110_131 rfl ?_
      refine at_iload dx_110_132 rfl ?_
      refine at_mulR dx_110_133 (by constructor <;> omega) (fun r133 => ?_)
      refine at_iload dx_110_134 rfl ?_
      refine at_addR dx_110_135 (by constructor <;> omega) (fun r135 => ?_)
      refine at_iload dx_110_136 rfl ?_
      refine at_addR dx_110_137 (by constructor <;> omega) (fun r137 => ?_)
      refine at_aldI dx_110_138 lc_869 ln_869 (by first | omega | (simp (disch := omega) only [um_eq, um_k, um_j]; omega)) (by first | omega | (simp (disch := omega) only [um_eq, um_k, um_j]; omega)) (fun r138 => ?_)
      refine at_astI dx_110_139 lc_877 ln_877 (by first | omega | (simp (disch := omega) only [um_eq, um_k, um_j]; omega)) (by first | omega | (simp (disch := omega) only [um_eq, um_k, um_j]; omega)) r138 ?_
      refine at_iincR (y := 1) dx_110_140 rfl rfl (by constructor <;> omega) (fun r140 => ?_)
      refine at_goto dx_110_141 ?_
      refine ih _ (by omega) _ _ r140 (by omega) rfl (fe_ums F (by (try dsimp only [stE]); first | done | omega)) (by rw [um_k (by decide)]; exact e1) (fun j h5 h6 => by rw [um_j (by omega)]; exact hA j h5 h6) (fun j h5 h6 => by rw [um_j (by omega)]; exact hB j h5 h6) (fun j h5 h6 => ?_)
      by_cases ej : j = k
      · subst ej; rw [um_eq, g]
      · rw [um_j (by omega)]; exact hD j h5 (by omega)
  have l2 : ∀ (n : Nat) (k : Int) (M1 : mem) (rk : inR k) (hml : l < m) (h0 : f + l - 1 ≤ k ∧ k ≤ L - 1) (hn : (k + 1).toNat = n) (F : frE (fun q j => q = 877 ∨ (q = 856 ∧ j = 23) ∨ (q = 868 ∧ 60 * s ≤ j ∧ j < 60 * s + 60)) M M1) (e1 : M1 856 23 = L) (hw : ∀ j : Int, M1 877 j = if k + (m - l) < j ∧ j ≤ L - 1 + (m - l) then M 877 (j - m + l) else M 877 j), At X 0 110 69 [vr 856, vi s, vi r, vi a, vi t, vi f, vi l, vi m, vi k] [] M1 (qV (fun M' => frE (fun q j => q = 877 ∨ (q = 856 ∧ j = 23) ∨ (q = 868 ∧ 60 * s ≤ j ∧ j < 60 * s + 60)) M M' ∧ M' 856 23 = L + m - l ∧ wk M' = splF (wk M) f l m (fun k => M 869 (60 * s + t + k)))) := by
    intro n
    induction n using Nat.strongRecOn with
    | ind n ih =>
    intro k M1 rk hml h0 hn F e1 hw
    refine at_iload dx_110_69 rfl ?_
    refine at_iload dx_110_70 rfl ?_
    refine at_iload dx_110_71 rfl ?_
    refine at_addR dx_110_72 (by constructor <;> omega) (fun r72 => ?_)
    refine at_cltR dx_110_73 rk r72 (fun c73 => ?_) (fun c73 => ?_)
    · skip
      refine at_goto dx_110_88 ?_
      refine at_aload dx_110_111 rfl ?_
      refine at_dup dx_110_112 rfl ?_
      refine at_getI 23 dx_110_113 lc_856 rfl rfl (fun r113 => ?_)
      refine at_iload dx_110_114 rfl ?_
      refine at_iload dx_110_115 rfl ?_
      refine at_subR dx_110_116 (by constructor <;> omega) (fun r116 => ?_)
      refine at_addR dx_110_117 (by constructor <;> omega) (fun r117 => ?_)
      refine at_putI 23 dx_110_118 lc_856 rfl rfl r117 ?_
      refine at_const (x := 0) dx_110_119 rfl ?_
      refine at_istore dx_110_120 ?_
      first
      | (refine l4 _ 0 _ (by decide) (by omega) rfl (fe_ums F (by (try dsimp only [stE]); first | done | omega)) (um_eq _ _ _ _ |>.trans (by omega)) (fun j h5 h6 => by rw [um_k (by decide), hw, if_neg (by omega)]) (fun j h5 h6 => ?_) (fun j h5 h6 => by omega)
         rw [um_k (by decide), hw]
         first
         | (rw [if_pos (by omega)]; done)
         | (by_cases c9 : k + (m - l) < j ∧ j ≤ L - 1 + (m - l)
            · rw [if_pos c9]
            · omega))
    · skip
      refine at_aload dx_110_74 rfl ?_
      refine at_getR dx_110_75 lc_856 rfl lt_856_22 ?_
      refine at_iload dx_110_76 rfl ?_
      refine at_iload dx_110_77 rfl ?_
      refine at_addR dx_110_78 (by constructor <;> omega) (fun r78 => ?_)
      refine at_iload dx_110_79 rfl ?_
      refine at_subR dx_110_80 (by constructor <;> omega) (fun r80 => ?_)
      refine at_aload dx_110_81 rfl ?_
      refine at_getR dx_110_82 lc_856 rfl lt_856_22 ?_
      refine at_iload dx_110_83 rfl ?_
      refine at_aldI dx_110_84 lc_877 ln_877 (by first | omega | (simp (disch := omega) only [um_eq, um_k, um_j]; omega)) (by first | omega | (simp (disch := omega) only [um_eq, um_k, um_j]; omega)) (fun r84 => ?_)
      refine at_astI dx_110_85 lc_877 ln_877 (by first | omega | (simp (disch := omega) only [um_eq, um_k, um_j]; omega)) (by first | omega | (simp (disch := omega) only [um_eq, um_k, um_j]; omega)) r84 ?_
      refine at_iincR (y := -1) dx_110_86 rfl rfl (by constructor <;> omega) (fun r86 => ?_)
      refine at_goto dx_110_87 ?_
      refine ih _ (by omega) _ _ r86 hml (by omega) rfl (fe_ums F (by (try dsimp only [stE]); first | done | omega)) (by rw [um_k (by decide)]; exact e1) (fun j => ?_)
      by_cases ej : j = k + m - l
      · subst ej; rw [um_eq, if_pos (by omega), hw, if_neg (by omega)]; congr 1; omega
      · rw [um_j ej, hw]
        by_cases c1 : k + (m - l) < j ∧ j ≤ L - 1 + (m - l)
        · rw [if_pos c1, if_pos (by omega)]
        · rw [if_neg c1, if_neg (by omega)]
  have l3 : ∀ (n : Nat) (k : Int) (M1 : mem) (rk : inR k) (hml : m ≤ l) (h0 : f + l ≤ k ∧ k ≤ L) (hn : (L - k).toNat = n) (F : frE (fun q j => q = 877 ∨ (q = 856 ∧ j = 23) ∨ (q = 868 ∧ 60 * s ≤ j ∧ j < 60 * s + 60)) M M1) (e1 : M1 856 23 = L) (hw : ∀ j : Int, M1 877 j = if f + m ≤ j ∧ j < k - (l - m) then M 877 (j - m + l) else M 877 j), At X 0 110 93 [vr 856, vi s, vi r, vi a, vi t, vi f, vi l, vi m, vi k] [] M1 (qV (fun M' => frE (fun q j => q = 877 ∨ (q = 856 ∧ j = 23) ∨ (q = 868 ∧ 60 * s ≤ j ∧ j < 60 * s + 60)) M M' ∧ M' 856 23 = L + m - l ∧ wk M' = splF (wk M) f l m (fun k => M 869 (60 * s + t + k)))) := by
    intro n
    induction n using Nat.strongRecOn with
    | ind n ih =>
    intro k M1 rk hml h0 hn F e1 hw
    refine at_iload dx_110_93 rfl ?_
    refine at_aload dx_110_94 rfl ?_
    refine at_getI 23 dx_110_95 lc_856 rfl rfl (fun r95 => ?_)
    refine at_cgeR dx_110_96 rk r95 (fun c96 => ?_) (fun c96 => ?_)
    · skip
      refine at_aload dx_110_111 rfl ?_
      refine at_dup dx_110_112 rfl ?_
      refine at_getI 23 dx_110_113 lc_856 rfl rfl (fun r113 => ?_)
      refine at_iload dx_110_114 rfl ?_
      refine at_iload dx_110_115 rfl ?_
      refine at_subR dx_110_116 (by constructor <;> omega) (fun r116 => ?_)
      refine at_addR dx_110_117 (by constructor <;> omega) (fun r117 => ?_)
      refine at_putI 23 dx_110_118 lc_856 rfl rfl r117 ?_
      refine at_const (x := 0) dx_110_119 rfl ?_
      refine at_istore dx_110_120 ?_
      first
      | (refine l4 _ 0 _ (by decide) (by omega) rfl (fe_ums F (by (try dsimp only [stE]); first | done | omega)) (um_eq _ _ _ _ |>.trans (by omega)) (fun j h5 h6 => by rw [um_k (by decide), hw, if_neg (by omega)]) (fun j h5 h6 => ?_) (fun j h5 h6 => by omega)
         rw [um_k (by decide), hw]
         first
         | (rw [if_pos (by omega)]; done)
         | (by_cases c9 : k + (m - l) < j ∧ j ≤ L - 1 + (m - l)
            · rw [if_pos c9]
            · omega))
    · skip
      refine at_aload dx_110_97 rfl ?_
      refine at_getR dx_110_98 lc_856 rfl lt_856_22 ?_
      refine at_iload dx_110_99 rfl ?_
      refine at_iload dx_110_100 rfl ?_
      refine at_addR dx_110_101 (by constructor <;> omega) (fun r101 => ?_)
      refine at_iload dx_110_102 rfl ?_
      refine at_subR dx_110_103 (by constructor <;> omega) (fun r103 => ?_)
      refine at_aload dx_110_104 rfl ?_
      refine at_getR dx_110_105 lc_856 rfl lt_856_22 ?_
      refine at_iload dx_110_106 rfl ?_
      refine at_aldI dx_110_107 lc_877 ln_877 (by first | omega | (simp (disch := omega) only [um_eq, um_k, um_j]; omega)) (by first | omega | (simp (disch := omega) only [um_eq, um_k, um_j]; omega)) (fun r107 => ?_)
      refine at_astI dx_110_108 lc_877 ln_877 (by first | omega | (simp (disch := omega) only [um_eq, um_k, um_j]; omega)) (by first | omega | (simp (disch := omega) only [um_eq, um_k, um_j]; omega)) r107 ?_
      refine at_iincR (y := 1) dx_110_109 rfl rfl (by constructor <;> omega) (fun r109 => ?_)
      refine at_goto dx_110_110 ?_
      refine ih _ (by omega) _ _ r109 hml (by omega) rfl (fe_ums F (by (try dsimp only [stE]); first | done | omega)) (by rw [um_k (by decide)]; exact e1) (fun j => ?_)
      by_cases ej : j = k + m - l
      · subst ej
        rw [um_eq, if_pos (by omega), hw]
        by_cases c1 : f + m ≤ k ∧ k < k - (l - m)
        · omega
        · rw [if_neg c1]; congr 1; omega
      · rw [um_j ej, hw]
        by_cases c1 : f + m ≤ j ∧ j < k - (l - m)
        · rw [if_pos c1, if_pos (by omega)]
        · rw [if_neg c1, if_neg (by omega)]
  have l1 : ∀ (n : Nat) (k : Int) (M1 : mem) (rk : inR k) (h0 : 0 ≤ k ∧ k ≤ l) (hn : (l - k).toNat = n) (F : frE (fun q j => q = 877 ∨ (q = 856 ∧ j = 23) ∨ (q = 868 ∧ 60 * s ≤ j ∧ j < 60 * s + 60)) M M1) (e1 : M1 856 23 = L) (hw : ∀ j : Int, M1 877 j = M 877 j), At X 0 110 31 [vr 856, vi s, vi r, vi a, vi t, vi f, vi l, vi m, vi k] [] M1 (qV (fun M' => frE (fun q j => q = 877 ∨ (q = 856 ∧ j = 23) ∨ (q = 868 ∧ 60 * s ≤ j ∧ j < 60 * s + 60)) M M' ∧ M' 856 23 = L + m - l ∧ wk M' = splF (wk M) f l m (fun k => M 869 (60 * s + t + k)))) := by
    intro n
    induction n using Nat.strongRecOn with
    | ind n ih =>
    intro k M1 rk h0 hn F e1 hw
    have g6 : M1 866 (2 * s) = M 866 (2 * s) := F 866 _ (by (try dsimp only [stE]); first | done | omega)
    refine at_iload dx_110_31 rfl ?_
    refine at_iload dx_110_32 rfl ?_
    refine at_cgeR dx_110_33 rk rl (fun c33 => ?_) (fun c33 => ?_)
    · skip
      refine at_iload dx_110_61 rfl ?_
      refine at_iload dx_110_62 rfl ?_
      refine at_cleR dx_110_63 rm rl (fun c63 => ?_) (fun c63 => ?_)
      · skip
        refine at_iload dx_110_89 rfl ?_
        refine at_iload dx_110_90 rfl ?_
        refine at_addR dx_110_91 (by constructor <;> omega) (fun r91 => ?_)
        refine at_istore dx_110_92 ?_
        exact l3 _ _ _ r91 (by omega) (by omega) rfl F e1 (fun j => by rw [if_neg (by omega)]; exact hw j)
      · skip
        refine at_aload dx_110_64 rfl ?_
        refine at_getI 23 dx_110_65 lc_856 rfl rfl (fun r65 => ?_)
        refine at_const (x := 1) dx_110_66 rfl ?_
        refine at_subR dx_110_67 (by constructor <;> omega) (fun r67 => ?_)
        refine at_istore dx_110_68 ?_
        exact l2 _ _ _ r67 (by omega) (by omega) rfl F e1 (fun j => by rw [if_neg (by omega)]; exact hw j)
    · skip
      refine at_aload dx_110_34 rfl ?_
      refine at_getR dx_110_35 lc_856 rfl lt_856_11 ?_
      refine at_const (x := 60) dx_110_36 rfl ?_
      refine at_iload dx_110_37 rfl ?_
      refine at_mulR dx_110_38 (by constructor <;> omega) (fun r38 => ?_)
      refine at_iload dx_110_39 rfl ?_
      refine at_zneR dx_110_40 rr (fun c40 => ?_) (fun c40 => ?_)
      · skip
        refine at_aload dx_110_43 rfl ?_
        refine at_getR dx_110_44 lc_856 rfl lt_856_9 ?_
        refine at_const (x := 2) dx_110_45 rfl ?_
        refine at_iload dx_110_46 rfl ?_
        refine at_mulR dx_110_47 (by constructor <;> omega) (fun r47 => ?_)
        refine at_aldI dx_110_48 lc_866 ln_866 (by first | omega | (simp (disch := omega) only [um_eq, um_k, um_j]; omega)) (by first | omega | (simp (disch := omega) only [um_eq, um_k, um_j]; omega)) (fun r48 => ?_)
        refine at_addR dx_110_49 (by constructor <;> omega) (fun r49 => ?_)
        refine at_iload dx_110_50 rfl ?_
        refine at_addR dx_110_51 (by constructor <;> omega) (fun r51 => ?_)
        refine at_aload dx_110_52 rfl ?_
        refine at_getR dx_110_53 lc_856 rfl lt_856_22 ?_
        refine at_iload dx_110_54 rfl ?_
        refine at_iload dx_110_55 rfl ?_
        refine at_addR dx_110_56 (by constructor <;> omega) (fun r56 => ?_)
        refine at_aldI dx_110_57 lc_877 ln_877 (by first | omega | (simp (disch := omega) only [um_eq, um_k, um_j]; omega)) (by first | omega | (simp (disch := omega) only [um_eq, um_k, um_j]; omega)) (fun r57 => ?_)
        refine at_astI dx_110_58 lc_868 ln_868 (by first | omega | (simp (disch := omega) only [um_eq, um_k, um_j]; omega)) (by first | omega | (simp (disch := omega) only [um_eq, um_k, um_j]; omega)) r57 ?_
        refine at_iincR (y := 1) dx_110_59 rfl rfl (by constructor <;> omega) (fun r59 => ?_)
        refine at_goto dx_110_60 ?_
        exact ih _ (by omega) _ _ r59 (by omega) rfl (fe_ums F (by (try dsimp only [stE]); first | done | omega)) (by rw [um_k (by decide)]; exact e1) (fun j => by rw [um_k (by decide)]; exact hw j)
      · skip
        refine at_const (x := 0) dx_110_41 rfl ?_
        refine at_goto dx_110_42 ?_
        refine at_addR dx_110_49 (by constructor <;> omega) (fun r49 => ?_)
        refine at_iload dx_110_50 rfl ?_
        refine at_addR dx_110_51 (by constructor <;> omega) (fun r51 => ?_)
        refine at_aload dx_110_52 rfl ?_
        refine at_getR dx_110_53 lc_856 rfl lt_856_22 ?_
        refine at_iload dx_110_54 rfl ?_
        refine at_iload dx_110_55 rfl ?_
        refine at_addR dx_110_56 (by constructor <;> omega) (fun r56 => ?_)
        refine at_aldI dx_110_57 lc_877 ln_877 (by first | omega | (simp (disch := omega) only [um_eq, um_k, um_j]; omega)) (by first | omega | (simp (disch := omega) only [um_eq, um_k, um_j]; omega)) (fun r57 => ?_)
        refine at_astI dx_110_58 lc_868 ln_868 (by first | omega | (simp (disch := omega) only [um_eq, um_k, um_j]; omega)) (by first | omega | (simp (disch := omega) only [um_eq, um_k, um_j]; omega)) r57 ?_
        refine at_iincR (y := 1) dx_110_59 rfl rfl (by constructor <;> omega) (fun r59 => ?_)
        refine at_goto dx_110_60 ?_
        exact ih _ (by omega) _ _ r59 (by omega) rfl (fe_ums F (by (try dsimp only [stE]); first | done | omega)) (by rw [um_k (by decide)]; exact e1) (fun j => by rw [um_k (by decide)]; exact hw j)
  refine at_aload dx_110_0 rfl ?_
  refine at_getR dx_110_1 lc_856 rfl lt_856_8 ?_
  refine at_const (x := 2) dx_110_2 rfl ?_
  refine at_iload dx_110_3 rfl ?_
  refine at_mulR dx_110_4 (by constructor <;> omega) (fun r4 => ?_)
  refine at_iload dx_110_5 rfl ?_
  refine at_addR dx_110_6 (by constructor <;> omega) (fun r6 => ?_)
  refine at_aldI dx_110_7 lc_865 ln_865 (by first | omega | (simp (disch := omega) only [um_eq, um_k, um_j]; omega)) (by first | omega | (simp (disch := omega) only [um_eq, um_k, um_j]; omega)) (fun r7 => ?_)
  refine at_iload dx_110_8 rfl ?_
  refine at_addR dx_110_9 (by constructor <;> omega) (fun r9 => ?_)
  rw [← hf]
  refine at_istore dx_110_10 ?_
  refine at_aload dx_110_11 rfl ?_
  refine at_getR dx_110_12 lc_856 rfl lt_856_9 ?_
  refine at_const (x := 2) dx_110_13 rfl ?_
  refine at_iload dx_110_14 rfl ?_
  refine at_mulR dx_110_15 (by constructor <;> omega) (fun r15 => ?_)
  refine at_iload dx_110_16 rfl ?_
  refine at_addR dx_110_17 (by constructor <;> omega) (fun r17 => ?_)
  refine at_aldI dx_110_18 lc_866 ln_866 (by first | omega | (simp (disch := omega) only [um_eq, um_k, um_j]; omega)) (by first | omega | (simp (disch := omega) only [um_eq, um_k, um_j]; omega)) (fun r18 => ?_)
  rw [← hl]
  refine at_istore dx_110_19 ?_
  refine at_aload dx_110_20 rfl ?_
  refine at_getR dx_110_21 lc_856 rfl lt_856_10 ?_
  refine at_const (x := 2) dx_110_22 rfl ?_
  refine at_iload dx_110_23 rfl ?_
  refine at_mulR dx_110_24 (by constructor <;> omega) (fun r24 => ?_)
  refine at_iload dx_110_25 rfl ?_
  refine at_addR dx_110_26 (by constructor <;> omega) (fun r26 => ?_)
  refine at_aldI dx_110_27 lc_867 ln_867 (by first | omega | (simp (disch := omega) only [um_eq, um_k, um_j]; omega)) (by first | omega | (simp (disch := omega) only [um_eq, um_k, um_j]; omega)) (fun r27 => ?_)
  rw [← hm]
  refine at_istore dx_110_28 ?_
  refine at_const (x := 0) dx_110_29 rfl ?_
  refine at_istore dx_110_30 ?_
  exact l1 _ 0 _ (by decide) (by omega) rfl fe_rf hL.symm (fun j => rfl)
