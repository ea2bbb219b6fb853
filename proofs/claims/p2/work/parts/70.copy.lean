/-! ===== copying, on both sides ===== -/
/-- the lowest depth from position f on, over n tokens -/
noncomputable def mnd (l : List Int) (f : Nat) : Nat → Int
  | 0 => dsm l f
  | n + 1 => min (mnd l f n) (dsm l (f + n + 1))
theorem mnd_front (l : List Int) : ∀ n f : Nat, mnd l f (n + 1) = min (dsm l f) (mnd l (f + 1) n)
  | 0, f => rfl
  | n + 1, f => by
    show min (mnd l f (n + 1)) (dsm l (f + (n + 1) + 1)) = min (dsm l f) (min (mnd l (f + 1) n) (dsm l (f + 1 + n + 1)))
    rw [mnd_front l n f, show f + (n + 1) + 1 = f + 1 + n + 1 by omega]
    omega
theorem mnd_le (l : List Int) (f : Nat) : ∀ n : Nat, mnd l f n ≤ dsm l f ∧ mnd l f n ≤ dsm l (f + n)
  | 0 => ⟨Int.le_refl _, Int.le_refl _⟩
  | n + 1 => by
    have h := mnd_le l f n
    show min (mnd l f n) (dsm l (f + n + 1)) ≤ _ ∧ min (mnd l f n) (dsm l (f + n + 1)) ≤ dsm l (f + n + 1)
    omega
theorem mnd_pos {l : List Int} {f : Nat} (h : ∀ i, i ≤ l.length → 0 ≤ dsm l i) : ∀ n : Nat, f + n ≤ l.length → 0 ≤ mnd l f n
  | 0, hn => h f hn
  | n + 1, hn => by
    have h1 := mnd_pos (f := f) h n (by omega)
    have h2 := h (f + n + 1) (by omega)
    show 0 ≤ min (mnd l f n) (dsm l (f + n + 1))
    omega
theorem opn_len {l : List Int} (h : ∀ i, i ≤ l.length → 0 ≤ dsm l i) : ∀ i : Nat, i ≤ l.length → ((opn (l.take i)).length : Int) = dsm l i
  | 0, _ => by rw [List.take_zero]; rfl
  | i + 1, hi => by
    have h1 := opn_len h i (by omega)
    have h2 := h (i + 1) hi
    rw [dsm_step] at h2 ⊢
    rw [opn_take (by omega)]
    unfold ops
    unfold dch at h2 ⊢
    by_cases hx : 1 ≤ l.getD i 0 ∧ l.getD i 0 ≤ 5
    · rw [if_pos hx, if_neg (by omega), if_pos hx, List.length_cons]
      omega
    · rw [if_neg hx]
      by_cases h0 : l.getD i 0 = 0
      · rw [if_pos h0] at h2 ⊢
        rw [if_pos h0, List.length_tail]
        omega
      · rw [if_neg h0, if_neg h0, if_neg hx]
        omega
theorem slc_snoc {l : List Int} {f i : Int} (h : f ≤ i) : slc l f (i + 1) = slc l f i ++ [atL l i] := by
  unfold slc
  rw [show (i + 1 - f).toNat = (i - f).toNat + 1 by omega, List.range_succ, List.map_append]
  congr 1
  show [atL l (f + ((i - f).toNat : Int))] = _
  rw [show f + ((i - f).toNat : Int) = i by omega]
theorem slc_len {l : List Int} {f t : Int} : (slc l f t).length = (t - f).toNat := by
  unfold slc
  rw [List.length_map, List.length_range]
/-- places a..b of a row -/
noncomputable def seg (g : Int → Int) (a b : Int) : List Int := (List.range (b - a).toNat).map (fun j : Nat => g (a + (j : Int)))
theorem seg_nil {g : Int → Int} {a : Int} : seg g a a = [] := by
  unfold seg
  rw [Int.sub_self]
  rfl
theorem seg_snoc {g : Int → Int} {a b : Int} (h : a ≤ b) : seg g a (b + 1) = seg g a b ++ [g b] := by
  unfold seg
  rw [show (b + 1 - a).toNat = (b - a).toNat + 1 by omega, List.range_succ, List.map_append]
  congr 1
  show [g (a + ((b - a).toNat : Int))] = _
  rw [show a + ((b - a).toNat : Int) = b by omega]
theorem seg_len {g : Int → Int} {a b : Int} : (seg g a b).length = (b - a).toNat := by
  unfold seg
  rw [List.length_map, List.length_range]
theorem seg_stkA {a : Nat} {M : mem} : ∀ (n d : Nat), n ≤ d → seg (M a) ((d : Int) - (n : Int)) (d : Int) = ((stkA a M d).take n).reverse
  | 0, d, _ => by rw [show (d : Int) - ((0 : Nat) : Int) = (d : Int) by omega, seg_nil]; rfl
  | n + 1, 0, h => absurd h (by omega)
  | n + 1, d + 1, h => by
    have h1 := seg_stkA (a := a) (M := M) n d (by omega)
    show _ = ((M a (d : Int) :: stkA a M d).take (n + 1)).reverse
    rw [List.take_succ_cons, List.reverse_cons, ← h1, ← seg_snoc (by omega)]
    rw [show ((d + 1 : Nat) : Int) - ((n + 1 : Nat) : Int) = (d : Int) - (n : Int) by omega, show ((d + 1 : Nat) : Int) = (d : Int) + 1 by omega]
theorem seg_stkB {M : mem} : ∀ (n d : Nat), n ≤ d → seg (M 881) ((d : Int) - (n : Int) + 1) ((d : Int) + 1) = ((stkB M d).take n).reverse
  | 0, d, _ => by rw [show (d : Int) - ((0 : Nat) : Int) + 1 = (d : Int) + 1 by omega, seg_nil]; rfl
  | n + 1, 0, h => absurd h (by omega)
  | n + 1, d + 1, h => by
    have h1 := seg_stkB (M := M) n d (by omega)
    show _ = ((M 881 ((d : Int) + 1) :: stkB M d).take (n + 1)).reverse
    rw [List.take_succ_cons, List.reverse_cons, ← h1, ← seg_snoc (by omega)]
    rw [show ((d + 1 : Nat) : Int) - ((n + 1 : Nat) : Int) + 1 = (d : Int) - (n : Int) + 1 by omega, show ((d + 1 : Nat) : Int) + 1 = (d : Int) + 1 + 1 by omega]
/-- what is copied of tokens f..t -/
noncomputable def cpV (l : List Int) (f t : Int) : List Int := ((opn (l.take f.toNat)).take (dsm l f.toNat - mnd l f.toNat (t - f).toNat).toNat).reverse ++ slc l f t ++ List.replicate (dsm l t.toNat - mnd l f.toNat (t - f).toNat).toNat 0
theorem rep_snoc {n : Nat} : List.replicate (n + 1) (0 : Int) = List.replicate n 0 ++ [0] := by
  induction n with
  | zero => rfl
  | succ n ih =>
    show (0 : Int) :: List.replicate (n + 1) 0 = (0 : Int) :: (List.replicate n 0 ++ [0])
    rw [ih]
theorem cp_b {l : List Int} {f t : Int} (hB : Bal l) (h0 : 0 ≤ f) (h1 : f < t) (h2 : t ≤ (l.length : Int)) : 0 ≤ mnd l f.toNat (t - f).toNat ∧ mnd l f.toNat (t - f).toNat ≤ dsm l f.toNat ∧ mnd l f.toNat (t - f).toNat ≤ dsm l t.toNat ∧ dsm l f.toNat ≤ f ∧ dsm l t.toNat ≤ (l.length : Int) - t := by
  have a1 := mnd_pos hB.1 (f := f.toNat) (t - f).toNat (by omega)
  have a2 := mnd_le l f.toNat (t - f).toNat
  have a3 := dsm_le l f.toNat
  have a4 := dsm_back hB (l.length - t.toNat) t.toNat (by omega)
  rw [show f.toNat + (t - f).toNat = t.toNat by omega] at a2
  omega
theorem cpV_len {l : List Int} {f t : Int} (hB : Bal l) (h0 : 0 ≤ f) (h1 : f < t) (h2 : t ≤ (l.length : Int)) : (cpV l f t).length ≤ l.length := by
  have h := cp_b hB h0 h1 h2
  unfold cpV
  rw [List.length_append, List.length_append, List.length_reverse, List.length_take, slc_len, List.length_replicate]
  omega
/-- the depth a step further -/
theorem dsm_atL {l : List Int} {i : Int} (h0 : 0 ≤ i) (h1 : i < (l.length : Int)) : dsm l (i + 1).toNat = dsm l i.toNat + dch (atL l i) := by
  rw [show (i + 1).toNat = i.toNat + 1 by omega, dsm_step, atL_get h0 h1]
theorem mnd_snoc {l : List Int} {f i : Int} (h0 : 0 ≤ f) (h1 : f ≤ i) : mnd l f.toNat (i + 1 - f).toNat = min (mnd l f.toNat (i - f).toNat) (dsm l (i + 1).toNat) := by
  rw [show (i + 1 - f).toNat = (i - f).toNat + 1 by omega]
  show min _ (dsm l (f.toNat + (i - f).toNat + 1)) = _
  rw [show f.toNat + (i - f).toNat + 1 = (i + 1).toNat by omega]
theorem mnd_cons {l : List Int} {k t : Int} (h0 : 0 ≤ k) (h1 : k < t) : mnd l k.toNat (t - k).toNat = min (dsm l k.toNat) (mnd l (k + 1).toNat (t - (k + 1)).toNat) := by
  rw [show (t - k).toNat = (t - (k + 1)).toNat + 1 by omega, mnd_front, show k.toNat + 1 = (k + 1).toNat by omega]
theorem y_addW {X : scr} {M : mem} {k : Nat} {t : Int} (hk : ly_c k = 5) (ht : inR t) (hT : TI M) (hl : (tk M k).length < 60) : At X 0 38 0 [vr k, vi t] [] M (qV (fun M' => fr (fun q => q = k ∨ q = k + 1) M M' ∧ TI M' ∧ tk M' k = tk M k ++ [t])) := At.mono (c_add hk ht (hT k hk)) (fun t v M1 h => by
  obtain ⟨h0, h1, hM1⟩ := h
  subst hM1
  refine ⟨h0, h1, addM_fr _ _ _, TI_fr hT (addM_fr _ _ _) (fun q hq hP => ?_), ?_⟩
  · rcases hP with h | h
    · subst h; exact addM_I (hT _ hq)
    · have := tk_e hq; have := tk_e hk; omega
  · rw [addM_tk (hT k hk), List.take_of_length_le (by rw [List.length_append]; show _ + 1 ≤ 60; omega)])
abbrev pcE (c q : Nat) : Prop := wq q ∨ q = c + 6 ∨ q = c + 7
abbrev cpOK (x f t n : Int) : Prop := (0 ≤ x ∧ x < 3) ∧ 0 ≤ f ∧ f < t ∧ t ≤ n
/-- what copying comes to, of the class -/
noncomputable def CpC (x f t : Int) (M M' : mem) : Prop := (cpOK x f t (M (cl x + 4) 1) ∧ CI M' ∧ fr (pcE (cl x)) M M' ∧ tk M' (cl x + 6) = cpV (tk M (cl x + 4)) f t) ∨ (¬ cpOK x f t (M (cl x + 4) 1) ∧ CI M' ∧ fr wq M M')
theorem CpC_no {x f t : Int} {M M' : mem} (h : ¬ (0 ≤ x ∧ x < 3)) (hC : CI M') (f1 : fr wq M M') : CpC x f t M M' := Or.inr ⟨fun e => h e.1, hC, f1⟩
theorem CpC_0 {x f t : Int} {c : Nat} {M M' : mem} (hcx : c = 592 + 88 * x.toNat) (h : ¬ (0 ≤ f ∧ f < t ∧ t ≤ M (c + 4) 1)) (hC : CI M') (f1 : fr wq M M') : CpC x f t M M' := by
  have e : c = cl x := hcx
  subst e
  exact Or.inr ⟨fun e => h e.2, hC, f1⟩
theorem CpC_1 {x f t : Int} {c : Nat} {M M' : mem} (hcx : c = 592 + 88 * x.toNat) (h0 : 0 ≤ x ∧ x < 3) (h : 0 ≤ f ∧ f < t ∧ t ≤ M (c + 4) 1) (hC : CI M') (f1 : fr (pcE c) M M') (h1 : tk M' (c + 6) = cpV (tk M (c + 4)) f t) : CpC x f t M M' := by
  have e : c = cl x := hcx
  subst e
  exact Or.inl ⟨⟨h0, h⟩, hC, f1, h1⟩

set_option maxRecDepth 100000 in
set_option maxHeartbeats 4000000 in
theorem x_copy {X : scr} {M : mem} {x f t : Int} (rx : inR x) (rf : inR f) (rt : inR t) (hC : CI M) (hB : 0 ≤ x → x < 3 → Bal (tk M (cl x + 4))) : At X 0 56 0 [vr 0, vi x, vi f, vi t] [] M (qT (qI (fun _ M' => CpC x f t M M')) (fun e M' => e ∈ [0, 1] ∧ CpC x f t M M')) := by
  have F : fr wq M M := fr_rf
  have T : TI M := hC.1
  have G : RI M := hC.2.1
  have l3 : ∀ (n : Nat) (c : Nat) (lv lw i : Int) (M1 : mem) (rd : inR (dsm (tk M (c + 4)) f.toNat)) (rlv : inR lv) (rlw : inR lw) (ri : inR i) (hn : (lv - i).toNat = n) (hlv : lv = dsm (tk M (c + 4)) t.toNat) (hlw : lw = mnd (tk M (c + 4)) f.toNat (t - f).toNat) (hi : lw ≤ i ∧ i ≤ lv) (hv : tk M1 (c + 6) = ((opn ((tk M (c + 4)).take f.toNat)).take (dsm (tk M (c + 4)) f.toNat - lw).toNat).reverse ++ slc (tk M (c + 4)) f t ++ List.replicate (i - lw).toNat 0) (hcx : c = 592 + 88 * x.toNat) (h03 : 0 ≤ x ∧ x < 3) (hc : ly_c c = 0) (hft : 0 ≤ f ∧ f < t ∧ t ≤ M (c + 4) 1) (hBL : Bal (tk M (c + 4))) (F : fr (pcE c) M M1) (T : TI M1) (G : RI M1), At X 0 56 72 [vr 0, vi x, vi f, vi t, vr c, vi ((dsm (tk M (c + 4)) f.toNat)), vi lv, vi lw, vi i] [] M1 (qT (qI (fun _ M' => CpC x f t M M')) (fun e M' => e ∈ [0, 1] ∧ CpC x f t M M')) := by
    intro n
    induction n using Nat.strongRecOn with
    | ind n ih =>
    intro c lv lw i M1 rd rlv rlw ri hn hlv hlw hi hv hcx h03 hc hft hBL F T G
    have h8 := cl_al hc
    have el : ((tk M (c + 4)).length : Int) = M (c + 4) 1 := by have := hC.1 _ (cl_c4 hc); rw [tk_len]; omega
    have l60 := tk_len60 (hC.1 _ (cl_c4 hc))
    have hb := cp_b hBL hft.1 hft.2.1 (by omega)
    have e4 : tk M1 (c + 4) = tk M (c + 4) := tk_fr F (by (try dsimp only [blk, sq, cq, lo, wq, pq, pcE]); first | done | omega) (by (try dsimp only [blk, sq, cq, lo, wq, pq, pcE]); first | done | omega)
    have l6 : ((tk M1 (c + 6)).length : Int) = M1 (c + 6) 1 := by have := T _ (cl_c6 hc); rw [tk_len]; omega
    refine at_iload dx_56_72 rfl ?_
    refine at_iload dx_56_73 rfl ?_
    refine at_cgeR dx_56_74 ri rlv (fun c74 => ?_) (fun c74 => ?_)
    · skip
      refine at_aload dx_56_81 rfl ?_
      refine at_getR dx_56_82 hc rfl (cl_t6 hc) ?_
      refine at_getI 1 dx_56_83 (cl_c6 hc) rfl rfl (fun r83 => ?_)
      refine at_iretIT dx_56_84 r83 ?_
      have hil : i = lv := by omega
      subst hil
      have F3 : fr sq M M1 := fr_le F (fun q h => by (try dsimp only [sq, cq, pcE, wq] at h ⊢); omega)
      refine CpC_1 hcx h03 hft (CI_sq hC F3 T G) F ?_
      rw [hv, hlw, hlv]
      rfl
    · skip
      refine at_aload dx_56_75 rfl ?_
      refine at_getR dx_56_76 hc rfl (cl_t6 hc) ?_
      refine at_const (x := 0) dx_56_77 rfl ?_
      refine at_callVV dx_56_78 rfl (cl_c6 hc) rfl (y_addW (cl_c6 hc) (by decide) T (by rw [hv, List.length_append, List.length_append, List.length_reverse, List.length_take, slc_len, List.length_replicate]; omega)) ?_
      rintro M78 ⟨f78, i78, t78⟩
      replace F : fr (pcE c) M _ := fr_tr F (fr_le f78 (fun q h => by (try dsimp only [blk, sq, cq, lo, wq, pq, pcE] at h ⊢); first | done | omega))
      replace G := RI_fr f78 (by (try dsimp only [blk, sq, cq, lo, wq, pq, pcE]); first | done | omega) G
      replace T := i78
      refine at_iincR (y := 1) dx_56_79 rfl rfl (by (constructor <;> omega)) (fun r79 => ?_)
      refine at_goto dx_56_80 ?_
      refine ih _ (by omega) _ _ _ _ _ rd rlv rlw r79 rfl hlv hlw (by omega) ?_ hcx h03 hc hft hBL F T G
      rw [t78, hv, show (i + 1 - lw).toNat = (i - lw).toNat + 1 by omega, rep_snoc, List.append_assoc]
  have l2 : ∀ (n : Nat) (c : Nat) (lv lw i : Int) (M1 : mem) (rd : inR (dsm (tk M (c + 4)) f.toNat)) (rlv : inR lv) (rlw : inR lw) (ri : inR i) (hn : (60 - i).toNat = n) (hlv : lv = dsm (tk M (c + 4)) t.toNat) (hlw : lw = mnd (tk M (c + 4)) f.toNat (t - f).toNat) (hi : lw ≤ i ∧ i ≤ dsm (tk M (c + 4)) f.toNat) (hst : stkA 31 M1 (dsm (tk M (c + 4)) f.toNat).toNat = opn ((tk M (c + 4)).take f.toNat)) (hv : tk M1 (c + 6) = seg (M1 31) lw i) (hcx : c = 592 + 88 * x.toNat) (h03 : 0 ≤ x ∧ x < 3) (hc : ly_c c = 0) (hft : 0 ≤ f ∧ f < t ∧ t ≤ M (c + 4) 1) (hBL : Bal (tk M (c + 4))) (F : fr (pcE c) M M1) (T : TI M1) (G : RI M1), At X 0 56 46 [vr 0, vi x, vi f, vi t, vr c, vi ((dsm (tk M (c + 4)) f.toNat)), vi lv, vi lw, vi i] [] M1 (qT (qI (fun _ M' => CpC x f t M M')) (fun e M' => e ∈ [0, 1] ∧ CpC x f t M M')) := by
    intro n
    induction n using Nat.strongRecOn with
    | ind n ih =>
    intro c lv lw i M1 rd rlv rlw ri hn hlv hlw hi hst hv hcx h03 hc hft hBL F T G
    have h8 := cl_al hc
    have el : ((tk M (c + 4)).length : Int) = M (c + 4) 1 := by have := hC.1 _ (cl_c4 hc); rw [tk_len]; omega
    have l60 := tk_len60 (hC.1 _ (cl_c4 hc))
    have hb := cp_b hBL hft.1 hft.2.1 (by omega)
    have e4 : tk M1 (c + 4) = tk M (c + 4) := tk_fr F (by (try dsimp only [blk, sq, cq, lo, wq, pq, pcE]); first | done | omega) (by (try dsimp only [blk, sq, cq, lo, wq, pq, pcE]); first | done | omega)
    have l6 : ((tk M1 (c + 6)).length : Int) = M1 (c + 6) 1 := by have := T _ (cl_c6 hc); rw [tk_len]; omega
    refine at_iload dx_56_46 rfl ?_
    refine at_iload dx_56_47 rfl ?_
    refine at_cgeR dx_56_48 ri rd (fun c48 => ?_) (fun c48 => ?_)
    · skip
      refine at_aload dx_56_63 rfl ?_
      refine at_getR dx_56_64 hc rfl (cl_t6 hc) ?_
      refine at_aload dx_56_65 rfl ?_
      refine at_getR dx_56_66 hc rfl (cl_t5 hc) ?_
      refine at_iload dx_56_67 rfl ?_
      refine at_iload dx_56_68 rfl ?_
      refine at_callVV dx_56_69 rfl (cl_c6 hc) rfl (c_addSlice (cl_c6 hc) (cl_c4 hc) (by omega) rf rt (T _ (cl_c6 hc)) (T _ (cl_c4 hc))) ?_
      rintro M69 ⟨f69, j69, t69⟩
      have i69 : TI M69 := TI_fr T f69 (fun q hq hP => by
        rcases hP with h | h
        · subst h; exact j69
        · have := tk_e hq; omega)
      replace F : fr (pcE c) M _ := fr_tr F (fr_le f69 (fun q h => by (try dsimp only [blk, sq, cq, lo, wq, pq, pcE] at h ⊢); first | done | omega))
      replace G := RI_fr f69 (by (try dsimp only [blk, sq, cq, lo, wq, pq, pcE]); first | done | omega) G
      replace T := i69
      refine at_iload dx_56_70 rfl ?_
      refine at_istore dx_56_71 ?_
      refine l3 _ _ _ _ _ _ rd rlv rlw rlw rfl hlv hlw (by omega) ?_ hcx h03 hc hft hBL F T G
      have hid : i = dsm (tk M (c + 4)) f.toNat := by omega
      subst hid
      have hq := seg_stkA (a := 31) (M := M1) (dsm (tk M (c + 4)) f.toNat - lw).toNat (dsm (tk M (c + 4)) f.toNat).toNat (by omega)
      rw [hst, show (((dsm (tk M (c + 4)) f.toNat).toNat : Nat) : Int) - (((dsm (tk M (c + 4)) f.toNat - lw).toNat : Nat) : Int) = lw by omega, show (((dsm (tk M (c + 4)) f.toNat).toNat : Nat) : Int) = dsm (tk M (c + 4)) f.toNat by omega] at hq
      rw [t69, e4, hv, hq, List.take_of_length_le, Int.sub_self]
      · exact (List.append_nil _).symm
      · rw [List.length_append, List.length_reverse, List.length_take, slc_len]; omega
    · skip
      refine at_iload dx_56_49 rfl ?_
      refine at_aload dx_56_50 rfl ?_
      refine at_getR dx_56_51 lc_0 rfl lt_0_14 ?_
      refine at_alen dx_56_52 lc_31 rfl ln_31 ?_
      refine at_cgeR dx_56_53 ri (by decide) (fun c53 => ?_) (fun c53 => ?_)
      · skip
        refine at_aload dx_56_63 rfl ?_
        refine at_getR dx_56_64 hc rfl (cl_t6 hc) ?_
        refine at_aload dx_56_65 rfl ?_
        refine at_getR dx_56_66 hc rfl (cl_t5 hc) ?_
        refine at_iload dx_56_67 rfl ?_
        refine at_iload dx_56_68 rfl ?_
        refine at_callVV dx_56_69 rfl (cl_c6 hc) rfl (c_addSlice (cl_c6 hc) (cl_c4 hc) (by omega) rf rt (T _ (cl_c6 hc)) (T _ (cl_c4 hc))) ?_
        rintro M69 ⟨f69, j69, t69⟩
        have i69 : TI M69 := TI_fr T f69 (fun q hq hP => by
          rcases hP with h | h
          · subst h; exact j69
          · have := tk_e hq; omega)
        replace F : fr (pcE c) M _ := fr_tr F (fr_le f69 (fun q h => by (try dsimp only [blk, sq, cq, lo, wq, pq, pcE] at h ⊢); first | done | omega))
        replace G := RI_fr f69 (by (try dsimp only [blk, sq, cq, lo, wq, pq, pcE]); first | done | omega) G
        replace T := i69
        refine at_iload dx_56_70 rfl ?_
        refine at_istore dx_56_71 ?_
        refine l3 _ _ _ _ _ _ rd rlv rlw rlw rfl hlv hlw (by omega) ?_ hcx h03 hc hft hBL F T G
        have hid : i = dsm (tk M (c + 4)) f.toNat := by omega
        subst hid
        have hq := seg_stkA (a := 31) (M := M1) (dsm (tk M (c + 4)) f.toNat - lw).toNat (dsm (tk M (c + 4)) f.toNat).toNat (by omega)
        rw [hst, show (((dsm (tk M (c + 4)) f.toNat).toNat : Nat) : Int) - (((dsm (tk M (c + 4)) f.toNat - lw).toNat : Nat) : Int) = lw by omega, show (((dsm (tk M (c + 4)) f.toNat).toNat : Nat) : Int) = dsm (tk M (c + 4)) f.toNat by omega] at hq
        rw [t69, e4, hv, hq, List.take_of_length_le, Int.sub_self]
        · exact (List.append_nil _).symm
        · rw [List.length_append, List.length_reverse, List.length_take, slc_len]; omega
      · skip
        refine at_aload dx_56_54 rfl ?_
        refine at_getR dx_56_55 hc rfl (cl_t6 hc) ?_
        refine at_aload dx_56_56 rfl ?_
        refine at_getR dx_56_57 lc_0 rfl lt_0_14 ?_
        refine at_iload dx_56_58 rfl ?_
        refine at_aldI dx_56_59 lc_31 ln_31 (by first | omega | (simp (disch := omega) only [um_eq, um_k, um_j]; omega)) (by first | omega | (simp (disch := omega) only [um_eq, um_k, um_j]; omega)) (fun r59 => ?_)
        refine at_callVV dx_56_60 rfl (cl_c6 hc) rfl (y_addW (cl_c6 hc) r59 T (by have h9 := congrArg List.length hv; rw [seg_len] at h9; omega)) ?_
        rintro M60 ⟨f60, i60, t60⟩
        have g31 : M60 31 = M1 31 := funext (fun j => f60 31 j (by have := h8; omega))
        replace F : fr (pcE c) M _ := fr_tr F (fr_le f60 (fun q h => by (try dsimp only [blk, sq, cq, lo, wq, pq, pcE] at h ⊢); first | done | omega))
        replace G := RI_fr f60 (by (try dsimp only [blk, sq, cq, lo, wq, pq, pcE]); first | done | omega) G
        replace T := i60
        refine at_iincR (y := 1) dx_56_61 rfl rfl (by (constructor <;> omega)) (fun r61 => ?_)
        refine at_goto dx_56_62 ?_
        exact ih _ (by omega) _ _ _ _ _ rd rlv rlw r61 rfl hlv hlw (by omega) (by rw [stkA_cg (fun j _ _ => by rw [g31])]; exact hst) (by rw [t60, hv, g31, seg_snoc (by omega)]) hcx h03 hc hft hBL F T G
  have l1 : ∀ (n : Nat) (c : Nat) (lv lw i : Int) (M1 : mem) (rd : inR (dsm (tk M (c + 4)) f.toNat)) (rlv : inR lv) (rlw : inR lw) (ri : inR i) (hn : (t - i).toNat = n) (hi : f ≤ i ∧ i ≤ t) (hlv : lv = dsm (tk M (c + 4)) i.toNat) (hlw : lw = mnd (tk M (c + 4)) f.toNat (i - f).toNat) (hst : stkA 31 M1 (dsm (tk M (c + 4)) f.toNat).toNat = opn ((tk M (c + 4)).take f.toNat)) (hcx : c = 592 + 88 * x.toNat) (h03 : 0 ≤ x ∧ x < 3) (hc : ly_c c = 0) (hft : 0 ≤ f ∧ f < t ∧ t ≤ M (c + 4) 1) (hBL : Bal (tk M (c + 4))) (F : fr (pcE c) M M1) (T : TI M1) (G : RI M1), At X 0 56 22 [vr 0, vi x, vi f, vi t, vr c, vi ((dsm (tk M (c + 4)) f.toNat)), vi lv, vi lw, vi i] [] M1 (qT (qI (fun _ M' => CpC x f t M M')) (fun e M' => e ∈ [0, 1] ∧ CpC x f t M M')) := by
    intro n
    induction n using Nat.strongRecOn with
    | ind n ih =>
    intro c lv lw i M1 rd rlv rlw ri hn hi hlv hlw hst hcx h03 hc hft hBL F T G
    have h8 := cl_al hc
    have el : ((tk M (c + 4)).length : Int) = M (c + 4) 1 := by have := hC.1 _ (cl_c4 hc); rw [tk_len]; omega
    have l60 := tk_len60 (hC.1 _ (cl_c4 hc))
    have hb := cp_b hBL hft.1 hft.2.1 (by omega)
    have e4 : tk M1 (c + 4) = tk M (c + 4) := tk_fr F (by (try dsimp only [blk, sq, cq, lo, wq, pq, pcE]); first | done | omega) (by (try dsimp only [blk, sq, cq, lo, wq, pq, pcE]); first | done | omega)
    have l6 : ((tk M1 (c + 6)).length : Int) = M1 (c + 6) 1 := by have := T _ (cl_c6 hc); rw [tk_len]; omega
    refine at_iload dx_56_22 rfl ?_
    refine at_iload dx_56_23 rfl ?_
    refine at_cgeR dx_56_24 ri rt (fun c24 => ?_) (fun c24 => ?_)
    · skip
      refine at_aload dx_56_39 rfl ?_
      refine at_getR dx_56_40 hc rfl (cl_t6 hc) ?_
      refine at_callVV dx_56_41 rfl (cl_c6 hc) rfl (c_clearW (cl_c6 hc) T) ?_
      rintro M41 ⟨f41, i41, t41⟩
      have g31 : M41 31 = M1 31 := funext (fun j => f41 31 j (by have := h8; omega))
      replace F : fr (pcE c) M _ := fr_tr F (fr_le f41 (fun q h => by (try dsimp only [blk, sq, cq, lo, wq, pq, pcE] at h ⊢); first | done | omega))
      replace G := RI_fr f41 (by (try dsimp only [blk, sq, cq, lo, wq, pq, pcE]); first | done | omega) G
      replace T := i41
      refine at_iload dx_56_42 rfl ?_
      refine at_const (x := 0) dx_56_43 rfl ?_
      refine at_maxR dx_56_44 rfl rlw (by decide) (fun c44 => ?_) (fun c44 => ?_)
      · skip
        refine at_istore dx_56_45 ?_
        have hit : i = t := by omega
        subst hit
        first
        | exact l2 _ _ _ lw lw _ rd rlv rlw rlw rfl hlv hlw (by omega) (by rw [stkA_cg (fun j _ _ => by rw [g31])]; exact hst) (by rw [t41, seg_nil]) hcx h03 hc hft hBL F T G
        | (have hz : lw = 0 := by omega
           exact l2 _ _ _ lw 0 _ rd rlv rlw (by decide) rfl hlv hlw (by omega) (by rw [stkA_cg (fun j _ _ => by rw [g31])]; exact hst) (by rw [t41, hz, seg_nil]) hcx h03 hc hft hBL F T G)
      · skip
        refine at_istore dx_56_45 ?_
        have hit : i = t := by omega
        subst hit
        first
        | exact l2 _ _ _ lw lw _ rd rlv rlw rlw rfl hlv hlw (by omega) (by rw [stkA_cg (fun j _ _ => by rw [g31])]; exact hst) (by rw [t41, seg_nil]) hcx h03 hc hft hBL F T G
        | (have hz : lw = 0 := by omega
           exact l2 _ _ _ lw 0 _ rd rlv rlw (by decide) rfl hlv hlw (by omega) (by rw [stkA_cg (fun j _ _ => by rw [g31])]; exact hst) (by rw [t41, hz, seg_nil]) hcx h03 hc hft hBL F T G)
    · skip
      refine at_iload dx_56_25 rfl ?_
      refine at_aload dx_56_26 rfl ?_
      refine at_getR dx_56_27 hc rfl (cl_t5 hc) ?_
      refine at_iload dx_56_28 rfl ?_
      refine at_callVI dx_56_29 rfl (cl_c4 hc) rfl (c_at (cl_c4 hc) ri (T _ (cl_c4 hc))) ?_
      rintro x29 M9 r29 ⟨e9, h29⟩; replace e9 := e9.symm; subst e9
      refine at_callSI dx_56_30 rfl rfl (c_depthChange r29) ?_
      rintro x30 M9 r30 ⟨e9, h30⟩; replace e9 := e9.symm; subst e9
      have hdc : x30 = dch (atL (tk M (c + 4)) i) := by rw [h30, h29, e4]; rfl
      have hb30 := dch_le (atL (tk M (c + 4)) i)
      have hdn := dsm_atL (l := tk M (c + 4)) (i := i) (by omega) (by omega)
      have hmn := mnd_snoc (l := tk M (c + 4)) (f := f) (i := i) (by omega) (by omega)
      have hml := mnd_le (tk M (c + 4)) f.toNat (i - f).toNat
      have hdb := dsm_le (tk M (c + 4)) i.toNat
      have hdp := hBL.1 i.toNat (by omega)
      have hmp := mnd_pos hBL.1 (f := f.toNat) (i - f).toNat (by omega)
      rw [show f.toNat + (i - f).toNat = i.toNat by omega] at hml
      refine at_addR dx_56_31 (by (constructor <;> omega)) (fun r31 => ?_)
      refine at_istore dx_56_32 ?_
      refine at_iload dx_56_33 rfl ?_
      refine at_iload dx_56_34 rfl ?_
      refine at_minR dx_56_35 rfl rlw r31 (fun c35 => ?_) (fun c35 => ?_)
      · skip
        refine at_istore dx_56_36 ?_
        refine at_iincR (y := 1) dx_56_37 rfl rfl (by (constructor <;> omega)) (fun r37 => ?_)
        refine at_goto dx_56_38 ?_
        exact ih _ (by omega) _ _ _ _ _ rd (by first | assumption | (constructor <;> omega)) (by first | assumption | (constructor <;> omega)) r37 rfl (by omega) (by omega) (by omega) hst hcx h03 hc hft hBL F T G
      · skip
        refine at_istore dx_56_36 ?_
        refine at_iincR (y := 1) dx_56_37 rfl rfl (by (constructor <;> omega)) (fun r37 => ?_)
        refine at_goto dx_56_38 ?_
        exact ih _ (by omega) _ _ _ _ _ rd (by first | assumption | (constructor <;> omega)) (by first | assumption | (constructor <;> omega)) r37 rfl (by omega) (by omega) (by omega) hst hcx h03 hc hft hBL F T G
  refine at_aload dx_56_0 rfl ?_
  refine at_iload dx_56_1 rfl ?_
  refine at_callVRT dx_56_2 rfl lc_0 rfl (x_clientOf rx) ?_ ?_
  rotate_left
  · rintro e M9 ⟨he, e9, hno⟩; replace e9 := e9.symm; subst e9; exact Or.inr ⟨e, rfl, rfl, (by simp only [List.mem_cons, List.not_mem_nil, or_false]; omega), CpC_no hno hC fr_rf⟩
  rintro c M9 ⟨e9, h0, h3, hcx, hc⟩; replace e9 := e9.symm; subst e9
  have h8 := cl_al hc
  have hIc := hC.1 _ (cl_c4 hc)
  have el : ((tk M (c + 4)).length : Int) = M (c + 4) 1 := by rw [tk_len]; omega
  have hBL : Bal (tk M (c + 4)) := by have e : c = cl x := hcx; rw [e]; exact hB h0 h3
  refine at_astore dx_56_3 ?_
  refine at_aload dx_56_4 rfl ?_
  refine at_getR dx_56_5 hc rfl (cl_t5 hc) ?_
  refine at_iload dx_56_6 rfl ?_
  refine at_iload dx_56_7 rfl ?_
  refine at_callSVT dx_56_8 rfl rfl (x_checkStretch (cl_c4 hc) rf rt) ?_ ?_
  rotate_left
  · rintro e M9 ⟨he, e9, hno⟩; replace e9 := e9.symm; subst e9; exact Or.inr ⟨e, rfl, rfl, (by simp only [List.mem_cons, List.not_mem_nil, or_false]; omega), CpC_0 hcx hno hC fr_rf⟩
  rintro M9 ⟨e9, p0, p1, p2⟩; replace e9 := e9.symm; subst e9
  refine at_aload dx_56_9 rfl ?_
  refine at_getR dx_56_10 hc rfl (cl_t5 hc) ?_
  refine at_iload dx_56_11 rfl ?_
  refine at_aload dx_56_12 rfl ?_
  refine at_getR dx_56_13 lc_0 rfl lt_0_14 ?_
  refine at_callVI dx_56_14 rfl (cl_c4 hc) rfl (x_findOpen (cl_c4 hc) rf lc_31 ln_31 (by omega) (by omega) (T _ (cl_c4 hc)) ⟨p0, by omega⟩) ?_
  rintro x14 M14 r14 ⟨f14, u14, v14, w14⟩
  have i14 : TI M14 := TI_no T f14 (fun q hq hP => by rw [hP, lc_31] at hq; exact absurd hq (by decide))
  replace G := RI_fr f14 (by (try dsimp only [blk, sq, cq, lo, wq, pq, pcE]); first | done | omega) G
  replace T := i14
  have hd14 : x14 = dsm (tk M (c + 4)) f.toNat := by have h9 := congrArg List.length w14; rw [stkA_len] at h9; have h10 := opn_len hBL.1 f.toNat (by omega); omega
  subst hd14
  refine at_istore dx_56_15 ?_
  refine at_iload dx_56_16 rfl ?_
  refine at_istore dx_56_17 ?_
  refine at_iload dx_56_18 rfl ?_
  refine at_istore dx_56_19 ?_
  refine at_iload dx_56_20 rfl ?_
  refine at_istore dx_56_21 ?_
  exact l1 _ _ _ _ _ _ r14 r14 r14 rf rfl (by omega) rfl (by rw [Int.sub_self]; rfl) w14 hcx ⟨h0, h3⟩ hc ⟨p0, p1, p2⟩ hBL (fr_le f14 (fun q h => by (try dsimp only [blk, sq, cq, lo, wq, pq, pcE] at h ⊢); first | done | omega)) T G

/-- what the reference has copied, so far -/
noncomputable def crow (M : mem) (c n : Int) : List Int := seg (fun j => M 873 (60 * c + j)) 0 n
theorem crow_um {M : mem} {c n v : Int} (h : 0 ≤ n) : crow (um M 873 (60 * c + n) v) c (n + 1) = crow M c n ++ [v] := by
  unfold crow
  rw [seg_snoc h]
  congr 1
  · unfold seg
    apply List.map_congr_left
    intro j hj
    have := List.mem_range.mp hj
    exact um_j (by omega)
  · show [um M 873 (60 * c + n) v 873 (60 * c + n)] = [v]
    rw [um_eq]
theorem crow_cp {M : mem} {c : Int} : cpM M c = crow M c (M 874 c) := by
  unfold crow cpM seg
  rw [Int.sub_zero]
  apply List.map_congr_left
  intro j hj
  show M 873 (60 * c + (j : Int)) = M 873 (60 * c + (0 + (j : Int)))
  rw [Int.zero_add]
theorem crow_len {M : mem} {c n : Int} : (crow M c n).length = n.toNat := by
  unfold crow
  rw [seg_len, Int.sub_zero]
theorem crow_cg {M M' : mem} {c n : Int} (h : M' 873 = M 873) : crow M' c n = crow M c n := by
  unfold crow
  rw [h]
abbrev caE (c : Int) (q : Nat) (j : Int) : Prop := wE q j ∨ (q = 873 ∧ 60 * c ≤ j ∧ j < 60 * c + 60)
/-- what copying comes to, of the reference -/
noncomputable def CpM (c f t : Int) (M M' : mem) : Prop := (cpOK c f t (M 860 c) ∧ MI M' ∧ frE (fun q j => caE c q j ∨ (q = 874 ∧ j = c)) M M' ∧ cpM M' c = cpV (dc M c) f t) ∨ (¬ cpOK c f t (M 860 c) ∧ MI M' ∧ frE wE M M')
theorem caE_sq {c : Int} {q : Nat} {j : Int} (h : caE c q j) : sqE q j := by
  rcases h with h | h
  · exact wE_sq h
  · exact Or.inr (Or.inr (Or.inr (Or.inr (Or.inr (Or.inr (Or.inl ⟨by omega, by omega⟩))))))

set_option maxRecDepth 100000 in
set_option maxHeartbeats 4000000 in
theorem y_copy {X : scr} {M : mem} {c f t : Int} (rc : inR c) (rf : inR f) (rt : inR t) (hM : MI M) : At X 0 137 0 [vr 856, vi c, vi f, vi t] [] M (qI (fun _ M' => CpM c f t M M')) := by
  have F : frE wE M M := fe_rf
  have hS := fun h1 h2 => hM.1 c h1 h2
  have l4 : ∀ (n9 : Nat) (n d l i : Int) (M1 : mem) (rn : inR n) (rd : inR d) (ro : inR (dsm (dc M c) f.toNat)) (rl : inR l) (ri : inR i) (hi : 0 ≤ i ∧ i ≤ l) (hl : l = dsm (dc M c) t.toNat - mnd (dc M c) f.toNat (t - f).toNat) (hnn : 0 ≤ n ∧ n = dsm (dc M c) f.toNat - mnd (dc M c) f.toNat (t - f).toNat + (t - f) + i) (hn : (l - i).toNat = n9) (hv : crow M1 c n = ((opn ((dc M c).take f.toNat)).take (dsm (dc M c) f.toNat - mnd (dc M c) f.toNat (t - f).toNat).toNat).reverse ++ slc (dc M c) f t ++ List.replicate i.toNat 0) (hc : 0 ≤ c ∧ c ≤ 2) (hft : 0 ≤ f ∧ f < t ∧ t ≤ M 860 c) (F : frE (caE c) M M1), At X 0 137 137 [vr 856, vi c, vi f, vi t, vi 1, vi n, vi d, vi ((dsm (dc M c) f.toNat)), vi l, vi i] [] M1 (qI (fun _ M' => CpM c f t M M')) := by
    intro n9
    induction n9 using Nat.strongRecOn with
    | ind n9 ih =>
    intro n d l i M1 rn rd ro rl ri hi hl hnn hn hv hc hft F
    have FS : frE sqE M M1 := fe_le F (fun q j h => caE_sq h)
    have gt : ∀ (q : Nat) (j : Int), (q = 859 ∨ q = 860) → M1 q j = M q j := fun q j hq => FS q j (by (try dsimp only [sqE]); omega)
    have hs6 := hM.1 c hc.1 (by omega)
    have hBL := MI_bal hM (c := c) (by omega)
    have hL : ((dc M c).length : Int) = M 860 c := by rw [dc_len]; omega
    have hb := cp_b hBL hft.1 hft.2.1 (by omega)
    have dM : dc M1 c = dc M c := dc_cg (gt 860 c (Or.inr rfl)) (fun j _ => gt 859 _ (Or.inl rfl))
    refine at_iload dx_137_137 rfl ?_
    refine at_iload dx_137_138 rfl ?_
    refine at_cgeR dx_137_139 ri rl (fun c139 => ?_) (fun c139 => ?_)
    · skip
      refine at_aload dx_137_152 rfl ?_
      refine at_getR dx_137_153 lc_856 rfl lt_856_18 ?_
      refine at_iload dx_137_154 rfl ?_
      refine at_iload dx_137_155 rfl ?_
      refine at_astI dx_137_156 lc_874 ln_874 (by first | omega | (simp (disch := omega) only [um_eq, um_k, um_j]; omega)) (by first | omega | (simp (disch := omega) only [um_eq, um_k, um_j]; omega)) rn ?_
      refine at_iload dx_137_157 rfl ?_
      refine at_iretI dx_137_158 rn ?_
      have hil : i = l := by omega
      have FE : frE (fun q j => sqE q j ∨ ceE c q j) M (um M1 874 c n) := fe_ums (fe_le FS (fun q j h => Or.inl h)) (Or.inr (Or.inr (Or.inl ⟨Or.inr (Or.inr (Or.inr rfl)), rfl⟩)))
      have hmc := MC_fe hM hc FS (fun q j h => h)
      obtain ⟨b1, b2, b3, b, b4, b5⟩ := hmc
      have Fu : frE (fun q j => q = 874 ∧ j = c) M1 (um M1 874 c n) := fe_um ⟨rfl, rfl⟩
      refine Or.inl ⟨⟨⟨by omega, by omega⟩, hft⟩, MI_cl hM hc FE (by rw [um_k (by decide), gt 860 c (Or.inr rfl)]; exact hs6) ⟨b1, b2, by rw [um_eq]; omega, b, ?_, ?_⟩, fe_ums (fe_le F (fun q j h => Or.inl h)) (Or.inr ⟨rfl, rfl⟩), ?_⟩
      · rw [lgW_fe Fu (fun q j e => by (try dsimp only at e); omega)]; exact b4
      · rw [pdW_fe Fu (fun q j e => by (try dsimp only at e); omega)]; exact b5
      · rw [crow_cp, um_eq, crow_cg (funext (fun j => um_k (by decide))), hv, hil, hl]
        rfl
    · skip
      refine at_aload dx_137_140 rfl ?_
      refine at_getR dx_137_141 lc_856 rfl lt_856_17 ?_
      refine at_const (x := 60) dx_137_142 rfl ?_
      refine at_iload dx_137_143 rfl ?_
      refine at_mulR dx_137_144 (by (constructor <;> omega)) (fun r144 => ?_)
      refine at_iload dx_137_145 rfl ?_
      refine at_addR dx_137_146 (by (constructor <;> omega)) (fun r146 => ?_)
      refine at_const (x := 0) dx_137_147 rfl ?_
      refine at_astI dx_137_148 lc_873 ln_873 (by first | omega | (simp (disch := omega) only [um_eq, um_k, um_j]; omega)) (by first | omega | (simp (disch := omega) only [um_eq, um_k, um_j]; omega)) (by decide) ?_
      refine at_iincR (y := 1) dx_137_149 rfl rfl (by (constructor <;> omega)) (fun r149 => ?_)
      refine at_iincR (y := 1) dx_137_150 rfl rfl (by (constructor <;> omega)) (fun r150 => ?_)
      refine at_goto dx_137_151 ?_
      exact ih _ (by omega) _ _ _ _ _ r149 rd ro rl r150 (by omega) hl (by omega) rfl (by rw [crow_um (by omega), hv, show (i + 1).toNat = i.toNat + 1 by omega, rep_snoc]; simp only [List.append_assoc]) hc hft (fe_ums F (Or.inr ⟨rfl, by omega, by omega⟩))
  have l3 : ∀ (n9 : Nat) (n d l k : Int) (M1 : mem) (rn : inR n) (rd : inR d) (ro : inR (dsm (dc M c) f.toNat)) (rl : inR l) (rk : inR k) (hk : f ≤ k ∧ k ≤ t) (hl : l = dsm (dc M c) k.toNat - mnd (dc M c) f.toNat (k - f).toNat) (hnn : 0 ≤ n ∧ n = dsm (dc M c) f.toNat - mnd (dc M c) f.toNat (t - f).toNat + (k - f)) (hn : (t - k).toNat = n9) (hv : crow M1 c n = ((opn ((dc M c).take f.toNat)).take (dsm (dc M c) f.toNat - mnd (dc M c) f.toNat (t - f).toNat).toNat).reverse ++ slc (dc M c) f k) (hc : 0 ≤ c ∧ c ≤ 2) (hft : 0 ≤ f ∧ f < t ∧ t ≤ M 860 c) (F : frE (caE c) M M1), At X 0 137 100 [vr 856, vi c, vi f, vi t, vi 1, vi n, vi d, vi ((dsm (dc M c) f.toNat)), vi l, vi k] [] M1 (qI (fun _ M' => CpM c f t M M')) := by
    intro n9
    induction n9 using Nat.strongRecOn with
    | ind n9 ih =>
    intro n d l k M1 rn rd ro rl rk hk hl hnn hn hv hc hft F
    have FS : frE sqE M M1 := fe_le F (fun q j h => caE_sq h)
    have gt : ∀ (q : Nat) (j : Int), (q = 859 ∨ q = 860) → M1 q j = M q j := fun q j hq => FS q j (by (try dsimp only [sqE]); omega)
    have hs6 := hM.1 c hc.1 (by omega)
    have hBL := MI_bal hM (c := c) (by omega)
    have hL : ((dc M c).length : Int) = M 860 c := by rw [dc_len]; omega
    have hb := cp_b hBL hft.1 hft.2.1 (by omega)
    have dM : dc M1 c = dc M c := dc_cg (gt 860 c (Or.inr rfl)) (fun j _ => gt 859 _ (Or.inl rfl))
    have hnx := fun (h : k < t) => dsm_atL (l := dc M c) (i := k) (by omega) (by omega)
    have hmn := mnd_snoc (l := dc M c) (f := f) (i := k) (by omega) (by omega)
    have hml := mnd_le (dc M c) f.toNat (k - f).toNat
    rw [show f.toNat + (k - f).toNat = k.toNat by omega] at hml
    have hdb := dsm_le (dc M c) k.toNat
    have hmp := mnd_pos hBL.1 (f := f.toNat) (k - f).toNat (by omega)
    refine at_iload dx_137_100 rfl ?_
    refine at_iload dx_137_101 rfl ?_
    refine at_cgeR dx_137_102 rk rt (fun c102 => ?_) (fun c102 => ?_)
    · skip
      refine at_const (x := 0) dx_137_135 rfl ?_
      refine at_istore dx_137_136 ?_
      have hkt : k = t := by omega
      subst hkt
      exact l4 _ _ _ _ 0 _ rn rd ro rl (by decide) (by omega) (by omega) (by omega) rfl (by rw [hv]; exact (List.append_nil _).symm) hc hft F
    · skip
      refine at_aload dx_137_103 rfl ?_
      refine at_iload dx_137_104 rfl ?_
      refine at_iload dx_137_105 rfl ?_
      refine at_callVI dx_137_106 rfl lc_856 rfl (m_tokenOf rc rk (by omega) (by omega)) ?_
      rintro x106 M9 r106 ⟨e9, h106⟩; replace e9 := e9.symm; subst e9
      refine at_istore dx_137_107 ?_
      refine at_iload dx_137_108 rfl ?_
      refine at_iload dx_137_109 rfl ?_
      refine at_callSI dx_137_110 rfl rfl (m_opens r106) ?_
      rintro x110 M9 r110 ⟨e9, h110⟩; replace e9 := e9.symm; subst e9; replace h110 := ite01 h110
      refine at_zeqR dx_137_111 r110 (fun c111 => ?_) (fun c111 => ?_)
      · skip
        refine at_iload dx_137_114 rfl ?_
        refine at_zneR dx_137_115 r106 (fun c115 => ?_) (fun c115 => ?_)
        · skip
          refine at_const (x := 0) dx_137_120 rfl ?_
          refine at_addR dx_137_121 (by (constructor <;> omega)) (fun r121 => ?_)
          refine at_istore dx_137_122 ?_
          refine at_aload dx_137_123 rfl ?_
          refine at_getR dx_137_124 lc_856 rfl lt_856_17 ?_
          refine at_const (x := 60) dx_137_125 rfl ?_
          refine at_iload dx_137_126 rfl ?_
          refine at_mulR dx_137_127 (by (constructor <;> omega)) (fun r127 => ?_)
          refine at_iload dx_137_128 rfl ?_
          refine at_addR dx_137_129 (by (constructor <;> omega)) (fun r129 => ?_)
          refine at_iload dx_137_130 rfl ?_
          refine at_astI dx_137_131 lc_873 ln_873 (by first | omega | (simp (disch := omega) only [um_eq, um_k, um_j]; omega)) (by first | omega | (simp (disch := omega) only [um_eq, um_k, um_j]; omega)) r106 ?_
          refine at_iincR (y := 1) dx_137_132 rfl rfl (by (constructor <;> omega)) (fun r132 => ?_)
          refine at_iincR (y := 1) dx_137_133 rfl rfl (by (constructor <;> omega)) (fun r133 => ?_)
          refine at_goto dx_137_134 ?_
          refine at_wk (ls := [vr 856, vi _, vi _, vi _, vi _, vi _, vi _, vi _, vi _, vi _]) ⟨Or.inl rfl, Or.inl rfl, Or.inl rfl, Or.inl rfl, Or.inl rfl, Or.inl rfl, Or.inl rfl, Or.inl rfl, Or.inl rfl, Or.inl rfl, trivial⟩ ?_
          have e6 := gt 859 (60 * c + k) (Or.inl rfl)
          have hat := hat_of (M := M) (c := c) hs6.1 k
          have hak : atL (dc M c) k = M1 859 (60 * c + k) := by rw [e6]; omega
          have hq := hnx (by omega)
          have hrow : ∀ v : Int, v = M1 859 (60 * c + k) → crow (um M1 873 (60 * c + n) v) c (n + 1) = ((opn ((dc M c).take f.toNat)).take (dsm (dc M c) f.toNat - mnd (dc M c) f.toNat (t - f).toNat).toNat).reverse ++ slc (dc M c) f (k + 1) := fun v hv9 => by
            rw [crow_um (by omega), hv, slc_snoc (by omega), hak, hv9, List.append_assoc]
          first
          | (exfalso; omega)
          | (have hz : dch (atL (dc M c) k) = 1 := by rw [hak]; unfold dch; rw [if_neg (by omega), if_pos (by omega)]
             exact ih _ (by omega) _ _ _ _ _ r132 rd ro r121 r133 (by omega) (by omega) (by omega) rfl (hrow _ (by omega)) hc hft (fe_ums F (Or.inr ⟨rfl, by omega, by omega⟩)))
          | (have hz : dch (atL (dc M c) k) = -1 := by rw [hak]; unfold dch; rw [if_pos (by omega)]
             exact ih _ (by omega) _ _ _ _ _ r132 rd ro r121 r133 (by omega) (by omega) (by omega) rfl (hrow _ (by omega)) hc hft (fe_ums F (Or.inr ⟨rfl, by omega, by omega⟩)))
          | (have hz : dch (atL (dc M c) k) = 0 := by rw [hak]; unfold dch; rw [if_neg (by omega), if_neg (by omega)]
             exact ih _ (by omega) _ _ _ _ _ r132 rd ro r121 r133 (by omega) (by omega) (by omega) rfl (hrow _ (by omega)) hc hft (fe_ums F (Or.inr ⟨rfl, by omega, by omega⟩)))
        · skip
          refine at_iload dx_137_116 rfl ?_
          refine at_zleR dx_137_117 rl (fun c117 => ?_) (fun c117 => ?_)
          · skip
            refine at_const (x := 0) dx_137_120 rfl ?_
            refine at_addR dx_137_121 (by (constructor <;> omega)) (fun r121 => ?_)
            refine at_istore dx_137_122 ?_
            refine at_aload dx_137_123 rfl ?_
            refine at_getR dx_137_124 lc_856 rfl lt_856_17 ?_
            refine at_const (x := 60) dx_137_125 rfl ?_
            refine at_iload dx_137_126 rfl ?_
            refine at_mulR dx_137_127 (by (constructor <;> omega)) (fun r127 => ?_)
            refine at_iload dx_137_128 rfl ?_
            refine at_addR dx_137_129 (by (constructor <;> omega)) (fun r129 => ?_)
            refine at_iload dx_137_130 rfl ?_
            refine at_astI dx_137_131 lc_873 ln_873 (by first | omega | (simp (disch := omega) only [um_eq, um_k, um_j]; omega)) (by first | omega | (simp (disch := omega) only [um_eq, um_k, um_j]; omega)) r106 ?_
            refine at_iincR (y := 1) dx_137_132 rfl rfl (by (constructor <;> omega)) (fun r132 => ?_)
            refine at_iincR (y := 1) dx_137_133 rfl rfl (by (constructor <;> omega)) (fun r133 => ?_)
            refine at_goto dx_137_134 ?_
            refine at_wk (ls := [vr 856, vi _, vi _, vi _, vi _, vi _, vi _, vi _, vi _, vi _]) ⟨Or.inl rfl, Or.inl rfl, Or.inl rfl, Or.inl rfl, Or.inl rfl, Or.inl rfl, Or.inl rfl, Or.inl rfl, Or.inl rfl, Or.inl rfl, trivial⟩ ?_
            have e6 := gt 859 (60 * c + k) (Or.inl rfl)
            have hat := hat_of (M := M) (c := c) hs6.1 k
            have hak : atL (dc M c) k = M1 859 (60 * c + k) := by rw [e6]; omega
            have hq := hnx (by omega)
            have hrow : ∀ v : Int, v = M1 859 (60 * c + k) → crow (um M1 873 (60 * c + n) v) c (n + 1) = ((opn ((dc M c).take f.toNat)).take (dsm (dc M c) f.toNat - mnd (dc M c) f.toNat (t - f).toNat).toNat).reverse ++ slc (dc M c) f (k + 1) := fun v hv9 => by
              rw [crow_um (by omega), hv, slc_snoc (by omega), hak, hv9, List.append_assoc]
            first
            | (exfalso; omega)
            | (have hz : dch (atL (dc M c) k) = 1 := by rw [hak]; unfold dch; rw [if_neg (by omega), if_pos (by omega)]
               exact ih _ (by omega) _ _ _ _ _ r132 rd ro r121 r133 (by omega) (by omega) (by omega) rfl (hrow _ (by omega)) hc hft (fe_ums F (Or.inr ⟨rfl, by omega, by omega⟩)))
            | (have hz : dch (atL (dc M c) k) = -1 := by rw [hak]; unfold dch; rw [if_pos (by omega)]
               exact ih _ (by omega) _ _ _ _ _ r132 rd ro r121 r133 (by omega) (by omega) (by omega) rfl (hrow _ (by omega)) hc hft (fe_ums F (Or.inr ⟨rfl, by omega, by omega⟩)))
            | (have hz : dch (atL (dc M c) k) = 0 := by rw [hak]; unfold dch; rw [if_neg (by omega), if_neg (by omega)]
               exact ih _ (by omega) _ _ _ _ _ r132 rd ro r121 r133 (by omega) (by omega) (by omega) rfl (hrow _ (by omega)) hc hft (fe_ums F (Or.inr ⟨rfl, by omega, by omega⟩)))
          · skip
            refine at_const (x := -1) dx_137_118 rfl ?_
            refine at_goto dx_137_119 ?_
            refine at_addR dx_137_121 (by (constructor <;> omega)) (fun r121 => ?_)
            refine at_istore dx_137_122 ?_
            refine at_aload dx_137_123 rfl ?_
            refine at_getR dx_137_124 lc_856 rfl lt_856_17 ?_
            refine at_const (x := 60) dx_137_125 rfl ?_
            refine at_iload dx_137_126 rfl ?_
            refine at_mulR dx_137_127 (by (constructor <;> omega)) (fun r127 => ?_)
            refine at_iload dx_137_128 rfl ?_
            refine at_addR dx_137_129 (by (constructor <;> omega)) (fun r129 => ?_)
            refine at_iload dx_137_130 rfl ?_
            refine at_astI dx_137_131 lc_873 ln_873 (by first | omega | (simp (disch := omega) only [um_eq, um_k, um_j]; omega)) (by first | omega | (simp (disch := omega) only [um_eq, um_k, um_j]; omega)) r106 ?_
            refine at_iincR (y := 1) dx_137_132 rfl rfl (by (constructor <;> omega)) (fun r132 => ?_)
            refine at_iincR (y := 1) dx_137_133 rfl rfl (by (constructor <;> omega)) (fun r133 => ?_)
            refine at_goto dx_137_134 ?_
            refine at_wk (ls := [vr 856, vi _, vi _, vi _, vi _, vi _, vi _, vi _, vi _, vi _]) ⟨Or.inl rfl, Or.inl rfl, Or.inl rfl, Or.inl rfl, Or.inl rfl, Or.inl rfl, Or.inl rfl, Or.inl rfl, Or.inl rfl, Or.inl rfl, trivial⟩ ?_
            have e6 := gt 859 (60 * c + k) (Or.inl rfl)
            have hat := hat_of (M := M) (c := c) hs6.1 k
            have hak : atL (dc M c) k = M1 859 (60 * c + k) := by rw [e6]; omega
            have hq := hnx (by omega)
            have hrow : ∀ v : Int, v = M1 859 (60 * c + k) → crow (um M1 873 (60 * c + n) v) c (n + 1) = ((opn ((dc M c).take f.toNat)).take (dsm (dc M c) f.toNat - mnd (dc M c) f.toNat (t - f).toNat).toNat).reverse ++ slc (dc M c) f (k + 1) := fun v hv9 => by
              rw [crow_um (by omega), hv, slc_snoc (by omega), hak, hv9, List.append_assoc]
            first
            | (exfalso; omega)
            | (have hz : dch (atL (dc M c) k) = 1 := by rw [hak]; unfold dch; rw [if_neg (by omega), if_pos (by omega)]
               exact ih _ (by omega) _ _ _ _ _ r132 rd ro r121 r133 (by omega) (by omega) (by omega) rfl (hrow _ (by omega)) hc hft (fe_ums F (Or.inr ⟨rfl, by omega, by omega⟩)))
            | (have hz : dch (atL (dc M c) k) = -1 := by rw [hak]; unfold dch; rw [if_pos (by omega)]
               exact ih _ (by omega) _ _ _ _ _ r132 rd ro r121 r133 (by omega) (by omega) (by omega) rfl (hrow _ (by omega)) hc hft (fe_ums F (Or.inr ⟨rfl, by omega, by omega⟩)))
            | (have hz : dch (atL (dc M c) k) = 0 := by rw [hak]; unfold dch; rw [if_neg (by omega), if_neg (by omega)]
               exact ih _ (by omega) _ _ _ _ _ r132 rd ro r121 r133 (by omega) (by omega) (by omega) rfl (hrow _ (by omega)) hc hft (fe_ums F (Or.inr ⟨rfl, by omega, by omega⟩)))
      · skip
        refine at_const (x := 1) dx_137_112 rfl ?_
        refine at_goto dx_137_113 ?_
        refine at_addR dx_137_121 (by (constructor <;> omega)) (fun r121 => ?_)
        refine at_istore dx_137_122 ?_
        refine at_aload dx_137_123 rfl ?_
        refine at_getR dx_137_124 lc_856 rfl lt_856_17 ?_
        refine at_const (x := 60) dx_137_125 rfl ?_
        refine at_iload dx_137_126 rfl ?_
        refine at_mulR dx_137_127 (by (constructor <;> omega)) (fun r127 => ?_)
        refine at_iload dx_137_128 rfl ?_
        refine at_addR dx_137_129 (by (constructor <;> omega)) (fun r129 => ?_)
        refine at_iload dx_137_130 rfl ?_
        refine at_astI dx_137_131 lc_873 ln_873 (by first | omega | (simp (disch := omega) only [um_eq, um_k, um_j]; omega)) (by first | omega | (simp (disch := omega) only [um_eq, um_k, um_j]; omega)) r106 ?_
        refine at_iincR (y := 1) dx_137_132 rfl rfl (by (constructor <;> omega)) (fun r132 => ?_)
        refine at_iincR (y := 1) dx_137_133 rfl rfl (by (constructor <;> omega)) (fun r133 => ?_)
        refine at_goto dx_137_134 ?_
        refine at_wk (ls := [vr 856, vi _, vi _, vi _, vi _, vi _, vi _, vi _, vi _, vi _]) ⟨Or.inl rfl, Or.inl rfl, Or.inl rfl, Or.inl rfl, Or.inl rfl, Or.inl rfl, Or.inl rfl, Or.inl rfl, Or.inl rfl, Or.inl rfl, trivial⟩ ?_
        have e6 := gt 859 (60 * c + k) (Or.inl rfl)
        have hat := hat_of (M := M) (c := c) hs6.1 k
        have hak : atL (dc M c) k = M1 859 (60 * c + k) := by rw [e6]; omega
        have hq := hnx (by omega)
        have hrow : ∀ v : Int, v = M1 859 (60 * c + k) → crow (um M1 873 (60 * c + n) v) c (n + 1) = ((opn ((dc M c).take f.toNat)).take (dsm (dc M c) f.toNat - mnd (dc M c) f.toNat (t - f).toNat).toNat).reverse ++ slc (dc M c) f (k + 1) := fun v hv9 => by
          rw [crow_um (by omega), hv, slc_snoc (by omega), hak, hv9, List.append_assoc]
        first
        | (exfalso; omega)
        | (have hz : dch (atL (dc M c) k) = 1 := by rw [hak]; unfold dch; rw [if_neg (by omega), if_pos (by omega)]
           exact ih _ (by omega) _ _ _ _ _ r132 rd ro r121 r133 (by omega) (by omega) (by omega) rfl (hrow _ (by omega)) hc hft (fe_ums F (Or.inr ⟨rfl, by omega, by omega⟩)))
        | (have hz : dch (atL (dc M c) k) = -1 := by rw [hak]; unfold dch; rw [if_pos (by omega)]
           exact ih _ (by omega) _ _ _ _ _ r132 rd ro r121 r133 (by omega) (by omega) (by omega) rfl (hrow _ (by omega)) hc hft (fe_ums F (Or.inr ⟨rfl, by omega, by omega⟩)))
        | (have hz : dch (atL (dc M c) k) = 0 := by rw [hak]; unfold dch; rw [if_neg (by omega), if_neg (by omega)]
           exact ih _ (by omega) _ _ _ _ _ r132 rd ro r121 r133 (by omega) (by omega) (by omega) rfl (hrow _ (by omega)) hc hft (fe_ums F (Or.inr ⟨rfl, by omega, by omega⟩)))
  have l2 : ∀ (n9 : Nat) (n d i : Int) (M1 : mem) (rn : inR n) (rd : inR d) (ro : inR (dsm (dc M c) f.toNat)) (ri : inR i) (hj : 0 ≤ i ∧ i ≤ d) (hd : d = dsm (dc M c) f.toNat - mnd (dc M c) f.toNat (t - f).toNat) (hnn : n = i) (hn : (d - i).toNat = n9) (hst : stkB M1 (dsm (dc M c) f.toNat).toNat = opn ((dc M c).take f.toNat)) (hv : crow M1 c n = seg (M1 881) (dsm (dc M c) f.toNat - d + 1) (dsm (dc M c) f.toNat - d + 1 + i)) (hc : 0 ≤ c ∧ c ≤ 2) (hft : 0 ≤ f ∧ f < t ∧ t ≤ M 860 c) (F : frE (caE c) M M1), At X 0 137 72 [vr 856, vi c, vi f, vi t, vi 1, vi n, vi d, vi ((dsm (dc M c) f.toNat)), vi i] [] M1 (qI (fun _ M' => CpM c f t M M')) := by
    intro n9
    induction n9 using Nat.strongRecOn with
    | ind n9 ih =>
    intro n d i M1 rn rd ro ri hj hd hnn hn hst hv hc hft F
    have FS : frE sqE M M1 := fe_le F (fun q j h => caE_sq h)
    have gt : ∀ (q : Nat) (j : Int), (q = 859 ∨ q = 860) → M1 q j = M q j := fun q j hq => FS q j (by (try dsimp only [sqE]); omega)
    have hs6 := hM.1 c hc.1 (by omega)
    have hBL := MI_bal hM (c := c) (by omega)
    have hL : ((dc M c).length : Int) = M 860 c := by rw [dc_len]; omega
    have hb := cp_b hBL hft.1 hft.2.1 (by omega)
    have dM : dc M1 c = dc M c := dc_cg (gt 860 c (Or.inr rfl)) (fun j _ => gt 859 _ (Or.inl rfl))
    refine at_iload dx_137_72 rfl ?_
    refine at_iload dx_137_73 rfl ?_
    refine at_cgeR dx_137_74 ri rd (fun c74 => ?_) (fun c74 => ?_)
    · skip
      refine at_const (x := 0) dx_137_96 rfl ?_
      refine at_istore dx_137_97 ?_
      refine at_iload dx_137_98 rfl ?_
      refine at_istore dx_137_99 ?_
      exact l3 _ _ _ 0 _ _ rn rd ro (by decide) rf (by omega) (by rw [Int.sub_self]; show (0 : Int) = dsm (dc M c) f.toNat - dsm (dc M c) f.toNat; omega) (by omega) rfl (by
        have hid : i = d := by omega
        have hni : n = d := by omega
        rw [hv, hid, hd]
        have hq := seg_stkB (M := M1) (dsm (dc M c) f.toNat - (mnd (dc M c) f.toNat (t - f).toNat)).toNat (dsm (dc M c) f.toNat).toNat (by omega)
        rw [hst, show (((dsm (dc M c) f.toNat).toNat : Nat) : Int) - (((dsm (dc M c) f.toNat - (mnd (dc M c) f.toNat (t - f).toNat)).toNat : Nat) : Int) + 1 = dsm (dc M c) f.toNat - (dsm (dc M c) f.toNat - (mnd (dc M c) f.toNat (t - f).toNat)) + 1 by omega, show (((dsm (dc M c) f.toNat).toNat : Nat) : Int) + 1 = dsm (dc M c) f.toNat - (dsm (dc M c) f.toNat - (mnd (dc M c) f.toNat (t - f).toNat)) + 1 + (dsm (dc M c) f.toNat - (mnd (dc M c) f.toNat (t - f).toNat)) by omega] at hq
        rw [hq, slc_nil (Int.le_refl _)]
        exact (List.append_nil _).symm) hc hft F
    · skip
      refine at_aload dx_137_75 rfl ?_
      refine at_getR dx_137_76 lc_856 rfl lt_856_17 ?_
      refine at_const (x := 60) dx_137_77 rfl ?_
      refine at_iload dx_137_78 rfl ?_
      refine at_mulR dx_137_79 (by (constructor <;> omega)) (fun r79 => ?_)
      refine at_iload dx_137_80 rfl ?_
      refine at_addR dx_137_81 (by (constructor <;> omega)) (fun r81 => ?_)
      refine at_aload dx_137_82 rfl ?_
      refine at_getR dx_137_83 lc_856 rfl lt_856_29 ?_
      refine at_iload dx_137_84 rfl ?_
      refine at_iload dx_137_85 rfl ?_
      refine at_subR dx_137_86 (by (constructor <;> omega)) (fun r86 => ?_)
      refine at_const (x := 1) dx_137_87 rfl ?_
      refine at_addR dx_137_88 (by (constructor <;> omega)) (fun r88 => ?_)
      refine at_iload dx_137_89 rfl ?_
      refine at_addR dx_137_90 (by (constructor <;> omega)) (fun r90 => ?_)
      refine at_aldI dx_137_91 lc_881 ln_881 (by first | omega | (simp (disch := omega) only [um_eq, um_k, um_j]; omega)) (by first | omega | (simp (disch := omega) only [um_eq, um_k, um_j]; omega)) (fun r91 => ?_)
      refine at_astI dx_137_92 lc_873 ln_873 (by first | omega | (simp (disch := omega) only [um_eq, um_k, um_j]; omega)) (by first | omega | (simp (disch := omega) only [um_eq, um_k, um_j]; omega)) r91 ?_
      refine at_iincR (y := 1) dx_137_93 rfl rfl (by (constructor <;> omega)) (fun r93 => ?_)
      refine at_iincR (y := 1) dx_137_94 rfl rfl (by (constructor <;> omega)) (fun r94 => ?_)
      refine at_goto dx_137_95 ?_
      have g81 : ∀ v : Int, (um M1 873 (60 * c + n) v) 881 = M1 881 := fun v => funext (fun j => um_k (by decide))
      refine ih _ (by omega) _ _ _ _ r93 rd ro r94 (by omega) hd (by omega) rfl (by rw [stkB_cg (fun j _ _ => by rw [g81])]; exact hst) ?_ hc hft (fe_ums F (Or.inr ⟨rfl, by omega, by omega⟩))
      rw [crow_um (by omega), hv, g81, ← Int.add_assoc, seg_snoc (by omega)]
  have l1 : ∀ (n9 : Nat) (d k : Int) (M1 : mem) (rd : inR d) (rk : inR k) (hk : f - 1 ≤ k ∧ k ≤ t - 1) (hd : d = dsm (dc M c) (k + 1).toNat - mnd (dc M c) (k + 1).toNat (t - (k + 1)).toNat) (hn : (k + 1).toNat = n9) (hc : 0 ≤ c ∧ c ≤ 2) (hft : 0 ≤ f ∧ f < t ∧ t ≤ M 860 c) (F : frE (caE c) M M1), At X 0 137 40 [vr 856, vi c, vi f, vi t, vi 1, vi 0, vi d, vi k] [] M1 (qI (fun _ M' => CpM c f t M M')) := by
    intro n9
    induction n9 using Nat.strongRecOn with
    | ind n9 ih =>
    intro d k M1 rd rk hk hd hn hc hft F
    have FS : frE sqE M M1 := fe_le F (fun q j h => caE_sq h)
    have gt : ∀ (q : Nat) (j : Int), (q = 859 ∨ q = 860) → M1 q j = M q j := fun q j hq => FS q j (by (try dsimp only [sqE]); omega)
    have hs6 := hM.1 c hc.1 (by omega)
    have hBL := MI_bal hM (c := c) (by omega)
    have hL : ((dc M c).length : Int) = M 860 c := by rw [dc_len]; omega
    have hb := cp_b hBL hft.1 hft.2.1 (by omega)
    have dM : dc M1 c = dc M c := dc_cg (gt 860 c (Or.inr rfl)) (fun j _ => gt 859 _ (Or.inl rfl))
    have hnx := fun (h : f ≤ k) => dsm_atL (l := dc M c) (i := k) (by omega) (by omega)
    have hmc := fun (h : f ≤ k) => mnd_cons (l := dc M c) (k := k) (t := t) (by omega) (by omega)
    have hml := mnd_le (dc M c) (k + 1).toNat (t - (k + 1)).toNat
    have hdb := dsm_le (dc M c) (k + 1).toNat
    have hmp := mnd_pos hBL.1 (f := (k + 1).toNat) (t - (k + 1)).toNat (by omega)
    refine at_iload dx_137_40 rfl ?_
    refine at_iload dx_137_41 rfl ?_
    refine at_cltR dx_137_42 rk rf (fun c42 => ?_) (fun c42 => ?_)
    · skip
      refine at_aload dx_137_65 rfl ?_
      refine at_iload dx_137_66 rfl ?_
      refine at_iload dx_137_67 rfl ?_
      refine at_callVI dx_137_68 rfl lc_856 rfl (x_depthAt rc rf (by omega) (by rw [gt 860 c (Or.inr rfl)]; exact hs6) (by rw [gt 860 c (Or.inr rfl)]; omega) (by rw [dM]; exact hBL)) ?_
      rintro x68 M68 r68 ⟨f68, d68, o68, z68, s68⟩
      rw [dM] at s68
      replace F : frE (caE c) M _ := fe_tr F (fe_le f68 (fun q j h => Or.inl (wE_C (by (try dsimp only at h); omega))))
      have hx68 : dsm (dc M c) f.toNat = x68 := by have h9 := congrArg List.length s68; rw [stkB_len] at h9; have h10 := opn_len hBL.1 f.toNat (by omega); omega
      refine at_istore dx_137_69 ?_
      refine at_const (x := 0) dx_137_70 rfl ?_
      refine at_istore dx_137_71 ?_
      have hkf9 : (k + 1).toNat = f.toNat := by omega
      have hkf8 : k + 1 = f := by omega
      rw [hkf8] at hd
      subst hx68
      exact l2 _ 0 _ 0 _ (by decide) rd r68 (by decide) (by omega) (by omega) rfl rfl s68 (by rw [Int.add_zero, seg_nil]; unfold crow; exact seg_nil) hc hft F
    · skip
      refine at_aload dx_137_43 rfl ?_
      refine at_iload dx_137_44 rfl ?_
      refine at_iload dx_137_45 rfl ?_
      refine at_callVI dx_137_46 rfl lc_856 rfl (m_tokenOf rc rk (by omega) (by omega)) ?_
      rintro x46 M9 r46 ⟨e9, h46⟩; replace e9 := e9.symm; subst e9
      refine at_istore dx_137_47 ?_
      refine at_iload dx_137_48 rfl ?_
      refine at_iload dx_137_49 rfl ?_
      refine at_zneR dx_137_50 r46 (fun c50 => ?_) (fun c50 => ?_)
      · skip
        refine at_iload dx_137_53 rfl ?_
        refine at_callSI dx_137_54 rfl rfl (m_opens r46) ?_
        rintro x54 M9 r54 ⟨e9, h54⟩; replace e9 := e9.symm; subst e9; replace h54 := ite01 h54
        refine at_zeqR dx_137_55 r54 (fun c55 => ?_) (fun c55 => ?_)
        · skip
          refine at_const (x := 0) dx_137_60 rfl ?_
          refine at_addR dx_137_61 (by (constructor <;> omega)) (fun r61 => ?_)
          refine at_istore dx_137_62 ?_
          refine at_iincR (y := -1) dx_137_63 rfl rfl (by (constructor <;> omega)) (fun r63 => ?_)
          refine at_goto dx_137_64 ?_
          refine at_wk (ls := [vr 856, vi _, vi _, vi _, vi _, vi _, vi _, vi _]) ⟨Or.inl rfl, Or.inl rfl, Or.inl rfl, Or.inl rfl, Or.inl rfl, Or.inl rfl, Or.inl rfl, Or.inl rfl, trivial⟩ ?_
          have e6 := gt 859 (60 * c + k) (Or.inl rfl)
          have hat := hat_of (M := M) (c := c) hs6.1 k
          have hak : atL (dc M c) k = M1 859 (60 * c + k) := by rw [e6]; omega
          have hq := hnx (by omega)
          have hq2 := hmc (by omega)
          have ek : k + -1 + 1 = k := by omega
          first
          | (exfalso; omega)
          | (have hz : dch (atL (dc M c) k) = 1 := by rw [hak]; unfold dch; rw [if_neg (by omega), if_pos (by omega)]
             exact ih _ (by omega) _ _ _ r61 r63 (by omega) (by rw [ek]; omega) rfl hc hft F)
          | (have hz : dch (atL (dc M c) k) = -1 := by rw [hak]; unfold dch; rw [if_pos (by omega)]
             exact ih _ (by omega) _ _ _ r61 r63 (by omega) (by rw [ek]; omega) rfl hc hft F)
          | (have hz : dch (atL (dc M c) k) = 0 := by rw [hak]; unfold dch; rw [if_neg (by omega), if_neg (by omega)]
             exact ih _ (by omega) _ _ _ r61 r63 (by omega) (by rw [ek]; omega) rfl hc hft F)
        · skip
          refine at_iload dx_137_56 rfl ?_
          refine at_zleR dx_137_57 rd (fun c57 => ?_) (fun c57 => ?_)
          · skip
            refine at_const (x := 0) dx_137_60 rfl ?_
            refine at_addR dx_137_61 (by (constructor <;> omega)) (fun r61 => ?_)
            refine at_istore dx_137_62 ?_
            refine at_iincR (y := -1) dx_137_63 rfl rfl (by (constructor <;> omega)) (fun r63 => ?_)
            refine at_goto dx_137_64 ?_
            refine at_wk (ls := [vr 856, vi _, vi _, vi _, vi _, vi _, vi _, vi _]) ⟨Or.inl rfl, Or.inl rfl, Or.inl rfl, Or.inl rfl, Or.inl rfl, Or.inl rfl, Or.inl rfl, Or.inl rfl, trivial⟩ ?_
            have e6 := gt 859 (60 * c + k) (Or.inl rfl)
            have hat := hat_of (M := M) (c := c) hs6.1 k
            have hak : atL (dc M c) k = M1 859 (60 * c + k) := by rw [e6]; omega
            have hq := hnx (by omega)
            have hq2 := hmc (by omega)
            have ek : k + -1 + 1 = k := by omega
            first
            | (exfalso; omega)
            | (have hz : dch (atL (dc M c) k) = 1 := by rw [hak]; unfold dch; rw [if_neg (by omega), if_pos (by omega)]
               exact ih _ (by omega) _ _ _ r61 r63 (by omega) (by rw [ek]; omega) rfl hc hft F)
            | (have hz : dch (atL (dc M c) k) = -1 := by rw [hak]; unfold dch; rw [if_pos (by omega)]
               exact ih _ (by omega) _ _ _ r61 r63 (by omega) (by rw [ek]; omega) rfl hc hft F)
            | (have hz : dch (atL (dc M c) k) = 0 := by rw [hak]; unfold dch; rw [if_neg (by omega), if_neg (by omega)]
               exact ih _ (by omega) _ _ _ r61 r63 (by omega) (by rw [ek]; omega) rfl hc hft F)
          · skip
            refine at_const (x := -1) dx_137_58 rfl ?_
            refine at_goto dx_137_59 ?_
            refine at_addR dx_137_61 (by (constructor <;> omega)) (fun r61 => ?_)
            refine at_istore dx_137_62 ?_
            refine at_iincR (y := -1) dx_137_63 rfl rfl (by (constructor <;> omega)) (fun r63 => ?_)
            refine at_goto dx_137_64 ?_
            refine at_wk (ls := [vr 856, vi _, vi _, vi _, vi _, vi _, vi _, vi _]) ⟨Or.inl rfl, Or.inl rfl, Or.inl rfl, Or.inl rfl, Or.inl rfl, Or.inl rfl, Or.inl rfl, Or.inl rfl, trivial⟩ ?_
            have e6 := gt 859 (60 * c + k) (Or.inl rfl)
            have hat := hat_of (M := M) (c := c) hs6.1 k
            have hak : atL (dc M c) k = M1 859 (60 * c + k) := by rw [e6]; omega
            have hq := hnx (by omega)
            have hq2 := hmc (by omega)
            have ek : k + -1 + 1 = k := by omega
            first
            | (exfalso; omega)
            | (have hz : dch (atL (dc M c) k) = 1 := by rw [hak]; unfold dch; rw [if_neg (by omega), if_pos (by omega)]
               exact ih _ (by omega) _ _ _ r61 r63 (by omega) (by rw [ek]; omega) rfl hc hft F)
            | (have hz : dch (atL (dc M c) k) = -1 := by rw [hak]; unfold dch; rw [if_pos (by omega)]
               exact ih _ (by omega) _ _ _ r61 r63 (by omega) (by rw [ek]; omega) rfl hc hft F)
            | (have hz : dch (atL (dc M c) k) = 0 := by rw [hak]; unfold dch; rw [if_neg (by omega), if_neg (by omega)]
               exact ih _ (by omega) _ _ _ r61 r63 (by omega) (by rw [ek]; omega) rfl hc hft F)
      · skip
        refine at_const (x := 1) dx_137_51 rfl ?_
        refine at_goto dx_137_52 ?_
        refine at_addR dx_137_61 (by (constructor <;> omega)) (fun r61 => ?_)
        refine at_istore dx_137_62 ?_
        refine at_iincR (y := -1) dx_137_63 rfl rfl (by (constructor <;> omega)) (fun r63 => ?_)
        refine at_goto dx_137_64 ?_
        refine at_wk (ls := [vr 856, vi _, vi _, vi _, vi _, vi _, vi _, vi _]) ⟨Or.inl rfl, Or.inl rfl, Or.inl rfl, Or.inl rfl, Or.inl rfl, Or.inl rfl, Or.inl rfl, Or.inl rfl, trivial⟩ ?_
        have e6 := gt 859 (60 * c + k) (Or.inl rfl)
        have hat := hat_of (M := M) (c := c) hs6.1 k
        have hak : atL (dc M c) k = M1 859 (60 * c + k) := by rw [e6]; omega
        have hq := hnx (by omega)
        have hq2 := hmc (by omega)
        have ek : k + -1 + 1 = k := by omega
        first
        | (exfalso; omega)
        | (have hz : dch (atL (dc M c) k) = 1 := by rw [hak]; unfold dch; rw [if_neg (by omega), if_pos (by omega)]
           exact ih _ (by omega) _ _ _ r61 r63 (by omega) (by rw [ek]; omega) rfl hc hft F)
        | (have hz : dch (atL (dc M c) k) = -1 := by rw [hak]; unfold dch; rw [if_pos (by omega)]
           exact ih _ (by omega) _ _ _ r61 r63 (by omega) (by rw [ek]; omega) rfl hc hft F)
        | (have hz : dch (atL (dc M c) k) = 0 := by rw [hak]; unfold dch; rw [if_neg (by omega), if_neg (by omega)]
           exact ih _ (by omega) _ _ _ r61 r63 (by omega) (by rw [ek]; omega) rfl hc hft F)
  refine at_iload dx_137_0 rfl ?_
  refine at_callSI dx_137_1 rfl rfl (m_isClient rc) ?_
  rintro x1 M9 r1 ⟨e9, h1⟩; replace e9 := e9.symm; subst e9; replace h1 := ite01 h1
  refine at_zeqR dx_137_2 r1 (fun c2 => ?_) (fun c2 => ?_)
  · skip
    refine at_const (x := 0) dx_137_15 rfl ?_
    refine at_istore dx_137_16 ?_
    refine at_aload dx_137_17 rfl ?_
    refine at_iload dx_137_18 rfl ?_
    refine at_zneR dx_137_19 (by decide) (fun c => absurd c (by decide)) (fun _ => ?_)
    refine at_const (x := 1) dx_137_20 rfl ?_
    refine at_goto dx_137_21 ?_
    refine at_callVI dx_137_28 rfl lc_856 rfl (m_fails2 (by decide)) ?_
    rintro x28 M28 r28 ⟨f28, h28⟩; replace h28 := ite01 h28
    replace F : frE wE M _ := fe_tr F (fe_le f28 (fun q j h => by obtain ⟨rfl, rfl⟩ := h; exact wE_31))
    obtain rfl : x28 = 1 := by omega
    refine at_zeqR dx_137_29 (by decide) (fun c => absurd c (by decide)) (fun _ => ?_)
    refine at_const (x := 0) dx_137_30 rfl ?_
    refine at_iretI dx_137_31 (by decide) ?_
    exact Or.inr ⟨by omega, MI_wE hM F, F⟩
  · skip
    refine at_aload dx_137_3 rfl ?_
    refine at_iload dx_137_4 rfl ?_
    refine at_iload dx_137_5 rfl ?_
    refine at_callVI dx_137_6 rfl lc_856 rfl (m_isPlace rc rf) ?_
    rintro x6 M9 r6 ⟨e9, h6⟩; replace e9 := e9.symm; subst e9; replace h6 := ite01 h6
    refine at_zeqR dx_137_7 r6 (fun c7 => ?_) (fun c7 => ?_)
    · skip
      refine at_const (x := 0) dx_137_15 rfl ?_
      refine at_istore dx_137_16 ?_
      refine at_aload dx_137_17 rfl ?_
      refine at_iload dx_137_18 rfl ?_
      refine at_zneR dx_137_19 (by decide) (fun c => absurd c (by decide)) (fun _ => ?_)
      refine at_const (x := 1) dx_137_20 rfl ?_
      refine at_goto dx_137_21 ?_
      refine at_callVI dx_137_28 rfl lc_856 rfl (m_fails2 (by decide)) ?_
      rintro x28 M28 r28 ⟨f28, h28⟩; replace h28 := ite01 h28
      replace F : frE wE M _ := fe_tr F (fe_le f28 (fun q j h => by obtain ⟨rfl, rfl⟩ := h; exact wE_31))
      obtain rfl : x28 = 1 := by omega
      refine at_zeqR dx_137_29 (by decide) (fun c => absurd c (by decide)) (fun _ => ?_)
      refine at_const (x := 0) dx_137_30 rfl ?_
      refine at_iretI dx_137_31 (by decide) ?_
      exact Or.inr ⟨by omega, MI_wE hM F, F⟩
    · skip
      refine at_aload dx_137_8 rfl ?_
      refine at_iload dx_137_9 rfl ?_
      refine at_iload dx_137_10 rfl ?_
      refine at_callVI dx_137_11 rfl lc_856 rfl (m_isPlace rc rt) ?_
      rintro x11 M9 r11 ⟨e9, h11⟩; replace e9 := e9.symm; subst e9; replace h11 := ite01 h11
      refine at_zeqR dx_137_12 r11 (fun c12 => ?_) (fun c12 => ?_)
      · skip
        refine at_const (x := 0) dx_137_15 rfl ?_
        refine at_istore dx_137_16 ?_
        refine at_aload dx_137_17 rfl ?_
        refine at_iload dx_137_18 rfl ?_
        refine at_zneR dx_137_19 (by decide) (fun c => absurd c (by decide)) (fun _ => ?_)
        refine at_const (x := 1) dx_137_20 rfl ?_
        refine at_goto dx_137_21 ?_
        refine at_callVI dx_137_28 rfl lc_856 rfl (m_fails2 (by decide)) ?_
        rintro x28 M28 r28 ⟨f28, h28⟩; replace h28 := ite01 h28
        replace F : frE wE M _ := fe_tr F (fe_le f28 (fun q j h => by obtain ⟨rfl, rfl⟩ := h; exact wE_31))
        obtain rfl : x28 = 1 := by omega
        refine at_zeqR dx_137_29 (by decide) (fun c => absurd c (by decide)) (fun _ => ?_)
        refine at_const (x := 0) dx_137_30 rfl ?_
        refine at_iretI dx_137_31 (by decide) ?_
        exact Or.inr ⟨by omega, MI_wE hM F, F⟩
      · skip
        refine at_const (x := 1) dx_137_13 rfl ?_
        refine at_goto dx_137_14 ?_
        refine at_istore dx_137_16 ?_
        refine at_aload dx_137_17 rfl ?_
        refine at_iload dx_137_18 rfl ?_
        refine at_zneR dx_137_19 (by decide) (fun _ => ?_) (fun c => absurd c (by decide))
        refine at_iload dx_137_22 rfl ?_
        refine at_iload dx_137_23 rfl ?_
        refine at_cleR dx_137_24 rt rf (fun c24 => ?_) (fun c24 => ?_)
        · skip
          refine at_const (x := 2) dx_137_27 rfl ?_
          refine at_callVI dx_137_28 rfl lc_856 rfl (m_fails2 (by decide)) ?_
          rintro x28 M28 r28 ⟨f28, h28⟩; replace h28 := ite01 h28
          replace F : frE wE M _ := fe_tr F (fe_le f28 (fun q j h => by obtain ⟨rfl, rfl⟩ := h; exact wE_31))
          obtain rfl : x28 = 1 := by omega
          refine at_zeqR dx_137_29 (by decide) (fun c => absurd c (by decide)) (fun _ => ?_)
          refine at_const (x := 0) dx_137_30 rfl ?_
          refine at_iretI dx_137_31 (by decide) ?_
          exact Or.inr ⟨by omega, MI_wE hM F, F⟩
        · skip
          refine at_const (x := 0) dx_137_25 rfl ?_
          refine at_goto dx_137_26 ?_
          refine at_callVI dx_137_28 rfl lc_856 rfl (m_fails2 (by decide)) ?_
          rintro x28 M28 r28 ⟨f28, h28⟩; replace h28 := ite01 h28
          replace F : frE wE M _ := fe_tr F (fe_le f28 (fun q j h => by obtain ⟨rfl, rfl⟩ := h; exact wE_31))
          obtain rfl : x28 = 0 := by omega
          refine at_zeqR dx_137_29 (by decide) (fun _ => ?_) (fun c => absurd c (by decide))
          refine at_const (x := 0) dx_137_32 rfl ?_
          refine at_istore dx_137_33 ?_
          refine at_const (x := 0) dx_137_34 rfl ?_
          refine at_istore dx_137_35 ?_
          refine at_iload dx_137_36 rfl ?_
          refine at_const (x := 1) dx_137_37 rfl ?_
          refine at_subR dx_137_38 (by (constructor <;> omega)) (fun r38 => ?_)
          refine at_istore dx_137_39 ?_
          exact l1 _ 0 _ _ (by decide) r38 (by omega) (by rw [show t - 1 + 1 = t by omega, Int.sub_self]; show (0 : Int) = dsm (dc M c) t.toNat - dsm (dc M c) t.toNat; omega) rfl (by omega) (by omega) (fe_le F (fun q j h => Or.inl h))
