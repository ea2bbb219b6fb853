/-! ===== the law's loop ===== -/
section LW
variable {X : scr} {w m i q a b c n : Nat} {ls r : List (sx_V Int)} {st : List (sx_V Int)} {M : mem} {Q : Nat → sx_V Int → mem → Prop} {x y : Int} {k : Nat}
noncomputable def sI (X : scr) (j : Int) : Int := (X.2 j.toNat).toInt
theorem sI_R (X : scr) (j : Int) : inR (sI X j) := inR_of _
theorem At.up (A : At X w m i ls st M Q) : At X (w + 1) m i ls st M Q := fun lx h hl hM => by
  obtain ⟨n0, out, c1, M1, c2, c3, c4, c5⟩ := A lx h hl hM
  exact ⟨n0, out, c1, M1, c2, by omega, by omega, c5⟩
theorem at_alens (hd : cdx m i = (24, (a, b))) (hL : X.1 ≤ 3072) (K : At X w m (i + 1) ls (vi (X.1 : Int) :: st) M Q) : At X w m i ls (vs :: st) M Q := fun lx h hl hM =>
  ou_next hd (by decide) (fun call go c9 => by
    show go ((sx_cd m).drop (i + 1)) lx (vi (ii_k X.1) :: st) h = _
    have e2 : ii_k X.1 = (X.1 : Int) := by
      unfold ii_k
      rw [Nat.ble_eq_true_of_le (show X.1 ≤ 2147483647 by omega)]
      rfl
    rw [e2]) rfl rfl (K lx h hl hM)
theorem at_alds (hd : cdx m i = (6, (0, b))) (hL : X.1 ≤ 3072) (h0 : 0 ≤ x) (h1 : x < (X.1 : Int)) (K : At X w m (i + 1) ls (vi (sI X x) :: st) M Q) : At X w m i ls (vi x :: vs :: st) M Q := fun lx h hl hM =>
  ou_next hd (by decide) (fun call go c9 => by
    have e1 : sx_ix (oI X) x X.1 = some x.toNat := wr_ix h0 h1 (by omega)
    show cond (Nat.beq 0 0) (match sx_ix (oI X) x X.1 with
      | some j => go ((sx_cd m).drop (i + 1)) lx (vi ((X.2 j).toInt) :: st) h
      | none => none) none = _
    rw [e1]
    rfl) rfl rfl (K lx h hl hM)
theorem at_callN1 {as : List (sx_V Int)} {r : List (sx_V Int)} {P : Int → mem → Prop} (hd : cdx m i = (43, (a, b))) (hp : sx_pop (Nat.mod b 16) [] st = some (as, r)) (hs : (Nat.ble (sx_sw r) 8 && sx_n2 as) = true) (C : At X 1 a 0 as [] M (qI P)) (K : ∀ x M', inR x → P x M' → At X w m (i + 1) ls (vi x :: r) M' Q) : At X (w + 1) m i ls st M Q := fun lx h hl hM => by
  obtain ⟨x, e1, h41, rfl, rfl⟩ := cdx_ok hd (by decide)
  obtain ⟨n0, out, c1, M1, c2, c3, c4, c5⟩ := C (sx_args 0 as) h (lsR_entry (sx_a2 hs).2) hM
  obtain ⟨⟨t, v⟩, h'⟩ := out
  obtain ⟨ht, y, hv, hr, hP⟩ := c5
  have ht : t = 1 := ht
  have hv : v = vi y := hv
  subst ht
  subst hv
  have hcall : ∀ n, n0 ≤ n → sx_ca sx_cd (sx_run sx_cd (oI X) n) (sx_xa x) as h = some ((1, vi y), h') := c1
  obtain ⟨n1, out, k1, M2, k2, k3, k4, k5⟩ := K y M1 hr hP lx h' hl c2
  refine ⟨max n0 n1 + 1, out, fun n hn => ?_, M2, k2, ?_, ?_, k5⟩
  · obtain ⟨n, rfl⟩ : ∃ n', n = n' + 1 := ⟨n - 1, by omega⟩
    rw [e1, run_row, h41]
    show sh_callN (sx_ca sx_cd (sx_run sx_cd (oI X) n)) _ (sx_xa x) (sx_xb x) _ lx st h = _
    unfold sh_callN
    simp only [hp, hs, cond_true, hcall n (by omega)]
    exact k1 n (by omega)
  · have c3' : h'.2.2.1 ≤ h.2.2.1 + 1 := c3
    omega
  · have c4' : h'.2.2.2.1 ≤ h.2.2.2.1 + 6 * 1 := c4
    omega
noncomputable def swt (m i n : Nat) : Nat := match (sx_cd m)[i]? with
  | some x => Nat.mod (Nat.div (sx_xc x) (2048 ^ n)) 2048
  | none => 0
theorem at_switch {n : Nat} (hd : cdx m i = (37, (a, b))) (hx : x = (n : Int)) (hn : n < 2147483648) (K1 : n < a → At X w m (swt m i n) ls st M Q) (K2 : a ≤ n → At X w m b ls st M Q) : At X w m i ls (vi x :: st) M Q := fun lx h hl hM => by
  have hv : ii_val x = some n := ii_val_of (by rw [wr_eq (by omega) (by omega)]; exact hx)
  unfold cdx at hd
  split at hd
  · next y hy =>
    have q1 : sx_xq y = 37 := congrArg Prod.fst hd
    have q2 : sx_xa y = a := congrArg (fun z => z.2.1) hd
    have q3 : sx_xb y = b := congrArg (fun z => z.2.2) hd
    obtain ⟨g1, g2⟩ := List.getElem?_eq_some_iff.mp hy
    have e1 : (sx_cd m).drop i = y :: (sx_cd m).drop (i + 1) := by rw [← g2]; exact List.drop_eq_getElem_cons g1
    have hrow : ∀ n', sx_run sx_cd (oI X) (n' + 1) (sx_cd m) ((sx_cd m).drop i) lx (vi x :: st) h = cond (Nat.ble (n + 1) a) (sx_run sx_cd (oI X) n' (sx_cd m) ((sx_cd m).drop (Nat.mod (Nat.div (sx_xc y) (2048 ^ n)) 2048)) lx st h) (cond (Nat.ble (n + 1) 2147483648) (sx_run sx_cd (oI X) n' (sx_cd m) ((sx_cd m).drop b) lx st h) none) := fun n' => by
      rw [e1, run_row, q1, q2, q3]
      show (match ii_val x with
        | some n => cond (Nat.ble (n + 1) a) (sx_run sx_cd (oI X) n' (sx_cd m) ((sx_cd m).drop (Nat.mod (Nat.div (sx_xc y) (2048 ^ n)) 2048)) lx st h) (cond (Nat.ble (n + 1) 2147483648) (sx_run sx_cd (oI X) n' (sx_cd m) ((sx_cd m).drop b) lx st h) none)
        | none => none) = _
      rw [hv]
    have hsw : swt m i n = Nat.mod (Nat.div (sx_xc y) (2048 ^ n)) 2048 := by
      unfold swt
      rw [hy]
    by_cases hna : n < a
    · obtain ⟨n0, out, k1, k2⟩ := K1 hna lx h hl hM
      refine ⟨n0 + 1, out, fun n' hn' => ?_, k2⟩
      obtain ⟨n', rfl⟩ : ∃ n2, n' = n2 + 1 := ⟨n' - 1, by omega⟩
      rw [hrow, Nat.ble_eq_true_of_le (show n + 1 ≤ a by omega), cond_true, ← hsw]
      exact k1 n' (by omega)
    · obtain ⟨n0, out, k1, k2⟩ := K2 (by omega) lx h hl hM
      refine ⟨n0 + 1, out, fun n' hn' => ?_, k2⟩
      obtain ⟨n', rfl⟩ : ∃ n2, n' = n2 + 1 := ⟨n' - 1, by omega⟩
      have hb : Nat.ble (n + 1) a = false := by
        cases hq : Nat.ble (n + 1) a with
        | false => rfl
        | true => have := Nat.le_of_ble_eq_true hq; omega
      rw [hrow, hb, cond_false, Nat.ble_eq_true_of_le (show n + 1 ≤ 2147483648 by omega), cond_true]
      exact k1 n' (by omega)
  · cases hd
theorem and31 (x : Int) : 0 ≤ ii_and x 31 ∧ ii_and x 31 ≤ 31 := by
  have e : (Int32.ofInt 31).toBitVec.toNat = 31 := by decide +kernel
  have h : (Int32.ofInt x &&& Int32.ofInt 31).toBitVec.toNat ≤ 31 := by
    show ((Int32.ofInt x).toBitVec &&& (Int32.ofInt 31).toBitVec).toNat ≤ 31
    rw [BitVec.toNat_and, e]
    exact Nat.and_le_right
  have h2 : (Int32.ofInt x &&& Int32.ofInt 31).toInt = ((Int32.ofInt x &&& Int32.ofInt 31).toBitVec.toNat : Int) := by
    show BitVec.toInt _ = _
    exact BitVec.toInt_eq_toNat_of_lt (by omega)
  unfold ii_and
  rw [h2]
  omega
end LW

set_option maxRecDepth 100000 in
set_option maxHeartbeats 4000000 in
theorem b_rule {X : scr} {w : Nat} {M : mem} {Q : Nat → sx_V Int → mem → Prop} {i : Int} (hL : X.1 ≤ 3072) (ri : inR i) (h0 : 0 ≤ i) (h6 : i + 6 ≤ X.1) (hR : R2 M M) (K : ∀ M', R2 M' M' → At X w 182 700 [vs, vr 0, vr 856, vr 883, vi i] [] M' Q) : At X (w + 1) 182 25 [vs, vr 0, vr 856, vr 883, vi i] [] M Q := by
  refine at_aload dx_182_25 rfl ?_
  refine at_aloads dx_182_26 rfl ?_
  refine at_iload dx_182_27 rfl ?_
  refine at_const (x := 1) dx_182_28 rfl ?_
  refine at_addR dx_182_29 (by constructor <;> omega) (fun r29 => ?_)
  refine at_alds dx_182_30 hL (by first | omega | (simp (disch := omega) only [um_eq, um_k, um_j]; omega)) (by first | omega | (simp (disch := omega) only [um_eq, um_k, um_j]; omega)) ?_
  refine at_aloads dx_182_31 rfl ?_
  refine at_iload dx_182_32 rfl ?_
  refine at_const (x := 2) dx_182_33 rfl ?_
  refine at_addR dx_182_34 (by constructor <;> omega) (fun r34 => ?_)
  refine at_alds dx_182_35 hL (by first | omega | (simp (disch := omega) only [um_eq, um_k, um_j]; omega)) (by first | omega | (simp (disch := omega) only [um_eq, um_k, um_j]; omega)) ?_
  refine at_aloads dx_182_36 rfl ?_
  refine at_iload dx_182_37 rfl ?_
  refine at_const (x := 3) dx_182_38 rfl ?_
  refine at_addR dx_182_39 (by constructor <;> omega) (fun r39 => ?_)
  refine at_alds dx_182_40 hL (by first | omega | (simp (disch := omega) only [um_eq, um_k, um_j]; omega)) (by first | omega | (simp (disch := omega) only [um_eq, um_k, um_j]; omega)) ?_
  refine at_aloads dx_182_41 rfl ?_
  refine at_iload dx_182_42 rfl ?_
  refine at_const (x := 4) dx_182_43 rfl ?_
  refine at_addR dx_182_44 (by constructor <;> omega) (fun r44 => ?_)
  refine at_alds dx_182_45 hL (by first | omega | (simp (disch := omega) only [um_eq, um_k, um_j]; omega)) (by first | omega | (simp (disch := omega) only [um_eq, um_k, um_j]; omega)) ?_
  refine at_callN1 dx_182_46 rfl rfl (l_rule (sI_R _ _) (sI_R _ _) (sI_R _ _) (sI_R _ _) hR) ?_
  rintro x46 M8 r46 h1
  have hm := R2_B hR (fr_le (RuC_lo h1) (fun q e => Or.inl e))
  refine at_istore dx_182_47 ?_
  refine at_aload dx_182_48 rfl ?_
  refine at_aloads dx_182_49 rfl ?_
  refine at_iload dx_182_50 rfl ?_
  refine at_const (x := 1) dx_182_51 rfl ?_
  refine at_addR dx_182_52 (by constructor <;> omega) (fun r52 => ?_)
  refine at_alds dx_182_53 hL (by first | omega | (simp (disch := omega) only [um_eq, um_k, um_j]; omega)) (by first | omega | (simp (disch := omega) only [um_eq, um_k, um_j]; omega)) ?_
  refine at_aloads dx_182_54 rfl ?_
  refine at_iload dx_182_55 rfl ?_
  refine at_const (x := 2) dx_182_56 rfl ?_
  refine at_addR dx_182_57 (by constructor <;> omega) (fun r57 => ?_)
  refine at_alds dx_182_58 hL (by first | omega | (simp (disch := omega) only [um_eq, um_k, um_j]; omega)) (by first | omega | (simp (disch := omega) only [um_eq, um_k, um_j]; omega)) ?_
  refine at_aloads dx_182_59 rfl ?_
  refine at_iload dx_182_60 rfl ?_
  refine at_const (x := 3) dx_182_61 rfl ?_
  refine at_addR dx_182_62 (by constructor <;> omega) (fun r62 => ?_)
  refine at_alds dx_182_63 hL (by first | omega | (simp (disch := omega) only [um_eq, um_k, um_j]; omega)) (by first | omega | (simp (disch := omega) only [um_eq, um_k, um_j]; omega)) ?_
  refine at_aloads dx_182_64 rfl ?_
  refine at_iload dx_182_65 rfl ?_
  refine at_const (x := 4) dx_182_66 rfl ?_
  refine at_addR dx_182_67 (by constructor <;> omega) (fun r67 => ?_)
  refine at_alds dx_182_68 hL (by first | omega | (simp (disch := omega) only [um_eq, um_k, um_j]; omega)) (by first | omega | (simp (disch := omega) only [um_eq, um_k, um_j]; omega)) ?_
  refine at_callVV dx_182_69 rfl lc_856 rfl (y_rule (sI_R _ _) (sI_R _ _) (sI_R _ _) (sI_R _ _) hm.2.1.1 hm.2.1.2.1) ?_
  rintro M9 h2
  obtain ⟨hF, hk⟩ := R2_rule hm h1 h2
  refine at_aload dx_182_70 rfl ?_
  refine at_callVI dx_182_71 rfl lc_856 rfl (m_thrown) ?_
  rintro x71 M7 r71 ⟨e7, h7⟩; replace e7 := e7.symm; subst e7
  refine at_iload dx_182_72 rfl ?_
  refine at_ceqR dx_182_73 r71 r46 (fun c73 => ?_) (fun c73 => ?_)
  rotate_left
  · exfalso; exact c73 (h7.trans hk)
  · skip
    refine at_goto dx_182_76 ?_
    refine at_wk (ls := [vs, vr 0, vr 856, vr 883, vi i]) ⟨Or.inl rfl, Or.inl rfl, Or.inl rfl, Or.inl rfl, Or.inl rfl, trivial⟩ ?_
    exact K _ (R2_A hF (RuM_hi h2))

set_option maxRecDepth 100000 in
set_option maxHeartbeats 4000000 in
theorem b_type {X : scr} {w : Nat} {M : mem} {Q : Nat → sx_V Int → mem → Prop} {i : Int} (hL : X.1 ≤ 3072) (ri : inR i) (h0 : 0 ≤ i) (h6 : i + 6 ≤ X.1) (hR : R2 M M) (K : ∀ M', R2 M' M' → At X w 182 700 [vs, vr 0, vr 856, vr 883, vi i] [] M' Q) : At X (w + 1) 182 77 [vs, vr 0, vr 856, vr 883, vi i] [] M Q := by
  refine at_aload dx_182_77 rfl ?_
  refine at_aloads dx_182_78 rfl ?_
  refine at_iload dx_182_79 rfl ?_
  refine at_const (x := 1) dx_182_80 rfl ?_
  refine at_addR dx_182_81 (by constructor <;> omega) (fun r81 => ?_)
  refine at_alds dx_182_82 hL (by first | omega | (simp (disch := omega) only [um_eq, um_k, um_j]; omega)) (by first | omega | (simp (disch := omega) only [um_eq, um_k, um_j]; omega)) ?_
  refine at_aloads dx_182_83 rfl ?_
  refine at_iload dx_182_84 rfl ?_
  refine at_const (x := 2) dx_182_85 rfl ?_
  refine at_addR dx_182_86 (by constructor <;> omega) (fun r86 => ?_)
  refine at_alds dx_182_87 hL (by first | omega | (simp (disch := omega) only [um_eq, um_k, um_j]; omega)) (by first | omega | (simp (disch := omega) only [um_eq, um_k, um_j]; omega)) ?_
  refine at_aloads dx_182_88 rfl ?_
  refine at_iload dx_182_89 rfl ?_
  refine at_const (x := 3) dx_182_90 rfl ?_
  refine at_addR dx_182_91 (by constructor <;> omega) (fun r91 => ?_)
  refine at_alds dx_182_92 hL (by first | omega | (simp (disch := omega) only [um_eq, um_k, um_j]; omega)) (by first | omega | (simp (disch := omega) only [um_eq, um_k, um_j]; omega)) ?_
  refine at_aload dx_182_93 rfl ?_
  refine at_callN1 dx_182_94 rfl rfl (l_type (sI_R _ _) (sI_R _ _) (sI_R _ _) hR) ?_
  rintro x94 M8 r94 ⟨M1, h1, f1⟩
  have hm := R2_mid hR (OC_lo h1) f1
  refine at_rng (fun hr8 => ?_)
  refine at_istore dx_182_95 ?_
  refine at_aload dx_182_96 rfl ?_
  refine at_aloads dx_182_97 rfl ?_
  refine at_iload dx_182_98 rfl ?_
  refine at_const (x := 1) dx_182_99 rfl ?_
  refine at_addR dx_182_100 (by constructor <;> omega) (fun r100 => ?_)
  refine at_alds dx_182_101 hL (by first | omega | (simp (disch := omega) only [um_eq, um_k, um_j]; omega)) (by first | omega | (simp (disch := omega) only [um_eq, um_k, um_j]; omega)) ?_
  refine at_aloads dx_182_102 rfl ?_
  refine at_iload dx_182_103 rfl ?_
  refine at_const (x := 2) dx_182_104 rfl ?_
  refine at_addR dx_182_105 (by constructor <;> omega) (fun r105 => ?_)
  refine at_alds dx_182_106 hL (by first | omega | (simp (disch := omega) only [um_eq, um_k, um_j]; omega)) (by first | omega | (simp (disch := omega) only [um_eq, um_k, um_j]; omega)) ?_
  refine at_aloads dx_182_107 rfl ?_
  refine at_iload dx_182_108 rfl ?_
  refine at_const (x := 3) dx_182_109 rfl ?_
  refine at_addR dx_182_110 (by constructor <;> omega) (fun r110 => ?_)
  refine at_alds dx_182_111 hL (by first | omega | (simp (disch := omega) only [um_eq, um_k, um_j]; omega)) (by first | omega | (simp (disch := omega) only [um_eq, um_k, um_j]; omega)) ?_
  refine at_callVI dx_182_112 rfl lc_856 rfl (y_type (sI_R _ _) (sI_R _ _) (sI_R _ _) hm.2.1.1 hm.2.1.2.1) ?_
  rintro x112 M9 r112 h2
  refine at_istore dx_182_113 ?_
  refine at_goto dx_182_114 ?_
  refine at_wk (ls := [vs, vr 0, vr 856, vr 883, vi i]) ⟨Or.inl rfl, Or.inl rfl, Or.inl rfl, Or.inl rfl, Or.inl rfl, trivial⟩ ?_
  exact K _ (R2_fin (R2_edit hm ok_type (rng_lo hr8 f1) h1 h2) f1 (KM_hi (KM_OM h2)))

set_option maxRecDepth 100000 in
set_option maxHeartbeats 4000000 in
theorem b_erase {X : scr} {w : Nat} {M : mem} {Q : Nat → sx_V Int → mem → Prop} {i : Int} (hL : X.1 ≤ 3072) (ri : inR i) (h0 : 0 ≤ i) (h6 : i + 6 ≤ X.1) (hR : R2 M M) (K : ∀ M', R2 M' M' → At X w 182 700 [vs, vr 0, vr 856, vr 883, vi i] [] M' Q) : At X (w + 1) 182 115 [vs, vr 0, vr 856, vr 883, vi i] [] M Q := by
  refine at_aload dx_182_115 rfl ?_
  refine at_aloads dx_182_116 rfl ?_
  refine at_iload dx_182_117 rfl ?_
  refine at_const (x := 1) dx_182_118 rfl ?_
  refine at_addR dx_182_119 (by constructor <;> omega) (fun r119 => ?_)
  refine at_alds dx_182_120 hL (by first | omega | (simp (disch := omega) only [um_eq, um_k, um_j]; omega)) (by first | omega | (simp (disch := omega) only [um_eq, um_k, um_j]; omega)) ?_
  refine at_aloads dx_182_121 rfl ?_
  refine at_iload dx_182_122 rfl ?_
  refine at_const (x := 2) dx_182_123 rfl ?_
  refine at_addR dx_182_124 (by constructor <;> omega) (fun r124 => ?_)
  refine at_alds dx_182_125 hL (by first | omega | (simp (disch := omega) only [um_eq, um_k, um_j]; omega)) (by first | omega | (simp (disch := omega) only [um_eq, um_k, um_j]; omega)) ?_
  refine at_aloads dx_182_126 rfl ?_
  refine at_iload dx_182_127 rfl ?_
  refine at_const (x := 3) dx_182_128 rfl ?_
  refine at_addR dx_182_129 (by constructor <;> omega) (fun r129 => ?_)
  refine at_alds dx_182_130 hL (by first | omega | (simp (disch := omega) only [um_eq, um_k, um_j]; omega)) (by first | omega | (simp (disch := omega) only [um_eq, um_k, um_j]; omega)) ?_
  refine at_aload dx_182_131 rfl ?_
  refine at_callN1 dx_182_132 rfl rfl (l_erase (sI_R _ _) (sI_R _ _) (sI_R _ _) hR) ?_
  rintro x132 M8 r132 ⟨M1, h1, f1⟩
  have hm := R2_mid hR (OC_lo h1) f1
  refine at_rng (fun hr8 => ?_)
  refine at_istore dx_182_133 ?_
  refine at_aload dx_182_134 rfl ?_
  refine at_aloads dx_182_135 rfl ?_
  refine at_iload dx_182_136 rfl ?_
  refine at_const (x := 1) dx_182_137 rfl ?_
  refine at_addR dx_182_138 (by constructor <;> omega) (fun r138 => ?_)
  refine at_alds dx_182_139 hL (by first | omega | (simp (disch := omega) only [um_eq, um_k, um_j]; omega)) (by first | omega | (simp (disch := omega) only [um_eq, um_k, um_j]; omega)) ?_
  refine at_aloads dx_182_140 rfl ?_
  refine at_iload dx_182_141 rfl ?_
  refine at_const (x := 2) dx_182_142 rfl ?_
  refine at_addR dx_182_143 (by constructor <;> omega) (fun r143 => ?_)
  refine at_alds dx_182_144 hL (by first | omega | (simp (disch := omega) only [um_eq, um_k, um_j]; omega)) (by first | omega | (simp (disch := omega) only [um_eq, um_k, um_j]; omega)) ?_
  refine at_aloads dx_182_145 rfl ?_
  refine at_iload dx_182_146 rfl ?_
  refine at_const (x := 3) dx_182_147 rfl ?_
  refine at_addR dx_182_148 (by constructor <;> omega) (fun r148 => ?_)
  refine at_alds dx_182_149 hL (by first | omega | (simp (disch := omega) only [um_eq, um_k, um_j]; omega)) (by first | omega | (simp (disch := omega) only [um_eq, um_k, um_j]; omega)) ?_
  refine at_callVI dx_182_150 rfl lc_856 rfl (y_erase (sI_R _ _) (sI_R _ _) (sI_R _ _) hm.2.1.1 hm.2.1.2.1) ?_
  rintro x150 M9 r150 h2
  refine at_istore dx_182_151 ?_
  refine at_goto dx_182_152 ?_
  refine at_wk (ls := [vs, vr 0, vr 856, vr 883, vi i]) ⟨Or.inl rfl, Or.inl rfl, Or.inl rfl, Or.inl rfl, Or.inl rfl, trivial⟩ ?_
  exact K _ (R2_fin (R2_edit hm ok_erase (rng_lo hr8 f1) h1 h2) f1 (KM_hi (KM_OM h2)))

set_option maxRecDepth 100000 in
set_option maxHeartbeats 4000000 in
theorem b_split {X : scr} {w : Nat} {M : mem} {Q : Nat → sx_V Int → mem → Prop} {i : Int} (hL : X.1 ≤ 3072) (ri : inR i) (h0 : 0 ≤ i) (h6 : i + 6 ≤ X.1) (hR : R2 M M) (K : ∀ M', R2 M' M' → At X w 182 700 [vs, vr 0, vr 856, vr 883, vi i] [] M' Q) : At X (w + 1) 182 153 [vs, vr 0, vr 856, vr 883, vi i] [] M Q := by
  refine at_aload dx_182_153 rfl ?_
  refine at_aloads dx_182_154 rfl ?_
  refine at_iload dx_182_155 rfl ?_
  refine at_const (x := 1) dx_182_156 rfl ?_
  refine at_addR dx_182_157 (by constructor <;> omega) (fun r157 => ?_)
  refine at_alds dx_182_158 hL (by first | omega | (simp (disch := omega) only [um_eq, um_k, um_j]; omega)) (by first | omega | (simp (disch := omega) only [um_eq, um_k, um_j]; omega)) ?_
  refine at_aloads dx_182_159 rfl ?_
  refine at_iload dx_182_160 rfl ?_
  refine at_const (x := 2) dx_182_161 rfl ?_
  refine at_addR dx_182_162 (by constructor <;> omega) (fun r162 => ?_)
  refine at_alds dx_182_163 hL (by first | omega | (simp (disch := omega) only [um_eq, um_k, um_j]; omega)) (by first | omega | (simp (disch := omega) only [um_eq, um_k, um_j]; omega)) ?_
  refine at_aload dx_182_164 rfl ?_
  refine at_callN1 dx_182_165 rfl rfl (l_split (sI_R _ _) (sI_R _ _) hR) ?_
  rintro x165 M8 r165 ⟨M1, h1, f1⟩
  have hm := R2_mid hR (OC_lo h1) f1
  refine at_rng (fun hr8 => ?_)
  refine at_istore dx_182_166 ?_
  refine at_aload dx_182_167 rfl ?_
  refine at_aloads dx_182_168 rfl ?_
  refine at_iload dx_182_169 rfl ?_
  refine at_const (x := 1) dx_182_170 rfl ?_
  refine at_addR dx_182_171 (by constructor <;> omega) (fun r171 => ?_)
  refine at_alds dx_182_172 hL (by first | omega | (simp (disch := omega) only [um_eq, um_k, um_j]; omega)) (by first | omega | (simp (disch := omega) only [um_eq, um_k, um_j]; omega)) ?_
  refine at_aloads dx_182_173 rfl ?_
  refine at_iload dx_182_174 rfl ?_
  refine at_const (x := 2) dx_182_175 rfl ?_
  refine at_addR dx_182_176 (by constructor <;> omega) (fun r176 => ?_)
  refine at_alds dx_182_177 hL (by first | omega | (simp (disch := omega) only [um_eq, um_k, um_j]; omega)) (by first | omega | (simp (disch := omega) only [um_eq, um_k, um_j]; omega)) ?_
  refine at_callVI dx_182_178 rfl lc_856 rfl (y_split (sI_R _ _) (sI_R _ _) hm.2.1.1 hm.2.1.2.1) ?_
  rintro x178 M9 r178 h2
  refine at_istore dx_182_179 ?_
  refine at_goto dx_182_180 ?_
  refine at_wk (ls := [vs, vr 0, vr 856, vr 883, vi i]) ⟨Or.inl rfl, Or.inl rfl, Or.inl rfl, Or.inl rfl, Or.inl rfl, trivial⟩ ?_
  exact K _ (R2_fin (R2_edit hm ok_split (rng_lo hr8 f1) h1 h2) f1 (KM_hi (KM_OM h2)))

set_option maxRecDepth 100000 in
set_option maxHeartbeats 4000000 in
theorem b_join {X : scr} {w : Nat} {M : mem} {Q : Nat → sx_V Int → mem → Prop} {i : Int} (hL : X.1 ≤ 3072) (ri : inR i) (h0 : 0 ≤ i) (h6 : i + 6 ≤ X.1) (hR : R2 M M) (K : ∀ M', R2 M' M' → At X w 182 700 [vs, vr 0, vr 856, vr 883, vi i] [] M' Q) : At X (w + 1) 182 181 [vs, vr 0, vr 856, vr 883, vi i] [] M Q := by
  refine at_aload dx_182_181 rfl ?_
  refine at_aloads dx_182_182 rfl ?_
  refine at_iload dx_182_183 rfl ?_
  refine at_const (x := 1) dx_182_184 rfl ?_
  refine at_addR dx_182_185 (by constructor <;> omega) (fun r185 => ?_)
  refine at_alds dx_182_186 hL (by first | omega | (simp (disch := omega) only [um_eq, um_k, um_j]; omega)) (by first | omega | (simp (disch := omega) only [um_eq, um_k, um_j]; omega)) ?_
  refine at_aloads dx_182_187 rfl ?_
  refine at_iload dx_182_188 rfl ?_
  refine at_const (x := 2) dx_182_189 rfl ?_
  refine at_addR dx_182_190 (by constructor <;> omega) (fun r190 => ?_)
  refine at_alds dx_182_191 hL (by first | omega | (simp (disch := omega) only [um_eq, um_k, um_j]; omega)) (by first | omega | (simp (disch := omega) only [um_eq, um_k, um_j]; omega)) ?_
  refine at_aload dx_182_192 rfl ?_
  refine at_callN1 dx_182_193 rfl rfl (l_join (sI_R _ _) (sI_R _ _) hR) ?_
  rintro x193 M8 r193 ⟨M1, h1, f1⟩
  have hm := R2_mid hR (OC_lo h1) f1
  refine at_rng (fun hr8 => ?_)
  refine at_istore dx_182_194 ?_
  refine at_aload dx_182_195 rfl ?_
  refine at_aloads dx_182_196 rfl ?_
  refine at_iload dx_182_197 rfl ?_
  refine at_const (x := 1) dx_182_198 rfl ?_
  refine at_addR dx_182_199 (by constructor <;> omega) (fun r199 => ?_)
  refine at_alds dx_182_200 hL (by first | omega | (simp (disch := omega) only [um_eq, um_k, um_j]; omega)) (by first | omega | (simp (disch := omega) only [um_eq, um_k, um_j]; omega)) ?_
  refine at_aloads dx_182_201 rfl ?_
  refine at_iload dx_182_202 rfl ?_
  refine at_const (x := 2) dx_182_203 rfl ?_
  refine at_addR dx_182_204 (by constructor <;> omega) (fun r204 => ?_)
  refine at_alds dx_182_205 hL (by first | omega | (simp (disch := omega) only [um_eq, um_k, um_j]; omega)) (by first | omega | (simp (disch := omega) only [um_eq, um_k, um_j]; omega)) ?_
  refine at_callVI dx_182_206 rfl lc_856 rfl (y_join (sI_R _ _) (sI_R _ _) hm.2.1.1 hm.2.1.2.1) ?_
  rintro x206 M9 r206 h2
  refine at_istore dx_182_207 ?_
  refine at_goto dx_182_208 ?_
  refine at_wk (ls := [vs, vr 0, vr 856, vr 883, vi i]) ⟨Or.inl rfl, Or.inl rfl, Or.inl rfl, Or.inl rfl, Or.inl rfl, trivial⟩ ?_
  exact K _ (R2_fin (R2_edit hm ok_join (rng_lo hr8 f1) h1 h2) f1 (KM_hi (KM_OM h2)))

set_option maxRecDepth 100000 in
set_option maxHeartbeats 4000000 in
theorem b_wrap {X : scr} {w : Nat} {M : mem} {Q : Nat → sx_V Int → mem → Prop} {i : Int} (hL : X.1 ≤ 3072) (ri : inR i) (h0 : 0 ≤ i) (h6 : i + 6 ≤ X.1) (hR : R2 M M) (K : ∀ M', R2 M' M' → At X w 182 700 [vs, vr 0, vr 856, vr 883, vi i] [] M' Q) : At X (w + 1) 182 209 [vs, vr 0, vr 856, vr 883, vi i] [] M Q := by
  refine at_aload dx_182_209 rfl ?_
  refine at_aloads dx_182_210 rfl ?_
  refine at_iload dx_182_211 rfl ?_
  refine at_const (x := 1) dx_182_212 rfl ?_
  refine at_addR dx_182_213 (by constructor <;> omega) (fun r213 => ?_)
  refine at_alds dx_182_214 hL (by first | omega | (simp (disch := omega) only [um_eq, um_k, um_j]; omega)) (by first | omega | (simp (disch := omega) only [um_eq, um_k, um_j]; omega)) ?_
  refine at_aloads dx_182_215 rfl ?_
  refine at_iload dx_182_216 rfl ?_
  refine at_const (x := 2) dx_182_217 rfl ?_
  refine at_addR dx_182_218 (by constructor <;> omega) (fun r218 => ?_)
  refine at_alds dx_182_219 hL (by first | omega | (simp (disch := omega) only [um_eq, um_k, um_j]; omega)) (by first | omega | (simp (disch := omega) only [um_eq, um_k, um_j]; omega)) ?_
  refine at_aloads dx_182_220 rfl ?_
  refine at_iload dx_182_221 rfl ?_
  refine at_const (x := 3) dx_182_222 rfl ?_
  refine at_addR dx_182_223 (by constructor <;> omega) (fun r223 => ?_)
  refine at_alds dx_182_224 hL (by first | omega | (simp (disch := omega) only [um_eq, um_k, um_j]; omega)) (by first | omega | (simp (disch := omega) only [um_eq, um_k, um_j]; omega)) ?_
  refine at_aloads dx_182_225 rfl ?_
  refine at_iload dx_182_226 rfl ?_
  refine at_const (x := 4) dx_182_227 rfl ?_
  refine at_addR dx_182_228 (by constructor <;> omega) (fun r228 => ?_)
  refine at_alds dx_182_229 hL (by first | omega | (simp (disch := omega) only [um_eq, um_k, um_j]; omega)) (by first | omega | (simp (disch := omega) only [um_eq, um_k, um_j]; omega)) ?_
  refine at_aload dx_182_230 rfl ?_
  refine at_callN1 dx_182_231 rfl rfl (l_wrap (sI_R _ _) (sI_R _ _) (sI_R _ _) (sI_R _ _) hR) ?_
  rintro x231 M8 r231 ⟨M1, h1, f1⟩
  have hm := R2_mid hR (OC_lo h1) f1
  refine at_rng (fun hr8 => ?_)
  refine at_istore dx_182_232 ?_
  refine at_aload dx_182_233 rfl ?_
  refine at_aloads dx_182_234 rfl ?_
  refine at_iload dx_182_235 rfl ?_
  refine at_const (x := 1) dx_182_236 rfl ?_
  refine at_addR dx_182_237 (by constructor <;> omega) (fun r237 => ?_)
  refine at_alds dx_182_238 hL (by first | omega | (simp (disch := omega) only [um_eq, um_k, um_j]; omega)) (by first | omega | (simp (disch := omega) only [um_eq, um_k, um_j]; omega)) ?_
  refine at_aloads dx_182_239 rfl ?_
  refine at_iload dx_182_240 rfl ?_
  refine at_const (x := 2) dx_182_241 rfl ?_
  refine at_addR dx_182_242 (by constructor <;> omega) (fun r242 => ?_)
  refine at_alds dx_182_243 hL (by first | omega | (simp (disch := omega) only [um_eq, um_k, um_j]; omega)) (by first | omega | (simp (disch := omega) only [um_eq, um_k, um_j]; omega)) ?_
  refine at_aloads dx_182_244 rfl ?_
  refine at_iload dx_182_245 rfl ?_
  refine at_const (x := 3) dx_182_246 rfl ?_
  refine at_addR dx_182_247 (by constructor <;> omega) (fun r247 => ?_)
  refine at_alds dx_182_248 hL (by first | omega | (simp (disch := omega) only [um_eq, um_k, um_j]; omega)) (by first | omega | (simp (disch := omega) only [um_eq, um_k, um_j]; omega)) ?_
  refine at_aloads dx_182_249 rfl ?_
  refine at_iload dx_182_250 rfl ?_
  refine at_const (x := 4) dx_182_251 rfl ?_
  refine at_addR dx_182_252 (by constructor <;> omega) (fun r252 => ?_)
  refine at_alds dx_182_253 hL (by first | omega | (simp (disch := omega) only [um_eq, um_k, um_j]; omega)) (by first | omega | (simp (disch := omega) only [um_eq, um_k, um_j]; omega)) ?_
  refine at_callVI dx_182_254 rfl lc_856 rfl (y_wrap (sI_R _ _) (sI_R _ _) (sI_R _ _) (sI_R _ _) hm.2.1.1 hm.2.1.2.1) ?_
  rintro x254 M9 r254 h2
  refine at_istore dx_182_255 ?_
  refine at_goto dx_182_256 ?_
  refine at_wk (ls := [vs, vr 0, vr 856, vr 883, vi i]) ⟨Or.inl rfl, Or.inl rfl, Or.inl rfl, Or.inl rfl, Or.inl rfl, trivial⟩ ?_
  exact K _ (R2_fin (R2_edit hm ok_wrap (rng_lo hr8 f1) h1 h2) f1 (KM_hi (KM_OM h2)))

set_option maxRecDepth 100000 in
set_option maxHeartbeats 4000000 in
theorem b_unwrap {X : scr} {w : Nat} {M : mem} {Q : Nat → sx_V Int → mem → Prop} {i : Int} (hL : X.1 ≤ 3072) (ri : inR i) (h0 : 0 ≤ i) (h6 : i + 6 ≤ X.1) (hR : R2 M M) (K : ∀ M', R2 M' M' → At X w 182 700 [vs, vr 0, vr 856, vr 883, vi i] [] M' Q) : At X (w + 1) 182 257 [vs, vr 0, vr 856, vr 883, vi i] [] M Q := by
  refine at_aload dx_182_257 rfl ?_
  refine at_aloads dx_182_258 rfl ?_
  refine at_iload dx_182_259 rfl ?_
  refine at_const (x := 1) dx_182_260 rfl ?_
  refine at_addR dx_182_261 (by constructor <;> omega) (fun r261 => ?_)
  refine at_alds dx_182_262 hL (by first | omega | (simp (disch := omega) only [um_eq, um_k, um_j]; omega)) (by first | omega | (simp (disch := omega) only [um_eq, um_k, um_j]; omega)) ?_
  refine at_aloads dx_182_263 rfl ?_
  refine at_iload dx_182_264 rfl ?_
  refine at_const (x := 2) dx_182_265 rfl ?_
  refine at_addR dx_182_266 (by constructor <;> omega) (fun r266 => ?_)
  refine at_alds dx_182_267 hL (by first | omega | (simp (disch := omega) only [um_eq, um_k, um_j]; omega)) (by first | omega | (simp (disch := omega) only [um_eq, um_k, um_j]; omega)) ?_
  refine at_aload dx_182_268 rfl ?_
  refine at_callN1 dx_182_269 rfl rfl (l_unwrap (sI_R _ _) (sI_R _ _) hR) ?_
  rintro x269 M8 r269 ⟨M1, h1, f1⟩
  have hm := R2_mid hR (OC_lo h1) f1
  refine at_rng (fun hr8 => ?_)
  refine at_istore dx_182_270 ?_
  refine at_aload dx_182_271 rfl ?_
  refine at_aloads dx_182_272 rfl ?_
  refine at_iload dx_182_273 rfl ?_
  refine at_const (x := 1) dx_182_274 rfl ?_
  refine at_addR dx_182_275 (by constructor <;> omega) (fun r275 => ?_)
  refine at_alds dx_182_276 hL (by first | omega | (simp (disch := omega) only [um_eq, um_k, um_j]; omega)) (by first | omega | (simp (disch := omega) only [um_eq, um_k, um_j]; omega)) ?_
  refine at_aloads dx_182_277 rfl ?_
  refine at_iload dx_182_278 rfl ?_
  refine at_const (x := 2) dx_182_279 rfl ?_
  refine at_addR dx_182_280 (by constructor <;> omega) (fun r280 => ?_)
  refine at_alds dx_182_281 hL (by first | omega | (simp (disch := omega) only [um_eq, um_k, um_j]; omega)) (by first | omega | (simp (disch := omega) only [um_eq, um_k, um_j]; omega)) ?_
  refine at_callVI dx_182_282 rfl lc_856 rfl (y_unwrap (sI_R _ _) (sI_R _ _) hm.2.1.1 hm.2.1.2.1) ?_
  rintro x282 M9 r282 h2
  refine at_istore dx_182_283 ?_
  refine at_goto dx_182_284 ?_
  refine at_wk (ls := [vs, vr 0, vr 856, vr 883, vi i]) ⟨Or.inl rfl, Or.inl rfl, Or.inl rfl, Or.inl rfl, Or.inl rfl, trivial⟩ ?_
  exact K _ (R2_fin (R2_edit hm ok_unwrap (rng_lo hr8 f1) h1 h2) f1 (KM_hi (KM_OM h2)))

set_option maxRecDepth 100000 in
set_option maxHeartbeats 4000000 in
theorem b_setType {X : scr} {w : Nat} {M : mem} {Q : Nat → sx_V Int → mem → Prop} {i : Int} (hL : X.1 ≤ 3072) (ri : inR i) (h0 : 0 ≤ i) (h6 : i + 6 ≤ X.1) (hR : R2 M M) (K : ∀ M', R2 M' M' → At X w 182 700 [vs, vr 0, vr 856, vr 883, vi i] [] M' Q) : At X (w + 1) 182 285 [vs, vr 0, vr 856, vr 883, vi i] [] M Q := by
  refine at_aload dx_182_285 rfl ?_
  refine at_aloads dx_182_286 rfl ?_
  refine at_iload dx_182_287 rfl ?_
  refine at_const (x := 1) dx_182_288 rfl ?_
  refine at_addR dx_182_289 (by constructor <;> omega) (fun r289 => ?_)
  refine at_alds dx_182_290 hL (by first | omega | (simp (disch := omega) only [um_eq, um_k, um_j]; omega)) (by first | omega | (simp (disch := omega) only [um_eq, um_k, um_j]; omega)) ?_
  refine at_aloads dx_182_291 rfl ?_
  refine at_iload dx_182_292 rfl ?_
  refine at_const (x := 2) dx_182_293 rfl ?_
  refine at_addR dx_182_294 (by constructor <;> omega) (fun r294 => ?_)
  refine at_alds dx_182_295 hL (by first | omega | (simp (disch := omega) only [um_eq, um_k, um_j]; omega)) (by first | omega | (simp (disch := omega) only [um_eq, um_k, um_j]; omega)) ?_
  refine at_aloads dx_182_296 rfl ?_
  refine at_iload dx_182_297 rfl ?_
  refine at_const (x := 3) dx_182_298 rfl ?_
  refine at_addR dx_182_299 (by constructor <;> omega) (fun r299 => ?_)
  refine at_alds dx_182_300 hL (by first | omega | (simp (disch := omega) only [um_eq, um_k, um_j]; omega)) (by first | omega | (simp (disch := omega) only [um_eq, um_k, um_j]; omega)) ?_
  refine at_aload dx_182_301 rfl ?_
  refine at_callN1 dx_182_302 rfl rfl (l_setType (sI_R _ _) (sI_R _ _) (sI_R _ _) hR) ?_
  rintro x302 M8 r302 ⟨M1, h1, f1⟩
  have hm := R2_mid hR (OC_lo h1) f1
  refine at_rng (fun hr8 => ?_)
  refine at_istore dx_182_303 ?_
  refine at_aload dx_182_304 rfl ?_
  refine at_aloads dx_182_305 rfl ?_
  refine at_iload dx_182_306 rfl ?_
  refine at_const (x := 1) dx_182_307 rfl ?_
  refine at_addR dx_182_308 (by constructor <;> omega) (fun r308 => ?_)
  refine at_alds dx_182_309 hL (by first | omega | (simp (disch := omega) only [um_eq, um_k, um_j]; omega)) (by first | omega | (simp (disch := omega) only [um_eq, um_k, um_j]; omega)) ?_
  refine at_aloads dx_182_310 rfl ?_
  refine at_iload dx_182_311 rfl ?_
  refine at_const (x := 2) dx_182_312 rfl ?_
  refine at_addR dx_182_313 (by constructor <;> omega) (fun r313 => ?_)
  refine at_alds dx_182_314 hL (by first | omega | (simp (disch := omega) only [um_eq, um_k, um_j]; omega)) (by first | omega | (simp (disch := omega) only [um_eq, um_k, um_j]; omega)) ?_
  refine at_aloads dx_182_315 rfl ?_
  refine at_iload dx_182_316 rfl ?_
  refine at_const (x := 3) dx_182_317 rfl ?_
  refine at_addR dx_182_318 (by constructor <;> omega) (fun r318 => ?_)
  refine at_alds dx_182_319 hL (by first | omega | (simp (disch := omega) only [um_eq, um_k, um_j]; omega)) (by first | omega | (simp (disch := omega) only [um_eq, um_k, um_j]; omega)) ?_
  refine at_callVI dx_182_320 rfl lc_856 rfl (y_setType (sI_R _ _) (sI_R _ _) (sI_R _ _) hm.2.1.1 hm.2.1.2.1) ?_
  rintro x320 M9 r320 h2
  refine at_istore dx_182_321 ?_
  refine at_goto dx_182_322 ?_
  refine at_wk (ls := [vs, vr 0, vr 856, vr 883, vi i]) ⟨Or.inl rfl, Or.inl rfl, Or.inl rfl, Or.inl rfl, Or.inl rfl, trivial⟩ ?_
  exact K _ (R2_fin (R2_edit hm ok_setType (rng_lo hr8 f1) h1 h2) f1 (KM_hi (KM_OM h2)))

set_option maxRecDepth 100000 in
set_option maxHeartbeats 4000000 in
theorem b_mark {X : scr} {w : Nat} {M : mem} {Q : Nat → sx_V Int → mem → Prop} {i : Int} (hL : X.1 ≤ 3072) (ri : inR i) (h0 : 0 ≤ i) (h6 : i + 6 ≤ X.1) (hR : R2 M M) (K : ∀ M', R2 M' M' → At X w 182 700 [vs, vr 0, vr 856, vr 883, vi i] [] M' Q) : At X (w + 1) 182 323 [vs, vr 0, vr 856, vr 883, vi i] [] M Q := by
  refine at_aload dx_182_323 rfl ?_
  refine at_aloads dx_182_324 rfl ?_
  refine at_iload dx_182_325 rfl ?_
  refine at_const (x := 1) dx_182_326 rfl ?_
  refine at_addR dx_182_327 (by constructor <;> omega) (fun r327 => ?_)
  refine at_alds dx_182_328 hL (by first | omega | (simp (disch := omega) only [um_eq, um_k, um_j]; omega)) (by first | omega | (simp (disch := omega) only [um_eq, um_k, um_j]; omega)) ?_
  refine at_aloads dx_182_329 rfl ?_
  refine at_iload dx_182_330 rfl ?_
  refine at_const (x := 2) dx_182_331 rfl ?_
  refine at_addR dx_182_332 (by constructor <;> omega) (fun r332 => ?_)
  refine at_alds dx_182_333 hL (by first | omega | (simp (disch := omega) only [um_eq, um_k, um_j]; omega)) (by first | omega | (simp (disch := omega) only [um_eq, um_k, um_j]; omega)) ?_
  refine at_aloads dx_182_334 rfl ?_
  refine at_iload dx_182_335 rfl ?_
  refine at_const (x := 3) dx_182_336 rfl ?_
  refine at_addR dx_182_337 (by constructor <;> omega) (fun r337 => ?_)
  refine at_alds dx_182_338 hL (by first | omega | (simp (disch := omega) only [um_eq, um_k, um_j]; omega)) (by first | omega | (simp (disch := omega) only [um_eq, um_k, um_j]; omega)) ?_
  refine at_aloads dx_182_339 rfl ?_
  refine at_iload dx_182_340 rfl ?_
  refine at_const (x := 4) dx_182_341 rfl ?_
  refine at_addR dx_182_342 (by constructor <;> omega) (fun r342 => ?_)
  refine at_alds dx_182_343 hL (by first | omega | (simp (disch := omega) only [um_eq, um_k, um_j]; omega)) (by first | omega | (simp (disch := omega) only [um_eq, um_k, um_j]; omega)) ?_
  refine at_aloads dx_182_344 rfl ?_
  refine at_iload dx_182_345 rfl ?_
  refine at_const (x := 5) dx_182_346 rfl ?_
  refine at_addR dx_182_347 (by constructor <;> omega) (fun r347 => ?_)
  refine at_alds dx_182_348 hL (by first | omega | (simp (disch := omega) only [um_eq, um_k, um_j]; omega)) (by first | omega | (simp (disch := omega) only [um_eq, um_k, um_j]; omega)) ?_
  refine at_zeqR dx_182_349 (sI_R _ _) (fun c349 => ?_) (fun c349 => ?_)
  · skip
    refine at_const (x := 0) dx_182_352 rfl ?_
    refine at_aload dx_182_353 rfl ?_
    refine at_callN1 dx_182_354 rfl rfl (l_mark (sI_R _ _) (sI_R _ _) (sI_R _ _) (sI_R _ _) (by decide) (Or.inl rfl) hR) ?_
    rintro x354 M8 r354 ⟨M1, h1, f1⟩
    have hm := R2_mid hR (OC_lo h1) f1
    refine at_rng (fun hr8 => ?_)
    refine at_istore dx_182_355 ?_
    refine at_aload dx_182_356 rfl ?_
    refine at_aloads dx_182_357 rfl ?_
    refine at_iload dx_182_358 rfl ?_
    refine at_const (x := 1) dx_182_359 rfl ?_
    refine at_addR dx_182_360 (by constructor <;> omega) (fun r360 => ?_)
    refine at_alds dx_182_361 hL (by first | omega | (simp (disch := omega) only [um_eq, um_k, um_j]; omega)) (by first | omega | (simp (disch := omega) only [um_eq, um_k, um_j]; omega)) ?_
    refine at_aloads dx_182_362 rfl ?_
    refine at_iload dx_182_363 rfl ?_
    refine at_const (x := 2) dx_182_364 rfl ?_
    refine at_addR dx_182_365 (by constructor <;> omega) (fun r365 => ?_)
    refine at_alds dx_182_366 hL (by first | omega | (simp (disch := omega) only [um_eq, um_k, um_j]; omega)) (by first | omega | (simp (disch := omega) only [um_eq, um_k, um_j]; omega)) ?_
    refine at_aloads dx_182_367 rfl ?_
    refine at_iload dx_182_368 rfl ?_
    refine at_const (x := 3) dx_182_369 rfl ?_
    refine at_addR dx_182_370 (by constructor <;> omega) (fun r370 => ?_)
    refine at_alds dx_182_371 hL (by first | omega | (simp (disch := omega) only [um_eq, um_k, um_j]; omega)) (by first | omega | (simp (disch := omega) only [um_eq, um_k, um_j]; omega)) ?_
    refine at_aloads dx_182_372 rfl ?_
    refine at_iload dx_182_373 rfl ?_
    refine at_const (x := 4) dx_182_374 rfl ?_
    refine at_addR dx_182_375 (by constructor <;> omega) (fun r375 => ?_)
    refine at_alds dx_182_376 hL (by first | omega | (simp (disch := omega) only [um_eq, um_k, um_j]; omega)) (by first | omega | (simp (disch := omega) only [um_eq, um_k, um_j]; omega)) ?_
    refine at_aloads dx_182_377 rfl ?_
    refine at_iload dx_182_378 rfl ?_
    refine at_const (x := 5) dx_182_379 rfl ?_
    refine at_addR dx_182_380 (by constructor <;> omega) (fun r380 => ?_)
    refine at_alds dx_182_381 hL (by first | omega | (simp (disch := omega) only [um_eq, um_k, um_j]; omega)) (by first | omega | (simp (disch := omega) only [um_eq, um_k, um_j]; omega)) ?_
    refine at_zeqR dx_182_382 (sI_R _ _) (fun c382 => ?_) (fun c382 => ?_)
    · skip
      refine at_const (x := 0) dx_182_385 rfl ?_
      refine at_callVI dx_182_386 rfl lc_856 rfl (z_mark (A := M) (sI_R _ _) (sI_R _ _) (sI_R _ _) (sI_R _ _) (by decide) hm (Or.inl rfl)) ?_
      rintro x386 M9 r386 h2
      refine at_istore dx_182_387 ?_
      refine at_goto dx_182_388 ?_
      refine at_wk (ls := [vs, vr 0, vr 856, vr 883, vi i]) ⟨Or.inl rfl, Or.inl rfl, Or.inl rfl, Or.inl rfl, Or.inl rfl, trivial⟩ ?_
      first | (exfalso; omega) | exact K _ (R2_fin (R2_mark hm ok_mark (rng_lo hr8 f1) h1 h2) f1 (by rcases h2 with ⟨-, h2⟩ | ⟨-, h2⟩; exact KM_hi (KM_OM h2); exact KM_hi h2))
    · skip
      refine at_const (x := 1) dx_182_383 rfl ?_
      refine at_goto dx_182_384 ?_
      refine at_callVI dx_182_386 rfl lc_856 rfl (z_mark (A := M) (sI_R _ _) (sI_R _ _) (sI_R _ _) (sI_R _ _) (by decide) hm (Or.inr rfl)) ?_
      rintro x386 M9 r386 h2
      refine at_istore dx_182_387 ?_
      refine at_goto dx_182_388 ?_
      refine at_wk (ls := [vs, vr 0, vr 856, vr 883, vi i]) ⟨Or.inl rfl, Or.inl rfl, Or.inl rfl, Or.inl rfl, Or.inl rfl, trivial⟩ ?_
      first | (exfalso; omega) | exact K _ (R2_fin (R2_mark hm ok_mark (rng_lo hr8 f1) h1 h2) f1 (by rcases h2 with ⟨-, h2⟩ | ⟨-, h2⟩; exact KM_hi (KM_OM h2); exact KM_hi h2))
  · skip
    refine at_const (x := 1) dx_182_350 rfl ?_
    refine at_goto dx_182_351 ?_
    refine at_aload dx_182_353 rfl ?_
    refine at_callN1 dx_182_354 rfl rfl (l_mark (sI_R _ _) (sI_R _ _) (sI_R _ _) (sI_R _ _) (by decide) (Or.inr rfl) hR) ?_
    rintro x354 M8 r354 ⟨M1, h1, f1⟩
    have hm := R2_mid hR (OC_lo h1) f1
    refine at_rng (fun hr8 => ?_)
    refine at_istore dx_182_355 ?_
    refine at_aload dx_182_356 rfl ?_
    refine at_aloads dx_182_357 rfl ?_
    refine at_iload dx_182_358 rfl ?_
    refine at_const (x := 1) dx_182_359 rfl ?_
    refine at_addR dx_182_360 (by constructor <;> omega) (fun r360 => ?_)
    refine at_alds dx_182_361 hL (by first | omega | (simp (disch := omega) only [um_eq, um_k, um_j]; omega)) (by first | omega | (simp (disch := omega) only [um_eq, um_k, um_j]; omega)) ?_
    refine at_aloads dx_182_362 rfl ?_
    refine at_iload dx_182_363 rfl ?_
    refine at_const (x := 2) dx_182_364 rfl ?_
    refine at_addR dx_182_365 (by constructor <;> omega) (fun r365 => ?_)
    refine at_alds dx_182_366 hL (by first | omega | (simp (disch := omega) only [um_eq, um_k, um_j]; omega)) (by first | omega | (simp (disch := omega) only [um_eq, um_k, um_j]; omega)) ?_
    refine at_aloads dx_182_367 rfl ?_
    refine at_iload dx_182_368 rfl ?_
    refine at_const (x := 3) dx_182_369 rfl ?_
    refine at_addR dx_182_370 (by constructor <;> omega) (fun r370 => ?_)
    refine at_alds dx_182_371 hL (by first | omega | (simp (disch := omega) only [um_eq, um_k, um_j]; omega)) (by first | omega | (simp (disch := omega) only [um_eq, um_k, um_j]; omega)) ?_
    refine at_aloads dx_182_372 rfl ?_
    refine at_iload dx_182_373 rfl ?_
    refine at_const (x := 4) dx_182_374 rfl ?_
    refine at_addR dx_182_375 (by constructor <;> omega) (fun r375 => ?_)
    refine at_alds dx_182_376 hL (by first | omega | (simp (disch := omega) only [um_eq, um_k, um_j]; omega)) (by first | omega | (simp (disch := omega) only [um_eq, um_k, um_j]; omega)) ?_
    refine at_aloads dx_182_377 rfl ?_
    refine at_iload dx_182_378 rfl ?_
    refine at_const (x := 5) dx_182_379 rfl ?_
    refine at_addR dx_182_380 (by constructor <;> omega) (fun r380 => ?_)
    refine at_alds dx_182_381 hL (by first | omega | (simp (disch := omega) only [um_eq, um_k, um_j]; omega)) (by first | omega | (simp (disch := omega) only [um_eq, um_k, um_j]; omega)) ?_
    refine at_zeqR dx_182_382 (sI_R _ _) (fun c382 => ?_) (fun c382 => ?_)
    · skip
      refine at_const (x := 0) dx_182_385 rfl ?_
      refine at_callVI dx_182_386 rfl lc_856 rfl (z_mark (A := M) (sI_R _ _) (sI_R _ _) (sI_R _ _) (sI_R _ _) (by decide) hm (Or.inl rfl)) ?_
      rintro x386 M9 r386 h2
      refine at_istore dx_182_387 ?_
      refine at_goto dx_182_388 ?_
      refine at_wk (ls := [vs, vr 0, vr 856, vr 883, vi i]) ⟨Or.inl rfl, Or.inl rfl, Or.inl rfl, Or.inl rfl, Or.inl rfl, trivial⟩ ?_
      first | (exfalso; omega) | exact K _ (R2_fin (R2_mark hm ok_mark (rng_lo hr8 f1) h1 h2) f1 (by rcases h2 with ⟨-, h2⟩ | ⟨-, h2⟩; exact KM_hi (KM_OM h2); exact KM_hi h2))
    · skip
      refine at_const (x := 1) dx_182_383 rfl ?_
      refine at_goto dx_182_384 ?_
      refine at_callVI dx_182_386 rfl lc_856 rfl (z_mark (A := M) (sI_R _ _) (sI_R _ _) (sI_R _ _) (sI_R _ _) (by decide) hm (Or.inr rfl)) ?_
      rintro x386 M9 r386 h2
      refine at_istore dx_182_387 ?_
      refine at_goto dx_182_388 ?_
      refine at_wk (ls := [vs, vr 0, vr 856, vr 883, vi i]) ⟨Or.inl rfl, Or.inl rfl, Or.inl rfl, Or.inl rfl, Or.inl rfl, trivial⟩ ?_
      first | (exfalso; omega) | exact K _ (R2_fin (R2_mark hm ok_mark (rng_lo hr8 f1) h1 h2) f1 (by rcases h2 with ⟨-, h2⟩ | ⟨-, h2⟩; exact KM_hi (KM_OM h2); exact KM_hi h2))

set_option maxRecDepth 100000 in
set_option maxHeartbeats 4000000 in
theorem b_copy {X : scr} {w : Nat} {M : mem} {Q : Nat → sx_V Int → mem → Prop} {i : Int} (hL : X.1 ≤ 3072) (ri : inR i) (h0 : 0 ≤ i) (h6 : i + 6 ≤ X.1) (hR : R2 M M) (K : ∀ M', R2 M' M' → At X w 182 700 [vs, vr 0, vr 856, vr 883, vi i] [] M' Q) : At X (w + 1) 182 389 [vs, vr 0, vr 856, vr 883, vi i] [] M Q := by
  refine at_aload dx_182_389 rfl ?_
  refine at_aloads dx_182_390 rfl ?_
  refine at_iload dx_182_391 rfl ?_
  refine at_const (x := 1) dx_182_392 rfl ?_
  refine at_addR dx_182_393 (by constructor <;> omega) (fun r393 => ?_)
  refine at_alds dx_182_394 hL (by first | omega | (simp (disch := omega) only [um_eq, um_k, um_j]; omega)) (by first | omega | (simp (disch := omega) only [um_eq, um_k, um_j]; omega)) ?_
  refine at_aloads dx_182_395 rfl ?_
  refine at_iload dx_182_396 rfl ?_
  refine at_const (x := 2) dx_182_397 rfl ?_
  refine at_addR dx_182_398 (by constructor <;> omega) (fun r398 => ?_)
  refine at_alds dx_182_399 hL (by first | omega | (simp (disch := omega) only [um_eq, um_k, um_j]; omega)) (by first | omega | (simp (disch := omega) only [um_eq, um_k, um_j]; omega)) ?_
  refine at_aloads dx_182_400 rfl ?_
  refine at_iload dx_182_401 rfl ?_
  refine at_const (x := 3) dx_182_402 rfl ?_
  refine at_addR dx_182_403 (by constructor <;> omega) (fun r403 => ?_)
  refine at_alds dx_182_404 hL (by first | omega | (simp (disch := omega) only [um_eq, um_k, um_j]; omega)) (by first | omega | (simp (disch := omega) only [um_eq, um_k, um_j]; omega)) ?_
  refine at_aload dx_182_405 rfl ?_
  refine at_callN1 dx_182_406 rfl rfl (l_copy (sI_R _ _) (sI_R _ _) (sI_R _ _) hR) ?_
  rintro x406 M8 r406 ⟨M1, h1, f1⟩
  have hm := R2_mid hR (CpC_lo h1) f1
  refine at_istore dx_182_407 ?_
  refine at_aload dx_182_408 rfl ?_
  refine at_aloads dx_182_409 rfl ?_
  refine at_iload dx_182_410 rfl ?_
  refine at_const (x := 1) dx_182_411 rfl ?_
  refine at_addR dx_182_412 (by constructor <;> omega) (fun r412 => ?_)
  refine at_alds dx_182_413 hL (by first | omega | (simp (disch := omega) only [um_eq, um_k, um_j]; omega)) (by first | omega | (simp (disch := omega) only [um_eq, um_k, um_j]; omega)) ?_
  refine at_aloads dx_182_414 rfl ?_
  refine at_iload dx_182_415 rfl ?_
  refine at_const (x := 2) dx_182_416 rfl ?_
  refine at_addR dx_182_417 (by constructor <;> omega) (fun r417 => ?_)
  refine at_alds dx_182_418 hL (by first | omega | (simp (disch := omega) only [um_eq, um_k, um_j]; omega)) (by first | omega | (simp (disch := omega) only [um_eq, um_k, um_j]; omega)) ?_
  refine at_aloads dx_182_419 rfl ?_
  refine at_iload dx_182_420 rfl ?_
  refine at_const (x := 3) dx_182_421 rfl ?_
  refine at_addR dx_182_422 (by constructor <;> omega) (fun r422 => ?_)
  refine at_alds dx_182_423 hL (by first | omega | (simp (disch := omega) only [um_eq, um_k, um_j]; omega)) (by first | omega | (simp (disch := omega) only [um_eq, um_k, um_j]; omega)) ?_
  refine at_callVI dx_182_424 rfl lc_856 rfl (y_copy (sI_R _ _) (sI_R _ _) (sI_R _ _) hm.2.1.1) ?_
  rintro x424 M9 r424 h2
  refine at_istore dx_182_425 ?_
  refine at_goto dx_182_426 ?_
  refine at_wk (ls := [vs, vr 0, vr 856, vr 883, vi i]) ⟨Or.inl rfl, Or.inl rfl, Or.inl rfl, Or.inl rfl, Or.inl rfl, trivial⟩ ?_
  exact K _ (R2_fin (R2_copy hm h1 h2) f1 (CB_cp hm.2.1 h2).2.2)

set_option maxRecDepth 100000 in
set_option maxHeartbeats 4000000 in
theorem b_paste {X : scr} {w : Nat} {M : mem} {Q : Nat → sx_V Int → mem → Prop} {i : Int} (hL : X.1 ≤ 3072) (ri : inR i) (h0 : 0 ≤ i) (h6 : i + 6 ≤ X.1) (hR : R2 M M) (K : ∀ M', R2 M' M' → At X w 182 700 [vs, vr 0, vr 856, vr 883, vi i] [] M' Q) : At X (w + 1) 182 427 [vs, vr 0, vr 856, vr 883, vi i] [] M Q := by
  refine at_aload dx_182_427 rfl ?_
  refine at_aloads dx_182_428 rfl ?_
  refine at_iload dx_182_429 rfl ?_
  refine at_const (x := 1) dx_182_430 rfl ?_
  refine at_addR dx_182_431 (by constructor <;> omega) (fun r431 => ?_)
  refine at_alds dx_182_432 hL (by first | omega | (simp (disch := omega) only [um_eq, um_k, um_j]; omega)) (by first | omega | (simp (disch := omega) only [um_eq, um_k, um_j]; omega)) ?_
  refine at_aloads dx_182_433 rfl ?_
  refine at_iload dx_182_434 rfl ?_
  refine at_const (x := 2) dx_182_435 rfl ?_
  refine at_addR dx_182_436 (by constructor <;> omega) (fun r436 => ?_)
  refine at_alds dx_182_437 hL (by first | omega | (simp (disch := omega) only [um_eq, um_k, um_j]; omega)) (by first | omega | (simp (disch := omega) only [um_eq, um_k, um_j]; omega)) ?_
  refine at_aload dx_182_438 rfl ?_
  refine at_callN1 dx_182_439 rfl rfl (l_paste (sI_R _ _) (sI_R _ _) hR) ?_
  rintro x439 M8 r439 ⟨M1, h1, f1⟩
  have hm := R2_mid hR (OC_lo h1) f1
  refine at_rng (fun hr8 => ?_)
  refine at_istore dx_182_440 ?_
  refine at_aload dx_182_441 rfl ?_
  refine at_aloads dx_182_442 rfl ?_
  refine at_iload dx_182_443 rfl ?_
  refine at_const (x := 1) dx_182_444 rfl ?_
  refine at_addR dx_182_445 (by constructor <;> omega) (fun r445 => ?_)
  refine at_alds dx_182_446 hL (by first | omega | (simp (disch := omega) only [um_eq, um_k, um_j]; omega)) (by first | omega | (simp (disch := omega) only [um_eq, um_k, um_j]; omega)) ?_
  refine at_aloads dx_182_447 rfl ?_
  refine at_iload dx_182_448 rfl ?_
  refine at_const (x := 2) dx_182_449 rfl ?_
  refine at_addR dx_182_450 (by constructor <;> omega) (fun r450 => ?_)
  refine at_alds dx_182_451 hL (by first | omega | (simp (disch := omega) only [um_eq, um_k, um_j]; omega)) (by first | omega | (simp (disch := omega) only [um_eq, um_k, um_j]; omega)) ?_
  refine at_callVI dx_182_452 rfl lc_856 rfl (y_paste (sI_R _ _) (sI_R _ _) hm.2.1.1 hm.2.1.2.1 (hm.2.1.2.2 _)) ?_
  rintro x452 M9 r452 h2
  refine at_istore dx_182_453 ?_
  refine at_goto dx_182_454 ?_
  refine at_wk (ls := [vs, vr 0, vr 856, vr 883, vi i]) ⟨Or.inl rfl, Or.inl rfl, Or.inl rfl, Or.inl rfl, Or.inl rfl, trivial⟩ ?_
  exact K _ (R2_fin (R2_edit hm ok_paste (rng_lo hr8 f1) h1 h2) f1 (KM_hi (KM_OM h2)))

set_option maxRecDepth 100000 in
set_option maxHeartbeats 4000000 in
theorem b_takeBack {X : scr} {w : Nat} {M : mem} {Q : Nat → sx_V Int → mem → Prop} {i : Int} (hL : X.1 ≤ 3072) (ri : inR i) (h0 : 0 ≤ i) (h6 : i + 6 ≤ X.1) (hR : R2 M M) (K : ∀ M', R2 M' M' → At X w 182 700 [vs, vr 0, vr 856, vr 883, vi i] [] M' Q) : At X (w + 1) 182 455 [vs, vr 0, vr 856, vr 883, vi i] [] M Q := by
  refine at_aload dx_182_455 rfl ?_
  refine at_aloads dx_182_456 rfl ?_
  refine at_iload dx_182_457 rfl ?_
  refine at_const (x := 1) dx_182_458 rfl ?_
  refine at_addR dx_182_459 (by constructor <;> omega) (fun r459 => ?_)
  refine at_alds dx_182_460 hL (by first | omega | (simp (disch := omega) only [um_eq, um_k, um_j]; omega)) (by first | omega | (simp (disch := omega) only [um_eq, um_k, um_j]; omega)) ?_
  refine at_aload dx_182_461 rfl ?_
  refine at_callN1 dx_182_462 rfl rfl (l_takeBack (sI_R _ _) hR) ?_
  rintro x462 M8 r462 ⟨M1, h1, f1⟩
  have hm := R2_mid hR ((WC_TC hR.1 h1).2.1) f1
  refine at_istore dx_182_463 ?_
  refine at_aload dx_182_464 rfl ?_
  refine at_aloads dx_182_465 rfl ?_
  refine at_iload dx_182_466 rfl ?_
  refine at_const (x := 1) dx_182_467 rfl ?_
  refine at_addR dx_182_468 (by constructor <;> omega) (fun r468 => ?_)
  refine at_alds dx_182_469 hL (by first | omega | (simp (disch := omega) only [um_eq, um_k, um_j]; omega)) (by first | omega | (simp (disch := omega) only [um_eq, um_k, um_j]; omega)) ?_
  refine at_callVI dx_182_470 rfl lc_856 rfl (y_takeBack (sI_R _ _) hm.2.1.1) ?_
  rintro x470 M9 r470 h2
  refine at_istore dx_182_471 ?_
  refine at_goto dx_182_472 ?_
  refine at_wk (ls := [vs, vr 0, vr 856, vr 883, vi i]) ⟨Or.inl rfl, Or.inl rfl, Or.inl rfl, Or.inl rfl, Or.inl rfl, trivial⟩ ?_
  exact K _ (R2_fin (R2_back hm h1 h2) f1 (KM_hi (KM_TM h2)))

set_option maxRecDepth 100000 in
set_option maxHeartbeats 4000000 in
theorem b_revert {X : scr} {w : Nat} {M : mem} {Q : Nat → sx_V Int → mem → Prop} {i : Int} (hL : X.1 ≤ 3072) (ri : inR i) (h0 : 0 ≤ i) (h6 : i + 6 ≤ X.1) (hR : R2 M M) (K : ∀ M', R2 M' M' → At X w 182 700 [vs, vr 0, vr 856, vr 883, vi i] [] M' Q) : At X (w + 1) 182 473 [vs, vr 0, vr 856, vr 883, vi i] [] M Q := by
  refine at_aload dx_182_473 rfl ?_
  refine at_aloads dx_182_474 rfl ?_
  refine at_iload dx_182_475 rfl ?_
  refine at_const (x := 1) dx_182_476 rfl ?_
  refine at_addR dx_182_477 (by constructor <;> omega) (fun r477 => ?_)
  refine at_alds dx_182_478 hL (by first | omega | (simp (disch := omega) only [um_eq, um_k, um_j]; omega)) (by first | omega | (simp (disch := omega) only [um_eq, um_k, um_j]; omega)) ?_
  refine at_aloads dx_182_479 rfl ?_
  refine at_iload dx_182_480 rfl ?_
  refine at_const (x := 2) dx_182_481 rfl ?_
  refine at_addR dx_182_482 (by constructor <;> omega) (fun r482 => ?_)
  refine at_alds dx_182_483 hL (by first | omega | (simp (disch := omega) only [um_eq, um_k, um_j]; omega)) (by first | omega | (simp (disch := omega) only [um_eq, um_k, um_j]; omega)) ?_
  refine at_aload dx_182_484 rfl ?_
  refine at_callN1 dx_182_485 rfl rfl (l_revert (sI_R _ _) (sI_R _ _) hR) ?_
  rintro x485 M8 r485 ⟨M1, h1, f1⟩
  have hm := R2_mid hR (Rv_lo h1) f1
  refine at_istore dx_182_486 ?_
  refine at_aload dx_182_487 rfl ?_
  refine at_aloads dx_182_488 rfl ?_
  refine at_iload dx_182_489 rfl ?_
  refine at_const (x := 1) dx_182_490 rfl ?_
  refine at_addR dx_182_491 (by constructor <;> omega) (fun r491 => ?_)
  refine at_alds dx_182_492 hL (by first | omega | (simp (disch := omega) only [um_eq, um_k, um_j]; omega)) (by first | omega | (simp (disch := omega) only [um_eq, um_k, um_j]; omega)) ?_
  refine at_aloads dx_182_493 rfl ?_
  refine at_iload dx_182_494 rfl ?_
  refine at_const (x := 2) dx_182_495 rfl ?_
  refine at_addR dx_182_496 (by constructor <;> omega) (fun r496 => ?_)
  refine at_alds dx_182_497 hL (by first | omega | (simp (disch := omega) only [um_eq, um_k, um_j]; omega)) (by first | omega | (simp (disch := omega) only [um_eq, um_k, um_j]; omega)) ?_
  refine at_callVI dx_182_498 rfl lc_856 rfl (y_revert (sI_R _ _) (sI_R _ _) hm.2.1.1) ?_
  rintro x498 M9 r498 h2
  refine at_istore dx_182_499 ?_
  refine at_goto dx_182_500 ?_
  refine at_wk (ls := [vs, vr 0, vr 856, vr 883, vi i]) ⟨Or.inl rfl, Or.inl rfl, Or.inl rfl, Or.inl rfl, Or.inl rfl, trivial⟩ ?_
  exact K _ (R2_fin (R2_rev hm h1 h2) f1 (KM_hi h2.1))

set_option maxRecDepth 100000 in
set_option maxHeartbeats 4000000 in
theorem b_send {X : scr} {w : Nat} {M : mem} {Q : Nat → sx_V Int → mem → Prop} {i : Int} (hL : X.1 ≤ 3072) (ri : inR i) (h0 : 0 ≤ i) (h6 : i + 6 ≤ X.1) (hR : R2 M M) (K : ∀ M', R2 M' M' → At X w 182 700 [vs, vr 0, vr 856, vr 883, vi i] [] M' Q) : At X (w + 1) 182 501 [vs, vr 0, vr 856, vr 883, vi i] [] M Q := by
  refine at_aload dx_182_501 rfl ?_
  refine at_aloads dx_182_502 rfl ?_
  refine at_iload dx_182_503 rfl ?_
  refine at_const (x := 1) dx_182_504 rfl ?_
  refine at_addR dx_182_505 (by constructor <;> omega) (fun r505 => ?_)
  refine at_alds dx_182_506 hL (by first | omega | (simp (disch := omega) only [um_eq, um_k, um_j]; omega)) (by first | omega | (simp (disch := omega) only [um_eq, um_k, um_j]; omega)) ?_
  refine at_aload dx_182_507 rfl ?_
  refine at_callN1 dx_182_508 rfl rfl (l_send (sI_R _ _) hR) ?_
  rintro x508 M8 r508 ⟨M1, h1, f1⟩
  have hm := R2_mid hR (SC_lo h1) f1
  refine at_istore dx_182_509 ?_
  refine at_aload dx_182_510 rfl ?_
  refine at_aloads dx_182_511 rfl ?_
  refine at_iload dx_182_512 rfl ?_
  refine at_const (x := 1) dx_182_513 rfl ?_
  refine at_addR dx_182_514 (by constructor <;> omega) (fun r514 => ?_)
  refine at_alds dx_182_515 hL (by first | omega | (simp (disch := omega) only [um_eq, um_k, um_j]; omega)) (by first | omega | (simp (disch := omega) only [um_eq, um_k, um_j]; omega)) ?_
  refine at_callVI dx_182_516 rfl lc_856 rfl (y_send (sI_R _ _) hm.2.1.1) ?_
  rintro x516 M9 r516 h2
  refine at_istore dx_182_517 ?_
  refine at_goto dx_182_518 ?_
  refine at_wk (ls := [vs, vr 0, vr 856, vr 883, vi i]) ⟨Or.inl rfl, Or.inl rfl, Or.inl rfl, Or.inl rfl, Or.inl rfl, trivial⟩ ?_
  exact K _ (R2_fin (R2_send hm h1 h2) f1 (SM_hi h2))

set_option maxRecDepth 100000 in
set_option maxHeartbeats 4000000 in
theorem b_receive {X : scr} {w : Nat} {M : mem} {Q : Nat → sx_V Int → mem → Prop} {i : Int} (hL : X.1 ≤ 3072) (ri : inR i) (h0 : 0 ≤ i) (h6 : i + 6 ≤ X.1) (hR : R2 M M) (K : ∀ M', R2 M' M' → At X w 182 700 [vs, vr 0, vr 856, vr 883, vi i] [] M' Q) : At X (w + 1) 182 519 [vs, vr 0, vr 856, vr 883, vi i] [] M Q := by
  refine at_aload dx_182_519 rfl ?_
  refine at_aloads dx_182_520 rfl ?_
  refine at_iload dx_182_521 rfl ?_
  refine at_const (x := 1) dx_182_522 rfl ?_
  refine at_addR dx_182_523 (by constructor <;> omega) (fun r523 => ?_)
  refine at_alds dx_182_524 hL (by first | omega | (simp (disch := omega) only [um_eq, um_k, um_j]; omega)) (by first | omega | (simp (disch := omega) only [um_eq, um_k, um_j]; omega)) ?_
  refine at_aload dx_182_525 rfl ?_
  refine at_callN1 dx_182_526 rfl rfl (l_receive (sI_R _ _) hR) ?_
  rintro x526 M8 r526 ⟨M1, h1, f1⟩
  have hm := R2_mid hR (RC_lo h1) f1
  refine at_istore dx_182_527 ?_
  refine at_aload dx_182_528 rfl ?_
  refine at_aloads dx_182_529 rfl ?_
  refine at_iload dx_182_530 rfl ?_
  refine at_const (x := 1) dx_182_531 rfl ?_
  refine at_addR dx_182_532 (by constructor <;> omega) (fun r532 => ?_)
  refine at_alds dx_182_533 hL (by first | omega | (simp (disch := omega) only [um_eq, um_k, um_j]; omega)) (by first | omega | (simp (disch := omega) only [um_eq, um_k, um_j]; omega)) ?_
  refine at_callVI dx_182_534 rfl lc_856 rfl (y_receive (sI_R _ _) hm.2.1.1) ?_
  rintro x534 M9 r534 h2
  refine at_istore dx_182_535 ?_
  refine at_goto dx_182_536 ?_
  refine at_wk (ls := [vs, vr 0, vr 856, vr 883, vi i]) ⟨Or.inl rfl, Or.inl rfl, Or.inl rfl, Or.inl rfl, Or.inl rfl, trivial⟩ ?_
  exact K _ (R2_fin (R2_recv hm h1 h2) f1 (KM_hi h2.1))

set_option maxRecDepth 100000 in
set_option maxHeartbeats 4000000 in
theorem b_lost {X : scr} {w : Nat} {M : mem} {Q : Nat → sx_V Int → mem → Prop} {i : Int} (hL : X.1 ≤ 3072) (ri : inR i) (h0 : 0 ≤ i) (h6 : i + 6 ≤ X.1) (hR : R2 M M) (K : ∀ M', R2 M' M' → At X w 182 700 [vs, vr 0, vr 856, vr 883, vi i] [] M' Q) : At X (w + 1) 182 537 [vs, vr 0, vr 856, vr 883, vi i] [] M Q := by
  refine at_aload dx_182_537 rfl ?_
  refine at_aloads dx_182_538 rfl ?_
  refine at_iload dx_182_539 rfl ?_
  refine at_const (x := 1) dx_182_540 rfl ?_
  refine at_addR dx_182_541 (by constructor <;> omega) (fun r541 => ?_)
  refine at_alds dx_182_542 hL (by first | omega | (simp (disch := omega) only [um_eq, um_k, um_j]; omega)) (by first | omega | (simp (disch := omega) only [um_eq, um_k, um_j]; omega)) ?_
  refine at_aload dx_182_543 rfl ?_
  refine at_callN1 dx_182_544 rfl rfl (l_lost (sI_R _ _) hR) ?_
  rintro x544 M8 r544 ⟨M1, h1, f1⟩
  have hm := R2_mid hR (wq_lo h1.2) f1
  refine at_istore dx_182_545 ?_
  refine at_aload dx_182_546 rfl ?_
  refine at_aloads dx_182_547 rfl ?_
  refine at_iload dx_182_548 rfl ?_
  refine at_const (x := 1) dx_182_549 rfl ?_
  refine at_addR dx_182_550 (by constructor <;> omega) (fun r550 => ?_)
  refine at_alds dx_182_551 hL (by first | omega | (simp (disch := omega) only [um_eq, um_k, um_j]; omega)) (by first | omega | (simp (disch := omega) only [um_eq, um_k, um_j]; omega)) ?_
  refine at_callVI dx_182_552 rfl lc_856 rfl (y_lost (sI_R _ _) hm.2.1.1) ?_
  rintro x552 M9 r552 h2
  refine at_istore dx_182_553 ?_
  refine at_goto dx_182_554 ?_
  refine at_wk (ls := [vs, vr 0, vr 856, vr 883, vi i]) ⟨Or.inl rfl, Or.inl rfl, Or.inl rfl, Or.inl rfl, Or.inl rfl, trivial⟩ ?_
  exact K _ (R2_fin (R2_w hm h1.1 h1.2 h2.1 h2.2) f1 (KM_hi (KM_w h2.1 h2.2)))

set_option maxRecDepth 100000 in
set_option maxHeartbeats 4000000 in
theorem b_version {X : scr} {w : Nat} {M : mem} {Q : Nat → sx_V Int → mem → Prop} {i : Int} (hL : X.1 ≤ 3072) (ri : inR i) (h0 : 0 ≤ i) (h6 : i + 6 ≤ X.1) (hR : R2 M M) (K : ∀ M', R2 M' M' → At X w 182 700 [vs, vr 0, vr 856, vr 883, vi i] [] M' Q) : At X (w + 1) 182 555 [vs, vr 0, vr 856, vr 883, vi i] [] M Q := by
  refine at_aload dx_182_555 rfl ?_
  refine at_aloads dx_182_556 rfl ?_
  refine at_iload dx_182_557 rfl ?_
  refine at_const (x := 1) dx_182_558 rfl ?_
  refine at_addR dx_182_559 (by constructor <;> omega) (fun r559 => ?_)
  refine at_alds dx_182_560 hL (by first | omega | (simp (disch := omega) only [um_eq, um_k, um_j]; omega)) (by first | omega | (simp (disch := omega) only [um_eq, um_k, um_j]; omega)) ?_
  refine at_aload dx_182_561 rfl ?_
  refine at_callN1 dx_182_562 rfl rfl (l_version (sI_R _ _) hR) ?_
  rintro x562 M8 r562 ⟨M1, h1, f1⟩
  have hm := R2_mid hR (wq_lo h1.2) f1
  refine at_istore dx_182_563 ?_
  refine at_aload dx_182_564 rfl ?_
  refine at_aloads dx_182_565 rfl ?_
  refine at_iload dx_182_566 rfl ?_
  refine at_const (x := 1) dx_182_567 rfl ?_
  refine at_addR dx_182_568 (by constructor <;> omega) (fun r568 => ?_)
  refine at_alds dx_182_569 hL (by first | omega | (simp (disch := omega) only [um_eq, um_k, um_j]; omega)) (by first | omega | (simp (disch := omega) only [um_eq, um_k, um_j]; omega)) ?_
  refine at_callVI dx_182_570 rfl lc_856 rfl (y_version (sI_R _ _) hm.2.1.1) ?_
  rintro x570 M9 r570 h2
  refine at_istore dx_182_571 ?_
  refine at_goto dx_182_572 ?_
  refine at_wk (ls := [vs, vr 0, vr 856, vr 883, vi i]) ⟨Or.inl rfl, Or.inl rfl, Or.inl rfl, Or.inl rfl, Or.inl rfl, trivial⟩ ?_
  exact K _ (R2_fin (R2_w hm h1.1 h1.2 h2.1 h2.2) f1 (KM_hi (KM_w h2.1 h2.2)))

set_option maxRecDepth 100000 in
set_option maxHeartbeats 4000000 in
theorem b_isBuilt {X : scr} {w : Nat} {M : mem} {Q : Nat → sx_V Int → mem → Prop} {i : Int} (hL : X.1 ≤ 3072) (ri : inR i) (h0 : 0 ≤ i) (h6 : i + 6 ≤ X.1) (hR : R2 M M) (K : ∀ M', R2 M' M' → At X w 182 700 [vs, vr 0, vr 856, vr 883, vi i] [] M' Q) : At X (w + 1) 182 573 [vs, vr 0, vr 856, vr 883, vi i] [] M Q := by
  refine At.up ?_
  refine at_aload dx_182_573 rfl ?_
  refine at_callVI dx_182_574 rfl lc_0 rfl (q_isBuilt hR.1) ?_
  rintro x1 M8 r1 ⟨C8, f8⟩
  have hm := R2_B hR (fr_le (wq_lo f8) (fun q e => Or.inl e))
  refine at_pop dx_182_575 rfl ?_
  refine at_aload dx_182_576 rfl ?_
  refine at_callVI dx_182_577 rfl lc_856 rfl (y_isBuilt hm.2.1.1) ?_
  rintro x2 M9 r2 h2
  refine at_pop dx_182_578 rfl ?_
  refine at_goto dx_182_579 ?_
  refine at_wk (ls := [vs, vr 0, vr 856, vr 883, vi i]) ⟨Or.inl rfl, Or.inl rfl, Or.inl rfl, Or.inl rfl, Or.inl rfl, trivial⟩ ?_
  exact K _ (R2_A (R2_w hm C8 f8 h2.1 h2.2) (KM_hi (KM_w h2.1 h2.2)))

set_option maxRecDepth 100000 in
set_option maxHeartbeats 4000000 in
theorem b_size {X : scr} {w : Nat} {M : mem} {Q : Nat → sx_V Int → mem → Prop} {i : Int} (hL : X.1 ≤ 3072) (ri : inR i) (h0 : 0 ≤ i) (h6 : i + 6 ≤ X.1) (hR : R2 M M) (K : ∀ M', R2 M' M' → At X w 182 700 [vs, vr 0, vr 856, vr 883, vi i] [] M' Q) : At X (w + 1) 182 580 [vs, vr 0, vr 856, vr 883, vi i] [] M Q := by
  refine at_aload dx_182_580 rfl ?_
  refine at_aloads dx_182_581 rfl ?_
  refine at_iload dx_182_582 rfl ?_
  refine at_const (x := 1) dx_182_583 rfl ?_
  refine at_addR dx_182_584 (by constructor <;> omega) (fun r584 => ?_)
  refine at_alds dx_182_585 hL (by first | omega | (simp (disch := omega) only [um_eq, um_k, um_j]; omega)) (by first | omega | (simp (disch := omega) only [um_eq, um_k, um_j]; omega)) ?_
  refine at_aload dx_182_586 rfl ?_
  refine at_callN1 dx_182_587 rfl rfl (l_size (sI_R _ _) hR) ?_
  rintro x587 M8 r587 ⟨M1, h1, f1⟩
  have hm := R2_mid hR (wq_lo h1.2) f1
  refine at_istore dx_182_588 ?_
  refine at_aload dx_182_589 rfl ?_
  refine at_aloads dx_182_590 rfl ?_
  refine at_iload dx_182_591 rfl ?_
  refine at_const (x := 1) dx_182_592 rfl ?_
  refine at_addR dx_182_593 (by constructor <;> omega) (fun r593 => ?_)
  refine at_alds dx_182_594 hL (by first | omega | (simp (disch := omega) only [um_eq, um_k, um_j]; omega)) (by first | omega | (simp (disch := omega) only [um_eq, um_k, um_j]; omega)) ?_
  refine at_callVI dx_182_595 rfl lc_856 rfl (y_size (sI_R _ _) hm.2.1.1) ?_
  rintro x595 M9 r595 h2
  refine at_istore dx_182_596 ?_
  refine at_goto dx_182_597 ?_
  refine at_wk (ls := [vs, vr 0, vr 856, vr 883, vi i]) ⟨Or.inl rfl, Or.inl rfl, Or.inl rfl, Or.inl rfl, Or.inl rfl, trivial⟩ ?_
  exact K _ (R2_fin (R2_w hm h1.1 h1.2 h2.1 h2.2) f1 (KM_hi (KM_w h2.1 h2.2)))

set_option maxRecDepth 100000 in
set_option maxHeartbeats 4000000 in
theorem b_token {X : scr} {w : Nat} {M : mem} {Q : Nat → sx_V Int → mem → Prop} {i : Int} (hL : X.1 ≤ 3072) (ri : inR i) (h0 : 0 ≤ i) (h6 : i + 6 ≤ X.1) (hR : R2 M M) (K : ∀ M', R2 M' M' → At X w 182 700 [vs, vr 0, vr 856, vr 883, vi i] [] M' Q) : At X (w + 1) 182 598 [vs, vr 0, vr 856, vr 883, vi i] [] M Q := by
  refine at_aload dx_182_598 rfl ?_
  refine at_aloads dx_182_599 rfl ?_
  refine at_iload dx_182_600 rfl ?_
  refine at_const (x := 1) dx_182_601 rfl ?_
  refine at_addR dx_182_602 (by constructor <;> omega) (fun r602 => ?_)
  refine at_alds dx_182_603 hL (by first | omega | (simp (disch := omega) only [um_eq, um_k, um_j]; omega)) (by first | omega | (simp (disch := omega) only [um_eq, um_k, um_j]; omega)) ?_
  refine at_aloads dx_182_604 rfl ?_
  refine at_iload dx_182_605 rfl ?_
  refine at_const (x := 2) dx_182_606 rfl ?_
  refine at_addR dx_182_607 (by constructor <;> omega) (fun r607 => ?_)
  refine at_alds dx_182_608 hL (by first | omega | (simp (disch := omega) only [um_eq, um_k, um_j]; omega)) (by first | omega | (simp (disch := omega) only [um_eq, um_k, um_j]; omega)) ?_
  refine at_aload dx_182_609 rfl ?_
  refine at_callN1 dx_182_610 rfl rfl (l_token (sI_R _ _) (sI_R _ _) hR) ?_
  rintro x610 M8 r610 ⟨M1, h1, f1⟩
  have hm := R2_mid hR (wq_lo h1.2) f1
  refine at_istore dx_182_611 ?_
  refine at_aload dx_182_612 rfl ?_
  refine at_aloads dx_182_613 rfl ?_
  refine at_iload dx_182_614 rfl ?_
  refine at_const (x := 1) dx_182_615 rfl ?_
  refine at_addR dx_182_616 (by constructor <;> omega) (fun r616 => ?_)
  refine at_alds dx_182_617 hL (by first | omega | (simp (disch := omega) only [um_eq, um_k, um_j]; omega)) (by first | omega | (simp (disch := omega) only [um_eq, um_k, um_j]; omega)) ?_
  refine at_aloads dx_182_618 rfl ?_
  refine at_iload dx_182_619 rfl ?_
  refine at_const (x := 2) dx_182_620 rfl ?_
  refine at_addR dx_182_621 (by constructor <;> omega) (fun r621 => ?_)
  refine at_alds dx_182_622 hL (by first | omega | (simp (disch := omega) only [um_eq, um_k, um_j]; omega)) (by first | omega | (simp (disch := omega) only [um_eq, um_k, um_j]; omega)) ?_
  refine at_callVI dx_182_623 rfl lc_856 rfl (y_token (sI_R _ _) (sI_R _ _) hm.2.1.1) ?_
  rintro x623 M9 r623 h2
  refine at_istore dx_182_624 ?_
  refine at_goto dx_182_625 ?_
  refine at_wk (ls := [vs, vr 0, vr 856, vr 883, vi i]) ⟨Or.inl rfl, Or.inl rfl, Or.inl rfl, Or.inl rfl, Or.inl rfl, trivial⟩ ?_
  exact K _ (R2_fin (R2_w hm h1.1 h1.2 h2.1 h2.2) f1 (KM_hi (KM_w h2.1 h2.2)))

set_option maxRecDepth 100000 in
set_option maxHeartbeats 4000000 in
theorem b_around {X : scr} {w : Nat} {M : mem} {Q : Nat → sx_V Int → mem → Prop} {i : Int} (hL : X.1 ≤ 3072) (ri : inR i) (h0 : 0 ≤ i) (h6 : i + 6 ≤ X.1) (hR : R2 M M) (K : ∀ M', R2 M' M' → At X w 182 700 [vs, vr 0, vr 856, vr 883, vi i] [] M' Q) : At X (w + 1) 182 626 [vs, vr 0, vr 856, vr 883, vi i] [] M Q := by
  refine at_aload dx_182_626 rfl ?_
  refine at_aloads dx_182_627 rfl ?_
  refine at_iload dx_182_628 rfl ?_
  refine at_const (x := 1) dx_182_629 rfl ?_
  refine at_addR dx_182_630 (by constructor <;> omega) (fun r630 => ?_)
  refine at_alds dx_182_631 hL (by first | omega | (simp (disch := omega) only [um_eq, um_k, um_j]; omega)) (by first | omega | (simp (disch := omega) only [um_eq, um_k, um_j]; omega)) ?_
  refine at_aloads dx_182_632 rfl ?_
  refine at_iload dx_182_633 rfl ?_
  refine at_const (x := 2) dx_182_634 rfl ?_
  refine at_addR dx_182_635 (by constructor <;> omega) (fun r635 => ?_)
  refine at_alds dx_182_636 hL (by first | omega | (simp (disch := omega) only [um_eq, um_k, um_j]; omega)) (by first | omega | (simp (disch := omega) only [um_eq, um_k, um_j]; omega)) ?_
  refine at_aload dx_182_637 rfl ?_
  refine at_callN1 dx_182_638 rfl rfl (l_around (sI_R _ _) (sI_R _ _) hR) ?_
  rintro x638 M8 r638 ⟨M1, h1, f1⟩
  have hm := R2_mid hR (wq_lo h1.2) f1
  refine at_istore dx_182_639 ?_
  refine at_aload dx_182_640 rfl ?_
  refine at_aloads dx_182_641 rfl ?_
  refine at_iload dx_182_642 rfl ?_
  refine at_const (x := 1) dx_182_643 rfl ?_
  refine at_addR dx_182_644 (by constructor <;> omega) (fun r644 => ?_)
  refine at_alds dx_182_645 hL (by first | omega | (simp (disch := omega) only [um_eq, um_k, um_j]; omega)) (by first | omega | (simp (disch := omega) only [um_eq, um_k, um_j]; omega)) ?_
  refine at_aloads dx_182_646 rfl ?_
  refine at_iload dx_182_647 rfl ?_
  refine at_const (x := 2) dx_182_648 rfl ?_
  refine at_addR dx_182_649 (by constructor <;> omega) (fun r649 => ?_)
  refine at_alds dx_182_650 hL (by first | omega | (simp (disch := omega) only [um_eq, um_k, um_j]; omega)) (by first | omega | (simp (disch := omega) only [um_eq, um_k, um_j]; omega)) ?_
  refine at_callVI dx_182_651 rfl lc_856 rfl (y_around (sI_R _ _) (sI_R _ _) hm.2.1.1) ?_
  rintro x651 M9 r651 h2
  refine at_istore dx_182_652 ?_
  refine at_goto dx_182_653 ?_
  refine at_wk (ls := [vs, vr 0, vr 856, vr 883, vi i]) ⟨Or.inl rfl, Or.inl rfl, Or.inl rfl, Or.inl rfl, Or.inl rfl, trivial⟩ ?_
  exact K _ (R2_fin (R2_w hm h1.1 h1.2 h2.1 h2.2) f1 (KM_hi (KM_w h2.1 h2.2)))

set_option maxRecDepth 100000 in
set_option maxHeartbeats 4000000 in
theorem b_comment {X : scr} {w : Nat} {M : mem} {Q : Nat → sx_V Int → mem → Prop} {i : Int} (hL : X.1 ≤ 3072) (ri : inR i) (h0 : 0 ≤ i) (h6 : i + 6 ≤ X.1) (hR : R2 M M) (K : ∀ M', R2 M' M' → At X w 182 700 [vs, vr 0, vr 856, vr 883, vi i] [] M' Q) : At X (w + 1) 182 654 [vs, vr 0, vr 856, vr 883, vi i] [] M Q := by
  refine at_aload dx_182_654 rfl ?_
  refine at_aloads dx_182_655 rfl ?_
  refine at_iload dx_182_656 rfl ?_
  refine at_const (x := 1) dx_182_657 rfl ?_
  refine at_addR dx_182_658 (by constructor <;> omega) (fun r658 => ?_)
  refine at_alds dx_182_659 hL (by first | omega | (simp (disch := omega) only [um_eq, um_k, um_j]; omega)) (by first | omega | (simp (disch := omega) only [um_eq, um_k, um_j]; omega)) ?_
  refine at_aloads dx_182_660 rfl ?_
  refine at_iload dx_182_661 rfl ?_
  refine at_const (x := 2) dx_182_662 rfl ?_
  refine at_addR dx_182_663 (by constructor <;> omega) (fun r663 => ?_)
  refine at_alds dx_182_664 hL (by first | omega | (simp (disch := omega) only [um_eq, um_k, um_j]; omega)) (by first | omega | (simp (disch := omega) only [um_eq, um_k, um_j]; omega)) ?_
  refine at_aload dx_182_665 rfl ?_
  refine at_callN1 dx_182_666 rfl rfl (l_comment (sI_R _ _) (sI_R _ _) hR) ?_
  rintro x666 M8 r666 ⟨M1, h1, f1⟩
  have hm := R2_mid hR ((fr_le h1.2.1 (fun q e => by (try dsimp only at e); dsimp only [lo]; omega))) f1
  refine at_istore dx_182_667 ?_
  refine at_aload dx_182_668 rfl ?_
  refine at_aloads dx_182_669 rfl ?_
  refine at_iload dx_182_670 rfl ?_
  refine at_const (x := 1) dx_182_671 rfl ?_
  refine at_addR dx_182_672 (by constructor <;> omega) (fun r672 => ?_)
  refine at_alds dx_182_673 hL (by first | omega | (simp (disch := omega) only [um_eq, um_k, um_j]; omega)) (by first | omega | (simp (disch := omega) only [um_eq, um_k, um_j]; omega)) ?_
  refine at_aloads dx_182_674 rfl ?_
  refine at_iload dx_182_675 rfl ?_
  refine at_const (x := 2) dx_182_676 rfl ?_
  refine at_addR dx_182_677 (by constructor <;> omega) (fun r677 => ?_)
  refine at_alds dx_182_678 hL (by first | omega | (simp (disch := omega) only [um_eq, um_k, um_j]; omega)) (by first | omega | (simp (disch := omega) only [um_eq, um_k, um_j]; omega)) ?_
  refine at_callVI dx_182_679 rfl lc_856 rfl (y_comment (sI_R _ _) (sI_R _ _) hm.2.1.1) ?_
  rintro x679 M9 r679 h2
  refine at_istore dx_182_680 ?_
  refine at_goto dx_182_681 ?_
  refine at_wk (ls := [vs, vr 0, vr 856, vr 883, vi i]) ⟨Or.inl rfl, Or.inl rfl, Or.inl rfl, Or.inl rfl, Or.inl rfl, trivial⟩ ?_
  exact K _ (R2_fin (R2_q hm h1.1 (fr_le h1.2.1 (fun q e => by (try dsimp only at e); dsimp only [qC, wq]; omega)) h1.2.2 h2.1 h2.2) f1 (KM_hi ⟨h2.1, fe_le h2.2 (fun q j e => qM_k e)⟩))

set_option maxRecDepth 100000 in
set_option maxHeartbeats 4000000 in
theorem b_commentAt {X : scr} {w : Nat} {M : mem} {Q : Nat → sx_V Int → mem → Prop} {i : Int} (hL : X.1 ≤ 3072) (ri : inR i) (h0 : 0 ≤ i) (h6 : i + 6 ≤ X.1) (hR : R2 M M) (K : ∀ M', R2 M' M' → At X w 182 700 [vs, vr 0, vr 856, vr 883, vi i] [] M' Q) : At X (w + 1) 182 682 [vs, vr 0, vr 856, vr 883, vi i] [] M Q := by
  refine at_aload dx_182_682 rfl ?_
  refine at_aloads dx_182_683 rfl ?_
  refine at_iload dx_182_684 rfl ?_
  refine at_const (x := 1) dx_182_685 rfl ?_
  refine at_addR dx_182_686 (by constructor <;> omega) (fun r686 => ?_)
  refine at_alds dx_182_687 hL (by first | omega | (simp (disch := omega) only [um_eq, um_k, um_j]; omega)) (by first | omega | (simp (disch := omega) only [um_eq, um_k, um_j]; omega)) ?_
  refine at_aload dx_182_688 rfl ?_
  refine at_callN1 dx_182_689 rfl rfl (l_commentAt (sI_R _ _) hR) ?_
  rintro x689 M8 r689 ⟨M1, h1, f1⟩
  have hm := R2_mid hR (wq_lo h1.2) f1
  refine at_istore dx_182_690 ?_
  refine at_aload dx_182_691 rfl ?_
  refine at_aloads dx_182_692 rfl ?_
  refine at_iload dx_182_693 rfl ?_
  refine at_const (x := 1) dx_182_694 rfl ?_
  refine at_addR dx_182_695 (by constructor <;> omega) (fun r695 => ?_)
  refine at_alds dx_182_696 hL (by first | omega | (simp (disch := omega) only [um_eq, um_k, um_j]; omega)) (by first | omega | (simp (disch := omega) only [um_eq, um_k, um_j]; omega)) ?_
  refine at_callVI dx_182_697 rfl lc_856 rfl (y_commentAt (sI_R _ _) hm.2.1.1) ?_
  rintro x697 M9 r697 h2
  refine at_istore dx_182_698 ?_
  refine at_goto dx_182_699 ?_
  refine at_wk (ls := [vs, vr 0, vr 856, vr 883, vi i]) ⟨Or.inl rfl, Or.inl rfl, Or.inl rfl, Or.inl rfl, Or.inl rfl, trivial⟩ ?_
  exact K _ (R2_fin (R2_w hm h1.1 h1.2 h2.1 h2.2) f1 (KM_hi (KM_w h2.1 h2.2)))

theorem law_head {X : scr} {w : Nat} {M : mem} {Q : Nat → sx_V Int → mem → Prop} {i : Int} (hL : X.1 ≤ 3072) (ri : inR i) (K1 : i + 6 ≤ X.1 → At X w 182 19 [vs, vr 0, vr 856, vr 883, vi i] [] M Q) (K2 : At X w 182 702 [vs, vr 0, vr 856, vr 883, vi i] [] M Q) : At X w 182 13 [vs, vr 0, vr 856, vr 883, vi i] [] M Q := by
  refine at_iload dx_182_13 rfl ?_
  refine at_aloads dx_182_14 rfl ?_
  refine at_alens dx_182_15 hL ?_
  refine at_const (x := 6) dx_182_16 rfl ?_
  refine at_subR dx_182_17 (by constructor <;> omega) (fun r17 => ?_)
  refine at_cgtR dx_182_18 ri r17 (fun c18 => ?_) (fun c18 => ?_)
  · skip
    exact K2
  · skip
    exact K1 (by omega)

theorem law_key {X : scr} {w : Nat} {M : mem} {Q : Nat → sx_V Int → mem → Prop} {i : Int} (hL : X.1 ≤ 3072) (h0 : 0 ≤ i) (h6 : i + 6 ≤ X.1) (K : At X w 182 24 [vs, vr 0, vr 856, vr 883, vi i] [vi (ii_and (sI X i) 31)] M Q) : At X w 182 19 [vs, vr 0, vr 856, vr 883, vi i] [] M Q := by
  refine at_aloads dx_182_19 rfl ?_
  refine at_iload dx_182_20 rfl ?_
  refine at_alds dx_182_21 hL (by first | omega | (simp (disch := omega) only [um_eq, um_k, um_j]; omega)) (by first | omega | (simp (disch := omega) only [um_eq, um_k, um_j]; omega)) ?_
  refine at_const (x := 31) dx_182_22 rfl ?_
  refine at_and dx_182_23 ?_
  exact K

theorem sw_0 : swt 182 24 0 = 25 := by decide +kernel
theorem sw_1 : swt 182 24 1 = 77 := by decide +kernel
theorem sw_2 : swt 182 24 2 = 115 := by decide +kernel
theorem sw_3 : swt 182 24 3 = 153 := by decide +kernel
theorem sw_4 : swt 182 24 4 = 181 := by decide +kernel
theorem sw_5 : swt 182 24 5 = 209 := by decide +kernel
theorem sw_6 : swt 182 24 6 = 257 := by decide +kernel
theorem sw_7 : swt 182 24 7 = 285 := by decide +kernel
theorem sw_8 : swt 182 24 8 = 323 := by decide +kernel
theorem sw_9 : swt 182 24 9 = 389 := by decide +kernel
theorem sw_10 : swt 182 24 10 = 427 := by decide +kernel
theorem sw_11 : swt 182 24 11 = 455 := by decide +kernel
theorem sw_12 : swt 182 24 12 = 473 := by decide +kernel
theorem sw_13 : swt 182 24 13 = 501 := by decide +kernel
theorem sw_14 : swt 182 24 14 = 519 := by decide +kernel
theorem sw_15 : swt 182 24 15 = 537 := by decide +kernel
theorem sw_16 : swt 182 24 16 = 555 := by decide +kernel
theorem sw_17 : swt 182 24 17 = 573 := by decide +kernel
theorem sw_18 : swt 182 24 18 = 580 := by decide +kernel
theorem sw_19 : swt 182 24 19 = 598 := by decide +kernel
theorem sw_20 : swt 182 24 20 = 626 := by decide +kernel
theorem sw_21 : swt 182 24 21 = 654 := by decide +kernel
theorem sw_22 : swt 182 24 22 = 682 := by decide +kernel
theorem law_end {X : scr} {w : Nat} {M : mem} {ls : List (sx_V Int)} : At X w 182 702 ls [] M (qI (fun x _ => x = 1)) := by
  refine at_const (x := 1) dx_182_702 rfl ?_
  exact at_zretI dx_182_703 (Or.inr rfl) rfl
set_option maxHeartbeats 4000000 in
theorem law_loop {X : scr} (hL : X.1 ≤ 3072) : ∀ (r : Nat) (M : mem) (i : Int), 0 ≤ i → i ≤ X.1 → (X.1 : Int) ≤ i + 6 * r + 5 → R2 M M → At X r 182 13 [vs, vr 0, vr 856, vr 883, vi i] [] M (qI (fun x _ => x = 1)) := by
  intro r
  induction r with
  | zero =>
    intro M i h0 hi h5 hR
    exact law_head hL ⟨by omega, by omega⟩ (fun h6 => absurd h6 (by omega)) law_end
  | succ r ih =>
    intro M i h0 hi h5 hR
    have ri : inR i := ⟨by omega, by omega⟩
    refine law_head hL ri (fun h6 => ?_) law_end
    have K : ∀ M', R2 M' M' → At X r 182 700 [vs, vr 0, vr 856, vr 883, vi i] [] M' (qI (fun x _ => x = 1)) := fun M' C' => by
      refine at_iincR (y := 6) dx_182_700 rfl rfl ⟨by omega, by omega⟩ (fun r6 => ?_)
      refine at_goto dx_182_701 ?_
      exact ih M' (i + 6) (by omega) (by omega) (by omega) C'
    refine law_key hL h0 h6 ?_
    obtain ⟨a1, a2⟩ := and31 (sI X i)
    generalize ii_and (sI X i) 31 = v at a1 a2
    obtain ⟨n, rfl⟩ : ∃ n : Nat, v = n := ⟨v.toNat, by omega⟩
    refine at_switch dx_182_24 rfl (by omega) (fun hn => ?_) (fun hn => At.up (K M hR))
    rcases (show n = 0 ∨ n = 1 ∨ n = 2 ∨ n = 3 ∨ n = 4 ∨ n = 5 ∨ n = 6 ∨ n = 7 ∨ n = 8 ∨ n = 9 ∨ n = 10 ∨ n = 11 ∨ n = 12 ∨ n = 13 ∨ n = 14 ∨ n = 15 ∨ n = 16 ∨ n = 17 ∨ n = 18 ∨ n = 19 ∨ n = 20 ∨ n = 21 ∨ n = 22 by omega) with rfl | rfl | rfl | rfl | rfl | rfl | rfl | rfl | rfl | rfl | rfl | rfl | rfl | rfl | rfl | rfl | rfl | rfl | rfl | rfl | rfl | rfl | rfl
    · rw [sw_0]; exact b_rule hL ri h0 h6 hR K
    · rw [sw_1]; exact b_type hL ri h0 h6 hR K
    · rw [sw_2]; exact b_erase hL ri h0 h6 hR K
    · rw [sw_3]; exact b_split hL ri h0 h6 hR K
    · rw [sw_4]; exact b_join hL ri h0 h6 hR K
    · rw [sw_5]; exact b_wrap hL ri h0 h6 hR K
    · rw [sw_6]; exact b_unwrap hL ri h0 h6 hR K
    · rw [sw_7]; exact b_setType hL ri h0 h6 hR K
    · rw [sw_8]; exact b_mark hL ri h0 h6 hR K
    · rw [sw_9]; exact b_copy hL ri h0 h6 hR K
    · rw [sw_10]; exact b_paste hL ri h0 h6 hR K
    · rw [sw_11]; exact b_takeBack hL ri h0 h6 hR K
    · rw [sw_12]; exact b_revert hL ri h0 h6 hR K
    · rw [sw_13]; exact b_send hL ri h0 h6 hR K
    · rw [sw_14]; exact b_receive hL ri h0 h6 hR K
    · rw [sw_15]; exact b_lost hL ri h0 h6 hR K
    · rw [sw_16]; exact b_version hL ri h0 h6 hR K
    · rw [sw_17]; exact b_isBuilt hL ri h0 h6 hR K
    · rw [sw_18]; exact b_size hL ri h0 h6 hR K
    · rw [sw_19]; exact b_token hL ri h0 h6 hR K
    · rw [sw_20]; exact b_around hL ri h0 h6 hR K
    · rw [sw_21]; exact b_comment hL ri h0 h6 hR K
    · rw [sw_22]; exact b_commentAt hL ri h0 h6 hR K
