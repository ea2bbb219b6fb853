/-! ===== the law's loop ===== -/
section LW
variable {X : scr} {w m i q a b c n : Nat} {ls r : List (sx_V Int)} {st : List (sx_V Int)} {M : mem} {Q : Nat → sx_V Int → mem → Prop} {x y : Int} {k : Nat}
noncomputable def sI (X : scr) (j : Int) : Int := (X.2 j.toNat).toInt
theorem sI_R (X : scr) (j : Int) : inR (sI X j) := inR_of _
theorem At.up (A : At X w m i ls st M Q) : At X (w + 1) m i ls st M Q := fun lx h hl hM => by
  obtain ⟨n0, out, c1, M1, c2, c3, c4, c5⟩ := A lx h hl hM
  exact ⟨n0, out, c1, M1, c2, by omega, by omega, c5⟩
theorem at_alens (hd : cdx m i = (24, (a, b))) (hL : X.1 ≤ 3072) (K : At X w m (i + 1) ls (vi (X.1 : Int) :: st) M Q) : At X w m i ls (vs :: st) M Q := fun lx h hl hM =>
  ou_next hd (by decide) (fun call go c9 => by
    show go ((sx_cd m).drop (i + 1)) lx (vi (ii_k X.1) :: st) h = _
    have e2 : ii_k X.1 = (X.1 : Int) := by
      unfold ii_k
      rw [Nat.ble_eq_true_of_le (show X.1 ≤ 2147483647 by omega)]
      rfl
    rw [e2]) rfl rfl (K lx h hl hM)
theorem at_alds (hd : cdx m i = (6, (0, b))) (hL : X.1 ≤ 3072) (h0 : 0 ≤ x) (h1 : x < (X.1 : Int)) (K : At X w m (i + 1) ls (vi (sI X x) :: st) M Q) : At X w m i ls (vi x :: vs :: st) M Q := fun lx h hl hM =>
  ou_next hd (by decide) (fun call go c9 => by
    have e1 : sx_ix (oI X) x X.1 = some x.toNat := wr_ix h0 h1 (by omega)
    show cond (Nat.beq 0 0) (match sx_ix (oI X) x X.1 with
      | some j => go ((sx_cd m).drop (i + 1)) lx (vi ((X.2 j).toInt) :: st) h
      | none => none) none = _
    rw [e1]
    rfl) rfl rfl (K lx h hl hM)
theorem at_callN1 {as : List (sx_V Int)} {r : List (sx_V Int)} {P : Int → mem → Prop} (hd : cdx m i = (43, (a, b))) (hp : sx_pop (Nat.mod b 16) [] st = some (as, r)) (hs : (Nat.ble (sx_sw r) 8 && sx_n2 as) = true) (C : At X 1 a 0 as [] M (qI P)) (K : ∀ x M', inR x → P x M' → At X w m (i + 1) ls (vi x :: r) M' Q) : At X (w + 1) m i ls st M Q := fun lx h hl hM => by
  obtain ⟨x, e1, h41, rfl, rfl⟩ := cdx_ok hd (by decide)
  obtain ⟨n0, out, c1, M1, c2, c3, c4, c5⟩ := C (sx_args 0 as) h (lsR_entry (sx_a2 hs).2) hM
  obtain ⟨⟨t, v⟩, h'⟩ := out
  obtain ⟨ht, y, hv, hr, hP⟩ := c5
  have ht : t = 1 := ht
  have hv : v = vi y := hv
  subst ht
  subst hv
  have hcall : ∀ n, n0 ≤ n → sx_ca sx_cd (sx_run sx_cd (oI X) n) (sx_xa x) as h = some ((1, vi y), h') := c1
  obtain ⟨n1, out, k1, M2, k2, k3, k4, k5⟩ := K y M1 hr hP lx h' hl c2
  refine ⟨max n0 n1 + 1, out, fun n hn => ?_, M2, k2, ?_, ?_, k5⟩
  · obtain ⟨n, rfl⟩ : ∃ n', n = n' + 1 := ⟨n - 1, by omega⟩
    rw [e1, run_row, h41]
    show sh_callN (sx_ca sx_cd (sx_run sx_cd (oI X) n)) _ (sx_xa x) (sx_xb x) _ lx st h = _
    unfold sh_callN
    simp only [hp, hs, cond_true, hcall n (by omega)]
    exact k1 n (by omega)
  · have c3' : h'.2.2.1 ≤ h.2.2.1 + 1 := c3
    omega
  · have c4' : h'.2.2.2.1 ≤ h.2.2.2.1 + 6 * 1 := c4
    omega
noncomputable def swt (m i n : Nat) : Nat := match (sx_cd m)[i]? with
  | some x => Nat.mod (Nat.div (sx_xc x) (2048 ^ n)) 2048
  | none => 0
theorem at_switch {n : Nat} (hd : cdx m i = (37, (a, b))) (hx : x = (n : Int)) (hn : n < 2147483648) (K1 : n < a → At X w m (swt m i n) ls st M Q) (K2 : a ≤ n → At X w m b ls st M Q) : At X w m i ls (vi x :: st) M Q := fun lx h hl hM => by
  have hv : ii_val x = some n := ii_val_of (by rw [wr_eq (by omega) (by omega)]; exact hx)
  unfold cdx at hd
  split at hd
  · next y hy =>
    have q1 : sx_xq y = 37 := congrArg Prod.fst hd
    have q2 : sx_xa y = a := congrArg (fun z => z.2.1) hd
    have q3 : sx_xb y = b := congrArg (fun z => z.2.2) hd
    obtain ⟨g1, g2⟩ := List.getElem?_eq_some_iff.mp hy
    have e1 : (sx_cd m).drop i = y :: (sx_cd m).drop (i + 1) := by rw [← g2]; exact List.drop_eq_getElem_cons g1
    have hrow : ∀ n', sx_run sx_cd (oI X) (n' + 1) (sx_cd m) ((sx_cd m).drop i) lx (vi x :: st) h = cond (Nat.ble (n + 1) a) (sx_run sx_cd (oI X) n' (sx_cd m) ((sx_cd m).drop (Nat.mod (Nat.div (sx_xc y) (2048 ^ n)) 2048)) lx st h) (cond (Nat.ble (n + 1) 2147483648) (sx_run sx_cd (oI X) n' (sx_cd m) ((sx_cd m).drop b) lx st h) none) := fun n' => by
      rw [e1, run_row, q1, q2, q3]
      show (match ii_val x with
        | some n => cond (Nat.ble (n + 1) a) (sx_run sx_cd (oI X) n' (sx_cd m) ((sx_cd m).drop (Nat.mod (Nat.div (sx_xc y) (2048 ^ n)) 2048)) lx st h) (cond (Nat.ble (n + 1) 2147483648) (sx_run sx_cd (oI X) n' (sx_cd m) ((sx_cd m).drop b) lx st h) none)
        | none => none) = _
      rw [hv]
    have hsw : swt m i n = Nat.mod (Nat.div (sx_xc y) (2048 ^ n)) 2048 := by
      unfold swt
      rw [hy]
    by_cases hna : n < a
    · obtain ⟨n0, out, k1, k2⟩ := K1 hna lx h hl hM
      refine ⟨n0 + 1, out, fun n' hn' => ?_, k2⟩
      obtain ⟨n', rfl⟩ : ∃ n2, n' = n2 + 1 := ⟨n' - 1, by omega⟩
      rw [hrow, Nat.ble_eq_true_of_le (show n + 1 ≤ a by omega), cond_true, ← hsw]
      exact k1 n' (by omega)
    · obtain ⟨n0, out, k1, k2⟩ := K2 (by omega) lx h hl hM
      refine ⟨n0 + 1, out, fun n' hn' => ?_, k2⟩
      obtain ⟨n', rfl⟩ : ∃ n2, n' = n2 + 1 := ⟨n' - 1, by omega⟩
      have hb : Nat.ble (n + 1) a = false := by
        cases hq : Nat.ble (n + 1) a with
        | false => rfl
        | true => have := Nat.le_of_ble_eq_true hq; omega
      rw [hrow, hb, cond_false, Nat.ble_eq_true_of_le (show n + 1 ≤ 2147483648 by omega), cond_true]
      exact k1 n' (by omega)
  · cases hd
theorem and31 (x : Int) : 0 ≤ ii_and x 31 ∧ ii_and x 31 ≤ 31 := by
  have e : (Int32.ofInt 31).toBitVec.toNat = 31 := by decide +kernel
  have h : (Int32.ofInt x &&& Int32.ofInt 31).toBitVec.toNat ≤ 31 := by
    show ((Int32.ofInt x).toBitVec &&& (Int32.ofInt 31).toBitVec).toNat ≤ 31
    rw [BitVec.toNat_and, e]
    exact Nat.and_le_right
  have h2 : (Int32.ofInt x &&& Int32.ofInt 31).toInt = ((Int32.ofInt x &&& Int32.ofInt 31).toBitVec.toNat : Int) := by
    show BitVec.toInt _ = _
    exact BitVec.toInt_eq_toNat_of_lt (by omega)
  unfold ii_and
  rw [h2]
  omega
end LW

set_option maxRecDepth 100000 in
set_option maxHeartbeats 4000000 in
theorem b_rule {X : scr} {w : Nat} {M : mem} {Q : Nat → sx_V Int → mem → Prop} {i : Int} (hL : X.1 ≤ 3072) (ri : inR i) (h0 : 0 ≤ i) (h6 : i + 6 ≤ X.1) (hC : CI M) (hM : MI M) (K : ∀ M', CI M' → MI M' → At X w 181 694 [vs, vr 0, vr 856, vr 883, vi i] [] M' Q) : At X (w + 1) 181 25 [vs, vr 0, vr 856, vr 883, vi i] [] M Q := by
  refine at_aload dx_181_25 rfl ?_
  refine at_aloads dx_181_26 rfl ?_
  refine at_iload dx_181_27 rfl ?_
  refine at_const (x := 1) dx_181_28 rfl ?_
  refine at_addR dx_181_29 (by constructor <;> omega) (fun r29 => ?_)
  refine at_alds dx_181_30 hL (by first | omega | (simp (disch := omega) only [um_eq, um_k, um_j]; omega)) (by first | omega | (simp (disch := omega) only [um_eq, um_k, um_j]; omega)) ?_
  refine at_aloads dx_181_31 rfl ?_
  refine at_iload dx_181_32 rfl ?_
  refine at_const (x := 2) dx_181_33 rfl ?_
  refine at_addR dx_181_34 (by constructor <;> omega) (fun r34 => ?_)
  refine at_alds dx_181_35 hL (by first | omega | (simp (disch := omega) only [um_eq, um_k, um_j]; omega)) (by first | omega | (simp (disch := omega) only [um_eq, um_k, um_j]; omega)) ?_
  refine at_aloads dx_181_36 rfl ?_
  refine at_iload dx_181_37 rfl ?_
  refine at_const (x := 3) dx_181_38 rfl ?_
  refine at_addR dx_181_39 (by constructor <;> omega) (fun r39 => ?_)
  refine at_alds dx_181_40 hL (by first | omega | (simp (disch := omega) only [um_eq, um_k, um_j]; omega)) (by first | omega | (simp (disch := omega) only [um_eq, um_k, um_j]; omega)) ?_
  refine at_aloads dx_181_41 rfl ?_
  refine at_iload dx_181_42 rfl ?_
  refine at_const (x := 4) dx_181_43 rfl ?_
  refine at_addR dx_181_44 (by constructor <;> omega) (fun r44 => ?_)
  refine at_alds dx_181_45 hL (by first | omega | (simp (disch := omega) only [um_eq, um_k, um_j]; omega)) (by first | omega | (simp (disch := omega) only [um_eq, um_k, um_j]; omega)) ?_
  refine at_callN1 dx_181_46 rfl rfl (l_rule (sI_R _ _) (sI_R _ _) (sI_R _ _) (sI_R _ _) hC hM) ?_
  rintro x46 M8 r46 ⟨C8, K8⟩
  refine at_istore dx_181_47 ?_
  refine at_aload dx_181_48 rfl ?_
  refine at_aloads dx_181_49 rfl ?_
  refine at_iload dx_181_50 rfl ?_
  refine at_const (x := 1) dx_181_51 rfl ?_
  refine at_addR dx_181_52 (by constructor <;> omega) (fun r52 => ?_)
  refine at_alds dx_181_53 hL (by first | omega | (simp (disch := omega) only [um_eq, um_k, um_j]; omega)) (by first | omega | (simp (disch := omega) only [um_eq, um_k, um_j]; omega)) ?_
  refine at_aloads dx_181_54 rfl ?_
  refine at_iload dx_181_55 rfl ?_
  refine at_const (x := 2) dx_181_56 rfl ?_
  refine at_addR dx_181_57 (by constructor <;> omega) (fun r57 => ?_)
  refine at_alds dx_181_58 hL (by first | omega | (simp (disch := omega) only [um_eq, um_k, um_j]; omega)) (by first | omega | (simp (disch := omega) only [um_eq, um_k, um_j]; omega)) ?_
  refine at_aloads dx_181_59 rfl ?_
  refine at_iload dx_181_60 rfl ?_
  refine at_const (x := 3) dx_181_61 rfl ?_
  refine at_addR dx_181_62 (by constructor <;> omega) (fun r62 => ?_)
  refine at_alds dx_181_63 hL (by first | omega | (simp (disch := omega) only [um_eq, um_k, um_j]; omega)) (by first | omega | (simp (disch := omega) only [um_eq, um_k, um_j]; omega)) ?_
  refine at_aloads dx_181_64 rfl ?_
  refine at_iload dx_181_65 rfl ?_
  refine at_const (x := 4) dx_181_66 rfl ?_
  refine at_addR dx_181_67 (by constructor <;> omega) (fun r67 => ?_)
  refine at_alds dx_181_68 hL (by first | omega | (simp (disch := omega) only [um_eq, um_k, um_j]; omega)) (by first | omega | (simp (disch := omega) only [um_eq, um_k, um_j]; omega)) ?_
  refine at_callVV dx_181_69 rfl lc_856 rfl (r_rule (sI_R _ _) (sI_R _ _) (sI_R _ _) (sI_R _ _) K8) ?_
  rintro M9 ⟨K9, f9⟩
  refine at_goto dx_181_70 ?_
  refine at_wk (ls := [vs, vr 0, vr 856, vr 883, vi i]) ⟨Or.inl rfl, Or.inl rfl, Or.inl rfl, Or.inl rfl, Or.inl rfl, trivial⟩ ?_
  exact K _ (CI_fr C8 f9) K9

set_option maxRecDepth 100000 in
set_option maxHeartbeats 4000000 in
theorem b_type {X : scr} {w : Nat} {M : mem} {Q : Nat → sx_V Int → mem → Prop} {i : Int} (hL : X.1 ≤ 3072) (ri : inR i) (h0 : 0 ≤ i) (h6 : i + 6 ≤ X.1) (hC : CI M) (hM : MI M) (K : ∀ M', CI M' → MI M' → At X w 181 694 [vs, vr 0, vr 856, vr 883, vi i] [] M' Q) : At X (w + 1) 181 71 [vs, vr 0, vr 856, vr 883, vi i] [] M Q := by
  refine at_aload dx_181_71 rfl ?_
  refine at_aloads dx_181_72 rfl ?_
  refine at_iload dx_181_73 rfl ?_
  refine at_const (x := 1) dx_181_74 rfl ?_
  refine at_addR dx_181_75 (by constructor <;> omega) (fun r75 => ?_)
  refine at_alds dx_181_76 hL (by first | omega | (simp (disch := omega) only [um_eq, um_k, um_j]; omega)) (by first | omega | (simp (disch := omega) only [um_eq, um_k, um_j]; omega)) ?_
  refine at_aloads dx_181_77 rfl ?_
  refine at_iload dx_181_78 rfl ?_
  refine at_const (x := 2) dx_181_79 rfl ?_
  refine at_addR dx_181_80 (by constructor <;> omega) (fun r80 => ?_)
  refine at_alds dx_181_81 hL (by first | omega | (simp (disch := omega) only [um_eq, um_k, um_j]; omega)) (by first | omega | (simp (disch := omega) only [um_eq, um_k, um_j]; omega)) ?_
  refine at_aloads dx_181_82 rfl ?_
  refine at_iload dx_181_83 rfl ?_
  refine at_const (x := 3) dx_181_84 rfl ?_
  refine at_addR dx_181_85 (by constructor <;> omega) (fun r85 => ?_)
  refine at_alds dx_181_86 hL (by first | omega | (simp (disch := omega) only [um_eq, um_k, um_j]; omega)) (by first | omega | (simp (disch := omega) only [um_eq, um_k, um_j]; omega)) ?_
  refine at_aload dx_181_87 rfl ?_
  refine at_callN1 dx_181_88 rfl rfl (l_type (sI_R _ _) (sI_R _ _) (sI_R _ _) hC hM) ?_
  rintro x88 M8 r88 ⟨C8, K8⟩
  refine at_istore dx_181_89 ?_
  refine at_aload dx_181_90 rfl ?_
  refine at_aloads dx_181_91 rfl ?_
  refine at_iload dx_181_92 rfl ?_
  refine at_const (x := 1) dx_181_93 rfl ?_
  refine at_addR dx_181_94 (by constructor <;> omega) (fun r94 => ?_)
  refine at_alds dx_181_95 hL (by first | omega | (simp (disch := omega) only [um_eq, um_k, um_j]; omega)) (by first | omega | (simp (disch := omega) only [um_eq, um_k, um_j]; omega)) ?_
  refine at_aloads dx_181_96 rfl ?_
  refine at_iload dx_181_97 rfl ?_
  refine at_const (x := 2) dx_181_98 rfl ?_
  refine at_addR dx_181_99 (by constructor <;> omega) (fun r99 => ?_)
  refine at_alds dx_181_100 hL (by first | omega | (simp (disch := omega) only [um_eq, um_k, um_j]; omega)) (by first | omega | (simp (disch := omega) only [um_eq, um_k, um_j]; omega)) ?_
  refine at_aloads dx_181_101 rfl ?_
  refine at_iload dx_181_102 rfl ?_
  refine at_const (x := 3) dx_181_103 rfl ?_
  refine at_addR dx_181_104 (by constructor <;> omega) (fun r104 => ?_)
  refine at_alds dx_181_105 hL (by first | omega | (simp (disch := omega) only [um_eq, um_k, um_j]; omega)) (by first | omega | (simp (disch := omega) only [um_eq, um_k, um_j]; omega)) ?_
  refine at_callVI dx_181_106 rfl lc_856 rfl (r_type (sI_R _ _) (sI_R _ _) (sI_R _ _) K8) ?_
  rintro x106 M9 r106 ⟨K9, f9⟩
  refine at_istore dx_181_107 ?_
  refine at_goto dx_181_108 ?_
  refine at_wk (ls := [vs, vr 0, vr 856, vr 883, vi i]) ⟨Or.inl rfl, Or.inl rfl, Or.inl rfl, Or.inl rfl, Or.inl rfl, trivial⟩ ?_
  exact K _ (CI_fr C8 f9) K9

set_option maxRecDepth 100000 in
set_option maxHeartbeats 4000000 in
theorem b_erase {X : scr} {w : Nat} {M : mem} {Q : Nat → sx_V Int → mem → Prop} {i : Int} (hL : X.1 ≤ 3072) (ri : inR i) (h0 : 0 ≤ i) (h6 : i + 6 ≤ X.1) (hC : CI M) (hM : MI M) (K : ∀ M', CI M' → MI M' → At X w 181 694 [vs, vr 0, vr 856, vr 883, vi i] [] M' Q) : At X (w + 1) 181 109 [vs, vr 0, vr 856, vr 883, vi i] [] M Q := by
  refine at_aload dx_181_109 rfl ?_
  refine at_aloads dx_181_110 rfl ?_
  refine at_iload dx_181_111 rfl ?_
  refine at_const (x := 1) dx_181_112 rfl ?_
  refine at_addR dx_181_113 (by constructor <;> omega) (fun r113 => ?_)
  refine at_alds dx_181_114 hL (by first | omega | (simp (disch := omega) only [um_eq, um_k, um_j]; omega)) (by first | omega | (simp (disch := omega) only [um_eq, um_k, um_j]; omega)) ?_
  refine at_aloads dx_181_115 rfl ?_
  refine at_iload dx_181_116 rfl ?_
  refine at_const (x := 2) dx_181_117 rfl ?_
  refine at_addR dx_181_118 (by constructor <;> omega) (fun r118 => ?_)
  refine at_alds dx_181_119 hL (by first | omega | (simp (disch := omega) only [um_eq, um_k, um_j]; omega)) (by first | omega | (simp (disch := omega) only [um_eq, um_k, um_j]; omega)) ?_
  refine at_aloads dx_181_120 rfl ?_
  refine at_iload dx_181_121 rfl ?_
  refine at_const (x := 3) dx_181_122 rfl ?_
  refine at_addR dx_181_123 (by constructor <;> omega) (fun r123 => ?_)
  refine at_alds dx_181_124 hL (by first | omega | (simp (disch := omega) only [um_eq, um_k, um_j]; omega)) (by first | omega | (simp (disch := omega) only [um_eq, um_k, um_j]; omega)) ?_
  refine at_aload dx_181_125 rfl ?_
  refine at_callN1 dx_181_126 rfl rfl (l_erase (sI_R _ _) (sI_R _ _) (sI_R _ _) hC hM) ?_
  rintro x126 M8 r126 ⟨C8, K8⟩
  refine at_istore dx_181_127 ?_
  refine at_aload dx_181_128 rfl ?_
  refine at_aloads dx_181_129 rfl ?_
  refine at_iload dx_181_130 rfl ?_
  refine at_const (x := 1) dx_181_131 rfl ?_
  refine at_addR dx_181_132 (by constructor <;> omega) (fun r132 => ?_)
  refine at_alds dx_181_133 hL (by first | omega | (simp (disch := omega) only [um_eq, um_k, um_j]; omega)) (by first | omega | (simp (disch := omega) only [um_eq, um_k, um_j]; omega)) ?_
  refine at_aloads dx_181_134 rfl ?_
  refine at_iload dx_181_135 rfl ?_
  refine at_const (x := 2) dx_181_136 rfl ?_
  refine at_addR dx_181_137 (by constructor <;> omega) (fun r137 => ?_)
  refine at_alds dx_181_138 hL (by first | omega | (simp (disch := omega) only [um_eq, um_k, um_j]; omega)) (by first | omega | (simp (disch := omega) only [um_eq, um_k, um_j]; omega)) ?_
  refine at_aloads dx_181_139 rfl ?_
  refine at_iload dx_181_140 rfl ?_
  refine at_const (x := 3) dx_181_141 rfl ?_
  refine at_addR dx_181_142 (by constructor <;> omega) (fun r142 => ?_)
  refine at_alds dx_181_143 hL (by first | omega | (simp (disch := omega) only [um_eq, um_k, um_j]; omega)) (by first | omega | (simp (disch := omega) only [um_eq, um_k, um_j]; omega)) ?_
  refine at_callVI dx_181_144 rfl lc_856 rfl (r_erase (sI_R _ _) (sI_R _ _) (sI_R _ _) K8) ?_
  rintro x144 M9 r144 ⟨K9, f9⟩
  refine at_istore dx_181_145 ?_
  refine at_goto dx_181_146 ?_
  refine at_wk (ls := [vs, vr 0, vr 856, vr 883, vi i]) ⟨Or.inl rfl, Or.inl rfl, Or.inl rfl, Or.inl rfl, Or.inl rfl, trivial⟩ ?_
  exact K _ (CI_fr C8 f9) K9

set_option maxRecDepth 100000 in
set_option maxHeartbeats 4000000 in
theorem b_split {X : scr} {w : Nat} {M : mem} {Q : Nat → sx_V Int → mem → Prop} {i : Int} (hL : X.1 ≤ 3072) (ri : inR i) (h0 : 0 ≤ i) (h6 : i + 6 ≤ X.1) (hC : CI M) (hM : MI M) (K : ∀ M', CI M' → MI M' → At X w 181 694 [vs, vr 0, vr 856, vr 883, vi i] [] M' Q) : At X (w + 1) 181 147 [vs, vr 0, vr 856, vr 883, vi i] [] M Q := by
  refine at_aload dx_181_147 rfl ?_
  refine at_aloads dx_181_148 rfl ?_
  refine at_iload dx_181_149 rfl ?_
  refine at_const (x := 1) dx_181_150 rfl ?_
  refine at_addR dx_181_151 (by constructor <;> omega) (fun r151 => ?_)
  refine at_alds dx_181_152 hL (by first | omega | (simp (disch := omega) only [um_eq, um_k, um_j]; omega)) (by first | omega | (simp (disch := omega) only [um_eq, um_k, um_j]; omega)) ?_
  refine at_aloads dx_181_153 rfl ?_
  refine at_iload dx_181_154 rfl ?_
  refine at_const (x := 2) dx_181_155 rfl ?_
  refine at_addR dx_181_156 (by constructor <;> omega) (fun r156 => ?_)
  refine at_alds dx_181_157 hL (by first | omega | (simp (disch := omega) only [um_eq, um_k, um_j]; omega)) (by first | omega | (simp (disch := omega) only [um_eq, um_k, um_j]; omega)) ?_
  refine at_aload dx_181_158 rfl ?_
  refine at_callN1 dx_181_159 rfl rfl (l_split (sI_R _ _) (sI_R _ _) hC hM) ?_
  rintro x159 M8 r159 ⟨C8, K8⟩
  refine at_istore dx_181_160 ?_
  refine at_aload dx_181_161 rfl ?_
  refine at_aloads dx_181_162 rfl ?_
  refine at_iload dx_181_163 rfl ?_
  refine at_const (x := 1) dx_181_164 rfl ?_
  refine at_addR dx_181_165 (by constructor <;> omega) (fun r165 => ?_)
  refine at_alds dx_181_166 hL (by first | omega | (simp (disch := omega) only [um_eq, um_k, um_j]; omega)) (by first | omega | (simp (disch := omega) only [um_eq, um_k, um_j]; omega)) ?_
  refine at_aloads dx_181_167 rfl ?_
  refine at_iload dx_181_168 rfl ?_
  refine at_const (x := 2) dx_181_169 rfl ?_
  refine at_addR dx_181_170 (by constructor <;> omega) (fun r170 => ?_)
  refine at_alds dx_181_171 hL (by first | omega | (simp (disch := omega) only [um_eq, um_k, um_j]; omega)) (by first | omega | (simp (disch := omega) only [um_eq, um_k, um_j]; omega)) ?_
  refine at_callVI dx_181_172 rfl lc_856 rfl (r_split (sI_R _ _) (sI_R _ _) K8) ?_
  rintro x172 M9 r172 ⟨K9, f9⟩
  refine at_istore dx_181_173 ?_
  refine at_goto dx_181_174 ?_
  refine at_wk (ls := [vs, vr 0, vr 856, vr 883, vi i]) ⟨Or.inl rfl, Or.inl rfl, Or.inl rfl, Or.inl rfl, Or.inl rfl, trivial⟩ ?_
  exact K _ (CI_fr C8 f9) K9

set_option maxRecDepth 100000 in
set_option maxHeartbeats 4000000 in
theorem b_join {X : scr} {w : Nat} {M : mem} {Q : Nat → sx_V Int → mem → Prop} {i : Int} (hL : X.1 ≤ 3072) (ri : inR i) (h0 : 0 ≤ i) (h6 : i + 6 ≤ X.1) (hC : CI M) (hM : MI M) (K : ∀ M', CI M' → MI M' → At X w 181 694 [vs, vr 0, vr 856, vr 883, vi i] [] M' Q) : At X (w + 1) 181 175 [vs, vr 0, vr 856, vr 883, vi i] [] M Q := by
  refine at_aload dx_181_175 rfl ?_
  refine at_aloads dx_181_176 rfl ?_
  refine at_iload dx_181_177 rfl ?_
  refine at_const (x := 1) dx_181_178 rfl ?_
  refine at_addR dx_181_179 (by constructor <;> omega) (fun r179 => ?_)
  refine at_alds dx_181_180 hL (by first | omega | (simp (disch := omega) only [um_eq, um_k, um_j]; omega)) (by first | omega | (simp (disch := omega) only [um_eq, um_k, um_j]; omega)) ?_
  refine at_aloads dx_181_181 rfl ?_
  refine at_iload dx_181_182 rfl ?_
  refine at_const (x := 2) dx_181_183 rfl ?_
  refine at_addR dx_181_184 (by constructor <;> omega) (fun r184 => ?_)
  refine at_alds dx_181_185 hL (by first | omega | (simp (disch := omega) only [um_eq, um_k, um_j]; omega)) (by first | omega | (simp (disch := omega) only [um_eq, um_k, um_j]; omega)) ?_
  refine at_aload dx_181_186 rfl ?_
  refine at_callN1 dx_181_187 rfl rfl (l_join (sI_R _ _) (sI_R _ _) hC hM) ?_
  rintro x187 M8 r187 ⟨C8, K8⟩
  refine at_istore dx_181_188 ?_
  refine at_aload dx_181_189 rfl ?_
  refine at_aloads dx_181_190 rfl ?_
  refine at_iload dx_181_191 rfl ?_
  refine at_const (x := 1) dx_181_192 rfl ?_
  refine at_addR dx_181_193 (by constructor <;> omega) (fun r193 => ?_)
  refine at_alds dx_181_194 hL (by first | omega | (simp (disch := omega) only [um_eq, um_k, um_j]; omega)) (by first | omega | (simp (disch := omega) only [um_eq, um_k, um_j]; omega)) ?_
  refine at_aloads dx_181_195 rfl ?_
  refine at_iload dx_181_196 rfl ?_
  refine at_const (x := 2) dx_181_197 rfl ?_
  refine at_addR dx_181_198 (by constructor <;> omega) (fun r198 => ?_)
  refine at_alds dx_181_199 hL (by first | omega | (simp (disch := omega) only [um_eq, um_k, um_j]; omega)) (by first | omega | (simp (disch := omega) only [um_eq, um_k, um_j]; omega)) ?_
  refine at_callVI dx_181_200 rfl lc_856 rfl (r_join (sI_R _ _) (sI_R _ _) K8) ?_
  rintro x200 M9 r200 ⟨K9, f9⟩
  refine at_istore dx_181_201 ?_
  refine at_goto dx_181_202 ?_
  refine at_wk (ls := [vs, vr 0, vr 856, vr 883, vi i]) ⟨Or.inl rfl, Or.inl rfl, Or.inl rfl, Or.inl rfl, Or.inl rfl, trivial⟩ ?_
  exact K _ (CI_fr C8 f9) K9

set_option maxRecDepth 100000 in
set_option maxHeartbeats 4000000 in
theorem b_wrap {X : scr} {w : Nat} {M : mem} {Q : Nat → sx_V Int → mem → Prop} {i : Int} (hL : X.1 ≤ 3072) (ri : inR i) (h0 : 0 ≤ i) (h6 : i + 6 ≤ X.1) (hC : CI M) (hM : MI M) (K : ∀ M', CI M' → MI M' → At X w 181 694 [vs, vr 0, vr 856, vr 883, vi i] [] M' Q) : At X (w + 1) 181 203 [vs, vr 0, vr 856, vr 883, vi i] [] M Q := by
  refine at_aload dx_181_203 rfl ?_
  refine at_aloads dx_181_204 rfl ?_
  refine at_iload dx_181_205 rfl ?_
  refine at_const (x := 1) dx_181_206 rfl ?_
  refine at_addR dx_181_207 (by constructor <;> omega) (fun r207 => ?_)
  refine at_alds dx_181_208 hL (by first | omega | (simp (disch := omega) only [um_eq, um_k, um_j]; omega)) (by first | omega | (simp (disch := omega) only [um_eq, um_k, um_j]; omega)) ?_
  refine at_aloads dx_181_209 rfl ?_
  refine at_iload dx_181_210 rfl ?_
  refine at_const (x := 2) dx_181_211 rfl ?_
  refine at_addR dx_181_212 (by constructor <;> omega) (fun r212 => ?_)
  refine at_alds dx_181_213 hL (by first | omega | (simp (disch := omega) only [um_eq, um_k, um_j]; omega)) (by first | omega | (simp (disch := omega) only [um_eq, um_k, um_j]; omega)) ?_
  refine at_aloads dx_181_214 rfl ?_
  refine at_iload dx_181_215 rfl ?_
  refine at_const (x := 3) dx_181_216 rfl ?_
  refine at_addR dx_181_217 (by constructor <;> omega) (fun r217 => ?_)
  refine at_alds dx_181_218 hL (by first | omega | (simp (disch := omega) only [um_eq, um_k, um_j]; omega)) (by first | omega | (simp (disch := omega) only [um_eq, um_k, um_j]; omega)) ?_
  refine at_aloads dx_181_219 rfl ?_
  refine at_iload dx_181_220 rfl ?_
  refine at_const (x := 4) dx_181_221 rfl ?_
  refine at_addR dx_181_222 (by constructor <;> omega) (fun r222 => ?_)
  refine at_alds dx_181_223 hL (by first | omega | (simp (disch := omega) only [um_eq, um_k, um_j]; omega)) (by first | omega | (simp (disch := omega) only [um_eq, um_k, um_j]; omega)) ?_
  refine at_aload dx_181_224 rfl ?_
  refine at_callN1 dx_181_225 rfl rfl (l_wrap (sI_R _ _) (sI_R _ _) (sI_R _ _) (sI_R _ _) hC hM) ?_
  rintro x225 M8 r225 ⟨C8, K8⟩
  refine at_istore dx_181_226 ?_
  refine at_aload dx_181_227 rfl ?_
  refine at_aloads dx_181_228 rfl ?_
  refine at_iload dx_181_229 rfl ?_
  refine at_const (x := 1) dx_181_230 rfl ?_
  refine at_addR dx_181_231 (by constructor <;> omega) (fun r231 => ?_)
  refine at_alds dx_181_232 hL (by first | omega | (simp (disch := omega) only [um_eq, um_k, um_j]; omega)) (by first | omega | (simp (disch := omega) only [um_eq, um_k, um_j]; omega)) ?_
  refine at_aloads dx_181_233 rfl ?_
  refine at_iload dx_181_234 rfl ?_
  refine at_const (x := 2) dx_181_235 rfl ?_
  refine at_addR dx_181_236 (by constructor <;> omega) (fun r236 => ?_)
  refine at_alds dx_181_237 hL (by first | omega | (simp (disch := omega) only [um_eq, um_k, um_j]; omega)) (by first | omega | (simp (disch := omega) only [um_eq, um_k, um_j]; omega)) ?_
  refine at_aloads dx_181_238 rfl ?_
  refine at_iload dx_181_239 rfl ?_
  refine at_const (x := 3) dx_181_240 rfl ?_
  refine at_addR dx_181_241 (by constructor <;> omega) (fun r241 => ?_)
  refine at_alds dx_181_242 hL (by first | omega | (simp (disch := omega) only [um_eq, um_k, um_j]; omega)) (by first | omega | (simp (disch := omega) only [um_eq, um_k, um_j]; omega)) ?_
  refine at_aloads dx_181_243 rfl ?_
  refine at_iload dx_181_244 rfl ?_
  refine at_const (x := 4) dx_181_245 rfl ?_
  refine at_addR dx_181_246 (by constructor <;> omega) (fun r246 => ?_)
  refine at_alds dx_181_247 hL (by first | omega | (simp (disch := omega) only [um_eq, um_k, um_j]; omega)) (by first | omega | (simp (disch := omega) only [um_eq, um_k, um_j]; omega)) ?_
  refine at_callVI dx_181_248 rfl lc_856 rfl (r_wrap (sI_R _ _) (sI_R _ _) (sI_R _ _) (sI_R _ _) K8) ?_
  rintro x248 M9 r248 ⟨K9, f9⟩
  refine at_istore dx_181_249 ?_
  refine at_goto dx_181_250 ?_
  refine at_wk (ls := [vs, vr 0, vr 856, vr 883, vi i]) ⟨Or.inl rfl, Or.inl rfl, Or.inl rfl, Or.inl rfl, Or.inl rfl, trivial⟩ ?_
  exact K _ (CI_fr C8 f9) K9

set_option maxRecDepth 100000 in
set_option maxHeartbeats 4000000 in
theorem b_unwrap {X : scr} {w : Nat} {M : mem} {Q : Nat → sx_V Int → mem → Prop} {i : Int} (hL : X.1 ≤ 3072) (ri : inR i) (h0 : 0 ≤ i) (h6 : i + 6 ≤ X.1) (hC : CI M) (hM : MI M) (K : ∀ M', CI M' → MI M' → At X w 181 694 [vs, vr 0, vr 856, vr 883, vi i] [] M' Q) : At X (w + 1) 181 251 [vs, vr 0, vr 856, vr 883, vi i] [] M Q := by
  refine at_aload dx_181_251 rfl ?_
  refine at_aloads dx_181_252 rfl ?_
  refine at_iload dx_181_253 rfl ?_
  refine at_const (x := 1) dx_181_254 rfl ?_
  refine at_addR dx_181_255 (by constructor <;> omega) (fun r255 => ?_)
  refine at_alds dx_181_256 hL (by first | omega | (simp (disch := omega) only [um_eq, um_k, um_j]; omega)) (by first | omega | (simp (disch := omega) only [um_eq, um_k, um_j]; omega)) ?_
  refine at_aloads dx_181_257 rfl ?_
  refine at_iload dx_181_258 rfl ?_
  refine at_const (x := 2) dx_181_259 rfl ?_
  refine at_addR dx_181_260 (by constructor <;> omega) (fun r260 => ?_)
  refine at_alds dx_181_261 hL (by first | omega | (simp (disch := omega) only [um_eq, um_k, um_j]; omega)) (by first | omega | (simp (disch := omega) only [um_eq, um_k, um_j]; omega)) ?_
  refine at_aload dx_181_262 rfl ?_
  refine at_callN1 dx_181_263 rfl rfl (l_unwrap (sI_R _ _) (sI_R _ _) hC hM) ?_
  rintro x263 M8 r263 ⟨C8, K8⟩
  refine at_istore dx_181_264 ?_
  refine at_aload dx_181_265 rfl ?_
  refine at_aloads dx_181_266 rfl ?_
  refine at_iload dx_181_267 rfl ?_
  refine at_const (x := 1) dx_181_268 rfl ?_
  refine at_addR dx_181_269 (by constructor <;> omega) (fun r269 => ?_)
  refine at_alds dx_181_270 hL (by first | omega | (simp (disch := omega) only [um_eq, um_k, um_j]; omega)) (by first | omega | (simp (disch := omega) only [um_eq, um_k, um_j]; omega)) ?_
  refine at_aloads dx_181_271 rfl ?_
  refine at_iload dx_181_272 rfl ?_
  refine at_const (x := 2) dx_181_273 rfl ?_
  refine at_addR dx_181_274 (by constructor <;> omega) (fun r274 => ?_)
  refine at_alds dx_181_275 hL (by first | omega | (simp (disch := omega) only [um_eq, um_k, um_j]; omega)) (by first | omega | (simp (disch := omega) only [um_eq, um_k, um_j]; omega)) ?_
  refine at_callVI dx_181_276 rfl lc_856 rfl (r_unwrap (sI_R _ _) (sI_R _ _) K8) ?_
  rintro x276 M9 r276 ⟨K9, f9⟩
  refine at_istore dx_181_277 ?_
  refine at_goto dx_181_278 ?_
  refine at_wk (ls := [vs, vr 0, vr 856, vr 883, vi i]) ⟨Or.inl rfl, Or.inl rfl, Or.inl rfl, Or.inl rfl, Or.inl rfl, trivial⟩ ?_
  exact K _ (CI_fr C8 f9) K9

set_option maxRecDepth 100000 in
set_option maxHeartbeats 4000000 in
theorem b_setType {X : scr} {w : Nat} {M : mem} {Q : Nat → sx_V Int → mem → Prop} {i : Int} (hL : X.1 ≤ 3072) (ri : inR i) (h0 : 0 ≤ i) (h6 : i + 6 ≤ X.1) (hC : CI M) (hM : MI M) (K : ∀ M', CI M' → MI M' → At X w 181 694 [vs, vr 0, vr 856, vr 883, vi i] [] M' Q) : At X (w + 1) 181 279 [vs, vr 0, vr 856, vr 883, vi i] [] M Q := by
  refine at_aload dx_181_279 rfl ?_
  refine at_aloads dx_181_280 rfl ?_
  refine at_iload dx_181_281 rfl ?_
  refine at_const (x := 1) dx_181_282 rfl ?_
  refine at_addR dx_181_283 (by constructor <;> omega) (fun r283 => ?_)
  refine at_alds dx_181_284 hL (by first | omega | (simp (disch := omega) only [um_eq, um_k, um_j]; omega)) (by first | omega | (simp (disch := omega) only [um_eq, um_k, um_j]; omega)) ?_
  refine at_aloads dx_181_285 rfl ?_
  refine at_iload dx_181_286 rfl ?_
  refine at_const (x := 2) dx_181_287 rfl ?_
  refine at_addR dx_181_288 (by constructor <;> omega) (fun r288 => ?_)
  refine at_alds dx_181_289 hL (by first | omega | (simp (disch := omega) only [um_eq, um_k, um_j]; omega)) (by first | omega | (simp (disch := omega) only [um_eq, um_k, um_j]; omega)) ?_
  refine at_aloads dx_181_290 rfl ?_
  refine at_iload dx_181_291 rfl ?_
  refine at_const (x := 3) dx_181_292 rfl ?_
  refine at_addR dx_181_293 (by constructor <;> omega) (fun r293 => ?_)
  refine at_alds dx_181_294 hL (by first | omega | (simp (disch := omega) only [um_eq, um_k, um_j]; omega)) (by first | omega | (simp (disch := omega) only [um_eq, um_k, um_j]; omega)) ?_
  refine at_aload dx_181_295 rfl ?_
  refine at_callN1 dx_181_296 rfl rfl (l_setType (sI_R _ _) (sI_R _ _) (sI_R _ _) hC hM) ?_
  rintro x296 M8 r296 ⟨C8, K8⟩
  refine at_istore dx_181_297 ?_
  refine at_aload dx_181_298 rfl ?_
  refine at_aloads dx_181_299 rfl ?_
  refine at_iload dx_181_300 rfl ?_
  refine at_const (x := 1) dx_181_301 rfl ?_
  refine at_addR dx_181_302 (by constructor <;> omega) (fun r302 => ?_)
  refine at_alds dx_181_303 hL (by first | omega | (simp (disch := omega) only [um_eq, um_k, um_j]; omega)) (by first | omega | (simp (disch := omega) only [um_eq, um_k, um_j]; omega)) ?_
  refine at_aloads dx_181_304 rfl ?_
  refine at_iload dx_181_305 rfl ?_
  refine at_const (x := 2) dx_181_306 rfl ?_
  refine at_addR dx_181_307 (by constructor <;> omega) (fun r307 => ?_)
  refine at_alds dx_181_308 hL (by first | omega | (simp (disch := omega) only [um_eq, um_k, um_j]; omega)) (by first | omega | (simp (disch := omega) only [um_eq, um_k, um_j]; omega)) ?_
  refine at_aloads dx_181_309 rfl ?_
  refine at_iload dx_181_310 rfl ?_
  refine at_const (x := 3) dx_181_311 rfl ?_
  refine at_addR dx_181_312 (by constructor <;> omega) (fun r312 => ?_)
  refine at_alds dx_181_313 hL (by first | omega | (simp (disch := omega) only [um_eq, um_k, um_j]; omega)) (by first | omega | (simp (disch := omega) only [um_eq, um_k, um_j]; omega)) ?_
  refine at_callVI dx_181_314 rfl lc_856 rfl (r_setType (sI_R _ _) (sI_R _ _) (sI_R _ _) K8) ?_
  rintro x314 M9 r314 ⟨K9, f9⟩
  refine at_istore dx_181_315 ?_
  refine at_goto dx_181_316 ?_
  refine at_wk (ls := [vs, vr 0, vr 856, vr 883, vi i]) ⟨Or.inl rfl, Or.inl rfl, Or.inl rfl, Or.inl rfl, Or.inl rfl, trivial⟩ ?_
  exact K _ (CI_fr C8 f9) K9

set_option maxRecDepth 100000 in
set_option maxHeartbeats 4000000 in
theorem b_mark {X : scr} {w : Nat} {M : mem} {Q : Nat → sx_V Int → mem → Prop} {i : Int} (hL : X.1 ≤ 3072) (ri : inR i) (h0 : 0 ≤ i) (h6 : i + 6 ≤ X.1) (hC : CI M) (hM : MI M) (K : ∀ M', CI M' → MI M' → At X w 181 694 [vs, vr 0, vr 856, vr 883, vi i] [] M' Q) : At X (w + 1) 181 317 [vs, vr 0, vr 856, vr 883, vi i] [] M Q := by
  refine at_aload dx_181_317 rfl ?_
  refine at_aloads dx_181_318 rfl ?_
  refine at_iload dx_181_319 rfl ?_
  refine at_const (x := 1) dx_181_320 rfl ?_
  refine at_addR dx_181_321 (by constructor <;> omega) (fun r321 => ?_)
  refine at_alds dx_181_322 hL (by first | omega | (simp (disch := omega) only [um_eq, um_k, um_j]; omega)) (by first | omega | (simp (disch := omega) only [um_eq, um_k, um_j]; omega)) ?_
  refine at_aloads dx_181_323 rfl ?_
  refine at_iload dx_181_324 rfl ?_
  refine at_const (x := 2) dx_181_325 rfl ?_
  refine at_addR dx_181_326 (by constructor <;> omega) (fun r326 => ?_)
  refine at_alds dx_181_327 hL (by first | omega | (simp (disch := omega) only [um_eq, um_k, um_j]; omega)) (by first | omega | (simp (disch := omega) only [um_eq, um_k, um_j]; omega)) ?_
  refine at_aloads dx_181_328 rfl ?_
  refine at_iload dx_181_329 rfl ?_
  refine at_const (x := 3) dx_181_330 rfl ?_
  refine at_addR dx_181_331 (by constructor <;> omega) (fun r331 => ?_)
  refine at_alds dx_181_332 hL (by first | omega | (simp (disch := omega) only [um_eq, um_k, um_j]; omega)) (by first | omega | (simp (disch := omega) only [um_eq, um_k, um_j]; omega)) ?_
  refine at_aloads dx_181_333 rfl ?_
  refine at_iload dx_181_334 rfl ?_
  refine at_const (x := 4) dx_181_335 rfl ?_
  refine at_addR dx_181_336 (by constructor <;> omega) (fun r336 => ?_)
  refine at_alds dx_181_337 hL (by first | omega | (simp (disch := omega) only [um_eq, um_k, um_j]; omega)) (by first | omega | (simp (disch := omega) only [um_eq, um_k, um_j]; omega)) ?_
  refine at_aloads dx_181_338 rfl ?_
  refine at_iload dx_181_339 rfl ?_
  refine at_const (x := 5) dx_181_340 rfl ?_
  refine at_addR dx_181_341 (by constructor <;> omega) (fun r341 => ?_)
  refine at_alds dx_181_342 hL (by first | omega | (simp (disch := omega) only [um_eq, um_k, um_j]; omega)) (by first | omega | (simp (disch := omega) only [um_eq, um_k, um_j]; omega)) ?_
  refine at_zeqR dx_181_343 (sI_R _ _) (fun c343 => ?_) (fun c343 => ?_)
  · skip
    refine at_const (x := 0) dx_181_346 rfl ?_
    refine at_aload dx_181_347 rfl ?_
    refine at_callN1 dx_181_348 rfl rfl (l_mark (sI_R _ _) (sI_R _ _) (sI_R _ _) (sI_R _ _) (by decide) (Or.inl rfl) hC hM) ?_
    rintro x348 M8 r348 ⟨C8, K8⟩
    refine at_istore dx_181_349 ?_
    refine at_aload dx_181_350 rfl ?_
    refine at_aloads dx_181_351 rfl ?_
    refine at_iload dx_181_352 rfl ?_
    refine at_const (x := 1) dx_181_353 rfl ?_
    refine at_addR dx_181_354 (by constructor <;> omega) (fun r354 => ?_)
    refine at_alds dx_181_355 hL (by first | omega | (simp (disch := omega) only [um_eq, um_k, um_j]; omega)) (by first | omega | (simp (disch := omega) only [um_eq, um_k, um_j]; omega)) ?_
    refine at_aloads dx_181_356 rfl ?_
    refine at_iload dx_181_357 rfl ?_
    refine at_const (x := 2) dx_181_358 rfl ?_
    refine at_addR dx_181_359 (by constructor <;> omega) (fun r359 => ?_)
    refine at_alds dx_181_360 hL (by first | omega | (simp (disch := omega) only [um_eq, um_k, um_j]; omega)) (by first | omega | (simp (disch := omega) only [um_eq, um_k, um_j]; omega)) ?_
    refine at_aloads dx_181_361 rfl ?_
    refine at_iload dx_181_362 rfl ?_
    refine at_const (x := 3) dx_181_363 rfl ?_
    refine at_addR dx_181_364 (by constructor <;> omega) (fun r364 => ?_)
    refine at_alds dx_181_365 hL (by first | omega | (simp (disch := omega) only [um_eq, um_k, um_j]; omega)) (by first | omega | (simp (disch := omega) only [um_eq, um_k, um_j]; omega)) ?_
    refine at_aloads dx_181_366 rfl ?_
    refine at_iload dx_181_367 rfl ?_
    refine at_const (x := 4) dx_181_368 rfl ?_
    refine at_addR dx_181_369 (by constructor <;> omega) (fun r369 => ?_)
    refine at_alds dx_181_370 hL (by first | omega | (simp (disch := omega) only [um_eq, um_k, um_j]; omega)) (by first | omega | (simp (disch := omega) only [um_eq, um_k, um_j]; omega)) ?_
    refine at_aloads dx_181_371 rfl ?_
    refine at_iload dx_181_372 rfl ?_
    refine at_const (x := 5) dx_181_373 rfl ?_
    refine at_addR dx_181_374 (by constructor <;> omega) (fun r374 => ?_)
    refine at_alds dx_181_375 hL (by first | omega | (simp (disch := omega) only [um_eq, um_k, um_j]; omega)) (by first | omega | (simp (disch := omega) only [um_eq, um_k, um_j]; omega)) ?_
    refine at_zeqR dx_181_376 (sI_R _ _) (fun c376 => ?_) (fun c376 => ?_)
    · skip
      refine at_const (x := 0) dx_181_379 rfl ?_
      refine at_callVI dx_181_380 rfl lc_856 rfl (r_mark (sI_R _ _) (sI_R _ _) (sI_R _ _) (sI_R _ _) (by decide) K8 (Or.inl rfl)) ?_
      rintro x380 M9 r380 ⟨K9, f9⟩
      refine at_istore dx_181_381 ?_
      refine at_goto dx_181_382 ?_
      refine at_wk (ls := [vs, vr 0, vr 856, vr 883, vi i]) ⟨Or.inl rfl, Or.inl rfl, Or.inl rfl, Or.inl rfl, Or.inl rfl, trivial⟩ ?_
      exact K _ (CI_fr C8 f9) K9
    · skip
      refine at_const (x := 1) dx_181_377 rfl ?_
      refine at_goto dx_181_378 ?_
      refine at_callVI dx_181_380 rfl lc_856 rfl (r_mark (sI_R _ _) (sI_R _ _) (sI_R _ _) (sI_R _ _) (by decide) K8 (Or.inr rfl)) ?_
      rintro x380 M9 r380 ⟨K9, f9⟩
      refine at_istore dx_181_381 ?_
      refine at_goto dx_181_382 ?_
      refine at_wk (ls := [vs, vr 0, vr 856, vr 883, vi i]) ⟨Or.inl rfl, Or.inl rfl, Or.inl rfl, Or.inl rfl, Or.inl rfl, trivial⟩ ?_
      exact K _ (CI_fr C8 f9) K9
  · skip
    refine at_const (x := 1) dx_181_344 rfl ?_
    refine at_goto dx_181_345 ?_
    refine at_aload dx_181_347 rfl ?_
    refine at_callN1 dx_181_348 rfl rfl (l_mark (sI_R _ _) (sI_R _ _) (sI_R _ _) (sI_R _ _) (by decide) (Or.inr rfl) hC hM) ?_
    rintro x348 M8 r348 ⟨C8, K8⟩
    refine at_istore dx_181_349 ?_
    refine at_aload dx_181_350 rfl ?_
    refine at_aloads dx_181_351 rfl ?_
    refine at_iload dx_181_352 rfl ?_
    refine at_const (x := 1) dx_181_353 rfl ?_
    refine at_addR dx_181_354 (by constructor <;> omega) (fun r354 => ?_)
    refine at_alds dx_181_355 hL (by first | omega | (simp (disch := omega) only [um_eq, um_k, um_j]; omega)) (by first | omega | (simp (disch := omega) only [um_eq, um_k, um_j]; omega)) ?_
    refine at_aloads dx_181_356 rfl ?_
    refine at_iload dx_181_357 rfl ?_
    refine at_const (x := 2) dx_181_358 rfl ?_
    refine at_addR dx_181_359 (by constructor <;> omega) (fun r359 => ?_)
    refine at_alds dx_181_360 hL (by first | omega | (simp (disch := omega) only [um_eq, um_k, um_j]; omega)) (by first | omega | (simp (disch := omega) only [um_eq, um_k, um_j]; omega)) ?_
    refine at_aloads dx_181_361 rfl ?_
    refine at_iload dx_181_362 rfl ?_
    refine at_const (x := 3) dx_181_363 rfl ?_
    refine at_addR dx_181_364 (by constructor <;> omega) (fun r364 => ?_)
    refine at_alds dx_181_365 hL (by first | omega | (simp (disch := omega) only [um_eq, um_k, um_j]; omega)) (by first | omega | (simp (disch := omega) only [um_eq, um_k, um_j]; omega)) ?_
    refine at_aloads dx_181_366 rfl ?_
    refine at_iload dx_181_367 rfl ?_
    refine at_const (x := 4) dx_181_368 rfl ?_
    refine at_addR dx_181_369 (by constructor <;> omega) (fun r369 => ?_)
    refine at_alds dx_181_370 hL (by first | omega | (simp (disch := omega) only [um_eq, um_k, um_j]; omega)) (by first | omega | (simp (disch := omega) only [um_eq, um_k, um_j]; omega)) ?_
    refine at_aloads dx_181_371 rfl ?_
    refine at_iload dx_181_372 rfl ?_
    refine at_const (x := 5) dx_181_373 rfl ?_
    refine at_addR dx_181_374 (by constructor <;> omega) (fun r374 => ?_)
    refine at_alds dx_181_375 hL (by first | omega | (simp (disch := omega) only [um_eq, um_k, um_j]; omega)) (by first | omega | (simp (disch := omega) only [um_eq, um_k, um_j]; omega)) ?_
    refine at_zeqR dx_181_376 (sI_R _ _) (fun c376 => ?_) (fun c376 => ?_)
    · skip
      refine at_const (x := 0) dx_181_379 rfl ?_
      refine at_callVI dx_181_380 rfl lc_856 rfl (r_mark (sI_R _ _) (sI_R _ _) (sI_R _ _) (sI_R _ _) (by decide) K8 (Or.inl rfl)) ?_
      rintro x380 M9 r380 ⟨K9, f9⟩
      refine at_istore dx_181_381 ?_
      refine at_goto dx_181_382 ?_
      refine at_wk (ls := [vs, vr 0, vr 856, vr 883, vi i]) ⟨Or.inl rfl, Or.inl rfl, Or.inl rfl, Or.inl rfl, Or.inl rfl, trivial⟩ ?_
      exact K _ (CI_fr C8 f9) K9
    · skip
      refine at_const (x := 1) dx_181_377 rfl ?_
      refine at_goto dx_181_378 ?_
      refine at_callVI dx_181_380 rfl lc_856 rfl (r_mark (sI_R _ _) (sI_R _ _) (sI_R _ _) (sI_R _ _) (by decide) K8 (Or.inr rfl)) ?_
      rintro x380 M9 r380 ⟨K9, f9⟩
      refine at_istore dx_181_381 ?_
      refine at_goto dx_181_382 ?_
      refine at_wk (ls := [vs, vr 0, vr 856, vr 883, vi i]) ⟨Or.inl rfl, Or.inl rfl, Or.inl rfl, Or.inl rfl, Or.inl rfl, trivial⟩ ?_
      exact K _ (CI_fr C8 f9) K9

set_option maxRecDepth 100000 in
set_option maxHeartbeats 4000000 in
theorem b_copy {X : scr} {w : Nat} {M : mem} {Q : Nat → sx_V Int → mem → Prop} {i : Int} (hL : X.1 ≤ 3072) (ri : inR i) (h0 : 0 ≤ i) (h6 : i + 6 ≤ X.1) (hC : CI M) (hM : MI M) (K : ∀ M', CI M' → MI M' → At X w 181 694 [vs, vr 0, vr 856, vr 883, vi i] [] M' Q) : At X (w + 1) 181 383 [vs, vr 0, vr 856, vr 883, vi i] [] M Q := by
  refine at_aload dx_181_383 rfl ?_
  refine at_aloads dx_181_384 rfl ?_
  refine at_iload dx_181_385 rfl ?_
  refine at_const (x := 1) dx_181_386 rfl ?_
  refine at_addR dx_181_387 (by constructor <;> omega) (fun r387 => ?_)
  refine at_alds dx_181_388 hL (by first | omega | (simp (disch := omega) only [um_eq, um_k, um_j]; omega)) (by first | omega | (simp (disch := omega) only [um_eq, um_k, um_j]; omega)) ?_
  refine at_aloads dx_181_389 rfl ?_
  refine at_iload dx_181_390 rfl ?_
  refine at_const (x := 2) dx_181_391 rfl ?_
  refine at_addR dx_181_392 (by constructor <;> omega) (fun r392 => ?_)
  refine at_alds dx_181_393 hL (by first | omega | (simp (disch := omega) only [um_eq, um_k, um_j]; omega)) (by first | omega | (simp (disch := omega) only [um_eq, um_k, um_j]; omega)) ?_
  refine at_aloads dx_181_394 rfl ?_
  refine at_iload dx_181_395 rfl ?_
  refine at_const (x := 3) dx_181_396 rfl ?_
  refine at_addR dx_181_397 (by constructor <;> omega) (fun r397 => ?_)
  refine at_alds dx_181_398 hL (by first | omega | (simp (disch := omega) only [um_eq, um_k, um_j]; omega)) (by first | omega | (simp (disch := omega) only [um_eq, um_k, um_j]; omega)) ?_
  refine at_aload dx_181_399 rfl ?_
  refine at_callN1 dx_181_400 rfl rfl (l_copy (sI_R _ _) (sI_R _ _) (sI_R _ _) hC hM) ?_
  rintro x400 M8 r400 ⟨C8, K8⟩
  refine at_istore dx_181_401 ?_
  refine at_aload dx_181_402 rfl ?_
  refine at_aloads dx_181_403 rfl ?_
  refine at_iload dx_181_404 rfl ?_
  refine at_const (x := 1) dx_181_405 rfl ?_
  refine at_addR dx_181_406 (by constructor <;> omega) (fun r406 => ?_)
  refine at_alds dx_181_407 hL (by first | omega | (simp (disch := omega) only [um_eq, um_k, um_j]; omega)) (by first | omega | (simp (disch := omega) only [um_eq, um_k, um_j]; omega)) ?_
  refine at_aloads dx_181_408 rfl ?_
  refine at_iload dx_181_409 rfl ?_
  refine at_const (x := 2) dx_181_410 rfl ?_
  refine at_addR dx_181_411 (by constructor <;> omega) (fun r411 => ?_)
  refine at_alds dx_181_412 hL (by first | omega | (simp (disch := omega) only [um_eq, um_k, um_j]; omega)) (by first | omega | (simp (disch := omega) only [um_eq, um_k, um_j]; omega)) ?_
  refine at_aloads dx_181_413 rfl ?_
  refine at_iload dx_181_414 rfl ?_
  refine at_const (x := 3) dx_181_415 rfl ?_
  refine at_addR dx_181_416 (by constructor <;> omega) (fun r416 => ?_)
  refine at_alds dx_181_417 hL (by first | omega | (simp (disch := omega) only [um_eq, um_k, um_j]; omega)) (by first | omega | (simp (disch := omega) only [um_eq, um_k, um_j]; omega)) ?_
  refine at_callVI dx_181_418 rfl lc_856 rfl (r_copy (sI_R _ _) (sI_R _ _) (sI_R _ _) K8) ?_
  rintro x418 M9 r418 ⟨K9, f9⟩
  refine at_istore dx_181_419 ?_
  refine at_goto dx_181_420 ?_
  refine at_wk (ls := [vs, vr 0, vr 856, vr 883, vi i]) ⟨Or.inl rfl, Or.inl rfl, Or.inl rfl, Or.inl rfl, Or.inl rfl, trivial⟩ ?_
  exact K _ (CI_fr C8 f9) K9

set_option maxRecDepth 100000 in
set_option maxHeartbeats 4000000 in
theorem b_paste {X : scr} {w : Nat} {M : mem} {Q : Nat → sx_V Int → mem → Prop} {i : Int} (hL : X.1 ≤ 3072) (ri : inR i) (h0 : 0 ≤ i) (h6 : i + 6 ≤ X.1) (hC : CI M) (hM : MI M) (K : ∀ M', CI M' → MI M' → At X w 181 694 [vs, vr 0, vr 856, vr 883, vi i] [] M' Q) : At X (w + 1) 181 421 [vs, vr 0, vr 856, vr 883, vi i] [] M Q := by
  refine at_aload dx_181_421 rfl ?_
  refine at_aloads dx_181_422 rfl ?_
  refine at_iload dx_181_423 rfl ?_
  refine at_const (x := 1) dx_181_424 rfl ?_
  refine at_addR dx_181_425 (by constructor <;> omega) (fun r425 => ?_)
  refine at_alds dx_181_426 hL (by first | omega | (simp (disch := omega) only [um_eq, um_k, um_j]; omega)) (by first | omega | (simp (disch := omega) only [um_eq, um_k, um_j]; omega)) ?_
  refine at_aloads dx_181_427 rfl ?_
  refine at_iload dx_181_428 rfl ?_
  refine at_const (x := 2) dx_181_429 rfl ?_
  refine at_addR dx_181_430 (by constructor <;> omega) (fun r430 => ?_)
  refine at_alds dx_181_431 hL (by first | omega | (simp (disch := omega) only [um_eq, um_k, um_j]; omega)) (by first | omega | (simp (disch := omega) only [um_eq, um_k, um_j]; omega)) ?_
  refine at_aload dx_181_432 rfl ?_
  refine at_callN1 dx_181_433 rfl rfl (l_paste (sI_R _ _) (sI_R _ _) hC hM) ?_
  rintro x433 M8 r433 ⟨C8, K8⟩
  refine at_istore dx_181_434 ?_
  refine at_aload dx_181_435 rfl ?_
  refine at_aloads dx_181_436 rfl ?_
  refine at_iload dx_181_437 rfl ?_
  refine at_const (x := 1) dx_181_438 rfl ?_
  refine at_addR dx_181_439 (by constructor <;> omega) (fun r439 => ?_)
  refine at_alds dx_181_440 hL (by first | omega | (simp (disch := omega) only [um_eq, um_k, um_j]; omega)) (by first | omega | (simp (disch := omega) only [um_eq, um_k, um_j]; omega)) ?_
  refine at_aloads dx_181_441 rfl ?_
  refine at_iload dx_181_442 rfl ?_
  refine at_const (x := 2) dx_181_443 rfl ?_
  refine at_addR dx_181_444 (by constructor <;> omega) (fun r444 => ?_)
  refine at_alds dx_181_445 hL (by first | omega | (simp (disch := omega) only [um_eq, um_k, um_j]; omega)) (by first | omega | (simp (disch := omega) only [um_eq, um_k, um_j]; omega)) ?_
  refine at_callVI dx_181_446 rfl lc_856 rfl (r_paste (sI_R _ _) (sI_R _ _) K8) ?_
  rintro x446 M9 r446 ⟨K9, f9⟩
  refine at_istore dx_181_447 ?_
  refine at_goto dx_181_448 ?_
  refine at_wk (ls := [vs, vr 0, vr 856, vr 883, vi i]) ⟨Or.inl rfl, Or.inl rfl, Or.inl rfl, Or.inl rfl, Or.inl rfl, trivial⟩ ?_
  exact K _ (CI_fr C8 f9) K9

set_option maxRecDepth 100000 in
set_option maxHeartbeats 4000000 in
theorem b_takeBack {X : scr} {w : Nat} {M : mem} {Q : Nat → sx_V Int → mem → Prop} {i : Int} (hL : X.1 ≤ 3072) (ri : inR i) (h0 : 0 ≤ i) (h6 : i + 6 ≤ X.1) (hC : CI M) (hM : MI M) (K : ∀ M', CI M' → MI M' → At X w 181 694 [vs, vr 0, vr 856, vr 883, vi i] [] M' Q) : At X (w + 1) 181 449 [vs, vr 0, vr 856, vr 883, vi i] [] M Q := by
  refine at_aload dx_181_449 rfl ?_
  refine at_aloads dx_181_450 rfl ?_
  refine at_iload dx_181_451 rfl ?_
  refine at_const (x := 1) dx_181_452 rfl ?_
  refine at_addR dx_181_453 (by constructor <;> omega) (fun r453 => ?_)
  refine at_alds dx_181_454 hL (by first | omega | (simp (disch := omega) only [um_eq, um_k, um_j]; omega)) (by first | omega | (simp (disch := omega) only [um_eq, um_k, um_j]; omega)) ?_
  refine at_aload dx_181_455 rfl ?_
  refine at_callN1 dx_181_456 rfl rfl (l_takeBack (sI_R _ _) hC hM) ?_
  rintro x456 M8 r456 ⟨C8, K8⟩
  refine at_istore dx_181_457 ?_
  refine at_aload dx_181_458 rfl ?_
  refine at_aloads dx_181_459 rfl ?_
  refine at_iload dx_181_460 rfl ?_
  refine at_const (x := 1) dx_181_461 rfl ?_
  refine at_addR dx_181_462 (by constructor <;> omega) (fun r462 => ?_)
  refine at_alds dx_181_463 hL (by first | omega | (simp (disch := omega) only [um_eq, um_k, um_j]; omega)) (by first | omega | (simp (disch := omega) only [um_eq, um_k, um_j]; omega)) ?_
  refine at_callVI dx_181_464 rfl lc_856 rfl (r_takeBack (sI_R _ _) K8) ?_
  rintro x464 M9 r464 ⟨K9, f9⟩
  refine at_istore dx_181_465 ?_
  refine at_goto dx_181_466 ?_
  refine at_wk (ls := [vs, vr 0, vr 856, vr 883, vi i]) ⟨Or.inl rfl, Or.inl rfl, Or.inl rfl, Or.inl rfl, Or.inl rfl, trivial⟩ ?_
  exact K _ (CI_fr C8 f9) K9

set_option maxRecDepth 100000 in
set_option maxHeartbeats 4000000 in
theorem b_revert {X : scr} {w : Nat} {M : mem} {Q : Nat → sx_V Int → mem → Prop} {i : Int} (hL : X.1 ≤ 3072) (ri : inR i) (h0 : 0 ≤ i) (h6 : i + 6 ≤ X.1) (hC : CI M) (hM : MI M) (K : ∀ M', CI M' → MI M' → At X w 181 694 [vs, vr 0, vr 856, vr 883, vi i] [] M' Q) : At X (w + 1) 181 467 [vs, vr 0, vr 856, vr 883, vi i] [] M Q := by
  refine at_aload dx_181_467 rfl ?_
  refine at_aloads dx_181_468 rfl ?_
  refine at_iload dx_181_469 rfl ?_
  refine at_const (x := 1) dx_181_470 rfl ?_
  refine at_addR dx_181_471 (by constructor <;> omega) (fun r471 => ?_)
  refine at_alds dx_181_472 hL (by first | omega | (simp (disch := omega) only [um_eq, um_k, um_j]; omega)) (by first | omega | (simp (disch := omega) only [um_eq, um_k, um_j]; omega)) ?_
  refine at_aloads dx_181_473 rfl ?_
  refine at_iload dx_181_474 rfl ?_
  refine at_const (x := 2) dx_181_475 rfl ?_
  refine at_addR dx_181_476 (by constructor <;> omega) (fun r476 => ?_)
  refine at_alds dx_181_477 hL (by first | omega | (simp (disch := omega) only [um_eq, um_k, um_j]; omega)) (by first | omega | (simp (disch := omega) only [um_eq, um_k, um_j]; omega)) ?_
  refine at_aload dx_181_478 rfl ?_
  refine at_callN1 dx_181_479 rfl rfl (l_revert (sI_R _ _) (sI_R _ _) hC hM) ?_
  rintro x479 M8 r479 ⟨C8, K8⟩
  refine at_istore dx_181_480 ?_
  refine at_aload dx_181_481 rfl ?_
  refine at_aloads dx_181_482 rfl ?_
  refine at_iload dx_181_483 rfl ?_
  refine at_const (x := 1) dx_181_484 rfl ?_
  refine at_addR dx_181_485 (by constructor <;> omega) (fun r485 => ?_)
  refine at_alds dx_181_486 hL (by first | omega | (simp (disch := omega) only [um_eq, um_k, um_j]; omega)) (by first | omega | (simp (disch := omega) only [um_eq, um_k, um_j]; omega)) ?_
  refine at_aloads dx_181_487 rfl ?_
  refine at_iload dx_181_488 rfl ?_
  refine at_const (x := 2) dx_181_489 rfl ?_
  refine at_addR dx_181_490 (by constructor <;> omega) (fun r490 => ?_)
  refine at_alds dx_181_491 hL (by first | omega | (simp (disch := omega) only [um_eq, um_k, um_j]; omega)) (by first | omega | (simp (disch := omega) only [um_eq, um_k, um_j]; omega)) ?_
  refine at_callVI dx_181_492 rfl lc_856 rfl (r_revert (sI_R _ _) (sI_R _ _) K8) ?_
  rintro x492 M9 r492 ⟨K9, f9⟩
  refine at_istore dx_181_493 ?_
  refine at_goto dx_181_494 ?_
  refine at_wk (ls := [vs, vr 0, vr 856, vr 883, vi i]) ⟨Or.inl rfl, Or.inl rfl, Or.inl rfl, Or.inl rfl, Or.inl rfl, trivial⟩ ?_
  exact K _ (CI_fr C8 f9) K9

set_option maxRecDepth 100000 in
set_option maxHeartbeats 4000000 in
theorem b_send {X : scr} {w : Nat} {M : mem} {Q : Nat → sx_V Int → mem → Prop} {i : Int} (hL : X.1 ≤ 3072) (ri : inR i) (h0 : 0 ≤ i) (h6 : i + 6 ≤ X.1) (hC : CI M) (hM : MI M) (K : ∀ M', CI M' → MI M' → At X w 181 694 [vs, vr 0, vr 856, vr 883, vi i] [] M' Q) : At X (w + 1) 181 495 [vs, vr 0, vr 856, vr 883, vi i] [] M Q := by
  refine at_aload dx_181_495 rfl ?_
  refine at_aloads dx_181_496 rfl ?_
  refine at_iload dx_181_497 rfl ?_
  refine at_const (x := 1) dx_181_498 rfl ?_
  refine at_addR dx_181_499 (by constructor <;> omega) (fun r499 => ?_)
  refine at_alds dx_181_500 hL (by first | omega | (simp (disch := omega) only [um_eq, um_k, um_j]; omega)) (by first | omega | (simp (disch := omega) only [um_eq, um_k, um_j]; omega)) ?_
  refine at_aload dx_181_501 rfl ?_
  refine at_callN1 dx_181_502 rfl rfl (l_send (sI_R _ _) hC hM) ?_
  rintro x502 M8 r502 ⟨C8, K8⟩
  refine at_istore dx_181_503 ?_
  refine at_aload dx_181_504 rfl ?_
  refine at_aloads dx_181_505 rfl ?_
  refine at_iload dx_181_506 rfl ?_
  refine at_const (x := 1) dx_181_507 rfl ?_
  refine at_addR dx_181_508 (by constructor <;> omega) (fun r508 => ?_)
  refine at_alds dx_181_509 hL (by first | omega | (simp (disch := omega) only [um_eq, um_k, um_j]; omega)) (by first | omega | (simp (disch := omega) only [um_eq, um_k, um_j]; omega)) ?_
  refine at_callVI dx_181_510 rfl lc_856 rfl (r_send (sI_R _ _) K8) ?_
  rintro x510 M9 r510 ⟨K9, f9⟩
  refine at_istore dx_181_511 ?_
  refine at_goto dx_181_512 ?_
  refine at_wk (ls := [vs, vr 0, vr 856, vr 883, vi i]) ⟨Or.inl rfl, Or.inl rfl, Or.inl rfl, Or.inl rfl, Or.inl rfl, trivial⟩ ?_
  exact K _ (CI_fr C8 f9) K9

set_option maxRecDepth 100000 in
set_option maxHeartbeats 4000000 in
theorem b_receive {X : scr} {w : Nat} {M : mem} {Q : Nat → sx_V Int → mem → Prop} {i : Int} (hL : X.1 ≤ 3072) (ri : inR i) (h0 : 0 ≤ i) (h6 : i + 6 ≤ X.1) (hC : CI M) (hM : MI M) (K : ∀ M', CI M' → MI M' → At X w 181 694 [vs, vr 0, vr 856, vr 883, vi i] [] M' Q) : At X (w + 1) 181 513 [vs, vr 0, vr 856, vr 883, vi i] [] M Q := by
  refine at_aload dx_181_513 rfl ?_
  refine at_aloads dx_181_514 rfl ?_
  refine at_iload dx_181_515 rfl ?_
  refine at_const (x := 1) dx_181_516 rfl ?_
  refine at_addR dx_181_517 (by constructor <;> omega) (fun r517 => ?_)
  refine at_alds dx_181_518 hL (by first | omega | (simp (disch := omega) only [um_eq, um_k, um_j]; omega)) (by first | omega | (simp (disch := omega) only [um_eq, um_k, um_j]; omega)) ?_
  refine at_aload dx_181_519 rfl ?_
  refine at_callN1 dx_181_520 rfl rfl (l_receive (sI_R _ _) hC hM) ?_
  rintro x520 M8 r520 ⟨C8, K8⟩
  refine at_istore dx_181_521 ?_
  refine at_aload dx_181_522 rfl ?_
  refine at_aloads dx_181_523 rfl ?_
  refine at_iload dx_181_524 rfl ?_
  refine at_const (x := 1) dx_181_525 rfl ?_
  refine at_addR dx_181_526 (by constructor <;> omega) (fun r526 => ?_)
  refine at_alds dx_181_527 hL (by first | omega | (simp (disch := omega) only [um_eq, um_k, um_j]; omega)) (by first | omega | (simp (disch := omega) only [um_eq, um_k, um_j]; omega)) ?_
  refine at_callVI dx_181_528 rfl lc_856 rfl (r_receive (sI_R _ _) K8) ?_
  rintro x528 M9 r528 ⟨K9, f9⟩
  refine at_istore dx_181_529 ?_
  refine at_goto dx_181_530 ?_
  refine at_wk (ls := [vs, vr 0, vr 856, vr 883, vi i]) ⟨Or.inl rfl, Or.inl rfl, Or.inl rfl, Or.inl rfl, Or.inl rfl, trivial⟩ ?_
  exact K _ (CI_fr C8 f9) K9

set_option maxRecDepth 100000 in
set_option maxHeartbeats 4000000 in
theorem b_lost {X : scr} {w : Nat} {M : mem} {Q : Nat → sx_V Int → mem → Prop} {i : Int} (hL : X.1 ≤ 3072) (ri : inR i) (h0 : 0 ≤ i) (h6 : i + 6 ≤ X.1) (hC : CI M) (hM : MI M) (K : ∀ M', CI M' → MI M' → At X w 181 694 [vs, vr 0, vr 856, vr 883, vi i] [] M' Q) : At X (w + 1) 181 531 [vs, vr 0, vr 856, vr 883, vi i] [] M Q := by
  refine at_aload dx_181_531 rfl ?_
  refine at_aloads dx_181_532 rfl ?_
  refine at_iload dx_181_533 rfl ?_
  refine at_const (x := 1) dx_181_534 rfl ?_
  refine at_addR dx_181_535 (by constructor <;> omega) (fun r535 => ?_)
  refine at_alds dx_181_536 hL (by first | omega | (simp (disch := omega) only [um_eq, um_k, um_j]; omega)) (by first | omega | (simp (disch := omega) only [um_eq, um_k, um_j]; omega)) ?_
  refine at_aload dx_181_537 rfl ?_
  refine at_callN1 dx_181_538 rfl rfl (l_lost (sI_R _ _) hC hM) ?_
  rintro x538 M8 r538 ⟨C8, K8⟩
  refine at_istore dx_181_539 ?_
  refine at_aload dx_181_540 rfl ?_
  refine at_aloads dx_181_541 rfl ?_
  refine at_iload dx_181_542 rfl ?_
  refine at_const (x := 1) dx_181_543 rfl ?_
  refine at_addR dx_181_544 (by constructor <;> omega) (fun r544 => ?_)
  refine at_alds dx_181_545 hL (by first | omega | (simp (disch := omega) only [um_eq, um_k, um_j]; omega)) (by first | omega | (simp (disch := omega) only [um_eq, um_k, um_j]; omega)) ?_
  refine at_callVI dx_181_546 rfl lc_856 rfl (r_lost (sI_R _ _) K8) ?_
  rintro x546 M9 r546 ⟨K9, f9⟩
  refine at_istore dx_181_547 ?_
  refine at_goto dx_181_548 ?_
  refine at_wk (ls := [vs, vr 0, vr 856, vr 883, vi i]) ⟨Or.inl rfl, Or.inl rfl, Or.inl rfl, Or.inl rfl, Or.inl rfl, trivial⟩ ?_
  exact K _ (CI_fr C8 f9) K9

set_option maxRecDepth 100000 in
set_option maxHeartbeats 4000000 in
theorem b_version {X : scr} {w : Nat} {M : mem} {Q : Nat → sx_V Int → mem → Prop} {i : Int} (hL : X.1 ≤ 3072) (ri : inR i) (h0 : 0 ≤ i) (h6 : i + 6 ≤ X.1) (hC : CI M) (hM : MI M) (K : ∀ M', CI M' → MI M' → At X w 181 694 [vs, vr 0, vr 856, vr 883, vi i] [] M' Q) : At X (w + 1) 181 549 [vs, vr 0, vr 856, vr 883, vi i] [] M Q := by
  refine at_aload dx_181_549 rfl ?_
  refine at_aloads dx_181_550 rfl ?_
  refine at_iload dx_181_551 rfl ?_
  refine at_const (x := 1) dx_181_552 rfl ?_
  refine at_addR dx_181_553 (by constructor <;> omega) (fun r553 => ?_)
  refine at_alds dx_181_554 hL (by first | omega | (simp (disch := omega) only [um_eq, um_k, um_j]; omega)) (by first | omega | (simp (disch := omega) only [um_eq, um_k, um_j]; omega)) ?_
  refine at_aload dx_181_555 rfl ?_
  refine at_callN1 dx_181_556 rfl rfl (l_version (sI_R _ _) hC hM) ?_
  rintro x556 M8 r556 ⟨C8, K8⟩
  refine at_istore dx_181_557 ?_
  refine at_aload dx_181_558 rfl ?_
  refine at_aloads dx_181_559 rfl ?_
  refine at_iload dx_181_560 rfl ?_
  refine at_const (x := 1) dx_181_561 rfl ?_
  refine at_addR dx_181_562 (by constructor <;> omega) (fun r562 => ?_)
  refine at_alds dx_181_563 hL (by first | omega | (simp (disch := omega) only [um_eq, um_k, um_j]; omega)) (by first | omega | (simp (disch := omega) only [um_eq, um_k, um_j]; omega)) ?_
  refine at_callVI dx_181_564 rfl lc_856 rfl (r_version (sI_R _ _) K8) ?_
  rintro x564 M9 r564 ⟨K9, f9⟩
  refine at_istore dx_181_565 ?_
  refine at_goto dx_181_566 ?_
  refine at_wk (ls := [vs, vr 0, vr 856, vr 883, vi i]) ⟨Or.inl rfl, Or.inl rfl, Or.inl rfl, Or.inl rfl, Or.inl rfl, trivial⟩ ?_
  exact K _ (CI_fr C8 f9) K9

set_option maxRecDepth 100000 in
set_option maxHeartbeats 4000000 in
theorem b_isBuilt {X : scr} {w : Nat} {M : mem} {Q : Nat → sx_V Int → mem → Prop} {i : Int} (hL : X.1 ≤ 3072) (ri : inR i) (h0 : 0 ≤ i) (h6 : i + 6 ≤ X.1) (hC : CI M) (hM : MI M) (K : ∀ M', CI M' → MI M' → At X w 181 694 [vs, vr 0, vr 856, vr 883, vi i] [] M' Q) : At X (w + 1) 181 567 [vs, vr 0, vr 856, vr 883, vi i] [] M Q := by
  refine At.up ?_
  refine at_aload dx_181_567 rfl ?_
  refine at_callVI dx_181_568 rfl lc_0 rfl (p_isBuilt hC) ?_
  rintro x1 M8 r1 ⟨C8, f8, e1⟩
  refine at_aload dx_181_569 rfl ?_
  refine at_callVI dx_181_570 rfl lc_856 rfl (r_isBuilt (MI_fr hM f8)) ?_
  rintro x2 M9 r2 ⟨K9, f9, e2⟩
  refine at_ceqR dx_181_571 r1 r2 (fun c571 => ?_) (fun c571 => ?_)
  rotate_left
  · exfalso; omega
  · skip
    refine at_wk (ls := [vs, vr 0, vr 856, vr 883, vi i]) ⟨Or.inl rfl, Or.inl rfl, Or.inl rfl, Or.inl rfl, Or.inl rfl, trivial⟩ ?_
    exact K _ (CI_fr C8 f9) K9

set_option maxRecDepth 100000 in
set_option maxHeartbeats 4000000 in
theorem b_size {X : scr} {w : Nat} {M : mem} {Q : Nat → sx_V Int → mem → Prop} {i : Int} (hL : X.1 ≤ 3072) (ri : inR i) (h0 : 0 ≤ i) (h6 : i + 6 ≤ X.1) (hC : CI M) (hM : MI M) (K : ∀ M', CI M' → MI M' → At X w 181 694 [vs, vr 0, vr 856, vr 883, vi i] [] M' Q) : At X (w + 1) 181 574 [vs, vr 0, vr 856, vr 883, vi i] [] M Q := by
  refine at_aload dx_181_574 rfl ?_
  refine at_aloads dx_181_575 rfl ?_
  refine at_iload dx_181_576 rfl ?_
  refine at_const (x := 1) dx_181_577 rfl ?_
  refine at_addR dx_181_578 (by constructor <;> omega) (fun r578 => ?_)
  refine at_alds dx_181_579 hL (by first | omega | (simp (disch := omega) only [um_eq, um_k, um_j]; omega)) (by first | omega | (simp (disch := omega) only [um_eq, um_k, um_j]; omega)) ?_
  refine at_aload dx_181_580 rfl ?_
  refine at_callN1 dx_181_581 rfl rfl (l_size (sI_R _ _) hC hM) ?_
  rintro x581 M8 r581 ⟨C8, K8⟩
  refine at_istore dx_181_582 ?_
  refine at_aload dx_181_583 rfl ?_
  refine at_aloads dx_181_584 rfl ?_
  refine at_iload dx_181_585 rfl ?_
  refine at_const (x := 1) dx_181_586 rfl ?_
  refine at_addR dx_181_587 (by constructor <;> omega) (fun r587 => ?_)
  refine at_alds dx_181_588 hL (by first | omega | (simp (disch := omega) only [um_eq, um_k, um_j]; omega)) (by first | omega | (simp (disch := omega) only [um_eq, um_k, um_j]; omega)) ?_
  refine at_callVI dx_181_589 rfl lc_856 rfl (r_size (sI_R _ _) K8) ?_
  rintro x589 M9 r589 ⟨K9, f9⟩
  refine at_istore dx_181_590 ?_
  refine at_goto dx_181_591 ?_
  refine at_wk (ls := [vs, vr 0, vr 856, vr 883, vi i]) ⟨Or.inl rfl, Or.inl rfl, Or.inl rfl, Or.inl rfl, Or.inl rfl, trivial⟩ ?_
  exact K _ (CI_fr C8 f9) K9

set_option maxRecDepth 100000 in
set_option maxHeartbeats 4000000 in
theorem b_token {X : scr} {w : Nat} {M : mem} {Q : Nat → sx_V Int → mem → Prop} {i : Int} (hL : X.1 ≤ 3072) (ri : inR i) (h0 : 0 ≤ i) (h6 : i + 6 ≤ X.1) (hC : CI M) (hM : MI M) (K : ∀ M', CI M' → MI M' → At X w 181 694 [vs, vr 0, vr 856, vr 883, vi i] [] M' Q) : At X (w + 1) 181 592 [vs, vr 0, vr 856, vr 883, vi i] [] M Q := by
  refine at_aload dx_181_592 rfl ?_
  refine at_aloads dx_181_593 rfl ?_
  refine at_iload dx_181_594 rfl ?_
  refine at_const (x := 1) dx_181_595 rfl ?_
  refine at_addR dx_181_596 (by constructor <;> omega) (fun r596 => ?_)
  refine at_alds dx_181_597 hL (by first | omega | (simp (disch := omega) only [um_eq, um_k, um_j]; omega)) (by first | omega | (simp (disch := omega) only [um_eq, um_k, um_j]; omega)) ?_
  refine at_aloads dx_181_598 rfl ?_
  refine at_iload dx_181_599 rfl ?_
  refine at_const (x := 2) dx_181_600 rfl ?_
  refine at_addR dx_181_601 (by constructor <;> omega) (fun r601 => ?_)
  refine at_alds dx_181_602 hL (by first | omega | (simp (disch := omega) only [um_eq, um_k, um_j]; omega)) (by first | omega | (simp (disch := omega) only [um_eq, um_k, um_j]; omega)) ?_
  refine at_aload dx_181_603 rfl ?_
  refine at_callN1 dx_181_604 rfl rfl (l_token (sI_R _ _) (sI_R _ _) hC hM) ?_
  rintro x604 M8 r604 ⟨C8, K8⟩
  refine at_istore dx_181_605 ?_
  refine at_aload dx_181_606 rfl ?_
  refine at_aloads dx_181_607 rfl ?_
  refine at_iload dx_181_608 rfl ?_
  refine at_const (x := 1) dx_181_609 rfl ?_
  refine at_addR dx_181_610 (by constructor <;> omega) (fun r610 => ?_)
  refine at_alds dx_181_611 hL (by first | omega | (simp (disch := omega) only [um_eq, um_k, um_j]; omega)) (by first | omega | (simp (disch := omega) only [um_eq, um_k, um_j]; omega)) ?_
  refine at_aloads dx_181_612 rfl ?_
  refine at_iload dx_181_613 rfl ?_
  refine at_const (x := 2) dx_181_614 rfl ?_
  refine at_addR dx_181_615 (by constructor <;> omega) (fun r615 => ?_)
  refine at_alds dx_181_616 hL (by first | omega | (simp (disch := omega) only [um_eq, um_k, um_j]; omega)) (by first | omega | (simp (disch := omega) only [um_eq, um_k, um_j]; omega)) ?_
  refine at_callVI dx_181_617 rfl lc_856 rfl (r_token (sI_R _ _) (sI_R _ _) K8) ?_
  rintro x617 M9 r617 ⟨K9, f9⟩
  refine at_istore dx_181_618 ?_
  refine at_goto dx_181_619 ?_
  refine at_wk (ls := [vs, vr 0, vr 856, vr 883, vi i]) ⟨Or.inl rfl, Or.inl rfl, Or.inl rfl, Or.inl rfl, Or.inl rfl, trivial⟩ ?_
  exact K _ (CI_fr C8 f9) K9

set_option maxRecDepth 100000 in
set_option maxHeartbeats 4000000 in
theorem b_around {X : scr} {w : Nat} {M : mem} {Q : Nat → sx_V Int → mem → Prop} {i : Int} (hL : X.1 ≤ 3072) (ri : inR i) (h0 : 0 ≤ i) (h6 : i + 6 ≤ X.1) (hC : CI M) (hM : MI M) (K : ∀ M', CI M' → MI M' → At X w 181 694 [vs, vr 0, vr 856, vr 883, vi i] [] M' Q) : At X (w + 1) 181 620 [vs, vr 0, vr 856, vr 883, vi i] [] M Q := by
  refine at_aload dx_181_620 rfl ?_
  refine at_aloads dx_181_621 rfl ?_
  refine at_iload dx_181_622 rfl ?_
  refine at_const (x := 1) dx_181_623 rfl ?_
  refine at_addR dx_181_624 (by constructor <;> omega) (fun r624 => ?_)
  refine at_alds dx_181_625 hL (by first | omega | (simp (disch := omega) only [um_eq, um_k, um_j]; omega)) (by first | omega | (simp (disch := omega) only [um_eq, um_k, um_j]; omega)) ?_
  refine at_aloads dx_181_626 rfl ?_
  refine at_iload dx_181_627 rfl ?_
  refine at_const (x := 2) dx_181_628 rfl ?_
  refine at_addR dx_181_629 (by constructor <;> omega) (fun r629 => ?_)
  refine at_alds dx_181_630 hL (by first | omega | (simp (disch := omega) only [um_eq, um_k, um_j]; omega)) (by first | omega | (simp (disch := omega) only [um_eq, um_k, um_j]; omega)) ?_
  refine at_aload dx_181_631 rfl ?_
  refine at_callN1 dx_181_632 rfl rfl (l_around (sI_R _ _) (sI_R _ _) hC hM) ?_
  rintro x632 M8 r632 ⟨C8, K8⟩
  refine at_istore dx_181_633 ?_
  refine at_aload dx_181_634 rfl ?_
  refine at_aloads dx_181_635 rfl ?_
  refine at_iload dx_181_636 rfl ?_
  refine at_const (x := 1) dx_181_637 rfl ?_
  refine at_addR dx_181_638 (by constructor <;> omega) (fun r638 => ?_)
  refine at_alds dx_181_639 hL (by first | omega | (simp (disch := omega) only [um_eq, um_k, um_j]; omega)) (by first | omega | (simp (disch := omega) only [um_eq, um_k, um_j]; omega)) ?_
  refine at_aloads dx_181_640 rfl ?_
  refine at_iload dx_181_641 rfl ?_
  refine at_const (x := 2) dx_181_642 rfl ?_
  refine at_addR dx_181_643 (by constructor <;> omega) (fun r643 => ?_)
  refine at_alds dx_181_644 hL (by first | omega | (simp (disch := omega) only [um_eq, um_k, um_j]; omega)) (by first | omega | (simp (disch := omega) only [um_eq, um_k, um_j]; omega)) ?_
  refine at_callVI dx_181_645 rfl lc_856 rfl (r_around (sI_R _ _) (sI_R _ _) K8) ?_
  rintro x645 M9 r645 ⟨K9, f9⟩
  refine at_istore dx_181_646 ?_
  refine at_goto dx_181_647 ?_
  refine at_wk (ls := [vs, vr 0, vr 856, vr 883, vi i]) ⟨Or.inl rfl, Or.inl rfl, Or.inl rfl, Or.inl rfl, Or.inl rfl, trivial⟩ ?_
  exact K _ (CI_fr C8 f9) K9

set_option maxRecDepth 100000 in
set_option maxHeartbeats 4000000 in
theorem b_comment {X : scr} {w : Nat} {M : mem} {Q : Nat → sx_V Int → mem → Prop} {i : Int} (hL : X.1 ≤ 3072) (ri : inR i) (h0 : 0 ≤ i) (h6 : i + 6 ≤ X.1) (hC : CI M) (hM : MI M) (K : ∀ M', CI M' → MI M' → At X w 181 694 [vs, vr 0, vr 856, vr 883, vi i] [] M' Q) : At X (w + 1) 181 648 [vs, vr 0, vr 856, vr 883, vi i] [] M Q := by
  refine at_aload dx_181_648 rfl ?_
  refine at_aloads dx_181_649 rfl ?_
  refine at_iload dx_181_650 rfl ?_
  refine at_const (x := 1) dx_181_651 rfl ?_
  refine at_addR dx_181_652 (by constructor <;> omega) (fun r652 => ?_)
  refine at_alds dx_181_653 hL (by first | omega | (simp (disch := omega) only [um_eq, um_k, um_j]; omega)) (by first | omega | (simp (disch := omega) only [um_eq, um_k, um_j]; omega)) ?_
  refine at_aloads dx_181_654 rfl ?_
  refine at_iload dx_181_655 rfl ?_
  refine at_const (x := 2) dx_181_656 rfl ?_
  refine at_addR dx_181_657 (by constructor <;> omega) (fun r657 => ?_)
  refine at_alds dx_181_658 hL (by first | omega | (simp (disch := omega) only [um_eq, um_k, um_j]; omega)) (by first | omega | (simp (disch := omega) only [um_eq, um_k, um_j]; omega)) ?_
  refine at_aload dx_181_659 rfl ?_
  refine at_callN1 dx_181_660 rfl rfl (l_comment (sI_R _ _) (sI_R _ _) hC hM) ?_
  rintro x660 M8 r660 ⟨C8, K8⟩
  refine at_istore dx_181_661 ?_
  refine at_aload dx_181_662 rfl ?_
  refine at_aloads dx_181_663 rfl ?_
  refine at_iload dx_181_664 rfl ?_
  refine at_const (x := 1) dx_181_665 rfl ?_
  refine at_addR dx_181_666 (by constructor <;> omega) (fun r666 => ?_)
  refine at_alds dx_181_667 hL (by first | omega | (simp (disch := omega) only [um_eq, um_k, um_j]; omega)) (by first | omega | (simp (disch := omega) only [um_eq, um_k, um_j]; omega)) ?_
  refine at_aloads dx_181_668 rfl ?_
  refine at_iload dx_181_669 rfl ?_
  refine at_const (x := 2) dx_181_670 rfl ?_
  refine at_addR dx_181_671 (by constructor <;> omega) (fun r671 => ?_)
  refine at_alds dx_181_672 hL (by first | omega | (simp (disch := omega) only [um_eq, um_k, um_j]; omega)) (by first | omega | (simp (disch := omega) only [um_eq, um_k, um_j]; omega)) ?_
  refine at_callVI dx_181_673 rfl lc_856 rfl (r_comment (sI_R _ _) (sI_R _ _) K8) ?_
  rintro x673 M9 r673 ⟨K9, f9⟩
  refine at_istore dx_181_674 ?_
  refine at_goto dx_181_675 ?_
  refine at_wk (ls := [vs, vr 0, vr 856, vr 883, vi i]) ⟨Or.inl rfl, Or.inl rfl, Or.inl rfl, Or.inl rfl, Or.inl rfl, trivial⟩ ?_
  exact K _ (CI_fr C8 f9) K9

set_option maxRecDepth 100000 in
set_option maxHeartbeats 4000000 in
theorem b_commentAt {X : scr} {w : Nat} {M : mem} {Q : Nat → sx_V Int → mem → Prop} {i : Int} (hL : X.1 ≤ 3072) (ri : inR i) (h0 : 0 ≤ i) (h6 : i + 6 ≤ X.1) (hC : CI M) (hM : MI M) (K : ∀ M', CI M' → MI M' → At X w 181 694 [vs, vr 0, vr 856, vr 883, vi i] [] M' Q) : At X (w + 1) 181 676 [vs, vr 0, vr 856, vr 883, vi i] [] M Q := by
  refine at_aload dx_181_676 rfl ?_
  refine at_aloads dx_181_677 rfl ?_
  refine at_iload dx_181_678 rfl ?_
  refine at_const (x := 1) dx_181_679 rfl ?_
  refine at_addR dx_181_680 (by constructor <;> omega) (fun r680 => ?_)
  refine at_alds dx_181_681 hL (by first | omega | (simp (disch := omega) only [um_eq, um_k, um_j]; omega)) (by first | omega | (simp (disch := omega) only [um_eq, um_k, um_j]; omega)) ?_
  refine at_aload dx_181_682 rfl ?_
  refine at_callN1 dx_181_683 rfl rfl (l_commentAt (sI_R _ _) hC hM) ?_
  rintro x683 M8 r683 ⟨C8, K8⟩
  refine at_istore dx_181_684 ?_
  refine at_aload dx_181_685 rfl ?_
  refine at_aloads dx_181_686 rfl ?_
  refine at_iload dx_181_687 rfl ?_
  refine at_const (x := 1) dx_181_688 rfl ?_
  refine at_addR dx_181_689 (by constructor <;> omega) (fun r689 => ?_)
  refine at_alds dx_181_690 hL (by first | omega | (simp (disch := omega) only [um_eq, um_k, um_j]; omega)) (by first | omega | (simp (disch := omega) only [um_eq, um_k, um_j]; omega)) ?_
  refine at_callVI dx_181_691 rfl lc_856 rfl (r_commentAt (sI_R _ _) K8) ?_
  rintro x691 M9 r691 ⟨K9, f9⟩
  refine at_istore dx_181_692 ?_
  refine at_goto dx_181_693 ?_
  refine at_wk (ls := [vs, vr 0, vr 856, vr 883, vi i]) ⟨Or.inl rfl, Or.inl rfl, Or.inl rfl, Or.inl rfl, Or.inl rfl, trivial⟩ ?_
  exact K _ (CI_fr C8 f9) K9

theorem law_head {X : scr} {w : Nat} {M : mem} {Q : Nat → sx_V Int → mem → Prop} {i : Int} (hL : X.1 ≤ 3072) (ri : inR i) (K1 : i + 6 ≤ X.1 → At X w 181 19 [vs, vr 0, vr 856, vr 883, vi i] [] M Q) (K2 : At X w 181 696 [vs, vr 0, vr 856, vr 883, vi i] [] M Q) : At X w 181 13 [vs, vr 0, vr 856, vr 883, vi i] [] M Q := by
  refine at_iload dx_181_13 rfl ?_
  refine at_aloads dx_181_14 rfl ?_
  refine at_alens dx_181_15 hL ?_
  refine at_const (x := 6) dx_181_16 rfl ?_
  refine at_subR dx_181_17 (by constructor <;> omega) (fun r17 => ?_)
  refine at_cgtR dx_181_18 ri r17 (fun c18 => ?_) (fun c18 => ?_)
  · skip
    exact K2
  · skip
    exact K1 (by omega)

theorem law_key {X : scr} {w : Nat} {M : mem} {Q : Nat → sx_V Int → mem → Prop} {i : Int} (hL : X.1 ≤ 3072) (h0 : 0 ≤ i) (h6 : i + 6 ≤ X.1) (K : At X w 181 24 [vs, vr 0, vr 856, vr 883, vi i] [vi (ii_and (sI X i) 31)] M Q) : At X w 181 19 [vs, vr 0, vr 856, vr 883, vi i] [] M Q := by
  refine at_aloads dx_181_19 rfl ?_
  refine at_iload dx_181_20 rfl ?_
  refine at_alds dx_181_21 hL (by first | omega | (simp (disch := omega) only [um_eq, um_k, um_j]; omega)) (by first | omega | (simp (disch := omega) only [um_eq, um_k, um_j]; omega)) ?_
  refine at_const (x := 31) dx_181_22 rfl ?_
  refine at_and dx_181_23 ?_
  exact K

theorem sw_0 : swt 181 24 0 = 25 := by decide +kernel
theorem sw_1 : swt 181 24 1 = 71 := by decide +kernel
theorem sw_2 : swt 181 24 2 = 109 := by decide +kernel
theorem sw_3 : swt 181 24 3 = 147 := by decide +kernel
theorem sw_4 : swt 181 24 4 = 175 := by decide +kernel
theorem sw_5 : swt 181 24 5 = 203 := by decide +kernel
theorem sw_6 : swt 181 24 6 = 251 := by decide +kernel
theorem sw_7 : swt 181 24 7 = 279 := by decide +kernel
theorem sw_8 : swt 181 24 8 = 317 := by decide +kernel
theorem sw_9 : swt 181 24 9 = 383 := by decide +kernel
theorem sw_10 : swt 181 24 10 = 421 := by decide +kernel
theorem sw_11 : swt 181 24 11 = 449 := by decide +kernel
theorem sw_12 : swt 181 24 12 = 467 := by decide +kernel
theorem sw_13 : swt 181 24 13 = 495 := by decide +kernel
theorem sw_14 : swt 181 24 14 = 513 := by decide +kernel
theorem sw_15 : swt 181 24 15 = 531 := by decide +kernel
theorem sw_16 : swt 181 24 16 = 549 := by decide +kernel
theorem sw_17 : swt 181 24 17 = 567 := by decide +kernel
theorem sw_18 : swt 181 24 18 = 574 := by decide +kernel
theorem sw_19 : swt 181 24 19 = 592 := by decide +kernel
theorem sw_20 : swt 181 24 20 = 620 := by decide +kernel
theorem sw_21 : swt 181 24 21 = 648 := by decide +kernel
theorem sw_22 : swt 181 24 22 = 676 := by decide +kernel
theorem law_end {X : scr} {w : Nat} {M : mem} {ls : List (sx_V Int)} : At X w 181 696 ls [] M (qI (fun x _ => x = 1)) := by
  refine at_const (x := 1) dx_181_696 rfl ?_
  exact at_zretI dx_181_697 (Or.inr rfl) rfl
set_option maxHeartbeats 4000000 in
theorem law_loop {X : scr} (hL : X.1 ≤ 3072) : ∀ (r : Nat) (M : mem) (i : Int), 0 ≤ i → i ≤ X.1 → (X.1 : Int) ≤ i + 6 * r + 5 → CI M → MI M → At X r 181 13 [vs, vr 0, vr 856, vr 883, vi i] [] M (qI (fun x _ => x = 1)) := by
  intro r
  induction r with
  | zero =>
    intro M i h0 hi h5 hC hM
    exact law_head hL ⟨by omega, by omega⟩ (fun h6 => absurd h6 (by omega)) law_end
  | succ r ih =>
    intro M i h0 hi h5 hC hM
    have ri : inR i := ⟨by omega, by omega⟩
    refine law_head hL ri (fun h6 => ?_) law_end
    have K : ∀ M', CI M' → MI M' → At X r 181 694 [vs, vr 0, vr 856, vr 883, vi i] [] M' (qI (fun x _ => x = 1)) := fun M' C' K' => by
      refine at_iincR (y := 6) dx_181_694 rfl rfl ⟨by omega, by omega⟩ (fun r6 => ?_)
      refine at_goto dx_181_695 ?_
      exact ih M' (i + 6) (by omega) (by omega) (by omega) C' K'
    refine law_key hL h0 h6 ?_
    obtain ⟨a1, a2⟩ := and31 (sI X i)
    generalize ii_and (sI X i) 31 = v at a1 a2
    obtain ⟨n, rfl⟩ : ∃ n : Nat, v = n := ⟨v.toNat, by omega⟩
    refine at_switch dx_181_24 rfl (by omega) (fun hn => ?_) (fun hn => At.up (K M hC hM))
    rcases (show n = 0 ∨ n = 1 ∨ n = 2 ∨ n = 3 ∨ n = 4 ∨ n = 5 ∨ n = 6 ∨ n = 7 ∨ n = 8 ∨ n = 9 ∨ n = 10 ∨ n = 11 ∨ n = 12 ∨ n = 13 ∨ n = 14 ∨ n = 15 ∨ n = 16 ∨ n = 17 ∨ n = 18 ∨ n = 19 ∨ n = 20 ∨ n = 21 ∨ n = 22 by omega) with rfl | rfl | rfl | rfl | rfl | rfl | rfl | rfl | rfl | rfl | rfl | rfl | rfl | rfl | rfl | rfl | rfl | rfl | rfl | rfl | rfl | rfl | rfl
    · rw [sw_0]; exact b_rule hL ri h0 h6 hC hM K
    · rw [sw_1]; exact b_type hL ri h0 h6 hC hM K
    · rw [sw_2]; exact b_erase hL ri h0 h6 hC hM K
    · rw [sw_3]; exact b_split hL ri h0 h6 hC hM K
    · rw [sw_4]; exact b_join hL ri h0 h6 hC hM K
    · rw [sw_5]; exact b_wrap hL ri h0 h6 hC hM K
    · rw [sw_6]; exact b_unwrap hL ri h0 h6 hC hM K
    · rw [sw_7]; exact b_setType hL ri h0 h6 hC hM K
    · rw [sw_8]; exact b_mark hL ri h0 h6 hC hM K
    · rw [sw_9]; exact b_copy hL ri h0 h6 hC hM K
    · rw [sw_10]; exact b_paste hL ri h0 h6 hC hM K
    · rw [sw_11]; exact b_takeBack hL ri h0 h6 hC hM K
    · rw [sw_12]; exact b_revert hL ri h0 h6 hC hM K
    · rw [sw_13]; exact b_send hL ri h0 h6 hC hM K
    · rw [sw_14]; exact b_receive hL ri h0 h6 hC hM K
    · rw [sw_15]; exact b_lost hL ri h0 h6 hC hM K
    · rw [sw_16]; exact b_version hL ri h0 h6 hC hM K
    · rw [sw_17]; exact b_isBuilt hL ri h0 h6 hC hM K
    · rw [sw_18]; exact b_size hL ri h0 h6 hC hM K
    · rw [sw_19]; exact b_token hL ri h0 h6 hC hM K
    · rw [sw_20]; exact b_around hL ri h0 h6 hC hM K
    · rw [sw_21]; exact b_comment hL ri h0 h6 hC hM K
    · rw [sw_22]; exact b_commentAt hL ri h0 h6 hC hM K
